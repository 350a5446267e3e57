section
-- ===== PART A: goes FIRST, ahead of the names: the tables' words, and 'selects' of the private methods out of them =====
/-- a private method of a class that the tables say can be made, by its rows of tables_1 -/
def lw_okq (q : MethodName × Nat) : Prop := (q.1.cls ≠ "java/lang/invoke/MethodHandle" ∧ q.1.cls ≠ "java/lang/invoke/VarHandle") ∧ Cond.instantiable q.1.cls q.2 ∈ tables_1 ∧ Cond.privateMethod q.1 ∈ tables_1 ∧ Cond.instanceMethod q.1 ∈ tables_1
theorem lw_p0 : lw_okq (⟨"MotionLab$Plane", "pullByField", "(I)V"⟩, 3) := ⟨⟨by decide +kernel, by decide +kernel⟩, List.mem_of_getElem? (i := 18) (by decide +kernel), List.mem_of_getElem? (i := 171) (by decide +kernel), List.mem_of_getElem? (i := 172) (by decide +kernel)⟩
theorem lw_p1 : lw_okq (⟨"MotionLab$Plane", "pullBySpring", "(I)V"⟩, 3) := ⟨⟨by decide +kernel, by decide +kernel⟩, List.mem_of_getElem? (i := 18) (by decide +kernel), List.mem_of_getElem? (i := 204) (by decide +kernel), List.mem_of_getElem? (i := 205) (by decide +kernel)⟩
theorem lw_p2 : lw_okq (⟨"MotionLab$Plane", "move", "(I)V"⟩, 3) := ⟨⟨by decide +kernel, by decide +kernel⟩, List.mem_of_getElem? (i := 18) (by decide +kernel), List.mem_of_getElem? (i := 251) (by decide +kernel), List.mem_of_getElem? (i := 252) (by decide +kernel)⟩
theorem lw_p3 : lw_okq (⟨"MotionLab$Plane", "afterDt", "(JJ)J"⟩, 3) := ⟨⟨by decide +kernel, by decide +kernel⟩, List.mem_of_getElem? (i := 18) (by decide +kernel), List.mem_of_getElem? (i := 255) (by decide +kernel), List.mem_of_getElem? (i := 256) (by decide +kernel)⟩
theorem lw_p4 : lw_okq (⟨"MotionLab$Plane", "keepInside", "(II)V"⟩, 3) := ⟨⟨by decide +kernel, by decide +kernel⟩, List.mem_of_getElem? (i := 18) (by decide +kernel), List.mem_of_getElem? (i := 259) (by decide +kernel), List.mem_of_getElem? (i := 260) (by decide +kernel)⟩
theorem lw_p5 : lw_okq (⟨"MotionLab$Plane", "collide", "(II)V"⟩, 3) := ⟨⟨by decide +kernel, by decide +kernel⟩, List.mem_of_getElem? (i := 18) (by decide +kernel), List.mem_of_getElem? (i := 266) (by decide +kernel), List.mem_of_getElem? (i := 267) (by decide +kernel)⟩
theorem lw_p6 : lw_okq (⟨"MotionLab$Plane", "energyOfMotion", "(I)J"⟩, 3) := ⟨⟨by decide +kernel, by decide +kernel⟩, List.mem_of_getElem? (i := 18) (by decide +kernel), List.mem_of_getElem? (i := 373) (by decide +kernel), List.mem_of_getElem? (i := 374) (by decide +kernel)⟩
theorem lw_p7 : lw_okq (⟨"MotionLab$Plane", "energyOfPlace", "(I)J"⟩, 3) := ⟨⟨by decide +kernel, by decide +kernel⟩, List.mem_of_getElem? (i := 18) (by decide +kernel), List.mem_of_getElem? (i := 378) (by decide +kernel), List.mem_of_getElem? (i := 379) (by decide +kernel)⟩
theorem lw_p8 : lw_okq (⟨"MotionLab$Plane", "energyOfSpring", "(I)J"⟩, 3) := ⟨⟨by decide +kernel, by decide +kernel⟩, List.mem_of_getElem? (i := 18) (by decide +kernel), List.mem_of_getElem? (i := 382) (by decide +kernel), List.mem_of_getElem? (i := 383) (by decide +kernel)⟩
theorem lw_p9 : lw_okq (⟨"MotionLabModel", "once", "()V"⟩, 21) := ⟨⟨by decide +kernel, by decide +kernel⟩, List.mem_of_getElem? (i := 413) (by decide +kernel), List.mem_of_getElem? (i := 567) (by decide +kernel), List.mem_of_getElem? (i := 568) (by decide +kernel)⟩
theorem lw_p10 : lw_okq (⟨"MotionLabModel", "pull", "(I)V"⟩, 21) := ⟨⟨by decide +kernel, by decide +kernel⟩, List.mem_of_getElem? (i := 413) (by decide +kernel), List.mem_of_getElem? (i := 601) (by decide +kernel), List.mem_of_getElem? (i := 602) (by decide +kernel)⟩
theorem lw_p11 : lw_okq (⟨"MotionLabModel", "distance", "(I)J"⟩, 21) := ⟨⟨by decide +kernel, by decide +kernel⟩, List.mem_of_getElem? (i := 413) (by decide +kernel), List.mem_of_getElem? (i := 605) (by decide +kernel), List.mem_of_getElem? (i := 606) (by decide +kernel)⟩
theorem lw_p12 : lw_okq (⟨"MotionLabModel", "go", "([J[J[JI)V"⟩, 21) := ⟨⟨by decide +kernel, by decide +kernel⟩, List.mem_of_getElem? (i := 413) (by decide +kernel), List.mem_of_getElem? (i := 632) (by decide +kernel), List.mem_of_getElem? (i := 633) (by decide +kernel)⟩
theorem lw_p13 : lw_okq (⟨"MotionLabModel", "hit", "(II)V"⟩, 21) := ⟨⟨by decide +kernel, by decide +kernel⟩, List.mem_of_getElem? (i := 413) (by decide +kernel), List.mem_of_getElem? (i := 636) (by decide +kernel), List.mem_of_getElem? (i := 637) (by decide +kernel)⟩
theorem lw_p14 : lw_okq (⟨"MotionLabModel", "number", "(II)J"⟩, 21) := ⟨⟨by decide +kernel, by decide +kernel⟩, List.mem_of_getElem? (i := 413) (by decide +kernel), List.mem_of_getElem? (i := 644) (by decide +kernel), List.mem_of_getElem? (i := 645) (by decide +kernel)⟩
def lw_privs_1 : List (MethodName × Nat) := [(⟨"MotionLab$Plane", "pullByField", "(I)V"⟩, 3), (⟨"MotionLab$Plane", "pullBySpring", "(I)V"⟩, 3), (⟨"MotionLab$Plane", "move", "(I)V"⟩, 3), (⟨"MotionLab$Plane", "afterDt", "(JJ)J"⟩, 3), (⟨"MotionLab$Plane", "keepInside", "(II)V"⟩, 3), (⟨"MotionLab$Plane", "collide", "(II)V"⟩, 3), (⟨"MotionLab$Plane", "energyOfMotion", "(I)J"⟩, 3), (⟨"MotionLab$Plane", "energyOfPlace", "(I)J"⟩, 3), (⟨"MotionLab$Plane", "energyOfSpring", "(I)J"⟩, 3), (⟨"MotionLabModel", "once", "()V"⟩, 21), (⟨"MotionLabModel", "pull", "(I)V"⟩, 21), (⟨"MotionLabModel", "distance", "(I)J"⟩, 21), (⟨"MotionLabModel", "go", "([J[J[JI)V"⟩, 21), (⟨"MotionLabModel", "hit", "(II)V"⟩, 21), (⟨"MotionLabModel", "number", "(II)J"⟩, 21)]
theorem lw_r1 : ∀ q ∈ lw_privs_1, lw_okq q := List.forall_mem_cons.mpr ⟨lw_p0, List.forall_mem_cons.mpr ⟨lw_p1, List.forall_mem_cons.mpr ⟨lw_p2, List.forall_mem_cons.mpr ⟨lw_p3, List.forall_mem_cons.mpr ⟨lw_p4, List.forall_mem_cons.mpr ⟨lw_p5, List.forall_mem_cons.mpr ⟨lw_p6, List.forall_mem_cons.mpr ⟨lw_p7, List.forall_mem_cons.mpr ⟨lw_p8, List.forall_mem_cons.mpr ⟨lw_p9, List.forall_mem_cons.mpr ⟨lw_p10, List.forall_mem_cons.mpr ⟨lw_p11, List.forall_mem_cons.mpr ⟨lw_p12, List.forall_mem_cons.mpr ⟨lw_p13, List.forall_mem_cons.mpr ⟨lw_p14, fun _ h => absurd h List.not_mem_nil⟩⟩⟩⟩⟩⟩⟩⟩⟩⟩⟩⟩⟩⟩⟩
def lw_privs : List (MethodName × Nat) := lw_privs_1
def lw_tbl : List Cond := k2_sels lw_privs ++ tables_1
theorem lw_privs_ok : ∀ q ∈ lw_privs, lw_okq q := lw_r1
/-! OUR OWN ROWS: words of any method (its own code, then all that the tables say), pure methods (no cell is touched), the reference's three tables -/
def lw_g : List Cond := lw_tbl.filter goodWord
def gw (y : MethodName) (b : ByteArray) (n : Nat) (r : Option FieldType) : List Cond := .code y b n r :: lw_g
theorem gm {w : Cond} {y : MethodName} {b : ByteArray} {n : Nat} {r : Option FieldType} (h : w ∈ lw_g) : w ∈ gw y b n r := List.mem_cons_of_mem _ h
theorem gw_good {w : Cond} (h : w ∈ lw_g) : (w.onTables && w.keeps) = true ∨ ∃ ty, w = .arrayClass ty := good_of_word (List.mem_filter.mp h).2
theorem gw_in {y y2 : MethodName} {b b2 : ByteArray} {n n2 : Nat} {r r2 : Option FieldType} (h : Cond.code y b n r ∈ lw_g) : GoodIn (gw y2 b2 n2 r2) (gw y b n r) := by
  intro w hw
  rcases List.mem_cons.mp hw with e | hw
  · rw [e]; exact ⟨gm h, gw_good h⟩
  · exact ⟨gm hw, gw_good hw⟩
theorem gw_call {R : Room} {s : State} {args : Array Value} {own : String} {index k : Nat} {y y2 : MethodName} {b b2 : ByteArray} {n n2 : Nat} {r r2 : Option FieldType} {rm : Room}
    (hts : ∀ w ∈ gw y2 b2 n2 r2, w.before args s = true) (h1 : Cond.methodLink own index y ∈ lw_g) (h2 : Cond.static y ∈ lw_g) (h3 : Cond.initialized y.cls ∈ lw_g) (h4 : Cond.code y b n r ∈ lw_g)
    (hd : y.cls ≠ "java/lang/invoke/MethodHandle" ∧ y.cls ≠ "java/lang/invoke/VarHandle" ∧ (parseMethodDescriptor y.desc).map (fun d => d.parameters.length) = some k) (hc : rm.cells = 0) (hs : rm.slots = 0) (hR : rm.frames + 1 ≤ R.frames ∧ 8 + (n + 11) + rm.locals ≤ R.locals) :
    CallB R s args own index y b n r (gw y b n r) rm 0 0 k ∧ (Cond.static y).before args s = true := by
  refine va_cwS k hts (fun w hw => ?_) rfl hc hs hd hR
  unfold va_wsS at hw
  rcases List.mem_append.mp hw with hw | hw
  · rcases List.mem_cons.mp hw with e | hw
    · rw [e]; exact ⟨gm h1, gw_good h1⟩
    · rcases List.mem_cons.mp hw with e | hw
      · rw [e]; exact ⟨gm h2, gw_good h2⟩
      · rcases List.mem_cons.mp hw with e | hw
        · rw [e]; exact ⟨gm h3, gw_good h3⟩
        · cases hw
  · exact gw_in h4 w hw
theorem gw_callV {R : Room} {s : State} {args : Array Value} {own : String} {index k : Nat} {y y2 : MethodName} {b b2 : ByteArray} {n n2 : Nat} {r r2 : Option FieldType} {rm : Room}
    (hts : ∀ w ∈ gw y2 b2 n2 r2, w.before args s = true) (h1 : Cond.methodLink own index y ∈ lw_g) (h2 : Cond.instanceMethod y ∈ lw_g) (h3 : Cond.selects y.cls y y ∈ lw_g) (h5 : Cond.initialized y.cls ∈ lw_g) (h4 : Cond.code y b n r ∈ lw_g)
    (hd : y.cls ≠ "java/lang/invoke/MethodHandle" ∧ y.cls ≠ "java/lang/invoke/VarHandle" ∧ (parseMethodDescriptor y.desc).map (fun d => d.parameters.length) = some k) (hc : rm.cells = 0) (hs : rm.slots = 0) (hR : rm.frames + 1 ≤ R.frames ∧ 8 + (n + 11) + rm.locals ≤ R.locals) :
    CallW R s args own y.cls index y b n r (gw y b n r) rm 0 0 k := by
  refine cwV k hts (fun w hw => ?_) rfl hc hs ⟨rfl, hd⟩ hR
  unfold wsV at hw
  rcases List.mem_append.mp hw with hw | hw
  · rcases List.mem_cons.mp hw with e | hw
    · rw [e]; exact ⟨gm h1, gw_good h1⟩
    · rcases List.mem_cons.mp hw with e | hw
      · rw [e]; exact ⟨gm h2, gw_good h2⟩
      · rcases List.mem_cons.mp hw with e | hw
        · rw [e]; exact ⟨gm h3, gw_good h3⟩
        · rcases List.mem_cons.mp hw with e | hw
          · rw [e]; exact ⟨gm h5, gw_good h5⟩
          · cases hw
  · exact gw_in h4 w hw
/-- what a walk of a method holds all the way -/
def pu_C (p : Program) (s : State) (m : MethodId) (args : Array Value) (meth : Method) (c : Code) (cc : ByteArray) (n : Nat) (own : String) (ret : Option FieldType) (ws : List Cond) : Prop :=
  p.tables.exec = Jvm.exec ∧ c.code = cc ∧ c.maxLocals = n ∧ s.vm.findClass own = some m.cls ∧ (∀ w ∈ ws, w.before args s = true) ∧ meth.sig.returnType = ret ∧ meth.locks = false
def pu_Pc (av : List Value) (h : Heap) : Array Value → State → Prop := va_Pc av (fun U => U.heap = h)
def pu_Ml (w : Int64) (h : Heap) : Array Value → State → Outcome → State → Prop := va_Ql (fun r (_ : Unit) => r = w) (fun _ t => t.heap = h) (fun _ => False)
def pu_Mi (w : Int32) (h : Heap) : Array Value → State → Outcome → State → Prop := va_Qi (fun r (_ : Unit) => r = w) (fun _ t => t.heap = h) (fun _ => False)
abbrev pu_Ql (w : Int64) (below : List Frame) (args : Array Value) (s : State) : State → Prop := MQ below (pu_Ml w s.heap) args s 0 0 (fun _ => False)
abbrev pu_Qi (w : Int32) (below : List Frame) (args : Array Value) (s : State) : State → Prop := MQ below (pu_Mi w s.heap) args s 0 0 (fun _ => False)
def RTH (t0 t1 t2 : Nat) (U : State) (H : Heap) : Prop :=
  (va_Z "MotionLabModel" "PLACES" "[I" (.ref t0) (fun _ => False) U H ∧ va_T .int t0 2 (fun j => .int (if j = 0 then 53 else 24)) (fun _ => False) U H) ∧
  (va_Z "MotionLabModel" "LEAST" "[I" (.ref t1) (fun _ => False) U H ∧ va_T .int t1 2 (fun j => .int (if j = 0 then (-1074) else (-149))) (fun _ => False) U H) ∧
  (va_Z "MotionLabModel" "GREATEST" "[I" (.ref t2) (fun _ => False) U H ∧ va_T .int t2 2 (fun j => .int (if j = 0 then 971 else 104)) (fun _ => False) U H)
theorem RTH.moved {t0 t1 t2 : Nat} {u U : State} {H : Heap} (hvm : u.vm.Alike U.vm) (h : RTH t0 t1 t2 u H) : RTH t0 t1 t2 U H :=
  ⟨⟨va_Z.moved hvm h.1.1, va_T.moved hvm h.1.2⟩, ⟨va_Z.moved hvm h.2.1.1, va_T.moved hvm h.2.1.2⟩, ⟨va_Z.moved hvm h.2.2.1, va_T.moved hvm h.2.2.2⟩⟩
def tP_at (k : Int32) : Int32 := if k.toNatClampNeg = 0 then 53 else 24
def tL_at (k : Int32) : Int32 := if k.toNatClampNeg = 0 then (-1074) else (-149)
def tG_at (k : Int32) : Int32 := if k.toNatClampNeg = 0 then 971 else 104
def pr_Pc (av : List Value) (h : Heap) (t0 t1 t2 : Nat) : Array Value → State → Prop := va_Pc av (fun U => U.heap = h ∧ RTH t0 t1 t2 U U.heap)
theorem pu_pre {s : State} {H : Heap} {As : List Value} : PreS s H (pu_Pc As H) As := ⟨fun _ _ _ _ q => ⟨q.1, q.2⟩, fun _ hU _ => ⟨rfl, hU⟩⟩
theorem pr_pre {s : State} {H : Heap} {As : List Value} {t0 t1 t2 : Nat} (h : RTH t0 t1 t2 s H) : PreS s H (pr_Pc As H t0 t1 t2) As :=
  ⟨fun a U g mk q => ⟨q.1, q.2.1, RTH.moved (u := U) (U := U.calling g mk a) (Vm.Alike.refl U.vm) q.2.2⟩, fun U hU hW => ⟨rfl, hU, by rw [hU]; exact RTH.moved hW.alike h⟩⟩
def j_shl (x : Int64) (y : Int32) : Int64 := x <<< (y.toInt64 &&& 63)
def j_shr (x : Int64) (y : Int32) : Int64 := x >>> (y.toInt64 &&& 63)
def j_ushr (x : Int64) (y : Int32) : Int64 := (x.toUInt64 >>> (y.toInt64.toUInt64 &&& Int64.toUInt64 63)).toInt64
def j_iushr (x y : Int32) : Int32 := (x.toUInt32 >>> (y.toUInt32 &&& Int32.toUInt32 31)).toInt32
theorem sw_out {x : Int32} {lo hi : Int} (h : ∀ j : Int, lo ≤ j → j ≤ hi → ¬ x.toInt = j) : x.toInt < lo ∨ hi < x.toInt := by
  rcases Int.lt_or_le x.toInt lo with h1 | h1
  · exact Or.inl h1
  · rcases Int.lt_or_le hi x.toInt with h2 | h2
    · exact Or.inr h2
    · exact absurd rfl (h _ h1 h2)
section PU
variable {p : Program} {l : Launch} {e : Env} {R : Room} {s : State} {m : MethodId} {args : Array Value} {below : List Frame} {meth : Method} {c : Code}
variable {cc : ByteArray} {pc : Nat} {ls : Array Slot}
theorem pu_lret (hx : p.tables.exec = Jvm.exec) (hb : c.code = cc) (hr : meth.sig.returnType = some .long) (hlocks : meth.locks = false) (hdg : decode cc pc = .ok (.lreturn, 1)) {v w : Int64} (hv : v = w) :
    W p l e R s m args below meth c s.heap [] 0 0 (pu_Ql w below args s) (F0 m pc ls [.long v]) := by
  subst hv
  exact W.lret hx hb hr (fun t ht _ => ⟨⟨v, (), rfl, rfl, ht⟩, ⟨by rw [ht]; exact Nat.le_refl _, fun q _ _ => by rw [ht]⟩⟩) (fun q h => by cases h) hdg hlocks
theorem pu_iret (hx : p.tables.exec = Jvm.exec) (hb : c.code = cc) (hr : meth.sig.returnType = some .int) (hlocks : meth.locks = false) (hdg : decode cc pc = .ok (.ireturn, 1)) {v w : Int32} (hv : v = w) :
    W p l e R s m args below meth c s.heap [] 0 0 (pu_Qi w below args s) (F0 m pc ls [.int v]) := by
  subst hv
  exact W.iret hx hb hr (fun t ht _ => ⟨⟨v, (), rfl, rfl, ht⟩, ⟨by rw [ht]; exact Nat.le_refl _, fun q _ _ => by rw [ht]⟩⟩) (fun q h => by cases h) hdg hlocks
theorem pu_zret (hx : p.tables.exec = Jvm.exec) (hb : c.code = cc) (hr : meth.sig.returnType = some .boolean) {v w : Int32} (hn : narrow .boolean (.int v) = .int v) (hlocks : meth.locks = false) (hdg : decode cc pc = .ok (.ireturn, 1)) (hv : v = w) :
    W p l e R s m args below meth c s.heap [] 0 0 (pu_Qi w below args s) (F0 m pc ls [.int v]) := by
  subst hv
  exact W.zret hx hb hr hn (fun t ht _ => ⟨⟨v, (), rfl, rfl, ht⟩, ⟨by rw [ht]; exact Nat.le_refl _, fun q _ _ => by rw [ht]⟩⟩) (fun q h => by cases h) hdg hlocks
variable {H : Heap} {locs : List Loc} {cells slots : Nat} {Q : State → Prop} {Ts ws : List Cond} {own : String} {y : MethodName} {bytes : ByteArray} {maxL nL n index : Nat} {ret : Option FieldType} {rm : Room} {Pc : Array Value → State → Prop} {As rest st0 : List Value}
/-- a pure method is called: nothing but the stack changes -/
theorem pu_l {v : Int64} (S0 : CallFix p m c cc nL s args Ts own) (hM : Met l y ws rm Pc (pu_Ml v H) 0 0 (fun _ => False)) (hp : PreS s H Pc As) (cw : CallB R s args own index y bytes maxL ret ws rm 0 0 n ∧ (Cond.static y).before args s = true)
    (hn : As.length = n) (hsize : ls.size = nL) (hstack : st0 = As.reverse ++ rest) (hW : (rest.map fun v => v.category).sum ≤ 8) (hf : cells ≤ R.cells ∧ slots ≤ R.slots) (hdg : decode cc pc = .ok (.invokestatic index, 3))
    (k : W p l e R s m args below meth c H locs cells slots Q (F0 m (pc + 3) ls (.long v :: rest))) : W p l e R s m args below meth c H locs cells slots Q (F0 m pc ls st0) := by
  intro T hT X
  obtain ⟨w, st₀, t, T', L, h0, X', hL, e1, e2, ⟨⟨r, u, hv, hp1, hb1⟩, hz, hk⟩, st⟩ := va_runS (g := F0 m pc ls st0) S0 hM cw hp rfl hn hsize hstack (lv_room hW) hdg hf T hT X
  cases hv
  subst hp1
  have hLn : L = [] := by
    cases L with
    | nil => rfl
    | cons q L => exact (hL q List.mem_cons_self).elim
  subst hLn
  rw [List.append_nil] at X'
  obtain ⟨t2, a1, b1⟩ := k T' (by rw [e1]; exact hb1) X'
  exact ⟨t2, st t2 a1, b1⟩
theorem pu_i {v : Int32} (S0 : CallFix p m c cc nL s args Ts own) (hM : Met l y ws rm Pc (pu_Mi v H) 0 0 (fun _ => False)) (hp : PreS s H Pc As) (cw : CallB R s args own index y bytes maxL ret ws rm 0 0 n ∧ (Cond.static y).before args s = true)
    (hn : As.length = n) (hsize : ls.size = nL) (hstack : st0 = As.reverse ++ rest) (hW : (rest.map fun v => v.category).sum ≤ 8) (hf : cells ≤ R.cells ∧ slots ≤ R.slots) (hdg : decode cc pc = .ok (.invokestatic index, 3))
    (k : W p l e R s m args below meth c H locs cells slots Q (F0 m (pc + 3) ls (.int v :: rest))) : W p l e R s m args below meth c H locs cells slots Q (F0 m pc ls st0) := by
  intro T hT X
  obtain ⟨w, st₀, t, T', L, h0, X', hL, e1, e2, ⟨⟨r, u, hv, hp1, hb1⟩, hz, hk⟩, st⟩ := va_runS (g := F0 m pc ls st0) S0 hM cw hp rfl hn hsize hstack (lv_room hW) hdg hf T hT X
  cases hv
  subst hp1
  have hLn : L = [] := by
    cases L with
    | nil => rfl
    | cons q L => exact (hL q List.mem_cons_self).elim
  subst hLn
  rw [List.append_nil] at X'
  obtain ⟨t2, a1, b1⟩ := k T' (by rw [e1]; exact hb1) X'
  exact ⟨t2, st t2 a1, b1⟩
end PU
end
section
theorem tw_1 : (Jvm.Cond.initialized "MotionLab") ∈ lw_g := List.mem_filter.mpr ⟨List.mem_append_right _ (List.mem_of_getElem? (i := 1) (by decide +kernel)), by decide +kernel⟩
theorem tw_4 : (Jvm.Cond.initialized "MotionLabModel") ∈ lw_g := List.mem_filter.mpr ⟨List.mem_append_right _ (List.mem_of_getElem? (i := 4) (by decide +kernel)), by decide +kernel⟩
theorem tw_5 : (Jvm.Cond.initialized "MotionLab$Ieee") ∈ lw_g := List.mem_filter.mpr ⟨List.mem_append_right _ (List.mem_of_getElem? (i := 5) (by decide +kernel)), by decide +kernel⟩
theorem tw_6 : (Jvm.Cond.initialized "java/lang/Math") ∈ lw_g := List.mem_filter.mpr ⟨List.mem_append_right _ (List.mem_of_getElem? (i := 6) (by decide +kernel)), by decide +kernel⟩
theorem tw_7 : (Jvm.Cond.initialized "java/lang/Long") ∈ lw_g := List.mem_filter.mpr ⟨List.mem_append_right _ (List.mem_of_getElem? (i := 7) (by decide +kernel)), by decide +kernel⟩
theorem tw_8 : (Jvm.Cond.initialized "java/lang/Integer") ∈ lw_g := List.mem_filter.mpr ⟨List.mem_append_right _ (List.mem_of_getElem? (i := 8) (by decide +kernel)), by decide +kernel⟩
theorem tw_79 : (Jvm.Cond.static ({ cls := "MotionLab$Ieee", name := "toFloat", desc := "(J)J" } : Jvm.MethodName)) ∈ lw_g := List.mem_filter.mpr ⟨List.mem_append_right _ (List.mem_of_getElem? (i := 79) (by decide +kernel)), by decide +kernel⟩
theorem tw_80 : (Jvm.Cond.code ({ cls := "MotionLab$Ieee", name := "toFloat", desc := "(J)J" } : Jvm.MethodName) prog_2_method_23_code (2 : Nat) (Option.some Jvm.ClassFile.FieldType.long)) ∈ lw_g := List.mem_filter.mpr ⟨List.mem_append_right _ (List.mem_of_getElem? (i := 80) (by decide +kernel)), by decide +kernel⟩
theorem tw_81 : (Jvm.Cond.methodLink "MotionLab$Ieee" (35 : Nat) ({ cls := "MotionLab$Ieee", name := "isFinite", desc := "(J)Z" } : Jvm.MethodName)) ∈ lw_g := List.mem_filter.mpr ⟨List.mem_append_right _ (List.mem_of_getElem? (i := 81) (by decide +kernel)), by decide +kernel⟩
theorem tw_82 : (Jvm.Cond.static ({ cls := "MotionLab$Ieee", name := "isFinite", desc := "(J)Z" } : Jvm.MethodName)) ∈ lw_g := List.mem_filter.mpr ⟨List.mem_append_right _ (List.mem_of_getElem? (i := 82) (by decide +kernel)), by decide +kernel⟩
theorem tw_83 : (Jvm.Cond.code ({ cls := "MotionLab$Ieee", name := "isFinite", desc := "(J)Z" } : Jvm.MethodName) prog_2_method_5_code (2 : Nat) (Option.some Jvm.ClassFile.FieldType.boolean)) ∈ lw_g := List.mem_filter.mpr ⟨List.mem_append_right _ (List.mem_of_getElem? (i := 83) (by decide +kernel)), by decide +kernel⟩
theorem tw_84 : (Jvm.Cond.constantLong "MotionLab$Ieee" (9 : Nat) (9223372036854775807 : Int64)) ∈ lw_g := List.mem_filter.mpr ⟨List.mem_append_right _ (List.mem_of_getElem? (i := 84) (by decide +kernel)), by decide +kernel⟩
theorem tw_85 : (Jvm.Cond.constantLong "MotionLab$Ieee" (11 : Nat) (9218868437227405312 : Int64)) ∈ lw_g := List.mem_filter.mpr ⟨List.mem_append_right _ (List.mem_of_getElem? (i := 85) (by decide +kernel)), by decide +kernel⟩
theorem tw_86 : (Jvm.Cond.methodLink "MotionLab$Ieee" (21 : Nat) ({ cls := "MotionLab$Ieee", name := "told", desc := "(J)J" } : Jvm.MethodName)) ∈ lw_g := List.mem_filter.mpr ⟨List.mem_append_right _ (List.mem_of_getElem? (i := 86) (by decide +kernel)), by decide +kernel⟩
theorem tw_87 : (Jvm.Cond.static ({ cls := "MotionLab$Ieee", name := "told", desc := "(J)J" } : Jvm.MethodName)) ∈ lw_g := List.mem_filter.mpr ⟨List.mem_append_right _ (List.mem_of_getElem? (i := 87) (by decide +kernel)), by decide +kernel⟩
theorem tw_88 : (Jvm.Cond.code ({ cls := "MotionLab$Ieee", name := "told", desc := "(J)J" } : Jvm.MethodName) prog_2_method_6_code (2 : Nat) (Option.some Jvm.ClassFile.FieldType.long)) ∈ lw_g := List.mem_filter.mpr ⟨List.mem_append_right _ (List.mem_of_getElem? (i := 88) (by decide +kernel)), by decide +kernel⟩
theorem tw_89 : (Jvm.Cond.methodLink "MotionLab$Ieee" (13 : Nat) ({ cls := "MotionLab$Ieee", name := "isNoNumber", desc := "(J)Z" } : Jvm.MethodName)) ∈ lw_g := List.mem_filter.mpr ⟨List.mem_append_right _ (List.mem_of_getElem? (i := 89) (by decide +kernel)), by decide +kernel⟩
theorem tw_90 : (Jvm.Cond.static ({ cls := "MotionLab$Ieee", name := "isNoNumber", desc := "(J)Z" } : Jvm.MethodName)) ∈ lw_g := List.mem_filter.mpr ⟨List.mem_append_right _ (List.mem_of_getElem? (i := 90) (by decide +kernel)), by decide +kernel⟩
theorem tw_91 : (Jvm.Cond.code ({ cls := "MotionLab$Ieee", name := "isNoNumber", desc := "(J)Z" } : Jvm.MethodName) prog_2_method_2_code (2 : Nat) (Option.some Jvm.ClassFile.FieldType.boolean)) ∈ lw_g := List.mem_filter.mpr ⟨List.mem_append_right _ (List.mem_of_getElem? (i := 91) (by decide +kernel)), by decide +kernel⟩
theorem tw_92 : (Jvm.Cond.constantLong "MotionLab$Ieee" (17 : Nat) (9221120237041090560 : Int64)) ∈ lw_g := List.mem_filter.mpr ⟨List.mem_append_right _ (List.mem_of_getElem? (i := 92) (by decide +kernel)), by decide +kernel⟩
theorem tw_93 : (Jvm.Cond.constantLong "MotionLab$Ieee" (19 : Nat) (-9223372036854775808 : Int64)) ∈ lw_g := List.mem_filter.mpr ⟨List.mem_append_right _ (List.mem_of_getElem? (i := 93) (by decide +kernel)), by decide +kernel⟩
theorem tw_94 : (Jvm.Cond.methodLink "MotionLab$Ieee" (41 : Nat) ({ cls := "MotionLab$Ieee", name := "power", desc := "(J)I" } : Jvm.MethodName)) ∈ lw_g := List.mem_filter.mpr ⟨List.mem_append_right _ (List.mem_of_getElem? (i := 94) (by decide +kernel)), by decide +kernel⟩
theorem tw_95 : (Jvm.Cond.static ({ cls := "MotionLab$Ieee", name := "power", desc := "(J)I" } : Jvm.MethodName)) ∈ lw_g := List.mem_filter.mpr ⟨List.mem_append_right _ (List.mem_of_getElem? (i := 95) (by decide +kernel)), by decide +kernel⟩
theorem tw_96 : (Jvm.Cond.code ({ cls := "MotionLab$Ieee", name := "power", desc := "(J)I" } : Jvm.MethodName) prog_2_method_31_code (3 : Nat) (Option.some Jvm.ClassFile.FieldType.int)) ∈ lw_g := List.mem_filter.mpr ⟨List.mem_append_right _ (List.mem_of_getElem? (i := 96) (by decide +kernel)), by decide +kernel⟩
theorem tw_97 : (Jvm.Cond.methodLink "MotionLab$Ieee" (124 : Nat) ({ cls := "java/lang/Math", name := "max", desc := "(II)I" } : Jvm.MethodName)) ∈ lw_g := List.mem_filter.mpr ⟨List.mem_append_right _ (List.mem_of_getElem? (i := 97) (by decide +kernel)), by decide +kernel⟩
theorem tw_98 : (Jvm.Cond.static ({ cls := "java/lang/Math", name := "max", desc := "(II)I" } : Jvm.MethodName)) ∈ lw_g := List.mem_filter.mpr ⟨List.mem_append_right _ (List.mem_of_getElem? (i := 98) (by decide +kernel)), by decide +kernel⟩
theorem tw_99 : (Jvm.Cond.code ({ cls := "java/lang/Math", name := "max", desc := "(II)I" } : Jvm.MethodName) prog_9_method_65_code (2 : Nat) (Option.some Jvm.ClassFile.FieldType.int)) ∈ lw_g := List.mem_filter.mpr ⟨List.mem_append_right _ (List.mem_of_getElem? (i := 99) (by decide +kernel)), by decide +kernel⟩
theorem tw_100 : (Jvm.Cond.methodLink "MotionLab$Ieee" (45 : Nat) ({ cls := "MotionLab$Ieee", name := "significand", desc := "(J)J" } : Jvm.MethodName)) ∈ lw_g := List.mem_filter.mpr ⟨List.mem_append_right _ (List.mem_of_getElem? (i := 100) (by decide +kernel)), by decide +kernel⟩
theorem tw_101 : (Jvm.Cond.static ({ cls := "MotionLab$Ieee", name := "significand", desc := "(J)J" } : Jvm.MethodName)) ∈ lw_g := List.mem_filter.mpr ⟨List.mem_append_right _ (List.mem_of_getElem? (i := 101) (by decide +kernel)), by decide +kernel⟩
theorem tw_102 : (Jvm.Cond.code ({ cls := "MotionLab$Ieee", name := "significand", desc := "(J)J" } : Jvm.MethodName) prog_2_method_30_code (4 : Nat) (Option.some Jvm.ClassFile.FieldType.long)) ∈ lw_g := List.mem_filter.mpr ⟨List.mem_append_right _ (List.mem_of_getElem? (i := 102) (by decide +kernel)), by decide +kernel⟩
theorem tw_103 : (Jvm.Cond.constantLong "MotionLab$Ieee" (120 : Nat) (4503599627370495 : Int64)) ∈ lw_g := List.mem_filter.mpr ⟨List.mem_append_right _ (List.mem_of_getElem? (i := 103) (by decide +kernel)), by decide +kernel⟩
theorem tw_104 : (Jvm.Cond.constantLong "MotionLab$Ieee" (122 : Nat) (4503599627370496 : Int64)) ∈ lw_g := List.mem_filter.mpr ⟨List.mem_append_right _ (List.mem_of_getElem? (i := 104) (by decide +kernel)), by decide +kernel⟩
theorem tw_105 : (Jvm.Cond.methodLink "MotionLab$Ieee" (94 : Nat) ({ cls := "MotionLab$Ieee", name := "nearestFloat", desc := "(JIJ)J" } : Jvm.MethodName)) ∈ lw_g := List.mem_filter.mpr ⟨List.mem_append_right _ (List.mem_of_getElem? (i := 105) (by decide +kernel)), by decide +kernel⟩
theorem tw_106 : (Jvm.Cond.static ({ cls := "MotionLab$Ieee", name := "nearestFloat", desc := "(JIJ)J" } : Jvm.MethodName)) ∈ lw_g := List.mem_filter.mpr ⟨List.mem_append_right _ (List.mem_of_getElem? (i := 106) (by decide +kernel)), by decide +kernel⟩
theorem tw_107 : (Jvm.Cond.code ({ cls := "MotionLab$Ieee", name := "nearestFloat", desc := "(JIJ)J" } : Jvm.MethodName) prog_2_method_34_code (8 : Nat) (Option.some Jvm.ClassFile.FieldType.long)) ∈ lw_g := List.mem_filter.mpr ⟨List.mem_append_right _ (List.mem_of_getElem? (i := 107) (by decide +kernel)), by decide +kernel⟩
theorem tw_108 : (Jvm.Cond.methodLink "MotionLab$Ieee" (126 : Nat) ({ cls := "java/lang/Long", name := "numberOfLeadingZeros", desc := "(J)I" } : Jvm.MethodName)) ∈ lw_g := List.mem_filter.mpr ⟨List.mem_append_right _ (List.mem_of_getElem? (i := 108) (by decide +kernel)), by decide +kernel⟩
theorem tw_109 : (Jvm.Cond.static ({ cls := "java/lang/Long", name := "numberOfLeadingZeros", desc := "(J)I" } : Jvm.MethodName)) ∈ lw_g := List.mem_filter.mpr ⟨List.mem_append_right _ (List.mem_of_getElem? (i := 109) (by decide +kernel)), by decide +kernel⟩
theorem tw_110 : (Jvm.Cond.code ({ cls := "java/lang/Long", name := "numberOfLeadingZeros", desc := "(J)I" } : Jvm.MethodName) prog_8_method_48_code (3 : Nat) (Option.some Jvm.ClassFile.FieldType.int)) ∈ lw_g := List.mem_filter.mpr ⟨List.mem_append_right _ (List.mem_of_getElem? (i := 110) (by decide +kernel)), by decide +kernel⟩
theorem tw_111 : (Jvm.Cond.methodLink "java/lang/Long" (308 : Nat) ({ cls := "java/lang/Integer", name := "numberOfLeadingZeros", desc := "(I)I" } : Jvm.MethodName)) ∈ lw_g := List.mem_filter.mpr ⟨List.mem_append_right _ (List.mem_of_getElem? (i := 111) (by decide +kernel)), by decide +kernel⟩
theorem tw_112 : (Jvm.Cond.static ({ cls := "java/lang/Integer", name := "numberOfLeadingZeros", desc := "(I)I" } : Jvm.MethodName)) ∈ lw_g := List.mem_filter.mpr ⟨List.mem_append_right _ (List.mem_of_getElem? (i := 112) (by decide +kernel)), by decide +kernel⟩
theorem tw_113 : (Jvm.Cond.code ({ cls := "java/lang/Integer", name := "numberOfLeadingZeros", desc := "(I)I" } : Jvm.MethodName) prog_7_method_47_code (2 : Nat) (Option.some Jvm.ClassFile.FieldType.int)) ∈ lw_g := List.mem_filter.mpr ⟨List.mem_append_right _ (List.mem_of_getElem? (i := 113) (by decide +kernel)), by decide +kernel⟩
theorem tw_114 : (Jvm.Cond.constant "java/lang/Integer" (264 : Nat) (65536 : Int32)) ∈ lw_g := List.mem_filter.mpr ⟨List.mem_append_right _ (List.mem_of_getElem? (i := 114) (by decide +kernel)), by decide +kernel⟩
theorem tw_115 : (Jvm.Cond.methodLink "MotionLab$Ieee" (52 : Nat) ({ cls := "MotionLab$Ieee", name := "nearest", desc := "(JIJ)J" } : Jvm.MethodName)) ∈ lw_g := List.mem_filter.mpr ⟨List.mem_append_right _ (List.mem_of_getElem? (i := 115) (by decide +kernel)), by decide +kernel⟩
theorem tw_116 : (Jvm.Cond.static ({ cls := "MotionLab$Ieee", name := "nearest", desc := "(JIJ)J" } : Jvm.MethodName)) ∈ lw_g := List.mem_filter.mpr ⟨List.mem_append_right _ (List.mem_of_getElem? (i := 116) (by decide +kernel)), by decide +kernel⟩
theorem tw_117 : (Jvm.Cond.code ({ cls := "MotionLab$Ieee", name := "nearest", desc := "(JIJ)J" } : Jvm.MethodName) prog_2_method_33_code (7 : Nat) (Option.some Jvm.ClassFile.FieldType.long)) ∈ lw_g := List.mem_filter.mpr ⟨List.mem_append_right _ (List.mem_of_getElem? (i := 117) (by decide +kernel)), by decide +kernel⟩
theorem tw_118 : (Jvm.Cond.methodLink "MotionLab$Ieee" (131 : Nat) ({ cls := "MotionLab$Ieee", name := "rounded", desc := "(JI)J" } : Jvm.MethodName)) ∈ lw_g := List.mem_filter.mpr ⟨List.mem_append_right _ (List.mem_of_getElem? (i := 118) (by decide +kernel)), by decide +kernel⟩
theorem tw_119 : (Jvm.Cond.static ({ cls := "MotionLab$Ieee", name := "rounded", desc := "(JI)J" } : Jvm.MethodName)) ∈ lw_g := List.mem_filter.mpr ⟨List.mem_append_right _ (List.mem_of_getElem? (i := 119) (by decide +kernel)), by decide +kernel⟩
theorem tw_120 : (Jvm.Cond.code ({ cls := "MotionLab$Ieee", name := "rounded", desc := "(JI)J" } : Jvm.MethodName) prog_2_method_35_code (10 : Nat) (Option.some Jvm.ClassFile.FieldType.long)) ∈ lw_g := List.mem_filter.mpr ⟨List.mem_append_right _ (List.mem_of_getElem? (i := 120) (by decide +kernel)), by decide +kernel⟩
theorem tw_121 : (Jvm.Cond.constantLong "MotionLab$Ieee" (134 : Nat) (5183643171103440896 : Int64)) ∈ lw_g := List.mem_filter.mpr ⟨List.mem_append_right _ (List.mem_of_getElem? (i := 121) (by decide +kernel)), by decide +kernel⟩
theorem tw_145 : (Jvm.Cond.constant "MotionLab$Ieee" (97 : Nat) (-2147483648 : Int32)) ∈ lw_g := List.mem_filter.mpr ⟨List.mem_append_right _ (List.mem_of_getElem? (i := 145) (by decide +kernel)), by decide +kernel⟩
theorem tw_146 : (Jvm.Cond.constant "MotionLab$Ieee" (98 : Nat) (2147483647 : Int32)) ∈ lw_g := List.mem_filter.mpr ⟨List.mem_append_right _ (List.mem_of_getElem? (i := 146) (by decide +kernel)), by decide +kernel⟩
theorem tw_147 : (Jvm.Cond.constant "MotionLab$Ieee" (99 : Nat) (2139095040 : Int32)) ∈ lw_g := List.mem_filter.mpr ⟨List.mem_append_right _ (List.mem_of_getElem? (i := 147) (by decide +kernel)), by decide +kernel⟩
theorem tw_148 : (Jvm.Cond.constant "MotionLab$Ieee" (100 : Nat) (8388607 : Int32)) ∈ lw_g := List.mem_filter.mpr ⟨List.mem_append_right _ (List.mem_of_getElem? (i := 148) (by decide +kernel)), by decide +kernel⟩
theorem tw_149 : (Jvm.Cond.constant "MotionLab$Ieee" (101 : Nat) (8388608 : Int32)) ∈ lw_g := List.mem_filter.mpr ⟨List.mem_append_right _ (List.mem_of_getElem? (i := 149) (by decide +kernel)), by decide +kernel⟩
theorem tw_175 : (Jvm.Cond.static ({ cls := "MotionLab$Ieee", name := "product", desc := "(JJ)J" } : Jvm.MethodName)) ∈ lw_g := List.mem_filter.mpr ⟨List.mem_append_right _ (List.mem_of_getElem? (i := 175) (by decide +kernel)), by decide +kernel⟩
theorem tw_176 : (Jvm.Cond.code ({ cls := "MotionLab$Ieee", name := "product", desc := "(JJ)J" } : Jvm.MethodName) prog_2_method_16_code (9 : Nat) (Option.some Jvm.ClassFile.FieldType.long)) ∈ lw_g := List.mem_filter.mpr ⟨List.mem_append_right _ (List.mem_of_getElem? (i := 176) (by decide +kernel)), by decide +kernel⟩
theorem tw_177 : (Jvm.Cond.methodLink "MotionLab$Ieee" (62 : Nat) ({ cls := "MotionLab$Ieee", name := "isZero", desc := "(J)Z" } : Jvm.MethodName)) ∈ lw_g := List.mem_filter.mpr ⟨List.mem_append_right _ (List.mem_of_getElem? (i := 177) (by decide +kernel)), by decide +kernel⟩
theorem tw_178 : (Jvm.Cond.static ({ cls := "MotionLab$Ieee", name := "isZero", desc := "(J)Z" } : Jvm.MethodName)) ∈ lw_g := List.mem_filter.mpr ⟨List.mem_append_right _ (List.mem_of_getElem? (i := 178) (by decide +kernel)), by decide +kernel⟩
theorem tw_179 : (Jvm.Cond.code ({ cls := "MotionLab$Ieee", name := "isZero", desc := "(J)Z" } : Jvm.MethodName) prog_2_method_4_code (2 : Nat) (Option.some Jvm.ClassFile.FieldType.boolean)) ∈ lw_g := List.mem_filter.mpr ⟨List.mem_append_right _ (List.mem_of_getElem? (i := 179) (by decide +kernel)), by decide +kernel⟩
theorem tw_180 : (Jvm.Cond.methodLink "MotionLab$Ieee" (65 : Nat) ({ cls := "MotionLab$Ieee", name := "rise", desc := "(J)I" } : Jvm.MethodName)) ∈ lw_g := List.mem_filter.mpr ⟨List.mem_append_right _ (List.mem_of_getElem? (i := 180) (by decide +kernel)), by decide +kernel⟩
theorem tw_181 : (Jvm.Cond.static ({ cls := "MotionLab$Ieee", name := "rise", desc := "(J)I" } : Jvm.MethodName)) ∈ lw_g := List.mem_filter.mpr ⟨List.mem_append_right _ (List.mem_of_getElem? (i := 181) (by decide +kernel)), by decide +kernel⟩
theorem tw_182 : (Jvm.Cond.code ({ cls := "MotionLab$Ieee", name := "rise", desc := "(J)I" } : Jvm.MethodName) prog_2_method_32_code (2 : Nat) (Option.some Jvm.ClassFile.FieldType.int)) ∈ lw_g := List.mem_filter.mpr ⟨List.mem_append_right _ (List.mem_of_getElem? (i := 182) (by decide +kernel)), by decide +kernel⟩
theorem tw_183 : (Jvm.Cond.methodLink "MotionLab$Ieee" (68 : Nat) ({ cls := "MotionLab$Ieee", name := "highProduct", desc := "(JJ)J" } : Jvm.MethodName)) ∈ lw_g := List.mem_filter.mpr ⟨List.mem_append_right _ (List.mem_of_getElem? (i := 183) (by decide +kernel)), by decide +kernel⟩
theorem tw_184 : (Jvm.Cond.static ({ cls := "MotionLab$Ieee", name := "highProduct", desc := "(JJ)J" } : Jvm.MethodName)) ∈ lw_g := List.mem_filter.mpr ⟨List.mem_append_right _ (List.mem_of_getElem? (i := 184) (by decide +kernel)), by decide +kernel⟩
theorem tw_185 : (Jvm.Cond.code ({ cls := "MotionLab$Ieee", name := "highProduct", desc := "(JJ)J" } : Jvm.MethodName) prog_2_method_17_code (22 : Nat) (Option.some Jvm.ClassFile.FieldType.long)) ∈ lw_g := List.mem_filter.mpr ⟨List.mem_append_right _ (List.mem_of_getElem? (i := 185) (by decide +kernel)), by decide +kernel⟩
theorem tw_186 : (Jvm.Cond.constantLong "MotionLab$Ieee" (71 : Nat) (134217727 : Int64)) ∈ lw_g := List.mem_filter.mpr ⟨List.mem_append_right _ (List.mem_of_getElem? (i := 186) (by decide +kernel)), by decide +kernel⟩
theorem tw_187 : (Jvm.Cond.constantLong "MotionLab$Ieee" (73 : Nat) (131071 : Int64)) ∈ lw_g := List.mem_filter.mpr ⟨List.mem_append_right _ (List.mem_of_getElem? (i := 187) (by decide +kernel)), by decide +kernel⟩
theorem tw_189 : (Jvm.Cond.static ({ cls := "MotionLab$Ieee", name := "difference", desc := "(JJ)J" } : Jvm.MethodName)) ∈ lw_g := List.mem_filter.mpr ⟨List.mem_append_right _ (List.mem_of_getElem? (i := 189) (by decide +kernel)), by decide +kernel⟩
theorem tw_190 : (Jvm.Cond.code ({ cls := "MotionLab$Ieee", name := "difference", desc := "(JJ)J" } : Jvm.MethodName) prog_2_method_15_code (4 : Nat) (Option.some Jvm.ClassFile.FieldType.long)) ∈ lw_g := List.mem_filter.mpr ⟨List.mem_append_right _ (List.mem_of_getElem? (i := 190) (by decide +kernel)), by decide +kernel⟩
theorem tw_191 : (Jvm.Cond.methodLink "MotionLab$Ieee" (59 : Nat) ({ cls := "MotionLab$Ieee", name := "sum", desc := "(JJ)J" } : Jvm.MethodName)) ∈ lw_g := List.mem_filter.mpr ⟨List.mem_append_right _ (List.mem_of_getElem? (i := 191) (by decide +kernel)), by decide +kernel⟩
theorem tw_192 : (Jvm.Cond.static ({ cls := "MotionLab$Ieee", name := "sum", desc := "(JJ)J" } : Jvm.MethodName)) ∈ lw_g := List.mem_filter.mpr ⟨List.mem_append_right _ (List.mem_of_getElem? (i := 192) (by decide +kernel)), by decide +kernel⟩
theorem tw_193 : (Jvm.Cond.code ({ cls := "MotionLab$Ieee", name := "sum", desc := "(JJ)J" } : Jvm.MethodName) prog_2_method_12_code (16 : Nat) (Option.some Jvm.ClassFile.FieldType.long)) ∈ lw_g := List.mem_filter.mpr ⟨List.mem_append_right _ (List.mem_of_getElem? (i := 193) (by decide +kernel)), by decide +kernel⟩
theorem tw_194 : (Jvm.Cond.methodLink "MotionLab$Ieee" (38 : Nat) ({ cls := "MotionLab$Ieee", name := "unendingSum", desc := "(JJ)J" } : Jvm.MethodName)) ∈ lw_g := List.mem_filter.mpr ⟨List.mem_append_right _ (List.mem_of_getElem? (i := 194) (by decide +kernel)), by decide +kernel⟩
theorem tw_195 : (Jvm.Cond.static ({ cls := "MotionLab$Ieee", name := "unendingSum", desc := "(JJ)J" } : Jvm.MethodName)) ∈ lw_g := List.mem_filter.mpr ⟨List.mem_append_right _ (List.mem_of_getElem? (i := 195) (by decide +kernel)), by decide +kernel⟩
theorem tw_196 : (Jvm.Cond.code ({ cls := "MotionLab$Ieee", name := "unendingSum", desc := "(JJ)J" } : Jvm.MethodName) prog_2_method_13_code (4 : Nat) (Option.some Jvm.ClassFile.FieldType.long)) ∈ lw_g := List.mem_filter.mpr ⟨List.mem_append_right _ (List.mem_of_getElem? (i := 196) (by decide +kernel)), by decide +kernel⟩
theorem tw_197 : (Jvm.Cond.methodLink "MotionLab$Ieee" (56 : Nat) ({ cls := "MotionLab$Ieee", name := "isInfinite", desc := "(J)Z" } : Jvm.MethodName)) ∈ lw_g := List.mem_filter.mpr ⟨List.mem_append_right _ (List.mem_of_getElem? (i := 197) (by decide +kernel)), by decide +kernel⟩
theorem tw_198 : (Jvm.Cond.static ({ cls := "MotionLab$Ieee", name := "isInfinite", desc := "(J)Z" } : Jvm.MethodName)) ∈ lw_g := List.mem_filter.mpr ⟨List.mem_append_right _ (List.mem_of_getElem? (i := 198) (by decide +kernel)), by decide +kernel⟩
theorem tw_199 : (Jvm.Cond.code ({ cls := "MotionLab$Ieee", name := "isInfinite", desc := "(J)Z" } : Jvm.MethodName) prog_2_method_3_code (2 : Nat) (Option.some Jvm.ClassFile.FieldType.boolean)) ∈ lw_g := List.mem_filter.mpr ⟨List.mem_append_right _ (List.mem_of_getElem? (i := 199) (by decide +kernel)), by decide +kernel⟩
theorem tw_200 : (Jvm.Cond.methodLink "MotionLab$Ieee" (48 : Nat) ({ cls := "MotionLab$Ieee", name := "lowered", desc := "(JI)J" } : Jvm.MethodName)) ∈ lw_g := List.mem_filter.mpr ⟨List.mem_append_right _ (List.mem_of_getElem? (i := 200) (by decide +kernel)), by decide +kernel⟩
theorem tw_201 : (Jvm.Cond.static ({ cls := "MotionLab$Ieee", name := "lowered", desc := "(JI)J" } : Jvm.MethodName)) ∈ lw_g := List.mem_filter.mpr ⟨List.mem_append_right _ (List.mem_of_getElem? (i := 201) (by decide +kernel)), by decide +kernel⟩
theorem tw_202 : (Jvm.Cond.code ({ cls := "MotionLab$Ieee", name := "lowered", desc := "(JI)J" } : Jvm.MethodName) prog_2_method_14_code (5 : Nat) (Option.some Jvm.ClassFile.FieldType.long)) ∈ lw_g := List.mem_filter.mpr ⟨List.mem_append_right _ (List.mem_of_getElem? (i := 202) (by decide +kernel)), by decide +kernel⟩
theorem tw_218 : (Jvm.Cond.methodLink "MotionLab$Ieee" (75 : Nat) ({ cls := "MotionLab$Ieee", name := "product", desc := "(JJ)J" } : Jvm.MethodName)) ∈ lw_g := List.mem_filter.mpr ⟨List.mem_append_right _ (List.mem_of_getElem? (i := 218) (by decide +kernel)), by decide +kernel⟩
theorem tw_220 : (Jvm.Cond.static ({ cls := "MotionLab$Ieee", name := "root", desc := "(J)J" } : Jvm.MethodName)) ∈ lw_g := List.mem_filter.mpr ⟨List.mem_append_right _ (List.mem_of_getElem? (i := 220) (by decide +kernel)), by decide +kernel⟩
theorem tw_221 : (Jvm.Cond.code ({ cls := "MotionLab$Ieee", name := "root", desc := "(J)J" } : Jvm.MethodName) prog_2_method_22_code (5 : Nat) (Option.some Jvm.ClassFile.FieldType.long)) ∈ lw_g := List.mem_filter.mpr ⟨List.mem_append_right _ (List.mem_of_getElem? (i := 221) (by decide +kernel)), by decide +kernel⟩
theorem tw_222 : (Jvm.Cond.constantLong "MotionLab$Ieee" (87 : Nat) (2303591209400008704 : Int64)) ∈ lw_g := List.mem_filter.mpr ⟨List.mem_append_right _ (List.mem_of_getElem? (i := 222) (by decide +kernel)), by decide +kernel⟩
theorem tw_223 : (Jvm.Cond.methodLink "MotionLab$Ieee" (89 : Nat) ({ cls := "MotionLab$Ieee", name := "quotient", desc := "(JJ)J" } : Jvm.MethodName)) ∈ lw_g := List.mem_filter.mpr ⟨List.mem_append_right _ (List.mem_of_getElem? (i := 223) (by decide +kernel)), by decide +kernel⟩
theorem tw_224 : (Jvm.Cond.static ({ cls := "MotionLab$Ieee", name := "quotient", desc := "(JJ)J" } : Jvm.MethodName)) ∈ lw_g := List.mem_filter.mpr ⟨List.mem_append_right _ (List.mem_of_getElem? (i := 224) (by decide +kernel)), by decide +kernel⟩
theorem tw_225 : (Jvm.Cond.code ({ cls := "MotionLab$Ieee", name := "quotient", desc := "(JJ)J" } : Jvm.MethodName) prog_2_method_19_code (21 : Nat) (Option.some Jvm.ClassFile.FieldType.long)) ∈ lw_g := List.mem_filter.mpr ⟨List.mem_append_right _ (List.mem_of_getElem? (i := 225) (by decide +kernel)), by decide +kernel⟩
theorem tw_226 : (Jvm.Cond.methodLink "MotionLab$Ieee" (78 : Nat) ({ cls := "MotionLab$Ieee", name := "unendingQuotient", desc := "(JJ)J" } : Jvm.MethodName)) ∈ lw_g := List.mem_filter.mpr ⟨List.mem_append_right _ (List.mem_of_getElem? (i := 226) (by decide +kernel)), by decide +kernel⟩
theorem tw_227 : (Jvm.Cond.static ({ cls := "MotionLab$Ieee", name := "unendingQuotient", desc := "(JJ)J" } : Jvm.MethodName)) ∈ lw_g := List.mem_filter.mpr ⟨List.mem_append_right _ (List.mem_of_getElem? (i := 227) (by decide +kernel)), by decide +kernel⟩
theorem tw_228 : (Jvm.Cond.code ({ cls := "MotionLab$Ieee", name := "unendingQuotient", desc := "(JJ)J" } : Jvm.MethodName) prog_2_method_20_code (6 : Nat) (Option.some Jvm.ClassFile.FieldType.long)) ∈ lw_g := List.mem_filter.mpr ⟨List.mem_append_right _ (List.mem_of_getElem? (i := 228) (by decide +kernel)), by decide +kernel⟩
theorem tw_229 : (Jvm.Cond.constantLong "MotionLab$Ieee" (92 : Nat) (4602678819172646912 : Int64)) ∈ lw_g := List.mem_filter.mpr ⟨List.mem_append_right _ (List.mem_of_getElem? (i := 229) (by decide +kernel)), by decide +kernel⟩
theorem tw_233 : (Jvm.Cond.methodLink "MotionLab$Ieee" (25 : Nat) ({ cls := "MotionLab$Ieee", name := "order", desc := "(J)J" } : Jvm.MethodName)) ∈ lw_g := List.mem_filter.mpr ⟨List.mem_append_right _ (List.mem_of_getElem? (i := 233) (by decide +kernel)), by decide +kernel⟩
theorem tw_234 : (Jvm.Cond.static ({ cls := "MotionLab$Ieee", name := "order", desc := "(J)J" } : Jvm.MethodName)) ∈ lw_g := List.mem_filter.mpr ⟨List.mem_append_right _ (List.mem_of_getElem? (i := 234) (by decide +kernel)), by decide +kernel⟩
theorem tw_235 : (Jvm.Cond.code ({ cls := "MotionLab$Ieee", name := "order", desc := "(J)J" } : Jvm.MethodName) prog_2_method_11_code (2 : Nat) (Option.some Jvm.ClassFile.FieldType.long)) ∈ lw_g := List.mem_filter.mpr ⟨List.mem_append_right _ (List.mem_of_getElem? (i := 235) (by decide +kernel)), by decide +kernel⟩
theorem tw_263 : (Jvm.Cond.static ({ cls := "MotionLab$Ieee", name := "negated", desc := "(J)J" } : Jvm.MethodName)) ∈ lw_g := List.mem_filter.mpr ⟨List.mem_append_right _ (List.mem_of_getElem? (i := 263) (by decide +kernel)), by decide +kernel⟩
theorem tw_264 : (Jvm.Cond.code ({ cls := "MotionLab$Ieee", name := "negated", desc := "(J)J" } : Jvm.MethodName) prog_2_method_7_code (2 : Nat) (Option.some Jvm.ClassFile.FieldType.long)) ∈ lw_g := List.mem_filter.mpr ⟨List.mem_append_right _ (List.mem_of_getElem? (i := 264) (by decide +kernel)), by decide +kernel⟩
theorem tw_301 : (Jvm.Cond.methodLink "MotionLab" (122 : Nat) ({ cls := "MotionLab$Ieee", name := "sum", desc := "(JJ)J" } : Jvm.MethodName)) ∈ lw_g := List.mem_filter.mpr ⟨List.mem_append_right _ (List.mem_of_getElem? (i := 301) (by decide +kernel)), by decide +kernel⟩
theorem tw_302 : (Jvm.Cond.methodLink "MotionLab" (131 : Nat) ({ cls := "MotionLab$Ieee", name := "difference", desc := "(JJ)J" } : Jvm.MethodName)) ∈ lw_g := List.mem_filter.mpr ⟨List.mem_append_right _ (List.mem_of_getElem? (i := 302) (by decide +kernel)), by decide +kernel⟩
theorem tw_303 : (Jvm.Cond.methodLink "MotionLab" (118 : Nat) ({ cls := "MotionLab$Ieee", name := "product", desc := "(JJ)J" } : Jvm.MethodName)) ∈ lw_g := List.mem_filter.mpr ⟨List.mem_append_right _ (List.mem_of_getElem? (i := 303) (by decide +kernel)), by decide +kernel⟩
theorem tw_304 : (Jvm.Cond.methodLink "MotionLab" (134 : Nat) ({ cls := "MotionLab$Ieee", name := "quotient", desc := "(JJ)J" } : Jvm.MethodName)) ∈ lw_g := List.mem_filter.mpr ⟨List.mem_append_right _ (List.mem_of_getElem? (i := 304) (by decide +kernel)), by decide +kernel⟩
theorem tw_305 : (Jvm.Cond.methodLink "MotionLab" (137 : Nat) ({ cls := "MotionLab$Ieee", name := "remainder", desc := "(JJ)J" } : Jvm.MethodName)) ∈ lw_g := List.mem_filter.mpr ⟨List.mem_append_right _ (List.mem_of_getElem? (i := 305) (by decide +kernel)), by decide +kernel⟩
theorem tw_306 : (Jvm.Cond.static ({ cls := "MotionLab$Ieee", name := "remainder", desc := "(JJ)J" } : Jvm.MethodName)) ∈ lw_g := List.mem_filter.mpr ⟨List.mem_append_right _ (List.mem_of_getElem? (i := 306) (by decide +kernel)), by decide +kernel⟩
theorem tw_307 : (Jvm.Cond.code ({ cls := "MotionLab$Ieee", name := "remainder", desc := "(JJ)J" } : Jvm.MethodName) prog_2_method_21_code (9 : Nat) (Option.some Jvm.ClassFile.FieldType.long)) ∈ lw_g := List.mem_filter.mpr ⟨List.mem_append_right _ (List.mem_of_getElem? (i := 307) (by decide +kernel)), by decide +kernel⟩
theorem tw_308 : (Jvm.Cond.methodLink "MotionLab$Ieee" (81 : Nat) ({ cls := "java/lang/Math", name := "min", desc := "(II)I" } : Jvm.MethodName)) ∈ lw_g := List.mem_filter.mpr ⟨List.mem_append_right _ (List.mem_of_getElem? (i := 308) (by decide +kernel)), by decide +kernel⟩
theorem tw_309 : (Jvm.Cond.static ({ cls := "java/lang/Math", name := "min", desc := "(II)I" } : Jvm.MethodName)) ∈ lw_g := List.mem_filter.mpr ⟨List.mem_append_right _ (List.mem_of_getElem? (i := 309) (by decide +kernel)), by decide +kernel⟩
theorem tw_310 : (Jvm.Cond.code ({ cls := "java/lang/Math", name := "min", desc := "(II)I" } : Jvm.MethodName) prog_9_method_69_code (2 : Nat) (Option.some Jvm.ClassFile.FieldType.int)) ∈ lw_g := List.mem_filter.mpr ⟨List.mem_append_right _ (List.mem_of_getElem? (i := 310) (by decide +kernel)), by decide +kernel⟩
theorem tw_311 : (Jvm.Cond.methodLink "MotionLab" (140 : Nat) ({ cls := "MotionLab$Ieee", name := "root", desc := "(J)J" } : Jvm.MethodName)) ∈ lw_g := List.mem_filter.mpr ⟨List.mem_append_right _ (List.mem_of_getElem? (i := 311) (by decide +kernel)), by decide +kernel⟩
theorem tw_312 : (Jvm.Cond.methodLink "MotionLab" (143 : Nat) ({ cls := "MotionLab$Ieee", name := "negated", desc := "(J)J" } : Jvm.MethodName)) ∈ lw_g := List.mem_filter.mpr ⟨List.mem_append_right _ (List.mem_of_getElem? (i := 312) (by decide +kernel)), by decide +kernel⟩
theorem tw_313 : (Jvm.Cond.methodLink "MotionLab" (125 : Nat) ({ cls := "MotionLab$Ieee", name := "toFloat", desc := "(J)J" } : Jvm.MethodName)) ∈ lw_g := List.mem_filter.mpr ⟨List.mem_append_right _ (List.mem_of_getElem? (i := 313) (by decide +kernel)), by decide +kernel⟩
theorem tw_314 : (Jvm.Cond.methodLink "MotionLab" (146 : Nat) ({ cls := "MotionLab$Ieee", name := "lesser", desc := "(JJ)J" } : Jvm.MethodName)) ∈ lw_g := List.mem_filter.mpr ⟨List.mem_append_right _ (List.mem_of_getElem? (i := 314) (by decide +kernel)), by decide +kernel⟩
theorem tw_315 : (Jvm.Cond.static ({ cls := "MotionLab$Ieee", name := "lesser", desc := "(JJ)J" } : Jvm.MethodName)) ∈ lw_g := List.mem_filter.mpr ⟨List.mem_append_right _ (List.mem_of_getElem? (i := 315) (by decide +kernel)), by decide +kernel⟩
theorem tw_316 : (Jvm.Cond.code ({ cls := "MotionLab$Ieee", name := "lesser", desc := "(JJ)J" } : Jvm.MethodName) prog_2_method_9_code (4 : Nat) (Option.some Jvm.ClassFile.FieldType.long)) ∈ lw_g := List.mem_filter.mpr ⟨List.mem_append_right _ (List.mem_of_getElem? (i := 316) (by decide +kernel)), by decide +kernel⟩
theorem tw_317 : (Jvm.Cond.methodLink "MotionLab" (149 : Nat) ({ cls := "MotionLab$Ieee", name := "greater", desc := "(JJ)J" } : Jvm.MethodName)) ∈ lw_g := List.mem_filter.mpr ⟨List.mem_append_right _ (List.mem_of_getElem? (i := 317) (by decide +kernel)), by decide +kernel⟩
theorem tw_318 : (Jvm.Cond.static ({ cls := "MotionLab$Ieee", name := "greater", desc := "(JJ)J" } : Jvm.MethodName)) ∈ lw_g := List.mem_filter.mpr ⟨List.mem_append_right _ (List.mem_of_getElem? (i := 318) (by decide +kernel)), by decide +kernel⟩
theorem tw_319 : (Jvm.Cond.code ({ cls := "MotionLab$Ieee", name := "greater", desc := "(JJ)J" } : Jvm.MethodName) prog_2_method_10_code (4 : Nat) (Option.some Jvm.ClassFile.FieldType.long)) ∈ lw_g := List.mem_filter.mpr ⟨List.mem_append_right _ (List.mem_of_getElem? (i := 319) (by decide +kernel)), by decide +kernel⟩
theorem tw_320 : (Jvm.Cond.methodLink "MotionLab$Ieee" (28 : Nat) ({ cls := "MotionLab$Ieee", name := "negated", desc := "(J)J" } : Jvm.MethodName)) ∈ lw_g := List.mem_filter.mpr ⟨List.mem_append_right _ (List.mem_of_getElem? (i := 320) (by decide +kernel)), by decide +kernel⟩
theorem tw_321 : (Jvm.Cond.methodLink "MotionLab$Ieee" (31 : Nat) ({ cls := "MotionLab$Ieee", name := "lesser", desc := "(JJ)J" } : Jvm.MethodName)) ∈ lw_g := List.mem_filter.mpr ⟨List.mem_append_right _ (List.mem_of_getElem? (i := 321) (by decide +kernel)), by decide +kernel⟩
theorem tw_322 : (Jvm.Cond.methodLink "MotionLab" (152 : Nat) ({ cls := "MotionLab", name := "floatResult", desc := "(IJJ)J" } : Jvm.MethodName)) ∈ lw_g := List.mem_filter.mpr ⟨List.mem_append_right _ (List.mem_of_getElem? (i := 322) (by decide +kernel)), by decide +kernel⟩
theorem tw_323 : (Jvm.Cond.static ({ cls := "MotionLab", name := "floatResult", desc := "(IJJ)J" } : Jvm.MethodName)) ∈ lw_g := List.mem_filter.mpr ⟨List.mem_append_right _ (List.mem_of_getElem? (i := 323) (by decide +kernel)), by decide +kernel⟩
theorem tw_324 : (Jvm.Cond.code ({ cls := "MotionLab", name := "floatResult", desc := "(IJJ)J" } : Jvm.MethodName) prog_1_method_21_code (5 : Nat) (Option.some Jvm.ClassFile.FieldType.long)) ∈ lw_g := List.mem_filter.mpr ⟨List.mem_append_right _ (List.mem_of_getElem? (i := 324) (by decide +kernel)), by decide +kernel⟩
theorem tw_332 : (Jvm.Cond.methodLink "MotionLab$Ieee" (105 : Nat) ({ cls := "java/lang/Math", name := "abs", desc := "(J)J" } : Jvm.MethodName)) ∈ lw_g := List.mem_filter.mpr ⟨List.mem_append_right _ (List.mem_of_getElem? (i := 332) (by decide +kernel)), by decide +kernel⟩
theorem tw_333 : (Jvm.Cond.static ({ cls := "java/lang/Math", name := "abs", desc := "(J)J" } : Jvm.MethodName)) ∈ lw_g := List.mem_filter.mpr ⟨List.mem_append_right _ (List.mem_of_getElem? (i := 333) (by decide +kernel)), by decide +kernel⟩
theorem tw_334 : (Jvm.Cond.code ({ cls := "java/lang/Math", name := "abs", desc := "(J)J" } : Jvm.MethodName) prog_9_method_61_code (2 : Nat) (Option.some Jvm.ClassFile.FieldType.long)) ∈ lw_g := List.mem_filter.mpr ⟨List.mem_append_right _ (List.mem_of_getElem? (i := 334) (by decide +kernel)), by decide +kernel⟩
theorem tw_346 : (Jvm.Cond.constantLong "MotionLab$Ieee" (108 : Nat) (-2147483648 : Int64)) ∈ lw_g := List.mem_filter.mpr ⟨List.mem_append_right _ (List.mem_of_getElem? (i := 346) (by decide +kernel)), by decide +kernel⟩
theorem tw_347 : (Jvm.Cond.constantLong "MotionLab$Ieee" (110 : Nat) (2147483647 : Int64)) ∈ lw_g := List.mem_filter.mpr ⟨List.mem_append_right _ (List.mem_of_getElem? (i := 347) (by decide +kernel)), by decide +kernel⟩
theorem tw_348 : (Jvm.Cond.methodLink "MotionLab$Ieee" (112 : Nat) ({ cls := "MotionLab$Ieee", name := "toLong", desc := "(J)J" } : Jvm.MethodName)) ∈ lw_g := List.mem_filter.mpr ⟨List.mem_append_right _ (List.mem_of_getElem? (i := 348) (by decide +kernel)), by decide +kernel⟩
theorem tw_349 : (Jvm.Cond.static ({ cls := "MotionLab$Ieee", name := "toLong", desc := "(J)J" } : Jvm.MethodName)) ∈ lw_g := List.mem_filter.mpr ⟨List.mem_append_right _ (List.mem_of_getElem? (i := 349) (by decide +kernel)), by decide +kernel⟩
theorem tw_350 : (Jvm.Cond.code ({ cls := "MotionLab$Ieee", name := "toLong", desc := "(J)J" } : Jvm.MethodName) prog_2_method_29_code (5 : Nat) (Option.some Jvm.ClassFile.FieldType.long)) ∈ lw_g := List.mem_filter.mpr ⟨List.mem_append_right _ (List.mem_of_getElem? (i := 350) (by decide +kernel)), by decide +kernel⟩
theorem tw_351 : (Jvm.Cond.methodLink "MotionLab$Ieee" (115 : Nat) ({ cls := "java/lang/Math", name := "min", desc := "(JJ)J" } : Jvm.MethodName)) ∈ lw_g := List.mem_filter.mpr ⟨List.mem_append_right _ (List.mem_of_getElem? (i := 351) (by decide +kernel)), by decide +kernel⟩
theorem tw_352 : (Jvm.Cond.static ({ cls := "java/lang/Math", name := "min", desc := "(JJ)J" } : Jvm.MethodName)) ∈ lw_g := List.mem_filter.mpr ⟨List.mem_append_right _ (List.mem_of_getElem? (i := 352) (by decide +kernel)), by decide +kernel⟩
theorem tw_353 : (Jvm.Cond.code ({ cls := "java/lang/Math", name := "min", desc := "(JJ)J" } : Jvm.MethodName) prog_9_method_70_code (4 : Nat) (Option.some Jvm.ClassFile.FieldType.long)) ∈ lw_g := List.mem_filter.mpr ⟨List.mem_append_right _ (List.mem_of_getElem? (i := 353) (by decide +kernel)), by decide +kernel⟩
theorem tw_354 : (Jvm.Cond.methodLink "MotionLab$Ieee" (117 : Nat) ({ cls := "java/lang/Math", name := "max", desc := "(JJ)J" } : Jvm.MethodName)) ∈ lw_g := List.mem_filter.mpr ⟨List.mem_append_right _ (List.mem_of_getElem? (i := 354) (by decide +kernel)), by decide +kernel⟩
theorem tw_355 : (Jvm.Cond.static ({ cls := "java/lang/Math", name := "max", desc := "(JJ)J" } : Jvm.MethodName)) ∈ lw_g := List.mem_filter.mpr ⟨List.mem_append_right _ (List.mem_of_getElem? (i := 355) (by decide +kernel)), by decide +kernel⟩
theorem tw_356 : (Jvm.Cond.code ({ cls := "java/lang/Math", name := "max", desc := "(JJ)J" } : Jvm.MethodName) prog_9_method_66_code (4 : Nat) (Option.some Jvm.ClassFile.FieldType.long)) ∈ lw_g := List.mem_filter.mpr ⟨List.mem_append_right _ (List.mem_of_getElem? (i := 356) (by decide +kernel)), by decide +kernel⟩
theorem tw_406 : (Jvm.Cond.constant "MotionLab$Ieee" (102 : Nat) (2143289344 : Int32)) ∈ lw_g := List.mem_filter.mpr ⟨List.mem_append_right _ (List.mem_of_getElem? (i := 406) (by decide +kernel)), by decide +kernel⟩
theorem tw_407 : (Jvm.Cond.constantLong "MotionLab$Ieee" (103 : Nat) (4039728865751334912 : Int64)) ∈ lw_g := List.mem_filter.mpr ⟨List.mem_append_right _ (List.mem_of_getElem? (i := 407) (by decide +kernel)), by decide +kernel⟩
theorem tw_419 : (Jvm.Cond.constantLong "MotionLabModel" (7 : Nat) (9218868437227405312 : Int64)) ∈ lw_g := List.mem_filter.mpr ⟨List.mem_append_right _ (List.mem_of_getElem? (i := 419) (by decide +kernel)), by decide +kernel⟩
theorem tw_492 : (Jvm.Cond.methodLink "MotionLabModel" (194 : Nat) ({ cls := "MotionLabModel", name := "toFloat", desc := "(J)J" } : Jvm.MethodName)) ∈ lw_g := List.mem_filter.mpr ⟨List.mem_append_right _ (List.mem_of_getElem? (i := 492) (by decide +kernel)), by decide +kernel⟩
theorem tw_493 : (Jvm.Cond.static ({ cls := "MotionLabModel", name := "toFloat", desc := "(J)J" } : Jvm.MethodName)) ∈ lw_g := List.mem_filter.mpr ⟨List.mem_append_right _ (List.mem_of_getElem? (i := 493) (by decide +kernel)), by decide +kernel⟩
theorem tw_494 : (Jvm.Cond.code ({ cls := "MotionLabModel", name := "toFloat", desc := "(J)J" } : Jvm.MethodName) prog_6_method_22_code (2 : Nat) (Option.some Jvm.ClassFile.FieldType.long)) ∈ lw_g := List.mem_filter.mpr ⟨List.mem_append_right _ (List.mem_of_getElem? (i := 494) (by decide +kernel)), by decide +kernel⟩
theorem tw_495 : (Jvm.Cond.methodLink "MotionLabModel" (99 : Nat) ({ cls := "MotionLabModel", name := "changed", desc := "(JII)J" } : Jvm.MethodName)) ∈ lw_g := List.mem_filter.mpr ⟨List.mem_append_right _ (List.mem_of_getElem? (i := 495) (by decide +kernel)), by decide +kernel⟩
theorem tw_496 : (Jvm.Cond.static ({ cls := "MotionLabModel", name := "changed", desc := "(JII)J" } : Jvm.MethodName)) ∈ lw_g := List.mem_filter.mpr ⟨List.mem_append_right _ (List.mem_of_getElem? (i := 496) (by decide +kernel)), by decide +kernel⟩
theorem tw_497 : (Jvm.Cond.code ({ cls := "MotionLabModel", name := "changed", desc := "(JII)J" } : Jvm.MethodName) prog_6_method_21_code (4 : Nat) (Option.some Jvm.ClassFile.FieldType.long)) ∈ lw_g := List.mem_filter.mpr ⟨List.mem_append_right _ (List.mem_of_getElem? (i := 497) (by decide +kernel)), by decide +kernel⟩
theorem tw_498 : (Jvm.Cond.methodLink "MotionLabModel" (56 : Nat) ({ cls := "MotionLabModel", name := "isNone", desc := "(JI)Z" } : Jvm.MethodName)) ∈ lw_g := List.mem_filter.mpr ⟨List.mem_append_right _ (List.mem_of_getElem? (i := 498) (by decide +kernel)), by decide +kernel⟩
theorem tw_499 : (Jvm.Cond.static ({ cls := "MotionLabModel", name := "isNone", desc := "(JI)Z" } : Jvm.MethodName)) ∈ lw_g := List.mem_filter.mpr ⟨List.mem_append_right _ (List.mem_of_getElem? (i := 499) (by decide +kernel)), by decide +kernel⟩
theorem tw_500 : (Jvm.Cond.code ({ cls := "MotionLabModel", name := "isNone", desc := "(JI)Z" } : Jvm.MethodName) prog_6_method_6_code (3 : Nat) (Option.some Jvm.ClassFile.FieldType.boolean)) ∈ lw_g := List.mem_filter.mpr ⟨List.mem_append_right _ (List.mem_of_getElem? (i := 500) (by decide +kernel)), by decide +kernel⟩
theorem tw_501 : (Jvm.Cond.methodLink "MotionLabModel" (15 : Nat) ({ cls := "MotionLabModel", name := "size", desc := "(JI)J" } : Jvm.MethodName)) ∈ lw_g := List.mem_filter.mpr ⟨List.mem_append_right _ (List.mem_of_getElem? (i := 501) (by decide +kernel)), by decide +kernel⟩
theorem tw_502 : (Jvm.Cond.static ({ cls := "MotionLabModel", name := "size", desc := "(JI)J" } : Jvm.MethodName)) ∈ lw_g := List.mem_filter.mpr ⟨List.mem_append_right _ (List.mem_of_getElem? (i := 502) (by decide +kernel)), by decide +kernel⟩
theorem tw_503 : (Jvm.Cond.code ({ cls := "MotionLabModel", name := "size", desc := "(JI)J" } : Jvm.MethodName) prog_6_method_3_code (3 : Nat) (Option.some Jvm.ClassFile.FieldType.long)) ∈ lw_g := List.mem_filter.mpr ⟨List.mem_append_right _ (List.mem_of_getElem? (i := 503) (by decide +kernel)), by decide +kernel⟩
theorem tw_504 : (Jvm.Cond.methodLink "MotionLabModel" (1 : Nat) ({ cls := "MotionLabModel", name := "wide", desc := "(I)I" } : Jvm.MethodName)) ∈ lw_g := List.mem_filter.mpr ⟨List.mem_append_right _ (List.mem_of_getElem? (i := 504) (by decide +kernel)), by decide +kernel⟩
theorem tw_505 : (Jvm.Cond.static ({ cls := "MotionLabModel", name := "wide", desc := "(I)I" } : Jvm.MethodName)) ∈ lw_g := List.mem_filter.mpr ⟨List.mem_append_right _ (List.mem_of_getElem? (i := 505) (by decide +kernel)), by decide +kernel⟩
theorem tw_506 : (Jvm.Cond.code ({ cls := "MotionLabModel", name := "wide", desc := "(I)I" } : Jvm.MethodName) prog_6_method_1_code (1 : Nat) (Option.some Jvm.ClassFile.FieldType.int)) ∈ lw_g := List.mem_filter.mpr ⟨List.mem_append_right _ (List.mem_of_getElem? (i := 506) (by decide +kernel)), by decide +kernel⟩
theorem tw_507 : (Jvm.Cond.methodLink "MotionLabModel" (19 : Nat) ({ cls := "MotionLabModel", name := "infinite", desc := "(I)J" } : Jvm.MethodName)) ∈ lw_g := List.mem_filter.mpr ⟨List.mem_append_right _ (List.mem_of_getElem? (i := 507) (by decide +kernel)), by decide +kernel⟩
theorem tw_508 : (Jvm.Cond.static ({ cls := "MotionLabModel", name := "infinite", desc := "(I)J" } : Jvm.MethodName)) ∈ lw_g := List.mem_filter.mpr ⟨List.mem_append_right _ (List.mem_of_getElem? (i := 508) (by decide +kernel)), by decide +kernel⟩
theorem tw_509 : (Jvm.Cond.code ({ cls := "MotionLabModel", name := "infinite", desc := "(I)J" } : Jvm.MethodName) prog_6_method_4_code (1 : Nat) (Option.some Jvm.ClassFile.FieldType.long)) ∈ lw_g := List.mem_filter.mpr ⟨List.mem_append_right _ (List.mem_of_getElem? (i := 509) (by decide +kernel)), by decide +kernel⟩
theorem tw_510 : (Jvm.Cond.constantLong "MotionLabModel" (9 : Nat) (2139095040 : Int64)) ∈ lw_g := List.mem_filter.mpr ⟨List.mem_append_right _ (List.mem_of_getElem? (i := 510) (by decide +kernel)), by decide +kernel⟩
theorem tw_511 : (Jvm.Cond.methodLink "MotionLabModel" (60 : Nat) ({ cls := "MotionLabModel", name := "none", desc := "(I)J" } : Jvm.MethodName)) ∈ lw_g := List.mem_filter.mpr ⟨List.mem_append_right _ (List.mem_of_getElem? (i := 511) (by decide +kernel)), by decide +kernel⟩
theorem tw_512 : (Jvm.Cond.static ({ cls := "MotionLabModel", name := "none", desc := "(I)J" } : Jvm.MethodName)) ∈ lw_g := List.mem_filter.mpr ⟨List.mem_append_right _ (List.mem_of_getElem? (i := 512) (by decide +kernel)), by decide +kernel⟩
theorem tw_513 : (Jvm.Cond.code ({ cls := "MotionLabModel", name := "none", desc := "(I)J" } : Jvm.MethodName) prog_6_method_5_code (1 : Nat) (Option.some Jvm.ClassFile.FieldType.long)) ∈ lw_g := List.mem_filter.mpr ⟨List.mem_append_right _ (List.mem_of_getElem? (i := 513) (by decide +kernel)), by decide +kernel⟩
theorem tw_514 : (Jvm.Cond.constantLong "MotionLabModel" (11 : Nat) (9221120237041090560 : Int64)) ∈ lw_g := List.mem_filter.mpr ⟨List.mem_append_right _ (List.mem_of_getElem? (i := 514) (by decide +kernel)), by decide +kernel⟩
theorem tw_515 : (Jvm.Cond.constantLong "MotionLabModel" (13 : Nat) (2143289344 : Int64)) ∈ lw_g := List.mem_filter.mpr ⟨List.mem_append_right _ (List.mem_of_getElem? (i := 515) (by decide +kernel)), by decide +kernel⟩
theorem tw_516 : (Jvm.Cond.methodLink "MotionLabModel" (63 : Nat) ({ cls := "MotionLabModel", name := "isInfinite", desc := "(JI)Z" } : Jvm.MethodName)) ∈ lw_g := List.mem_filter.mpr ⟨List.mem_append_right _ (List.mem_of_getElem? (i := 516) (by decide +kernel)), by decide +kernel⟩
theorem tw_517 : (Jvm.Cond.static ({ cls := "MotionLabModel", name := "isInfinite", desc := "(JI)Z" } : Jvm.MethodName)) ∈ lw_g := List.mem_filter.mpr ⟨List.mem_append_right _ (List.mem_of_getElem? (i := 517) (by decide +kernel)), by decide +kernel⟩
theorem tw_518 : (Jvm.Cond.code ({ cls := "MotionLabModel", name := "isInfinite", desc := "(JI)Z" } : Jvm.MethodName) prog_6_method_7_code (3 : Nat) (Option.some Jvm.ClassFile.FieldType.boolean)) ∈ lw_g := List.mem_filter.mpr ⟨List.mem_append_right _ (List.mem_of_getElem? (i := 518) (by decide +kernel)), by decide +kernel⟩
theorem tw_519 : (Jvm.Cond.methodLink "MotionLabModel" (76 : Nat) ({ cls := "MotionLabModel", name := "minus", desc := "(JI)Z" } : Jvm.MethodName)) ∈ lw_g := List.mem_filter.mpr ⟨List.mem_append_right _ (List.mem_of_getElem? (i := 519) (by decide +kernel)), by decide +kernel⟩
theorem tw_520 : (Jvm.Cond.static ({ cls := "MotionLabModel", name := "minus", desc := "(JI)Z" } : Jvm.MethodName)) ∈ lw_g := List.mem_filter.mpr ⟨List.mem_append_right _ (List.mem_of_getElem? (i := 520) (by decide +kernel)), by decide +kernel⟩
theorem tw_521 : (Jvm.Cond.code ({ cls := "MotionLabModel", name := "minus", desc := "(JI)Z" } : Jvm.MethodName) prog_6_method_2_code (3 : Nat) (Option.some Jvm.ClassFile.FieldType.boolean)) ∈ lw_g := List.mem_filter.mpr ⟨List.mem_append_right _ (List.mem_of_getElem? (i := 521) (by decide +kernel)), by decide +kernel⟩
theorem tw_522 : (Jvm.Cond.methodLink "MotionLabModel" (36 : Nat) ({ cls := "MotionLabModel", name := "signed", desc := "(JZI)J" } : Jvm.MethodName)) ∈ lw_g := List.mem_filter.mpr ⟨List.mem_append_right _ (List.mem_of_getElem? (i := 522) (by decide +kernel)), by decide +kernel⟩
theorem tw_523 : (Jvm.Cond.static ({ cls := "MotionLabModel", name := "signed", desc := "(JZI)J" } : Jvm.MethodName)) ∈ lw_g := List.mem_filter.mpr ⟨List.mem_append_right _ (List.mem_of_getElem? (i := 523) (by decide +kernel)), by decide +kernel⟩
theorem tw_524 : (Jvm.Cond.code ({ cls := "MotionLabModel", name := "signed", desc := "(JZI)J" } : Jvm.MethodName) prog_6_method_9_code (4 : Nat) (Option.some Jvm.ClassFile.FieldType.long)) ∈ lw_g := List.mem_filter.mpr ⟨List.mem_append_right _ (List.mem_of_getElem? (i := 524) (by decide +kernel)), by decide +kernel⟩
theorem tw_525 : (Jvm.Cond.methodLink "MotionLabModel" (73 : Nat) ({ cls := "MotionLabModel", name := "whole", desc := "(JI)J" } : Jvm.MethodName)) ∈ lw_g := List.mem_filter.mpr ⟨List.mem_append_right _ (List.mem_of_getElem? (i := 525) (by decide +kernel)), by decide +kernel⟩
theorem tw_526 : (Jvm.Cond.static ({ cls := "MotionLabModel", name := "whole", desc := "(JI)J" } : Jvm.MethodName)) ∈ lw_g := List.mem_filter.mpr ⟨List.mem_append_right _ (List.mem_of_getElem? (i := 526) (by decide +kernel)), by decide +kernel⟩
theorem tw_527 : (Jvm.Cond.code ({ cls := "MotionLabModel", name := "whole", desc := "(JI)J" } : Jvm.MethodName) prog_6_method_11_code (8 : Nat) (Option.some Jvm.ClassFile.FieldType.long)) ∈ lw_g := List.mem_filter.mpr ⟨List.mem_append_right _ (List.mem_of_getElem? (i := 527) (by decide +kernel)), by decide +kernel⟩
theorem tw_528 : (Jvm.Cond.fieldLink "MotionLabModel" (23 : Nat) "MotionLabModel" "PLACES" "[I") ∈ lw_g := List.mem_filter.mpr ⟨List.mem_append_right _ (List.mem_of_getElem? (i := 528) (by decide +kernel)), by decide +kernel⟩
theorem tw_530 : (Jvm.Cond.methodLink "MotionLabModel" (69 : Nat) ({ cls := "MotionLabModel", name := "power", desc := "(JI)I" } : Jvm.MethodName)) ∈ lw_g := List.mem_filter.mpr ⟨List.mem_append_right _ (List.mem_of_getElem? (i := 530) (by decide +kernel)), by decide +kernel⟩
theorem tw_531 : (Jvm.Cond.static ({ cls := "MotionLabModel", name := "power", desc := "(JI)I" } : Jvm.MethodName)) ∈ lw_g := List.mem_filter.mpr ⟨List.mem_append_right _ (List.mem_of_getElem? (i := 531) (by decide +kernel)), by decide +kernel⟩
theorem tw_532 : (Jvm.Cond.code ({ cls := "MotionLabModel", name := "power", desc := "(JI)I" } : Jvm.MethodName) prog_6_method_12_code (5 : Nat) (Option.some Jvm.ClassFile.FieldType.int)) ∈ lw_g := List.mem_filter.mpr ⟨List.mem_append_right _ (List.mem_of_getElem? (i := 532) (by decide +kernel)), by decide +kernel⟩
theorem tw_533 : (Jvm.Cond.fieldLink "MotionLabModel" (27 : Nat) "MotionLabModel" "LEAST" "[I") ∈ lw_g := List.mem_filter.mpr ⟨List.mem_append_right _ (List.mem_of_getElem? (i := 533) (by decide +kernel)), by decide +kernel⟩
theorem tw_535 : (Jvm.Cond.methodLink "MotionLabModel" (30 : Nat) ({ cls := "java/lang/Math", name := "max", desc := "(JJ)J" } : Jvm.MethodName)) ∈ lw_g := List.mem_filter.mpr ⟨List.mem_append_right _ (List.mem_of_getElem? (i := 535) (by decide +kernel)), by decide +kernel⟩
theorem tw_536 : (Jvm.Cond.methodLink "MotionLabModel" (89 : Nat) ({ cls := "MotionLabModel", name := "exact", desc := "(ZJII)J" } : Jvm.MethodName)) ∈ lw_g := List.mem_filter.mpr ⟨List.mem_append_right _ (List.mem_of_getElem? (i := 536) (by decide +kernel)), by decide +kernel⟩
theorem tw_537 : (Jvm.Cond.static ({ cls := "MotionLabModel", name := "exact", desc := "(ZJII)J" } : Jvm.MethodName)) ∈ lw_g := List.mem_filter.mpr ⟨List.mem_append_right _ (List.mem_of_getElem? (i := 537) (by decide +kernel)), by decide +kernel⟩
theorem tw_538 : (Jvm.Cond.code ({ cls := "MotionLabModel", name := "exact", desc := "(ZJII)J" } : Jvm.MethodName) prog_6_method_14_code (5 : Nat) (Option.some Jvm.ClassFile.FieldType.long)) ∈ lw_g := List.mem_filter.mpr ⟨List.mem_append_right _ (List.mem_of_getElem? (i := 538) (by decide +kernel)), by decide +kernel⟩
theorem tw_539 : (Jvm.Cond.methodLink "MotionLabModel" (52 : Nat) ({ cls := "MotionLabModel", name := "rounded", desc := "(ZJIZI)J" } : Jvm.MethodName)) ∈ lw_g := List.mem_filter.mpr ⟨List.mem_append_right _ (List.mem_of_getElem? (i := 539) (by decide +kernel)), by decide +kernel⟩
theorem tw_540 : (Jvm.Cond.static ({ cls := "MotionLabModel", name := "rounded", desc := "(ZJIZI)J" } : Jvm.MethodName)) ∈ lw_g := List.mem_filter.mpr ⟨List.mem_append_right _ (List.mem_of_getElem? (i := 540) (by decide +kernel)), by decide +kernel⟩
theorem tw_541 : (Jvm.Cond.code ({ cls := "MotionLabModel", name := "rounded", desc := "(ZJIZI)J" } : Jvm.MethodName) prog_6_method_13_code (15 : Nat) (Option.some Jvm.ClassFile.FieldType.long)) ∈ lw_g := List.mem_filter.mpr ⟨List.mem_append_right _ (List.mem_of_getElem? (i := 541) (by decide +kernel)), by decide +kernel⟩
theorem tw_542 : (Jvm.Cond.methodLink "MotionLabModel" (40 : Nat) ({ cls := "java/lang/Long", name := "numberOfLeadingZeros", desc := "(J)I" } : Jvm.MethodName)) ∈ lw_g := List.mem_filter.mpr ⟨List.mem_append_right _ (List.mem_of_getElem? (i := 542) (by decide +kernel)), by decide +kernel⟩
theorem tw_543 : (Jvm.Cond.methodLink "MotionLabModel" (46 : Nat) ({ cls := "java/lang/Math", name := "max", desc := "(II)I" } : Jvm.MethodName)) ∈ lw_g := List.mem_filter.mpr ⟨List.mem_append_right _ (List.mem_of_getElem? (i := 543) (by decide +kernel)), by decide +kernel⟩
theorem tw_544 : (Jvm.Cond.fieldLink "MotionLabModel" (49 : Nat) "MotionLabModel" "GREATEST" "[I") ∈ lw_g := List.mem_filter.mpr ⟨List.mem_append_right _ (List.mem_of_getElem? (i := 544) (by decide +kernel)), by decide +kernel⟩
theorem tw_557 : (Jvm.Cond.constantLong "MotionLabModel" (207 : Nat) (4294967295 : Int64)) ∈ lw_g := List.mem_filter.mpr ⟨List.mem_append_right _ (List.mem_of_getElem? (i := 557) (by decide +kernel)), by decide +kernel⟩
theorem tw_570 : (Jvm.Cond.methodLink "MotionLabModel" (229 : Nat) ({ cls := "MotionLabModel", name := "toDouble", desc := "(J)J" } : Jvm.MethodName)) ∈ lw_g := List.mem_filter.mpr ⟨List.mem_append_right _ (List.mem_of_getElem? (i := 570) (by decide +kernel)), by decide +kernel⟩
theorem tw_571 : (Jvm.Cond.static ({ cls := "MotionLabModel", name := "toDouble", desc := "(J)J" } : Jvm.MethodName)) ∈ lw_g := List.mem_filter.mpr ⟨List.mem_append_right _ (List.mem_of_getElem? (i := 571) (by decide +kernel)), by decide +kernel⟩
theorem tw_572 : (Jvm.Cond.code ({ cls := "MotionLabModel", name := "toDouble", desc := "(J)J" } : Jvm.MethodName) prog_6_method_23_code (2 : Nat) (Option.some Jvm.ClassFile.FieldType.long)) ∈ lw_g := List.mem_filter.mpr ⟨List.mem_append_right _ (List.mem_of_getElem? (i := 572) (by decide +kernel)), by decide +kernel⟩
theorem tw_573 : (Jvm.Cond.methodLink "MotionLabModel" (216 : Nat) ({ cls := "MotionLabModel", name := "multiply", desc := "(JJ)J" } : Jvm.MethodName)) ∈ lw_g := List.mem_filter.mpr ⟨List.mem_append_right _ (List.mem_of_getElem? (i := 573) (by decide +kernel)), by decide +kernel⟩
theorem tw_574 : (Jvm.Cond.static ({ cls := "MotionLabModel", name := "multiply", desc := "(JJ)J" } : Jvm.MethodName)) ∈ lw_g := List.mem_filter.mpr ⟨List.mem_append_right _ (List.mem_of_getElem? (i := 574) (by decide +kernel)), by decide +kernel⟩
theorem tw_575 : (Jvm.Cond.code ({ cls := "MotionLabModel", name := "multiply", desc := "(JJ)J" } : Jvm.MethodName) prog_6_method_28_code (4 : Nat) (Option.some Jvm.ClassFile.FieldType.long)) ∈ lw_g := List.mem_filter.mpr ⟨List.mem_append_right _ (List.mem_of_getElem? (i := 575) (by decide +kernel)), by decide +kernel⟩
theorem tw_576 : (Jvm.Cond.methodLink "MotionLabModel" (110 : Nat) ({ cls := "MotionLabModel", name := "multiply", desc := "(JJI)J" } : Jvm.MethodName)) ∈ lw_g := List.mem_filter.mpr ⟨List.mem_append_right _ (List.mem_of_getElem? (i := 576) (by decide +kernel)), by decide +kernel⟩
theorem tw_577 : (Jvm.Cond.static ({ cls := "MotionLabModel", name := "multiply", desc := "(JJI)J" } : Jvm.MethodName)) ∈ lw_g := List.mem_filter.mpr ⟨List.mem_append_right _ (List.mem_of_getElem? (i := 577) (by decide +kernel)), by decide +kernel⟩
theorem tw_578 : (Jvm.Cond.code ({ cls := "MotionLabModel", name := "multiply", desc := "(JJI)J" } : Jvm.MethodName) prog_6_method_18_code (25 : Nat) (Option.some Jvm.ClassFile.FieldType.long)) ∈ lw_g := List.mem_filter.mpr ⟨List.mem_append_right _ (List.mem_of_getElem? (i := 578) (by decide +kernel)), by decide +kernel⟩
theorem tw_579 : (Jvm.Cond.methodLink "MotionLabModel" (66 : Nat) ({ cls := "MotionLabModel", name := "isZero", desc := "(JI)Z" } : Jvm.MethodName)) ∈ lw_g := List.mem_filter.mpr ⟨List.mem_append_right _ (List.mem_of_getElem? (i := 579) (by decide +kernel)), by decide +kernel⟩
theorem tw_580 : (Jvm.Cond.static ({ cls := "MotionLabModel", name := "isZero", desc := "(JI)Z" } : Jvm.MethodName)) ∈ lw_g := List.mem_filter.mpr ⟨List.mem_append_right _ (List.mem_of_getElem? (i := 580) (by decide +kernel)), by decide +kernel⟩
theorem tw_581 : (Jvm.Cond.code ({ cls := "MotionLabModel", name := "isZero", desc := "(JI)Z" } : Jvm.MethodName) prog_6_method_8_code (3 : Nat) (Option.some Jvm.ClassFile.FieldType.boolean)) ∈ lw_g := List.mem_filter.mpr ⟨List.mem_append_right _ (List.mem_of_getElem? (i := 581) (by decide +kernel)), by decide +kernel⟩
theorem tw_582 : (Jvm.Cond.methodLink "MotionLabModel" (86 : Nat) ({ cls := "MotionLabModel", name := "moved", desc := "(JI)I" } : Jvm.MethodName)) ∈ lw_g := List.mem_filter.mpr ⟨List.mem_append_right _ (List.mem_of_getElem? (i := 582) (by decide +kernel)), by decide +kernel⟩
theorem tw_583 : (Jvm.Cond.static ({ cls := "MotionLabModel", name := "moved", desc := "(JI)I" } : Jvm.MethodName)) ∈ lw_g := List.mem_filter.mpr ⟨List.mem_append_right _ (List.mem_of_getElem? (i := 583) (by decide +kernel)), by decide +kernel⟩
theorem tw_584 : (Jvm.Cond.code ({ cls := "MotionLabModel", name := "moved", desc := "(JI)I" } : Jvm.MethodName) prog_6_method_17_code (3 : Nat) (Option.some Jvm.ClassFile.FieldType.int)) ∈ lw_g := List.mem_filter.mpr ⟨List.mem_append_right _ (List.mem_of_getElem? (i := 584) (by decide +kernel)), by decide +kernel⟩
theorem tw_585 : (Jvm.Cond.constantLong "MotionLabModel" (93 : Nat) (134217727 : Int64)) ∈ lw_g := List.mem_filter.mpr ⟨List.mem_append_right _ (List.mem_of_getElem? (i := 585) (by decide +kernel)), by decide +kernel⟩
theorem tw_586 : (Jvm.Cond.constantLong "MotionLabModel" (95 : Nat) (18014398509481983 : Int64)) ∈ lw_g := List.mem_filter.mpr ⟨List.mem_append_right _ (List.mem_of_getElem? (i := 586) (by decide +kernel)), by decide +kernel⟩
theorem tw_587 : (Jvm.Cond.constantLong "MotionLabModel" (97 : Nat) (70368744177663 : Int64)) ∈ lw_g := List.mem_filter.mpr ⟨List.mem_append_right _ (List.mem_of_getElem? (i := 587) (by decide +kernel)), by decide +kernel⟩
theorem tw_591 : (Jvm.Cond.methodLink "MotionLabModel" (107 : Nat) ({ cls := "MotionLabModel", name := "subtract", desc := "(JJI)J" } : Jvm.MethodName)) ∈ lw_g := List.mem_filter.mpr ⟨List.mem_append_right _ (List.mem_of_getElem? (i := 591) (by decide +kernel)), by decide +kernel⟩
theorem tw_592 : (Jvm.Cond.static ({ cls := "MotionLabModel", name := "subtract", desc := "(JJI)J" } : Jvm.MethodName)) ∈ lw_g := List.mem_filter.mpr ⟨List.mem_append_right _ (List.mem_of_getElem? (i := 592) (by decide +kernel)), by decide +kernel⟩
theorem tw_593 : (Jvm.Cond.code ({ cls := "MotionLabModel", name := "subtract", desc := "(JJI)J" } : Jvm.MethodName) prog_6_method_16_code (5 : Nat) (Option.some Jvm.ClassFile.FieldType.long)) ∈ lw_g := List.mem_filter.mpr ⟨List.mem_append_right _ (List.mem_of_getElem? (i := 593) (by decide +kernel)), by decide +kernel⟩
theorem tw_594 : (Jvm.Cond.methodLink "MotionLabModel" (79 : Nat) ({ cls := "MotionLabModel", name := "turned", desc := "(JI)J" } : Jvm.MethodName)) ∈ lw_g := List.mem_filter.mpr ⟨List.mem_append_right _ (List.mem_of_getElem? (i := 594) (by decide +kernel)), by decide +kernel⟩
theorem tw_595 : (Jvm.Cond.static ({ cls := "MotionLabModel", name := "turned", desc := "(JI)J" } : Jvm.MethodName)) ∈ lw_g := List.mem_filter.mpr ⟨List.mem_append_right _ (List.mem_of_getElem? (i := 595) (by decide +kernel)), by decide +kernel⟩
theorem tw_596 : (Jvm.Cond.code ({ cls := "MotionLabModel", name := "turned", desc := "(JI)J" } : Jvm.MethodName) prog_6_method_10_code (3 : Nat) (Option.some Jvm.ClassFile.FieldType.long)) ∈ lw_g := List.mem_filter.mpr ⟨List.mem_append_right _ (List.mem_of_getElem? (i := 596) (by decide +kernel)), by decide +kernel⟩
theorem tw_597 : (Jvm.Cond.methodLink "MotionLabModel" (82 : Nat) ({ cls := "MotionLabModel", name := "add", desc := "(JJI)J" } : Jvm.MethodName)) ∈ lw_g := List.mem_filter.mpr ⟨List.mem_append_right _ (List.mem_of_getElem? (i := 597) (by decide +kernel)), by decide +kernel⟩
theorem tw_598 : (Jvm.Cond.static ({ cls := "MotionLabModel", name := "add", desc := "(JJI)J" } : Jvm.MethodName)) ∈ lw_g := List.mem_filter.mpr ⟨List.mem_append_right _ (List.mem_of_getElem? (i := 598) (by decide +kernel)), by decide +kernel⟩
theorem tw_599 : (Jvm.Cond.code ({ cls := "MotionLabModel", name := "add", desc := "(JJI)J" } : Jvm.MethodName) prog_6_method_15_code (19 : Nat) (Option.some Jvm.ClassFile.FieldType.long)) ∈ lw_g := List.mem_filter.mpr ⟨List.mem_append_right _ (List.mem_of_getElem? (i := 599) (by decide +kernel)), by decide +kernel⟩
theorem tw_611 : (Jvm.Cond.methodLink "MotionLabModel" (123 : Nat) ({ cls := "MotionLabModel", name := "add", desc := "(JJ)J" } : Jvm.MethodName)) ∈ lw_g := List.mem_filter.mpr ⟨List.mem_append_right _ (List.mem_of_getElem? (i := 611) (by decide +kernel)), by decide +kernel⟩
theorem tw_612 : (Jvm.Cond.static ({ cls := "MotionLabModel", name := "add", desc := "(JJ)J" } : Jvm.MethodName)) ∈ lw_g := List.mem_filter.mpr ⟨List.mem_append_right _ (List.mem_of_getElem? (i := 612) (by decide +kernel)), by decide +kernel⟩
theorem tw_613 : (Jvm.Cond.code ({ cls := "MotionLabModel", name := "add", desc := "(JJ)J" } : Jvm.MethodName) prog_6_method_26_code (4 : Nat) (Option.some Jvm.ClassFile.FieldType.long)) ∈ lw_g := List.mem_filter.mpr ⟨List.mem_append_right _ (List.mem_of_getElem? (i := 613) (by decide +kernel)), by decide +kernel⟩
theorem tw_614 : (Jvm.Cond.methodLink "MotionLabModel" (223 : Nat) ({ cls := "MotionLabModel", name := "root", desc := "(J)J" } : Jvm.MethodName)) ∈ lw_g := List.mem_filter.mpr ⟨List.mem_append_right _ (List.mem_of_getElem? (i := 614) (by decide +kernel)), by decide +kernel⟩
theorem tw_615 : (Jvm.Cond.static ({ cls := "MotionLabModel", name := "root", desc := "(J)J" } : Jvm.MethodName)) ∈ lw_g := List.mem_filter.mpr ⟨List.mem_append_right _ (List.mem_of_getElem? (i := 615) (by decide +kernel)), by decide +kernel⟩
theorem tw_616 : (Jvm.Cond.code ({ cls := "MotionLabModel", name := "root", desc := "(J)J" } : Jvm.MethodName) prog_6_method_30_code (5 : Nat) (Option.some Jvm.ClassFile.FieldType.long)) ∈ lw_g := List.mem_filter.mpr ⟨List.mem_append_right _ (List.mem_of_getElem? (i := 616) (by decide +kernel)), by decide +kernel⟩
theorem tw_617 : (Jvm.Cond.methodLink "MotionLabModel" (116 : Nat) ({ cls := "MotionLabModel", name := "order", desc := "(JJ)I" } : Jvm.MethodName)) ∈ lw_g := List.mem_filter.mpr ⟨List.mem_append_right _ (List.mem_of_getElem? (i := 617) (by decide +kernel)), by decide +kernel⟩
theorem tw_618 : (Jvm.Cond.static ({ cls := "MotionLabModel", name := "order", desc := "(JJ)I" } : Jvm.MethodName)) ∈ lw_g := List.mem_filter.mpr ⟨List.mem_append_right _ (List.mem_of_getElem? (i := 618) (by decide +kernel)), by decide +kernel⟩
theorem tw_619 : (Jvm.Cond.code ({ cls := "MotionLabModel", name := "order", desc := "(JJ)I" } : Jvm.MethodName) prog_6_method_24_code (8 : Nat) (Option.some Jvm.ClassFile.FieldType.int)) ∈ lw_g := List.mem_filter.mpr ⟨List.mem_append_right _ (List.mem_of_getElem? (i := 619) (by decide +kernel)), by decide +kernel⟩
theorem tw_620 : (Jvm.Cond.methodLink "MotionLabModel" (103 : Nat) ({ cls := "java/lang/Long", name := "compare", desc := "(JJ)I" } : Jvm.MethodName)) ∈ lw_g := List.mem_filter.mpr ⟨List.mem_append_right _ (List.mem_of_getElem? (i := 620) (by decide +kernel)), by decide +kernel⟩
theorem tw_621 : (Jvm.Cond.static ({ cls := "java/lang/Long", name := "compare", desc := "(JJ)I" } : Jvm.MethodName)) ∈ lw_g := List.mem_filter.mpr ⟨List.mem_append_right _ (List.mem_of_getElem? (i := 621) (by decide +kernel)), by decide +kernel⟩
theorem tw_622 : (Jvm.Cond.code ({ cls := "java/lang/Long", name := "compare", desc := "(JJ)I" } : Jvm.MethodName) prog_8_method_42_code (4 : Nat) (Option.some Jvm.ClassFile.FieldType.int)) ∈ lw_g := List.mem_filter.mpr ⟨List.mem_append_right _ (List.mem_of_getElem? (i := 622) (by decide +kernel)), by decide +kernel⟩
theorem tw_623 : (Jvm.Cond.constantLong "MotionLabModel" (119 : Nat) (2303591209400008704 : Int64)) ∈ lw_g := List.mem_filter.mpr ⟨List.mem_append_right _ (List.mem_of_getElem? (i := 623) (by decide +kernel)), by decide +kernel⟩
theorem tw_624 : (Jvm.Cond.methodLink "MotionLabModel" (121 : Nat) ({ cls := "MotionLabModel", name := "divide", desc := "(JJ)J" } : Jvm.MethodName)) ∈ lw_g := List.mem_filter.mpr ⟨List.mem_append_right _ (List.mem_of_getElem? (i := 624) (by decide +kernel)), by decide +kernel⟩
theorem tw_625 : (Jvm.Cond.static ({ cls := "MotionLabModel", name := "divide", desc := "(JJ)J" } : Jvm.MethodName)) ∈ lw_g := List.mem_filter.mpr ⟨List.mem_append_right _ (List.mem_of_getElem? (i := 625) (by decide +kernel)), by decide +kernel⟩
theorem tw_626 : (Jvm.Cond.code ({ cls := "MotionLabModel", name := "divide", desc := "(JJ)J" } : Jvm.MethodName) prog_6_method_29_code (4 : Nat) (Option.some Jvm.ClassFile.FieldType.long)) ∈ lw_g := List.mem_filter.mpr ⟨List.mem_append_right _ (List.mem_of_getElem? (i := 626) (by decide +kernel)), by decide +kernel⟩
theorem tw_627 : (Jvm.Cond.methodLink "MotionLabModel" (113 : Nat) ({ cls := "MotionLabModel", name := "divide", desc := "(JJI)J" } : Jvm.MethodName)) ∈ lw_g := List.mem_filter.mpr ⟨List.mem_append_right _ (List.mem_of_getElem? (i := 627) (by decide +kernel)), by decide +kernel⟩
theorem tw_628 : (Jvm.Cond.static ({ cls := "MotionLabModel", name := "divide", desc := "(JJI)J" } : Jvm.MethodName)) ∈ lw_g := List.mem_filter.mpr ⟨List.mem_append_right _ (List.mem_of_getElem? (i := 628) (by decide +kernel)), by decide +kernel⟩
theorem tw_629 : (Jvm.Cond.code ({ cls := "MotionLabModel", name := "divide", desc := "(JJI)J" } : Jvm.MethodName) prog_6_method_19_code (16 : Nat) (Option.some Jvm.ClassFile.FieldType.long)) ∈ lw_g := List.mem_filter.mpr ⟨List.mem_append_right _ (List.mem_of_getElem? (i := 629) (by decide +kernel)), by decide +kernel⟩
theorem tw_630 : (Jvm.Cond.constantLong "MotionLabModel" (125 : Nat) (4611686018427387904 : Int64)) ∈ lw_g := List.mem_filter.mpr ⟨List.mem_append_right _ (List.mem_of_getElem? (i := 630) (by decide +kernel)), by decide +kernel⟩
theorem tw_665 : (Jvm.Cond.methodLink "MotionLabModel" (254 : Nat) ({ cls := "MotionLabModel", name := "rest", desc := "(JJI)J" } : Jvm.MethodName)) ∈ lw_g := List.mem_filter.mpr ⟨List.mem_append_right _ (List.mem_of_getElem? (i := 665) (by decide +kernel)), by decide +kernel⟩
theorem tw_666 : (Jvm.Cond.static ({ cls := "MotionLabModel", name := "rest", desc := "(JJI)J" } : Jvm.MethodName)) ∈ lw_g := List.mem_filter.mpr ⟨List.mem_append_right _ (List.mem_of_getElem? (i := 666) (by decide +kernel)), by decide +kernel⟩
theorem tw_667 : (Jvm.Cond.code ({ cls := "MotionLabModel", name := "rest", desc := "(JJI)J" } : Jvm.MethodName) prog_6_method_20_code (13 : Nat) (Option.some Jvm.ClassFile.FieldType.long)) ∈ lw_g := List.mem_filter.mpr ⟨List.mem_append_right _ (List.mem_of_getElem? (i := 667) (by decide +kernel)), by decide +kernel⟩
theorem tw_668 : (Jvm.Cond.methodLink "MotionLabModel" (257 : Nat) ({ cls := "MotionLabModel", name := "end", desc := "(JJZ)J" } : Jvm.MethodName)) ∈ lw_g := List.mem_filter.mpr ⟨List.mem_append_right _ (List.mem_of_getElem? (i := 668) (by decide +kernel)), by decide +kernel⟩
theorem tw_669 : (Jvm.Cond.static ({ cls := "MotionLabModel", name := "end", desc := "(JJZ)J" } : Jvm.MethodName)) ∈ lw_g := List.mem_filter.mpr ⟨List.mem_append_right _ (List.mem_of_getElem? (i := 669) (by decide +kernel)), by decide +kernel⟩
theorem tw_670 : (Jvm.Cond.code ({ cls := "MotionLabModel", name := "end", desc := "(JJZ)J" } : Jvm.MethodName) prog_6_method_49_code (6 : Nat) (Option.some Jvm.ClassFile.FieldType.long)) ∈ lw_g := List.mem_filter.mpr ⟨List.mem_append_right _ (List.mem_of_getElem? (i := 670) (by decide +kernel)), by decide +kernel⟩
end
section
theorem wb_tb (n : Nat) : (lN n).toBitVec = BitVec.ofNat 64 n := rfl
theorem wb_inj {a b : Int64} (h : a.toBitVec = b.toBitVec) : a = b := Int64.toBitVec_inj.mp h
theorem wb_tn {n : Nat} (h : n < 2 ^ 64) : (lN n).toBitVec.toNat = n := by rw [wb_tb, BitVec.toNat_ofNat, Nat.mod_eq_of_lt h]
theorem wb_of (x : Int64) : ∃ n, n < 2 ^ 64 ∧ x = lN n := ⟨x.toBitVec.toNat, x.toBitVec.isLt, wb_inj (by rw [wb_tb]; simp)⟩
theorem wb_of32 (x : Int32) : ∃ n, n < 2 ^ 32 ∧ x = nI n := ⟨x.toBitVec.toNat, x.toBitVec.isLt, Int32.toBitVec_inj.mp (by show _ = BitVec.ofNat 32 _; simp)⟩
theorem wb_c : ∀ k, k < 64 → ((nI k).toInt64 &&& 63) = lN k := by decide +kernel
theorem wb_cu : ∀ k, k < 64 → ((nI k).toInt64.toUInt64 &&& Int64.toUInt64 63) = UInt64.ofNat k := by decide +kernel
theorem wb_sm : ∀ k, k < 64 → (BitVec.ofNat 64 k).smod 64 = BitVec.ofNat 64 k := by decide +kernel
theorem wb_pw {a b : Nat} (h : a ≤ b) : 2 ^ b = 2 ^ a * 2 ^ (b - a) := by rw [← Nat.pow_add]; congr 1; omega
theorem wb_lt2 {a b : Nat} (h : a < b) : 2 ^ a < 2 ^ b := Nat.pow_lt_pow_right (by decide) h
theorem wb_mod (n : Nat) : lN n = lN (n % 2 ^ 64) := wb_inj (by rw [wb_tb, wb_tb]; apply BitVec.eq_of_toNat_eq; rw [BitVec.toNat_ofNat, BitVec.toNat_ofNat, Nat.mod_mod])
theorem wb_shr {n k : Nat} (hn : n < 2 ^ 64) (hk : k < 64) : ((lN n).toUInt64 >>> ((nI k).toInt64.toUInt64 &&& Int64.toUInt64 63)).toInt64 = lN (n / 2 ^ k) := by
  rw [wb_cu k hk]
  apply wb_inj
  apply BitVec.eq_of_toNat_eq
  show ((lN n).toUInt64 >>> UInt64.ofNat k).toNat = (BitVec.ofNat 64 _).toNat
  have h1 : (UInt64.ofNat k).toNat = k := by
    show (BitVec.ofNat 64 k).toNat = k
    rw [BitVec.toNat_ofNat, Nat.mod_eq_of_lt (by omega)]
  have h2 : (lN n).toUInt64.toNat = n := wb_tn hn
  rw [UInt64.toNat_shiftRight, h1, h2, Nat.mod_eq_of_lt hk, Nat.shiftRight_eq_div_pow, BitVec.toNat_ofNat, Nat.mod_eq_of_lt (Nat.lt_of_le_of_lt (Nat.div_le_self _ _) hn)]
theorem wb_shl (n : Nat) {k : Nat} (hk : k < 64) : lN n <<< ((nI k).toInt64 &&& 63) = lN (n * 2 ^ k) := by
  rw [wb_c k hk]
  apply wb_inj
  rw [Int64.toBitVec_shiftLeft, wb_tb, wb_tb, wb_tb, wb_sm k hk]
  apply BitVec.eq_of_toNat_eq
  rw [BitVec.shiftLeft_eq', BitVec.toNat_shiftLeft, BitVec.toNat_ofNat, BitVec.toNat_ofNat, BitVec.toNat_ofNat, Nat.mod_eq_of_lt (show k < 2 ^ 64 by omega), Nat.shiftLeft_eq, Nat.mul_mod, Nat.mod_mod, ← Nat.mul_mod]
theorem wb_and {a b : Nat} (ha : a < 2 ^ 64) (hb : b < 2 ^ 64) : lN a &&& lN b = lN (a &&& b) := by
  apply wb_inj
  rw [Int64.toBitVec_and, wb_tb, wb_tb, wb_tb]
  apply BitVec.eq_of_toNat_eq
  rw [BitVec.toNat_and, BitVec.toNat_ofNat, BitVec.toNat_ofNat, BitVec.toNat_ofNat, Nat.mod_eq_of_lt ha, Nat.mod_eq_of_lt hb, Nat.mod_eq_of_lt (Nat.and_lt_two_pow _ hb)]
theorem wb_or {a b : Nat} (ha : a < 2 ^ 64) (hb : b < 2 ^ 64) : lN a ||| lN b = lN (a ||| b) := by
  apply wb_inj
  rw [Int64.toBitVec_or, wb_tb, wb_tb, wb_tb]
  apply BitVec.eq_of_toNat_eq
  rw [BitVec.toNat_or, BitVec.toNat_ofNat, BitVec.toNat_ofNat, BitVec.toNat_ofNat, Nat.mod_eq_of_lt ha, Nat.mod_eq_of_lt hb, Nat.mod_eq_of_lt (Nat.or_lt_two_pow ha hb)]
theorem wb_mask {n k : Nat} (hn : n < 2 ^ 64) (hk : k < 64) : lN n &&& lN (2 ^ k - 1) = lN (n % 2 ^ k) := by
  rw [wb_and hn (by have := wb_lt2 hk; omega), Nat.and_two_pow_sub_one_eq_mod]
theorem wb_a1 {n : Nat} (hn : n < 2 ^ 64) : lN n &&& 1 = lN (n % 2) := wb_mask (k := 1) hn (by decide)
theorem wb_bit {n k : Nat} (hn : n < 2 ^ 64) (hk : k < 64) : ((lN n).toUInt64 >>> ((nI k).toInt64.toUInt64 &&& Int64.toUInt64 63)).toInt64 &&& 1 = lN (n / 2 ^ k % 2) := by
  rw [wb_shr hn hk, wb_a1 (Nat.lt_of_le_of_lt (Nat.div_le_self _ _) hn)]
theorem wb_xor {q k : Nat} (hk : k < 63) (h : 2 ^ k ≤ q) (h2 : q < 2 ^ (k + 1)) : lN q ^^^ lN (2 ^ k) = lN (q - 2 ^ k) := by
  obtain ⟨r, rfl⟩ : ∃ r, q = 2 ^ k + r := ⟨q - 2 ^ k, by omega⟩
  have hr : r < 2 ^ k := by rw [Nat.pow_succ] at h2; omega
  have hx : (2 ^ k + r) ^^^ 2 ^ k = r := by
    apply Nat.eq_of_testBit_eq
    intro i
    rw [Nat.testBit_xor, Nat.testBit_two_pow]
    rcases Nat.lt_trichotomy i k with h | h | h
    · rw [Nat.testBit_two_pow_add_gt h]
      simp [show ¬ k = i by omega]
    · subst h
      rw [Nat.testBit_two_pow_add_eq]
      simp
    · have a1 : 2 ^ (k + 1) ≤ 2 ^ i := Nat.pow_le_pow_right (by decide) h
      rw [Nat.testBit_lt_two_pow (show 2 ^ k + r < 2 ^ i by omega), Nat.testBit_lt_two_pow (show r < 2 ^ i by omega)]
      simp [show ¬ k = i by omega]
  have b1 := wb_lt2 (show k + 1 < 64 by omega)
  have b2 := wb_lt2 (show k < 64 by omega)
  apply wb_inj
  rw [Int64.toBitVec_xor, wb_tb, wb_tb, wb_tb]
  apply BitVec.eq_of_toNat_eq
  rw [BitVec.toNat_xor, BitVec.toNat_ofNat, BitVec.toNat_ofNat, BitVec.toNat_ofNat, Nat.mod_eq_of_lt (by omega : 2 ^ k + r < 2 ^ 64), Nat.mod_eq_of_lt b2, hx, Nat.add_sub_cancel_left, Nat.mod_eq_of_lt (by omega)]
/-! OUR OWN ROWS: ints and longs as whole numbers -/
def iZ (z : Int) : Int32 := Int32.ofInt z
theorem iZ_nI (n : Nat) : iZ n = nI n := Int32.ofInt_eq_ofNat
theorem iZ_add (a b : Int) : iZ a + iZ b = iZ (a + b) := (Int32.ofInt_add a b).symm
theorem iZ_sub (a b : Int) : iZ a - iZ b = iZ (a - b) := (Int32.ofInt_sub a b).symm
theorem iZ_mul (a b : Int) : iZ a * iZ b = iZ (a * b) := (Int32.ofInt_mul a b).symm
theorem iZ_neg (a : Int) : -iZ a = iZ (-a) := (Int32.ofInt_neg a).symm
theorem iZ_of (x : Int32) : iZ x.toInt = x := Int32.ofInt_toInt x
theorem iZ_toInt {a : Int} (h1 : -2147483648 ≤ a) (h2 : a < 2147483648) : (iZ a).toInt = a := Int32.toInt_ofInt_of_le (by omega) (by omega)
theorem iZ_lt {a b : Int} (h1 : -2147483648 ≤ a) (h2 : a < 2147483648) (h3 : -2147483648 ≤ b) (h4 : b < 2147483648) : iZ a < iZ b ↔ a < b := by
  rw [Int32.lt_iff_toInt_lt, iZ_toInt h1 h2, iZ_toInt h3 h4]
theorem iZ_le {a b : Int} (h1 : -2147483648 ≤ a) (h2 : a < 2147483648) (h3 : -2147483648 ≤ b) (h4 : b < 2147483648) : iZ a ≤ iZ b ↔ a ≤ b := by
  rw [Int32.le_iff_toInt_le, iZ_toInt h1 h2, iZ_toInt h3 h4]
theorem iZ_eq {a b : Int} (h1 : -2147483648 ≤ a) (h2 : a < 2147483648) (h3 : -2147483648 ≤ b) (h4 : b < 2147483648) : iZ a = iZ b ↔ a = b := by
  rw [← Int32.toInt_inj, iZ_toInt h1 h2, iZ_toInt h3 h4]
theorem ti_add {a b : Int32} (h1 : -2147483648 ≤ a.toInt + b.toInt) (h2 : a.toInt + b.toInt < 2147483648) : (a + b).toInt = a.toInt + b.toInt := by
  have e : iZ (a.toInt + b.toInt) = a + b := by rw [← iZ_add, iZ_of, iZ_of]
  rw [← e]; exact iZ_toInt h1 h2
theorem ti_mul {a b : Int32} (h1 : -2147483648 ≤ a.toInt * b.toInt) (h2 : a.toInt * b.toInt < 2147483648) : (a * b).toInt = a.toInt * b.toInt := by
  have e : iZ (a.toInt * b.toInt) = a * b := by rw [← iZ_mul, iZ_of, iZ_of]
  rw [← e]; exact iZ_toInt h1 h2
theorem in_of {i : Int32} {n : Nat} (h0 : 0 ≤ i.toInt) (h1 : i.toInt < n) : vp_in i n := by
  intro h
  rcases h with h | h
  · rw [Int32.lt_iff_toInt_lt] at h
    have : (0 : Int32).toInt = 0 := rfl
    omega
  · have : (i.toNatClampNeg : Int) = i.toInt := by
      show ((i.toInt.toNat : Nat) : Int) = _
      omega
    omega
theorem in_to {i : Int32} {n : Nat} (h : vp_in i n) : 0 ≤ i.toInt ∧ i.toInt < n ∧ (i.toNatClampNeg : Int) = i.toInt := by
  have h0 : ¬ i < 0 := fun c => h (Or.inl c)
  have h1 : ¬ n ≤ i.toNatClampNeg := fun c => h (Or.inr c)
  rw [Int32.lt_iff_toInt_lt] at h0
  have z : (0 : Int32).toInt = 0 := rfl
  have e : (i.toNatClampNeg : Int) = i.toInt := by
    show ((i.toInt.toNat : Nat) : Int) = _
    omega
  omega
theorem in_w {i : Int32} {n k : Nat} (h : vp_in i n) (hk : n ≤ k) : vp_in i k := by
  obtain ⟨a, b, c⟩ := in_to h
  exact in_of a (by omega)
theorem in_al {c i : Int32} {k n : Nat} (h : vp_in i k) (hc : 0 ≤ c.toInt ∧ c.toInt + k ≤ n ∧ n < 2147483648) : vp_in (c + i) n := by
  obtain ⟨a, b, d⟩ := in_to h
  have e := ti_add (a := c) (b := i) (by omega) (by omega)
  exact in_of (by omega) (by omega)
theorem in_ml {c i : Int32} {k n : Nat} (h : vp_in i k) (hc : 0 < c.toInt ∧ c.toInt * k ≤ n ∧ n < 2147483648) : vp_in (i * c) n := by
  obtain ⟨a, b, d⟩ := in_to h
  have m1 : 0 ≤ i.toInt * c.toInt := Int.mul_nonneg a (by omega)
  have m2 : (i.toInt + 1) * c.toInt ≤ k * c.toInt := Int.mul_le_mul_of_nonneg_right (by omega) (by omega)
  rw [Int.add_mul, Int.one_mul] at m2
  rw [Int.mul_comm (k : Int)] at m2
  have e := ti_mul (a := i) (b := c) (by omega) (by omega)
  exact in_of (by omega) (by omega)
theorem in_mla {c i d : Int32} {k n : Nat} (h : vp_in i k) (hc : 0 < c.toInt ∧ 0 ≤ d.toInt ∧ d.toInt < c.toInt ∧ c.toInt * k ≤ n ∧ n < 2147483648) : vp_in (i * c + d) n := by
  obtain ⟨a, b, f⟩ := in_to h
  have m1 : 0 ≤ i.toInt * c.toInt := Int.mul_nonneg a (by omega)
  have m2 : (i.toInt + 1) * c.toInt ≤ k * c.toInt := Int.mul_le_mul_of_nonneg_right (by omega) (by omega)
  rw [Int.add_mul, Int.one_mul] at m2
  rw [Int.mul_comm (k : Int)] at m2
  have e := ti_mul (a := i) (b := c) (by omega) (by omega)
  have e2 := ti_add (a := i * c) (b := d) (by omega) (by omega)
  exact in_of (by omega) (by omega)
theorem in_rb {w b : Int32} (hw : vp_in w 6) (hb : vp_in b 8) : vp_in (w * 8 + b) 64 := by
  obtain ⟨a1, b1, c1⟩ := in_to hw
  obtain ⟨a2, b2, c2⟩ := in_to hb
  have z : (8 : Int32).toInt = 8 := rfl
  have e := ti_mul (a := w) (b := 8) (by rw [z]; omega) (by rw [z]; omega)
  rw [z] at e
  have e2 := ti_add (a := w * 8) (b := b) (by omega) (by omega)
  exact in_of (by omega) (by omega)
-- longs
theorem l_of (x : Int64) : ∃ n, n < 2 ^ 64 ∧ x = lN n := ⟨x.toBitVec.toNat, x.toBitVec.isLt, Int64.toBitVec_inj.mp (by show _ = BitVec.ofNat 64 _; simp)⟩
theorem l_lt {a b : Nat} (ha : a < 2 ^ 63) (hb : b < 2 ^ 63) : lN a < lN b ↔ a < b := by
  rw [Int64.lt_iff_toInt_lt]
  have h1 : (lN a).toInt = a := lg_ofNat_toInt ha
  have h2 : (lN b).toInt = b := lg_ofNat_toInt hb
  rw [h1, h2]; omega
theorem l_le {a b : Nat} (ha : a < 2 ^ 63) (hb : b < 2 ^ 63) : lN a ≤ lN b ↔ a ≤ b := by
  rw [Int64.le_iff_toInt_le]
  have h1 : (lN a).toInt = a := lg_ofNat_toInt ha
  have h2 : (lN b).toInt = b := lg_ofNat_toInt hb
  rw [h1, h2]; omega
theorem l_tn {n : Nat} (h : n < 2 ^ 64) : (lN n).toBitVec.toNat = n := by
  show (BitVec.ofNat 64 n).toNat = n
  rw [BitVec.toNat_ofNat, Nat.mod_eq_of_lt h]
theorem l_eq {a b : Nat} (ha : a < 2 ^ 64) (hb : b < 2 ^ 64) : lN a = lN b ↔ a = b := by
  refine ⟨fun h => ?_, fun h => by rw [h]⟩
  have := congrArg (fun x : Int64 => x.toBitVec.toNat) h
  simp only [l_tn ha, l_tn hb] at this
  exact this
theorem l_toInt {m : Nat} (h : m < 2 ^ 64) : (lN m).toInt = if m < 2 ^ 63 then (m : Int) else (m : Int) - 2 ^ 64 := by
  have e : (lN m).toInt = (lN m).toBitVec.toInt := rfl
  rw [e, BitVec.toInt_eq_toNat_cond, l_tn h]
  split <;> split <;> omega
theorem l_neg {a : Nat} (h : a < 2 ^ 64) : lN a < 0 ↔ 2 ^ 63 ≤ a := by
  rw [Int64.lt_iff_toInt_lt, l_toInt h]
  have : (0 : Int64).toInt = 0 := rfl
  rw [this]; split <;> omega
-- counters of loops
theorem fl_first {d : Int32} : ∃ j : Nat, (0 : Int32) = nI j ∧ j ≤ d.toNatClampNeg ∧ d.toNatClampNeg - j < d.toNatClampNeg + 1 := ⟨0, rfl, Nat.zero_le _, by omega⟩
theorem fl_zero {x d : Int32} (h : ∃ j : Nat, x = nI j ∧ j ≤ d.toNatClampNeg ∧ d.toNatClampNeg - j < 0) : False := by
  obtain ⟨j, _, _, h⟩ := h; omega
theorem fl_up {x d : Int32} {n : Nat} (h : ∃ j : Nat, x = nI j ∧ j ≤ d.toNatClampNeg ∧ d.toNatClampNeg - j < n + 1) (c : ¬ d ≤ x) : ∃ j : Nat, x + 1 = nI j ∧ j ≤ d.toNatClampNeg ∧ d.toNatClampNeg - j < n := by
  obtain ⟨j, h1, h2, h3⟩ := h
  have hd := Int32.toNatClampNeg_lt d
  have hj : (nI j).toInt = j := nI_toInt (by omega)
  rw [Int32.le_iff_toInt_le, h1, hj] at c
  have hc : (d.toNatClampNeg : Int) = d.toInt := by
    show ((d.toInt.toNat : Nat) : Int) = _
    omega
  exact ⟨j + 1, by rw [h1]; exact nI_1 j, by omega, by omega⟩
theorem fl_dn {x : Int32} {n : Nat} (h : x.toNatClampNeg < n + 1) (c : ¬ x ≤ 0) : (x + (-10)).toNatClampNeg < n := by
  rw [Int32.le_iff_toInt_le] at c
  have z : (0 : Int32).toInt = 0 := rfl
  have t : (-10 : Int32).toInt = -10 := rfl
  have hx := Int32.toInt_lt x
  have e := ti_add (a := x) (b := -10) (by omega) (by omega)
  have e1 : (x.toNatClampNeg : Int) = x.toInt := by
    show ((x.toInt.toNat : Nat) : Int) = _
    omega
  have e2 : ((x + (-10)).toNatClampNeg) = (x + (-10)).toInt.toNat := rfl
  omega
-- compares of longs that are not below 0
theorem c_lt {a b : Nat} (ha : a < 2 ^ 63) (hb : b < 2 ^ 63) : lg_cmp (lN a) (lN b) < 0 ↔ a < b := (lg_cmp_lt _ _).trans (l_lt ha hb)
theorem c_le {a b : Nat} (ha : a < 2 ^ 63) (hb : b < 2 ^ 63) : lg_cmp (lN a) (lN b) ≤ 0 ↔ a ≤ b := (lg_cmp_le _ _).trans (l_le ha hb)
theorem c_gt {a b : Nat} (ha : a < 2 ^ 63) (hb : b < 2 ^ 63) : 0 < lg_cmp (lN a) (lN b) ↔ b < a := (lg_cmp_gt _ _).trans (l_lt hb ha)
theorem c_ge {a b : Nat} (ha : a < 2 ^ 63) (hb : b < 2 ^ 63) : 0 ≤ lg_cmp (lN a) (lN b) ↔ b ≤ a := (lg_cmp_ge _ _).trans (l_le hb ha)
theorem c_eq {a b : Nat} (ha : a < 2 ^ 64) (hb : b < 2 ^ 64) : lg_cmp (lN a) (lN b) = 0 ↔ a = b := (lg_cmp_eq _ _).trans (l_eq ha hb)
-- shifts
theorem w_shl (n : Nat) {k : Nat} (hk : k < 64) : j_shl (lN n) (nI k) = lN (n * 2 ^ k) := wb_shl n hk
theorem w_ushr {n k : Nat} (hn : n < 2 ^ 64) (hk : k < 64) : j_ushr (lN n) (nI k) = lN (n / 2 ^ k) := wb_shr hn hk
theorem w_shr {n k : Nat} (hn : n < 2 ^ 63) (hk : k < 64) : j_shr (lN n) (nI k) = lN (n / 2 ^ k) := by
  have hd : n / 2 ^ k ≤ n := Nat.div_le_self _ _
  unfold j_shr; rw [wb_c k hk]
  apply Int64.toInt_inj.mp
  have hD : ((lN k).toBitVec.smod 64).toNat = k := by
    rw [wb_tb, wb_sm k hk, BitVec.toNat_ofNat, Nat.mod_eq_of_lt (by omega)]
  have e : (lN n >>> lN k).toInt = (lN n).toInt >>> ((lN k).toBitVec.smod 64).toNat := BitVec.toInt_sshiftRight ..
  have p1 : (lN n).toInt = (n : Int) := lg_ofNat_toInt hn
  have p2 : (lN (n / 2 ^ k)).toInt = ((n / 2 ^ k : Nat) : Int) := lg_ofNat_toInt (by omega)
  rw [e, hD, Int.shiftRight_eq_div_pow, p1, p2]
  rfl
theorem w_xor {a b : Nat} (ha : a < 2 ^ 64) (hb : b < 2 ^ 64) : lN a ^^^ lN b = lN (a ^^^ b) := by
  apply wb_inj
  rw [Int64.toBitVec_xor, wb_tb, wb_tb, wb_tb]
  apply BitVec.eq_of_toNat_eq
  rw [BitVec.toNat_xor, BitVec.toNat_ofNat, BitVec.toNat_ofNat, BitVec.toNat_ofNat, Nat.mod_eq_of_lt ha, Nat.mod_eq_of_lt hb, Nat.mod_eq_of_lt (Nat.xor_lt_two_pow ha hb)]
theorem w_neg {a : Nat} (h0 : 0 < a) (ha : a ≤ 2 ^ 64) : -lN a = lN (2 ^ 64 - a) := by
  apply wb_inj
  rw [Int64.toBitVec_neg, wb_tb, wb_tb]
  apply BitVec.eq_of_toNat_eq
  rw [BitVec.toNat_neg, BitVec.toNat_ofNat, BitVec.toNat_ofNat]
  rcases Nat.eq_or_lt_of_le ha with c | c
  · subst c; decide
  · rw [Nat.mod_eq_of_lt c]
-- a bit above and what is below it
theorem n_or {k a b : Nat} (ha : a < 2 ^ k) : b * 2 ^ k ||| a = b * 2 ^ k + a := by rw [← Nat.shiftLeft_eq, Nat.shiftLeft_add_eq_or_of_lt ha]
theorem n_and_hi {a : Nat} (h : a < 2 ^ 64) : a &&& 2 ^ 63 = a / 2 ^ 63 * 2 ^ 63 := by
  apply Nat.eq_of_testBit_eq
  intro i
  rw [Nat.testBit_and, Nat.testBit_two_pow, Nat.testBit_mul_two_pow, Nat.testBit_div_two_pow]
  rcases Nat.lt_trichotomy i 63 with c | c | c
  · simp [show ¬ 63 = i by omega, show ¬ 63 ≤ i by omega]
  · subst c; simp
  · have : a.testBit (i - 63 + 63) = false := Nat.testBit_lt_two_pow (Nat.lt_of_lt_of_le h (Nat.pow_le_pow_right (by decide) (by omega)))
    simp [show ¬ 63 = i by omega, this]
end
section
-- ===== MotionLab$Plane.isBody(I)Z
abbrev y_P_isBody_I : MethodName := ⟨"MotionLab$Plane", "isBody", "(I)Z"⟩
abbrev b_P_isBody_I : ByteArray := prog_3_method_2_code
theorem d_P_isBody_I_0 : decode b_P_isBody_I 0 = .ok (.iload_n 0, 1) := by decide +kernel
theorem d_P_isBody_I_1 : decode b_P_isBody_I 1 = .ok (.ifCond .lt 13, 3) := by decide +kernel
theorem d_P_isBody_I_4 : decode b_P_isBody_I 4 = .ok (.iload_n 0, 1) := by decide +kernel
theorem d_P_isBody_I_5 : decode b_P_isBody_I 5 = .ok (.bipush 8, 2) := by decide +kernel
theorem d_P_isBody_I_7 : decode b_P_isBody_I 7 = .ok (.if_icmp .ge 7, 3) := by decide +kernel
theorem d_P_isBody_I_10 : decode b_P_isBody_I 10 = .ok (.iconst 1, 1) := by decide +kernel
theorem d_P_isBody_I_11 : decode b_P_isBody_I 11 = .ok (.goto 4, 3) := by decide +kernel
theorem d_P_isBody_I_14 : decode b_P_isBody_I 14 = .ok (.iconst 0, 1) := by decide +kernel
theorem d_P_isBody_I_15 : decode b_P_isBody_I 15 = .ok (.ireturn, 1) := by decide +kernel
def f_P_isBody_I (x0 : Int32) : Int32 :=
  if x0 < 0 then
    (0 : Int32)
  else
    if (8 : Int32) ≤ x0 then
      (0 : Int32)
    else
      (1 : Int32)
set_option maxHeartbeats 4000000 in
set_option maxRecDepth 100000 in
theorem c_P_isBody_I (l : Launch) (h : Heap) (x0 : Int32) : Met l y_P_isBody_I (gw y_P_isBody_I b_P_isBody_I 1 (some .boolean)) { frames := 0, cells := 0, slots := 0, locals := 0 } (pu_Pc [.int x0] h) (pu_Mi (f_P_isBody_I x0) h) 0 0 (fun _ => False) := by
  refine Met.ofW (cc := b_P_isBody_I) (maxL := 1) (ret := (some .boolean)) (by decide) rfl ?_
  intro p e s m args below meth c s₁ B hml hv
  obtain ⟨rfl, hh⟩ := hv
  subst hh
  have hx := B.exec
  have hb := B.bytes
  have hr := B.returns
  have hts := atoms_spec (ws := (gw y_P_isBody_I b_P_isBody_I 1 (some .boolean))) B.pre
  have hown : s.vm.findClass "MotionLab$Plane" = some m.cls := findClass_of_methodNamed B.named
  have hlocks := B.notSynchronized
  have C0 : pu_C p s m _ meth c b_P_isBody_I 1 "MotionLab$Plane" (some .boolean) (gw y_P_isBody_I b_P_isBody_I 1 (some .boolean)) := ⟨hx, hb, hml, hown, hts, hr, hlocks⟩
  have hl := lv_entry ([.int x0]) (n := 1) (Nat.le_of_ble_eq_true rfl)
  rw [lg_entry_eq]
  generalize (lg_sl ([.int x0]) ++ List.replicate (1 - (lg_sl ([.int x0])).length) Slot.unset).toArray = ls at hl ⊢
  have hl : lv_has ls 1 [(0, .int x0)] := hl
  refine lv_iload_n hx hb d_P_isBody_I_0 rfl (lv_at hl 0 rfl) ?_
  refine lv_if_lt (tgt := 14) hx hb d_P_isBody_I_1 (by decide) (fun c1 => ?_) (fun c1 => ?_)
  · refine lv_iconst (v := 0) hx hb d_P_isBody_I_14 (by decide) ?_
    exact pu_zret hx hb hr rfl hlocks d_P_isBody_I_15 (by exact Eq.symm (if_pos c1))
  · refine lv_iload_n hx hb d_P_isBody_I_4 rfl (lv_at hl 0 rfl) ?_
    refine lv_bipush (v := (8 : Int32)) hx hb d_P_isBody_I_5 (by decide) ?_
    refine lv_icmp_ge (tgt := 14) hx hb d_P_isBody_I_7 (by decide) (fun c2 => ?_) (fun c2 => ?_)
    · refine lv_iconst (v := 0) hx hb d_P_isBody_I_14 (by decide) ?_
      exact pu_zret hx hb hr rfl hlocks d_P_isBody_I_15 (by exact Eq.symm (Eq.trans (if_neg c1) (if_pos c2)))
    · refine lv_iconst (v := 1) hx hb d_P_isBody_I_10 (by decide) ?_
      refine lv_goto (tgt := 15) hx hb d_P_isBody_I_11 (by decide) ?_
      exact pu_zret hx hb hr rfl hlocks d_P_isBody_I_15 (by exact Eq.symm (Eq.trans (if_neg c1) (if_neg c2)))
-- ===== MotionLab$Plane.isBodyNumber(I)Z
abbrev y_P_isBodyNumber_I : MethodName := ⟨"MotionLab$Plane", "isBodyNumber", "(I)Z"⟩
abbrev b_P_isBodyNumber_I : ByteArray := prog_3_method_3_code
theorem d_P_isBodyNumber_I_0 : decode b_P_isBodyNumber_I 0 = .ok (.iload_n 0, 1) := by decide +kernel
theorem d_P_isBodyNumber_I_1 : decode b_P_isBodyNumber_I 1 = .ok (.ifCond .lt 13, 3) := by decide +kernel
theorem d_P_isBodyNumber_I_4 : decode b_P_isBodyNumber_I 4 = .ok (.iload_n 0, 1) := by decide +kernel
theorem d_P_isBodyNumber_I_5 : decode b_P_isBodyNumber_I 5 = .ok (.bipush 6, 2) := by decide +kernel
theorem d_P_isBodyNumber_I_7 : decode b_P_isBodyNumber_I 7 = .ok (.if_icmp .ge 7, 3) := by decide +kernel
theorem d_P_isBodyNumber_I_10 : decode b_P_isBodyNumber_I 10 = .ok (.iconst 1, 1) := by decide +kernel
theorem d_P_isBodyNumber_I_11 : decode b_P_isBodyNumber_I 11 = .ok (.goto 4, 3) := by decide +kernel
theorem d_P_isBodyNumber_I_14 : decode b_P_isBodyNumber_I 14 = .ok (.iconst 0, 1) := by decide +kernel
theorem d_P_isBodyNumber_I_15 : decode b_P_isBodyNumber_I 15 = .ok (.ireturn, 1) := by decide +kernel
def f_P_isBodyNumber_I (x0 : Int32) : Int32 :=
  if x0 < 0 then
    (0 : Int32)
  else
    if (6 : Int32) ≤ x0 then
      (0 : Int32)
    else
      (1 : Int32)
set_option maxHeartbeats 4000000 in
set_option maxRecDepth 100000 in
theorem c_P_isBodyNumber_I (l : Launch) (h : Heap) (x0 : Int32) : Met l y_P_isBodyNumber_I (gw y_P_isBodyNumber_I b_P_isBodyNumber_I 1 (some .boolean)) { frames := 0, cells := 0, slots := 0, locals := 0 } (pu_Pc [.int x0] h) (pu_Mi (f_P_isBodyNumber_I x0) h) 0 0 (fun _ => False) := by
  refine Met.ofW (cc := b_P_isBodyNumber_I) (maxL := 1) (ret := (some .boolean)) (by decide) rfl ?_
  intro p e s m args below meth c s₁ B hml hv
  obtain ⟨rfl, hh⟩ := hv
  subst hh
  have hx := B.exec
  have hb := B.bytes
  have hr := B.returns
  have hts := atoms_spec (ws := (gw y_P_isBodyNumber_I b_P_isBodyNumber_I 1 (some .boolean))) B.pre
  have hown : s.vm.findClass "MotionLab$Plane" = some m.cls := findClass_of_methodNamed B.named
  have hlocks := B.notSynchronized
  have C0 : pu_C p s m _ meth c b_P_isBodyNumber_I 1 "MotionLab$Plane" (some .boolean) (gw y_P_isBodyNumber_I b_P_isBodyNumber_I 1 (some .boolean)) := ⟨hx, hb, hml, hown, hts, hr, hlocks⟩
  have hl := lv_entry ([.int x0]) (n := 1) (Nat.le_of_ble_eq_true rfl)
  rw [lg_entry_eq]
  generalize (lg_sl ([.int x0]) ++ List.replicate (1 - (lg_sl ([.int x0])).length) Slot.unset).toArray = ls at hl ⊢
  have hl : lv_has ls 1 [(0, .int x0)] := hl
  refine lv_iload_n hx hb d_P_isBodyNumber_I_0 rfl (lv_at hl 0 rfl) ?_
  refine lv_if_lt (tgt := 14) hx hb d_P_isBodyNumber_I_1 (by decide) (fun c1 => ?_) (fun c1 => ?_)
  · refine lv_iconst (v := 0) hx hb d_P_isBodyNumber_I_14 (by decide) ?_
    exact pu_zret hx hb hr rfl hlocks d_P_isBodyNumber_I_15 (by exact Eq.symm (if_pos c1))
  · refine lv_iload_n hx hb d_P_isBodyNumber_I_4 rfl (lv_at hl 0 rfl) ?_
    refine lv_bipush (v := (6 : Int32)) hx hb d_P_isBodyNumber_I_5 (by decide) ?_
    refine lv_icmp_ge (tgt := 14) hx hb d_P_isBodyNumber_I_7 (by decide) (fun c2 => ?_) (fun c2 => ?_)
    · refine lv_iconst (v := 0) hx hb d_P_isBodyNumber_I_14 (by decide) ?_
      exact pu_zret hx hb hr rfl hlocks d_P_isBodyNumber_I_15 (by exact Eq.symm (Eq.trans (if_neg c1) (if_pos c2)))
    · refine lv_iconst (v := 1) hx hb d_P_isBodyNumber_I_10 (by decide) ?_
      refine lv_goto (tgt := 15) hx hb d_P_isBodyNumber_I_11 (by decide) ?_
      exact pu_zret hx hb hr rfl hlocks d_P_isBodyNumber_I_15 (by exact Eq.symm (Eq.trans (if_neg c1) (if_neg c2)))
-- ===== MotionLab$Ieee.isFinite(J)Z
abbrev y_I_isFinite_J : MethodName := ⟨"MotionLab$Ieee", "isFinite", "(J)Z"⟩
abbrev b_I_isFinite_J : ByteArray := prog_2_method_5_code
theorem d_I_isFinite_J_0 : decode b_I_isFinite_J 0 = .ok (.lload_n 0, 1) := by decide +kernel
theorem d_I_isFinite_J_1 : decode b_I_isFinite_J 1 = .ok (.ldc2_w 9, 3) := by decide +kernel
theorem d_I_isFinite_J_4 : decode b_I_isFinite_J 4 = .ok (.land, 1) := by decide +kernel
theorem d_I_isFinite_J_5 : decode b_I_isFinite_J 5 = .ok (.ldc2_w 11, 3) := by decide +kernel
theorem d_I_isFinite_J_8 : decode b_I_isFinite_J 8 = .ok (.lcmp, 1) := by decide +kernel
theorem d_I_isFinite_J_9 : decode b_I_isFinite_J 9 = .ok (.ifCond .ge 7, 3) := by decide +kernel
theorem d_I_isFinite_J_12 : decode b_I_isFinite_J 12 = .ok (.iconst 1, 1) := by decide +kernel
theorem d_I_isFinite_J_13 : decode b_I_isFinite_J 13 = .ok (.goto 4, 3) := by decide +kernel
theorem d_I_isFinite_J_16 : decode b_I_isFinite_J 16 = .ok (.iconst 0, 1) := by decide +kernel
theorem d_I_isFinite_J_17 : decode b_I_isFinite_J 17 = .ok (.ireturn, 1) := by decide +kernel
def f_I_isFinite_J (x0 : Int64) : Int32 :=
  if 0 ≤ (lg_cmp (x0 &&& (9223372036854775807 : Int64)) (9218868437227405312 : Int64)) then
    (0 : Int32)
  else
    (1 : Int32)
set_option maxHeartbeats 4000000 in
set_option maxRecDepth 100000 in
theorem c_I_isFinite_J (l : Launch) (h : Heap) (x0 : Int64) : Met l y_I_isFinite_J (gw y_I_isFinite_J b_I_isFinite_J 2 (some .boolean)) { frames := 0, cells := 0, slots := 0, locals := 0 } (pu_Pc [.long x0] h) (pu_Mi (f_I_isFinite_J x0) h) 0 0 (fun _ => False) := by
  refine Met.ofW (cc := b_I_isFinite_J) (maxL := 2) (ret := (some .boolean)) (by decide) rfl ?_
  intro p e s m args below meth c s₁ B hml hv
  obtain ⟨rfl, hh⟩ := hv
  subst hh
  have hx := B.exec
  have hb := B.bytes
  have hr := B.returns
  have hts := atoms_spec (ws := (gw y_I_isFinite_J b_I_isFinite_J 2 (some .boolean))) B.pre
  have hown : s.vm.findClass "MotionLab$Ieee" = some m.cls := findClass_of_methodNamed B.named
  have hlocks := B.notSynchronized
  have C0 : pu_C p s m _ meth c b_I_isFinite_J 2 "MotionLab$Ieee" (some .boolean) (gw y_I_isFinite_J b_I_isFinite_J 2 (some .boolean)) := ⟨hx, hb, hml, hown, hts, hr, hlocks⟩
  have hl := lv_entry ([.long x0]) (n := 2) (Nat.le_of_ble_eq_true rfl)
  rw [lg_entry_eq]
  generalize (lg_sl ([.long x0]) ++ List.replicate (2 - (lg_sl ([.long x0])).length) Slot.unset).toArray = ls at hl ⊢
  have hl : lv_has ls 2 [(0, .long x0)] := hl
  refine lv_lload_n hx hb d_I_isFinite_J_0 rfl (lv_at hl 0 rfl) ?_
  refine lv_ldc2 (v := (9223372036854775807 : Int64)) hx hb hown (hts _ (gm tw_84)) d_I_isFinite_J_1 ?_
  refine lv_land hx hb d_I_isFinite_J_4 ?_
  refine lv_ldc2 (v := (9218868437227405312 : Int64)) hx hb hown (hts _ (gm tw_85)) d_I_isFinite_J_5 ?_
  refine W.lcmp hx hb d_I_isFinite_J_8 ?_
  refine lv_if_ge (tgt := 16) hx hb d_I_isFinite_J_9 (by decide) (fun c1 => ?_) (fun c1 => ?_)
  · refine lv_iconst (v := 0) hx hb d_I_isFinite_J_16 (by decide) ?_
    exact pu_zret hx hb hr rfl hlocks d_I_isFinite_J_17 (by exact Eq.symm (if_pos c1))
  · refine lv_iconst (v := 1) hx hb d_I_isFinite_J_12 (by decide) ?_
    refine lv_goto (tgt := 17) hx hb d_I_isFinite_J_13 (by decide) ?_
    exact pu_zret hx hb hr rfl hlocks d_I_isFinite_J_17 (by exact Eq.symm (if_neg c1))
-- ===== MotionLab$Ieee.isNoNumber(J)Z
abbrev y_I_isNoNumber_J : MethodName := ⟨"MotionLab$Ieee", "isNoNumber", "(J)Z"⟩
abbrev b_I_isNoNumber_J : ByteArray := prog_2_method_2_code
theorem d_I_isNoNumber_J_0 : decode b_I_isNoNumber_J 0 = .ok (.lload_n 0, 1) := by decide +kernel
theorem d_I_isNoNumber_J_1 : decode b_I_isNoNumber_J 1 = .ok (.ldc2_w 9, 3) := by decide +kernel
theorem d_I_isNoNumber_J_4 : decode b_I_isNoNumber_J 4 = .ok (.land, 1) := by decide +kernel
theorem d_I_isNoNumber_J_5 : decode b_I_isNoNumber_J 5 = .ok (.ldc2_w 11, 3) := by decide +kernel
theorem d_I_isNoNumber_J_8 : decode b_I_isNoNumber_J 8 = .ok (.lcmp, 1) := by decide +kernel
theorem d_I_isNoNumber_J_9 : decode b_I_isNoNumber_J 9 = .ok (.ifCond .le 7, 3) := by decide +kernel
theorem d_I_isNoNumber_J_12 : decode b_I_isNoNumber_J 12 = .ok (.iconst 1, 1) := by decide +kernel
theorem d_I_isNoNumber_J_13 : decode b_I_isNoNumber_J 13 = .ok (.goto 4, 3) := by decide +kernel
theorem d_I_isNoNumber_J_16 : decode b_I_isNoNumber_J 16 = .ok (.iconst 0, 1) := by decide +kernel
theorem d_I_isNoNumber_J_17 : decode b_I_isNoNumber_J 17 = .ok (.ireturn, 1) := by decide +kernel
def f_I_isNoNumber_J (x0 : Int64) : Int32 :=
  if (lg_cmp (x0 &&& (9223372036854775807 : Int64)) (9218868437227405312 : Int64)) ≤ 0 then
    (0 : Int32)
  else
    (1 : Int32)
set_option maxHeartbeats 4000000 in
set_option maxRecDepth 100000 in
theorem c_I_isNoNumber_J (l : Launch) (h : Heap) (x0 : Int64) : Met l y_I_isNoNumber_J (gw y_I_isNoNumber_J b_I_isNoNumber_J 2 (some .boolean)) { frames := 0, cells := 0, slots := 0, locals := 0 } (pu_Pc [.long x0] h) (pu_Mi (f_I_isNoNumber_J x0) h) 0 0 (fun _ => False) := by
  refine Met.ofW (cc := b_I_isNoNumber_J) (maxL := 2) (ret := (some .boolean)) (by decide) rfl ?_
  intro p e s m args below meth c s₁ B hml hv
  obtain ⟨rfl, hh⟩ := hv
  subst hh
  have hx := B.exec
  have hb := B.bytes
  have hr := B.returns
  have hts := atoms_spec (ws := (gw y_I_isNoNumber_J b_I_isNoNumber_J 2 (some .boolean))) B.pre
  have hown : s.vm.findClass "MotionLab$Ieee" = some m.cls := findClass_of_methodNamed B.named
  have hlocks := B.notSynchronized
  have C0 : pu_C p s m _ meth c b_I_isNoNumber_J 2 "MotionLab$Ieee" (some .boolean) (gw y_I_isNoNumber_J b_I_isNoNumber_J 2 (some .boolean)) := ⟨hx, hb, hml, hown, hts, hr, hlocks⟩
  have hl := lv_entry ([.long x0]) (n := 2) (Nat.le_of_ble_eq_true rfl)
  rw [lg_entry_eq]
  generalize (lg_sl ([.long x0]) ++ List.replicate (2 - (lg_sl ([.long x0])).length) Slot.unset).toArray = ls at hl ⊢
  have hl : lv_has ls 2 [(0, .long x0)] := hl
  refine lv_lload_n hx hb d_I_isNoNumber_J_0 rfl (lv_at hl 0 rfl) ?_
  refine lv_ldc2 (v := (9223372036854775807 : Int64)) hx hb hown (hts _ (gm tw_84)) d_I_isNoNumber_J_1 ?_
  refine lv_land hx hb d_I_isNoNumber_J_4 ?_
  refine lv_ldc2 (v := (9218868437227405312 : Int64)) hx hb hown (hts _ (gm tw_85)) d_I_isNoNumber_J_5 ?_
  refine W.lcmp hx hb d_I_isNoNumber_J_8 ?_
  refine lv_if_le (tgt := 16) hx hb d_I_isNoNumber_J_9 (by decide) (fun c1 => ?_) (fun c1 => ?_)
  · refine lv_iconst (v := 0) hx hb d_I_isNoNumber_J_16 (by decide) ?_
    exact pu_zret hx hb hr rfl hlocks d_I_isNoNumber_J_17 (by exact Eq.symm (if_pos c1))
  · refine lv_iconst (v := 1) hx hb d_I_isNoNumber_J_12 (by decide) ?_
    refine lv_goto (tgt := 17) hx hb d_I_isNoNumber_J_13 (by decide) ?_
    exact pu_zret hx hb hr rfl hlocks d_I_isNoNumber_J_17 (by exact Eq.symm (if_neg c1))
-- ===== MotionLab$Ieee.told(J)J
abbrev y_I_told_J : MethodName := ⟨"MotionLab$Ieee", "told", "(J)J"⟩
abbrev b_I_told_J : ByteArray := prog_2_method_6_code
theorem d_I_told_J_0 : decode b_I_told_J 0 = .ok (.lload_n 0, 1) := by decide +kernel
theorem d_I_told_J_1 : decode b_I_told_J 1 = .ok (.invokestatic 13, 3) := by decide +kernel
theorem d_I_told_J_4 : decode b_I_told_J 4 = .ok (.ifCond .eq 9, 3) := by decide +kernel
theorem d_I_told_J_7 : decode b_I_told_J 7 = .ok (.ldc2_w 17, 3) := by decide +kernel
theorem d_I_told_J_10 : decode b_I_told_J 10 = .ok (.goto 4, 3) := by decide +kernel
theorem d_I_told_J_13 : decode b_I_told_J 13 = .ok (.lload_n 0, 1) := by decide +kernel
theorem d_I_told_J_14 : decode b_I_told_J 14 = .ok (.lreturn, 1) := by decide +kernel
def f_I_told_J (x0 : Int64) : Int64 :=
  if (f_I_isNoNumber_J x0) = 0 then
    x0
  else
    (9221120237041090560 : Int64)
set_option maxHeartbeats 4000000 in
set_option maxRecDepth 100000 in
theorem c_I_told_J (l : Launch) (h : Heap) (x0 : Int64) : Met l y_I_told_J (gw y_I_told_J b_I_told_J 2 (some .long)) { frames := 1, cells := 0, slots := 0, locals := 21 } (pu_Pc [.long x0] h) (pu_Ml (f_I_told_J x0) h) 0 0 (fun _ => False) := by
  refine Met.ofW (cc := b_I_told_J) (maxL := 2) (ret := (some .long)) (by decide) rfl ?_
  intro p e s m args below meth c s₁ B hml hv
  obtain ⟨rfl, hh⟩ := hv
  subst hh
  have hx := B.exec
  have hb := B.bytes
  have hr := B.returns
  have hts := atoms_spec (ws := (gw y_I_told_J b_I_told_J 2 (some .long))) B.pre
  have hown : s.vm.findClass "MotionLab$Ieee" = some m.cls := findClass_of_methodNamed B.named
  have hlocks := B.notSynchronized
  have C0 : pu_C p s m _ meth c b_I_told_J 2 "MotionLab$Ieee" (some .long) (gw y_I_told_J b_I_told_J 2 (some .long)) := ⟨hx, hb, hml, hown, hts, hr, hlocks⟩
  have hl := lv_entry ([.long x0]) (n := 2) (Nat.le_of_ble_eq_true rfl)
  rw [lg_entry_eq]
  generalize (lg_sl ([.long x0]) ++ List.replicate (2 - (lg_sl ([.long x0])).length) Slot.unset).toArray = ls at hl ⊢
  have hl : lv_has ls 2 [(0, .long x0)] := hl
  refine lv_lload_n hx hb d_I_told_J_0 rfl (lv_at hl 0 rfl) ?_
  refine pu_i (As := [.long x0]) (rest := []) ⟨hx, hb, hml, hown, hts⟩ (c_I_isNoNumber_J l _ x0) pu_pre (gw_call (k := 1) hts tw_89 tw_90 tw_5 tw_91 (by decide +kernel) rfl rfl ⟨Nat.le_of_ble_eq_true rfl, Nat.le_of_ble_eq_true rfl⟩) rfl hl.1 rfl (Nat.le_of_ble_eq_true rfl) ⟨Nat.zero_le _, Nat.zero_le _⟩ d_I_told_J_1 ?_
  refine lv_if_eq (tgt := 13) hx hb d_I_told_J_4 (by decide) (fun c1 => ?_) (fun c1 => ?_)
  · refine lv_lload_n hx hb d_I_told_J_13 rfl (lv_at hl 0 rfl) ?_
    exact pu_lret hx hb hr hlocks d_I_told_J_14 (by exact Eq.symm (if_pos c1))
  · refine lv_ldc2 (v := (9221120237041090560 : Int64)) hx hb hown (hts _ (gm tw_92)) d_I_told_J_7 ?_
    refine lv_goto (tgt := 14) hx hb d_I_told_J_10 (by decide) ?_
    exact pu_lret hx hb hr hlocks d_I_told_J_14 (by exact Eq.symm (if_neg c1))
-- ===== java/lang/Math.max(II)I
abbrev y_jM_max_II : MethodName := ⟨"java/lang/Math", "max", "(II)I"⟩
abbrev b_jM_max_II : ByteArray := prog_9_method_65_code
theorem d_jM_max_II_0 : decode b_jM_max_II 0 = .ok (.iload_n 0, 1) := by decide +kernel
theorem d_jM_max_II_1 : decode b_jM_max_II 1 = .ok (.iload_n 1, 1) := by decide +kernel
theorem d_jM_max_II_2 : decode b_jM_max_II 2 = .ok (.if_icmp .lt 7, 3) := by decide +kernel
theorem d_jM_max_II_5 : decode b_jM_max_II 5 = .ok (.iload_n 0, 1) := by decide +kernel
theorem d_jM_max_II_6 : decode b_jM_max_II 6 = .ok (.goto 4, 3) := by decide +kernel
theorem d_jM_max_II_9 : decode b_jM_max_II 9 = .ok (.iload_n 1, 1) := by decide +kernel
theorem d_jM_max_II_10 : decode b_jM_max_II 10 = .ok (.ireturn, 1) := by decide +kernel
def f_jM_max_II (x0 : Int32) (x1 : Int32) : Int32 :=
  if x0 < x1 then
    x1
  else
    x0
set_option maxHeartbeats 4000000 in
set_option maxRecDepth 100000 in
theorem c_jM_max_II (l : Launch) (h : Heap) (x0 : Int32) (x1 : Int32) : Met l y_jM_max_II (gw y_jM_max_II b_jM_max_II 2 (some .int)) { frames := 0, cells := 0, slots := 0, locals := 0 } (pu_Pc [.int x0, .int x1] h) (pu_Mi (f_jM_max_II x0 x1) h) 0 0 (fun _ => False) := by
  refine va_MetF (cc := b_jM_max_II) (maxL := 2) (ret := (some .int)) (by decide +kernel) rfl ?_
  intro p e s m args below meth c s₁ B hml hv
  obtain ⟨rfl, hh⟩ := hv
  subst hh
  have hx := B.exec
  have hb := B.bytes
  have hr := B.returns
  have hts := atoms_spec (ws := (gw y_jM_max_II b_jM_max_II 2 (some .int))) B.pre
  have hown : s.vm.findClass "java/lang/Math" = some m.cls := findClass_of_methodNamed B.named
  have hlocks := B.notSynchronized
  have C0 : pu_C p s m _ meth c b_jM_max_II 2 "java/lang/Math" (some .int) (gw y_jM_max_II b_jM_max_II 2 (some .int)) := ⟨hx, hb, hml, hown, hts, hr, hlocks⟩
  have hl := lv_entry ([.int x0, .int x1]) (n := 2) (Nat.le_of_ble_eq_true rfl)
  rw [lg_entry_eq]
  generalize (lg_sl ([.int x0, .int x1]) ++ List.replicate (2 - (lg_sl ([.int x0, .int x1])).length) Slot.unset).toArray = ls at hl ⊢
  have hl : lv_has ls 2 [(0, .int x0), (1, .int x1)] := hl
  refine lv_iload_n hx hb d_jM_max_II_0 rfl (lv_at hl 0 rfl) ?_
  refine lv_iload_n hx hb d_jM_max_II_1 rfl (lv_at hl 1 rfl) ?_
  refine lv_icmp_lt (tgt := 9) hx hb d_jM_max_II_2 (by decide) (fun c1 => ?_) (fun c1 => ?_)
  · refine lv_iload_n hx hb d_jM_max_II_9 rfl (lv_at hl 1 rfl) ?_
    exact pu_iret hx hb hr hlocks d_jM_max_II_10 (by exact Eq.symm (if_pos c1))
  · refine lv_iload_n hx hb d_jM_max_II_5 rfl (lv_at hl 0 rfl) ?_
    refine lv_goto (tgt := 10) hx hb d_jM_max_II_6 (by decide) ?_
    exact pu_iret hx hb hr hlocks d_jM_max_II_10 (by exact Eq.symm (if_neg c1))
-- ===== MotionLab$Ieee.power(J)I
abbrev y_I_power_J : MethodName := ⟨"MotionLab$Ieee", "power", "(J)I"⟩
abbrev b_I_power_J : ByteArray := prog_2_method_31_code
theorem d_I_power_J_0 : decode b_I_power_J 0 = .ok (.lload_n 0, 1) := by decide +kernel
theorem d_I_power_J_1 : decode b_I_power_J 1 = .ok (.ldc2_w 11, 3) := by decide +kernel
theorem d_I_power_J_4 : decode b_I_power_J 4 = .ok (.land, 1) := by decide +kernel
theorem d_I_power_J_5 : decode b_I_power_J 5 = .ok (.bipush 52, 2) := by decide +kernel
theorem d_I_power_J_7 : decode b_I_power_J 7 = .ok (.lushr, 1) := by decide +kernel
theorem d_I_power_J_8 : decode b_I_power_J 8 = .ok (.l2i, 1) := by decide +kernel
theorem d_I_power_J_9 : decode b_I_power_J 9 = .ok (.istore_n 2, 1) := by decide +kernel
theorem d_I_power_J_10 : decode b_I_power_J 10 = .ok (.iload_n 2, 1) := by decide +kernel
theorem d_I_power_J_11 : decode b_I_power_J 11 = .ok (.iconst 1, 1) := by decide +kernel
theorem d_I_power_J_12 : decode b_I_power_J 12 = .ok (.invokestatic 124, 3) := by decide +kernel
theorem d_I_power_J_15 : decode b_I_power_J 15 = .ok (.iconst 1, 1) := by decide +kernel
theorem d_I_power_J_16 : decode b_I_power_J 16 = .ok (.isub, 1) := by decide +kernel
theorem d_I_power_J_17 : decode b_I_power_J 17 = .ok (.sipush (-1074), 3) := by decide +kernel
theorem d_I_power_J_20 : decode b_I_power_J 20 = .ok (.iadd, 1) := by decide +kernel
theorem d_I_power_J_21 : decode b_I_power_J 21 = .ok (.ireturn, 1) := by decide +kernel
def f_I_power_J (x0 : Int64) : Int32 :=
  let v1 : Int32 := (j_ushr (x0 &&& (9218868437227405312 : Int64)) (52 : Int32)).toInt32
  ((f_jM_max_II v1 (1 : Int32)) - (1 : Int32)) + (-1074 : Int32)
set_option maxHeartbeats 4000000 in
set_option maxRecDepth 100000 in
theorem c_I_power_J (l : Launch) (h : Heap) (x0 : Int64) : Met l y_I_power_J (gw y_I_power_J b_I_power_J 3 (some .int)) { frames := 1, cells := 0, slots := 0, locals := 21 } (pu_Pc [.long x0] h) (pu_Mi (f_I_power_J x0) h) 0 0 (fun _ => False) := by
  refine Met.ofW (cc := b_I_power_J) (maxL := 3) (ret := (some .int)) (by decide) rfl ?_
  intro p e s m args below meth c s₁ B hml hv
  obtain ⟨rfl, hh⟩ := hv
  subst hh
  have hx := B.exec
  have hb := B.bytes
  have hr := B.returns
  have hts := atoms_spec (ws := (gw y_I_power_J b_I_power_J 3 (some .int))) B.pre
  have hown : s.vm.findClass "MotionLab$Ieee" = some m.cls := findClass_of_methodNamed B.named
  have hlocks := B.notSynchronized
  have C0 : pu_C p s m _ meth c b_I_power_J 3 "MotionLab$Ieee" (some .int) (gw y_I_power_J b_I_power_J 3 (some .int)) := ⟨hx, hb, hml, hown, hts, hr, hlocks⟩
  have hl := lv_entry ([.long x0]) (n := 3) (Nat.le_of_ble_eq_true rfl)
  rw [lg_entry_eq]
  generalize (lg_sl ([.long x0]) ++ List.replicate (3 - (lg_sl ([.long x0])).length) Slot.unset).toArray = ls at hl ⊢
  have hl : lv_has ls 3 [(0, .long x0)] := hl
  refine lv_lload_n hx hb d_I_power_J_0 rfl (lv_at hl 0 rfl) ?_
  refine lv_ldc2 (v := (9218868437227405312 : Int64)) hx hb hown (hts _ (gm tw_85)) d_I_power_J_1 ?_
  refine lv_land hx hb d_I_power_J_4 ?_
  refine lv_bipush (v := (52 : Int32)) hx hb d_I_power_J_5 (by decide) ?_
  refine lv_lushr (v := j_ushr (x0 &&& (9218868437227405312 : Int64)) (52 : Int32)) hx hb d_I_power_J_7 rfl ?_
  refine lv_l2i hx hb d_I_power_J_8 rfl ?_
  refine lv_topi (fun v1 e1 => ?_)
  refine lv_istore_n (lv' := [(2, .int v1), (0, .long x0)]) hx hb d_I_power_J_9 rfl hl (by decide) rfl (fun ls hl => ?_)
  refine lv_iload_n hx hb d_I_power_J_10 rfl (lv_at hl 0 rfl) ?_
  refine lv_iconst (v := 1) hx hb d_I_power_J_11 (by decide) ?_
  refine pu_i (As := [.int v1, .int (1 : Int32)]) (rest := []) ⟨hx, hb, hml, hown, hts⟩ (c_jM_max_II l _ v1 (1 : Int32)) pu_pre (gw_call (k := 2) hts tw_97 tw_98 tw_6 tw_99 (by decide +kernel) rfl rfl ⟨Nat.le_of_ble_eq_true rfl, Nat.le_of_ble_eq_true rfl⟩) rfl hl.1 rfl (Nat.le_of_ble_eq_true rfl) ⟨Nat.zero_le _, Nat.zero_le _⟩ d_I_power_J_12 ?_
  refine lv_iconst (v := 1) hx hb d_I_power_J_15 (by decide) ?_
  refine lv_isub hx hb d_I_power_J_16 ?_
  refine lv_sipush (v := (-1074 : Int32)) hx hb d_I_power_J_17 (by decide) ?_
  refine lv_iadd hx hb d_I_power_J_20 ?_
  exact pu_iret hx hb hr hlocks d_I_power_J_21 (by have qe1 := e1.symm; subst qe1; exact Eq.symm rfl)
-- ===== MotionLab$Ieee.significand(J)J
abbrev y_I_significand_J : MethodName := ⟨"MotionLab$Ieee", "significand", "(J)J"⟩
abbrev b_I_significand_J : ByteArray := prog_2_method_30_code
theorem d_I_significand_J_0 : decode b_I_significand_J 0 = .ok (.lload_n 0, 1) := by decide +kernel
theorem d_I_significand_J_1 : decode b_I_significand_J 1 = .ok (.ldc2_w 120, 3) := by decide +kernel
theorem d_I_significand_J_4 : decode b_I_significand_J 4 = .ok (.land, 1) := by decide +kernel
theorem d_I_significand_J_5 : decode b_I_significand_J 5 = .ok (.lstore_n 2, 1) := by decide +kernel
theorem d_I_significand_J_6 : decode b_I_significand_J 6 = .ok (.lload_n 0, 1) := by decide +kernel
theorem d_I_significand_J_7 : decode b_I_significand_J 7 = .ok (.ldc2_w 11, 3) := by decide +kernel
theorem d_I_significand_J_10 : decode b_I_significand_J 10 = .ok (.land, 1) := by decide +kernel
theorem d_I_significand_J_11 : decode b_I_significand_J 11 = .ok (.lconst 0, 1) := by decide +kernel
theorem d_I_significand_J_12 : decode b_I_significand_J 12 = .ok (.lcmp, 1) := by decide +kernel
theorem d_I_significand_J_13 : decode b_I_significand_J 13 = .ok (.ifCond .ne 7, 3) := by decide +kernel
theorem d_I_significand_J_16 : decode b_I_significand_J 16 = .ok (.lload_n 2, 1) := by decide +kernel
theorem d_I_significand_J_17 : decode b_I_significand_J 17 = .ok (.goto 8, 3) := by decide +kernel
theorem d_I_significand_J_20 : decode b_I_significand_J 20 = .ok (.lload_n 2, 1) := by decide +kernel
theorem d_I_significand_J_21 : decode b_I_significand_J 21 = .ok (.ldc2_w 122, 3) := by decide +kernel
theorem d_I_significand_J_24 : decode b_I_significand_J 24 = .ok (.lor, 1) := by decide +kernel
theorem d_I_significand_J_25 : decode b_I_significand_J 25 = .ok (.lreturn, 1) := by decide +kernel
def f_I_significand_J (x0 : Int64) : Int64 :=
  let v1 : Int64 := x0 &&& (4503599627370495 : Int64)
  if (lg_cmp (x0 &&& (9218868437227405312 : Int64)) (0 : Int64)) = 0 then
    v1
  else
    v1 ||| (4503599627370496 : Int64)
set_option maxHeartbeats 4000000 in
set_option maxRecDepth 100000 in
theorem c_I_significand_J (l : Launch) (h : Heap) (x0 : Int64) : Met l y_I_significand_J (gw y_I_significand_J b_I_significand_J 4 (some .long)) { frames := 0, cells := 0, slots := 0, locals := 0 } (pu_Pc [.long x0] h) (pu_Ml (f_I_significand_J x0) h) 0 0 (fun _ => False) := by
  refine Met.ofW (cc := b_I_significand_J) (maxL := 4) (ret := (some .long)) (by decide) rfl ?_
  intro p e s m args below meth c s₁ B hml hv
  obtain ⟨rfl, hh⟩ := hv
  subst hh
  have hx := B.exec
  have hb := B.bytes
  have hr := B.returns
  have hts := atoms_spec (ws := (gw y_I_significand_J b_I_significand_J 4 (some .long))) B.pre
  have hown : s.vm.findClass "MotionLab$Ieee" = some m.cls := findClass_of_methodNamed B.named
  have hlocks := B.notSynchronized
  have C0 : pu_C p s m _ meth c b_I_significand_J 4 "MotionLab$Ieee" (some .long) (gw y_I_significand_J b_I_significand_J 4 (some .long)) := ⟨hx, hb, hml, hown, hts, hr, hlocks⟩
  have hl := lv_entry ([.long x0]) (n := 4) (Nat.le_of_ble_eq_true rfl)
  rw [lg_entry_eq]
  generalize (lg_sl ([.long x0]) ++ List.replicate (4 - (lg_sl ([.long x0])).length) Slot.unset).toArray = ls at hl ⊢
  have hl : lv_has ls 4 [(0, .long x0)] := hl
  refine lv_lload_n hx hb d_I_significand_J_0 rfl (lv_at hl 0 rfl) ?_
  refine lv_ldc2 (v := (4503599627370495 : Int64)) hx hb hown (hts _ (gm tw_103)) d_I_significand_J_1 ?_
  refine lv_land hx hb d_I_significand_J_4 ?_
  refine lv_topl (fun v1 e1 => ?_)
  refine lv_lstore_n (lv' := [(2, .long v1), (0, .long x0)]) hx hb d_I_significand_J_5 rfl hl (by decide) rfl (fun ls hl => ?_)
  refine lv_lload_n hx hb d_I_significand_J_6 rfl (lv_at hl 1 rfl) ?_
  refine lv_ldc2 (v := (9218868437227405312 : Int64)) hx hb hown (hts _ (gm tw_85)) d_I_significand_J_7 ?_
  refine lv_land hx hb d_I_significand_J_10 ?_
  refine lv_lconst (v := (0 : Int64)) hx hb d_I_significand_J_11 (by decide) ?_
  refine W.lcmp hx hb d_I_significand_J_12 ?_
  refine lv_if_ne (tgt := 20) hx hb d_I_significand_J_13 (by decide) (fun c2 => ?_) (fun c2 => ?_)
  · refine lv_lload_n hx hb d_I_significand_J_20 rfl (lv_at hl 0 rfl) ?_
    refine lv_ldc2 (v := (4503599627370496 : Int64)) hx hb hown (hts _ (gm tw_104)) d_I_significand_J_21 ?_
    refine lv_lor hx hb d_I_significand_J_24 ?_
    exact pu_lret hx hb hr hlocks d_I_significand_J_25 (by have qe1 := e1.symm; subst qe1; exact Eq.symm (if_neg c2))
  · refine lv_lload_n hx hb d_I_significand_J_16 rfl (lv_at hl 0 rfl) ?_
    refine lv_goto (tgt := 25) hx hb d_I_significand_J_17 (by decide) ?_
    exact pu_lret hx hb hr hlocks d_I_significand_J_25 (by have qe1 := e1.symm; subst qe1; exact Eq.symm (if_pos c2))
-- ===== java/lang/Integer.numberOfLeadingZeros(I)I
abbrev y_jI_numberOfLeadingZeros_I : MethodName := ⟨"java/lang/Integer", "numberOfLeadingZeros", "(I)I"⟩
abbrev b_jI_numberOfLeadingZeros_I : ByteArray := prog_7_method_47_code
theorem d_jI_numberOfLeadingZeros_I_0 : decode b_jI_numberOfLeadingZeros_I 0 = .ok (.iload_n 0, 1) := by decide +kernel
theorem d_jI_numberOfLeadingZeros_I_1 : decode b_jI_numberOfLeadingZeros_I 1 = .ok (.ifCond .gt 14, 3) := by decide +kernel
theorem d_jI_numberOfLeadingZeros_I_4 : decode b_jI_numberOfLeadingZeros_I 4 = .ok (.iload_n 0, 1) := by decide +kernel
theorem d_jI_numberOfLeadingZeros_I_5 : decode b_jI_numberOfLeadingZeros_I 5 = .ok (.ifCond .ne 8, 3) := by decide +kernel
theorem d_jI_numberOfLeadingZeros_I_8 : decode b_jI_numberOfLeadingZeros_I 8 = .ok (.bipush 32, 2) := by decide +kernel
theorem d_jI_numberOfLeadingZeros_I_10 : decode b_jI_numberOfLeadingZeros_I 10 = .ok (.goto 4, 3) := by decide +kernel
theorem d_jI_numberOfLeadingZeros_I_13 : decode b_jI_numberOfLeadingZeros_I 13 = .ok (.iconst 0, 1) := by decide +kernel
theorem d_jI_numberOfLeadingZeros_I_14 : decode b_jI_numberOfLeadingZeros_I 14 = .ok (.ireturn, 1) := by decide +kernel
theorem d_jI_numberOfLeadingZeros_I_15 : decode b_jI_numberOfLeadingZeros_I 15 = .ok (.bipush 31, 2) := by decide +kernel
theorem d_jI_numberOfLeadingZeros_I_17 : decode b_jI_numberOfLeadingZeros_I 17 = .ok (.istore_n 1, 1) := by decide +kernel
theorem d_jI_numberOfLeadingZeros_I_18 : decode b_jI_numberOfLeadingZeros_I 18 = .ok (.iload_n 0, 1) := by decide +kernel
theorem d_jI_numberOfLeadingZeros_I_19 : decode b_jI_numberOfLeadingZeros_I 19 = .ok (.ldc_w 264, 3) := by decide +kernel
theorem d_jI_numberOfLeadingZeros_I_22 : decode b_jI_numberOfLeadingZeros_I 22 = .ok (.if_icmp .lt 11, 3) := by decide +kernel
theorem d_jI_numberOfLeadingZeros_I_25 : decode b_jI_numberOfLeadingZeros_I 25 = .ok (.iinc 1 (-16), 3) := by decide +kernel
theorem d_jI_numberOfLeadingZeros_I_28 : decode b_jI_numberOfLeadingZeros_I 28 = .ok (.iload_n 0, 1) := by decide +kernel
theorem d_jI_numberOfLeadingZeros_I_29 : decode b_jI_numberOfLeadingZeros_I 29 = .ok (.bipush 16, 2) := by decide +kernel
theorem d_jI_numberOfLeadingZeros_I_31 : decode b_jI_numberOfLeadingZeros_I 31 = .ok (.iushr, 1) := by decide +kernel
theorem d_jI_numberOfLeadingZeros_I_32 : decode b_jI_numberOfLeadingZeros_I 32 = .ok (.istore_n 0, 1) := by decide +kernel
theorem d_jI_numberOfLeadingZeros_I_33 : decode b_jI_numberOfLeadingZeros_I 33 = .ok (.iload_n 0, 1) := by decide +kernel
theorem d_jI_numberOfLeadingZeros_I_34 : decode b_jI_numberOfLeadingZeros_I 34 = .ok (.sipush 256, 3) := by decide +kernel
theorem d_jI_numberOfLeadingZeros_I_37 : decode b_jI_numberOfLeadingZeros_I 37 = .ok (.if_icmp .lt 11, 3) := by decide +kernel
theorem d_jI_numberOfLeadingZeros_I_40 : decode b_jI_numberOfLeadingZeros_I 40 = .ok (.iinc 1 (-8), 3) := by decide +kernel
theorem d_jI_numberOfLeadingZeros_I_43 : decode b_jI_numberOfLeadingZeros_I 43 = .ok (.iload_n 0, 1) := by decide +kernel
theorem d_jI_numberOfLeadingZeros_I_44 : decode b_jI_numberOfLeadingZeros_I 44 = .ok (.bipush 8, 2) := by decide +kernel
theorem d_jI_numberOfLeadingZeros_I_46 : decode b_jI_numberOfLeadingZeros_I 46 = .ok (.iushr, 1) := by decide +kernel
theorem d_jI_numberOfLeadingZeros_I_47 : decode b_jI_numberOfLeadingZeros_I 47 = .ok (.istore_n 0, 1) := by decide +kernel
theorem d_jI_numberOfLeadingZeros_I_48 : decode b_jI_numberOfLeadingZeros_I 48 = .ok (.iload_n 0, 1) := by decide +kernel
theorem d_jI_numberOfLeadingZeros_I_49 : decode b_jI_numberOfLeadingZeros_I 49 = .ok (.bipush 16, 2) := by decide +kernel
theorem d_jI_numberOfLeadingZeros_I_51 : decode b_jI_numberOfLeadingZeros_I 51 = .ok (.if_icmp .lt 10, 3) := by decide +kernel
theorem d_jI_numberOfLeadingZeros_I_54 : decode b_jI_numberOfLeadingZeros_I 54 = .ok (.iinc 1 (-4), 3) := by decide +kernel
theorem d_jI_numberOfLeadingZeros_I_57 : decode b_jI_numberOfLeadingZeros_I 57 = .ok (.iload_n 0, 1) := by decide +kernel
theorem d_jI_numberOfLeadingZeros_I_58 : decode b_jI_numberOfLeadingZeros_I 58 = .ok (.iconst 4, 1) := by decide +kernel
theorem d_jI_numberOfLeadingZeros_I_59 : decode b_jI_numberOfLeadingZeros_I 59 = .ok (.iushr, 1) := by decide +kernel
theorem d_jI_numberOfLeadingZeros_I_60 : decode b_jI_numberOfLeadingZeros_I 60 = .ok (.istore_n 0, 1) := by decide +kernel
theorem d_jI_numberOfLeadingZeros_I_61 : decode b_jI_numberOfLeadingZeros_I 61 = .ok (.iload_n 0, 1) := by decide +kernel
theorem d_jI_numberOfLeadingZeros_I_62 : decode b_jI_numberOfLeadingZeros_I 62 = .ok (.iconst 4, 1) := by decide +kernel
theorem d_jI_numberOfLeadingZeros_I_63 : decode b_jI_numberOfLeadingZeros_I 63 = .ok (.if_icmp .lt 10, 3) := by decide +kernel
theorem d_jI_numberOfLeadingZeros_I_66 : decode b_jI_numberOfLeadingZeros_I 66 = .ok (.iinc 1 (-2), 3) := by decide +kernel
theorem d_jI_numberOfLeadingZeros_I_69 : decode b_jI_numberOfLeadingZeros_I 69 = .ok (.iload_n 0, 1) := by decide +kernel
theorem d_jI_numberOfLeadingZeros_I_70 : decode b_jI_numberOfLeadingZeros_I 70 = .ok (.iconst 2, 1) := by decide +kernel
theorem d_jI_numberOfLeadingZeros_I_71 : decode b_jI_numberOfLeadingZeros_I 71 = .ok (.iushr, 1) := by decide +kernel
theorem d_jI_numberOfLeadingZeros_I_72 : decode b_jI_numberOfLeadingZeros_I 72 = .ok (.istore_n 0, 1) := by decide +kernel
theorem d_jI_numberOfLeadingZeros_I_73 : decode b_jI_numberOfLeadingZeros_I 73 = .ok (.iload_n 1, 1) := by decide +kernel
theorem d_jI_numberOfLeadingZeros_I_74 : decode b_jI_numberOfLeadingZeros_I 74 = .ok (.iload_n 0, 1) := by decide +kernel
theorem d_jI_numberOfLeadingZeros_I_75 : decode b_jI_numberOfLeadingZeros_I 75 = .ok (.iconst 1, 1) := by decide +kernel
theorem d_jI_numberOfLeadingZeros_I_76 : decode b_jI_numberOfLeadingZeros_I 76 = .ok (.iushr, 1) := by decide +kernel
theorem d_jI_numberOfLeadingZeros_I_77 : decode b_jI_numberOfLeadingZeros_I 77 = .ok (.isub, 1) := by decide +kernel
theorem d_jI_numberOfLeadingZeros_I_78 : decode b_jI_numberOfLeadingZeros_I 78 = .ok (.ireturn, 1) := by decide +kernel
def f_jI_numberOfLeadingZeros_I_61 (x0 : Int32) (x1 : Int32) : Int32 :=
  if x0 < (4 : Int32) then
    x1 - (j_iushr x0 (1 : Int32))
  else
    let v2 : Int32 := x1 + (-2)
    let v3 : Int32 := j_iushr x0 (2 : Int32)
    v2 - (j_iushr v3 (1 : Int32))
set_option maxHeartbeats 4000000 in
set_option maxRecDepth 100000 in
theorem k_jI_numberOfLeadingZeros_I_61 {p : Program} {l : Launch} {e : Env} {s : State} {m : MethodId} {args : Array Value} {below : List Frame} {meth : Method} {c : Code} (C0 : pu_C p s m args meth c b_jI_numberOfLeadingZeros_I 2 "java/lang/Integer" (some .int) (gw y_jI_numberOfLeadingZeros_I b_jI_numberOfLeadingZeros_I 2 (some .int))) (x0 : Int32) (x1 : Int32) (ls : Array Slot) (hl : lv_has ls 2 [(0, .int x0), (1, .int x1)]) {w : Int32} (hw : w = f_jI_numberOfLeadingZeros_I_61 x0 x1) : W p l e (headSpec (gw y_jI_numberOfLeadingZeros_I b_jI_numberOfLeadingZeros_I 2 (some .int)) ({ frames := 0, cells := 0, slots := 0, locals := 0 } : Room)).room s m args below meth c s.heap [] 0 0 (pu_Qi w below args s) (F0 m 61 ls []) := by
  obtain ⟨hx, hb, hml, hown, hts, hr, hlocks⟩ := id C0
  refine lv_iload_n hx hb d_jI_numberOfLeadingZeros_I_61 rfl (lv_at hl 0 rfl) ?_
  refine lv_iconst (v := 4) hx hb d_jI_numberOfLeadingZeros_I_62 (by decide) ?_
  refine lv_icmp_lt (tgt := 73) hx hb d_jI_numberOfLeadingZeros_I_63 (by decide) (fun c1 => ?_) (fun c1 => ?_)
  · refine lv_iload_n hx hb d_jI_numberOfLeadingZeros_I_73 rfl (lv_at hl 1 rfl) ?_
    refine lv_iload_n hx hb d_jI_numberOfLeadingZeros_I_74 rfl (lv_at hl 0 rfl) ?_
    refine lv_iconst (v := 1) hx hb d_jI_numberOfLeadingZeros_I_75 (by decide) ?_
    refine lv_iushr (v := j_iushr x0 (1 : Int32)) hx hb d_jI_numberOfLeadingZeros_I_76 rfl ?_
    refine lv_isub hx hb d_jI_numberOfLeadingZeros_I_77 ?_
    exact pu_iret hx hb hr hlocks d_jI_numberOfLeadingZeros_I_78 (by exact Eq.symm (hw.trans (if_pos c1)))
  · obtain ⟨v2, e2⟩ : ∃ y : Int32, y = x1 + (-2) := ⟨_, rfl⟩
    refine lv_iinc (v := v2) (lv' := [(1, .int v2), (0, .int x0)]) hx hb d_jI_numberOfLeadingZeros_I_66 hl (k := 1) rfl (by rw [e2]; rfl) (by decide) rfl (fun ls hl => ?_)
    refine lv_iload_n hx hb d_jI_numberOfLeadingZeros_I_69 rfl (lv_at hl 1 rfl) ?_
    refine lv_iconst (v := 2) hx hb d_jI_numberOfLeadingZeros_I_70 (by decide) ?_
    refine lv_iushr (v := j_iushr x0 (2 : Int32)) hx hb d_jI_numberOfLeadingZeros_I_71 rfl ?_
    refine lv_topi (fun v3 e3 => ?_)
    refine lv_istore_n (lv' := [(0, .int v3), (1, .int v2)]) hx hb d_jI_numberOfLeadingZeros_I_72 rfl hl (by decide) rfl (fun ls hl => ?_)
    refine lv_iload_n hx hb d_jI_numberOfLeadingZeros_I_73 rfl (lv_at hl 1 rfl) ?_
    refine lv_iload_n hx hb d_jI_numberOfLeadingZeros_I_74 rfl (lv_at hl 0 rfl) ?_
    refine lv_iconst (v := 1) hx hb d_jI_numberOfLeadingZeros_I_75 (by decide) ?_
    refine lv_iushr (v := j_iushr v3 (1 : Int32)) hx hb d_jI_numberOfLeadingZeros_I_76 rfl ?_
    refine lv_isub hx hb d_jI_numberOfLeadingZeros_I_77 ?_
    exact pu_iret hx hb hr hlocks d_jI_numberOfLeadingZeros_I_78 (by have qe2 := e2.symm; have qe3 := e3.symm; subst qe2 qe3; exact Eq.symm (hw.trans (if_neg c1)))
def f_jI_numberOfLeadingZeros_I_48 (x0 : Int32) (x1 : Int32) : Int32 :=
  if x0 < (16 : Int32) then
    f_jI_numberOfLeadingZeros_I_61 x0 x1
  else
    let v2 : Int32 := x1 + (-4)
    let v3 : Int32 := j_iushr x0 (4 : Int32)
    f_jI_numberOfLeadingZeros_I_61 v3 v2
set_option maxHeartbeats 4000000 in
set_option maxRecDepth 100000 in
theorem k_jI_numberOfLeadingZeros_I_48 {p : Program} {l : Launch} {e : Env} {s : State} {m : MethodId} {args : Array Value} {below : List Frame} {meth : Method} {c : Code} (C0 : pu_C p s m args meth c b_jI_numberOfLeadingZeros_I 2 "java/lang/Integer" (some .int) (gw y_jI_numberOfLeadingZeros_I b_jI_numberOfLeadingZeros_I 2 (some .int))) (x0 : Int32) (x1 : Int32) (ls : Array Slot) (hl : lv_has ls 2 [(0, .int x0), (1, .int x1)]) {w : Int32} (hw : w = f_jI_numberOfLeadingZeros_I_48 x0 x1) : W p l e (headSpec (gw y_jI_numberOfLeadingZeros_I b_jI_numberOfLeadingZeros_I 2 (some .int)) ({ frames := 0, cells := 0, slots := 0, locals := 0 } : Room)).room s m args below meth c s.heap [] 0 0 (pu_Qi w below args s) (F0 m 48 ls []) := by
  obtain ⟨hx, hb, hml, hown, hts, hr, hlocks⟩ := id C0
  refine lv_iload_n hx hb d_jI_numberOfLeadingZeros_I_48 rfl (lv_at hl 0 rfl) ?_
  refine lv_bipush (v := (16 : Int32)) hx hb d_jI_numberOfLeadingZeros_I_49 (by decide) ?_
  refine lv_icmp_lt (tgt := 61) hx hb d_jI_numberOfLeadingZeros_I_51 (by decide) (fun c1 => ?_) (fun c1 => ?_)
  · exact k_jI_numberOfLeadingZeros_I_61 C0 x0 x1 ls (lv_sub hl [0, 1] rfl) (by exact (hw.trans (if_pos c1)))
  · obtain ⟨v2, e2⟩ : ∃ y : Int32, y = x1 + (-4) := ⟨_, rfl⟩
    refine lv_iinc (v := v2) (lv' := [(1, .int v2), (0, .int x0)]) hx hb d_jI_numberOfLeadingZeros_I_54 hl (k := 1) rfl (by rw [e2]; rfl) (by decide) rfl (fun ls hl => ?_)
    refine lv_iload_n hx hb d_jI_numberOfLeadingZeros_I_57 rfl (lv_at hl 1 rfl) ?_
    refine lv_iconst (v := 4) hx hb d_jI_numberOfLeadingZeros_I_58 (by decide) ?_
    refine lv_iushr (v := j_iushr x0 (4 : Int32)) hx hb d_jI_numberOfLeadingZeros_I_59 rfl ?_
    refine lv_topi (fun v3 e3 => ?_)
    refine lv_istore_n (lv' := [(0, .int v3), (1, .int v2)]) hx hb d_jI_numberOfLeadingZeros_I_60 rfl hl (by decide) rfl (fun ls hl => ?_)
    exact k_jI_numberOfLeadingZeros_I_61 C0 v3 v2 ls (lv_sub hl [0, 1] rfl) (by have qe2 := e2.symm; have qe3 := e3.symm; subst qe2 qe3; exact (hw.trans (if_neg c1)))
def f_jI_numberOfLeadingZeros_I_33 (x0 : Int32) (x1 : Int32) : Int32 :=
  if x0 < (256 : Int32) then
    f_jI_numberOfLeadingZeros_I_48 x0 x1
  else
    let v2 : Int32 := x1 + (-8)
    let v3 : Int32 := j_iushr x0 (8 : Int32)
    f_jI_numberOfLeadingZeros_I_48 v3 v2
set_option maxHeartbeats 4000000 in
set_option maxRecDepth 100000 in
theorem k_jI_numberOfLeadingZeros_I_33 {p : Program} {l : Launch} {e : Env} {s : State} {m : MethodId} {args : Array Value} {below : List Frame} {meth : Method} {c : Code} (C0 : pu_C p s m args meth c b_jI_numberOfLeadingZeros_I 2 "java/lang/Integer" (some .int) (gw y_jI_numberOfLeadingZeros_I b_jI_numberOfLeadingZeros_I 2 (some .int))) (x0 : Int32) (x1 : Int32) (ls : Array Slot) (hl : lv_has ls 2 [(0, .int x0), (1, .int x1)]) {w : Int32} (hw : w = f_jI_numberOfLeadingZeros_I_33 x0 x1) : W p l e (headSpec (gw y_jI_numberOfLeadingZeros_I b_jI_numberOfLeadingZeros_I 2 (some .int)) ({ frames := 0, cells := 0, slots := 0, locals := 0 } : Room)).room s m args below meth c s.heap [] 0 0 (pu_Qi w below args s) (F0 m 33 ls []) := by
  obtain ⟨hx, hb, hml, hown, hts, hr, hlocks⟩ := id C0
  refine lv_iload_n hx hb d_jI_numberOfLeadingZeros_I_33 rfl (lv_at hl 0 rfl) ?_
  refine lv_sipush (v := (256 : Int32)) hx hb d_jI_numberOfLeadingZeros_I_34 (by decide) ?_
  refine lv_icmp_lt (tgt := 48) hx hb d_jI_numberOfLeadingZeros_I_37 (by decide) (fun c1 => ?_) (fun c1 => ?_)
  · exact k_jI_numberOfLeadingZeros_I_48 C0 x0 x1 ls (lv_sub hl [0, 1] rfl) (by exact (hw.trans (if_pos c1)))
  · obtain ⟨v2, e2⟩ : ∃ y : Int32, y = x1 + (-8) := ⟨_, rfl⟩
    refine lv_iinc (v := v2) (lv' := [(1, .int v2), (0, .int x0)]) hx hb d_jI_numberOfLeadingZeros_I_40 hl (k := 1) rfl (by rw [e2]; rfl) (by decide) rfl (fun ls hl => ?_)
    refine lv_iload_n hx hb d_jI_numberOfLeadingZeros_I_43 rfl (lv_at hl 1 rfl) ?_
    refine lv_bipush (v := (8 : Int32)) hx hb d_jI_numberOfLeadingZeros_I_44 (by decide) ?_
    refine lv_iushr (v := j_iushr x0 (8 : Int32)) hx hb d_jI_numberOfLeadingZeros_I_46 rfl ?_
    refine lv_topi (fun v3 e3 => ?_)
    refine lv_istore_n (lv' := [(0, .int v3), (1, .int v2)]) hx hb d_jI_numberOfLeadingZeros_I_47 rfl hl (by decide) rfl (fun ls hl => ?_)
    exact k_jI_numberOfLeadingZeros_I_48 C0 v3 v2 ls (lv_sub hl [0, 1] rfl) (by have qe2 := e2.symm; have qe3 := e3.symm; subst qe2 qe3; exact (hw.trans (if_neg c1)))
def f_jI_numberOfLeadingZeros_I (x0 : Int32) : Int32 :=
  if 0 < x0 then
    if x0 < (65536 : Int32) then
      f_jI_numberOfLeadingZeros_I_33 x0 (31 : Int32)
    else
      let v3 : Int32 := j_iushr x0 (16 : Int32)
      f_jI_numberOfLeadingZeros_I_33 v3 (15 : Int32)
  else
    if x0 = 0 then
      (32 : Int32)
    else
      (0 : Int32)
set_option maxHeartbeats 4000000 in
set_option maxRecDepth 100000 in
theorem c_jI_numberOfLeadingZeros_I (l : Launch) (h : Heap) (x0 : Int32) : Met l y_jI_numberOfLeadingZeros_I (gw y_jI_numberOfLeadingZeros_I b_jI_numberOfLeadingZeros_I 2 (some .int)) { frames := 0, cells := 0, slots := 0, locals := 0 } (pu_Pc [.int x0] h) (pu_Mi (f_jI_numberOfLeadingZeros_I x0) h) 0 0 (fun _ => False) := by
  refine va_MetF (cc := b_jI_numberOfLeadingZeros_I) (maxL := 2) (ret := (some .int)) (by decide +kernel) rfl ?_
  intro p e s m args below meth c s₁ B hml hv
  obtain ⟨rfl, hh⟩ := hv
  subst hh
  have hx := B.exec
  have hb := B.bytes
  have hr := B.returns
  have hts := atoms_spec (ws := (gw y_jI_numberOfLeadingZeros_I b_jI_numberOfLeadingZeros_I 2 (some .int))) B.pre
  have hown : s.vm.findClass "java/lang/Integer" = some m.cls := findClass_of_methodNamed B.named
  have hlocks := B.notSynchronized
  have C0 : pu_C p s m _ meth c b_jI_numberOfLeadingZeros_I 2 "java/lang/Integer" (some .int) (gw y_jI_numberOfLeadingZeros_I b_jI_numberOfLeadingZeros_I 2 (some .int)) := ⟨hx, hb, hml, hown, hts, hr, hlocks⟩
  have hl := lv_entry ([.int x0]) (n := 2) (Nat.le_of_ble_eq_true rfl)
  rw [lg_entry_eq]
  generalize (lg_sl ([.int x0]) ++ List.replicate (2 - (lg_sl ([.int x0])).length) Slot.unset).toArray = ls at hl ⊢
  have hl : lv_has ls 2 [(0, .int x0)] := hl
  refine lv_iload_n hx hb d_jI_numberOfLeadingZeros_I_0 rfl (lv_at hl 0 rfl) ?_
  refine lv_if_gt (tgt := 15) hx hb d_jI_numberOfLeadingZeros_I_1 (by decide) (fun c1 => ?_) (fun c1 => ?_)
  · refine lv_bipush (v := (31 : Int32)) hx hb d_jI_numberOfLeadingZeros_I_15 (by decide) ?_
    refine lv_istore_n (lv' := [(1, .int (31 : Int32)), (0, .int x0)]) hx hb d_jI_numberOfLeadingZeros_I_17 rfl hl (by decide) rfl (fun ls hl => ?_)
    refine lv_iload_n hx hb d_jI_numberOfLeadingZeros_I_18 rfl (lv_at hl 1 rfl) ?_
    refine lv_ldcw (v := (65536 : Int32)) hx hb hown (hts _ (gm tw_114)) d_jI_numberOfLeadingZeros_I_19 ?_
    refine lv_icmp_lt (tgt := 33) hx hb d_jI_numberOfLeadingZeros_I_22 (by decide) (fun c2 => ?_) (fun c2 => ?_)
    · exact k_jI_numberOfLeadingZeros_I_33 C0 x0 (31 : Int32) ls (lv_sub hl [1, 0] rfl) (by exact (Eq.trans (if_pos c1) (if_pos c2)))
    · refine lv_iinc (v := (15 : Int32)) (lv' := [(1, .int (15 : Int32)), (0, .int x0)]) hx hb d_jI_numberOfLeadingZeros_I_25 hl (k := 0) rfl (by decide) (by decide) rfl (fun ls hl => ?_)
      refine lv_iload_n hx hb d_jI_numberOfLeadingZeros_I_28 rfl (lv_at hl 1 rfl) ?_
      refine lv_bipush (v := (16 : Int32)) hx hb d_jI_numberOfLeadingZeros_I_29 (by decide) ?_
      refine lv_iushr (v := j_iushr x0 (16 : Int32)) hx hb d_jI_numberOfLeadingZeros_I_31 rfl ?_
      refine lv_topi (fun v3 e3 => ?_)
      refine lv_istore_n (lv' := [(0, .int v3), (1, .int (15 : Int32))]) hx hb d_jI_numberOfLeadingZeros_I_32 rfl hl (by decide) rfl (fun ls hl => ?_)
      exact k_jI_numberOfLeadingZeros_I_33 C0 v3 (15 : Int32) ls (lv_sub hl [0, 1] rfl) (by have qe3 := e3.symm; subst qe3; exact (Eq.trans (if_pos c1) (if_neg c2)))
  · refine lv_iload_n hx hb d_jI_numberOfLeadingZeros_I_4 rfl (lv_at hl 0 rfl) ?_
    refine lv_if_ne (tgt := 13) hx hb d_jI_numberOfLeadingZeros_I_5 (by decide) (fun c4 => ?_) (fun c4 => ?_)
    · refine lv_iconst (v := 0) hx hb d_jI_numberOfLeadingZeros_I_13 (by decide) ?_
      exact pu_iret hx hb hr hlocks d_jI_numberOfLeadingZeros_I_14 (by exact Eq.symm (Eq.trans (if_neg c1) (if_neg c4)))
    · refine lv_bipush (v := (32 : Int32)) hx hb d_jI_numberOfLeadingZeros_I_8 (by decide) ?_
      refine lv_goto (tgt := 14) hx hb d_jI_numberOfLeadingZeros_I_10 (by decide) ?_
      exact pu_iret hx hb hr hlocks d_jI_numberOfLeadingZeros_I_14 (by exact Eq.symm (Eq.trans (if_neg c1) (if_pos c4)))
-- ===== java/lang/Long.numberOfLeadingZeros(J)I
abbrev y_jL_numberOfLeadingZeros_J : MethodName := ⟨"java/lang/Long", "numberOfLeadingZeros", "(J)I"⟩
abbrev b_jL_numberOfLeadingZeros_J : ByteArray := prog_8_method_48_code
theorem d_jL_numberOfLeadingZeros_J_0 : decode b_jL_numberOfLeadingZeros_J 0 = .ok (.lload_n 0, 1) := by decide +kernel
theorem d_jL_numberOfLeadingZeros_J_1 : decode b_jL_numberOfLeadingZeros_J 1 = .ok (.bipush 32, 2) := by decide +kernel
theorem d_jL_numberOfLeadingZeros_J_3 : decode b_jL_numberOfLeadingZeros_J 3 = .ok (.lushr, 1) := by decide +kernel
theorem d_jL_numberOfLeadingZeros_J_4 : decode b_jL_numberOfLeadingZeros_J 4 = .ok (.l2i, 1) := by decide +kernel
theorem d_jL_numberOfLeadingZeros_J_5 : decode b_jL_numberOfLeadingZeros_J 5 = .ok (.istore_n 2, 1) := by decide +kernel
theorem d_jL_numberOfLeadingZeros_J_6 : decode b_jL_numberOfLeadingZeros_J 6 = .ok (.iload_n 2, 1) := by decide +kernel
theorem d_jL_numberOfLeadingZeros_J_7 : decode b_jL_numberOfLeadingZeros_J 7 = .ok (.ifCond .ne 14, 3) := by decide +kernel
theorem d_jL_numberOfLeadingZeros_J_10 : decode b_jL_numberOfLeadingZeros_J 10 = .ok (.bipush 32, 2) := by decide +kernel
theorem d_jL_numberOfLeadingZeros_J_12 : decode b_jL_numberOfLeadingZeros_J 12 = .ok (.lload_n 0, 1) := by decide +kernel
theorem d_jL_numberOfLeadingZeros_J_13 : decode b_jL_numberOfLeadingZeros_J 13 = .ok (.l2i, 1) := by decide +kernel
theorem d_jL_numberOfLeadingZeros_J_14 : decode b_jL_numberOfLeadingZeros_J 14 = .ok (.invokestatic 308, 3) := by decide +kernel
theorem d_jL_numberOfLeadingZeros_J_17 : decode b_jL_numberOfLeadingZeros_J 17 = .ok (.iadd, 1) := by decide +kernel
theorem d_jL_numberOfLeadingZeros_J_18 : decode b_jL_numberOfLeadingZeros_J 18 = .ok (.goto 7, 3) := by decide +kernel
theorem d_jL_numberOfLeadingZeros_J_21 : decode b_jL_numberOfLeadingZeros_J 21 = .ok (.iload_n 2, 1) := by decide +kernel
theorem d_jL_numberOfLeadingZeros_J_22 : decode b_jL_numberOfLeadingZeros_J 22 = .ok (.invokestatic 308, 3) := by decide +kernel
theorem d_jL_numberOfLeadingZeros_J_25 : decode b_jL_numberOfLeadingZeros_J 25 = .ok (.ireturn, 1) := by decide +kernel
def f_jL_numberOfLeadingZeros_J (x0 : Int64) : Int32 :=
  let v1 : Int32 := (j_ushr x0 (32 : Int32)).toInt32
  if v1 = 0 then
    (32 : Int32) + (f_jI_numberOfLeadingZeros_I (x0.toInt32))
  else
    f_jI_numberOfLeadingZeros_I v1
set_option maxHeartbeats 4000000 in
set_option maxRecDepth 100000 in
theorem c_jL_numberOfLeadingZeros_J (l : Launch) (h : Heap) (x0 : Int64) : Met l y_jL_numberOfLeadingZeros_J (gw y_jL_numberOfLeadingZeros_J b_jL_numberOfLeadingZeros_J 3 (some .int)) { frames := 1, cells := 0, slots := 0, locals := 21 } (pu_Pc [.long x0] h) (pu_Mi (f_jL_numberOfLeadingZeros_J x0) h) 0 0 (fun _ => False) := by
  refine va_MetF (cc := b_jL_numberOfLeadingZeros_J) (maxL := 3) (ret := (some .int)) (by decide +kernel) rfl ?_
  intro p e s m args below meth c s₁ B hml hv
  obtain ⟨rfl, hh⟩ := hv
  subst hh
  have hx := B.exec
  have hb := B.bytes
  have hr := B.returns
  have hts := atoms_spec (ws := (gw y_jL_numberOfLeadingZeros_J b_jL_numberOfLeadingZeros_J 3 (some .int))) B.pre
  have hown : s.vm.findClass "java/lang/Long" = some m.cls := findClass_of_methodNamed B.named
  have hlocks := B.notSynchronized
  have C0 : pu_C p s m _ meth c b_jL_numberOfLeadingZeros_J 3 "java/lang/Long" (some .int) (gw y_jL_numberOfLeadingZeros_J b_jL_numberOfLeadingZeros_J 3 (some .int)) := ⟨hx, hb, hml, hown, hts, hr, hlocks⟩
  have hl := lv_entry ([.long x0]) (n := 3) (Nat.le_of_ble_eq_true rfl)
  rw [lg_entry_eq]
  generalize (lg_sl ([.long x0]) ++ List.replicate (3 - (lg_sl ([.long x0])).length) Slot.unset).toArray = ls at hl ⊢
  have hl : lv_has ls 3 [(0, .long x0)] := hl
  refine lv_lload_n hx hb d_jL_numberOfLeadingZeros_J_0 rfl (lv_at hl 0 rfl) ?_
  refine lv_bipush (v := (32 : Int32)) hx hb d_jL_numberOfLeadingZeros_J_1 (by decide) ?_
  refine lv_lushr (v := j_ushr x0 (32 : Int32)) hx hb d_jL_numberOfLeadingZeros_J_3 rfl ?_
  refine lv_l2i hx hb d_jL_numberOfLeadingZeros_J_4 rfl ?_
  refine lv_topi (fun v1 e1 => ?_)
  refine lv_istore_n (lv' := [(2, .int v1), (0, .long x0)]) hx hb d_jL_numberOfLeadingZeros_J_5 rfl hl (by decide) rfl (fun ls hl => ?_)
  refine lv_iload_n hx hb d_jL_numberOfLeadingZeros_J_6 rfl (lv_at hl 0 rfl) ?_
  refine lv_if_ne (tgt := 21) hx hb d_jL_numberOfLeadingZeros_J_7 (by decide) (fun c2 => ?_) (fun c2 => ?_)
  · refine lv_iload_n hx hb d_jL_numberOfLeadingZeros_J_21 rfl (lv_at hl 0 rfl) ?_
    refine pu_i (As := [.int v1]) (rest := []) ⟨hx, hb, hml, hown, hts⟩ (c_jI_numberOfLeadingZeros_I l _ v1) pu_pre (gw_call (k := 1) hts tw_111 tw_112 tw_8 tw_113 (by decide +kernel) rfl rfl ⟨Nat.le_of_ble_eq_true rfl, Nat.le_of_ble_eq_true rfl⟩) rfl hl.1 rfl (Nat.le_of_ble_eq_true rfl) ⟨Nat.zero_le _, Nat.zero_le _⟩ d_jL_numberOfLeadingZeros_J_22 ?_
    exact pu_iret hx hb hr hlocks d_jL_numberOfLeadingZeros_J_25 (by have qe1 := e1.symm; subst qe1; exact Eq.symm (if_neg c2))
  · refine lv_bipush (v := (32 : Int32)) hx hb d_jL_numberOfLeadingZeros_J_10 (by decide) ?_
    refine lv_lload_n hx hb d_jL_numberOfLeadingZeros_J_12 rfl (lv_at hl 1 rfl) ?_
    refine lv_l2i hx hb d_jL_numberOfLeadingZeros_J_13 rfl ?_
    refine pu_i (As := [.int (x0.toInt32)]) (rest := [.int (32 : Int32)]) ⟨hx, hb, hml, hown, hts⟩ (c_jI_numberOfLeadingZeros_I l _ (x0.toInt32)) pu_pre (gw_call (k := 1) hts tw_111 tw_112 tw_8 tw_113 (by decide +kernel) rfl rfl ⟨Nat.le_of_ble_eq_true rfl, Nat.le_of_ble_eq_true rfl⟩) rfl hl.1 rfl (Nat.le_of_ble_eq_true rfl) ⟨Nat.zero_le _, Nat.zero_le _⟩ d_jL_numberOfLeadingZeros_J_14 ?_
    refine lv_iadd hx hb d_jL_numberOfLeadingZeros_J_17 ?_
    refine lv_goto (tgt := 25) hx hb d_jL_numberOfLeadingZeros_J_18 (by decide) ?_
    exact pu_iret hx hb hr hlocks d_jL_numberOfLeadingZeros_J_25 (by have qe1 := e1.symm; subst qe1; exact Eq.symm (if_pos c2))
end
section
-- ===== MotionLab$Ieee.rounded(JI)J
abbrev y_I_rounded_JI : MethodName := ⟨"MotionLab$Ieee", "rounded", "(JI)J"⟩
abbrev b_I_rounded_JI : ByteArray := prog_2_method_35_code
theorem d_I_rounded_JI_0 : decode b_I_rounded_JI 0 = .ok (.iload_n 2, 1) := by decide +kernel
theorem d_I_rounded_JI_1 : decode b_I_rounded_JI 1 = .ok (.ifCond .gt 8, 3) := by decide +kernel
theorem d_I_rounded_JI_4 : decode b_I_rounded_JI 4 = .ok (.lload_n 0, 1) := by decide +kernel
theorem d_I_rounded_JI_5 : decode b_I_rounded_JI 5 = .ok (.iload_n 2, 1) := by decide +kernel
theorem d_I_rounded_JI_6 : decode b_I_rounded_JI 6 = .ok (.ineg, 1) := by decide +kernel
theorem d_I_rounded_JI_7 : decode b_I_rounded_JI 7 = .ok (.lshl, 1) := by decide +kernel
theorem d_I_rounded_JI_8 : decode b_I_rounded_JI 8 = .ok (.lreturn, 1) := by decide +kernel
theorem d_I_rounded_JI_9 : decode b_I_rounded_JI 9 = .ok (.iload_n 2, 1) := by decide +kernel
theorem d_I_rounded_JI_10 : decode b_I_rounded_JI 10 = .ok (.bipush 63, 2) := by decide +kernel
theorem d_I_rounded_JI_12 : decode b_I_rounded_JI 12 = .ok (.if_icmp .le 5, 3) := by decide +kernel
theorem d_I_rounded_JI_15 : decode b_I_rounded_JI 15 = .ok (.lconst 0, 1) := by decide +kernel
theorem d_I_rounded_JI_16 : decode b_I_rounded_JI 16 = .ok (.lreturn, 1) := by decide +kernel
theorem d_I_rounded_JI_17 : decode b_I_rounded_JI 17 = .ok (.lload_n 0, 1) := by decide +kernel
theorem d_I_rounded_JI_18 : decode b_I_rounded_JI 18 = .ok (.iload_n 2, 1) := by decide +kernel
theorem d_I_rounded_JI_19 : decode b_I_rounded_JI 19 = .ok (.lushr, 1) := by decide +kernel
theorem d_I_rounded_JI_20 : decode b_I_rounded_JI 20 = .ok (.lstore_n 3, 1) := by decide +kernel
theorem d_I_rounded_JI_21 : decode b_I_rounded_JI 21 = .ok (.lload_n 0, 1) := by decide +kernel
theorem d_I_rounded_JI_22 : decode b_I_rounded_JI 22 = .ok (.lconst 1, 1) := by decide +kernel
theorem d_I_rounded_JI_23 : decode b_I_rounded_JI 23 = .ok (.iload_n 2, 1) := by decide +kernel
theorem d_I_rounded_JI_24 : decode b_I_rounded_JI 24 = .ok (.lshl, 1) := by decide +kernel
theorem d_I_rounded_JI_25 : decode b_I_rounded_JI 25 = .ok (.lconst 1, 1) := by decide +kernel
theorem d_I_rounded_JI_26 : decode b_I_rounded_JI 26 = .ok (.lsub, 1) := by decide +kernel
theorem d_I_rounded_JI_27 : decode b_I_rounded_JI 27 = .ok (.land, 1) := by decide +kernel
theorem d_I_rounded_JI_28 : decode b_I_rounded_JI 28 = .ok (.lstore 5, 2) := by decide +kernel
theorem d_I_rounded_JI_30 : decode b_I_rounded_JI 30 = .ok (.lconst 1, 1) := by decide +kernel
theorem d_I_rounded_JI_31 : decode b_I_rounded_JI 31 = .ok (.iload_n 2, 1) := by decide +kernel
theorem d_I_rounded_JI_32 : decode b_I_rounded_JI 32 = .ok (.iconst 1, 1) := by decide +kernel
theorem d_I_rounded_JI_33 : decode b_I_rounded_JI 33 = .ok (.isub, 1) := by decide +kernel
theorem d_I_rounded_JI_34 : decode b_I_rounded_JI 34 = .ok (.lshl, 1) := by decide +kernel
theorem d_I_rounded_JI_35 : decode b_I_rounded_JI 35 = .ok (.lstore 7, 2) := by decide +kernel
theorem d_I_rounded_JI_37 : decode b_I_rounded_JI 37 = .ok (.lload 5, 2) := by decide +kernel
theorem d_I_rounded_JI_39 : decode b_I_rounded_JI 39 = .ok (.lload 7, 2) := by decide +kernel
theorem d_I_rounded_JI_41 : decode b_I_rounded_JI 41 = .ok (.lcmp, 1) := by decide +kernel
theorem d_I_rounded_JI_42 : decode b_I_rounded_JI 42 = .ok (.ifCond .gt 19, 3) := by decide +kernel
theorem d_I_rounded_JI_45 : decode b_I_rounded_JI 45 = .ok (.lload 5, 2) := by decide +kernel
theorem d_I_rounded_JI_47 : decode b_I_rounded_JI 47 = .ok (.lload 7, 2) := by decide +kernel
theorem d_I_rounded_JI_49 : decode b_I_rounded_JI 49 = .ok (.lcmp, 1) := by decide +kernel
theorem d_I_rounded_JI_50 : decode b_I_rounded_JI 50 = .ok (.ifCond .ne 15, 3) := by decide +kernel
theorem d_I_rounded_JI_53 : decode b_I_rounded_JI 53 = .ok (.lload_n 3, 1) := by decide +kernel
theorem d_I_rounded_JI_54 : decode b_I_rounded_JI 54 = .ok (.lconst 1, 1) := by decide +kernel
theorem d_I_rounded_JI_55 : decode b_I_rounded_JI 55 = .ok (.land, 1) := by decide +kernel
theorem d_I_rounded_JI_56 : decode b_I_rounded_JI 56 = .ok (.lconst 1, 1) := by decide +kernel
theorem d_I_rounded_JI_57 : decode b_I_rounded_JI 57 = .ok (.lcmp, 1) := by decide +kernel
theorem d_I_rounded_JI_58 : decode b_I_rounded_JI 58 = .ok (.ifCond .ne 7, 3) := by decide +kernel
theorem d_I_rounded_JI_61 : decode b_I_rounded_JI 61 = .ok (.iconst 1, 1) := by decide +kernel
theorem d_I_rounded_JI_62 : decode b_I_rounded_JI 62 = .ok (.goto 4, 3) := by decide +kernel
theorem d_I_rounded_JI_65 : decode b_I_rounded_JI 65 = .ok (.iconst 0, 1) := by decide +kernel
theorem d_I_rounded_JI_66 : decode b_I_rounded_JI 66 = .ok (.istore 9, 2) := by decide +kernel
theorem d_I_rounded_JI_68 : decode b_I_rounded_JI 68 = .ok (.iload 9, 2) := by decide +kernel
theorem d_I_rounded_JI_70 : decode b_I_rounded_JI 70 = .ok (.ifCond .eq 9, 3) := by decide +kernel
theorem d_I_rounded_JI_73 : decode b_I_rounded_JI 73 = .ok (.lload_n 3, 1) := by decide +kernel
theorem d_I_rounded_JI_74 : decode b_I_rounded_JI 74 = .ok (.lconst 1, 1) := by decide +kernel
theorem d_I_rounded_JI_75 : decode b_I_rounded_JI 75 = .ok (.ladd, 1) := by decide +kernel
theorem d_I_rounded_JI_76 : decode b_I_rounded_JI 76 = .ok (.goto 4, 3) := by decide +kernel
theorem d_I_rounded_JI_79 : decode b_I_rounded_JI 79 = .ok (.lload_n 3, 1) := by decide +kernel
theorem d_I_rounded_JI_80 : decode b_I_rounded_JI 80 = .ok (.lreturn, 1) := by decide +kernel
def f_I_rounded_JI_66 (x3 : Int64) (s0 : Int32) : Int64 :=
  if s0 = 0 then
    x3
  else
    x3 + (1 : Int64)
set_option maxHeartbeats 4000000 in
set_option maxRecDepth 100000 in
theorem k_I_rounded_JI_66 {p : Program} {l : Launch} {e : Env} {s : State} {m : MethodId} {args : Array Value} {below : List Frame} {meth : Method} {c : Code} (C0 : pu_C p s m args meth c b_I_rounded_JI 10 "MotionLab$Ieee" (some .long) (gw y_I_rounded_JI b_I_rounded_JI 10 (some .long))) (x3 : Int64) (s0 : Int32) (ls : Array Slot) (hl : lv_has ls 10 [(3, .long x3)]) {w : Int64} (hw : w = f_I_rounded_JI_66 x3 s0) : W p l e (headSpec (gw y_I_rounded_JI b_I_rounded_JI 10 (some .long)) ({ frames := 0, cells := 0, slots := 0, locals := 0 } : Room)).room s m args below meth c s.heap [] 0 0 (pu_Ql w below args s) (F0 m 66 ls [.int s0]) := by
  obtain ⟨hx, hb, hml, hown, hts, hr, hlocks⟩ := id C0
  refine lv_istore (lv' := [(9, .int s0), (3, .long x3)]) hx hb d_I_rounded_JI_66 hl (by decide) rfl (fun ls hl => ?_)
  refine lv_iload hx hb d_I_rounded_JI_68 (lv_at hl 0 rfl) ?_
  refine lv_if_eq (tgt := 79) hx hb d_I_rounded_JI_70 (by decide) (fun c1 => ?_) (fun c1 => ?_)
  · refine lv_lload_n hx hb d_I_rounded_JI_79 rfl (lv_at hl 1 rfl) ?_
    exact pu_lret hx hb hr hlocks d_I_rounded_JI_80 (by exact Eq.symm (hw.trans (if_pos c1)))
  · refine lv_lload_n hx hb d_I_rounded_JI_73 rfl (lv_at hl 1 rfl) ?_
    refine lv_lconst (v := (1 : Int64)) hx hb d_I_rounded_JI_74 (by decide) ?_
    refine lv_ladd hx hb d_I_rounded_JI_75 ?_
    refine lv_goto (tgt := 80) hx hb d_I_rounded_JI_76 (by decide) ?_
    exact pu_lret hx hb hr hlocks d_I_rounded_JI_80 (by exact Eq.symm (hw.trans (if_neg c1)))
def f_I_rounded_JI_65 (x3 : Int64) : Int64 :=
  f_I_rounded_JI_66 x3 (0 : Int32)
set_option maxHeartbeats 4000000 in
set_option maxRecDepth 100000 in
theorem k_I_rounded_JI_65 {p : Program} {l : Launch} {e : Env} {s : State} {m : MethodId} {args : Array Value} {below : List Frame} {meth : Method} {c : Code} (C0 : pu_C p s m args meth c b_I_rounded_JI 10 "MotionLab$Ieee" (some .long) (gw y_I_rounded_JI b_I_rounded_JI 10 (some .long))) (x3 : Int64) (ls : Array Slot) (hl : lv_has ls 10 [(3, .long x3)]) {w : Int64} (hw : w = f_I_rounded_JI_65 x3) : W p l e (headSpec (gw y_I_rounded_JI b_I_rounded_JI 10 (some .long)) ({ frames := 0, cells := 0, slots := 0, locals := 0 } : Room)).room s m args below meth c s.heap [] 0 0 (pu_Ql w below args s) (F0 m 65 ls []) := by
  obtain ⟨hx, hb, hml, hown, hts, hr, hlocks⟩ := id C0
  refine lv_iconst (v := 0) hx hb d_I_rounded_JI_65 (by decide) ?_
  exact k_I_rounded_JI_66 C0 x3 (0 : Int32) ls (lv_sub hl [0] rfl) (by exact (hw.trans rfl))
def f_I_rounded_JI_61 (x3 : Int64) : Int64 :=
  f_I_rounded_JI_66 x3 (1 : Int32)
set_option maxHeartbeats 4000000 in
set_option maxRecDepth 100000 in
theorem k_I_rounded_JI_61 {p : Program} {l : Launch} {e : Env} {s : State} {m : MethodId} {args : Array Value} {below : List Frame} {meth : Method} {c : Code} (C0 : pu_C p s m args meth c b_I_rounded_JI 10 "MotionLab$Ieee" (some .long) (gw y_I_rounded_JI b_I_rounded_JI 10 (some .long))) (x3 : Int64) (ls : Array Slot) (hl : lv_has ls 10 [(3, .long x3)]) {w : Int64} (hw : w = f_I_rounded_JI_61 x3) : W p l e (headSpec (gw y_I_rounded_JI b_I_rounded_JI 10 (some .long)) ({ frames := 0, cells := 0, slots := 0, locals := 0 } : Room)).room s m args below meth c s.heap [] 0 0 (pu_Ql w below args s) (F0 m 61 ls []) := by
  obtain ⟨hx, hb, hml, hown, hts, hr, hlocks⟩ := id C0
  refine lv_iconst (v := 1) hx hb d_I_rounded_JI_61 (by decide) ?_
  refine lv_goto (tgt := 66) hx hb d_I_rounded_JI_62 (by decide) ?_
  exact k_I_rounded_JI_66 C0 x3 (1 : Int32) ls (lv_sub hl [0] rfl) (by exact (hw.trans rfl))
def f_I_rounded_JI (x0 : Int64) (x2 : Int32) : Int64 :=
  if 0 < x2 then
    if x2 ≤ (63 : Int32) then
      let v3 : Int64 := j_ushr x0 x2
      let v4 : Int64 := x0 &&& ((j_shl (1 : Int64) x2) - (1 : Int64))
      let v5 : Int64 := j_shl (1 : Int64) (x2 - (1 : Int32))
      if 0 < (lg_cmp v4 v5) then
        f_I_rounded_JI_61 v3
      else
        if (lg_cmp v4 v5) = 0 then
          if (lg_cmp (v3 &&& (1 : Int64)) (1 : Int64)) = 0 then
            f_I_rounded_JI_61 v3
          else
            f_I_rounded_JI_65 v3
        else
          f_I_rounded_JI_65 v3
    else
      (0 : Int64)
  else
    j_shl x0 (-x2)
set_option maxHeartbeats 4000000 in
set_option maxRecDepth 100000 in
theorem c_I_rounded_JI (l : Launch) (h : Heap) (x0 : Int64) (x2 : Int32) : Met l y_I_rounded_JI (gw y_I_rounded_JI b_I_rounded_JI 10 (some .long)) { frames := 0, cells := 0, slots := 0, locals := 0 } (pu_Pc [.long x0, .int x2] h) (pu_Ml (f_I_rounded_JI x0 x2) h) 0 0 (fun _ => False) := by
  refine Met.ofW (cc := b_I_rounded_JI) (maxL := 10) (ret := (some .long)) (by decide) rfl ?_
  intro p e s m args below meth c s₁ B hml hv
  obtain ⟨rfl, hh⟩ := hv
  subst hh
  have hx := B.exec
  have hb := B.bytes
  have hr := B.returns
  have hts := atoms_spec (ws := (gw y_I_rounded_JI b_I_rounded_JI 10 (some .long))) B.pre
  have hown : s.vm.findClass "MotionLab$Ieee" = some m.cls := findClass_of_methodNamed B.named
  have hlocks := B.notSynchronized
  have C0 : pu_C p s m _ meth c b_I_rounded_JI 10 "MotionLab$Ieee" (some .long) (gw y_I_rounded_JI b_I_rounded_JI 10 (some .long)) := ⟨hx, hb, hml, hown, hts, hr, hlocks⟩
  have hl := lv_entry ([.long x0, .int x2]) (n := 10) (Nat.le_of_ble_eq_true rfl)
  rw [lg_entry_eq]
  generalize (lg_sl ([.long x0, .int x2]) ++ List.replicate (10 - (lg_sl ([.long x0, .int x2])).length) Slot.unset).toArray = ls at hl ⊢
  have hl : lv_has ls 10 [(0, .long x0), (2, .int x2)] := hl
  refine lv_iload_n hx hb d_I_rounded_JI_0 rfl (lv_at hl 1 rfl) ?_
  refine lv_if_gt (tgt := 9) hx hb d_I_rounded_JI_1 (by decide) (fun c1 => ?_) (fun c1 => ?_)
  · refine lv_iload_n hx hb d_I_rounded_JI_9 rfl (lv_at hl 1 rfl) ?_
    refine lv_bipush (v := (63 : Int32)) hx hb d_I_rounded_JI_10 (by decide) ?_
    refine lv_icmp_le (tgt := 17) hx hb d_I_rounded_JI_12 (by decide) (fun c2 => ?_) (fun c2 => ?_)
    · refine lv_lload_n hx hb d_I_rounded_JI_17 rfl (lv_at hl 0 rfl) ?_
      refine lv_iload_n hx hb d_I_rounded_JI_18 rfl (lv_at hl 1 rfl) ?_
      refine lv_lushr (v := j_ushr x0 x2) hx hb d_I_rounded_JI_19 rfl ?_
      refine lv_topl (fun v3 e3 => ?_)
      refine lv_lstore_n (lv' := [(3, .long v3), (0, .long x0), (2, .int x2)]) hx hb d_I_rounded_JI_20 rfl hl (by decide) rfl (fun ls hl => ?_)
      refine lv_lload_n hx hb d_I_rounded_JI_21 rfl (lv_at hl 1 rfl) ?_
      refine lv_lconst (v := (1 : Int64)) hx hb d_I_rounded_JI_22 (by decide) ?_
      refine lv_iload_n hx hb d_I_rounded_JI_23 rfl (lv_at hl 2 rfl) ?_
      refine lv_lshl (v := j_shl (1 : Int64) x2) hx hb d_I_rounded_JI_24 rfl ?_
      refine lv_lconst (v := (1 : Int64)) hx hb d_I_rounded_JI_25 (by decide) ?_
      refine lv_lsub hx hb d_I_rounded_JI_26 ?_
      refine lv_land hx hb d_I_rounded_JI_27 ?_
      refine lv_topl (fun v4 e4 => ?_)
      refine lv_lstore (lv' := [(5, .long v4), (3, .long v3), (0, .long x0), (2, .int x2)]) hx hb d_I_rounded_JI_28 hl (by decide) rfl (fun ls hl => ?_)
      refine lv_lconst (v := (1 : Int64)) hx hb d_I_rounded_JI_30 (by decide) ?_
      refine lv_iload_n hx hb d_I_rounded_JI_31 rfl (lv_at hl 3 rfl) ?_
      refine lv_iconst (v := 1) hx hb d_I_rounded_JI_32 (by decide) ?_
      refine lv_isub hx hb d_I_rounded_JI_33 ?_
      refine lv_lshl (v := j_shl (1 : Int64) (x2 - (1 : Int32))) hx hb d_I_rounded_JI_34 rfl ?_
      refine lv_topl (fun v5 e5 => ?_)
      refine lv_lstore (lv' := [(7, .long v5), (5, .long v4), (3, .long v3), (0, .long x0), (2, .int x2)]) hx hb d_I_rounded_JI_35 hl (by decide) rfl (fun ls hl => ?_)
      refine lv_lload hx hb d_I_rounded_JI_37 (lv_at hl 1 rfl) ?_
      refine lv_lload hx hb d_I_rounded_JI_39 (lv_at hl 0 rfl) ?_
      refine W.lcmp hx hb d_I_rounded_JI_41 ?_
      refine lv_if_gt (tgt := 61) hx hb d_I_rounded_JI_42 (by decide) (fun c6 => ?_) (fun c6 => ?_)
      · exact k_I_rounded_JI_61 C0 v3 ls (lv_sub hl [2] rfl) (by have qe3 := e3.symm; have qe4 := e4.symm; have qe5 := e5.symm; subst qe3 qe4 qe5; exact (Eq.trans (if_pos c1) (Eq.trans (if_pos c2) (if_pos c6))))
      · refine lv_lload hx hb d_I_rounded_JI_45 (lv_at hl 1 rfl) ?_
        refine lv_lload hx hb d_I_rounded_JI_47 (lv_at hl 0 rfl) ?_
        refine W.lcmp hx hb d_I_rounded_JI_49 ?_
        refine lv_if_ne (tgt := 65) hx hb d_I_rounded_JI_50 (by decide) (fun c7 => ?_) (fun c7 => ?_)
        · exact k_I_rounded_JI_65 C0 v3 ls (lv_sub hl [2] rfl) (by have qe3 := e3.symm; have qe4 := e4.symm; have qe5 := e5.symm; subst qe3 qe4 qe5; exact (Eq.trans (if_pos c1) (Eq.trans (if_pos c2) (Eq.trans (if_neg c6) (if_neg c7)))))
        · refine lv_lload_n hx hb d_I_rounded_JI_53 rfl (lv_at hl 2 rfl) ?_
          refine lv_lconst (v := (1 : Int64)) hx hb d_I_rounded_JI_54 (by decide) ?_
          refine lv_land hx hb d_I_rounded_JI_55 ?_
          refine lv_lconst (v := (1 : Int64)) hx hb d_I_rounded_JI_56 (by decide) ?_
          refine W.lcmp hx hb d_I_rounded_JI_57 ?_
          refine lv_if_ne (tgt := 65) hx hb d_I_rounded_JI_58 (by decide) (fun c8 => ?_) (fun c8 => ?_)
          · exact k_I_rounded_JI_65 C0 v3 ls (lv_sub hl [2] rfl) (by have qe3 := e3.symm; have qe4 := e4.symm; have qe5 := e5.symm; subst qe3 qe4 qe5; exact (Eq.trans (if_pos c1) (Eq.trans (if_pos c2) (Eq.trans (if_neg c6) (Eq.trans (if_pos c7) (if_neg c8))))))
          · exact k_I_rounded_JI_61 C0 v3 ls (lv_sub hl [2] rfl) (by have qe3 := e3.symm; have qe4 := e4.symm; have qe5 := e5.symm; subst qe3 qe4 qe5; exact (Eq.trans (if_pos c1) (Eq.trans (if_pos c2) (Eq.trans (if_neg c6) (Eq.trans (if_pos c7) (if_pos c8))))))
    · refine lv_lconst (v := (0 : Int64)) hx hb d_I_rounded_JI_15 (by decide) ?_
      exact pu_lret hx hb hr hlocks d_I_rounded_JI_16 (by exact Eq.symm (Eq.trans (if_pos c1) (if_neg c2)))
  · refine lv_lload_n hx hb d_I_rounded_JI_4 rfl (lv_at hl 0 rfl) ?_
    refine lv_iload_n hx hb d_I_rounded_JI_5 rfl (lv_at hl 1 rfl) ?_
    refine lv_ineg hx hb d_I_rounded_JI_6 ?_
    refine lv_lshl (v := j_shl x0 (-x2)) hx hb d_I_rounded_JI_7 rfl ?_
    exact pu_lret hx hb hr hlocks d_I_rounded_JI_8 (by exact Eq.symm (if_neg c1))
-- ===== MotionLab$Ieee.nearest(JIJ)J
abbrev y_I_nearest_JIJ : MethodName := ⟨"MotionLab$Ieee", "nearest", "(JIJ)J"⟩
abbrev b_I_nearest_JIJ : ByteArray := prog_2_method_33_code
theorem d_I_nearest_JIJ_0 : decode b_I_nearest_JIJ 0 = .ok (.lload_n 3, 1) := by decide +kernel
theorem d_I_nearest_JIJ_1 : decode b_I_nearest_JIJ 1 = .ok (.lconst 0, 1) := by decide +kernel
theorem d_I_nearest_JIJ_2 : decode b_I_nearest_JIJ 2 = .ok (.lcmp, 1) := by decide +kernel
theorem d_I_nearest_JIJ_3 : decode b_I_nearest_JIJ 3 = .ok (.ifCond .ne 5, 3) := by decide +kernel
theorem d_I_nearest_JIJ_6 : decode b_I_nearest_JIJ 6 = .ok (.lload_n 0, 1) := by decide +kernel
theorem d_I_nearest_JIJ_7 : decode b_I_nearest_JIJ 7 = .ok (.lreturn, 1) := by decide +kernel
theorem d_I_nearest_JIJ_8 : decode b_I_nearest_JIJ 8 = .ok (.bipush 11, 2) := by decide +kernel
theorem d_I_nearest_JIJ_10 : decode b_I_nearest_JIJ 10 = .ok (.lload_n 3, 1) := by decide +kernel
theorem d_I_nearest_JIJ_11 : decode b_I_nearest_JIJ 11 = .ok (.invokestatic 126, 3) := by decide +kernel
theorem d_I_nearest_JIJ_14 : decode b_I_nearest_JIJ 14 = .ok (.isub, 1) := by decide +kernel
theorem d_I_nearest_JIJ_15 : decode b_I_nearest_JIJ 15 = .ok (.sipush (-1074), 3) := by decide +kernel
theorem d_I_nearest_JIJ_18 : decode b_I_nearest_JIJ 18 = .ok (.iload_n 2, 1) := by decide +kernel
theorem d_I_nearest_JIJ_19 : decode b_I_nearest_JIJ 19 = .ok (.isub, 1) := by decide +kernel
theorem d_I_nearest_JIJ_20 : decode b_I_nearest_JIJ 20 = .ok (.invokestatic 124, 3) := by decide +kernel
theorem d_I_nearest_JIJ_23 : decode b_I_nearest_JIJ 23 = .ok (.istore 5, 2) := by decide +kernel
theorem d_I_nearest_JIJ_25 : decode b_I_nearest_JIJ 25 = .ok (.iload_n 2, 1) := by decide +kernel
theorem d_I_nearest_JIJ_26 : decode b_I_nearest_JIJ 26 = .ok (.iload 5, 2) := by decide +kernel
theorem d_I_nearest_JIJ_28 : decode b_I_nearest_JIJ 28 = .ok (.iadd, 1) := by decide +kernel
theorem d_I_nearest_JIJ_29 : decode b_I_nearest_JIJ 29 = .ok (.sipush (-1074), 3) := by decide +kernel
theorem d_I_nearest_JIJ_32 : decode b_I_nearest_JIJ 32 = .ok (.isub, 1) := by decide +kernel
theorem d_I_nearest_JIJ_33 : decode b_I_nearest_JIJ 33 = .ok (.istore 6, 2) := by decide +kernel
theorem d_I_nearest_JIJ_35 : decode b_I_nearest_JIJ 35 = .ok (.iload 6, 2) := by decide +kernel
theorem d_I_nearest_JIJ_37 : decode b_I_nearest_JIJ 37 = .ok (.sipush 2045, 3) := by decide +kernel
theorem d_I_nearest_JIJ_40 : decode b_I_nearest_JIJ 40 = .ok (.if_icmp .le 9, 3) := by decide +kernel
theorem d_I_nearest_JIJ_43 : decode b_I_nearest_JIJ 43 = .ok (.lload_n 0, 1) := by decide +kernel
theorem d_I_nearest_JIJ_44 : decode b_I_nearest_JIJ 44 = .ok (.ldc2_w 11, 3) := by decide +kernel
theorem d_I_nearest_JIJ_47 : decode b_I_nearest_JIJ 47 = .ok (.lor, 1) := by decide +kernel
theorem d_I_nearest_JIJ_48 : decode b_I_nearest_JIJ 48 = .ok (.lreturn, 1) := by decide +kernel
theorem d_I_nearest_JIJ_49 : decode b_I_nearest_JIJ 49 = .ok (.lload_n 0, 1) := by decide +kernel
theorem d_I_nearest_JIJ_50 : decode b_I_nearest_JIJ 50 = .ok (.iload 6, 2) := by decide +kernel
theorem d_I_nearest_JIJ_52 : decode b_I_nearest_JIJ 52 = .ok (.i2l, 1) := by decide +kernel
theorem d_I_nearest_JIJ_53 : decode b_I_nearest_JIJ 53 = .ok (.bipush 52, 2) := by decide +kernel
theorem d_I_nearest_JIJ_55 : decode b_I_nearest_JIJ 55 = .ok (.lshl, 1) := by decide +kernel
theorem d_I_nearest_JIJ_56 : decode b_I_nearest_JIJ 56 = .ok (.lload_n 3, 1) := by decide +kernel
theorem d_I_nearest_JIJ_57 : decode b_I_nearest_JIJ 57 = .ok (.iload 5, 2) := by decide +kernel
theorem d_I_nearest_JIJ_59 : decode b_I_nearest_JIJ 59 = .ok (.invokestatic 131, 3) := by decide +kernel
theorem d_I_nearest_JIJ_62 : decode b_I_nearest_JIJ 62 = .ok (.ladd, 1) := by decide +kernel
theorem d_I_nearest_JIJ_63 : decode b_I_nearest_JIJ 63 = .ok (.lor, 1) := by decide +kernel
theorem d_I_nearest_JIJ_64 : decode b_I_nearest_JIJ 64 = .ok (.lreturn, 1) := by decide +kernel
def f_I_nearest_JIJ (x0 : Int64) (x2 : Int32) (x3 : Int64) : Int64 :=
  if (lg_cmp x3 (0 : Int64)) = 0 then
    x0
  else
    let v2 : Int32 := f_jM_max_II ((11 : Int32) - (f_jL_numberOfLeadingZeros_J x3)) ((-1074 : Int32) - x2)
    let v3 : Int32 := (x2 + v2) - (-1074 : Int32)
    if v3 ≤ (2045 : Int32) then
      x0 ||| ((j_shl (v3.toInt64) (52 : Int32)) + (f_I_rounded_JI x3 v2))
    else
      x0 ||| (9218868437227405312 : Int64)
set_option maxHeartbeats 4000000 in
set_option maxRecDepth 100000 in
theorem c_I_nearest_JIJ (l : Launch) (h : Heap) (x0 : Int64) (x2 : Int32) (x3 : Int64) : Met l y_I_nearest_JIJ (gw y_I_nearest_JIJ b_I_nearest_JIJ 7 (some .long)) { frames := 2, cells := 0, slots := 0, locals := 43 } (pu_Pc [.long x0, .int x2, .long x3] h) (pu_Ml (f_I_nearest_JIJ x0 x2 x3) h) 0 0 (fun _ => False) := by
  refine Met.ofW (cc := b_I_nearest_JIJ) (maxL := 7) (ret := (some .long)) (by decide) rfl ?_
  intro p e s m args below meth c s₁ B hml hv
  obtain ⟨rfl, hh⟩ := hv
  subst hh
  have hx := B.exec
  have hb := B.bytes
  have hr := B.returns
  have hts := atoms_spec (ws := (gw y_I_nearest_JIJ b_I_nearest_JIJ 7 (some .long))) B.pre
  have hown : s.vm.findClass "MotionLab$Ieee" = some m.cls := findClass_of_methodNamed B.named
  have hlocks := B.notSynchronized
  have C0 : pu_C p s m _ meth c b_I_nearest_JIJ 7 "MotionLab$Ieee" (some .long) (gw y_I_nearest_JIJ b_I_nearest_JIJ 7 (some .long)) := ⟨hx, hb, hml, hown, hts, hr, hlocks⟩
  have hl := lv_entry ([.long x0, .int x2, .long x3]) (n := 7) (Nat.le_of_ble_eq_true rfl)
  rw [lg_entry_eq]
  generalize (lg_sl ([.long x0, .int x2, .long x3]) ++ List.replicate (7 - (lg_sl ([.long x0, .int x2, .long x3])).length) Slot.unset).toArray = ls at hl ⊢
  have hl : lv_has ls 7 [(0, .long x0), (2, .int x2), (3, .long x3)] := hl
  refine lv_lload_n hx hb d_I_nearest_JIJ_0 rfl (lv_at hl 2 rfl) ?_
  refine lv_lconst (v := (0 : Int64)) hx hb d_I_nearest_JIJ_1 (by decide) ?_
  refine W.lcmp hx hb d_I_nearest_JIJ_2 ?_
  refine lv_if_ne (tgt := 8) hx hb d_I_nearest_JIJ_3 (by decide) (fun c1 => ?_) (fun c1 => ?_)
  · refine lv_bipush (v := (11 : Int32)) hx hb d_I_nearest_JIJ_8 (by decide) ?_
    refine lv_lload_n hx hb d_I_nearest_JIJ_10 rfl (lv_at hl 2 rfl) ?_
    refine pu_i (As := [.long x3]) (rest := [.int (11 : Int32)]) ⟨hx, hb, hml, hown, hts⟩ (c_jL_numberOfLeadingZeros_J l _ x3) pu_pre (gw_call (k := 1) hts tw_108 tw_109 tw_7 tw_110 (by decide +kernel) rfl rfl ⟨Nat.le_of_ble_eq_true rfl, Nat.le_of_ble_eq_true rfl⟩) rfl hl.1 rfl (Nat.le_of_ble_eq_true rfl) ⟨Nat.zero_le _, Nat.zero_le _⟩ d_I_nearest_JIJ_11 ?_
    refine lv_isub hx hb d_I_nearest_JIJ_14 ?_
    refine lv_sipush (v := (-1074 : Int32)) hx hb d_I_nearest_JIJ_15 (by decide) ?_
    refine lv_iload_n hx hb d_I_nearest_JIJ_18 rfl (lv_at hl 1 rfl) ?_
    refine lv_isub hx hb d_I_nearest_JIJ_19 ?_
    refine pu_i (As := [.int ((11 : Int32) - (f_jL_numberOfLeadingZeros_J x3)), .int ((-1074 : Int32) - x2)]) (rest := []) ⟨hx, hb, hml, hown, hts⟩ (c_jM_max_II l _ ((11 : Int32) - (f_jL_numberOfLeadingZeros_J x3)) ((-1074 : Int32) - x2)) pu_pre (gw_call (k := 2) hts tw_97 tw_98 tw_6 tw_99 (by decide +kernel) rfl rfl ⟨Nat.le_of_ble_eq_true rfl, Nat.le_of_ble_eq_true rfl⟩) rfl hl.1 rfl (Nat.le_of_ble_eq_true rfl) ⟨Nat.zero_le _, Nat.zero_le _⟩ d_I_nearest_JIJ_20 ?_
    refine lv_topi (fun v2 e2 => ?_)
    refine lv_istore (lv' := [(5, .int v2), (0, .long x0), (2, .int x2), (3, .long x3)]) hx hb d_I_nearest_JIJ_23 hl (by decide) rfl (fun ls hl => ?_)
    refine lv_iload_n hx hb d_I_nearest_JIJ_25 rfl (lv_at hl 2 rfl) ?_
    refine lv_iload hx hb d_I_nearest_JIJ_26 (lv_at hl 0 rfl) ?_
    refine lv_iadd hx hb d_I_nearest_JIJ_28 ?_
    refine lv_sipush (v := (-1074 : Int32)) hx hb d_I_nearest_JIJ_29 (by decide) ?_
    refine lv_isub hx hb d_I_nearest_JIJ_32 ?_
    refine lv_topi (fun v3 e3 => ?_)
    refine lv_istore (lv' := [(6, .int v3), (5, .int v2), (0, .long x0), (2, .int x2), (3, .long x3)]) hx hb d_I_nearest_JIJ_33 hl (by decide) rfl (fun ls hl => ?_)
    refine lv_iload hx hb d_I_nearest_JIJ_35 (lv_at hl 0 rfl) ?_
    refine lv_sipush (v := (2045 : Int32)) hx hb d_I_nearest_JIJ_37 (by decide) ?_
    refine lv_icmp_le (tgt := 49) hx hb d_I_nearest_JIJ_40 (by decide) (fun c4 => ?_) (fun c4 => ?_)
    · refine lv_lload_n hx hb d_I_nearest_JIJ_49 rfl (lv_at hl 2 rfl) ?_
      refine lv_iload hx hb d_I_nearest_JIJ_50 (lv_at hl 0 rfl) ?_
      refine lv_i2l hx hb d_I_nearest_JIJ_52 rfl ?_
      refine lv_bipush (v := (52 : Int32)) hx hb d_I_nearest_JIJ_53 (by decide) ?_
      refine lv_lshl (v := j_shl (v3.toInt64) (52 : Int32)) hx hb d_I_nearest_JIJ_55 rfl ?_
      refine lv_lload_n hx hb d_I_nearest_JIJ_56 rfl (lv_at hl 4 rfl) ?_
      refine lv_iload hx hb d_I_nearest_JIJ_57 (lv_at hl 1 rfl) ?_
      refine pu_l (As := [.long x3, .int v2]) (rest := [.long (j_shl (v3.toInt64) (52 : Int32)), .long x0]) ⟨hx, hb, hml, hown, hts⟩ (c_I_rounded_JI l _ x3 v2) pu_pre (gw_call (k := 2) hts tw_118 tw_119 tw_5 tw_120 (by decide +kernel) rfl rfl ⟨Nat.le_of_ble_eq_true rfl, Nat.le_of_ble_eq_true rfl⟩) rfl hl.1 rfl (Nat.le_of_ble_eq_true rfl) ⟨Nat.zero_le _, Nat.zero_le _⟩ d_I_nearest_JIJ_59 ?_
      refine lv_ladd hx hb d_I_nearest_JIJ_62 ?_
      refine lv_lor hx hb d_I_nearest_JIJ_63 ?_
      exact pu_lret hx hb hr hlocks d_I_nearest_JIJ_64 (by have qe2 := e2.symm; have qe3 := e3.symm; subst qe2 qe3; exact Eq.symm (Eq.trans (if_neg c1) (if_pos c4)))
    · refine lv_lload_n hx hb d_I_nearest_JIJ_43 rfl (lv_at hl 2 rfl) ?_
      refine lv_ldc2 (v := (9218868437227405312 : Int64)) hx hb hown (hts _ (gm tw_85)) d_I_nearest_JIJ_44 ?_
      refine lv_lor hx hb d_I_nearest_JIJ_47 ?_
      exact pu_lret hx hb hr hlocks d_I_nearest_JIJ_48 (by have qe2 := e2.symm; have qe3 := e3.symm; subst qe2 qe3; exact Eq.symm (Eq.trans (if_neg c1) (if_neg c4)))
  · refine lv_lload_n hx hb d_I_nearest_JIJ_6 rfl (lv_at hl 0 rfl) ?_
    exact pu_lret hx hb hr hlocks d_I_nearest_JIJ_7 (by exact Eq.symm (if_pos c1))
-- ===== MotionLab$Ieee.nearestFloat(JIJ)J
abbrev y_I_nearestFloat_JIJ : MethodName := ⟨"MotionLab$Ieee", "nearestFloat", "(JIJ)J"⟩
abbrev b_I_nearestFloat_JIJ : ByteArray := prog_2_method_34_code
theorem d_I_nearestFloat_JIJ_0 : decode b_I_nearestFloat_JIJ 0 = .ok (.bipush 40, 2) := by decide +kernel
theorem d_I_nearestFloat_JIJ_2 : decode b_I_nearestFloat_JIJ 2 = .ok (.lload_n 3, 1) := by decide +kernel
theorem d_I_nearestFloat_JIJ_3 : decode b_I_nearestFloat_JIJ 3 = .ok (.invokestatic 126, 3) := by decide +kernel
theorem d_I_nearestFloat_JIJ_6 : decode b_I_nearestFloat_JIJ 6 = .ok (.isub, 1) := by decide +kernel
theorem d_I_nearestFloat_JIJ_7 : decode b_I_nearestFloat_JIJ 7 = .ok (.sipush (-149), 3) := by decide +kernel
theorem d_I_nearestFloat_JIJ_10 : decode b_I_nearestFloat_JIJ 10 = .ok (.iload_n 2, 1) := by decide +kernel
theorem d_I_nearestFloat_JIJ_11 : decode b_I_nearestFloat_JIJ 11 = .ok (.isub, 1) := by decide +kernel
theorem d_I_nearestFloat_JIJ_12 : decode b_I_nearestFloat_JIJ 12 = .ok (.invokestatic 124, 3) := by decide +kernel
theorem d_I_nearestFloat_JIJ_15 : decode b_I_nearestFloat_JIJ 15 = .ok (.istore 5, 2) := by decide +kernel
theorem d_I_nearestFloat_JIJ_17 : decode b_I_nearestFloat_JIJ 17 = .ok (.iload 5, 2) := by decide +kernel
theorem d_I_nearestFloat_JIJ_19 : decode b_I_nearestFloat_JIJ 19 = .ok (.ifCond .gt 10, 3) := by decide +kernel
theorem d_I_nearestFloat_JIJ_22 : decode b_I_nearestFloat_JIJ 22 = .ok (.lload_n 0, 1) := by decide +kernel
theorem d_I_nearestFloat_JIJ_23 : decode b_I_nearestFloat_JIJ 23 = .ok (.iload_n 2, 1) := by decide +kernel
theorem d_I_nearestFloat_JIJ_24 : decode b_I_nearestFloat_JIJ 24 = .ok (.lload_n 3, 1) := by decide +kernel
theorem d_I_nearestFloat_JIJ_25 : decode b_I_nearestFloat_JIJ 25 = .ok (.invokestatic 52, 3) := by decide +kernel
theorem d_I_nearestFloat_JIJ_28 : decode b_I_nearestFloat_JIJ 28 = .ok (.lreturn, 1) := by decide +kernel
theorem d_I_nearestFloat_JIJ_29 : decode b_I_nearestFloat_JIJ 29 = .ok (.lload_n 0, 1) := by decide +kernel
theorem d_I_nearestFloat_JIJ_30 : decode b_I_nearestFloat_JIJ 30 = .ok (.iload_n 2, 1) := by decide +kernel
theorem d_I_nearestFloat_JIJ_31 : decode b_I_nearestFloat_JIJ 31 = .ok (.iload 5, 2) := by decide +kernel
theorem d_I_nearestFloat_JIJ_33 : decode b_I_nearestFloat_JIJ 33 = .ok (.iadd, 1) := by decide +kernel
theorem d_I_nearestFloat_JIJ_34 : decode b_I_nearestFloat_JIJ 34 = .ok (.lload_n 3, 1) := by decide +kernel
theorem d_I_nearestFloat_JIJ_35 : decode b_I_nearestFloat_JIJ 35 = .ok (.iload 5, 2) := by decide +kernel
theorem d_I_nearestFloat_JIJ_37 : decode b_I_nearestFloat_JIJ 37 = .ok (.invokestatic 131, 3) := by decide +kernel
theorem d_I_nearestFloat_JIJ_40 : decode b_I_nearestFloat_JIJ 40 = .ok (.invokestatic 52, 3) := by decide +kernel
theorem d_I_nearestFloat_JIJ_43 : decode b_I_nearestFloat_JIJ 43 = .ok (.lstore 6, 2) := by decide +kernel
theorem d_I_nearestFloat_JIJ_45 : decode b_I_nearestFloat_JIJ 45 = .ok (.lload 6, 2) := by decide +kernel
theorem d_I_nearestFloat_JIJ_47 : decode b_I_nearestFloat_JIJ 47 = .ok (.ldc2_w 9, 3) := by decide +kernel
theorem d_I_nearestFloat_JIJ_50 : decode b_I_nearestFloat_JIJ 50 = .ok (.land, 1) := by decide +kernel
theorem d_I_nearestFloat_JIJ_51 : decode b_I_nearestFloat_JIJ 51 = .ok (.ldc2_w 134, 3) := by decide +kernel
theorem d_I_nearestFloat_JIJ_54 : decode b_I_nearestFloat_JIJ 54 = .ok (.lcmp, 1) := by decide +kernel
theorem d_I_nearestFloat_JIJ_55 : decode b_I_nearestFloat_JIJ 55 = .ok (.ifCond .lt 11, 3) := by decide +kernel
theorem d_I_nearestFloat_JIJ_58 : decode b_I_nearestFloat_JIJ 58 = .ok (.lload_n 0, 1) := by decide +kernel
theorem d_I_nearestFloat_JIJ_59 : decode b_I_nearestFloat_JIJ 59 = .ok (.ldc2_w 11, 3) := by decide +kernel
theorem d_I_nearestFloat_JIJ_62 : decode b_I_nearestFloat_JIJ 62 = .ok (.lor, 1) := by decide +kernel
theorem d_I_nearestFloat_JIJ_63 : decode b_I_nearestFloat_JIJ 63 = .ok (.goto 5, 3) := by decide +kernel
theorem d_I_nearestFloat_JIJ_66 : decode b_I_nearestFloat_JIJ 66 = .ok (.lload 6, 2) := by decide +kernel
theorem d_I_nearestFloat_JIJ_68 : decode b_I_nearestFloat_JIJ 68 = .ok (.lreturn, 1) := by decide +kernel
def f_I_nearestFloat_JIJ (x0 : Int64) (x2 : Int32) (x3 : Int64) : Int64 :=
  let v1 : Int32 := f_jM_max_II ((40 : Int32) - (f_jL_numberOfLeadingZeros_J x3)) ((-149 : Int32) - x2)
  if 0 < v1 then
    let v3 : Int64 := f_I_nearest_JIJ x0 (x2 + v1) (f_I_rounded_JI x3 v1)
    if (lg_cmp (v3 &&& (9223372036854775807 : Int64)) (5183643171103440896 : Int64)) < 0 then
      v3
    else
      x0 ||| (9218868437227405312 : Int64)
  else
    f_I_nearest_JIJ x0 x2 x3
set_option maxHeartbeats 4000000 in
set_option maxRecDepth 100000 in
theorem c_I_nearestFloat_JIJ (l : Launch) (h : Heap) (x0 : Int64) (x2 : Int32) (x3 : Int64) : Met l y_I_nearestFloat_JIJ (gw y_I_nearestFloat_JIJ b_I_nearestFloat_JIJ 8 (some .long)) { frames := 3, cells := 0, slots := 0, locals := 69 } (pu_Pc [.long x0, .int x2, .long x3] h) (pu_Ml (f_I_nearestFloat_JIJ x0 x2 x3) h) 0 0 (fun _ => False) := by
  refine Met.ofW (cc := b_I_nearestFloat_JIJ) (maxL := 8) (ret := (some .long)) (by decide) rfl ?_
  intro p e s m args below meth c s₁ B hml hv
  obtain ⟨rfl, hh⟩ := hv
  subst hh
  have hx := B.exec
  have hb := B.bytes
  have hr := B.returns
  have hts := atoms_spec (ws := (gw y_I_nearestFloat_JIJ b_I_nearestFloat_JIJ 8 (some .long))) B.pre
  have hown : s.vm.findClass "MotionLab$Ieee" = some m.cls := findClass_of_methodNamed B.named
  have hlocks := B.notSynchronized
  have C0 : pu_C p s m _ meth c b_I_nearestFloat_JIJ 8 "MotionLab$Ieee" (some .long) (gw y_I_nearestFloat_JIJ b_I_nearestFloat_JIJ 8 (some .long)) := ⟨hx, hb, hml, hown, hts, hr, hlocks⟩
  have hl := lv_entry ([.long x0, .int x2, .long x3]) (n := 8) (Nat.le_of_ble_eq_true rfl)
  rw [lg_entry_eq]
  generalize (lg_sl ([.long x0, .int x2, .long x3]) ++ List.replicate (8 - (lg_sl ([.long x0, .int x2, .long x3])).length) Slot.unset).toArray = ls at hl ⊢
  have hl : lv_has ls 8 [(0, .long x0), (2, .int x2), (3, .long x3)] := hl
  refine lv_bipush (v := (40 : Int32)) hx hb d_I_nearestFloat_JIJ_0 (by decide) ?_
  refine lv_lload_n hx hb d_I_nearestFloat_JIJ_2 rfl (lv_at hl 2 rfl) ?_
  refine pu_i (As := [.long x3]) (rest := [.int (40 : Int32)]) ⟨hx, hb, hml, hown, hts⟩ (c_jL_numberOfLeadingZeros_J l _ x3) pu_pre (gw_call (k := 1) hts tw_108 tw_109 tw_7 tw_110 (by decide +kernel) rfl rfl ⟨Nat.le_of_ble_eq_true rfl, Nat.le_of_ble_eq_true rfl⟩) rfl hl.1 rfl (Nat.le_of_ble_eq_true rfl) ⟨Nat.zero_le _, Nat.zero_le _⟩ d_I_nearestFloat_JIJ_3 ?_
  refine lv_isub hx hb d_I_nearestFloat_JIJ_6 ?_
  refine lv_sipush (v := (-149 : Int32)) hx hb d_I_nearestFloat_JIJ_7 (by decide) ?_
  refine lv_iload_n hx hb d_I_nearestFloat_JIJ_10 rfl (lv_at hl 1 rfl) ?_
  refine lv_isub hx hb d_I_nearestFloat_JIJ_11 ?_
  refine pu_i (As := [.int ((40 : Int32) - (f_jL_numberOfLeadingZeros_J x3)), .int ((-149 : Int32) - x2)]) (rest := []) ⟨hx, hb, hml, hown, hts⟩ (c_jM_max_II l _ ((40 : Int32) - (f_jL_numberOfLeadingZeros_J x3)) ((-149 : Int32) - x2)) pu_pre (gw_call (k := 2) hts tw_97 tw_98 tw_6 tw_99 (by decide +kernel) rfl rfl ⟨Nat.le_of_ble_eq_true rfl, Nat.le_of_ble_eq_true rfl⟩) rfl hl.1 rfl (Nat.le_of_ble_eq_true rfl) ⟨Nat.zero_le _, Nat.zero_le _⟩ d_I_nearestFloat_JIJ_12 ?_
  refine lv_topi (fun v1 e1 => ?_)
  refine lv_istore (lv' := [(5, .int v1), (0, .long x0), (2, .int x2), (3, .long x3)]) hx hb d_I_nearestFloat_JIJ_15 hl (by decide) rfl (fun ls hl => ?_)
  refine lv_iload hx hb d_I_nearestFloat_JIJ_17 (lv_at hl 0 rfl) ?_
  refine lv_if_gt (tgt := 29) hx hb d_I_nearestFloat_JIJ_19 (by decide) (fun c2 => ?_) (fun c2 => ?_)
  · refine lv_lload_n hx hb d_I_nearestFloat_JIJ_29 rfl (lv_at hl 1 rfl) ?_
    refine lv_iload_n hx hb d_I_nearestFloat_JIJ_30 rfl (lv_at hl 2 rfl) ?_
    refine lv_iload hx hb d_I_nearestFloat_JIJ_31 (lv_at hl 0 rfl) ?_
    refine lv_iadd hx hb d_I_nearestFloat_JIJ_33 ?_
    refine lv_lload_n hx hb d_I_nearestFloat_JIJ_34 rfl (lv_at hl 3 rfl) ?_
    refine lv_iload hx hb d_I_nearestFloat_JIJ_35 (lv_at hl 0 rfl) ?_
    refine pu_l (As := [.long x3, .int v1]) (rest := [.int (x2 + v1), .long x0]) ⟨hx, hb, hml, hown, hts⟩ (c_I_rounded_JI l _ x3 v1) pu_pre (gw_call (k := 2) hts tw_118 tw_119 tw_5 tw_120 (by decide +kernel) rfl rfl ⟨Nat.le_of_ble_eq_true rfl, Nat.le_of_ble_eq_true rfl⟩) rfl hl.1 rfl (Nat.le_of_ble_eq_true rfl) ⟨Nat.zero_le _, Nat.zero_le _⟩ d_I_nearestFloat_JIJ_37 ?_
    refine pu_l (As := [.long x0, .int (x2 + v1), .long (f_I_rounded_JI x3 v1)]) (rest := []) ⟨hx, hb, hml, hown, hts⟩ (c_I_nearest_JIJ l _ x0 (x2 + v1) (f_I_rounded_JI x3 v1)) pu_pre (gw_call (k := 3) hts tw_115 tw_116 tw_5 tw_117 (by decide +kernel) rfl rfl ⟨Nat.le_of_ble_eq_true rfl, Nat.le_of_ble_eq_true rfl⟩) rfl hl.1 rfl (Nat.le_of_ble_eq_true rfl) ⟨Nat.zero_le _, Nat.zero_le _⟩ d_I_nearestFloat_JIJ_40 ?_
    refine lv_topl (fun v3 e3 => ?_)
    refine lv_lstore (lv' := [(6, .long v3), (5, .int v1), (0, .long x0), (2, .int x2), (3, .long x3)]) hx hb d_I_nearestFloat_JIJ_43 hl (by decide) rfl (fun ls hl => ?_)
    refine lv_lload hx hb d_I_nearestFloat_JIJ_45 (lv_at hl 0 rfl) ?_
    refine lv_ldc2 (v := (9223372036854775807 : Int64)) hx hb hown (hts _ (gm tw_84)) d_I_nearestFloat_JIJ_47 ?_
    refine lv_land hx hb d_I_nearestFloat_JIJ_50 ?_
    refine lv_ldc2 (v := (5183643171103440896 : Int64)) hx hb hown (hts _ (gm tw_121)) d_I_nearestFloat_JIJ_51 ?_
    refine W.lcmp hx hb d_I_nearestFloat_JIJ_54 ?_
    refine lv_if_lt (tgt := 66) hx hb d_I_nearestFloat_JIJ_55 (by decide) (fun c4 => ?_) (fun c4 => ?_)
    · refine lv_lload hx hb d_I_nearestFloat_JIJ_66 (lv_at hl 0 rfl) ?_
      exact pu_lret hx hb hr hlocks d_I_nearestFloat_JIJ_68 (by have qe1 := e1.symm; have qe3 := e3.symm; subst qe1 qe3; unfold f_I_nearestFloat_JIJ; exact Eq.symm (Eq.trans (if_pos c2) (if_pos c4)))
    · refine lv_lload_n hx hb d_I_nearestFloat_JIJ_58 rfl (lv_at hl 2 rfl) ?_
      refine lv_ldc2 (v := (9218868437227405312 : Int64)) hx hb hown (hts _ (gm tw_85)) d_I_nearestFloat_JIJ_59 ?_
      refine lv_lor hx hb d_I_nearestFloat_JIJ_62 ?_
      refine lv_goto (tgt := 68) hx hb d_I_nearestFloat_JIJ_63 (by decide) ?_
      exact pu_lret hx hb hr hlocks d_I_nearestFloat_JIJ_68 (by have qe1 := e1.symm; have qe3 := e3.symm; subst qe1 qe3; unfold f_I_nearestFloat_JIJ; exact Eq.symm (Eq.trans (if_pos c2) (if_neg c4)))
  · refine lv_lload_n hx hb d_I_nearestFloat_JIJ_22 rfl (lv_at hl 1 rfl) ?_
    refine lv_iload_n hx hb d_I_nearestFloat_JIJ_23 rfl (lv_at hl 2 rfl) ?_
    refine lv_lload_n hx hb d_I_nearestFloat_JIJ_24 rfl (lv_at hl 3 rfl) ?_
    refine pu_l (As := [.long x0, .int x2, .long x3]) (rest := []) ⟨hx, hb, hml, hown, hts⟩ (c_I_nearest_JIJ l _ x0 x2 x3) pu_pre (gw_call (k := 3) hts tw_115 tw_116 tw_5 tw_117 (by decide +kernel) rfl rfl ⟨Nat.le_of_ble_eq_true rfl, Nat.le_of_ble_eq_true rfl⟩) rfl hl.1 rfl (Nat.le_of_ble_eq_true rfl) ⟨Nat.zero_le _, Nat.zero_le _⟩ d_I_nearestFloat_JIJ_25 ?_
    exact pu_lret hx hb hr hlocks d_I_nearestFloat_JIJ_28 (by have qe1 := e1.symm; subst qe1; unfold f_I_nearestFloat_JIJ; exact Eq.symm (if_neg c2))
-- ===== MotionLab$Ieee.toFloat(J)J
abbrev y_I_toFloat_J : MethodName := ⟨"MotionLab$Ieee", "toFloat", "(J)J"⟩
abbrev b_I_toFloat_J : ByteArray := prog_2_method_23_code
theorem d_I_toFloat_J_0 : decode b_I_toFloat_J 0 = .ok (.lload_n 0, 1) := by decide +kernel
theorem d_I_toFloat_J_1 : decode b_I_toFloat_J 1 = .ok (.invokestatic 35, 3) := by decide +kernel
theorem d_I_toFloat_J_4 : decode b_I_toFloat_J 4 = .ok (.ifCond .ne 8, 3) := by decide +kernel
theorem d_I_toFloat_J_7 : decode b_I_toFloat_J 7 = .ok (.lload_n 0, 1) := by decide +kernel
theorem d_I_toFloat_J_8 : decode b_I_toFloat_J 8 = .ok (.invokestatic 21, 3) := by decide +kernel
theorem d_I_toFloat_J_11 : decode b_I_toFloat_J 11 = .ok (.lreturn, 1) := by decide +kernel
theorem d_I_toFloat_J_12 : decode b_I_toFloat_J 12 = .ok (.lload_n 0, 1) := by decide +kernel
theorem d_I_toFloat_J_13 : decode b_I_toFloat_J 13 = .ok (.ldc2_w 19, 3) := by decide +kernel
theorem d_I_toFloat_J_16 : decode b_I_toFloat_J 16 = .ok (.land, 1) := by decide +kernel
theorem d_I_toFloat_J_17 : decode b_I_toFloat_J 17 = .ok (.lload_n 0, 1) := by decide +kernel
theorem d_I_toFloat_J_18 : decode b_I_toFloat_J 18 = .ok (.invokestatic 41, 3) := by decide +kernel
theorem d_I_toFloat_J_21 : decode b_I_toFloat_J 21 = .ok (.lload_n 0, 1) := by decide +kernel
theorem d_I_toFloat_J_22 : decode b_I_toFloat_J 22 = .ok (.invokestatic 45, 3) := by decide +kernel
theorem d_I_toFloat_J_25 : decode b_I_toFloat_J 25 = .ok (.invokestatic 94, 3) := by decide +kernel
theorem d_I_toFloat_J_28 : decode b_I_toFloat_J 28 = .ok (.lreturn, 1) := by decide +kernel
def f_I_toFloat_J (x0 : Int64) : Int64 :=
  if (f_I_isFinite_J x0) = 0 then
    f_I_told_J x0
  else
    f_I_nearestFloat_JIJ (x0 &&& (-9223372036854775808 : Int64)) (f_I_power_J x0) (f_I_significand_J x0)
set_option maxHeartbeats 4000000 in
set_option maxRecDepth 100000 in
theorem c_I_toFloat_J (l : Launch) (h : Heap) (x0 : Int64) : Met l y_I_toFloat_J (gw y_I_toFloat_J b_I_toFloat_J 2 (some .long)) { frames := 4, cells := 0, slots := 0, locals := 96 } (pu_Pc [.long x0] h) (pu_Ml (f_I_toFloat_J x0) h) 0 0 (fun _ => False) := by
  refine Met.ofW (cc := b_I_toFloat_J) (maxL := 2) (ret := (some .long)) (by decide) rfl ?_
  intro p e s m args below meth c s₁ B hml hv
  obtain ⟨rfl, hh⟩ := hv
  subst hh
  have hx := B.exec
  have hb := B.bytes
  have hr := B.returns
  have hts := atoms_spec (ws := (gw y_I_toFloat_J b_I_toFloat_J 2 (some .long))) B.pre
  have hown : s.vm.findClass "MotionLab$Ieee" = some m.cls := findClass_of_methodNamed B.named
  have hlocks := B.notSynchronized
  have C0 : pu_C p s m _ meth c b_I_toFloat_J 2 "MotionLab$Ieee" (some .long) (gw y_I_toFloat_J b_I_toFloat_J 2 (some .long)) := ⟨hx, hb, hml, hown, hts, hr, hlocks⟩
  have hl := lv_entry ([.long x0]) (n := 2) (Nat.le_of_ble_eq_true rfl)
  rw [lg_entry_eq]
  generalize (lg_sl ([.long x0]) ++ List.replicate (2 - (lg_sl ([.long x0])).length) Slot.unset).toArray = ls at hl ⊢
  have hl : lv_has ls 2 [(0, .long x0)] := hl
  refine lv_lload_n hx hb d_I_toFloat_J_0 rfl (lv_at hl 0 rfl) ?_
  refine pu_i (As := [.long x0]) (rest := []) ⟨hx, hb, hml, hown, hts⟩ (c_I_isFinite_J l _ x0) pu_pre (gw_call (k := 1) hts tw_81 tw_82 tw_5 tw_83 (by decide +kernel) rfl rfl ⟨Nat.le_of_ble_eq_true rfl, Nat.le_of_ble_eq_true rfl⟩) rfl hl.1 rfl (Nat.le_of_ble_eq_true rfl) ⟨Nat.zero_le _, Nat.zero_le _⟩ d_I_toFloat_J_1 ?_
  refine lv_if_ne (tgt := 12) hx hb d_I_toFloat_J_4 (by decide) (fun c1 => ?_) (fun c1 => ?_)
  · refine lv_lload_n hx hb d_I_toFloat_J_12 rfl (lv_at hl 0 rfl) ?_
    refine lv_ldc2 (v := (-9223372036854775808 : Int64)) hx hb hown (hts _ (gm tw_93)) d_I_toFloat_J_13 ?_
    refine lv_land hx hb d_I_toFloat_J_16 ?_
    refine lv_lload_n hx hb d_I_toFloat_J_17 rfl (lv_at hl 0 rfl) ?_
    refine pu_i (As := [.long x0]) (rest := [.long (x0 &&& (-9223372036854775808 : Int64))]) ⟨hx, hb, hml, hown, hts⟩ (c_I_power_J l _ x0) pu_pre (gw_call (k := 1) hts tw_94 tw_95 tw_5 tw_96 (by decide +kernel) rfl rfl ⟨Nat.le_of_ble_eq_true rfl, Nat.le_of_ble_eq_true rfl⟩) rfl hl.1 rfl (Nat.le_of_ble_eq_true rfl) ⟨Nat.zero_le _, Nat.zero_le _⟩ d_I_toFloat_J_18 ?_
    refine lv_lload_n hx hb d_I_toFloat_J_21 rfl (lv_at hl 0 rfl) ?_
    refine pu_l (As := [.long x0]) (rest := [.int (f_I_power_J x0), .long (x0 &&& (-9223372036854775808 : Int64))]) ⟨hx, hb, hml, hown, hts⟩ (c_I_significand_J l _ x0) pu_pre (gw_call (k := 1) hts tw_100 tw_101 tw_5 tw_102 (by decide +kernel) rfl rfl ⟨Nat.le_of_ble_eq_true rfl, Nat.le_of_ble_eq_true rfl⟩) rfl hl.1 rfl (Nat.le_of_ble_eq_true rfl) ⟨Nat.zero_le _, Nat.zero_le _⟩ d_I_toFloat_J_22 ?_
    refine pu_l (As := [.long (x0 &&& (-9223372036854775808 : Int64)), .int (f_I_power_J x0), .long (f_I_significand_J x0)]) (rest := []) ⟨hx, hb, hml, hown, hts⟩ (c_I_nearestFloat_JIJ l _ (x0 &&& (-9223372036854775808 : Int64)) (f_I_power_J x0) (f_I_significand_J x0)) pu_pre (gw_call (k := 3) hts tw_105 tw_106 tw_5 tw_107 (by decide +kernel) rfl rfl ⟨Nat.le_of_ble_eq_true rfl, Nat.le_of_ble_eq_true rfl⟩) rfl hl.1 rfl (Nat.le_of_ble_eq_true rfl) ⟨Nat.zero_le _, Nat.zero_le _⟩ d_I_toFloat_J_25 ?_
    exact pu_lret hx hb hr hlocks d_I_toFloat_J_28 (by exact Eq.symm (if_neg c1))
  · refine lv_lload_n hx hb d_I_toFloat_J_7 rfl (lv_at hl 0 rfl) ?_
    refine pu_l (As := [.long x0]) (rest := []) ⟨hx, hb, hml, hown, hts⟩ (c_I_told_J l _ x0) pu_pre (gw_call (k := 1) hts tw_86 tw_87 tw_5 tw_88 (by decide +kernel) rfl rfl ⟨Nat.le_of_ble_eq_true rfl, Nat.le_of_ble_eq_true rfl⟩) rfl hl.1 rfl (Nat.le_of_ble_eq_true rfl) ⟨Nat.zero_le _, Nat.zero_le _⟩ d_I_toFloat_J_8 ?_
    exact pu_lret hx hb hr hlocks d_I_toFloat_J_11 (by exact Eq.symm (if_pos c1))
-- ===== MotionLab$Plane.isFieldNumber(I)Z
abbrev y_P_isFieldNumber_I : MethodName := ⟨"MotionLab$Plane", "isFieldNumber", "(I)Z"⟩
abbrev b_P_isFieldNumber_I : ByteArray := prog_3_method_4_code
theorem d_P_isFieldNumber_I_0 : decode b_P_isFieldNumber_I 0 = .ok (.iload_n 0, 1) := by decide +kernel
theorem d_P_isFieldNumber_I_1 : decode b_P_isFieldNumber_I 1 = .ok (.ifCond .lt 13, 3) := by decide +kernel
theorem d_P_isFieldNumber_I_4 : decode b_P_isFieldNumber_I 4 = .ok (.iload_n 0, 1) := by decide +kernel
theorem d_P_isFieldNumber_I_5 : decode b_P_isFieldNumber_I 5 = .ok (.bipush 6, 2) := by decide +kernel
theorem d_P_isFieldNumber_I_7 : decode b_P_isFieldNumber_I 7 = .ok (.if_icmp .ge 7, 3) := by decide +kernel
theorem d_P_isFieldNumber_I_10 : decode b_P_isFieldNumber_I 10 = .ok (.iconst 1, 1) := by decide +kernel
theorem d_P_isFieldNumber_I_11 : decode b_P_isFieldNumber_I 11 = .ok (.goto 4, 3) := by decide +kernel
theorem d_P_isFieldNumber_I_14 : decode b_P_isFieldNumber_I 14 = .ok (.iconst 0, 1) := by decide +kernel
theorem d_P_isFieldNumber_I_15 : decode b_P_isFieldNumber_I 15 = .ok (.ireturn, 1) := by decide +kernel
def f_P_isFieldNumber_I (x0 : Int32) : Int32 :=
  if x0 < 0 then
    (0 : Int32)
  else
    if (6 : Int32) ≤ x0 then
      (0 : Int32)
    else
      (1 : Int32)
set_option maxHeartbeats 4000000 in
set_option maxRecDepth 100000 in
theorem c_P_isFieldNumber_I (l : Launch) (h : Heap) (x0 : Int32) : Met l y_P_isFieldNumber_I (gw y_P_isFieldNumber_I b_P_isFieldNumber_I 1 (some .boolean)) { frames := 0, cells := 0, slots := 0, locals := 0 } (pu_Pc [.int x0] h) (pu_Mi (f_P_isFieldNumber_I x0) h) 0 0 (fun _ => False) := by
  refine Met.ofW (cc := b_P_isFieldNumber_I) (maxL := 1) (ret := (some .boolean)) (by decide) rfl ?_
  intro p e s m args below meth c s₁ B hml hv
  obtain ⟨rfl, hh⟩ := hv
  subst hh
  have hx := B.exec
  have hb := B.bytes
  have hr := B.returns
  have hts := atoms_spec (ws := (gw y_P_isFieldNumber_I b_P_isFieldNumber_I 1 (some .boolean))) B.pre
  have hown : s.vm.findClass "MotionLab$Plane" = some m.cls := findClass_of_methodNamed B.named
  have hlocks := B.notSynchronized
  have C0 : pu_C p s m _ meth c b_P_isFieldNumber_I 1 "MotionLab$Plane" (some .boolean) (gw y_P_isFieldNumber_I b_P_isFieldNumber_I 1 (some .boolean)) := ⟨hx, hb, hml, hown, hts, hr, hlocks⟩
  have hl := lv_entry ([.int x0]) (n := 1) (Nat.le_of_ble_eq_true rfl)
  rw [lg_entry_eq]
  generalize (lg_sl ([.int x0]) ++ List.replicate (1 - (lg_sl ([.int x0])).length) Slot.unset).toArray = ls at hl ⊢
  have hl : lv_has ls 1 [(0, .int x0)] := hl
  refine lv_iload_n hx hb d_P_isFieldNumber_I_0 rfl (lv_at hl 0 rfl) ?_
  refine lv_if_lt (tgt := 14) hx hb d_P_isFieldNumber_I_1 (by decide) (fun c1 => ?_) (fun c1 => ?_)
  · refine lv_iconst (v := 0) hx hb d_P_isFieldNumber_I_14 (by decide) ?_
    exact pu_zret hx hb hr rfl hlocks d_P_isFieldNumber_I_15 (by exact Eq.symm (if_pos c1))
  · refine lv_iload_n hx hb d_P_isFieldNumber_I_4 rfl (lv_at hl 0 rfl) ?_
    refine lv_bipush (v := (6 : Int32)) hx hb d_P_isFieldNumber_I_5 (by decide) ?_
    refine lv_icmp_ge (tgt := 14) hx hb d_P_isFieldNumber_I_7 (by decide) (fun c2 => ?_) (fun c2 => ?_)
    · refine lv_iconst (v := 0) hx hb d_P_isFieldNumber_I_14 (by decide) ?_
      exact pu_zret hx hb hr rfl hlocks d_P_isFieldNumber_I_15 (by exact Eq.symm (Eq.trans (if_neg c1) (if_pos c2)))
    · refine lv_iconst (v := 1) hx hb d_P_isFieldNumber_I_10 (by decide) ?_
      refine lv_goto (tgt := 15) hx hb d_P_isFieldNumber_I_11 (by decide) ?_
      exact pu_zret hx hb hr rfl hlocks d_P_isFieldNumber_I_15 (by exact Eq.symm (Eq.trans (if_neg c1) (if_neg c2)))
-- ===== MotionLab$Ieee.ofFloatBits(I)J
abbrev y_I_ofFloatBits_I : MethodName := ⟨"MotionLab$Ieee", "ofFloatBits", "(I)J"⟩
abbrev b_I_ofFloatBits_I : ByteArray := prog_2_method_24_code
theorem d_I_ofFloatBits_I_0 : decode b_I_ofFloatBits_I 0 = .ok (.iload_n 0, 1) := by decide +kernel
theorem d_I_ofFloatBits_I_1 : decode b_I_ofFloatBits_I 1 = .ok (.ldc 97, 2) := by decide +kernel
theorem d_I_ofFloatBits_I_3 : decode b_I_ofFloatBits_I 3 = .ok (.iand, 1) := by decide +kernel
theorem d_I_ofFloatBits_I_4 : decode b_I_ofFloatBits_I 4 = .ok (.i2l, 1) := by decide +kernel
theorem d_I_ofFloatBits_I_5 : decode b_I_ofFloatBits_I 5 = .ok (.bipush 32, 2) := by decide +kernel
theorem d_I_ofFloatBits_I_7 : decode b_I_ofFloatBits_I 7 = .ok (.lshl, 1) := by decide +kernel
theorem d_I_ofFloatBits_I_8 : decode b_I_ofFloatBits_I 8 = .ok (.lstore_n 1, 1) := by decide +kernel
theorem d_I_ofFloatBits_I_9 : decode b_I_ofFloatBits_I 9 = .ok (.iload_n 0, 1) := by decide +kernel
theorem d_I_ofFloatBits_I_10 : decode b_I_ofFloatBits_I 10 = .ok (.ldc 98, 2) := by decide +kernel
theorem d_I_ofFloatBits_I_12 : decode b_I_ofFloatBits_I 12 = .ok (.iand, 1) := by decide +kernel
theorem d_I_ofFloatBits_I_13 : decode b_I_ofFloatBits_I 13 = .ok (.istore_n 3, 1) := by decide +kernel
theorem d_I_ofFloatBits_I_14 : decode b_I_ofFloatBits_I 14 = .ok (.iload_n 3, 1) := by decide +kernel
theorem d_I_ofFloatBits_I_15 : decode b_I_ofFloatBits_I 15 = .ok (.ldc 99, 2) := by decide +kernel
theorem d_I_ofFloatBits_I_17 : decode b_I_ofFloatBits_I 17 = .ok (.if_icmp .lt 21, 3) := by decide +kernel
theorem d_I_ofFloatBits_I_20 : decode b_I_ofFloatBits_I 20 = .ok (.iload_n 3, 1) := by decide +kernel
theorem d_I_ofFloatBits_I_21 : decode b_I_ofFloatBits_I 21 = .ok (.ldc 99, 2) := by decide +kernel
theorem d_I_ofFloatBits_I_23 : decode b_I_ofFloatBits_I 23 = .ok (.if_icmp .ne 11, 3) := by decide +kernel
theorem d_I_ofFloatBits_I_26 : decode b_I_ofFloatBits_I 26 = .ok (.lload_n 1, 1) := by decide +kernel
theorem d_I_ofFloatBits_I_27 : decode b_I_ofFloatBits_I 27 = .ok (.ldc2_w 11, 3) := by decide +kernel
theorem d_I_ofFloatBits_I_30 : decode b_I_ofFloatBits_I 30 = .ok (.lor, 1) := by decide +kernel
theorem d_I_ofFloatBits_I_31 : decode b_I_ofFloatBits_I 31 = .ok (.goto 6, 3) := by decide +kernel
theorem d_I_ofFloatBits_I_34 : decode b_I_ofFloatBits_I 34 = .ok (.ldc2_w 17, 3) := by decide +kernel
theorem d_I_ofFloatBits_I_37 : decode b_I_ofFloatBits_I 37 = .ok (.lreturn, 1) := by decide +kernel
theorem d_I_ofFloatBits_I_38 : decode b_I_ofFloatBits_I 38 = .ok (.iload_n 3, 1) := by decide +kernel
theorem d_I_ofFloatBits_I_39 : decode b_I_ofFloatBits_I 39 = .ok (.bipush 23, 2) := by decide +kernel
theorem d_I_ofFloatBits_I_41 : decode b_I_ofFloatBits_I 41 = .ok (.iushr, 1) := by decide +kernel
theorem d_I_ofFloatBits_I_42 : decode b_I_ofFloatBits_I 42 = .ok (.istore 4, 2) := by decide +kernel
theorem d_I_ofFloatBits_I_44 : decode b_I_ofFloatBits_I 44 = .ok (.iload_n 3, 1) := by decide +kernel
theorem d_I_ofFloatBits_I_45 : decode b_I_ofFloatBits_I 45 = .ok (.ldc 100, 2) := by decide +kernel
theorem d_I_ofFloatBits_I_47 : decode b_I_ofFloatBits_I 47 = .ok (.iand, 1) := by decide +kernel
theorem d_I_ofFloatBits_I_48 : decode b_I_ofFloatBits_I 48 = .ok (.istore 5, 2) := by decide +kernel
theorem d_I_ofFloatBits_I_50 : decode b_I_ofFloatBits_I 50 = .ok (.iload 4, 2) := by decide +kernel
theorem d_I_ofFloatBits_I_52 : decode b_I_ofFloatBits_I 52 = .ok (.ifCond .ne 14, 3) := by decide +kernel
theorem d_I_ofFloatBits_I_55 : decode b_I_ofFloatBits_I 55 = .ok (.lload_n 1, 1) := by decide +kernel
theorem d_I_ofFloatBits_I_56 : decode b_I_ofFloatBits_I 56 = .ok (.sipush (-149), 3) := by decide +kernel
theorem d_I_ofFloatBits_I_59 : decode b_I_ofFloatBits_I 59 = .ok (.iload 5, 2) := by decide +kernel
theorem d_I_ofFloatBits_I_61 : decode b_I_ofFloatBits_I 61 = .ok (.i2l, 1) := by decide +kernel
theorem d_I_ofFloatBits_I_62 : decode b_I_ofFloatBits_I 62 = .ok (.invokestatic 52, 3) := by decide +kernel
theorem d_I_ofFloatBits_I_65 : decode b_I_ofFloatBits_I 65 = .ok (.lreturn, 1) := by decide +kernel
theorem d_I_ofFloatBits_I_66 : decode b_I_ofFloatBits_I 66 = .ok (.lload_n 1, 1) := by decide +kernel
theorem d_I_ofFloatBits_I_67 : decode b_I_ofFloatBits_I 67 = .ok (.sipush (-149), 3) := by decide +kernel
theorem d_I_ofFloatBits_I_70 : decode b_I_ofFloatBits_I 70 = .ok (.iload 4, 2) := by decide +kernel
theorem d_I_ofFloatBits_I_72 : decode b_I_ofFloatBits_I 72 = .ok (.iadd, 1) := by decide +kernel
theorem d_I_ofFloatBits_I_73 : decode b_I_ofFloatBits_I 73 = .ok (.iconst 1, 1) := by decide +kernel
theorem d_I_ofFloatBits_I_74 : decode b_I_ofFloatBits_I 74 = .ok (.isub, 1) := by decide +kernel
theorem d_I_ofFloatBits_I_75 : decode b_I_ofFloatBits_I 75 = .ok (.iload 5, 2) := by decide +kernel
theorem d_I_ofFloatBits_I_77 : decode b_I_ofFloatBits_I 77 = .ok (.ldc 101, 2) := by decide +kernel
theorem d_I_ofFloatBits_I_79 : decode b_I_ofFloatBits_I 79 = .ok (.ior, 1) := by decide +kernel
theorem d_I_ofFloatBits_I_80 : decode b_I_ofFloatBits_I 80 = .ok (.i2l, 1) := by decide +kernel
theorem d_I_ofFloatBits_I_81 : decode b_I_ofFloatBits_I 81 = .ok (.invokestatic 52, 3) := by decide +kernel
theorem d_I_ofFloatBits_I_84 : decode b_I_ofFloatBits_I 84 = .ok (.lreturn, 1) := by decide +kernel
def f_I_ofFloatBits_I (x0 : Int32) : Int64 :=
  let v1 : Int64 := j_shl ((x0 &&& (-2147483648 : Int32)).toInt64) (32 : Int32)
  let v2 : Int32 := x0 &&& (2147483647 : Int32)
  if v2 < (2139095040 : Int32) then
    let v4 : Int32 := j_iushr v2 (23 : Int32)
    let v5 : Int32 := v2 &&& (8388607 : Int32)
    if v4 = 0 then
      f_I_nearest_JIJ v1 (-149 : Int32) (v5.toInt64)
    else
      f_I_nearest_JIJ v1 (((-149 : Int32) + v4) - (1 : Int32)) ((v5 ||| (8388608 : Int32)).toInt64)
  else
    if v2 = (2139095040 : Int32) then
      v1 ||| (9218868437227405312 : Int64)
    else
      (9221120237041090560 : Int64)
set_option maxHeartbeats 4000000 in
set_option maxRecDepth 100000 in
theorem c_I_ofFloatBits_I (l : Launch) (h : Heap) (x0 : Int32) : Met l y_I_ofFloatBits_I (gw y_I_ofFloatBits_I b_I_ofFloatBits_I 6 (some .long)) { frames := 3, cells := 0, slots := 0, locals := 69 } (pu_Pc [.int x0] h) (pu_Ml (f_I_ofFloatBits_I x0) h) 0 0 (fun _ => False) := by
  refine Met.ofW (cc := b_I_ofFloatBits_I) (maxL := 6) (ret := (some .long)) (by decide) rfl ?_
  intro p e s m args below meth c s₁ B hml hv
  obtain ⟨rfl, hh⟩ := hv
  subst hh
  have hx := B.exec
  have hb := B.bytes
  have hr := B.returns
  have hts := atoms_spec (ws := (gw y_I_ofFloatBits_I b_I_ofFloatBits_I 6 (some .long))) B.pre
  have hown : s.vm.findClass "MotionLab$Ieee" = some m.cls := findClass_of_methodNamed B.named
  have hlocks := B.notSynchronized
  have C0 : pu_C p s m _ meth c b_I_ofFloatBits_I 6 "MotionLab$Ieee" (some .long) (gw y_I_ofFloatBits_I b_I_ofFloatBits_I 6 (some .long)) := ⟨hx, hb, hml, hown, hts, hr, hlocks⟩
  have hl := lv_entry ([.int x0]) (n := 6) (Nat.le_of_ble_eq_true rfl)
  rw [lg_entry_eq]
  generalize (lg_sl ([.int x0]) ++ List.replicate (6 - (lg_sl ([.int x0])).length) Slot.unset).toArray = ls at hl ⊢
  have hl : lv_has ls 6 [(0, .int x0)] := hl
  refine lv_iload_n hx hb d_I_ofFloatBits_I_0 rfl (lv_at hl 0 rfl) ?_
  refine lv_ldc (v := (-2147483648 : Int32)) hx hb hown (hts _ (gm tw_145)) d_I_ofFloatBits_I_1 ?_
  refine lv_iand hx hb d_I_ofFloatBits_I_3 ?_
  refine lv_i2l hx hb d_I_ofFloatBits_I_4 rfl ?_
  refine lv_bipush (v := (32 : Int32)) hx hb d_I_ofFloatBits_I_5 (by decide) ?_
  refine lv_lshl (v := j_shl ((x0 &&& (-2147483648 : Int32)).toInt64) (32 : Int32)) hx hb d_I_ofFloatBits_I_7 rfl ?_
  refine lv_topl (fun v1 e1 => ?_)
  refine lv_lstore_n (lv' := [(1, .long v1), (0, .int x0)]) hx hb d_I_ofFloatBits_I_8 rfl hl (by decide) rfl (fun ls hl => ?_)
  refine lv_iload_n hx hb d_I_ofFloatBits_I_9 rfl (lv_at hl 1 rfl) ?_
  refine lv_ldc (v := (2147483647 : Int32)) hx hb hown (hts _ (gm tw_146)) d_I_ofFloatBits_I_10 ?_
  refine lv_iand hx hb d_I_ofFloatBits_I_12 ?_
  refine lv_topi (fun v2 e2 => ?_)
  refine lv_istore_n (lv' := [(3, .int v2), (1, .long v1), (0, .int x0)]) hx hb d_I_ofFloatBits_I_13 rfl hl (by decide) rfl (fun ls hl => ?_)
  refine lv_iload_n hx hb d_I_ofFloatBits_I_14 rfl (lv_at hl 0 rfl) ?_
  refine lv_ldc (v := (2139095040 : Int32)) hx hb hown (hts _ (gm tw_147)) d_I_ofFloatBits_I_15 ?_
  refine lv_icmp_lt (tgt := 38) hx hb d_I_ofFloatBits_I_17 (by decide) (fun c3 => ?_) (fun c3 => ?_)
  · refine lv_iload_n hx hb d_I_ofFloatBits_I_38 rfl (lv_at hl 0 rfl) ?_
    refine lv_bipush (v := (23 : Int32)) hx hb d_I_ofFloatBits_I_39 (by decide) ?_
    refine lv_iushr (v := j_iushr v2 (23 : Int32)) hx hb d_I_ofFloatBits_I_41 rfl ?_
    refine lv_topi (fun v4 e4 => ?_)
    refine lv_istore (lv' := [(4, .int v4), (3, .int v2), (1, .long v1), (0, .int x0)]) hx hb d_I_ofFloatBits_I_42 hl (by decide) rfl (fun ls hl => ?_)
    refine lv_iload_n hx hb d_I_ofFloatBits_I_44 rfl (lv_at hl 1 rfl) ?_
    refine lv_ldc (v := (8388607 : Int32)) hx hb hown (hts _ (gm tw_148)) d_I_ofFloatBits_I_45 ?_
    refine lv_iand hx hb d_I_ofFloatBits_I_47 ?_
    refine lv_topi (fun v5 e5 => ?_)
    refine lv_istore (lv' := [(5, .int v5), (4, .int v4), (3, .int v2), (1, .long v1), (0, .int x0)]) hx hb d_I_ofFloatBits_I_48 hl (by decide) rfl (fun ls hl => ?_)
    refine lv_iload hx hb d_I_ofFloatBits_I_50 (lv_at hl 1 rfl) ?_
    refine lv_if_ne (tgt := 66) hx hb d_I_ofFloatBits_I_52 (by decide) (fun c6 => ?_) (fun c6 => ?_)
    · refine lv_lload_n hx hb d_I_ofFloatBits_I_66 rfl (lv_at hl 3 rfl) ?_
      refine lv_sipush (v := (-149 : Int32)) hx hb d_I_ofFloatBits_I_67 (by decide) ?_
      refine lv_iload hx hb d_I_ofFloatBits_I_70 (lv_at hl 1 rfl) ?_
      refine lv_iadd hx hb d_I_ofFloatBits_I_72 ?_
      refine lv_iconst (v := 1) hx hb d_I_ofFloatBits_I_73 (by decide) ?_
      refine lv_isub hx hb d_I_ofFloatBits_I_74 ?_
      refine lv_iload hx hb d_I_ofFloatBits_I_75 (lv_at hl 0 rfl) ?_
      refine lv_ldc (v := (8388608 : Int32)) hx hb hown (hts _ (gm tw_149)) d_I_ofFloatBits_I_77 ?_
      refine lv_ior hx hb d_I_ofFloatBits_I_79 ?_
      refine lv_i2l hx hb d_I_ofFloatBits_I_80 rfl ?_
      refine pu_l (As := [.long v1, .int (((-149 : Int32) + v4) - (1 : Int32)), .long ((v5 ||| (8388608 : Int32)).toInt64)]) (rest := []) ⟨hx, hb, hml, hown, hts⟩ (c_I_nearest_JIJ l _ v1 (((-149 : Int32) + v4) - (1 : Int32)) ((v5 ||| (8388608 : Int32)).toInt64)) pu_pre (gw_call (k := 3) hts tw_115 tw_116 tw_5 tw_117 (by decide +kernel) rfl rfl ⟨Nat.le_of_ble_eq_true rfl, Nat.le_of_ble_eq_true rfl⟩) rfl hl.1 rfl (Nat.le_of_ble_eq_true rfl) ⟨Nat.zero_le _, Nat.zero_le _⟩ d_I_ofFloatBits_I_81 ?_
      exact pu_lret hx hb hr hlocks d_I_ofFloatBits_I_84 (by have qe1 := e1.symm; have qe2 := e2.symm; have qe4 := e4.symm; have qe5 := e5.symm; subst qe1 qe2 qe4 qe5; exact Eq.symm (Eq.trans (if_pos c3) (if_neg c6)))
    · refine lv_lload_n hx hb d_I_ofFloatBits_I_55 rfl (lv_at hl 3 rfl) ?_
      refine lv_sipush (v := (-149 : Int32)) hx hb d_I_ofFloatBits_I_56 (by decide) ?_
      refine lv_iload hx hb d_I_ofFloatBits_I_59 (lv_at hl 0 rfl) ?_
      refine lv_i2l hx hb d_I_ofFloatBits_I_61 rfl ?_
      refine pu_l (As := [.long v1, .int (-149 : Int32), .long (v5.toInt64)]) (rest := []) ⟨hx, hb, hml, hown, hts⟩ (c_I_nearest_JIJ l _ v1 (-149 : Int32) (v5.toInt64)) pu_pre (gw_call (k := 3) hts tw_115 tw_116 tw_5 tw_117 (by decide +kernel) rfl rfl ⟨Nat.le_of_ble_eq_true rfl, Nat.le_of_ble_eq_true rfl⟩) rfl hl.1 rfl (Nat.le_of_ble_eq_true rfl) ⟨Nat.zero_le _, Nat.zero_le _⟩ d_I_ofFloatBits_I_62 ?_
      exact pu_lret hx hb hr hlocks d_I_ofFloatBits_I_65 (by have qe1 := e1.symm; have qe2 := e2.symm; have qe4 := e4.symm; have qe5 := e5.symm; subst qe1 qe2 qe4 qe5; exact Eq.symm (Eq.trans (if_pos c3) (if_pos c6)))
  · refine lv_iload_n hx hb d_I_ofFloatBits_I_20 rfl (lv_at hl 0 rfl) ?_
    refine lv_ldc (v := (2139095040 : Int32)) hx hb hown (hts _ (gm tw_147)) d_I_ofFloatBits_I_21 ?_
    refine lv_icmp_ne (tgt := 34) hx hb d_I_ofFloatBits_I_23 (by decide) (fun c7 => ?_) (fun c7 => ?_)
    · refine lv_ldc2 (v := (9221120237041090560 : Int64)) hx hb hown (hts _ (gm tw_92)) d_I_ofFloatBits_I_34 ?_
      exact pu_lret hx hb hr hlocks d_I_ofFloatBits_I_37 (by have qe1 := e1.symm; have qe2 := e2.symm; subst qe1 qe2; exact Eq.symm (Eq.trans (if_neg c3) (if_neg c7)))
    · refine lv_lload_n hx hb d_I_ofFloatBits_I_26 rfl (lv_at hl 1 rfl) ?_
      refine lv_ldc2 (v := (9218868437227405312 : Int64)) hx hb hown (hts _ (gm tw_85)) d_I_ofFloatBits_I_27 ?_
      refine lv_lor hx hb d_I_ofFloatBits_I_30 ?_
      refine lv_goto (tgt := 37) hx hb d_I_ofFloatBits_I_31 (by decide) ?_
      exact pu_lret hx hb hr hlocks d_I_ofFloatBits_I_37 (by have qe1 := e1.symm; have qe2 := e2.symm; subst qe1 qe2; exact Eq.symm (Eq.trans (if_neg c3) (if_pos c7)))
-- ===== MotionLab$Ieee.isZero(J)Z
abbrev y_I_isZero_J : MethodName := ⟨"MotionLab$Ieee", "isZero", "(J)Z"⟩
abbrev b_I_isZero_J : ByteArray := prog_2_method_4_code
theorem d_I_isZero_J_0 : decode b_I_isZero_J 0 = .ok (.lload_n 0, 1) := by decide +kernel
theorem d_I_isZero_J_1 : decode b_I_isZero_J 1 = .ok (.ldc2_w 9, 3) := by decide +kernel
theorem d_I_isZero_J_4 : decode b_I_isZero_J 4 = .ok (.land, 1) := by decide +kernel
theorem d_I_isZero_J_5 : decode b_I_isZero_J 5 = .ok (.lconst 0, 1) := by decide +kernel
theorem d_I_isZero_J_6 : decode b_I_isZero_J 6 = .ok (.lcmp, 1) := by decide +kernel
theorem d_I_isZero_J_7 : decode b_I_isZero_J 7 = .ok (.ifCond .ne 7, 3) := by decide +kernel
theorem d_I_isZero_J_10 : decode b_I_isZero_J 10 = .ok (.iconst 1, 1) := by decide +kernel
theorem d_I_isZero_J_11 : decode b_I_isZero_J 11 = .ok (.goto 4, 3) := by decide +kernel
theorem d_I_isZero_J_14 : decode b_I_isZero_J 14 = .ok (.iconst 0, 1) := by decide +kernel
theorem d_I_isZero_J_15 : decode b_I_isZero_J 15 = .ok (.ireturn, 1) := by decide +kernel
def f_I_isZero_J (x0 : Int64) : Int32 :=
  if (lg_cmp (x0 &&& (9223372036854775807 : Int64)) (0 : Int64)) = 0 then
    (1 : Int32)
  else
    (0 : Int32)
set_option maxHeartbeats 4000000 in
set_option maxRecDepth 100000 in
theorem c_I_isZero_J (l : Launch) (h : Heap) (x0 : Int64) : Met l y_I_isZero_J (gw y_I_isZero_J b_I_isZero_J 2 (some .boolean)) { frames := 0, cells := 0, slots := 0, locals := 0 } (pu_Pc [.long x0] h) (pu_Mi (f_I_isZero_J x0) h) 0 0 (fun _ => False) := by
  refine Met.ofW (cc := b_I_isZero_J) (maxL := 2) (ret := (some .boolean)) (by decide) rfl ?_
  intro p e s m args below meth c s₁ B hml hv
  obtain ⟨rfl, hh⟩ := hv
  subst hh
  have hx := B.exec
  have hb := B.bytes
  have hr := B.returns
  have hts := atoms_spec (ws := (gw y_I_isZero_J b_I_isZero_J 2 (some .boolean))) B.pre
  have hown : s.vm.findClass "MotionLab$Ieee" = some m.cls := findClass_of_methodNamed B.named
  have hlocks := B.notSynchronized
  have C0 : pu_C p s m _ meth c b_I_isZero_J 2 "MotionLab$Ieee" (some .boolean) (gw y_I_isZero_J b_I_isZero_J 2 (some .boolean)) := ⟨hx, hb, hml, hown, hts, hr, hlocks⟩
  have hl := lv_entry ([.long x0]) (n := 2) (Nat.le_of_ble_eq_true rfl)
  rw [lg_entry_eq]
  generalize (lg_sl ([.long x0]) ++ List.replicate (2 - (lg_sl ([.long x0])).length) Slot.unset).toArray = ls at hl ⊢
  have hl : lv_has ls 2 [(0, .long x0)] := hl
  refine lv_lload_n hx hb d_I_isZero_J_0 rfl (lv_at hl 0 rfl) ?_
  refine lv_ldc2 (v := (9223372036854775807 : Int64)) hx hb hown (hts _ (gm tw_84)) d_I_isZero_J_1 ?_
  refine lv_land hx hb d_I_isZero_J_4 ?_
  refine lv_lconst (v := (0 : Int64)) hx hb d_I_isZero_J_5 (by decide) ?_
  refine W.lcmp hx hb d_I_isZero_J_6 ?_
  refine lv_if_ne (tgt := 14) hx hb d_I_isZero_J_7 (by decide) (fun c1 => ?_) (fun c1 => ?_)
  · refine lv_iconst (v := 0) hx hb d_I_isZero_J_14 (by decide) ?_
    exact pu_zret hx hb hr rfl hlocks d_I_isZero_J_15 (by exact Eq.symm (if_neg c1))
  · refine lv_iconst (v := 1) hx hb d_I_isZero_J_10 (by decide) ?_
    refine lv_goto (tgt := 15) hx hb d_I_isZero_J_11 (by decide) ?_
    exact pu_zret hx hb hr rfl hlocks d_I_isZero_J_15 (by exact Eq.symm (if_pos c1))
end
section
-- ===== MotionLab$Ieee.rise(J)I
abbrev y_I_rise_J : MethodName := ⟨"MotionLab$Ieee", "rise", "(J)I"⟩
abbrev b_I_rise_J : ByteArray := prog_2_method_32_code
theorem d_I_rise_J_0 : decode b_I_rise_J 0 = .ok (.lload_n 0, 1) := by decide +kernel
theorem d_I_rise_J_1 : decode b_I_rise_J 1 = .ok (.invokestatic 45, 3) := by decide +kernel
theorem d_I_rise_J_4 : decode b_I_rise_J 4 = .ok (.invokestatic 126, 3) := by decide +kernel
theorem d_I_rise_J_7 : decode b_I_rise_J 7 = .ok (.bipush 11, 2) := by decide +kernel
theorem d_I_rise_J_9 : decode b_I_rise_J 9 = .ok (.isub, 1) := by decide +kernel
theorem d_I_rise_J_10 : decode b_I_rise_J 10 = .ok (.ireturn, 1) := by decide +kernel
def f_I_rise_J (x0 : Int64) : Int32 :=
  (f_jL_numberOfLeadingZeros_J (f_I_significand_J x0)) - (11 : Int32)
set_option maxHeartbeats 4000000 in
set_option maxRecDepth 100000 in
theorem c_I_rise_J (l : Launch) (h : Heap) (x0 : Int64) : Met l y_I_rise_J (gw y_I_rise_J b_I_rise_J 2 (some .int)) { frames := 2, cells := 0, slots := 0, locals := 43 } (pu_Pc [.long x0] h) (pu_Mi (f_I_rise_J x0) h) 0 0 (fun _ => False) := by
  refine Met.ofW (cc := b_I_rise_J) (maxL := 2) (ret := (some .int)) (by decide) rfl ?_
  intro p e s m args below meth c s₁ B hml hv
  obtain ⟨rfl, hh⟩ := hv
  subst hh
  have hx := B.exec
  have hb := B.bytes
  have hr := B.returns
  have hts := atoms_spec (ws := (gw y_I_rise_J b_I_rise_J 2 (some .int))) B.pre
  have hown : s.vm.findClass "MotionLab$Ieee" = some m.cls := findClass_of_methodNamed B.named
  have hlocks := B.notSynchronized
  have C0 : pu_C p s m _ meth c b_I_rise_J 2 "MotionLab$Ieee" (some .int) (gw y_I_rise_J b_I_rise_J 2 (some .int)) := ⟨hx, hb, hml, hown, hts, hr, hlocks⟩
  have hl := lv_entry ([.long x0]) (n := 2) (Nat.le_of_ble_eq_true rfl)
  rw [lg_entry_eq]
  generalize (lg_sl ([.long x0]) ++ List.replicate (2 - (lg_sl ([.long x0])).length) Slot.unset).toArray = ls at hl ⊢
  have hl : lv_has ls 2 [(0, .long x0)] := hl
  refine lv_lload_n hx hb d_I_rise_J_0 rfl (lv_at hl 0 rfl) ?_
  refine pu_l (As := [.long x0]) (rest := []) ⟨hx, hb, hml, hown, hts⟩ (c_I_significand_J l _ x0) pu_pre (gw_call (k := 1) hts tw_100 tw_101 tw_5 tw_102 (by decide +kernel) rfl rfl ⟨Nat.le_of_ble_eq_true rfl, Nat.le_of_ble_eq_true rfl⟩) rfl hl.1 rfl (Nat.le_of_ble_eq_true rfl) ⟨Nat.zero_le _, Nat.zero_le _⟩ d_I_rise_J_1 ?_
  refine pu_i (As := [.long (f_I_significand_J x0)]) (rest := []) ⟨hx, hb, hml, hown, hts⟩ (c_jL_numberOfLeadingZeros_J l _ (f_I_significand_J x0)) pu_pre (gw_call (k := 1) hts tw_108 tw_109 tw_7 tw_110 (by decide +kernel) rfl rfl ⟨Nat.le_of_ble_eq_true rfl, Nat.le_of_ble_eq_true rfl⟩) rfl hl.1 rfl (Nat.le_of_ble_eq_true rfl) ⟨Nat.zero_le _, Nat.zero_le _⟩ d_I_rise_J_4 ?_
  refine lv_bipush (v := (11 : Int32)) hx hb d_I_rise_J_7 (by decide) ?_
  refine lv_isub hx hb d_I_rise_J_9 ?_
  exact pu_iret hx hb hr hlocks d_I_rise_J_10 (by exact Eq.symm rfl)
-- ===== MotionLab$Ieee.highProduct(JJ)J
abbrev y_I_highProduct_JJ : MethodName := ⟨"MotionLab$Ieee", "highProduct", "(JJ)J"⟩
abbrev b_I_highProduct_JJ : ByteArray := prog_2_method_17_code
theorem d_I_highProduct_JJ_0 : decode b_I_highProduct_JJ 0 = .ok (.lload_n 0, 1) := by decide +kernel
theorem d_I_highProduct_JJ_1 : decode b_I_highProduct_JJ 1 = .ok (.bipush 27, 2) := by decide +kernel
theorem d_I_highProduct_JJ_3 : decode b_I_highProduct_JJ 3 = .ok (.lushr, 1) := by decide +kernel
theorem d_I_highProduct_JJ_4 : decode b_I_highProduct_JJ 4 = .ok (.lstore 4, 2) := by decide +kernel
theorem d_I_highProduct_JJ_6 : decode b_I_highProduct_JJ 6 = .ok (.lload_n 0, 1) := by decide +kernel
theorem d_I_highProduct_JJ_7 : decode b_I_highProduct_JJ 7 = .ok (.ldc2_w 71, 3) := by decide +kernel
theorem d_I_highProduct_JJ_10 : decode b_I_highProduct_JJ 10 = .ok (.land, 1) := by decide +kernel
theorem d_I_highProduct_JJ_11 : decode b_I_highProduct_JJ 11 = .ok (.lstore 6, 2) := by decide +kernel
theorem d_I_highProduct_JJ_13 : decode b_I_highProduct_JJ 13 = .ok (.lload_n 2, 1) := by decide +kernel
theorem d_I_highProduct_JJ_14 : decode b_I_highProduct_JJ 14 = .ok (.bipush 27, 2) := by decide +kernel
theorem d_I_highProduct_JJ_16 : decode b_I_highProduct_JJ 16 = .ok (.lushr, 1) := by decide +kernel
theorem d_I_highProduct_JJ_17 : decode b_I_highProduct_JJ 17 = .ok (.lstore 8, 2) := by decide +kernel
theorem d_I_highProduct_JJ_19 : decode b_I_highProduct_JJ 19 = .ok (.lload_n 2, 1) := by decide +kernel
theorem d_I_highProduct_JJ_20 : decode b_I_highProduct_JJ 20 = .ok (.ldc2_w 71, 3) := by decide +kernel
theorem d_I_highProduct_JJ_23 : decode b_I_highProduct_JJ 23 = .ok (.land, 1) := by decide +kernel
theorem d_I_highProduct_JJ_24 : decode b_I_highProduct_JJ 24 = .ok (.lstore 10, 2) := by decide +kernel
theorem d_I_highProduct_JJ_26 : decode b_I_highProduct_JJ 26 = .ok (.lload 6, 2) := by decide +kernel
theorem d_I_highProduct_JJ_28 : decode b_I_highProduct_JJ 28 = .ok (.lload 10, 2) := by decide +kernel
theorem d_I_highProduct_JJ_30 : decode b_I_highProduct_JJ 30 = .ok (.lmul, 1) := by decide +kernel
theorem d_I_highProduct_JJ_31 : decode b_I_highProduct_JJ 31 = .ok (.lstore 12, 2) := by decide +kernel
theorem d_I_highProduct_JJ_33 : decode b_I_highProduct_JJ 33 = .ok (.lload 4, 2) := by decide +kernel
theorem d_I_highProduct_JJ_35 : decode b_I_highProduct_JJ 35 = .ok (.lload 10, 2) := by decide +kernel
theorem d_I_highProduct_JJ_37 : decode b_I_highProduct_JJ 37 = .ok (.lmul, 1) := by decide +kernel
theorem d_I_highProduct_JJ_38 : decode b_I_highProduct_JJ 38 = .ok (.lload 6, 2) := by decide +kernel
theorem d_I_highProduct_JJ_40 : decode b_I_highProduct_JJ 40 = .ok (.lload 8, 2) := by decide +kernel
theorem d_I_highProduct_JJ_42 : decode b_I_highProduct_JJ 42 = .ok (.lmul, 1) := by decide +kernel
theorem d_I_highProduct_JJ_43 : decode b_I_highProduct_JJ 43 = .ok (.ladd, 1) := by decide +kernel
theorem d_I_highProduct_JJ_44 : decode b_I_highProduct_JJ 44 = .ok (.lload 12, 2) := by decide +kernel
theorem d_I_highProduct_JJ_46 : decode b_I_highProduct_JJ 46 = .ok (.bipush 27, 2) := by decide +kernel
theorem d_I_highProduct_JJ_48 : decode b_I_highProduct_JJ 48 = .ok (.lushr, 1) := by decide +kernel
theorem d_I_highProduct_JJ_49 : decode b_I_highProduct_JJ 49 = .ok (.ladd, 1) := by decide +kernel
theorem d_I_highProduct_JJ_50 : decode b_I_highProduct_JJ 50 = .ok (.lstore 14, 2) := by decide +kernel
theorem d_I_highProduct_JJ_52 : decode b_I_highProduct_JJ 52 = .ok (.lload 4, 2) := by decide +kernel
theorem d_I_highProduct_JJ_54 : decode b_I_highProduct_JJ 54 = .ok (.lload 8, 2) := by decide +kernel
theorem d_I_highProduct_JJ_56 : decode b_I_highProduct_JJ 56 = .ok (.lmul, 1) := by decide +kernel
theorem d_I_highProduct_JJ_57 : decode b_I_highProduct_JJ 57 = .ok (.bipush 10, 2) := by decide +kernel
theorem d_I_highProduct_JJ_59 : decode b_I_highProduct_JJ 59 = .ok (.lshl, 1) := by decide +kernel
theorem d_I_highProduct_JJ_60 : decode b_I_highProduct_JJ 60 = .ok (.lstore 16, 2) := by decide +kernel
theorem d_I_highProduct_JJ_62 : decode b_I_highProduct_JJ 62 = .ok (.lload 16, 2) := by decide +kernel
theorem d_I_highProduct_JJ_64 : decode b_I_highProduct_JJ 64 = .ok (.lload 14, 2) := by decide +kernel
theorem d_I_highProduct_JJ_66 : decode b_I_highProduct_JJ 66 = .ok (.bipush 17, 2) := by decide +kernel
theorem d_I_highProduct_JJ_68 : decode b_I_highProduct_JJ 68 = .ok (.lushr, 1) := by decide +kernel
theorem d_I_highProduct_JJ_69 : decode b_I_highProduct_JJ 69 = .ok (.ladd, 1) := by decide +kernel
theorem d_I_highProduct_JJ_70 : decode b_I_highProduct_JJ 70 = .ok (.lstore 18, 2) := by decide +kernel
theorem d_I_highProduct_JJ_72 : decode b_I_highProduct_JJ 72 = .ok (.lload 14, 2) := by decide +kernel
theorem d_I_highProduct_JJ_74 : decode b_I_highProduct_JJ 74 = .ok (.ldc2_w 73, 3) := by decide +kernel
theorem d_I_highProduct_JJ_77 : decode b_I_highProduct_JJ 77 = .ok (.land, 1) := by decide +kernel
theorem d_I_highProduct_JJ_78 : decode b_I_highProduct_JJ 78 = .ok (.lload 12, 2) := by decide +kernel
theorem d_I_highProduct_JJ_80 : decode b_I_highProduct_JJ 80 = .ok (.ldc2_w 71, 3) := by decide +kernel
theorem d_I_highProduct_JJ_83 : decode b_I_highProduct_JJ 83 = .ok (.land, 1) := by decide +kernel
theorem d_I_highProduct_JJ_84 : decode b_I_highProduct_JJ 84 = .ok (.lor, 1) := by decide +kernel
theorem d_I_highProduct_JJ_85 : decode b_I_highProduct_JJ 85 = .ok (.lstore 20, 2) := by decide +kernel
theorem d_I_highProduct_JJ_87 : decode b_I_highProduct_JJ 87 = .ok (.lload 20, 2) := by decide +kernel
theorem d_I_highProduct_JJ_89 : decode b_I_highProduct_JJ 89 = .ok (.lconst 0, 1) := by decide +kernel
theorem d_I_highProduct_JJ_90 : decode b_I_highProduct_JJ 90 = .ok (.lcmp, 1) := by decide +kernel
theorem d_I_highProduct_JJ_91 : decode b_I_highProduct_JJ 91 = .ok (.ifCond .ne 8, 3) := by decide +kernel
theorem d_I_highProduct_JJ_94 : decode b_I_highProduct_JJ 94 = .ok (.lload 18, 2) := by decide +kernel
theorem d_I_highProduct_JJ_96 : decode b_I_highProduct_JJ 96 = .ok (.goto 7, 3) := by decide +kernel
theorem d_I_highProduct_JJ_99 : decode b_I_highProduct_JJ 99 = .ok (.lload 18, 2) := by decide +kernel
theorem d_I_highProduct_JJ_101 : decode b_I_highProduct_JJ 101 = .ok (.lconst 1, 1) := by decide +kernel
theorem d_I_highProduct_JJ_102 : decode b_I_highProduct_JJ 102 = .ok (.lor, 1) := by decide +kernel
theorem d_I_highProduct_JJ_103 : decode b_I_highProduct_JJ 103 = .ok (.lreturn, 1) := by decide +kernel
def f_I_highProduct_JJ (x0 : Int64) (x2 : Int64) : Int64 :=
  let v1 : Int64 := j_ushr x0 (27 : Int32)
  let v2 : Int64 := x0 &&& (134217727 : Int64)
  let v3 : Int64 := j_ushr x2 (27 : Int32)
  let v4 : Int64 := x2 &&& (134217727 : Int64)
  let v5 : Int64 := v2 * v4
  let v6 : Int64 := ((v1 * v4) + (v2 * v3)) + (j_ushr v5 (27 : Int32))
  let v7 : Int64 := j_shl (v1 * v3) (10 : Int32)
  let v8 : Int64 := v7 + (j_ushr v6 (17 : Int32))
  let v9 : Int64 := (v6 &&& (131071 : Int64)) ||| (v5 &&& (134217727 : Int64))
  if (lg_cmp v9 (0 : Int64)) = 0 then
    v8
  else
    v8 ||| (1 : Int64)
set_option maxHeartbeats 4000000 in
set_option maxRecDepth 100000 in
theorem c_I_highProduct_JJ (l : Launch) (h : Heap) (x0 : Int64) (x2 : Int64) : Met l y_I_highProduct_JJ (gw y_I_highProduct_JJ b_I_highProduct_JJ 22 (some .long)) { frames := 0, cells := 0, slots := 0, locals := 0 } (pu_Pc [.long x0, .long x2] h) (pu_Ml (f_I_highProduct_JJ x0 x2) h) 0 0 (fun _ => False) := by
  refine Met.ofW (cc := b_I_highProduct_JJ) (maxL := 22) (ret := (some .long)) (by decide) rfl ?_
  intro p e s m args below meth c s₁ B hml hv
  obtain ⟨rfl, hh⟩ := hv
  subst hh
  have hx := B.exec
  have hb := B.bytes
  have hr := B.returns
  have hts := atoms_spec (ws := (gw y_I_highProduct_JJ b_I_highProduct_JJ 22 (some .long))) B.pre
  have hown : s.vm.findClass "MotionLab$Ieee" = some m.cls := findClass_of_methodNamed B.named
  have hlocks := B.notSynchronized
  have C0 : pu_C p s m _ meth c b_I_highProduct_JJ 22 "MotionLab$Ieee" (some .long) (gw y_I_highProduct_JJ b_I_highProduct_JJ 22 (some .long)) := ⟨hx, hb, hml, hown, hts, hr, hlocks⟩
  have hl := lv_entry ([.long x0, .long x2]) (n := 22) (Nat.le_of_ble_eq_true rfl)
  rw [lg_entry_eq]
  generalize (lg_sl ([.long x0, .long x2]) ++ List.replicate (22 - (lg_sl ([.long x0, .long x2])).length) Slot.unset).toArray = ls at hl ⊢
  have hl : lv_has ls 22 [(0, .long x0), (2, .long x2)] := hl
  refine lv_lload_n hx hb d_I_highProduct_JJ_0 rfl (lv_at hl 0 rfl) ?_
  refine lv_bipush (v := (27 : Int32)) hx hb d_I_highProduct_JJ_1 (by decide) ?_
  refine lv_lushr (v := j_ushr x0 (27 : Int32)) hx hb d_I_highProduct_JJ_3 rfl ?_
  refine lv_topl (fun v1 e1 => ?_)
  refine lv_lstore (lv' := [(4, .long v1), (0, .long x0), (2, .long x2)]) hx hb d_I_highProduct_JJ_4 hl (by decide) rfl (fun ls hl => ?_)
  refine lv_lload_n hx hb d_I_highProduct_JJ_6 rfl (lv_at hl 1 rfl) ?_
  refine lv_ldc2 (v := (134217727 : Int64)) hx hb hown (hts _ (gm tw_186)) d_I_highProduct_JJ_7 ?_
  refine lv_land hx hb d_I_highProduct_JJ_10 ?_
  refine lv_topl (fun v2 e2 => ?_)
  refine lv_lstore (lv' := [(6, .long v2), (4, .long v1), (0, .long x0), (2, .long x2)]) hx hb d_I_highProduct_JJ_11 hl (by decide) rfl (fun ls hl => ?_)
  refine lv_lload_n hx hb d_I_highProduct_JJ_13 rfl (lv_at hl 3 rfl) ?_
  refine lv_bipush (v := (27 : Int32)) hx hb d_I_highProduct_JJ_14 (by decide) ?_
  refine lv_lushr (v := j_ushr x2 (27 : Int32)) hx hb d_I_highProduct_JJ_16 rfl ?_
  refine lv_topl (fun v3 e3 => ?_)
  refine lv_lstore (lv' := [(8, .long v3), (6, .long v2), (4, .long v1), (0, .long x0), (2, .long x2)]) hx hb d_I_highProduct_JJ_17 hl (by decide) rfl (fun ls hl => ?_)
  refine lv_lload_n hx hb d_I_highProduct_JJ_19 rfl (lv_at hl 4 rfl) ?_
  refine lv_ldc2 (v := (134217727 : Int64)) hx hb hown (hts _ (gm tw_186)) d_I_highProduct_JJ_20 ?_
  refine lv_land hx hb d_I_highProduct_JJ_23 ?_
  refine lv_topl (fun v4 e4 => ?_)
  refine lv_lstore (lv' := [(10, .long v4), (8, .long v3), (6, .long v2), (4, .long v1), (0, .long x0), (2, .long x2)]) hx hb d_I_highProduct_JJ_24 hl (by decide) rfl (fun ls hl => ?_)
  refine lv_lload hx hb d_I_highProduct_JJ_26 (lv_at hl 2 rfl) ?_
  refine lv_lload hx hb d_I_highProduct_JJ_28 (lv_at hl 0 rfl) ?_
  refine lv_lmul hx hb d_I_highProduct_JJ_30 ?_
  refine lv_topl (fun v5 e5 => ?_)
  refine lv_lstore (lv' := [(12, .long v5), (10, .long v4), (8, .long v3), (6, .long v2), (4, .long v1), (0, .long x0), (2, .long x2)]) hx hb d_I_highProduct_JJ_31 hl (by decide) rfl (fun ls hl => ?_)
  refine lv_lload hx hb d_I_highProduct_JJ_33 (lv_at hl 4 rfl) ?_
  refine lv_lload hx hb d_I_highProduct_JJ_35 (lv_at hl 1 rfl) ?_
  refine lv_lmul hx hb d_I_highProduct_JJ_37 ?_
  refine lv_lload hx hb d_I_highProduct_JJ_38 (lv_at hl 3 rfl) ?_
  refine lv_lload hx hb d_I_highProduct_JJ_40 (lv_at hl 2 rfl) ?_
  refine lv_lmul hx hb d_I_highProduct_JJ_42 ?_
  refine lv_ladd hx hb d_I_highProduct_JJ_43 ?_
  refine lv_lload hx hb d_I_highProduct_JJ_44 (lv_at hl 0 rfl) ?_
  refine lv_bipush (v := (27 : Int32)) hx hb d_I_highProduct_JJ_46 (by decide) ?_
  refine lv_lushr (v := j_ushr v5 (27 : Int32)) hx hb d_I_highProduct_JJ_48 rfl ?_
  refine lv_ladd hx hb d_I_highProduct_JJ_49 ?_
  refine lv_topl (fun v6 e6 => ?_)
  refine lv_lstore (lv' := [(14, .long v6), (12, .long v5), (10, .long v4), (8, .long v3), (6, .long v2), (4, .long v1), (0, .long x0), (2, .long x2)]) hx hb d_I_highProduct_JJ_50 hl (by decide) rfl (fun ls hl => ?_)
  refine lv_lload hx hb d_I_highProduct_JJ_52 (lv_at hl 5 rfl) ?_
  refine lv_lload hx hb d_I_highProduct_JJ_54 (lv_at hl 3 rfl) ?_
  refine lv_lmul hx hb d_I_highProduct_JJ_56 ?_
  refine lv_bipush (v := (10 : Int32)) hx hb d_I_highProduct_JJ_57 (by decide) ?_
  refine lv_lshl (v := j_shl (v1 * v3) (10 : Int32)) hx hb d_I_highProduct_JJ_59 rfl ?_
  refine lv_topl (fun v7 e7 => ?_)
  refine lv_lstore (lv' := [(16, .long v7), (14, .long v6), (12, .long v5), (10, .long v4), (8, .long v3), (6, .long v2), (4, .long v1), (0, .long x0), (2, .long x2)]) hx hb d_I_highProduct_JJ_60 hl (by decide) rfl (fun ls hl => ?_)
  refine lv_lload hx hb d_I_highProduct_JJ_62 (lv_at hl 0 rfl) ?_
  refine lv_lload hx hb d_I_highProduct_JJ_64 (lv_at hl 1 rfl) ?_
  refine lv_bipush (v := (17 : Int32)) hx hb d_I_highProduct_JJ_66 (by decide) ?_
  refine lv_lushr (v := j_ushr v6 (17 : Int32)) hx hb d_I_highProduct_JJ_68 rfl ?_
  refine lv_ladd hx hb d_I_highProduct_JJ_69 ?_
  refine lv_topl (fun v8 e8 => ?_)
  refine lv_lstore (lv' := [(18, .long v8), (16, .long v7), (14, .long v6), (12, .long v5), (10, .long v4), (8, .long v3), (6, .long v2), (4, .long v1), (0, .long x0), (2, .long x2)]) hx hb d_I_highProduct_JJ_70 hl (by decide) rfl (fun ls hl => ?_)
  refine lv_lload hx hb d_I_highProduct_JJ_72 (lv_at hl 2 rfl) ?_
  refine lv_ldc2 (v := (131071 : Int64)) hx hb hown (hts _ (gm tw_187)) d_I_highProduct_JJ_74 ?_
  refine lv_land hx hb d_I_highProduct_JJ_77 ?_
  refine lv_lload hx hb d_I_highProduct_JJ_78 (lv_at hl 3 rfl) ?_
  refine lv_ldc2 (v := (134217727 : Int64)) hx hb hown (hts _ (gm tw_186)) d_I_highProduct_JJ_80 ?_
  refine lv_land hx hb d_I_highProduct_JJ_83 ?_
  refine lv_lor hx hb d_I_highProduct_JJ_84 ?_
  refine lv_topl (fun v9 e9 => ?_)
  refine lv_lstore (lv' := [(20, .long v9), (18, .long v8), (16, .long v7), (14, .long v6), (12, .long v5), (10, .long v4), (8, .long v3), (6, .long v2), (4, .long v1), (0, .long x0), (2, .long x2)]) hx hb d_I_highProduct_JJ_85 hl (by decide) rfl (fun ls hl => ?_)
  refine lv_lload hx hb d_I_highProduct_JJ_87 (lv_at hl 0 rfl) ?_
  refine lv_lconst (v := (0 : Int64)) hx hb d_I_highProduct_JJ_89 (by decide) ?_
  refine W.lcmp hx hb d_I_highProduct_JJ_90 ?_
  refine lv_if_ne (tgt := 99) hx hb d_I_highProduct_JJ_91 (by decide) (fun c10 => ?_) (fun c10 => ?_)
  · refine lv_lload hx hb d_I_highProduct_JJ_99 (lv_at hl 1 rfl) ?_
    refine lv_lconst (v := (1 : Int64)) hx hb d_I_highProduct_JJ_101 (by decide) ?_
    refine lv_lor hx hb d_I_highProduct_JJ_102 ?_
    exact pu_lret hx hb hr hlocks d_I_highProduct_JJ_103 (by have qe1 := e1.symm; have qe2 := e2.symm; have qe3 := e3.symm; have qe4 := e4.symm; have qe5 := e5.symm; have qe6 := e6.symm; have qe7 := e7.symm; have qe8 := e8.symm; have qe9 := e9.symm; subst qe1 qe2 qe3 qe4 qe5 qe6 qe7 qe8 qe9; exact Eq.symm (if_neg c10))
  · refine lv_lload hx hb d_I_highProduct_JJ_94 (lv_at hl 1 rfl) ?_
    refine lv_goto (tgt := 103) hx hb d_I_highProduct_JJ_96 (by decide) ?_
    exact pu_lret hx hb hr hlocks d_I_highProduct_JJ_103 (by have qe1 := e1.symm; have qe2 := e2.symm; have qe3 := e3.symm; have qe4 := e4.symm; have qe5 := e5.symm; have qe6 := e6.symm; have qe7 := e7.symm; have qe8 := e8.symm; have qe9 := e9.symm; subst qe1 qe2 qe3 qe4 qe5 qe6 qe7 qe8 qe9; exact Eq.symm (if_pos c10))
-- ===== MotionLab$Ieee.product(JJ)J
abbrev y_I_product_JJ : MethodName := ⟨"MotionLab$Ieee", "product", "(JJ)J"⟩
abbrev b_I_product_JJ : ByteArray := prog_2_method_16_code
theorem d_I_product_JJ_0 : decode b_I_product_JJ 0 = .ok (.lload_n 0, 1) := by decide +kernel
theorem d_I_product_JJ_1 : decode b_I_product_JJ 1 = .ok (.lload_n 2, 1) := by decide +kernel
theorem d_I_product_JJ_2 : decode b_I_product_JJ 2 = .ok (.lxor, 1) := by decide +kernel
theorem d_I_product_JJ_3 : decode b_I_product_JJ 3 = .ok (.ldc2_w 19, 3) := by decide +kernel
theorem d_I_product_JJ_6 : decode b_I_product_JJ 6 = .ok (.land, 1) := by decide +kernel
theorem d_I_product_JJ_7 : decode b_I_product_JJ 7 = .ok (.lstore 4, 2) := by decide +kernel
theorem d_I_product_JJ_9 : decode b_I_product_JJ 9 = .ok (.lload_n 0, 1) := by decide +kernel
theorem d_I_product_JJ_10 : decode b_I_product_JJ 10 = .ok (.invokestatic 35, 3) := by decide +kernel
theorem d_I_product_JJ_13 : decode b_I_product_JJ 13 = .ok (.ifCond .eq 10, 3) := by decide +kernel
theorem d_I_product_JJ_16 : decode b_I_product_JJ 16 = .ok (.lload_n 2, 1) := by decide +kernel
theorem d_I_product_JJ_17 : decode b_I_product_JJ 17 = .ok (.invokestatic 35, 3) := by decide +kernel
theorem d_I_product_JJ_20 : decode b_I_product_JJ 20 = .ok (.ifCond .ne 56, 3) := by decide +kernel
theorem d_I_product_JJ_23 : decode b_I_product_JJ 23 = .ok (.lload_n 0, 1) := by decide +kernel
theorem d_I_product_JJ_24 : decode b_I_product_JJ 24 = .ok (.invokestatic 13, 3) := by decide +kernel
theorem d_I_product_JJ_27 : decode b_I_product_JJ 27 = .ok (.ifCond .ne 24, 3) := by decide +kernel
theorem d_I_product_JJ_30 : decode b_I_product_JJ 30 = .ok (.lload_n 2, 1) := by decide +kernel
theorem d_I_product_JJ_31 : decode b_I_product_JJ 31 = .ok (.invokestatic 13, 3) := by decide +kernel
theorem d_I_product_JJ_34 : decode b_I_product_JJ 34 = .ok (.ifCond .ne 17, 3) := by decide +kernel
theorem d_I_product_JJ_37 : decode b_I_product_JJ 37 = .ok (.lload_n 0, 1) := by decide +kernel
theorem d_I_product_JJ_38 : decode b_I_product_JJ 38 = .ok (.invokestatic 62, 3) := by decide +kernel
theorem d_I_product_JJ_41 : decode b_I_product_JJ 41 = .ok (.ifCond .ne 10, 3) := by decide +kernel
theorem d_I_product_JJ_44 : decode b_I_product_JJ 44 = .ok (.lload_n 2, 1) := by decide +kernel
theorem d_I_product_JJ_45 : decode b_I_product_JJ 45 = .ok (.invokestatic 62, 3) := by decide +kernel
theorem d_I_product_JJ_48 : decode b_I_product_JJ 48 = .ok (.ifCond .eq 7, 3) := by decide +kernel
theorem d_I_product_JJ_51 : decode b_I_product_JJ 51 = .ok (.iconst 1, 1) := by decide +kernel
theorem d_I_product_JJ_52 : decode b_I_product_JJ 52 = .ok (.goto 4, 3) := by decide +kernel
theorem d_I_product_JJ_55 : decode b_I_product_JJ 55 = .ok (.iconst 0, 1) := by decide +kernel
theorem d_I_product_JJ_56 : decode b_I_product_JJ 56 = .ok (.istore 6, 2) := by decide +kernel
theorem d_I_product_JJ_58 : decode b_I_product_JJ 58 = .ok (.iload 6, 2) := by decide +kernel
theorem d_I_product_JJ_60 : decode b_I_product_JJ 60 = .ok (.ifCond .eq 9, 3) := by decide +kernel
theorem d_I_product_JJ_63 : decode b_I_product_JJ 63 = .ok (.ldc2_w 17, 3) := by decide +kernel
theorem d_I_product_JJ_66 : decode b_I_product_JJ 66 = .ok (.goto 9, 3) := by decide +kernel
theorem d_I_product_JJ_69 : decode b_I_product_JJ 69 = .ok (.lload 4, 2) := by decide +kernel
theorem d_I_product_JJ_71 : decode b_I_product_JJ 71 = .ok (.ldc2_w 11, 3) := by decide +kernel
theorem d_I_product_JJ_74 : decode b_I_product_JJ 74 = .ok (.lor, 1) := by decide +kernel
theorem d_I_product_JJ_75 : decode b_I_product_JJ 75 = .ok (.lreturn, 1) := by decide +kernel
theorem d_I_product_JJ_76 : decode b_I_product_JJ 76 = .ok (.lload_n 0, 1) := by decide +kernel
theorem d_I_product_JJ_77 : decode b_I_product_JJ 77 = .ok (.invokestatic 65, 3) := by decide +kernel
theorem d_I_product_JJ_80 : decode b_I_product_JJ 80 = .ok (.istore 6, 2) := by decide +kernel
theorem d_I_product_JJ_82 : decode b_I_product_JJ 82 = .ok (.lload_n 2, 1) := by decide +kernel
theorem d_I_product_JJ_83 : decode b_I_product_JJ 83 = .ok (.invokestatic 65, 3) := by decide +kernel
theorem d_I_product_JJ_86 : decode b_I_product_JJ 86 = .ok (.istore 7, 2) := by decide +kernel
theorem d_I_product_JJ_88 : decode b_I_product_JJ 88 = .ok (.lload_n 0, 1) := by decide +kernel
theorem d_I_product_JJ_89 : decode b_I_product_JJ 89 = .ok (.invokestatic 41, 3) := by decide +kernel
theorem d_I_product_JJ_92 : decode b_I_product_JJ 92 = .ok (.iload 6, 2) := by decide +kernel
theorem d_I_product_JJ_94 : decode b_I_product_JJ 94 = .ok (.isub, 1) := by decide +kernel
theorem d_I_product_JJ_95 : decode b_I_product_JJ 95 = .ok (.lload_n 2, 1) := by decide +kernel
theorem d_I_product_JJ_96 : decode b_I_product_JJ 96 = .ok (.invokestatic 41, 3) := by decide +kernel
theorem d_I_product_JJ_99 : decode b_I_product_JJ 99 = .ok (.iadd, 1) := by decide +kernel
theorem d_I_product_JJ_100 : decode b_I_product_JJ 100 = .ok (.iload 7, 2) := by decide +kernel
theorem d_I_product_JJ_102 : decode b_I_product_JJ 102 = .ok (.isub, 1) := by decide +kernel
theorem d_I_product_JJ_103 : decode b_I_product_JJ 103 = .ok (.bipush 44, 2) := by decide +kernel
theorem d_I_product_JJ_105 : decode b_I_product_JJ 105 = .ok (.iadd, 1) := by decide +kernel
theorem d_I_product_JJ_106 : decode b_I_product_JJ 106 = .ok (.istore 8, 2) := by decide +kernel
theorem d_I_product_JJ_108 : decode b_I_product_JJ 108 = .ok (.lload 4, 2) := by decide +kernel
theorem d_I_product_JJ_110 : decode b_I_product_JJ 110 = .ok (.iload 8, 2) := by decide +kernel
theorem d_I_product_JJ_112 : decode b_I_product_JJ 112 = .ok (.lload_n 0, 1) := by decide +kernel
theorem d_I_product_JJ_113 : decode b_I_product_JJ 113 = .ok (.invokestatic 45, 3) := by decide +kernel
theorem d_I_product_JJ_116 : decode b_I_product_JJ 116 = .ok (.iload 6, 2) := by decide +kernel
theorem d_I_product_JJ_118 : decode b_I_product_JJ 118 = .ok (.lshl, 1) := by decide +kernel
theorem d_I_product_JJ_119 : decode b_I_product_JJ 119 = .ok (.lload_n 2, 1) := by decide +kernel
theorem d_I_product_JJ_120 : decode b_I_product_JJ 120 = .ok (.invokestatic 45, 3) := by decide +kernel
theorem d_I_product_JJ_123 : decode b_I_product_JJ 123 = .ok (.iload 7, 2) := by decide +kernel
theorem d_I_product_JJ_125 : decode b_I_product_JJ 125 = .ok (.lshl, 1) := by decide +kernel
theorem d_I_product_JJ_126 : decode b_I_product_JJ 126 = .ok (.invokestatic 68, 3) := by decide +kernel
theorem d_I_product_JJ_129 : decode b_I_product_JJ 129 = .ok (.invokestatic 52, 3) := by decide +kernel
theorem d_I_product_JJ_132 : decode b_I_product_JJ 132 = .ok (.lreturn, 1) := by decide +kernel
def f_I_product_JJ_56 (x4 : Int64) (s0 : Int32) : Int64 :=
  if s0 = 0 then
    x4 ||| (9218868437227405312 : Int64)
  else
    (9221120237041090560 : Int64)
set_option maxHeartbeats 4000000 in
set_option maxRecDepth 100000 in
theorem k_I_product_JJ_56 {p : Program} {l : Launch} {e : Env} {s : State} {m : MethodId} {args : Array Value} {below : List Frame} {meth : Method} {c : Code} (C0 : pu_C p s m args meth c b_I_product_JJ 9 "MotionLab$Ieee" (some .long) (gw y_I_product_JJ b_I_product_JJ 9 (some .long))) (x4 : Int64) (s0 : Int32) (ls : Array Slot) (hl : lv_has ls 9 [(4, .long x4)]) {w : Int64} (hw : w = f_I_product_JJ_56 x4 s0) : W p l e (headSpec (gw y_I_product_JJ b_I_product_JJ 9 (some .long)) ({ frames := 3, cells := 0, slots := 0, locals := 69 } : Room)).room s m args below meth c s.heap [] 0 0 (pu_Ql w below args s) (F0 m 56 ls [.int s0]) := by
  obtain ⟨hx, hb, hml, hown, hts, hr, hlocks⟩ := id C0
  refine lv_istore (lv' := [(6, .int s0), (4, .long x4)]) hx hb d_I_product_JJ_56 hl (by decide) rfl (fun ls hl => ?_)
  refine lv_iload hx hb d_I_product_JJ_58 (lv_at hl 0 rfl) ?_
  refine lv_if_eq (tgt := 69) hx hb d_I_product_JJ_60 (by decide) (fun c1 => ?_) (fun c1 => ?_)
  · refine lv_lload hx hb d_I_product_JJ_69 (lv_at hl 1 rfl) ?_
    refine lv_ldc2 (v := (9218868437227405312 : Int64)) hx hb hown (hts _ (gm tw_85)) d_I_product_JJ_71 ?_
    refine lv_lor hx hb d_I_product_JJ_74 ?_
    exact pu_lret hx hb hr hlocks d_I_product_JJ_75 (by exact Eq.symm (hw.trans (if_pos c1)))
  · refine lv_ldc2 (v := (9221120237041090560 : Int64)) hx hb hown (hts _ (gm tw_92)) d_I_product_JJ_63 ?_
    refine lv_goto (tgt := 75) hx hb d_I_product_JJ_66 (by decide) ?_
    exact pu_lret hx hb hr hlocks d_I_product_JJ_75 (by exact Eq.symm (hw.trans (if_neg c1)))
def f_I_product_JJ_51 (x4 : Int64) : Int64 :=
  f_I_product_JJ_56 x4 (1 : Int32)
set_option maxHeartbeats 4000000 in
set_option maxRecDepth 100000 in
theorem k_I_product_JJ_51 {p : Program} {l : Launch} {e : Env} {s : State} {m : MethodId} {args : Array Value} {below : List Frame} {meth : Method} {c : Code} (C0 : pu_C p s m args meth c b_I_product_JJ 9 "MotionLab$Ieee" (some .long) (gw y_I_product_JJ b_I_product_JJ 9 (some .long))) (x4 : Int64) (ls : Array Slot) (hl : lv_has ls 9 [(4, .long x4)]) {w : Int64} (hw : w = f_I_product_JJ_51 x4) : W p l e (headSpec (gw y_I_product_JJ b_I_product_JJ 9 (some .long)) ({ frames := 3, cells := 0, slots := 0, locals := 69 } : Room)).room s m args below meth c s.heap [] 0 0 (pu_Ql w below args s) (F0 m 51 ls []) := by
  obtain ⟨hx, hb, hml, hown, hts, hr, hlocks⟩ := id C0
  refine lv_iconst (v := 1) hx hb d_I_product_JJ_51 (by decide) ?_
  refine lv_goto (tgt := 56) hx hb d_I_product_JJ_52 (by decide) ?_
  exact k_I_product_JJ_56 C0 x4 (1 : Int32) ls (lv_sub hl [0] rfl) (by exact (hw.trans rfl))
def f_I_product_JJ_23 (x0 : Int64) (x2 : Int64) (x4 : Int64) : Int64 :=
  if (f_I_isNoNumber_J x0) = 0 then
    if (f_I_isNoNumber_J x2) = 0 then
      if (f_I_isZero_J x0) = 0 then
        if (f_I_isZero_J x2) = 0 then
          f_I_product_JJ_56 x4 (0 : Int32)
        else
          f_I_product_JJ_51 x4
      else
        f_I_product_JJ_51 x4
    else
      f_I_product_JJ_51 x4
  else
    f_I_product_JJ_51 x4
set_option maxHeartbeats 4000000 in
set_option maxRecDepth 100000 in
theorem k_I_product_JJ_23 {p : Program} {l : Launch} {e : Env} {s : State} {m : MethodId} {args : Array Value} {below : List Frame} {meth : Method} {c : Code} (C0 : pu_C p s m args meth c b_I_product_JJ 9 "MotionLab$Ieee" (some .long) (gw y_I_product_JJ b_I_product_JJ 9 (some .long))) (x0 : Int64) (x2 : Int64) (x4 : Int64) (ls : Array Slot) (hl : lv_has ls 9 [(0, .long x0), (2, .long x2), (4, .long x4)]) {w : Int64} (hw : w = f_I_product_JJ_23 x0 x2 x4) : W p l e (headSpec (gw y_I_product_JJ b_I_product_JJ 9 (some .long)) ({ frames := 3, cells := 0, slots := 0, locals := 69 } : Room)).room s m args below meth c s.heap [] 0 0 (pu_Ql w below args s) (F0 m 23 ls []) := by
  obtain ⟨hx, hb, hml, hown, hts, hr, hlocks⟩ := id C0
  refine lv_lload_n hx hb d_I_product_JJ_23 rfl (lv_at hl 0 rfl) ?_
  refine pu_i (As := [.long x0]) (rest := []) ⟨hx, hb, hml, hown, hts⟩ (c_I_isNoNumber_J l _ x0) pu_pre (gw_call (k := 1) hts tw_89 tw_90 tw_5 tw_91 (by decide +kernel) rfl rfl ⟨Nat.le_of_ble_eq_true rfl, Nat.le_of_ble_eq_true rfl⟩) rfl hl.1 rfl (Nat.le_of_ble_eq_true rfl) ⟨Nat.zero_le _, Nat.zero_le _⟩ d_I_product_JJ_24 ?_
  refine lv_if_ne (tgt := 51) hx hb d_I_product_JJ_27 (by decide) (fun c1 => ?_) (fun c1 => ?_)
  · exact k_I_product_JJ_51 C0 x4 ls (lv_sub hl [2] rfl) (by exact (hw.trans (if_neg c1)))
  · refine lv_lload_n hx hb d_I_product_JJ_30 rfl (lv_at hl 1 rfl) ?_
    refine pu_i (As := [.long x2]) (rest := []) ⟨hx, hb, hml, hown, hts⟩ (c_I_isNoNumber_J l _ x2) pu_pre (gw_call (k := 1) hts tw_89 tw_90 tw_5 tw_91 (by decide +kernel) rfl rfl ⟨Nat.le_of_ble_eq_true rfl, Nat.le_of_ble_eq_true rfl⟩) rfl hl.1 rfl (Nat.le_of_ble_eq_true rfl) ⟨Nat.zero_le _, Nat.zero_le _⟩ d_I_product_JJ_31 ?_
    refine lv_if_ne (tgt := 51) hx hb d_I_product_JJ_34 (by decide) (fun c2 => ?_) (fun c2 => ?_)
    · exact k_I_product_JJ_51 C0 x4 ls (lv_sub hl [2] rfl) (by exact (hw.trans (Eq.trans (if_pos c1) (if_neg c2))))
    · refine lv_lload_n hx hb d_I_product_JJ_37 rfl (lv_at hl 0 rfl) ?_
      refine pu_i (As := [.long x0]) (rest := []) ⟨hx, hb, hml, hown, hts⟩ (c_I_isZero_J l _ x0) pu_pre (gw_call (k := 1) hts tw_177 tw_178 tw_5 tw_179 (by decide +kernel) rfl rfl ⟨Nat.le_of_ble_eq_true rfl, Nat.le_of_ble_eq_true rfl⟩) rfl hl.1 rfl (Nat.le_of_ble_eq_true rfl) ⟨Nat.zero_le _, Nat.zero_le _⟩ d_I_product_JJ_38 ?_
      refine lv_if_ne (tgt := 51) hx hb d_I_product_JJ_41 (by decide) (fun c3 => ?_) (fun c3 => ?_)
      · exact k_I_product_JJ_51 C0 x4 ls (lv_sub hl [2] rfl) (by exact (hw.trans (Eq.trans (if_pos c1) (Eq.trans (if_pos c2) (if_neg c3)))))
      · refine lv_lload_n hx hb d_I_product_JJ_44 rfl (lv_at hl 1 rfl) ?_
        refine pu_i (As := [.long x2]) (rest := []) ⟨hx, hb, hml, hown, hts⟩ (c_I_isZero_J l _ x2) pu_pre (gw_call (k := 1) hts tw_177 tw_178 tw_5 tw_179 (by decide +kernel) rfl rfl ⟨Nat.le_of_ble_eq_true rfl, Nat.le_of_ble_eq_true rfl⟩) rfl hl.1 rfl (Nat.le_of_ble_eq_true rfl) ⟨Nat.zero_le _, Nat.zero_le _⟩ d_I_product_JJ_45 ?_
        refine lv_if_eq (tgt := 55) hx hb d_I_product_JJ_48 (by decide) (fun c4 => ?_) (fun c4 => ?_)
        · refine lv_iconst (v := 0) hx hb d_I_product_JJ_55 (by decide) ?_
          exact k_I_product_JJ_56 C0 x4 (0 : Int32) ls (lv_sub hl [2] rfl) (by exact (hw.trans (Eq.trans (if_pos c1) (Eq.trans (if_pos c2) (Eq.trans (if_pos c3) (if_pos c4))))))
        · exact k_I_product_JJ_51 C0 x4 ls (lv_sub hl [2] rfl) (by exact (hw.trans (Eq.trans (if_pos c1) (Eq.trans (if_pos c2) (Eq.trans (if_pos c3) (if_neg c4))))))
def f_I_product_JJ (x0 : Int64) (x2 : Int64) : Int64 :=
  let v1 : Int64 := (x0 ^^^ x2) &&& (-9223372036854775808 : Int64)
  if (f_I_isFinite_J x0) = 0 then
    f_I_product_JJ_23 x0 x2 v1
  else
    if (f_I_isFinite_J x2) = 0 then
      f_I_product_JJ_23 x0 x2 v1
    else
      let v4 : Int32 := f_I_rise_J x0
      let v5 : Int32 := f_I_rise_J x2
      let v6 : Int32 := ((((f_I_power_J x0) - v4) + (f_I_power_J x2)) - v5) + (44 : Int32)
      f_I_nearest_JIJ v1 v6 (f_I_highProduct_JJ (j_shl (f_I_significand_J x0) v4) (j_shl (f_I_significand_J x2) v5))
set_option maxHeartbeats 4000000 in
set_option maxRecDepth 100000 in
theorem c_I_product_JJ (l : Launch) (h : Heap) (x0 : Int64) (x2 : Int64) : Met l y_I_product_JJ (gw y_I_product_JJ b_I_product_JJ 9 (some .long)) { frames := 3, cells := 0, slots := 0, locals := 69 } (pu_Pc [.long x0, .long x2] h) (pu_Ml (f_I_product_JJ x0 x2) h) 0 0 (fun _ => False) := by
  refine Met.ofW (cc := b_I_product_JJ) (maxL := 9) (ret := (some .long)) (by decide) rfl ?_
  intro p e s m args below meth c s₁ B hml hv
  obtain ⟨rfl, hh⟩ := hv
  subst hh
  have hx := B.exec
  have hb := B.bytes
  have hr := B.returns
  have hts := atoms_spec (ws := (gw y_I_product_JJ b_I_product_JJ 9 (some .long))) B.pre
  have hown : s.vm.findClass "MotionLab$Ieee" = some m.cls := findClass_of_methodNamed B.named
  have hlocks := B.notSynchronized
  have C0 : pu_C p s m _ meth c b_I_product_JJ 9 "MotionLab$Ieee" (some .long) (gw y_I_product_JJ b_I_product_JJ 9 (some .long)) := ⟨hx, hb, hml, hown, hts, hr, hlocks⟩
  have hl := lv_entry ([.long x0, .long x2]) (n := 9) (Nat.le_of_ble_eq_true rfl)
  rw [lg_entry_eq]
  generalize (lg_sl ([.long x0, .long x2]) ++ List.replicate (9 - (lg_sl ([.long x0, .long x2])).length) Slot.unset).toArray = ls at hl ⊢
  have hl : lv_has ls 9 [(0, .long x0), (2, .long x2)] := hl
  refine lv_lload_n hx hb d_I_product_JJ_0 rfl (lv_at hl 0 rfl) ?_
  refine lv_lload_n hx hb d_I_product_JJ_1 rfl (lv_at hl 1 rfl) ?_
  refine lv_lxor hx hb d_I_product_JJ_2 ?_
  refine lv_ldc2 (v := (-9223372036854775808 : Int64)) hx hb hown (hts _ (gm tw_93)) d_I_product_JJ_3 ?_
  refine lv_land hx hb d_I_product_JJ_6 ?_
  refine lv_topl (fun v1 e1 => ?_)
  refine lv_lstore (lv' := [(4, .long v1), (0, .long x0), (2, .long x2)]) hx hb d_I_product_JJ_7 hl (by decide) rfl (fun ls hl => ?_)
  refine lv_lload_n hx hb d_I_product_JJ_9 rfl (lv_at hl 1 rfl) ?_
  refine pu_i (As := [.long x0]) (rest := []) ⟨hx, hb, hml, hown, hts⟩ (c_I_isFinite_J l _ x0) pu_pre (gw_call (k := 1) hts tw_81 tw_82 tw_5 tw_83 (by decide +kernel) rfl rfl ⟨Nat.le_of_ble_eq_true rfl, Nat.le_of_ble_eq_true rfl⟩) rfl hl.1 rfl (Nat.le_of_ble_eq_true rfl) ⟨Nat.zero_le _, Nat.zero_le _⟩ d_I_product_JJ_10 ?_
  refine lv_if_eq (tgt := 23) hx hb d_I_product_JJ_13 (by decide) (fun c2 => ?_) (fun c2 => ?_)
  · exact k_I_product_JJ_23 C0 x0 x2 v1 ls (lv_sub hl [1, 2, 0] rfl) (by have qe1 := e1.symm; subst qe1; exact (if_pos c2))
  · refine lv_lload_n hx hb d_I_product_JJ_16 rfl (lv_at hl 2 rfl) ?_
    refine pu_i (As := [.long x2]) (rest := []) ⟨hx, hb, hml, hown, hts⟩ (c_I_isFinite_J l _ x2) pu_pre (gw_call (k := 1) hts tw_81 tw_82 tw_5 tw_83 (by decide +kernel) rfl rfl ⟨Nat.le_of_ble_eq_true rfl, Nat.le_of_ble_eq_true rfl⟩) rfl hl.1 rfl (Nat.le_of_ble_eq_true rfl) ⟨Nat.zero_le _, Nat.zero_le _⟩ d_I_product_JJ_17 ?_
    refine lv_if_ne (tgt := 76) hx hb d_I_product_JJ_20 (by decide) (fun c3 => ?_) (fun c3 => ?_)
    · refine lv_lload_n hx hb d_I_product_JJ_76 rfl (lv_at hl 1 rfl) ?_
      refine pu_i (As := [.long x0]) (rest := []) ⟨hx, hb, hml, hown, hts⟩ (c_I_rise_J l _ x0) pu_pre (gw_call (k := 1) hts tw_180 tw_181 tw_5 tw_182 (by decide +kernel) rfl rfl ⟨Nat.le_of_ble_eq_true rfl, Nat.le_of_ble_eq_true rfl⟩) rfl hl.1 rfl (Nat.le_of_ble_eq_true rfl) ⟨Nat.zero_le _, Nat.zero_le _⟩ d_I_product_JJ_77 ?_
      refine lv_topi (fun v4 e4 => ?_)
      refine lv_istore (lv' := [(6, .int v4), (4, .long v1), (0, .long x0), (2, .long x2)]) hx hb d_I_product_JJ_80 hl (by decide) rfl (fun ls hl => ?_)
      refine lv_lload_n hx hb d_I_product_JJ_82 rfl (lv_at hl 3 rfl) ?_
      refine pu_i (As := [.long x2]) (rest := []) ⟨hx, hb, hml, hown, hts⟩ (c_I_rise_J l _ x2) pu_pre (gw_call (k := 1) hts tw_180 tw_181 tw_5 tw_182 (by decide +kernel) rfl rfl ⟨Nat.le_of_ble_eq_true rfl, Nat.le_of_ble_eq_true rfl⟩) rfl hl.1 rfl (Nat.le_of_ble_eq_true rfl) ⟨Nat.zero_le _, Nat.zero_le _⟩ d_I_product_JJ_83 ?_
      refine lv_topi (fun v5 e5 => ?_)
      refine lv_istore (lv' := [(7, .int v5), (6, .int v4), (4, .long v1), (0, .long x0), (2, .long x2)]) hx hb d_I_product_JJ_86 hl (by decide) rfl (fun ls hl => ?_)
      refine lv_lload_n hx hb d_I_product_JJ_88 rfl (lv_at hl 3 rfl) ?_
      refine pu_i (As := [.long x0]) (rest := []) ⟨hx, hb, hml, hown, hts⟩ (c_I_power_J l _ x0) pu_pre (gw_call (k := 1) hts tw_94 tw_95 tw_5 tw_96 (by decide +kernel) rfl rfl ⟨Nat.le_of_ble_eq_true rfl, Nat.le_of_ble_eq_true rfl⟩) rfl hl.1 rfl (Nat.le_of_ble_eq_true rfl) ⟨Nat.zero_le _, Nat.zero_le _⟩ d_I_product_JJ_89 ?_
      refine lv_iload hx hb d_I_product_JJ_92 (lv_at hl 1 rfl) ?_
      refine lv_isub hx hb d_I_product_JJ_94 ?_
      refine lv_lload_n hx hb d_I_product_JJ_95 rfl (lv_at hl 4 rfl) ?_
      refine pu_i (As := [.long x2]) (rest := [.int ((f_I_power_J x0) - v4)]) ⟨hx, hb, hml, hown, hts⟩ (c_I_power_J l _ x2) pu_pre (gw_call (k := 1) hts tw_94 tw_95 tw_5 tw_96 (by decide +kernel) rfl rfl ⟨Nat.le_of_ble_eq_true rfl, Nat.le_of_ble_eq_true rfl⟩) rfl hl.1 rfl (Nat.le_of_ble_eq_true rfl) ⟨Nat.zero_le _, Nat.zero_le _⟩ d_I_product_JJ_96 ?_
      refine lv_iadd hx hb d_I_product_JJ_99 ?_
      refine lv_iload hx hb d_I_product_JJ_100 (lv_at hl 0 rfl) ?_
      refine lv_isub hx hb d_I_product_JJ_102 ?_
      refine lv_bipush (v := (44 : Int32)) hx hb d_I_product_JJ_103 (by decide) ?_
      refine lv_iadd hx hb d_I_product_JJ_105 ?_
      refine lv_topi (fun v6 e6 => ?_)
      refine lv_istore (lv' := [(8, .int v6), (7, .int v5), (6, .int v4), (4, .long v1), (0, .long x0), (2, .long x2)]) hx hb d_I_product_JJ_106 hl (by decide) rfl (fun ls hl => ?_)
      refine lv_lload hx hb d_I_product_JJ_108 (lv_at hl 3 rfl) ?_
      refine lv_iload hx hb d_I_product_JJ_110 (lv_at hl 0 rfl) ?_
      refine lv_lload_n hx hb d_I_product_JJ_112 rfl (lv_at hl 4 rfl) ?_
      refine pu_l (As := [.long x0]) (rest := [.int v6, .long v1]) ⟨hx, hb, hml, hown, hts⟩ (c_I_significand_J l _ x0) pu_pre (gw_call (k := 1) hts tw_100 tw_101 tw_5 tw_102 (by decide +kernel) rfl rfl ⟨Nat.le_of_ble_eq_true rfl, Nat.le_of_ble_eq_true rfl⟩) rfl hl.1 rfl (Nat.le_of_ble_eq_true rfl) ⟨Nat.zero_le _, Nat.zero_le _⟩ d_I_product_JJ_113 ?_
      refine lv_iload hx hb d_I_product_JJ_116 (lv_at hl 2 rfl) ?_
      refine lv_lshl (v := j_shl (f_I_significand_J x0) v4) hx hb d_I_product_JJ_118 rfl ?_
      refine lv_lload_n hx hb d_I_product_JJ_119 rfl (lv_at hl 5 rfl) ?_
      refine pu_l (As := [.long x2]) (rest := [.long (j_shl (f_I_significand_J x0) v4), .int v6, .long v1]) ⟨hx, hb, hml, hown, hts⟩ (c_I_significand_J l _ x2) pu_pre (gw_call (k := 1) hts tw_100 tw_101 tw_5 tw_102 (by decide +kernel) rfl rfl ⟨Nat.le_of_ble_eq_true rfl, Nat.le_of_ble_eq_true rfl⟩) rfl hl.1 rfl (Nat.le_of_ble_eq_true rfl) ⟨Nat.zero_le _, Nat.zero_le _⟩ d_I_product_JJ_120 ?_
      refine lv_iload hx hb d_I_product_JJ_123 (lv_at hl 1 rfl) ?_
      refine lv_lshl (v := j_shl (f_I_significand_J x2) v5) hx hb d_I_product_JJ_125 rfl ?_
      refine pu_l (As := [.long (j_shl (f_I_significand_J x0) v4), .long (j_shl (f_I_significand_J x2) v5)]) (rest := [.int v6, .long v1]) ⟨hx, hb, hml, hown, hts⟩ (c_I_highProduct_JJ l _ (j_shl (f_I_significand_J x0) v4) (j_shl (f_I_significand_J x2) v5)) pu_pre (gw_call (k := 2) hts tw_183 tw_184 tw_5 tw_185 (by decide +kernel) rfl rfl ⟨Nat.le_of_ble_eq_true rfl, Nat.le_of_ble_eq_true rfl⟩) rfl hl.1 rfl (Nat.le_of_ble_eq_true rfl) ⟨Nat.zero_le _, Nat.zero_le _⟩ d_I_product_JJ_126 ?_
      refine pu_l (As := [.long v1, .int v6, .long (f_I_highProduct_JJ (j_shl (f_I_significand_J x0) v4) (j_shl (f_I_significand_J x2) v5))]) (rest := []) ⟨hx, hb, hml, hown, hts⟩ (c_I_nearest_JIJ l _ v1 v6 (f_I_highProduct_JJ (j_shl (f_I_significand_J x0) v4) (j_shl (f_I_significand_J x2) v5))) pu_pre (gw_call (k := 3) hts tw_115 tw_116 tw_5 tw_117 (by decide +kernel) rfl rfl ⟨Nat.le_of_ble_eq_true rfl, Nat.le_of_ble_eq_true rfl⟩) rfl hl.1 rfl (Nat.le_of_ble_eq_true rfl) ⟨Nat.zero_le _, Nat.zero_le _⟩ d_I_product_JJ_129 ?_
      exact pu_lret hx hb hr hlocks d_I_product_JJ_132 (by have qe1 := e1.symm; have qe4 := e4.symm; have qe5 := e5.symm; have qe6 := e6.symm; subst qe1 qe4 qe5 qe6; exact Eq.symm (Eq.trans (if_neg c2) (if_neg c3)))
    · exact k_I_product_JJ_23 C0 x0 x2 v1 ls (lv_sub hl [1, 2, 0] rfl) (by have qe1 := e1.symm; subst qe1; exact (Eq.trans (if_neg c2) (if_pos c3)))
-- ===== MotionLab$Ieee.isInfinite(J)Z
abbrev y_I_isInfinite_J : MethodName := ⟨"MotionLab$Ieee", "isInfinite", "(J)Z"⟩
abbrev b_I_isInfinite_J : ByteArray := prog_2_method_3_code
theorem d_I_isInfinite_J_0 : decode b_I_isInfinite_J 0 = .ok (.lload_n 0, 1) := by decide +kernel
theorem d_I_isInfinite_J_1 : decode b_I_isInfinite_J 1 = .ok (.ldc2_w 9, 3) := by decide +kernel
theorem d_I_isInfinite_J_4 : decode b_I_isInfinite_J 4 = .ok (.land, 1) := by decide +kernel
theorem d_I_isInfinite_J_5 : decode b_I_isInfinite_J 5 = .ok (.ldc2_w 11, 3) := by decide +kernel
theorem d_I_isInfinite_J_8 : decode b_I_isInfinite_J 8 = .ok (.lcmp, 1) := by decide +kernel
theorem d_I_isInfinite_J_9 : decode b_I_isInfinite_J 9 = .ok (.ifCond .ne 7, 3) := by decide +kernel
theorem d_I_isInfinite_J_12 : decode b_I_isInfinite_J 12 = .ok (.iconst 1, 1) := by decide +kernel
theorem d_I_isInfinite_J_13 : decode b_I_isInfinite_J 13 = .ok (.goto 4, 3) := by decide +kernel
theorem d_I_isInfinite_J_16 : decode b_I_isInfinite_J 16 = .ok (.iconst 0, 1) := by decide +kernel
theorem d_I_isInfinite_J_17 : decode b_I_isInfinite_J 17 = .ok (.ireturn, 1) := by decide +kernel
def f_I_isInfinite_J (x0 : Int64) : Int32 :=
  if (lg_cmp (x0 &&& (9223372036854775807 : Int64)) (9218868437227405312 : Int64)) = 0 then
    (1 : Int32)
  else
    (0 : Int32)
set_option maxHeartbeats 4000000 in
set_option maxRecDepth 100000 in
theorem c_I_isInfinite_J (l : Launch) (h : Heap) (x0 : Int64) : Met l y_I_isInfinite_J (gw y_I_isInfinite_J b_I_isInfinite_J 2 (some .boolean)) { frames := 0, cells := 0, slots := 0, locals := 0 } (pu_Pc [.long x0] h) (pu_Mi (f_I_isInfinite_J x0) h) 0 0 (fun _ => False) := by
  refine Met.ofW (cc := b_I_isInfinite_J) (maxL := 2) (ret := (some .boolean)) (by decide) rfl ?_
  intro p e s m args below meth c s₁ B hml hv
  obtain ⟨rfl, hh⟩ := hv
  subst hh
  have hx := B.exec
  have hb := B.bytes
  have hr := B.returns
  have hts := atoms_spec (ws := (gw y_I_isInfinite_J b_I_isInfinite_J 2 (some .boolean))) B.pre
  have hown : s.vm.findClass "MotionLab$Ieee" = some m.cls := findClass_of_methodNamed B.named
  have hlocks := B.notSynchronized
  have C0 : pu_C p s m _ meth c b_I_isInfinite_J 2 "MotionLab$Ieee" (some .boolean) (gw y_I_isInfinite_J b_I_isInfinite_J 2 (some .boolean)) := ⟨hx, hb, hml, hown, hts, hr, hlocks⟩
  have hl := lv_entry ([.long x0]) (n := 2) (Nat.le_of_ble_eq_true rfl)
  rw [lg_entry_eq]
  generalize (lg_sl ([.long x0]) ++ List.replicate (2 - (lg_sl ([.long x0])).length) Slot.unset).toArray = ls at hl ⊢
  have hl : lv_has ls 2 [(0, .long x0)] := hl
  refine lv_lload_n hx hb d_I_isInfinite_J_0 rfl (lv_at hl 0 rfl) ?_
  refine lv_ldc2 (v := (9223372036854775807 : Int64)) hx hb hown (hts _ (gm tw_84)) d_I_isInfinite_J_1 ?_
  refine lv_land hx hb d_I_isInfinite_J_4 ?_
  refine lv_ldc2 (v := (9218868437227405312 : Int64)) hx hb hown (hts _ (gm tw_85)) d_I_isInfinite_J_5 ?_
  refine W.lcmp hx hb d_I_isInfinite_J_8 ?_
  refine lv_if_ne (tgt := 16) hx hb d_I_isInfinite_J_9 (by decide) (fun c1 => ?_) (fun c1 => ?_)
  · refine lv_iconst (v := 0) hx hb d_I_isInfinite_J_16 (by decide) ?_
    exact pu_zret hx hb hr rfl hlocks d_I_isInfinite_J_17 (by exact Eq.symm (if_neg c1))
  · refine lv_iconst (v := 1) hx hb d_I_isInfinite_J_12 (by decide) ?_
    refine lv_goto (tgt := 17) hx hb d_I_isInfinite_J_13 (by decide) ?_
    exact pu_zret hx hb hr rfl hlocks d_I_isInfinite_J_17 (by exact Eq.symm (if_pos c1))
-- ===== MotionLab$Ieee.unendingSum(JJ)J
abbrev y_I_unendingSum_JJ : MethodName := ⟨"MotionLab$Ieee", "unendingSum", "(JJ)J"⟩
abbrev b_I_unendingSum_JJ : ByteArray := prog_2_method_13_code
theorem d_I_unendingSum_JJ_0 : decode b_I_unendingSum_JJ 0 = .ok (.lload_n 0, 1) := by decide +kernel
theorem d_I_unendingSum_JJ_1 : decode b_I_unendingSum_JJ 1 = .ok (.invokestatic 13, 3) := by decide +kernel
theorem d_I_unendingSum_JJ_4 : decode b_I_unendingSum_JJ 4 = .ok (.ifCond .ne 30, 3) := by decide +kernel
theorem d_I_unendingSum_JJ_7 : decode b_I_unendingSum_JJ 7 = .ok (.lload_n 2, 1) := by decide +kernel
theorem d_I_unendingSum_JJ_8 : decode b_I_unendingSum_JJ 8 = .ok (.invokestatic 13, 3) := by decide +kernel
theorem d_I_unendingSum_JJ_11 : decode b_I_unendingSum_JJ 11 = .ok (.ifCond .ne 23, 3) := by decide +kernel
theorem d_I_unendingSum_JJ_14 : decode b_I_unendingSum_JJ 14 = .ok (.lload_n 0, 1) := by decide +kernel
theorem d_I_unendingSum_JJ_15 : decode b_I_unendingSum_JJ 15 = .ok (.invokestatic 56, 3) := by decide +kernel
theorem d_I_unendingSum_JJ_18 : decode b_I_unendingSum_JJ 18 = .ok (.ifCond .eq 20, 3) := by decide +kernel
theorem d_I_unendingSum_JJ_21 : decode b_I_unendingSum_JJ 21 = .ok (.lload_n 2, 1) := by decide +kernel
theorem d_I_unendingSum_JJ_22 : decode b_I_unendingSum_JJ 22 = .ok (.invokestatic 56, 3) := by decide +kernel
theorem d_I_unendingSum_JJ_25 : decode b_I_unendingSum_JJ 25 = .ok (.ifCond .eq 13, 3) := by decide +kernel
theorem d_I_unendingSum_JJ_28 : decode b_I_unendingSum_JJ 28 = .ok (.lload_n 0, 1) := by decide +kernel
theorem d_I_unendingSum_JJ_29 : decode b_I_unendingSum_JJ 29 = .ok (.lload_n 2, 1) := by decide +kernel
theorem d_I_unendingSum_JJ_30 : decode b_I_unendingSum_JJ 30 = .ok (.lcmp, 1) := by decide +kernel
theorem d_I_unendingSum_JJ_31 : decode b_I_unendingSum_JJ 31 = .ok (.ifCond .eq 7, 3) := by decide +kernel
theorem d_I_unendingSum_JJ_34 : decode b_I_unendingSum_JJ 34 = .ok (.ldc2_w 17, 3) := by decide +kernel
theorem d_I_unendingSum_JJ_37 : decode b_I_unendingSum_JJ 37 = .ok (.lreturn, 1) := by decide +kernel
theorem d_I_unendingSum_JJ_38 : decode b_I_unendingSum_JJ 38 = .ok (.lload_n 0, 1) := by decide +kernel
theorem d_I_unendingSum_JJ_39 : decode b_I_unendingSum_JJ 39 = .ok (.invokestatic 56, 3) := by decide +kernel
theorem d_I_unendingSum_JJ_42 : decode b_I_unendingSum_JJ 42 = .ok (.ifCond .eq 7, 3) := by decide +kernel
theorem d_I_unendingSum_JJ_45 : decode b_I_unendingSum_JJ 45 = .ok (.lload_n 0, 1) := by decide +kernel
theorem d_I_unendingSum_JJ_46 : decode b_I_unendingSum_JJ 46 = .ok (.goto 4, 3) := by decide +kernel
theorem d_I_unendingSum_JJ_49 : decode b_I_unendingSum_JJ 49 = .ok (.lload_n 2, 1) := by decide +kernel
theorem d_I_unendingSum_JJ_50 : decode b_I_unendingSum_JJ 50 = .ok (.lreturn, 1) := by decide +kernel
def f_I_unendingSum_JJ (x0 : Int64) (x2 : Int64) : Int64 :=
  if (f_I_isNoNumber_J x0) = 0 then
    if (f_I_isNoNumber_J x2) = 0 then
      if (f_I_isInfinite_J x0) = 0 then
        if (f_I_isInfinite_J x0) = 0 then
          x2
        else
          x0
      else
        if (f_I_isInfinite_J x2) = 0 then
          if (f_I_isInfinite_J x0) = 0 then
            x2
          else
            x0
        else
          if (lg_cmp x0 x2) = 0 then
            if (f_I_isInfinite_J x0) = 0 then
              x2
            else
              x0
          else
            (9221120237041090560 : Int64)
    else
      (9221120237041090560 : Int64)
  else
    (9221120237041090560 : Int64)
set_option maxHeartbeats 4000000 in
set_option maxRecDepth 100000 in
theorem c_I_unendingSum_JJ (l : Launch) (h : Heap) (x0 : Int64) (x2 : Int64) : Met l y_I_unendingSum_JJ (gw y_I_unendingSum_JJ b_I_unendingSum_JJ 4 (some .long)) { frames := 1, cells := 0, slots := 0, locals := 21 } (pu_Pc [.long x0, .long x2] h) (pu_Ml (f_I_unendingSum_JJ x0 x2) h) 0 0 (fun _ => False) := by
  refine Met.ofW (cc := b_I_unendingSum_JJ) (maxL := 4) (ret := (some .long)) (by decide) rfl ?_
  intro p e s m args below meth c s₁ B hml hv
  obtain ⟨rfl, hh⟩ := hv
  subst hh
  have hx := B.exec
  have hb := B.bytes
  have hr := B.returns
  have hts := atoms_spec (ws := (gw y_I_unendingSum_JJ b_I_unendingSum_JJ 4 (some .long))) B.pre
  have hown : s.vm.findClass "MotionLab$Ieee" = some m.cls := findClass_of_methodNamed B.named
  have hlocks := B.notSynchronized
  have C0 : pu_C p s m _ meth c b_I_unendingSum_JJ 4 "MotionLab$Ieee" (some .long) (gw y_I_unendingSum_JJ b_I_unendingSum_JJ 4 (some .long)) := ⟨hx, hb, hml, hown, hts, hr, hlocks⟩
  have hl := lv_entry ([.long x0, .long x2]) (n := 4) (Nat.le_of_ble_eq_true rfl)
  rw [lg_entry_eq]
  generalize (lg_sl ([.long x0, .long x2]) ++ List.replicate (4 - (lg_sl ([.long x0, .long x2])).length) Slot.unset).toArray = ls at hl ⊢
  have hl : lv_has ls 4 [(0, .long x0), (2, .long x2)] := hl
  refine lv_lload_n hx hb d_I_unendingSum_JJ_0 rfl (lv_at hl 0 rfl) ?_
  refine pu_i (As := [.long x0]) (rest := []) ⟨hx, hb, hml, hown, hts⟩ (c_I_isNoNumber_J l _ x0) pu_pre (gw_call (k := 1) hts tw_89 tw_90 tw_5 tw_91 (by decide +kernel) rfl rfl ⟨Nat.le_of_ble_eq_true rfl, Nat.le_of_ble_eq_true rfl⟩) rfl hl.1 rfl (Nat.le_of_ble_eq_true rfl) ⟨Nat.zero_le _, Nat.zero_le _⟩ d_I_unendingSum_JJ_1 ?_
  refine lv_if_ne (tgt := 34) hx hb d_I_unendingSum_JJ_4 (by decide) (fun c1 => ?_) (fun c1 => ?_)
  · refine lv_ldc2 (v := (9221120237041090560 : Int64)) hx hb hown (hts _ (gm tw_92)) d_I_unendingSum_JJ_34 ?_
    exact pu_lret hx hb hr hlocks d_I_unendingSum_JJ_37 (by exact Eq.symm (if_neg c1))
  · refine lv_lload_n hx hb d_I_unendingSum_JJ_7 rfl (lv_at hl 1 rfl) ?_
    refine pu_i (As := [.long x2]) (rest := []) ⟨hx, hb, hml, hown, hts⟩ (c_I_isNoNumber_J l _ x2) pu_pre (gw_call (k := 1) hts tw_89 tw_90 tw_5 tw_91 (by decide +kernel) rfl rfl ⟨Nat.le_of_ble_eq_true rfl, Nat.le_of_ble_eq_true rfl⟩) rfl hl.1 rfl (Nat.le_of_ble_eq_true rfl) ⟨Nat.zero_le _, Nat.zero_le _⟩ d_I_unendingSum_JJ_8 ?_
    refine lv_if_ne (tgt := 34) hx hb d_I_unendingSum_JJ_11 (by decide) (fun c2 => ?_) (fun c2 => ?_)
    · refine lv_ldc2 (v := (9221120237041090560 : Int64)) hx hb hown (hts _ (gm tw_92)) d_I_unendingSum_JJ_34 ?_
      exact pu_lret hx hb hr hlocks d_I_unendingSum_JJ_37 (by exact Eq.symm (Eq.trans (if_pos c1) (if_neg c2)))
    · refine lv_lload_n hx hb d_I_unendingSum_JJ_14 rfl (lv_at hl 0 rfl) ?_
      refine pu_i (As := [.long x0]) (rest := []) ⟨hx, hb, hml, hown, hts⟩ (c_I_isInfinite_J l _ x0) pu_pre (gw_call (k := 1) hts tw_197 tw_198 tw_5 tw_199 (by decide +kernel) rfl rfl ⟨Nat.le_of_ble_eq_true rfl, Nat.le_of_ble_eq_true rfl⟩) rfl hl.1 rfl (Nat.le_of_ble_eq_true rfl) ⟨Nat.zero_le _, Nat.zero_le _⟩ d_I_unendingSum_JJ_15 ?_
      refine lv_if_eq (tgt := 38) hx hb d_I_unendingSum_JJ_18 (by decide) (fun c3 => ?_) (fun c3 => ?_)
      · refine lv_lload_n hx hb d_I_unendingSum_JJ_38 rfl (lv_at hl 0 rfl) ?_
        refine pu_i (As := [.long x0]) (rest := []) ⟨hx, hb, hml, hown, hts⟩ (c_I_isInfinite_J l _ x0) pu_pre (gw_call (k := 1) hts tw_197 tw_198 tw_5 tw_199 (by decide +kernel) rfl rfl ⟨Nat.le_of_ble_eq_true rfl, Nat.le_of_ble_eq_true rfl⟩) rfl hl.1 rfl (Nat.le_of_ble_eq_true rfl) ⟨Nat.zero_le _, Nat.zero_le _⟩ d_I_unendingSum_JJ_39 ?_
        refine lv_if_eq (tgt := 49) hx hb d_I_unendingSum_JJ_42 (by decide) (fun c4 => ?_) (fun c4 => ?_)
        · refine lv_lload_n hx hb d_I_unendingSum_JJ_49 rfl (lv_at hl 1 rfl) ?_
          exact pu_lret hx hb hr hlocks d_I_unendingSum_JJ_50 (by exact Eq.symm (Eq.trans (if_pos c1) (Eq.trans (if_pos c2) (Eq.trans (if_pos c3) (if_pos c4)))))
        · refine lv_lload_n hx hb d_I_unendingSum_JJ_45 rfl (lv_at hl 0 rfl) ?_
          refine lv_goto (tgt := 50) hx hb d_I_unendingSum_JJ_46 (by decide) ?_
          exact pu_lret hx hb hr hlocks d_I_unendingSum_JJ_50 (by exact Eq.symm (Eq.trans (if_pos c1) (Eq.trans (if_pos c2) (Eq.trans (if_pos c3) (if_neg c4)))))
      · refine lv_lload_n hx hb d_I_unendingSum_JJ_21 rfl (lv_at hl 1 rfl) ?_
        refine pu_i (As := [.long x2]) (rest := []) ⟨hx, hb, hml, hown, hts⟩ (c_I_isInfinite_J l _ x2) pu_pre (gw_call (k := 1) hts tw_197 tw_198 tw_5 tw_199 (by decide +kernel) rfl rfl ⟨Nat.le_of_ble_eq_true rfl, Nat.le_of_ble_eq_true rfl⟩) rfl hl.1 rfl (Nat.le_of_ble_eq_true rfl) ⟨Nat.zero_le _, Nat.zero_le _⟩ d_I_unendingSum_JJ_22 ?_
        refine lv_if_eq (tgt := 38) hx hb d_I_unendingSum_JJ_25 (by decide) (fun c5 => ?_) (fun c5 => ?_)
        · refine lv_lload_n hx hb d_I_unendingSum_JJ_38 rfl (lv_at hl 0 rfl) ?_
          refine pu_i (As := [.long x0]) (rest := []) ⟨hx, hb, hml, hown, hts⟩ (c_I_isInfinite_J l _ x0) pu_pre (gw_call (k := 1) hts tw_197 tw_198 tw_5 tw_199 (by decide +kernel) rfl rfl ⟨Nat.le_of_ble_eq_true rfl, Nat.le_of_ble_eq_true rfl⟩) rfl hl.1 rfl (Nat.le_of_ble_eq_true rfl) ⟨Nat.zero_le _, Nat.zero_le _⟩ d_I_unendingSum_JJ_39 ?_
          refine lv_if_eq (tgt := 49) hx hb d_I_unendingSum_JJ_42 (by decide) (fun c6 => ?_) (fun c6 => ?_)
          · refine lv_lload_n hx hb d_I_unendingSum_JJ_49 rfl (lv_at hl 1 rfl) ?_
            exact pu_lret hx hb hr hlocks d_I_unendingSum_JJ_50 (by exact Eq.symm (Eq.trans (if_pos c1) (Eq.trans (if_pos c2) (Eq.trans (if_neg c3) (Eq.trans (if_pos c5) (if_pos c6))))))
          · refine lv_lload_n hx hb d_I_unendingSum_JJ_45 rfl (lv_at hl 0 rfl) ?_
            refine lv_goto (tgt := 50) hx hb d_I_unendingSum_JJ_46 (by decide) ?_
            exact pu_lret hx hb hr hlocks d_I_unendingSum_JJ_50 (by exact Eq.symm (Eq.trans (if_pos c1) (Eq.trans (if_pos c2) (Eq.trans (if_neg c3) (Eq.trans (if_pos c5) (if_neg c6))))))
        · refine lv_lload_n hx hb d_I_unendingSum_JJ_28 rfl (lv_at hl 0 rfl) ?_
          refine lv_lload_n hx hb d_I_unendingSum_JJ_29 rfl (lv_at hl 1 rfl) ?_
          refine W.lcmp hx hb d_I_unendingSum_JJ_30 ?_
          refine lv_if_eq (tgt := 38) hx hb d_I_unendingSum_JJ_31 (by decide) (fun c7 => ?_) (fun c7 => ?_)
          · refine lv_lload_n hx hb d_I_unendingSum_JJ_38 rfl (lv_at hl 0 rfl) ?_
            refine pu_i (As := [.long x0]) (rest := []) ⟨hx, hb, hml, hown, hts⟩ (c_I_isInfinite_J l _ x0) pu_pre (gw_call (k := 1) hts tw_197 tw_198 tw_5 tw_199 (by decide +kernel) rfl rfl ⟨Nat.le_of_ble_eq_true rfl, Nat.le_of_ble_eq_true rfl⟩) rfl hl.1 rfl (Nat.le_of_ble_eq_true rfl) ⟨Nat.zero_le _, Nat.zero_le _⟩ d_I_unendingSum_JJ_39 ?_
            refine lv_if_eq (tgt := 49) hx hb d_I_unendingSum_JJ_42 (by decide) (fun c8 => ?_) (fun c8 => ?_)
            · refine lv_lload_n hx hb d_I_unendingSum_JJ_49 rfl (lv_at hl 1 rfl) ?_
              exact pu_lret hx hb hr hlocks d_I_unendingSum_JJ_50 (by exact Eq.symm (Eq.trans (if_pos c1) (Eq.trans (if_pos c2) (Eq.trans (if_neg c3) (Eq.trans (if_neg c5) (Eq.trans (if_pos c7) (if_pos c8)))))))
            · refine lv_lload_n hx hb d_I_unendingSum_JJ_45 rfl (lv_at hl 0 rfl) ?_
              refine lv_goto (tgt := 50) hx hb d_I_unendingSum_JJ_46 (by decide) ?_
              exact pu_lret hx hb hr hlocks d_I_unendingSum_JJ_50 (by exact Eq.symm (Eq.trans (if_pos c1) (Eq.trans (if_pos c2) (Eq.trans (if_neg c3) (Eq.trans (if_neg c5) (Eq.trans (if_pos c7) (if_neg c8)))))))
          · refine lv_ldc2 (v := (9221120237041090560 : Int64)) hx hb hown (hts _ (gm tw_92)) d_I_unendingSum_JJ_34 ?_
            exact pu_lret hx hb hr hlocks d_I_unendingSum_JJ_37 (by exact Eq.symm (Eq.trans (if_pos c1) (Eq.trans (if_pos c2) (Eq.trans (if_neg c3) (Eq.trans (if_neg c5) (if_neg c7))))))
-- ===== MotionLab$Ieee.lowered(JI)J
abbrev y_I_lowered_JI : MethodName := ⟨"MotionLab$Ieee", "lowered", "(JI)J"⟩
abbrev b_I_lowered_JI : ByteArray := prog_2_method_14_code
theorem d_I_lowered_JI_0 : decode b_I_lowered_JI 0 = .ok (.iload_n 2, 1) := by decide +kernel
theorem d_I_lowered_JI_1 : decode b_I_lowered_JI 1 = .ok (.bipush 62, 2) := by decide +kernel
theorem d_I_lowered_JI_3 : decode b_I_lowered_JI 3 = .ok (.if_icmp .le 5, 3) := by decide +kernel
theorem d_I_lowered_JI_6 : decode b_I_lowered_JI 6 = .ok (.lconst 0, 1) := by decide +kernel
theorem d_I_lowered_JI_7 : decode b_I_lowered_JI 7 = .ok (.lreturn, 1) := by decide +kernel
theorem d_I_lowered_JI_8 : decode b_I_lowered_JI 8 = .ok (.lload_n 0, 1) := by decide +kernel
theorem d_I_lowered_JI_9 : decode b_I_lowered_JI 9 = .ok (.lconst 1, 1) := by decide +kernel
theorem d_I_lowered_JI_10 : decode b_I_lowered_JI 10 = .ok (.iload_n 2, 1) := by decide +kernel
theorem d_I_lowered_JI_11 : decode b_I_lowered_JI 11 = .ok (.lshl, 1) := by decide +kernel
theorem d_I_lowered_JI_12 : decode b_I_lowered_JI 12 = .ok (.lconst 1, 1) := by decide +kernel
theorem d_I_lowered_JI_13 : decode b_I_lowered_JI 13 = .ok (.lsub, 1) := by decide +kernel
theorem d_I_lowered_JI_14 : decode b_I_lowered_JI 14 = .ok (.land, 1) := by decide +kernel
theorem d_I_lowered_JI_15 : decode b_I_lowered_JI 15 = .ok (.lstore_n 3, 1) := by decide +kernel
theorem d_I_lowered_JI_16 : decode b_I_lowered_JI 16 = .ok (.lload_n 3, 1) := by decide +kernel
theorem d_I_lowered_JI_17 : decode b_I_lowered_JI 17 = .ok (.lconst 0, 1) := by decide +kernel
theorem d_I_lowered_JI_18 : decode b_I_lowered_JI 18 = .ok (.lcmp, 1) := by decide +kernel
theorem d_I_lowered_JI_19 : decode b_I_lowered_JI 19 = .ok (.ifCond .ne 9, 3) := by decide +kernel
theorem d_I_lowered_JI_22 : decode b_I_lowered_JI 22 = .ok (.lload_n 0, 1) := by decide +kernel
theorem d_I_lowered_JI_23 : decode b_I_lowered_JI 23 = .ok (.iload_n 2, 1) := by decide +kernel
theorem d_I_lowered_JI_24 : decode b_I_lowered_JI 24 = .ok (.lushr, 1) := by decide +kernel
theorem d_I_lowered_JI_25 : decode b_I_lowered_JI 25 = .ok (.goto 8, 3) := by decide +kernel
theorem d_I_lowered_JI_28 : decode b_I_lowered_JI 28 = .ok (.lload_n 0, 1) := by decide +kernel
theorem d_I_lowered_JI_29 : decode b_I_lowered_JI 29 = .ok (.iload_n 2, 1) := by decide +kernel
theorem d_I_lowered_JI_30 : decode b_I_lowered_JI 30 = .ok (.lushr, 1) := by decide +kernel
theorem d_I_lowered_JI_31 : decode b_I_lowered_JI 31 = .ok (.lconst 1, 1) := by decide +kernel
theorem d_I_lowered_JI_32 : decode b_I_lowered_JI 32 = .ok (.lor, 1) := by decide +kernel
theorem d_I_lowered_JI_33 : decode b_I_lowered_JI 33 = .ok (.lreturn, 1) := by decide +kernel
def f_I_lowered_JI (x0 : Int64) (x2 : Int32) : Int64 :=
  if x2 ≤ (62 : Int32) then
    let v2 : Int64 := x0 &&& ((j_shl (1 : Int64) x2) - (1 : Int64))
    if (lg_cmp v2 (0 : Int64)) = 0 then
      j_ushr x0 x2
    else
      (j_ushr x0 x2) ||| (1 : Int64)
  else
    (0 : Int64)
set_option maxHeartbeats 4000000 in
set_option maxRecDepth 100000 in
theorem c_I_lowered_JI (l : Launch) (h : Heap) (x0 : Int64) (x2 : Int32) : Met l y_I_lowered_JI (gw y_I_lowered_JI b_I_lowered_JI 5 (some .long)) { frames := 0, cells := 0, slots := 0, locals := 0 } (pu_Pc [.long x0, .int x2] h) (pu_Ml (f_I_lowered_JI x0 x2) h) 0 0 (fun _ => False) := by
  refine Met.ofW (cc := b_I_lowered_JI) (maxL := 5) (ret := (some .long)) (by decide) rfl ?_
  intro p e s m args below meth c s₁ B hml hv
  obtain ⟨rfl, hh⟩ := hv
  subst hh
  have hx := B.exec
  have hb := B.bytes
  have hr := B.returns
  have hts := atoms_spec (ws := (gw y_I_lowered_JI b_I_lowered_JI 5 (some .long))) B.pre
  have hown : s.vm.findClass "MotionLab$Ieee" = some m.cls := findClass_of_methodNamed B.named
  have hlocks := B.notSynchronized
  have C0 : pu_C p s m _ meth c b_I_lowered_JI 5 "MotionLab$Ieee" (some .long) (gw y_I_lowered_JI b_I_lowered_JI 5 (some .long)) := ⟨hx, hb, hml, hown, hts, hr, hlocks⟩
  have hl := lv_entry ([.long x0, .int x2]) (n := 5) (Nat.le_of_ble_eq_true rfl)
  rw [lg_entry_eq]
  generalize (lg_sl ([.long x0, .int x2]) ++ List.replicate (5 - (lg_sl ([.long x0, .int x2])).length) Slot.unset).toArray = ls at hl ⊢
  have hl : lv_has ls 5 [(0, .long x0), (2, .int x2)] := hl
  refine lv_iload_n hx hb d_I_lowered_JI_0 rfl (lv_at hl 1 rfl) ?_
  refine lv_bipush (v := (62 : Int32)) hx hb d_I_lowered_JI_1 (by decide) ?_
  refine lv_icmp_le (tgt := 8) hx hb d_I_lowered_JI_3 (by decide) (fun c1 => ?_) (fun c1 => ?_)
  · refine lv_lload_n hx hb d_I_lowered_JI_8 rfl (lv_at hl 0 rfl) ?_
    refine lv_lconst (v := (1 : Int64)) hx hb d_I_lowered_JI_9 (by decide) ?_
    refine lv_iload_n hx hb d_I_lowered_JI_10 rfl (lv_at hl 1 rfl) ?_
    refine lv_lshl (v := j_shl (1 : Int64) x2) hx hb d_I_lowered_JI_11 rfl ?_
    refine lv_lconst (v := (1 : Int64)) hx hb d_I_lowered_JI_12 (by decide) ?_
    refine lv_lsub hx hb d_I_lowered_JI_13 ?_
    refine lv_land hx hb d_I_lowered_JI_14 ?_
    refine lv_topl (fun v2 e2 => ?_)
    refine lv_lstore_n (lv' := [(3, .long v2), (0, .long x0), (2, .int x2)]) hx hb d_I_lowered_JI_15 rfl hl (by decide) rfl (fun ls hl => ?_)
    refine lv_lload_n hx hb d_I_lowered_JI_16 rfl (lv_at hl 0 rfl) ?_
    refine lv_lconst (v := (0 : Int64)) hx hb d_I_lowered_JI_17 (by decide) ?_
    refine W.lcmp hx hb d_I_lowered_JI_18 ?_
    refine lv_if_ne (tgt := 28) hx hb d_I_lowered_JI_19 (by decide) (fun c3 => ?_) (fun c3 => ?_)
    · refine lv_lload_n hx hb d_I_lowered_JI_28 rfl (lv_at hl 1 rfl) ?_
      refine lv_iload_n hx hb d_I_lowered_JI_29 rfl (lv_at hl 2 rfl) ?_
      refine lv_lushr (v := j_ushr x0 x2) hx hb d_I_lowered_JI_30 rfl ?_
      refine lv_lconst (v := (1 : Int64)) hx hb d_I_lowered_JI_31 (by decide) ?_
      refine lv_lor hx hb d_I_lowered_JI_32 ?_
      exact pu_lret hx hb hr hlocks d_I_lowered_JI_33 (by have qe2 := e2.symm; subst qe2; exact Eq.symm (Eq.trans (if_pos c1) (if_neg c3)))
    · refine lv_lload_n hx hb d_I_lowered_JI_22 rfl (lv_at hl 1 rfl) ?_
      refine lv_iload_n hx hb d_I_lowered_JI_23 rfl (lv_at hl 2 rfl) ?_
      refine lv_lushr (v := j_ushr x0 x2) hx hb d_I_lowered_JI_24 rfl ?_
      refine lv_goto (tgt := 33) hx hb d_I_lowered_JI_25 (by decide) ?_
      exact pu_lret hx hb hr hlocks d_I_lowered_JI_33 (by have qe2 := e2.symm; subst qe2; exact Eq.symm (Eq.trans (if_pos c1) (if_pos c3)))
  · refine lv_lconst (v := (0 : Int64)) hx hb d_I_lowered_JI_6 (by decide) ?_
    exact pu_lret hx hb hr hlocks d_I_lowered_JI_7 (by exact Eq.symm (if_neg c1))
end
section
-- ===== MotionLab$Ieee.sum(JJ)J
abbrev y_I_sum_JJ : MethodName := ⟨"MotionLab$Ieee", "sum", "(JJ)J"⟩
abbrev b_I_sum_JJ : ByteArray := prog_2_method_12_code
theorem d_I_sum_JJ_0 : decode b_I_sum_JJ 0 = .ok (.lload_n 0, 1) := by decide +kernel
theorem d_I_sum_JJ_1 : decode b_I_sum_JJ 1 = .ok (.invokestatic 35, 3) := by decide +kernel
theorem d_I_sum_JJ_4 : decode b_I_sum_JJ 4 = .ok (.ifCond .eq 10, 3) := by decide +kernel
theorem d_I_sum_JJ_7 : decode b_I_sum_JJ 7 = .ok (.lload_n 2, 1) := by decide +kernel
theorem d_I_sum_JJ_8 : decode b_I_sum_JJ 8 = .ok (.invokestatic 35, 3) := by decide +kernel
theorem d_I_sum_JJ_11 : decode b_I_sum_JJ 11 = .ok (.ifCond .ne 9, 3) := by decide +kernel
theorem d_I_sum_JJ_14 : decode b_I_sum_JJ 14 = .ok (.lload_n 0, 1) := by decide +kernel
theorem d_I_sum_JJ_15 : decode b_I_sum_JJ 15 = .ok (.lload_n 2, 1) := by decide +kernel
theorem d_I_sum_JJ_16 : decode b_I_sum_JJ 16 = .ok (.invokestatic 38, 3) := by decide +kernel
theorem d_I_sum_JJ_19 : decode b_I_sum_JJ 19 = .ok (.lreturn, 1) := by decide +kernel
theorem d_I_sum_JJ_20 : decode b_I_sum_JJ 20 = .ok (.lload_n 0, 1) := by decide +kernel
theorem d_I_sum_JJ_21 : decode b_I_sum_JJ 21 = .ok (.ldc2_w 9, 3) := by decide +kernel
theorem d_I_sum_JJ_24 : decode b_I_sum_JJ 24 = .ok (.land, 1) := by decide +kernel
theorem d_I_sum_JJ_25 : decode b_I_sum_JJ 25 = .ok (.lload_n 2, 1) := by decide +kernel
theorem d_I_sum_JJ_26 : decode b_I_sum_JJ 26 = .ok (.ldc2_w 9, 3) := by decide +kernel
theorem d_I_sum_JJ_29 : decode b_I_sum_JJ 29 = .ok (.land, 1) := by decide +kernel
theorem d_I_sum_JJ_30 : decode b_I_sum_JJ 30 = .ok (.lcmp, 1) := by decide +kernel
theorem d_I_sum_JJ_31 : decode b_I_sum_JJ 31 = .ok (.ifCond .ge 7, 3) := by decide +kernel
theorem d_I_sum_JJ_34 : decode b_I_sum_JJ 34 = .ok (.iconst 1, 1) := by decide +kernel
theorem d_I_sum_JJ_35 : decode b_I_sum_JJ 35 = .ok (.goto 4, 3) := by decide +kernel
theorem d_I_sum_JJ_38 : decode b_I_sum_JJ 38 = .ok (.iconst 0, 1) := by decide +kernel
theorem d_I_sum_JJ_39 : decode b_I_sum_JJ 39 = .ok (.istore 4, 2) := by decide +kernel
theorem d_I_sum_JJ_41 : decode b_I_sum_JJ 41 = .ok (.iload 4, 2) := by decide +kernel
theorem d_I_sum_JJ_43 : decode b_I_sum_JJ 43 = .ok (.ifCond .eq 7, 3) := by decide +kernel
theorem d_I_sum_JJ_46 : decode b_I_sum_JJ 46 = .ok (.lload_n 2, 1) := by decide +kernel
theorem d_I_sum_JJ_47 : decode b_I_sum_JJ 47 = .ok (.goto 4, 3) := by decide +kernel
theorem d_I_sum_JJ_50 : decode b_I_sum_JJ 50 = .ok (.lload_n 0, 1) := by decide +kernel
theorem d_I_sum_JJ_51 : decode b_I_sum_JJ 51 = .ok (.lstore 5, 2) := by decide +kernel
theorem d_I_sum_JJ_53 : decode b_I_sum_JJ 53 = .ok (.iload 4, 2) := by decide +kernel
theorem d_I_sum_JJ_55 : decode b_I_sum_JJ 55 = .ok (.ifCond .eq 7, 3) := by decide +kernel
theorem d_I_sum_JJ_58 : decode b_I_sum_JJ 58 = .ok (.lload_n 0, 1) := by decide +kernel
theorem d_I_sum_JJ_59 : decode b_I_sum_JJ 59 = .ok (.goto 4, 3) := by decide +kernel
theorem d_I_sum_JJ_62 : decode b_I_sum_JJ 62 = .ok (.lload_n 2, 1) := by decide +kernel
theorem d_I_sum_JJ_63 : decode b_I_sum_JJ 63 = .ok (.lstore 7, 2) := by decide +kernel
theorem d_I_sum_JJ_65 : decode b_I_sum_JJ 65 = .ok (.lload 5, 2) := by decide +kernel
theorem d_I_sum_JJ_67 : decode b_I_sum_JJ 67 = .ok (.invokestatic 41, 3) := by decide +kernel
theorem d_I_sum_JJ_70 : decode b_I_sum_JJ 70 = .ok (.istore 9, 2) := by decide +kernel
theorem d_I_sum_JJ_72 : decode b_I_sum_JJ 72 = .ok (.lload 5, 2) := by decide +kernel
theorem d_I_sum_JJ_74 : decode b_I_sum_JJ 74 = .ok (.invokestatic 45, 3) := by decide +kernel
theorem d_I_sum_JJ_77 : decode b_I_sum_JJ 77 = .ok (.bipush 9, 2) := by decide +kernel
theorem d_I_sum_JJ_79 : decode b_I_sum_JJ 79 = .ok (.lshl, 1) := by decide +kernel
theorem d_I_sum_JJ_80 : decode b_I_sum_JJ 80 = .ok (.lstore 10, 2) := by decide +kernel
theorem d_I_sum_JJ_82 : decode b_I_sum_JJ 82 = .ok (.lload 7, 2) := by decide +kernel
theorem d_I_sum_JJ_84 : decode b_I_sum_JJ 84 = .ok (.invokestatic 45, 3) := by decide +kernel
theorem d_I_sum_JJ_87 : decode b_I_sum_JJ 87 = .ok (.bipush 9, 2) := by decide +kernel
theorem d_I_sum_JJ_89 : decode b_I_sum_JJ 89 = .ok (.lshl, 1) := by decide +kernel
theorem d_I_sum_JJ_90 : decode b_I_sum_JJ 90 = .ok (.iload 9, 2) := by decide +kernel
theorem d_I_sum_JJ_92 : decode b_I_sum_JJ 92 = .ok (.lload 7, 2) := by decide +kernel
theorem d_I_sum_JJ_94 : decode b_I_sum_JJ 94 = .ok (.invokestatic 41, 3) := by decide +kernel
theorem d_I_sum_JJ_97 : decode b_I_sum_JJ 97 = .ok (.isub, 1) := by decide +kernel
theorem d_I_sum_JJ_98 : decode b_I_sum_JJ 98 = .ok (.invokestatic 48, 3) := by decide +kernel
theorem d_I_sum_JJ_101 : decode b_I_sum_JJ 101 = .ok (.lstore 12, 2) := by decide +kernel
theorem d_I_sum_JJ_103 : decode b_I_sum_JJ 103 = .ok (.lload_n 0, 1) := by decide +kernel
theorem d_I_sum_JJ_104 : decode b_I_sum_JJ 104 = .ok (.lload_n 2, 1) := by decide +kernel
theorem d_I_sum_JJ_105 : decode b_I_sum_JJ 105 = .ok (.lxor, 1) := by decide +kernel
theorem d_I_sum_JJ_106 : decode b_I_sum_JJ 106 = .ok (.lconst 0, 1) := by decide +kernel
theorem d_I_sum_JJ_107 : decode b_I_sum_JJ 107 = .ok (.lcmp, 1) := by decide +kernel
theorem d_I_sum_JJ_108 : decode b_I_sum_JJ 108 = .ok (.ifCond .ge 11, 3) := by decide +kernel
theorem d_I_sum_JJ_111 : decode b_I_sum_JJ 111 = .ok (.lload 10, 2) := by decide +kernel
theorem d_I_sum_JJ_113 : decode b_I_sum_JJ 113 = .ok (.lload 12, 2) := by decide +kernel
theorem d_I_sum_JJ_115 : decode b_I_sum_JJ 115 = .ok (.lsub, 1) := by decide +kernel
theorem d_I_sum_JJ_116 : decode b_I_sum_JJ 116 = .ok (.goto 8, 3) := by decide +kernel
theorem d_I_sum_JJ_119 : decode b_I_sum_JJ 119 = .ok (.lload 10, 2) := by decide +kernel
theorem d_I_sum_JJ_121 : decode b_I_sum_JJ 121 = .ok (.lload 12, 2) := by decide +kernel
theorem d_I_sum_JJ_123 : decode b_I_sum_JJ 123 = .ok (.ladd, 1) := by decide +kernel
theorem d_I_sum_JJ_124 : decode b_I_sum_JJ 124 = .ok (.lstore 14, 2) := by decide +kernel
theorem d_I_sum_JJ_126 : decode b_I_sum_JJ 126 = .ok (.lload 14, 2) := by decide +kernel
theorem d_I_sum_JJ_128 : decode b_I_sum_JJ 128 = .ok (.lconst 0, 1) := by decide +kernel
theorem d_I_sum_JJ_129 : decode b_I_sum_JJ 129 = .ok (.lcmp, 1) := by decide +kernel
theorem d_I_sum_JJ_130 : decode b_I_sum_JJ 130 = .ok (.ifCond .ne 11, 3) := by decide +kernel
theorem d_I_sum_JJ_133 : decode b_I_sum_JJ 133 = .ok (.lload_n 0, 1) := by decide +kernel
theorem d_I_sum_JJ_134 : decode b_I_sum_JJ 134 = .ok (.lload_n 2, 1) := by decide +kernel
theorem d_I_sum_JJ_135 : decode b_I_sum_JJ 135 = .ok (.land, 1) := by decide +kernel
theorem d_I_sum_JJ_136 : decode b_I_sum_JJ 136 = .ok (.ldc2_w 19, 3) := by decide +kernel
theorem d_I_sum_JJ_139 : decode b_I_sum_JJ 139 = .ok (.land, 1) := by decide +kernel
theorem d_I_sum_JJ_140 : decode b_I_sum_JJ 140 = .ok (.lreturn, 1) := by decide +kernel
theorem d_I_sum_JJ_141 : decode b_I_sum_JJ 141 = .ok (.lload 5, 2) := by decide +kernel
theorem d_I_sum_JJ_143 : decode b_I_sum_JJ 143 = .ok (.ldc2_w 19, 3) := by decide +kernel
theorem d_I_sum_JJ_146 : decode b_I_sum_JJ 146 = .ok (.land, 1) := by decide +kernel
theorem d_I_sum_JJ_147 : decode b_I_sum_JJ 147 = .ok (.iload 9, 2) := by decide +kernel
theorem d_I_sum_JJ_149 : decode b_I_sum_JJ 149 = .ok (.bipush 9, 2) := by decide +kernel
theorem d_I_sum_JJ_151 : decode b_I_sum_JJ 151 = .ok (.isub, 1) := by decide +kernel
theorem d_I_sum_JJ_152 : decode b_I_sum_JJ 152 = .ok (.lload 14, 2) := by decide +kernel
theorem d_I_sum_JJ_154 : decode b_I_sum_JJ 154 = .ok (.invokestatic 52, 3) := by decide +kernel
theorem d_I_sum_JJ_157 : decode b_I_sum_JJ 157 = .ok (.lreturn, 1) := by decide +kernel
def f_I_sum_JJ_124 (x0 : Int64) (x2 : Int64) (x5 : Int64) (x9 : Int32) (s0 : Int64) : Int64 :=
  if (lg_cmp s0 (0 : Int64)) = 0 then
    (x0 &&& x2) &&& (-9223372036854775808 : Int64)
  else
    f_I_nearest_JIJ (x5 &&& (-9223372036854775808 : Int64)) (x9 - (9 : Int32)) s0
set_option maxHeartbeats 4000000 in
set_option maxRecDepth 100000 in
theorem k_I_sum_JJ_124 {p : Program} {l : Launch} {e : Env} {s : State} {m : MethodId} {args : Array Value} {below : List Frame} {meth : Method} {c : Code} (C0 : pu_C p s m args meth c b_I_sum_JJ 16 "MotionLab$Ieee" (some .long) (gw y_I_sum_JJ b_I_sum_JJ 16 (some .long))) (x0 : Int64) (x2 : Int64) (x5 : Int64) (x9 : Int32) (s0 : Int64) (ls : Array Slot) (hl : lv_has ls 16 [(0, .long x0), (2, .long x2), (5, .long x5), (9, .int x9)]) {w : Int64} (hw : w = f_I_sum_JJ_124 x0 x2 x5 x9 s0) : W p l e (headSpec (gw y_I_sum_JJ b_I_sum_JJ 16 (some .long)) ({ frames := 3, cells := 0, slots := 0, locals := 69 } : Room)).room s m args below meth c s.heap [] 0 0 (pu_Ql w below args s) (F0 m 124 ls [.long s0]) := by
  obtain ⟨hx, hb, hml, hown, hts, hr, hlocks⟩ := id C0
  refine lv_lstore (lv' := [(14, .long s0), (0, .long x0), (2, .long x2), (5, .long x5), (9, .int x9)]) hx hb d_I_sum_JJ_124 hl (by decide) rfl (fun ls hl => ?_)
  refine lv_lload hx hb d_I_sum_JJ_126 (lv_at hl 0 rfl) ?_
  refine lv_lconst (v := (0 : Int64)) hx hb d_I_sum_JJ_128 (by decide) ?_
  refine W.lcmp hx hb d_I_sum_JJ_129 ?_
  refine lv_if_ne (tgt := 141) hx hb d_I_sum_JJ_130 (by decide) (fun c1 => ?_) (fun c1 => ?_)
  · refine lv_lload hx hb d_I_sum_JJ_141 (lv_at hl 3 rfl) ?_
    refine lv_ldc2 (v := (-9223372036854775808 : Int64)) hx hb hown (hts _ (gm tw_93)) d_I_sum_JJ_143 ?_
    refine lv_land hx hb d_I_sum_JJ_146 ?_
    refine lv_iload hx hb d_I_sum_JJ_147 (lv_at hl 4 rfl) ?_
    refine lv_bipush (v := (9 : Int32)) hx hb d_I_sum_JJ_149 (by decide) ?_
    refine lv_isub hx hb d_I_sum_JJ_151 ?_
    refine lv_lload hx hb d_I_sum_JJ_152 (lv_at hl 0 rfl) ?_
    refine pu_l (As := [.long (x5 &&& (-9223372036854775808 : Int64)), .int (x9 - (9 : Int32)), .long s0]) (rest := []) ⟨hx, hb, hml, hown, hts⟩ (c_I_nearest_JIJ l _ (x5 &&& (-9223372036854775808 : Int64)) (x9 - (9 : Int32)) s0) pu_pre (gw_call (k := 3) hts tw_115 tw_116 tw_5 tw_117 (by decide +kernel) rfl rfl ⟨Nat.le_of_ble_eq_true rfl, Nat.le_of_ble_eq_true rfl⟩) rfl hl.1 rfl (Nat.le_of_ble_eq_true rfl) ⟨Nat.zero_le _, Nat.zero_le _⟩ d_I_sum_JJ_154 ?_
    exact pu_lret hx hb hr hlocks d_I_sum_JJ_157 (by exact Eq.symm (hw.trans (if_neg c1)))
  · refine lv_lload_n hx hb d_I_sum_JJ_133 rfl (lv_at hl 1 rfl) ?_
    refine lv_lload_n hx hb d_I_sum_JJ_134 rfl (lv_at hl 2 rfl) ?_
    refine lv_land hx hb d_I_sum_JJ_135 ?_
    refine lv_ldc2 (v := (-9223372036854775808 : Int64)) hx hb hown (hts _ (gm tw_93)) d_I_sum_JJ_136 ?_
    refine lv_land hx hb d_I_sum_JJ_139 ?_
    exact pu_lret hx hb hr hlocks d_I_sum_JJ_140 (by exact Eq.symm (hw.trans (if_pos c1)))
def f_I_sum_JJ_63 (x0 : Int64) (x2 : Int64) (x5 : Int64) (s0 : Int64) : Int64 :=
  let v1 : Int32 := f_I_power_J x5
  let v2 : Int64 := j_shl (f_I_significand_J x5) (9 : Int32)
  let v3 : Int64 := f_I_lowered_JI (j_shl (f_I_significand_J s0) (9 : Int32)) (v1 - (f_I_power_J s0))
  if 0 ≤ (lg_cmp (x0 ^^^ x2) (0 : Int64)) then
    f_I_sum_JJ_124 x0 x2 x5 v1 (v2 + v3)
  else
    f_I_sum_JJ_124 x0 x2 x5 v1 (v2 - v3)
set_option maxHeartbeats 4000000 in
set_option maxRecDepth 100000 in
theorem k_I_sum_JJ_63 {p : Program} {l : Launch} {e : Env} {s : State} {m : MethodId} {args : Array Value} {below : List Frame} {meth : Method} {c : Code} (C0 : pu_C p s m args meth c b_I_sum_JJ 16 "MotionLab$Ieee" (some .long) (gw y_I_sum_JJ b_I_sum_JJ 16 (some .long))) (x0 : Int64) (x2 : Int64) (x5 : Int64) (s0 : Int64) (ls : Array Slot) (hl : lv_has ls 16 [(0, .long x0), (2, .long x2), (5, .long x5)]) {w : Int64} (hw : w = f_I_sum_JJ_63 x0 x2 x5 s0) : W p l e (headSpec (gw y_I_sum_JJ b_I_sum_JJ 16 (some .long)) ({ frames := 3, cells := 0, slots := 0, locals := 69 } : Room)).room s m args below meth c s.heap [] 0 0 (pu_Ql w below args s) (F0 m 63 ls [.long s0]) := by
  obtain ⟨hx, hb, hml, hown, hts, hr, hlocks⟩ := id C0
  refine lv_lstore (lv' := [(7, .long s0), (0, .long x0), (2, .long x2), (5, .long x5)]) hx hb d_I_sum_JJ_63 hl (by decide) rfl (fun ls hl => ?_)
  refine lv_lload hx hb d_I_sum_JJ_65 (lv_at hl 3 rfl) ?_
  refine pu_i (As := [.long x5]) (rest := []) ⟨hx, hb, hml, hown, hts⟩ (c_I_power_J l _ x5) pu_pre (gw_call (k := 1) hts tw_94 tw_95 tw_5 tw_96 (by decide +kernel) rfl rfl ⟨Nat.le_of_ble_eq_true rfl, Nat.le_of_ble_eq_true rfl⟩) rfl hl.1 rfl (Nat.le_of_ble_eq_true rfl) ⟨Nat.zero_le _, Nat.zero_le _⟩ d_I_sum_JJ_67 ?_
  refine lv_topi (fun v1 e1 => ?_)
  refine lv_istore (lv' := [(9, .int v1), (7, .long s0), (0, .long x0), (2, .long x2), (5, .long x5)]) hx hb d_I_sum_JJ_70 hl (by decide) rfl (fun ls hl => ?_)
  refine lv_lload hx hb d_I_sum_JJ_72 (lv_at hl 4 rfl) ?_
  refine pu_l (As := [.long x5]) (rest := []) ⟨hx, hb, hml, hown, hts⟩ (c_I_significand_J l _ x5) pu_pre (gw_call (k := 1) hts tw_100 tw_101 tw_5 tw_102 (by decide +kernel) rfl rfl ⟨Nat.le_of_ble_eq_true rfl, Nat.le_of_ble_eq_true rfl⟩) rfl hl.1 rfl (Nat.le_of_ble_eq_true rfl) ⟨Nat.zero_le _, Nat.zero_le _⟩ d_I_sum_JJ_74 ?_
  refine lv_bipush (v := (9 : Int32)) hx hb d_I_sum_JJ_77 (by decide) ?_
  refine lv_lshl (v := j_shl (f_I_significand_J x5) (9 : Int32)) hx hb d_I_sum_JJ_79 rfl ?_
  refine lv_topl (fun v2 e2 => ?_)
  refine lv_lstore (lv' := [(10, .long v2), (9, .int v1), (7, .long s0), (0, .long x0), (2, .long x2), (5, .long x5)]) hx hb d_I_sum_JJ_80 hl (by decide) rfl (fun ls hl => ?_)
  refine lv_lload hx hb d_I_sum_JJ_82 (lv_at hl 2 rfl) ?_
  refine pu_l (As := [.long s0]) (rest := []) ⟨hx, hb, hml, hown, hts⟩ (c_I_significand_J l _ s0) pu_pre (gw_call (k := 1) hts tw_100 tw_101 tw_5 tw_102 (by decide +kernel) rfl rfl ⟨Nat.le_of_ble_eq_true rfl, Nat.le_of_ble_eq_true rfl⟩) rfl hl.1 rfl (Nat.le_of_ble_eq_true rfl) ⟨Nat.zero_le _, Nat.zero_le _⟩ d_I_sum_JJ_84 ?_
  refine lv_bipush (v := (9 : Int32)) hx hb d_I_sum_JJ_87 (by decide) ?_
  refine lv_lshl (v := j_shl (f_I_significand_J s0) (9 : Int32)) hx hb d_I_sum_JJ_89 rfl ?_
  refine lv_iload hx hb d_I_sum_JJ_90 (lv_at hl 1 rfl) ?_
  refine lv_lload hx hb d_I_sum_JJ_92 (lv_at hl 2 rfl) ?_
  refine pu_i (As := [.long s0]) (rest := [.int v1, .long (j_shl (f_I_significand_J s0) (9 : Int32))]) ⟨hx, hb, hml, hown, hts⟩ (c_I_power_J l _ s0) pu_pre (gw_call (k := 1) hts tw_94 tw_95 tw_5 tw_96 (by decide +kernel) rfl rfl ⟨Nat.le_of_ble_eq_true rfl, Nat.le_of_ble_eq_true rfl⟩) rfl hl.1 rfl (Nat.le_of_ble_eq_true rfl) ⟨Nat.zero_le _, Nat.zero_le _⟩ d_I_sum_JJ_94 ?_
  refine lv_isub hx hb d_I_sum_JJ_97 ?_
  refine pu_l (As := [.long (j_shl (f_I_significand_J s0) (9 : Int32)), .int (v1 - (f_I_power_J s0))]) (rest := []) ⟨hx, hb, hml, hown, hts⟩ (c_I_lowered_JI l _ (j_shl (f_I_significand_J s0) (9 : Int32)) (v1 - (f_I_power_J s0))) pu_pre (gw_call (k := 2) hts tw_200 tw_201 tw_5 tw_202 (by decide +kernel) rfl rfl ⟨Nat.le_of_ble_eq_true rfl, Nat.le_of_ble_eq_true rfl⟩) rfl hl.1 rfl (Nat.le_of_ble_eq_true rfl) ⟨Nat.zero_le _, Nat.zero_le _⟩ d_I_sum_JJ_98 ?_
  refine lv_topl (fun v3 e3 => ?_)
  refine lv_lstore (lv' := [(12, .long v3), (10, .long v2), (9, .int v1), (7, .long s0), (0, .long x0), (2, .long x2), (5, .long x5)]) hx hb d_I_sum_JJ_101 hl (by decide) rfl (fun ls hl => ?_)
  refine lv_lload_n hx hb d_I_sum_JJ_103 rfl (lv_at hl 4 rfl) ?_
  refine lv_lload_n hx hb d_I_sum_JJ_104 rfl (lv_at hl 5 rfl) ?_
  refine lv_lxor hx hb d_I_sum_JJ_105 ?_
  refine lv_lconst (v := (0 : Int64)) hx hb d_I_sum_JJ_106 (by decide) ?_
  refine W.lcmp hx hb d_I_sum_JJ_107 ?_
  refine lv_if_ge (tgt := 119) hx hb d_I_sum_JJ_108 (by decide) (fun c4 => ?_) (fun c4 => ?_)
  · refine lv_lload hx hb d_I_sum_JJ_119 (lv_at hl 1 rfl) ?_
    refine lv_lload hx hb d_I_sum_JJ_121 (lv_at hl 0 rfl) ?_
    refine lv_ladd hx hb d_I_sum_JJ_123 ?_
    exact k_I_sum_JJ_124 C0 x0 x2 x5 v1 (v2 + v3) ls (lv_sub hl [4, 5, 6, 2] rfl) (by have qe1 := e1.symm; have qe2 := e2.symm; have qe3 := e3.symm; subst qe1 qe2 qe3; exact (hw.trans (if_pos c4)))
  · refine lv_lload hx hb d_I_sum_JJ_111 (lv_at hl 1 rfl) ?_
    refine lv_lload hx hb d_I_sum_JJ_113 (lv_at hl 0 rfl) ?_
    refine lv_lsub hx hb d_I_sum_JJ_115 ?_
    refine lv_goto (tgt := 124) hx hb d_I_sum_JJ_116 (by decide) ?_
    exact k_I_sum_JJ_124 C0 x0 x2 x5 v1 (v2 - v3) ls (lv_sub hl [4, 5, 6, 2] rfl) (by have qe1 := e1.symm; have qe2 := e2.symm; have qe3 := e3.symm; subst qe1 qe2 qe3; exact (hw.trans (if_neg c4)))
def f_I_sum_JJ_51 (x0 : Int64) (x2 : Int64) (x4 : Int32) (s0 : Int64) : Int64 :=
  if x4 = 0 then
    f_I_sum_JJ_63 x0 x2 s0 x2
  else
    f_I_sum_JJ_63 x0 x2 s0 x0
set_option maxHeartbeats 4000000 in
set_option maxRecDepth 100000 in
theorem k_I_sum_JJ_51 {p : Program} {l : Launch} {e : Env} {s : State} {m : MethodId} {args : Array Value} {below : List Frame} {meth : Method} {c : Code} (C0 : pu_C p s m args meth c b_I_sum_JJ 16 "MotionLab$Ieee" (some .long) (gw y_I_sum_JJ b_I_sum_JJ 16 (some .long))) (x0 : Int64) (x2 : Int64) (x4 : Int32) (s0 : Int64) (ls : Array Slot) (hl : lv_has ls 16 [(0, .long x0), (2, .long x2), (4, .int x4)]) {w : Int64} (hw : w = f_I_sum_JJ_51 x0 x2 x4 s0) : W p l e (headSpec (gw y_I_sum_JJ b_I_sum_JJ 16 (some .long)) ({ frames := 3, cells := 0, slots := 0, locals := 69 } : Room)).room s m args below meth c s.heap [] 0 0 (pu_Ql w below args s) (F0 m 51 ls [.long s0]) := by
  obtain ⟨hx, hb, hml, hown, hts, hr, hlocks⟩ := id C0
  refine lv_lstore (lv' := [(5, .long s0), (0, .long x0), (2, .long x2), (4, .int x4)]) hx hb d_I_sum_JJ_51 hl (by decide) rfl (fun ls hl => ?_)
  refine lv_iload hx hb d_I_sum_JJ_53 (lv_at hl 3 rfl) ?_
  refine lv_if_eq (tgt := 62) hx hb d_I_sum_JJ_55 (by decide) (fun c1 => ?_) (fun c1 => ?_)
  · refine lv_lload_n hx hb d_I_sum_JJ_62 rfl (lv_at hl 2 rfl) ?_
    exact k_I_sum_JJ_63 C0 x0 x2 s0 x2 ls (lv_sub hl [1, 2, 0] rfl) (by exact (hw.trans (if_pos c1)))
  · refine lv_lload_n hx hb d_I_sum_JJ_58 rfl (lv_at hl 1 rfl) ?_
    refine lv_goto (tgt := 63) hx hb d_I_sum_JJ_59 (by decide) ?_
    exact k_I_sum_JJ_63 C0 x0 x2 s0 x0 ls (lv_sub hl [1, 2, 0] rfl) (by exact (hw.trans (if_neg c1)))
def f_I_sum_JJ_39 (x0 : Int64) (x2 : Int64) (s0 : Int32) : Int64 :=
  if s0 = 0 then
    f_I_sum_JJ_51 x0 x2 s0 x0
  else
    f_I_sum_JJ_51 x0 x2 s0 x2
set_option maxHeartbeats 4000000 in
set_option maxRecDepth 100000 in
theorem k_I_sum_JJ_39 {p : Program} {l : Launch} {e : Env} {s : State} {m : MethodId} {args : Array Value} {below : List Frame} {meth : Method} {c : Code} (C0 : pu_C p s m args meth c b_I_sum_JJ 16 "MotionLab$Ieee" (some .long) (gw y_I_sum_JJ b_I_sum_JJ 16 (some .long))) (x0 : Int64) (x2 : Int64) (s0 : Int32) (ls : Array Slot) (hl : lv_has ls 16 [(0, .long x0), (2, .long x2)]) {w : Int64} (hw : w = f_I_sum_JJ_39 x0 x2 s0) : W p l e (headSpec (gw y_I_sum_JJ b_I_sum_JJ 16 (some .long)) ({ frames := 3, cells := 0, slots := 0, locals := 69 } : Room)).room s m args below meth c s.heap [] 0 0 (pu_Ql w below args s) (F0 m 39 ls [.int s0]) := by
  obtain ⟨hx, hb, hml, hown, hts, hr, hlocks⟩ := id C0
  refine lv_istore (lv' := [(4, .int s0), (0, .long x0), (2, .long x2)]) hx hb d_I_sum_JJ_39 hl (by decide) rfl (fun ls hl => ?_)
  refine lv_iload hx hb d_I_sum_JJ_41 (lv_at hl 0 rfl) ?_
  refine lv_if_eq (tgt := 50) hx hb d_I_sum_JJ_43 (by decide) (fun c1 => ?_) (fun c1 => ?_)
  · refine lv_lload_n hx hb d_I_sum_JJ_50 rfl (lv_at hl 1 rfl) ?_
    exact k_I_sum_JJ_51 C0 x0 x2 s0 x0 ls (lv_sub hl [1, 2, 0] rfl) (by exact (hw.trans (if_pos c1)))
  · refine lv_lload_n hx hb d_I_sum_JJ_46 rfl (lv_at hl 2 rfl) ?_
    refine lv_goto (tgt := 51) hx hb d_I_sum_JJ_47 (by decide) ?_
    exact k_I_sum_JJ_51 C0 x0 x2 s0 x2 ls (lv_sub hl [1, 2, 0] rfl) (by exact (hw.trans (if_neg c1)))
def f_I_sum_JJ (x0 : Int64) (x2 : Int64) : Int64 :=
  if (f_I_isFinite_J x0) = 0 then
    f_I_unendingSum_JJ x0 x2
  else
    if (f_I_isFinite_J x2) = 0 then
      f_I_unendingSum_JJ x0 x2
    else
      if 0 ≤ (lg_cmp (x0 &&& (9223372036854775807 : Int64)) (x2 &&& (9223372036854775807 : Int64))) then
        f_I_sum_JJ_39 x0 x2 (0 : Int32)
      else
        f_I_sum_JJ_39 x0 x2 (1 : Int32)
set_option maxHeartbeats 4000000 in
set_option maxRecDepth 100000 in
theorem c_I_sum_JJ (l : Launch) (h : Heap) (x0 : Int64) (x2 : Int64) : Met l y_I_sum_JJ (gw y_I_sum_JJ b_I_sum_JJ 16 (some .long)) { frames := 3, cells := 0, slots := 0, locals := 69 } (pu_Pc [.long x0, .long x2] h) (pu_Ml (f_I_sum_JJ x0 x2) h) 0 0 (fun _ => False) := by
  refine Met.ofW (cc := b_I_sum_JJ) (maxL := 16) (ret := (some .long)) (by decide) rfl ?_
  intro p e s m args below meth c s₁ B hml hv
  obtain ⟨rfl, hh⟩ := hv
  subst hh
  have hx := B.exec
  have hb := B.bytes
  have hr := B.returns
  have hts := atoms_spec (ws := (gw y_I_sum_JJ b_I_sum_JJ 16 (some .long))) B.pre
  have hown : s.vm.findClass "MotionLab$Ieee" = some m.cls := findClass_of_methodNamed B.named
  have hlocks := B.notSynchronized
  have C0 : pu_C p s m _ meth c b_I_sum_JJ 16 "MotionLab$Ieee" (some .long) (gw y_I_sum_JJ b_I_sum_JJ 16 (some .long)) := ⟨hx, hb, hml, hown, hts, hr, hlocks⟩
  have hl := lv_entry ([.long x0, .long x2]) (n := 16) (Nat.le_of_ble_eq_true rfl)
  rw [lg_entry_eq]
  generalize (lg_sl ([.long x0, .long x2]) ++ List.replicate (16 - (lg_sl ([.long x0, .long x2])).length) Slot.unset).toArray = ls at hl ⊢
  have hl : lv_has ls 16 [(0, .long x0), (2, .long x2)] := hl
  refine lv_lload_n hx hb d_I_sum_JJ_0 rfl (lv_at hl 0 rfl) ?_
  refine pu_i (As := [.long x0]) (rest := []) ⟨hx, hb, hml, hown, hts⟩ (c_I_isFinite_J l _ x0) pu_pre (gw_call (k := 1) hts tw_81 tw_82 tw_5 tw_83 (by decide +kernel) rfl rfl ⟨Nat.le_of_ble_eq_true rfl, Nat.le_of_ble_eq_true rfl⟩) rfl hl.1 rfl (Nat.le_of_ble_eq_true rfl) ⟨Nat.zero_le _, Nat.zero_le _⟩ d_I_sum_JJ_1 ?_
  refine lv_if_eq (tgt := 14) hx hb d_I_sum_JJ_4 (by decide) (fun c1 => ?_) (fun c1 => ?_)
  · refine lv_lload_n hx hb d_I_sum_JJ_14 rfl (lv_at hl 0 rfl) ?_
    refine lv_lload_n hx hb d_I_sum_JJ_15 rfl (lv_at hl 1 rfl) ?_
    refine pu_l (As := [.long x0, .long x2]) (rest := []) ⟨hx, hb, hml, hown, hts⟩ (c_I_unendingSum_JJ l _ x0 x2) pu_pre (gw_call (k := 2) hts tw_194 tw_195 tw_5 tw_196 (by decide +kernel) rfl rfl ⟨Nat.le_of_ble_eq_true rfl, Nat.le_of_ble_eq_true rfl⟩) rfl hl.1 rfl (Nat.le_of_ble_eq_true rfl) ⟨Nat.zero_le _, Nat.zero_le _⟩ d_I_sum_JJ_16 ?_
    exact pu_lret hx hb hr hlocks d_I_sum_JJ_19 (by exact Eq.symm (if_pos c1))
  · refine lv_lload_n hx hb d_I_sum_JJ_7 rfl (lv_at hl 1 rfl) ?_
    refine pu_i (As := [.long x2]) (rest := []) ⟨hx, hb, hml, hown, hts⟩ (c_I_isFinite_J l _ x2) pu_pre (gw_call (k := 1) hts tw_81 tw_82 tw_5 tw_83 (by decide +kernel) rfl rfl ⟨Nat.le_of_ble_eq_true rfl, Nat.le_of_ble_eq_true rfl⟩) rfl hl.1 rfl (Nat.le_of_ble_eq_true rfl) ⟨Nat.zero_le _, Nat.zero_le _⟩ d_I_sum_JJ_8 ?_
    refine lv_if_ne (tgt := 20) hx hb d_I_sum_JJ_11 (by decide) (fun c2 => ?_) (fun c2 => ?_)
    · refine lv_lload_n hx hb d_I_sum_JJ_20 rfl (lv_at hl 0 rfl) ?_
      refine lv_ldc2 (v := (9223372036854775807 : Int64)) hx hb hown (hts _ (gm tw_84)) d_I_sum_JJ_21 ?_
      refine lv_land hx hb d_I_sum_JJ_24 ?_
      refine lv_lload_n hx hb d_I_sum_JJ_25 rfl (lv_at hl 1 rfl) ?_
      refine lv_ldc2 (v := (9223372036854775807 : Int64)) hx hb hown (hts _ (gm tw_84)) d_I_sum_JJ_26 ?_
      refine lv_land hx hb d_I_sum_JJ_29 ?_
      refine W.lcmp hx hb d_I_sum_JJ_30 ?_
      refine lv_if_ge (tgt := 38) hx hb d_I_sum_JJ_31 (by decide) (fun c3 => ?_) (fun c3 => ?_)
      · refine lv_iconst (v := 0) hx hb d_I_sum_JJ_38 (by decide) ?_
        exact k_I_sum_JJ_39 C0 x0 x2 (0 : Int32) ls (lv_sub hl [0, 1] rfl) (by exact (Eq.trans (if_neg c1) (Eq.trans (if_neg c2) (if_pos c3))))
      · refine lv_iconst (v := 1) hx hb d_I_sum_JJ_34 (by decide) ?_
        refine lv_goto (tgt := 39) hx hb d_I_sum_JJ_35 (by decide) ?_
        exact k_I_sum_JJ_39 C0 x0 x2 (1 : Int32) ls (lv_sub hl [0, 1] rfl) (by exact (Eq.trans (if_neg c1) (Eq.trans (if_neg c2) (if_neg c3))))
    · refine lv_lload_n hx hb d_I_sum_JJ_14 rfl (lv_at hl 0 rfl) ?_
      refine lv_lload_n hx hb d_I_sum_JJ_15 rfl (lv_at hl 1 rfl) ?_
      refine pu_l (As := [.long x0, .long x2]) (rest := []) ⟨hx, hb, hml, hown, hts⟩ (c_I_unendingSum_JJ l _ x0 x2) pu_pre (gw_call (k := 2) hts tw_194 tw_195 tw_5 tw_196 (by decide +kernel) rfl rfl ⟨Nat.le_of_ble_eq_true rfl, Nat.le_of_ble_eq_true rfl⟩) rfl hl.1 rfl (Nat.le_of_ble_eq_true rfl) ⟨Nat.zero_le _, Nat.zero_le _⟩ d_I_sum_JJ_16 ?_
      exact pu_lret hx hb hr hlocks d_I_sum_JJ_19 (by exact Eq.symm (Eq.trans (if_neg c1) (if_pos c2)))
-- ===== MotionLab$Ieee.difference(JJ)J
abbrev y_I_difference_JJ : MethodName := ⟨"MotionLab$Ieee", "difference", "(JJ)J"⟩
abbrev b_I_difference_JJ : ByteArray := prog_2_method_15_code
theorem d_I_difference_JJ_0 : decode b_I_difference_JJ 0 = .ok (.lload_n 0, 1) := by decide +kernel
theorem d_I_difference_JJ_1 : decode b_I_difference_JJ 1 = .ok (.lload_n 2, 1) := by decide +kernel
theorem d_I_difference_JJ_2 : decode b_I_difference_JJ 2 = .ok (.ldc2_w 19, 3) := by decide +kernel
theorem d_I_difference_JJ_5 : decode b_I_difference_JJ 5 = .ok (.lxor, 1) := by decide +kernel
theorem d_I_difference_JJ_6 : decode b_I_difference_JJ 6 = .ok (.invokestatic 59, 3) := by decide +kernel
theorem d_I_difference_JJ_9 : decode b_I_difference_JJ 9 = .ok (.lreturn, 1) := by decide +kernel
def f_I_difference_JJ (x0 : Int64) (x2 : Int64) : Int64 :=
  f_I_sum_JJ x0 (x2 ^^^ (-9223372036854775808 : Int64))
set_option maxHeartbeats 4000000 in
set_option maxRecDepth 100000 in
theorem c_I_difference_JJ (l : Launch) (h : Heap) (x0 : Int64) (x2 : Int64) : Met l y_I_difference_JJ (gw y_I_difference_JJ b_I_difference_JJ 4 (some .long)) { frames := 4, cells := 0, slots := 0, locals := 104 } (pu_Pc [.long x0, .long x2] h) (pu_Ml (f_I_difference_JJ x0 x2) h) 0 0 (fun _ => False) := by
  refine Met.ofW (cc := b_I_difference_JJ) (maxL := 4) (ret := (some .long)) (by decide) rfl ?_
  intro p e s m args below meth c s₁ B hml hv
  obtain ⟨rfl, hh⟩ := hv
  subst hh
  have hx := B.exec
  have hb := B.bytes
  have hr := B.returns
  have hts := atoms_spec (ws := (gw y_I_difference_JJ b_I_difference_JJ 4 (some .long))) B.pre
  have hown : s.vm.findClass "MotionLab$Ieee" = some m.cls := findClass_of_methodNamed B.named
  have hlocks := B.notSynchronized
  have C0 : pu_C p s m _ meth c b_I_difference_JJ 4 "MotionLab$Ieee" (some .long) (gw y_I_difference_JJ b_I_difference_JJ 4 (some .long)) := ⟨hx, hb, hml, hown, hts, hr, hlocks⟩
  have hl := lv_entry ([.long x0, .long x2]) (n := 4) (Nat.le_of_ble_eq_true rfl)
  rw [lg_entry_eq]
  generalize (lg_sl ([.long x0, .long x2]) ++ List.replicate (4 - (lg_sl ([.long x0, .long x2])).length) Slot.unset).toArray = ls at hl ⊢
  have hl : lv_has ls 4 [(0, .long x0), (2, .long x2)] := hl
  refine lv_lload_n hx hb d_I_difference_JJ_0 rfl (lv_at hl 0 rfl) ?_
  refine lv_lload_n hx hb d_I_difference_JJ_1 rfl (lv_at hl 1 rfl) ?_
  refine lv_ldc2 (v := (-9223372036854775808 : Int64)) hx hb hown (hts _ (gm tw_93)) d_I_difference_JJ_2 ?_
  refine lv_lxor hx hb d_I_difference_JJ_5 ?_
  refine pu_l (As := [.long x0, .long (x2 ^^^ (-9223372036854775808 : Int64))]) (rest := []) ⟨hx, hb, hml, hown, hts⟩ (c_I_sum_JJ l _ x0 (x2 ^^^ (-9223372036854775808 : Int64))) pu_pre (gw_call (k := 2) hts tw_191 tw_192 tw_5 tw_193 (by decide +kernel) rfl rfl ⟨Nat.le_of_ble_eq_true rfl, Nat.le_of_ble_eq_true rfl⟩) rfl hl.1 rfl (Nat.le_of_ble_eq_true rfl) ⟨Nat.zero_le _, Nat.zero_le _⟩ d_I_difference_JJ_6 ?_
  exact pu_lret hx hb hr hlocks d_I_difference_JJ_9 (by exact Eq.symm rfl)
-- ===== MotionLab$Ieee.products(JJJJ)J
abbrev y_I_products_JJJJ : MethodName := ⟨"MotionLab$Ieee", "products", "(JJJJ)J"⟩
abbrev b_I_products_JJJJ : ByteArray := prog_2_method_18_code
theorem d_I_products_JJJJ_0 : decode b_I_products_JJJJ 0 = .ok (.lload_n 0, 1) := by decide +kernel
theorem d_I_products_JJJJ_1 : decode b_I_products_JJJJ 1 = .ok (.lload_n 2, 1) := by decide +kernel
theorem d_I_products_JJJJ_2 : decode b_I_products_JJJJ 2 = .ok (.invokestatic 75, 3) := by decide +kernel
theorem d_I_products_JJJJ_5 : decode b_I_products_JJJJ 5 = .ok (.lload 4, 2) := by decide +kernel
theorem d_I_products_JJJJ_7 : decode b_I_products_JJJJ 7 = .ok (.lload 6, 2) := by decide +kernel
theorem d_I_products_JJJJ_9 : decode b_I_products_JJJJ 9 = .ok (.invokestatic 75, 3) := by decide +kernel
theorem d_I_products_JJJJ_12 : decode b_I_products_JJJJ 12 = .ok (.invokestatic 59, 3) := by decide +kernel
theorem d_I_products_JJJJ_15 : decode b_I_products_JJJJ 15 = .ok (.lreturn, 1) := by decide +kernel
def f_I_products_JJJJ (x0 : Int64) (x2 : Int64) (x4 : Int64) (x6 : Int64) : Int64 :=
  f_I_sum_JJ (f_I_product_JJ x0 x2) (f_I_product_JJ x4 x6)
set_option maxHeartbeats 4000000 in
set_option maxRecDepth 100000 in
theorem c_I_products_JJJJ (l : Launch) (h : Heap) (x0 : Int64) (x2 : Int64) (x4 : Int64) (x6 : Int64) : Met l y_I_products_JJJJ (gw y_I_products_JJJJ b_I_products_JJJJ 8 (some .long)) { frames := 4, cells := 0, slots := 0, locals := 104 } (pu_Pc [.long x0, .long x2, .long x4, .long x6] h) (pu_Ml (f_I_products_JJJJ x0 x2 x4 x6) h) 0 0 (fun _ => False) := by
  refine Met.ofW (cc := b_I_products_JJJJ) (maxL := 8) (ret := (some .long)) (by decide) rfl ?_
  intro p e s m args below meth c s₁ B hml hv
  obtain ⟨rfl, hh⟩ := hv
  subst hh
  have hx := B.exec
  have hb := B.bytes
  have hr := B.returns
  have hts := atoms_spec (ws := (gw y_I_products_JJJJ b_I_products_JJJJ 8 (some .long))) B.pre
  have hown : s.vm.findClass "MotionLab$Ieee" = some m.cls := findClass_of_methodNamed B.named
  have hlocks := B.notSynchronized
  have C0 : pu_C p s m _ meth c b_I_products_JJJJ 8 "MotionLab$Ieee" (some .long) (gw y_I_products_JJJJ b_I_products_JJJJ 8 (some .long)) := ⟨hx, hb, hml, hown, hts, hr, hlocks⟩
  have hl := lv_entry ([.long x0, .long x2, .long x4, .long x6]) (n := 8) (Nat.le_of_ble_eq_true rfl)
  rw [lg_entry_eq]
  generalize (lg_sl ([.long x0, .long x2, .long x4, .long x6]) ++ List.replicate (8 - (lg_sl ([.long x0, .long x2, .long x4, .long x6])).length) Slot.unset).toArray = ls at hl ⊢
  have hl : lv_has ls 8 [(0, .long x0), (2, .long x2), (4, .long x4), (6, .long x6)] := hl
  refine lv_lload_n hx hb d_I_products_JJJJ_0 rfl (lv_at hl 0 rfl) ?_
  refine lv_lload_n hx hb d_I_products_JJJJ_1 rfl (lv_at hl 1 rfl) ?_
  refine pu_l (As := [.long x0, .long x2]) (rest := []) ⟨hx, hb, hml, hown, hts⟩ (c_I_product_JJ l _ x0 x2) pu_pre (gw_call (k := 2) hts tw_218 tw_175 tw_5 tw_176 (by decide +kernel) rfl rfl ⟨Nat.le_of_ble_eq_true rfl, Nat.le_of_ble_eq_true rfl⟩) rfl hl.1 rfl (Nat.le_of_ble_eq_true rfl) ⟨Nat.zero_le _, Nat.zero_le _⟩ d_I_products_JJJJ_2 ?_
  refine lv_lload hx hb d_I_products_JJJJ_5 (lv_at hl 2 rfl) ?_
  refine lv_lload hx hb d_I_products_JJJJ_7 (lv_at hl 3 rfl) ?_
  refine pu_l (As := [.long x4, .long x6]) (rest := [.long (f_I_product_JJ x0 x2)]) ⟨hx, hb, hml, hown, hts⟩ (c_I_product_JJ l _ x4 x6) pu_pre (gw_call (k := 2) hts tw_218 tw_175 tw_5 tw_176 (by decide +kernel) rfl rfl ⟨Nat.le_of_ble_eq_true rfl, Nat.le_of_ble_eq_true rfl⟩) rfl hl.1 rfl (Nat.le_of_ble_eq_true rfl) ⟨Nat.zero_le _, Nat.zero_le _⟩ d_I_products_JJJJ_9 ?_
  refine pu_l (As := [.long (f_I_product_JJ x0 x2), .long (f_I_product_JJ x4 x6)]) (rest := []) ⟨hx, hb, hml, hown, hts⟩ (c_I_sum_JJ l _ (f_I_product_JJ x0 x2) (f_I_product_JJ x4 x6)) pu_pre (gw_call (k := 2) hts tw_191 tw_192 tw_5 tw_193 (by decide +kernel) rfl rfl ⟨Nat.le_of_ble_eq_true rfl, Nat.le_of_ble_eq_true rfl⟩) rfl hl.1 rfl (Nat.le_of_ble_eq_true rfl) ⟨Nat.zero_le _, Nat.zero_le _⟩ d_I_products_JJJJ_12 ?_
  exact pu_lret hx hb hr hlocks d_I_products_JJJJ_15 (by exact Eq.symm rfl)
-- ===== MotionLab$Ieee.unendingQuotient(JJ)J
abbrev y_I_unendingQuotient_JJ : MethodName := ⟨"MotionLab$Ieee", "unendingQuotient", "(JJ)J"⟩
abbrev b_I_unendingQuotient_JJ : ByteArray := prog_2_method_20_code
theorem d_I_unendingQuotient_JJ_0 : decode b_I_unendingQuotient_JJ 0 = .ok (.lload_n 0, 1) := by decide +kernel
theorem d_I_unendingQuotient_JJ_1 : decode b_I_unendingQuotient_JJ 1 = .ok (.invokestatic 13, 3) := by decide +kernel
theorem d_I_unendingQuotient_JJ_4 : decode b_I_unendingQuotient_JJ 4 = .ok (.ifCond .ne 24, 3) := by decide +kernel
theorem d_I_unendingQuotient_JJ_7 : decode b_I_unendingQuotient_JJ 7 = .ok (.lload_n 2, 1) := by decide +kernel
theorem d_I_unendingQuotient_JJ_8 : decode b_I_unendingQuotient_JJ 8 = .ok (.invokestatic 13, 3) := by decide +kernel
theorem d_I_unendingQuotient_JJ_11 : decode b_I_unendingQuotient_JJ 11 = .ok (.ifCond .ne 17, 3) := by decide +kernel
theorem d_I_unendingQuotient_JJ_14 : decode b_I_unendingQuotient_JJ 14 = .ok (.lload_n 0, 1) := by decide +kernel
theorem d_I_unendingQuotient_JJ_15 : decode b_I_unendingQuotient_JJ 15 = .ok (.invokestatic 56, 3) := by decide +kernel
theorem d_I_unendingQuotient_JJ_18 : decode b_I_unendingQuotient_JJ 18 = .ok (.ifCond .eq 14, 3) := by decide +kernel
theorem d_I_unendingQuotient_JJ_21 : decode b_I_unendingQuotient_JJ 21 = .ok (.lload_n 2, 1) := by decide +kernel
theorem d_I_unendingQuotient_JJ_22 : decode b_I_unendingQuotient_JJ 22 = .ok (.invokestatic 56, 3) := by decide +kernel
theorem d_I_unendingQuotient_JJ_25 : decode b_I_unendingQuotient_JJ 25 = .ok (.ifCond .eq 7, 3) := by decide +kernel
theorem d_I_unendingQuotient_JJ_28 : decode b_I_unendingQuotient_JJ 28 = .ok (.ldc2_w 17, 3) := by decide +kernel
theorem d_I_unendingQuotient_JJ_31 : decode b_I_unendingQuotient_JJ 31 = .ok (.lreturn, 1) := by decide +kernel
theorem d_I_unendingQuotient_JJ_32 : decode b_I_unendingQuotient_JJ 32 = .ok (.lload_n 0, 1) := by decide +kernel
theorem d_I_unendingQuotient_JJ_33 : decode b_I_unendingQuotient_JJ 33 = .ok (.lload_n 2, 1) := by decide +kernel
theorem d_I_unendingQuotient_JJ_34 : decode b_I_unendingQuotient_JJ 34 = .ok (.lxor, 1) := by decide +kernel
theorem d_I_unendingQuotient_JJ_35 : decode b_I_unendingQuotient_JJ 35 = .ok (.ldc2_w 19, 3) := by decide +kernel
theorem d_I_unendingQuotient_JJ_38 : decode b_I_unendingQuotient_JJ 38 = .ok (.land, 1) := by decide +kernel
theorem d_I_unendingQuotient_JJ_39 : decode b_I_unendingQuotient_JJ 39 = .ok (.lstore 4, 2) := by decide +kernel
theorem d_I_unendingQuotient_JJ_41 : decode b_I_unendingQuotient_JJ 41 = .ok (.lload_n 0, 1) := by decide +kernel
theorem d_I_unendingQuotient_JJ_42 : decode b_I_unendingQuotient_JJ 42 = .ok (.invokestatic 56, 3) := by decide +kernel
theorem d_I_unendingQuotient_JJ_45 : decode b_I_unendingQuotient_JJ 45 = .ok (.ifCond .eq 12, 3) := by decide +kernel
theorem d_I_unendingQuotient_JJ_48 : decode b_I_unendingQuotient_JJ 48 = .ok (.lload 4, 2) := by decide +kernel
theorem d_I_unendingQuotient_JJ_50 : decode b_I_unendingQuotient_JJ 50 = .ok (.ldc2_w 11, 3) := by decide +kernel
theorem d_I_unendingQuotient_JJ_53 : decode b_I_unendingQuotient_JJ 53 = .ok (.lor, 1) := by decide +kernel
theorem d_I_unendingQuotient_JJ_54 : decode b_I_unendingQuotient_JJ 54 = .ok (.goto 5, 3) := by decide +kernel
theorem d_I_unendingQuotient_JJ_57 : decode b_I_unendingQuotient_JJ 57 = .ok (.lload 4, 2) := by decide +kernel
theorem d_I_unendingQuotient_JJ_59 : decode b_I_unendingQuotient_JJ 59 = .ok (.lreturn, 1) := by decide +kernel
def f_I_unendingQuotient_JJ_32 (x0 : Int64) (x2 : Int64) : Int64 :=
  let v1 : Int64 := (x0 ^^^ x2) &&& (-9223372036854775808 : Int64)
  if (f_I_isInfinite_J x0) = 0 then
    v1
  else
    v1 ||| (9218868437227405312 : Int64)
set_option maxHeartbeats 4000000 in
set_option maxRecDepth 100000 in
theorem k_I_unendingQuotient_JJ_32 {p : Program} {l : Launch} {e : Env} {s : State} {m : MethodId} {args : Array Value} {below : List Frame} {meth : Method} {c : Code} (C0 : pu_C p s m args meth c b_I_unendingQuotient_JJ 6 "MotionLab$Ieee" (some .long) (gw y_I_unendingQuotient_JJ b_I_unendingQuotient_JJ 6 (some .long))) (x0 : Int64) (x2 : Int64) (ls : Array Slot) (hl : lv_has ls 6 [(0, .long x0), (2, .long x2)]) {w : Int64} (hw : w = f_I_unendingQuotient_JJ_32 x0 x2) : W p l e (headSpec (gw y_I_unendingQuotient_JJ b_I_unendingQuotient_JJ 6 (some .long)) ({ frames := 1, cells := 0, slots := 0, locals := 21 } : Room)).room s m args below meth c s.heap [] 0 0 (pu_Ql w below args s) (F0 m 32 ls []) := by
  obtain ⟨hx, hb, hml, hown, hts, hr, hlocks⟩ := id C0
  refine lv_lload_n hx hb d_I_unendingQuotient_JJ_32 rfl (lv_at hl 0 rfl) ?_
  refine lv_lload_n hx hb d_I_unendingQuotient_JJ_33 rfl (lv_at hl 1 rfl) ?_
  refine lv_lxor hx hb d_I_unendingQuotient_JJ_34 ?_
  refine lv_ldc2 (v := (-9223372036854775808 : Int64)) hx hb hown (hts _ (gm tw_93)) d_I_unendingQuotient_JJ_35 ?_
  refine lv_land hx hb d_I_unendingQuotient_JJ_38 ?_
  refine lv_topl (fun v1 e1 => ?_)
  refine lv_lstore (lv' := [(4, .long v1), (0, .long x0), (2, .long x2)]) hx hb d_I_unendingQuotient_JJ_39 hl (by decide) rfl (fun ls hl => ?_)
  refine lv_lload_n hx hb d_I_unendingQuotient_JJ_41 rfl (lv_at hl 1 rfl) ?_
  refine pu_i (As := [.long x0]) (rest := []) ⟨hx, hb, hml, hown, hts⟩ (c_I_isInfinite_J l _ x0) pu_pre (gw_call (k := 1) hts tw_197 tw_198 tw_5 tw_199 (by decide +kernel) rfl rfl ⟨Nat.le_of_ble_eq_true rfl, Nat.le_of_ble_eq_true rfl⟩) rfl hl.1 rfl (Nat.le_of_ble_eq_true rfl) ⟨Nat.zero_le _, Nat.zero_le _⟩ d_I_unendingQuotient_JJ_42 ?_
  refine lv_if_eq (tgt := 57) hx hb d_I_unendingQuotient_JJ_45 (by decide) (fun c2 => ?_) (fun c2 => ?_)
  · refine lv_lload hx hb d_I_unendingQuotient_JJ_57 (lv_at hl 0 rfl) ?_
    exact pu_lret hx hb hr hlocks d_I_unendingQuotient_JJ_59 (by have qe1 := e1.symm; subst qe1; exact Eq.symm (hw.trans (if_pos c2)))
  · refine lv_lload hx hb d_I_unendingQuotient_JJ_48 (lv_at hl 0 rfl) ?_
    refine lv_ldc2 (v := (9218868437227405312 : Int64)) hx hb hown (hts _ (gm tw_85)) d_I_unendingQuotient_JJ_50 ?_
    refine lv_lor hx hb d_I_unendingQuotient_JJ_53 ?_
    refine lv_goto (tgt := 59) hx hb d_I_unendingQuotient_JJ_54 (by decide) ?_
    exact pu_lret hx hb hr hlocks d_I_unendingQuotient_JJ_59 (by have qe1 := e1.symm; subst qe1; exact Eq.symm (hw.trans (if_neg c2)))
def f_I_unendingQuotient_JJ (x0 : Int64) (x2 : Int64) : Int64 :=
  if (f_I_isNoNumber_J x0) = 0 then
    if (f_I_isNoNumber_J x2) = 0 then
      if (f_I_isInfinite_J x0) = 0 then
        f_I_unendingQuotient_JJ_32 x0 x2
      else
        if (f_I_isInfinite_J x2) = 0 then
          f_I_unendingQuotient_JJ_32 x0 x2
        else
          (9221120237041090560 : Int64)
    else
      (9221120237041090560 : Int64)
  else
    (9221120237041090560 : Int64)
set_option maxHeartbeats 4000000 in
set_option maxRecDepth 100000 in
theorem c_I_unendingQuotient_JJ (l : Launch) (h : Heap) (x0 : Int64) (x2 : Int64) : Met l y_I_unendingQuotient_JJ (gw y_I_unendingQuotient_JJ b_I_unendingQuotient_JJ 6 (some .long)) { frames := 1, cells := 0, slots := 0, locals := 21 } (pu_Pc [.long x0, .long x2] h) (pu_Ml (f_I_unendingQuotient_JJ x0 x2) h) 0 0 (fun _ => False) := by
  refine Met.ofW (cc := b_I_unendingQuotient_JJ) (maxL := 6) (ret := (some .long)) (by decide) rfl ?_
  intro p e s m args below meth c s₁ B hml hv
  obtain ⟨rfl, hh⟩ := hv
  subst hh
  have hx := B.exec
  have hb := B.bytes
  have hr := B.returns
  have hts := atoms_spec (ws := (gw y_I_unendingQuotient_JJ b_I_unendingQuotient_JJ 6 (some .long))) B.pre
  have hown : s.vm.findClass "MotionLab$Ieee" = some m.cls := findClass_of_methodNamed B.named
  have hlocks := B.notSynchronized
  have C0 : pu_C p s m _ meth c b_I_unendingQuotient_JJ 6 "MotionLab$Ieee" (some .long) (gw y_I_unendingQuotient_JJ b_I_unendingQuotient_JJ 6 (some .long)) := ⟨hx, hb, hml, hown, hts, hr, hlocks⟩
  have hl := lv_entry ([.long x0, .long x2]) (n := 6) (Nat.le_of_ble_eq_true rfl)
  rw [lg_entry_eq]
  generalize (lg_sl ([.long x0, .long x2]) ++ List.replicate (6 - (lg_sl ([.long x0, .long x2])).length) Slot.unset).toArray = ls at hl ⊢
  have hl : lv_has ls 6 [(0, .long x0), (2, .long x2)] := hl
  refine lv_lload_n hx hb d_I_unendingQuotient_JJ_0 rfl (lv_at hl 0 rfl) ?_
  refine pu_i (As := [.long x0]) (rest := []) ⟨hx, hb, hml, hown, hts⟩ (c_I_isNoNumber_J l _ x0) pu_pre (gw_call (k := 1) hts tw_89 tw_90 tw_5 tw_91 (by decide +kernel) rfl rfl ⟨Nat.le_of_ble_eq_true rfl, Nat.le_of_ble_eq_true rfl⟩) rfl hl.1 rfl (Nat.le_of_ble_eq_true rfl) ⟨Nat.zero_le _, Nat.zero_le _⟩ d_I_unendingQuotient_JJ_1 ?_
  refine lv_if_ne (tgt := 28) hx hb d_I_unendingQuotient_JJ_4 (by decide) (fun c1 => ?_) (fun c1 => ?_)
  · refine lv_ldc2 (v := (9221120237041090560 : Int64)) hx hb hown (hts _ (gm tw_92)) d_I_unendingQuotient_JJ_28 ?_
    exact pu_lret hx hb hr hlocks d_I_unendingQuotient_JJ_31 (by exact Eq.symm (if_neg c1))
  · refine lv_lload_n hx hb d_I_unendingQuotient_JJ_7 rfl (lv_at hl 1 rfl) ?_
    refine pu_i (As := [.long x2]) (rest := []) ⟨hx, hb, hml, hown, hts⟩ (c_I_isNoNumber_J l _ x2) pu_pre (gw_call (k := 1) hts tw_89 tw_90 tw_5 tw_91 (by decide +kernel) rfl rfl ⟨Nat.le_of_ble_eq_true rfl, Nat.le_of_ble_eq_true rfl⟩) rfl hl.1 rfl (Nat.le_of_ble_eq_true rfl) ⟨Nat.zero_le _, Nat.zero_le _⟩ d_I_unendingQuotient_JJ_8 ?_
    refine lv_if_ne (tgt := 28) hx hb d_I_unendingQuotient_JJ_11 (by decide) (fun c2 => ?_) (fun c2 => ?_)
    · refine lv_ldc2 (v := (9221120237041090560 : Int64)) hx hb hown (hts _ (gm tw_92)) d_I_unendingQuotient_JJ_28 ?_
      exact pu_lret hx hb hr hlocks d_I_unendingQuotient_JJ_31 (by exact Eq.symm (Eq.trans (if_pos c1) (if_neg c2)))
    · refine lv_lload_n hx hb d_I_unendingQuotient_JJ_14 rfl (lv_at hl 0 rfl) ?_
      refine pu_i (As := [.long x0]) (rest := []) ⟨hx, hb, hml, hown, hts⟩ (c_I_isInfinite_J l _ x0) pu_pre (gw_call (k := 1) hts tw_197 tw_198 tw_5 tw_199 (by decide +kernel) rfl rfl ⟨Nat.le_of_ble_eq_true rfl, Nat.le_of_ble_eq_true rfl⟩) rfl hl.1 rfl (Nat.le_of_ble_eq_true rfl) ⟨Nat.zero_le _, Nat.zero_le _⟩ d_I_unendingQuotient_JJ_15 ?_
      refine lv_if_eq (tgt := 32) hx hb d_I_unendingQuotient_JJ_18 (by decide) (fun c3 => ?_) (fun c3 => ?_)
      · exact k_I_unendingQuotient_JJ_32 C0 x0 x2 ls (lv_sub hl [0, 1] rfl) (by exact (Eq.trans (if_pos c1) (Eq.trans (if_pos c2) (if_pos c3))))
      · refine lv_lload_n hx hb d_I_unendingQuotient_JJ_21 rfl (lv_at hl 1 rfl) ?_
        refine pu_i (As := [.long x2]) (rest := []) ⟨hx, hb, hml, hown, hts⟩ (c_I_isInfinite_J l _ x2) pu_pre (gw_call (k := 1) hts tw_197 tw_198 tw_5 tw_199 (by decide +kernel) rfl rfl ⟨Nat.le_of_ble_eq_true rfl, Nat.le_of_ble_eq_true rfl⟩) rfl hl.1 rfl (Nat.le_of_ble_eq_true rfl) ⟨Nat.zero_le _, Nat.zero_le _⟩ d_I_unendingQuotient_JJ_22 ?_
        refine lv_if_eq (tgt := 32) hx hb d_I_unendingQuotient_JJ_25 (by decide) (fun c4 => ?_) (fun c4 => ?_)
        · exact k_I_unendingQuotient_JJ_32 C0 x0 x2 ls (lv_sub hl [0, 1] rfl) (by exact (Eq.trans (if_pos c1) (Eq.trans (if_pos c2) (Eq.trans (if_neg c3) (if_pos c4)))))
        · refine lv_ldc2 (v := (9221120237041090560 : Int64)) hx hb hown (hts _ (gm tw_92)) d_I_unendingQuotient_JJ_28 ?_
          exact pu_lret hx hb hr hlocks d_I_unendingQuotient_JJ_31 (by exact Eq.symm (Eq.trans (if_pos c1) (Eq.trans (if_pos c2) (Eq.trans (if_neg c3) (if_neg c4)))))
end
section
-- ===== MotionLab$Ieee.quotient(JJ)J
abbrev y_I_quotient_JJ : MethodName := ⟨"MotionLab$Ieee", "quotient", "(JJ)J"⟩
abbrev b_I_quotient_JJ : ByteArray := prog_2_method_19_code
theorem d_I_quotient_JJ_0 : decode b_I_quotient_JJ 0 = .ok (.lload_n 0, 1) := by decide +kernel
theorem d_I_quotient_JJ_1 : decode b_I_quotient_JJ 1 = .ok (.invokestatic 35, 3) := by decide +kernel
theorem d_I_quotient_JJ_4 : decode b_I_quotient_JJ 4 = .ok (.ifCond .eq 10, 3) := by decide +kernel
theorem d_I_quotient_JJ_7 : decode b_I_quotient_JJ 7 = .ok (.lload_n 2, 1) := by decide +kernel
theorem d_I_quotient_JJ_8 : decode b_I_quotient_JJ 8 = .ok (.invokestatic 35, 3) := by decide +kernel
theorem d_I_quotient_JJ_11 : decode b_I_quotient_JJ 11 = .ok (.ifCond .ne 9, 3) := by decide +kernel
theorem d_I_quotient_JJ_14 : decode b_I_quotient_JJ 14 = .ok (.lload_n 0, 1) := by decide +kernel
theorem d_I_quotient_JJ_15 : decode b_I_quotient_JJ 15 = .ok (.lload_n 2, 1) := by decide +kernel
theorem d_I_quotient_JJ_16 : decode b_I_quotient_JJ 16 = .ok (.invokestatic 78, 3) := by decide +kernel
theorem d_I_quotient_JJ_19 : decode b_I_quotient_JJ 19 = .ok (.lreturn, 1) := by decide +kernel
theorem d_I_quotient_JJ_20 : decode b_I_quotient_JJ 20 = .ok (.lload_n 0, 1) := by decide +kernel
theorem d_I_quotient_JJ_21 : decode b_I_quotient_JJ 21 = .ok (.lload_n 2, 1) := by decide +kernel
theorem d_I_quotient_JJ_22 : decode b_I_quotient_JJ 22 = .ok (.lxor, 1) := by decide +kernel
theorem d_I_quotient_JJ_23 : decode b_I_quotient_JJ 23 = .ok (.ldc2_w 19, 3) := by decide +kernel
theorem d_I_quotient_JJ_26 : decode b_I_quotient_JJ 26 = .ok (.land, 1) := by decide +kernel
theorem d_I_quotient_JJ_27 : decode b_I_quotient_JJ 27 = .ok (.lstore 4, 2) := by decide +kernel
theorem d_I_quotient_JJ_29 : decode b_I_quotient_JJ 29 = .ok (.lload_n 0, 1) := by decide +kernel
theorem d_I_quotient_JJ_30 : decode b_I_quotient_JJ 30 = .ok (.invokestatic 65, 3) := by decide +kernel
theorem d_I_quotient_JJ_33 : decode b_I_quotient_JJ 33 = .ok (.istore 6, 2) := by decide +kernel
theorem d_I_quotient_JJ_35 : decode b_I_quotient_JJ 35 = .ok (.lload_n 2, 1) := by decide +kernel
theorem d_I_quotient_JJ_36 : decode b_I_quotient_JJ 36 = .ok (.invokestatic 65, 3) := by decide +kernel
theorem d_I_quotient_JJ_39 : decode b_I_quotient_JJ 39 = .ok (.istore 7, 2) := by decide +kernel
theorem d_I_quotient_JJ_41 : decode b_I_quotient_JJ 41 = .ok (.lload_n 2, 1) := by decide +kernel
theorem d_I_quotient_JJ_42 : decode b_I_quotient_JJ 42 = .ok (.invokestatic 45, 3) := by decide +kernel
theorem d_I_quotient_JJ_45 : decode b_I_quotient_JJ 45 = .ok (.iload 7, 2) := by decide +kernel
theorem d_I_quotient_JJ_47 : decode b_I_quotient_JJ 47 = .ok (.lshl, 1) := by decide +kernel
theorem d_I_quotient_JJ_48 : decode b_I_quotient_JJ 48 = .ok (.lstore 8, 2) := by decide +kernel
theorem d_I_quotient_JJ_50 : decode b_I_quotient_JJ 50 = .ok (.lload 8, 2) := by decide +kernel
theorem d_I_quotient_JJ_52 : decode b_I_quotient_JJ 52 = .ok (.lconst 0, 1) := by decide +kernel
theorem d_I_quotient_JJ_53 : decode b_I_quotient_JJ 53 = .ok (.lcmp, 1) := by decide +kernel
theorem d_I_quotient_JJ_54 : decode b_I_quotient_JJ 54 = .ok (.ifCond .ne 23, 3) := by decide +kernel
theorem d_I_quotient_JJ_57 : decode b_I_quotient_JJ 57 = .ok (.lload_n 0, 1) := by decide +kernel
theorem d_I_quotient_JJ_58 : decode b_I_quotient_JJ 58 = .ok (.invokestatic 62, 3) := by decide +kernel
theorem d_I_quotient_JJ_61 : decode b_I_quotient_JJ 61 = .ok (.ifCond .eq 9, 3) := by decide +kernel
theorem d_I_quotient_JJ_64 : decode b_I_quotient_JJ 64 = .ok (.ldc2_w 17, 3) := by decide +kernel
theorem d_I_quotient_JJ_67 : decode b_I_quotient_JJ 67 = .ok (.goto 9, 3) := by decide +kernel
theorem d_I_quotient_JJ_70 : decode b_I_quotient_JJ 70 = .ok (.lload 4, 2) := by decide +kernel
theorem d_I_quotient_JJ_72 : decode b_I_quotient_JJ 72 = .ok (.ldc2_w 11, 3) := by decide +kernel
theorem d_I_quotient_JJ_75 : decode b_I_quotient_JJ 75 = .ok (.lor, 1) := by decide +kernel
theorem d_I_quotient_JJ_76 : decode b_I_quotient_JJ 76 = .ok (.lreturn, 1) := by decide +kernel
theorem d_I_quotient_JJ_77 : decode b_I_quotient_JJ 77 = .ok (.lload_n 0, 1) := by decide +kernel
theorem d_I_quotient_JJ_78 : decode b_I_quotient_JJ 78 = .ok (.invokestatic 45, 3) := by decide +kernel
theorem d_I_quotient_JJ_81 : decode b_I_quotient_JJ 81 = .ok (.iload 6, 2) := by decide +kernel
theorem d_I_quotient_JJ_83 : decode b_I_quotient_JJ 83 = .ok (.lshl, 1) := by decide +kernel
theorem d_I_quotient_JJ_84 : decode b_I_quotient_JJ 84 = .ok (.lstore 10, 2) := by decide +kernel
theorem d_I_quotient_JJ_86 : decode b_I_quotient_JJ 86 = .ok (.lload 10, 2) := by decide +kernel
theorem d_I_quotient_JJ_88 : decode b_I_quotient_JJ 88 = .ok (.lload 8, 2) := by decide +kernel
theorem d_I_quotient_JJ_90 : decode b_I_quotient_JJ 90 = .ok (.ldiv, 1) := by decide +kernel
theorem d_I_quotient_JJ_91 : decode b_I_quotient_JJ 91 = .ok (.lstore 12, 2) := by decide +kernel
theorem d_I_quotient_JJ_93 : decode b_I_quotient_JJ 93 = .ok (.lload 10, 2) := by decide +kernel
theorem d_I_quotient_JJ_95 : decode b_I_quotient_JJ 95 = .ok (.lload 12, 2) := by decide +kernel
theorem d_I_quotient_JJ_97 : decode b_I_quotient_JJ 97 = .ok (.lload 8, 2) := by decide +kernel
theorem d_I_quotient_JJ_99 : decode b_I_quotient_JJ 99 = .ok (.lmul, 1) := by decide +kernel
theorem d_I_quotient_JJ_100 : decode b_I_quotient_JJ 100 = .ok (.lsub, 1) := by decide +kernel
theorem d_I_quotient_JJ_101 : decode b_I_quotient_JJ 101 = .ok (.lstore 14, 2) := by decide +kernel
theorem d_I_quotient_JJ_103 : decode b_I_quotient_JJ 103 = .ok (.iconst 0, 1) := by decide +kernel
theorem d_I_quotient_JJ_104 : decode b_I_quotient_JJ 104 = .ok (.istore 16, 2) := by decide +kernel
theorem d_I_quotient_JJ_106 : decode b_I_quotient_JJ 106 = .ok (.iload 16, 2) := by decide +kernel
theorem d_I_quotient_JJ_108 : decode b_I_quotient_JJ 108 = .ok (.bipush 6, 2) := by decide +kernel
theorem d_I_quotient_JJ_110 : decode b_I_quotient_JJ 110 = .ok (.if_icmp .ge 43, 3) := by decide +kernel
theorem d_I_quotient_JJ_113 : decode b_I_quotient_JJ 113 = .ok (.lload 14, 2) := by decide +kernel
theorem d_I_quotient_JJ_115 : decode b_I_quotient_JJ 115 = .ok (.bipush 10, 2) := by decide +kernel
theorem d_I_quotient_JJ_117 : decode b_I_quotient_JJ 117 = .ok (.lshl, 1) := by decide +kernel
theorem d_I_quotient_JJ_118 : decode b_I_quotient_JJ 118 = .ok (.lstore 17, 2) := by decide +kernel
theorem d_I_quotient_JJ_120 : decode b_I_quotient_JJ 120 = .ok (.lload 17, 2) := by decide +kernel
theorem d_I_quotient_JJ_122 : decode b_I_quotient_JJ 122 = .ok (.lload 8, 2) := by decide +kernel
theorem d_I_quotient_JJ_124 : decode b_I_quotient_JJ 124 = .ok (.ldiv, 1) := by decide +kernel
theorem d_I_quotient_JJ_125 : decode b_I_quotient_JJ 125 = .ok (.lstore 19, 2) := by decide +kernel
theorem d_I_quotient_JJ_127 : decode b_I_quotient_JJ 127 = .ok (.lload 12, 2) := by decide +kernel
theorem d_I_quotient_JJ_129 : decode b_I_quotient_JJ 129 = .ok (.bipush 10, 2) := by decide +kernel
theorem d_I_quotient_JJ_131 : decode b_I_quotient_JJ 131 = .ok (.lshl, 1) := by decide +kernel
theorem d_I_quotient_JJ_132 : decode b_I_quotient_JJ 132 = .ok (.lload 19, 2) := by decide +kernel
theorem d_I_quotient_JJ_134 : decode b_I_quotient_JJ 134 = .ok (.lor, 1) := by decide +kernel
theorem d_I_quotient_JJ_135 : decode b_I_quotient_JJ 135 = .ok (.lstore 12, 2) := by decide +kernel
theorem d_I_quotient_JJ_137 : decode b_I_quotient_JJ 137 = .ok (.lload 17, 2) := by decide +kernel
theorem d_I_quotient_JJ_139 : decode b_I_quotient_JJ 139 = .ok (.lload 19, 2) := by decide +kernel
theorem d_I_quotient_JJ_141 : decode b_I_quotient_JJ 141 = .ok (.lload 8, 2) := by decide +kernel
theorem d_I_quotient_JJ_143 : decode b_I_quotient_JJ 143 = .ok (.lmul, 1) := by decide +kernel
theorem d_I_quotient_JJ_144 : decode b_I_quotient_JJ 144 = .ok (.lsub, 1) := by decide +kernel
theorem d_I_quotient_JJ_145 : decode b_I_quotient_JJ 145 = .ok (.lstore 14, 2) := by decide +kernel
theorem d_I_quotient_JJ_147 : decode b_I_quotient_JJ 147 = .ok (.iinc 16 1, 3) := by decide +kernel
theorem d_I_quotient_JJ_150 : decode b_I_quotient_JJ 150 = .ok (.goto (-44), 3) := by decide +kernel
theorem d_I_quotient_JJ_153 : decode b_I_quotient_JJ 153 = .ok (.lload_n 0, 1) := by decide +kernel
theorem d_I_quotient_JJ_154 : decode b_I_quotient_JJ 154 = .ok (.invokestatic 41, 3) := by decide +kernel
theorem d_I_quotient_JJ_157 : decode b_I_quotient_JJ 157 = .ok (.iload 6, 2) := by decide +kernel
theorem d_I_quotient_JJ_159 : decode b_I_quotient_JJ 159 = .ok (.isub, 1) := by decide +kernel
theorem d_I_quotient_JJ_160 : decode b_I_quotient_JJ 160 = .ok (.lload_n 2, 1) := by decide +kernel
theorem d_I_quotient_JJ_161 : decode b_I_quotient_JJ 161 = .ok (.invokestatic 41, 3) := by decide +kernel
theorem d_I_quotient_JJ_164 : decode b_I_quotient_JJ 164 = .ok (.isub, 1) := by decide +kernel
theorem d_I_quotient_JJ_165 : decode b_I_quotient_JJ 165 = .ok (.iload 7, 2) := by decide +kernel
theorem d_I_quotient_JJ_167 : decode b_I_quotient_JJ 167 = .ok (.iadd, 1) := by decide +kernel
theorem d_I_quotient_JJ_168 : decode b_I_quotient_JJ 168 = .ok (.bipush 60, 2) := by decide +kernel
theorem d_I_quotient_JJ_170 : decode b_I_quotient_JJ 170 = .ok (.isub, 1) := by decide +kernel
theorem d_I_quotient_JJ_171 : decode b_I_quotient_JJ 171 = .ok (.istore 16, 2) := by decide +kernel
theorem d_I_quotient_JJ_173 : decode b_I_quotient_JJ 173 = .ok (.lload 4, 2) := by decide +kernel
theorem d_I_quotient_JJ_175 : decode b_I_quotient_JJ 175 = .ok (.iload 16, 2) := by decide +kernel
theorem d_I_quotient_JJ_177 : decode b_I_quotient_JJ 177 = .ok (.lload 14, 2) := by decide +kernel
theorem d_I_quotient_JJ_179 : decode b_I_quotient_JJ 179 = .ok (.lconst 0, 1) := by decide +kernel
theorem d_I_quotient_JJ_180 : decode b_I_quotient_JJ 180 = .ok (.lcmp, 1) := by decide +kernel
theorem d_I_quotient_JJ_181 : decode b_I_quotient_JJ 181 = .ok (.ifCond .ne 8, 3) := by decide +kernel
theorem d_I_quotient_JJ_184 : decode b_I_quotient_JJ 184 = .ok (.lload 12, 2) := by decide +kernel
theorem d_I_quotient_JJ_186 : decode b_I_quotient_JJ 186 = .ok (.goto 7, 3) := by decide +kernel
theorem d_I_quotient_JJ_189 : decode b_I_quotient_JJ 189 = .ok (.lload 12, 2) := by decide +kernel
theorem d_I_quotient_JJ_191 : decode b_I_quotient_JJ 191 = .ok (.lconst 1, 1) := by decide +kernel
theorem d_I_quotient_JJ_192 : decode b_I_quotient_JJ 192 = .ok (.lor, 1) := by decide +kernel
theorem d_I_quotient_JJ_193 : decode b_I_quotient_JJ 193 = .ok (.invokestatic 52, 3) := by decide +kernel
theorem d_I_quotient_JJ_196 : decode b_I_quotient_JJ 196 = .ok (.lreturn, 1) := by decide +kernel
def f_I_quotient_JJ (x0 : Int64) (x2 : Int64) : Int64 :=
  if (f_I_isFinite_J x0) = 0 then
    f_I_unendingQuotient_JJ x0 x2
  else
    if (f_I_isFinite_J x2) = 0 then
      f_I_unendingQuotient_JJ x0 x2
    else
      let v3 : Int64 := (x0 ^^^ x2) &&& (-9223372036854775808 : Int64)
      let v4 : Int32 := f_I_rise_J x0
      let v5 : Int32 := f_I_rise_J x2
      let v6 : Int64 := j_shl (f_I_significand_J x2) v5
      if (lg_cmp v6 (0 : Int64)) = 0 then
        if (f_I_isZero_J x0) = 0 then
          v3 ||| (9218868437227405312 : Int64)
        else
          (9221120237041090560 : Int64)
      else
        let v8 : Int64 := j_shl (f_I_significand_J x0) v4
        let v9 : Int64 := v8 / v6
        let v10 : Int64 := v8 - (v9 * v6)
        let v11 : Int64 := j_shl v10 (10 : Int32)
        let v12 : Int64 := v11 / v6
        let v13 : Int64 := (j_shl v9 (10 : Int32)) ||| v12
        let v14 : Int64 := v11 - (v12 * v6)
        let v15 : Int64 := j_shl v14 (10 : Int32)
        let v16 : Int64 := v15 / v6
        let v17 : Int64 := (j_shl v13 (10 : Int32)) ||| v16
        let v18 : Int64 := v15 - (v16 * v6)
        let v19 : Int64 := j_shl v18 (10 : Int32)
        let v20 : Int64 := v19 / v6
        let v21 : Int64 := (j_shl v17 (10 : Int32)) ||| v20
        let v22 : Int64 := v19 - (v20 * v6)
        let v23 : Int64 := j_shl v22 (10 : Int32)
        let v24 : Int64 := v23 / v6
        let v25 : Int64 := (j_shl v21 (10 : Int32)) ||| v24
        let v26 : Int64 := v23 - (v24 * v6)
        let v27 : Int64 := j_shl v26 (10 : Int32)
        let v28 : Int64 := v27 / v6
        let v29 : Int64 := (j_shl v25 (10 : Int32)) ||| v28
        let v30 : Int64 := v27 - (v28 * v6)
        let v31 : Int64 := j_shl v30 (10 : Int32)
        let v32 : Int64 := v31 / v6
        let v33 : Int64 := (j_shl v29 (10 : Int32)) ||| v32
        let v34 : Int64 := v31 - (v32 * v6)
        let v35 : Int32 := ((((f_I_power_J x0) - v4) - (f_I_power_J x2)) + v5) - (60 : Int32)
        if (lg_cmp v34 (0 : Int64)) = 0 then
          f_I_nearest_JIJ v3 v35 v33
        else
          f_I_nearest_JIJ v3 v35 (v33 ||| (1 : Int64))
set_option maxHeartbeats 4000000 in
set_option maxRecDepth 100000 in
theorem c_I_quotient_JJ (l : Launch) (h : Heap) (x0 : Int64) (x2 : Int64) : Met l y_I_quotient_JJ (gw y_I_quotient_JJ b_I_quotient_JJ 21 (some .long)) { frames := 3, cells := 0, slots := 0, locals := 69 } (pu_Pc [.long x0, .long x2] h) (pu_Ml (f_I_quotient_JJ x0 x2) h) 0 0 (fun _ => False) := by
  refine Met.ofW (cc := b_I_quotient_JJ) (maxL := 21) (ret := (some .long)) (by decide) rfl ?_
  intro p e s m args below meth c s₁ B hml hv
  obtain ⟨rfl, hh⟩ := hv
  subst hh
  have hx := B.exec
  have hb := B.bytes
  have hr := B.returns
  have hts := atoms_spec (ws := (gw y_I_quotient_JJ b_I_quotient_JJ 21 (some .long))) B.pre
  have hown : s.vm.findClass "MotionLab$Ieee" = some m.cls := findClass_of_methodNamed B.named
  have hlocks := B.notSynchronized
  have C0 : pu_C p s m _ meth c b_I_quotient_JJ 21 "MotionLab$Ieee" (some .long) (gw y_I_quotient_JJ b_I_quotient_JJ 21 (some .long)) := ⟨hx, hb, hml, hown, hts, hr, hlocks⟩
  have hl := lv_entry ([.long x0, .long x2]) (n := 21) (Nat.le_of_ble_eq_true rfl)
  rw [lg_entry_eq]
  generalize (lg_sl ([.long x0, .long x2]) ++ List.replicate (21 - (lg_sl ([.long x0, .long x2])).length) Slot.unset).toArray = ls at hl ⊢
  have hl : lv_has ls 21 [(0, .long x0), (2, .long x2)] := hl
  refine lv_lload_n hx hb d_I_quotient_JJ_0 rfl (lv_at hl 0 rfl) ?_
  refine pu_i (As := [.long x0]) (rest := []) ⟨hx, hb, hml, hown, hts⟩ (c_I_isFinite_J l _ x0) pu_pre (gw_call (k := 1) hts tw_81 tw_82 tw_5 tw_83 (by decide +kernel) rfl rfl ⟨Nat.le_of_ble_eq_true rfl, Nat.le_of_ble_eq_true rfl⟩) rfl hl.1 rfl (Nat.le_of_ble_eq_true rfl) ⟨Nat.zero_le _, Nat.zero_le _⟩ d_I_quotient_JJ_1 ?_
  refine lv_if_eq (tgt := 14) hx hb d_I_quotient_JJ_4 (by decide) (fun c1 => ?_) (fun c1 => ?_)
  · refine lv_lload_n hx hb d_I_quotient_JJ_14 rfl (lv_at hl 0 rfl) ?_
    refine lv_lload_n hx hb d_I_quotient_JJ_15 rfl (lv_at hl 1 rfl) ?_
    refine pu_l (As := [.long x0, .long x2]) (rest := []) ⟨hx, hb, hml, hown, hts⟩ (c_I_unendingQuotient_JJ l _ x0 x2) pu_pre (gw_call (k := 2) hts tw_226 tw_227 tw_5 tw_228 (by decide +kernel) rfl rfl ⟨Nat.le_of_ble_eq_true rfl, Nat.le_of_ble_eq_true rfl⟩) rfl hl.1 rfl (Nat.le_of_ble_eq_true rfl) ⟨Nat.zero_le _, Nat.zero_le _⟩ d_I_quotient_JJ_16 ?_
    exact pu_lret hx hb hr hlocks d_I_quotient_JJ_19 (by exact Eq.symm (if_pos c1))
  · refine lv_lload_n hx hb d_I_quotient_JJ_7 rfl (lv_at hl 1 rfl) ?_
    refine pu_i (As := [.long x2]) (rest := []) ⟨hx, hb, hml, hown, hts⟩ (c_I_isFinite_J l _ x2) pu_pre (gw_call (k := 1) hts tw_81 tw_82 tw_5 tw_83 (by decide +kernel) rfl rfl ⟨Nat.le_of_ble_eq_true rfl, Nat.le_of_ble_eq_true rfl⟩) rfl hl.1 rfl (Nat.le_of_ble_eq_true rfl) ⟨Nat.zero_le _, Nat.zero_le _⟩ d_I_quotient_JJ_8 ?_
    refine lv_if_ne (tgt := 20) hx hb d_I_quotient_JJ_11 (by decide) (fun c2 => ?_) (fun c2 => ?_)
    · refine lv_lload_n hx hb d_I_quotient_JJ_20 rfl (lv_at hl 0 rfl) ?_
      refine lv_lload_n hx hb d_I_quotient_JJ_21 rfl (lv_at hl 1 rfl) ?_
      refine lv_lxor hx hb d_I_quotient_JJ_22 ?_
      refine lv_ldc2 (v := (-9223372036854775808 : Int64)) hx hb hown (hts _ (gm tw_93)) d_I_quotient_JJ_23 ?_
      refine lv_land hx hb d_I_quotient_JJ_26 ?_
      refine lv_topl (fun v3 e3 => ?_)
      refine lv_lstore (lv' := [(4, .long v3), (0, .long x0), (2, .long x2)]) hx hb d_I_quotient_JJ_27 hl (by decide) rfl (fun ls hl => ?_)
      refine lv_lload_n hx hb d_I_quotient_JJ_29 rfl (lv_at hl 1 rfl) ?_
      refine pu_i (As := [.long x0]) (rest := []) ⟨hx, hb, hml, hown, hts⟩ (c_I_rise_J l _ x0) pu_pre (gw_call (k := 1) hts tw_180 tw_181 tw_5 tw_182 (by decide +kernel) rfl rfl ⟨Nat.le_of_ble_eq_true rfl, Nat.le_of_ble_eq_true rfl⟩) rfl hl.1 rfl (Nat.le_of_ble_eq_true rfl) ⟨Nat.zero_le _, Nat.zero_le _⟩ d_I_quotient_JJ_30 ?_
      refine lv_topi (fun v4 e4 => ?_)
      refine lv_istore (lv' := [(6, .int v4), (4, .long v3), (0, .long x0), (2, .long x2)]) hx hb d_I_quotient_JJ_33 hl (by decide) rfl (fun ls hl => ?_)
      refine lv_lload_n hx hb d_I_quotient_JJ_35 rfl (lv_at hl 3 rfl) ?_
      refine pu_i (As := [.long x2]) (rest := []) ⟨hx, hb, hml, hown, hts⟩ (c_I_rise_J l _ x2) pu_pre (gw_call (k := 1) hts tw_180 tw_181 tw_5 tw_182 (by decide +kernel) rfl rfl ⟨Nat.le_of_ble_eq_true rfl, Nat.le_of_ble_eq_true rfl⟩) rfl hl.1 rfl (Nat.le_of_ble_eq_true rfl) ⟨Nat.zero_le _, Nat.zero_le _⟩ d_I_quotient_JJ_36 ?_
      refine lv_topi (fun v5 e5 => ?_)
      refine lv_istore (lv' := [(7, .int v5), (6, .int v4), (4, .long v3), (0, .long x0), (2, .long x2)]) hx hb d_I_quotient_JJ_39 hl (by decide) rfl (fun ls hl => ?_)
      refine lv_lload_n hx hb d_I_quotient_JJ_41 rfl (lv_at hl 4 rfl) ?_
      refine pu_l (As := [.long x2]) (rest := []) ⟨hx, hb, hml, hown, hts⟩ (c_I_significand_J l _ x2) pu_pre (gw_call (k := 1) hts tw_100 tw_101 tw_5 tw_102 (by decide +kernel) rfl rfl ⟨Nat.le_of_ble_eq_true rfl, Nat.le_of_ble_eq_true rfl⟩) rfl hl.1 rfl (Nat.le_of_ble_eq_true rfl) ⟨Nat.zero_le _, Nat.zero_le _⟩ d_I_quotient_JJ_42 ?_
      refine lv_iload hx hb d_I_quotient_JJ_45 (lv_at hl 0 rfl) ?_
      refine lv_lshl (v := j_shl (f_I_significand_J x2) v5) hx hb d_I_quotient_JJ_47 rfl ?_
      refine lv_topl (fun v6 e6 => ?_)
      refine lv_lstore (lv' := [(8, .long v6), (7, .int v5), (6, .int v4), (4, .long v3), (0, .long x0), (2, .long x2)]) hx hb d_I_quotient_JJ_48 hl (by decide) rfl (fun ls hl => ?_)
      refine lv_lload hx hb d_I_quotient_JJ_50 (lv_at hl 0 rfl) ?_
      refine lv_lconst (v := (0 : Int64)) hx hb d_I_quotient_JJ_52 (by decide) ?_
      refine W.lcmp hx hb d_I_quotient_JJ_53 ?_
      refine lv_if_ne (tgt := 77) hx hb d_I_quotient_JJ_54 (by decide) (fun c7 => ?_) (fun c7 => ?_)
      · refine lv_lload_n hx hb d_I_quotient_JJ_77 rfl (lv_at hl 4 rfl) ?_
        refine pu_l (As := [.long x0]) (rest := []) ⟨hx, hb, hml, hown, hts⟩ (c_I_significand_J l _ x0) pu_pre (gw_call (k := 1) hts tw_100 tw_101 tw_5 tw_102 (by decide +kernel) rfl rfl ⟨Nat.le_of_ble_eq_true rfl, Nat.le_of_ble_eq_true rfl⟩) rfl hl.1 rfl (Nat.le_of_ble_eq_true rfl) ⟨Nat.zero_le _, Nat.zero_le _⟩ d_I_quotient_JJ_78 ?_
        refine lv_iload hx hb d_I_quotient_JJ_81 (lv_at hl 2 rfl) ?_
        refine lv_lshl (v := j_shl (f_I_significand_J x0) v4) hx hb d_I_quotient_JJ_83 rfl ?_
        refine lv_topl (fun v8 e8 => ?_)
        refine lv_lstore (lv' := [(10, .long v8), (8, .long v6), (7, .int v5), (6, .int v4), (4, .long v3), (0, .long x0), (2, .long x2)]) hx hb d_I_quotient_JJ_84 hl (by decide) rfl (fun ls hl => ?_)
        refine lv_lload hx hb d_I_quotient_JJ_86 (lv_at hl 0 rfl) ?_
        refine lv_lload hx hb d_I_quotient_JJ_88 (lv_at hl 1 rfl) ?_
        refine lv_ldiv hx hb d_I_quotient_JJ_90 (fun h => c7 ((lg_cmp_eq _ _).mpr h)) ?_
        refine lv_topl (fun v9 e9 => ?_)
        refine lv_lstore (lv' := [(12, .long v9), (10, .long v8), (8, .long v6), (7, .int v5), (6, .int v4), (4, .long v3), (0, .long x0), (2, .long x2)]) hx hb d_I_quotient_JJ_91 hl (by decide) rfl (fun ls hl => ?_)
        refine lv_lload hx hb d_I_quotient_JJ_93 (lv_at hl 1 rfl) ?_
        refine lv_lload hx hb d_I_quotient_JJ_95 (lv_at hl 0 rfl) ?_
        refine lv_lload hx hb d_I_quotient_JJ_97 (lv_at hl 2 rfl) ?_
        refine lv_lmul hx hb d_I_quotient_JJ_99 ?_
        refine lv_lsub hx hb d_I_quotient_JJ_100 ?_
        refine lv_topl (fun v10 e10 => ?_)
        refine lv_lstore (lv' := [(14, .long v10), (12, .long v9), (10, .long v8), (8, .long v6), (7, .int v5), (6, .int v4), (4, .long v3), (0, .long x0), (2, .long x2)]) hx hb d_I_quotient_JJ_101 hl (by decide) rfl (fun ls hl => ?_)
        refine lv_iconst (v := 0) hx hb d_I_quotient_JJ_103 (by decide) ?_
        refine lv_istore (lv' := [(16, .int (0 : Int32)), (14, .long v10), (12, .long v9), (10, .long v8), (8, .long v6), (7, .int v5), (6, .int v4), (4, .long v3), (0, .long x0), (2, .long x2)]) hx hb d_I_quotient_JJ_104 hl (by decide) rfl (fun ls hl => ?_)
        refine lv_iload hx hb d_I_quotient_JJ_106 (lv_at hl 0 rfl) ?_
        refine lv_bipush (v := (6 : Int32)) hx hb d_I_quotient_JJ_108 (by decide) ?_
        refine lv_icmp_ge (tgt := 153) hx hb d_I_quotient_JJ_110 (by decide) (fun c0 => absurd c0 (by decide)) (fun _ => ?_)
        refine lv_lload hx hb d_I_quotient_JJ_113 (lv_at hl 1 rfl) ?_
        refine lv_bipush (v := (10 : Int32)) hx hb d_I_quotient_JJ_115 (by decide) ?_
        refine lv_lshl (v := j_shl v10 (10 : Int32)) hx hb d_I_quotient_JJ_117 rfl ?_
        refine lv_topl (fun v11 e11 => ?_)
        refine lv_lstore (lv' := [(17, .long v11), (16, .int (0 : Int32)), (14, .long v10), (12, .long v9), (10, .long v8), (8, .long v6), (7, .int v5), (6, .int v4), (4, .long v3), (0, .long x0), (2, .long x2)]) hx hb d_I_quotient_JJ_118 hl (by decide) rfl (fun ls hl => ?_)
        refine lv_lload hx hb d_I_quotient_JJ_120 (lv_at hl 0 rfl) ?_
        refine lv_lload hx hb d_I_quotient_JJ_122 (lv_at hl 5 rfl) ?_
        refine lv_ldiv hx hb d_I_quotient_JJ_124 (fun h => c7 ((lg_cmp_eq _ _).mpr h)) ?_
        refine lv_topl (fun v12 e12 => ?_)
        refine lv_lstore (lv' := [(19, .long v12), (17, .long v11), (16, .int (0 : Int32)), (14, .long v10), (12, .long v9), (10, .long v8), (8, .long v6), (7, .int v5), (6, .int v4), (4, .long v3), (0, .long x0), (2, .long x2)]) hx hb d_I_quotient_JJ_125 hl (by decide) rfl (fun ls hl => ?_)
        refine lv_lload hx hb d_I_quotient_JJ_127 (lv_at hl 4 rfl) ?_
        refine lv_bipush (v := (10 : Int32)) hx hb d_I_quotient_JJ_129 (by decide) ?_
        refine lv_lshl (v := j_shl v9 (10 : Int32)) hx hb d_I_quotient_JJ_131 rfl ?_
        refine lv_lload hx hb d_I_quotient_JJ_132 (lv_at hl 0 rfl) ?_
        refine lv_lor hx hb d_I_quotient_JJ_134 ?_
        refine lv_topl (fun v13 e13 => ?_)
        refine lv_lstore (lv' := [(12, .long v13), (19, .long v12), (17, .long v11), (16, .int (0 : Int32)), (14, .long v10), (10, .long v8), (8, .long v6), (7, .int v5), (6, .int v4), (4, .long v3), (0, .long x0), (2, .long x2)]) hx hb d_I_quotient_JJ_135 hl (by decide) rfl (fun ls hl => ?_)
        refine lv_lload hx hb d_I_quotient_JJ_137 (lv_at hl 2 rfl) ?_
        refine lv_lload hx hb d_I_quotient_JJ_139 (lv_at hl 1 rfl) ?_
        refine lv_lload hx hb d_I_quotient_JJ_141 (lv_at hl 6 rfl) ?_
        refine lv_lmul hx hb d_I_quotient_JJ_143 ?_
        refine lv_lsub hx hb d_I_quotient_JJ_144 ?_
        refine lv_topl (fun v14 e14 => ?_)
        refine lv_lstore (lv' := [(14, .long v14), (12, .long v13), (19, .long v12), (17, .long v11), (16, .int (0 : Int32)), (10, .long v8), (8, .long v6), (7, .int v5), (6, .int v4), (4, .long v3), (0, .long x0), (2, .long x2)]) hx hb d_I_quotient_JJ_145 hl (by decide) rfl (fun ls hl => ?_)
        refine lv_iinc (v := (1 : Int32)) (lv' := [(16, .int (1 : Int32)), (14, .long v14), (12, .long v13), (19, .long v12), (17, .long v11), (10, .long v8), (8, .long v6), (7, .int v5), (6, .int v4), (4, .long v3), (0, .long x0), (2, .long x2)]) hx hb d_I_quotient_JJ_147 hl (k := 4) rfl (by decide) (by decide) rfl (fun ls hl => ?_)
        refine lv_goto (tgt := 106) hx hb d_I_quotient_JJ_150 (by decide) ?_
        refine lv_iload hx hb d_I_quotient_JJ_106 (lv_at hl 0 rfl) ?_
        refine lv_bipush (v := (6 : Int32)) hx hb d_I_quotient_JJ_108 (by decide) ?_
        refine lv_icmp_ge (tgt := 153) hx hb d_I_quotient_JJ_110 (by decide) (fun c0 => absurd c0 (by decide)) (fun _ => ?_)
        refine lv_lload hx hb d_I_quotient_JJ_113 (lv_at hl 1 rfl) ?_
        refine lv_bipush (v := (10 : Int32)) hx hb d_I_quotient_JJ_115 (by decide) ?_
        refine lv_lshl (v := j_shl v14 (10 : Int32)) hx hb d_I_quotient_JJ_117 rfl ?_
        refine lv_topl (fun v15 e15 => ?_)
        refine lv_lstore (lv' := [(17, .long v15), (16, .int (1 : Int32)), (14, .long v14), (12, .long v13), (19, .long v12), (10, .long v8), (8, .long v6), (7, .int v5), (6, .int v4), (4, .long v3), (0, .long x0), (2, .long x2)]) hx hb d_I_quotient_JJ_118 hl (by decide) rfl (fun ls hl => ?_)
        refine lv_lload hx hb d_I_quotient_JJ_120 (lv_at hl 0 rfl) ?_
        refine lv_lload hx hb d_I_quotient_JJ_122 (lv_at hl 6 rfl) ?_
        refine lv_ldiv hx hb d_I_quotient_JJ_124 (fun h => c7 ((lg_cmp_eq _ _).mpr h)) ?_
        refine lv_topl (fun v16 e16 => ?_)
        refine lv_lstore (lv' := [(19, .long v16), (17, .long v15), (16, .int (1 : Int32)), (14, .long v14), (12, .long v13), (10, .long v8), (8, .long v6), (7, .int v5), (6, .int v4), (4, .long v3), (0, .long x0), (2, .long x2)]) hx hb d_I_quotient_JJ_125 hl (by decide) rfl (fun ls hl => ?_)
        refine lv_lload hx hb d_I_quotient_JJ_127 (lv_at hl 4 rfl) ?_
        refine lv_bipush (v := (10 : Int32)) hx hb d_I_quotient_JJ_129 (by decide) ?_
        refine lv_lshl (v := j_shl v13 (10 : Int32)) hx hb d_I_quotient_JJ_131 rfl ?_
        refine lv_lload hx hb d_I_quotient_JJ_132 (lv_at hl 0 rfl) ?_
        refine lv_lor hx hb d_I_quotient_JJ_134 ?_
        refine lv_topl (fun v17 e17 => ?_)
        refine lv_lstore (lv' := [(12, .long v17), (19, .long v16), (17, .long v15), (16, .int (1 : Int32)), (14, .long v14), (10, .long v8), (8, .long v6), (7, .int v5), (6, .int v4), (4, .long v3), (0, .long x0), (2, .long x2)]) hx hb d_I_quotient_JJ_135 hl (by decide) rfl (fun ls hl => ?_)
        refine lv_lload hx hb d_I_quotient_JJ_137 (lv_at hl 2 rfl) ?_
        refine lv_lload hx hb d_I_quotient_JJ_139 (lv_at hl 1 rfl) ?_
        refine lv_lload hx hb d_I_quotient_JJ_141 (lv_at hl 6 rfl) ?_
        refine lv_lmul hx hb d_I_quotient_JJ_143 ?_
        refine lv_lsub hx hb d_I_quotient_JJ_144 ?_
        refine lv_topl (fun v18 e18 => ?_)
        refine lv_lstore (lv' := [(14, .long v18), (12, .long v17), (19, .long v16), (17, .long v15), (16, .int (1 : Int32)), (10, .long v8), (8, .long v6), (7, .int v5), (6, .int v4), (4, .long v3), (0, .long x0), (2, .long x2)]) hx hb d_I_quotient_JJ_145 hl (by decide) rfl (fun ls hl => ?_)
        refine lv_iinc (v := (2 : Int32)) (lv' := [(16, .int (2 : Int32)), (14, .long v18), (12, .long v17), (19, .long v16), (17, .long v15), (10, .long v8), (8, .long v6), (7, .int v5), (6, .int v4), (4, .long v3), (0, .long x0), (2, .long x2)]) hx hb d_I_quotient_JJ_147 hl (k := 4) rfl (by decide) (by decide) rfl (fun ls hl => ?_)
        refine lv_goto (tgt := 106) hx hb d_I_quotient_JJ_150 (by decide) ?_
        refine lv_iload hx hb d_I_quotient_JJ_106 (lv_at hl 0 rfl) ?_
        refine lv_bipush (v := (6 : Int32)) hx hb d_I_quotient_JJ_108 (by decide) ?_
        refine lv_icmp_ge (tgt := 153) hx hb d_I_quotient_JJ_110 (by decide) (fun c0 => absurd c0 (by decide)) (fun _ => ?_)
        refine lv_lload hx hb d_I_quotient_JJ_113 (lv_at hl 1 rfl) ?_
        refine lv_bipush (v := (10 : Int32)) hx hb d_I_quotient_JJ_115 (by decide) ?_
        refine lv_lshl (v := j_shl v18 (10 : Int32)) hx hb d_I_quotient_JJ_117 rfl ?_
        refine lv_topl (fun v19 e19 => ?_)
        refine lv_lstore (lv' := [(17, .long v19), (16, .int (2 : Int32)), (14, .long v18), (12, .long v17), (19, .long v16), (10, .long v8), (8, .long v6), (7, .int v5), (6, .int v4), (4, .long v3), (0, .long x0), (2, .long x2)]) hx hb d_I_quotient_JJ_118 hl (by decide) rfl (fun ls hl => ?_)
        refine lv_lload hx hb d_I_quotient_JJ_120 (lv_at hl 0 rfl) ?_
        refine lv_lload hx hb d_I_quotient_JJ_122 (lv_at hl 6 rfl) ?_
        refine lv_ldiv hx hb d_I_quotient_JJ_124 (fun h => c7 ((lg_cmp_eq _ _).mpr h)) ?_
        refine lv_topl (fun v20 e20 => ?_)
        refine lv_lstore (lv' := [(19, .long v20), (17, .long v19), (16, .int (2 : Int32)), (14, .long v18), (12, .long v17), (10, .long v8), (8, .long v6), (7, .int v5), (6, .int v4), (4, .long v3), (0, .long x0), (2, .long x2)]) hx hb d_I_quotient_JJ_125 hl (by decide) rfl (fun ls hl => ?_)
        refine lv_lload hx hb d_I_quotient_JJ_127 (lv_at hl 4 rfl) ?_
        refine lv_bipush (v := (10 : Int32)) hx hb d_I_quotient_JJ_129 (by decide) ?_
        refine lv_lshl (v := j_shl v17 (10 : Int32)) hx hb d_I_quotient_JJ_131 rfl ?_
        refine lv_lload hx hb d_I_quotient_JJ_132 (lv_at hl 0 rfl) ?_
        refine lv_lor hx hb d_I_quotient_JJ_134 ?_
        refine lv_topl (fun v21 e21 => ?_)
        refine lv_lstore (lv' := [(12, .long v21), (19, .long v20), (17, .long v19), (16, .int (2 : Int32)), (14, .long v18), (10, .long v8), (8, .long v6), (7, .int v5), (6, .int v4), (4, .long v3), (0, .long x0), (2, .long x2)]) hx hb d_I_quotient_JJ_135 hl (by decide) rfl (fun ls hl => ?_)
        refine lv_lload hx hb d_I_quotient_JJ_137 (lv_at hl 2 rfl) ?_
        refine lv_lload hx hb d_I_quotient_JJ_139 (lv_at hl 1 rfl) ?_
        refine lv_lload hx hb d_I_quotient_JJ_141 (lv_at hl 6 rfl) ?_
        refine lv_lmul hx hb d_I_quotient_JJ_143 ?_
        refine lv_lsub hx hb d_I_quotient_JJ_144 ?_
        refine lv_topl (fun v22 e22 => ?_)
        refine lv_lstore (lv' := [(14, .long v22), (12, .long v21), (19, .long v20), (17, .long v19), (16, .int (2 : Int32)), (10, .long v8), (8, .long v6), (7, .int v5), (6, .int v4), (4, .long v3), (0, .long x0), (2, .long x2)]) hx hb d_I_quotient_JJ_145 hl (by decide) rfl (fun ls hl => ?_)
        refine lv_iinc (v := (3 : Int32)) (lv' := [(16, .int (3 : Int32)), (14, .long v22), (12, .long v21), (19, .long v20), (17, .long v19), (10, .long v8), (8, .long v6), (7, .int v5), (6, .int v4), (4, .long v3), (0, .long x0), (2, .long x2)]) hx hb d_I_quotient_JJ_147 hl (k := 4) rfl (by decide) (by decide) rfl (fun ls hl => ?_)
        refine lv_goto (tgt := 106) hx hb d_I_quotient_JJ_150 (by decide) ?_
        refine lv_iload hx hb d_I_quotient_JJ_106 (lv_at hl 0 rfl) ?_
        refine lv_bipush (v := (6 : Int32)) hx hb d_I_quotient_JJ_108 (by decide) ?_
        refine lv_icmp_ge (tgt := 153) hx hb d_I_quotient_JJ_110 (by decide) (fun c0 => absurd c0 (by decide)) (fun _ => ?_)
        refine lv_lload hx hb d_I_quotient_JJ_113 (lv_at hl 1 rfl) ?_
        refine lv_bipush (v := (10 : Int32)) hx hb d_I_quotient_JJ_115 (by decide) ?_
        refine lv_lshl (v := j_shl v22 (10 : Int32)) hx hb d_I_quotient_JJ_117 rfl ?_
        refine lv_topl (fun v23 e23 => ?_)
        refine lv_lstore (lv' := [(17, .long v23), (16, .int (3 : Int32)), (14, .long v22), (12, .long v21), (19, .long v20), (10, .long v8), (8, .long v6), (7, .int v5), (6, .int v4), (4, .long v3), (0, .long x0), (2, .long x2)]) hx hb d_I_quotient_JJ_118 hl (by decide) rfl (fun ls hl => ?_)
        refine lv_lload hx hb d_I_quotient_JJ_120 (lv_at hl 0 rfl) ?_
        refine lv_lload hx hb d_I_quotient_JJ_122 (lv_at hl 6 rfl) ?_
        refine lv_ldiv hx hb d_I_quotient_JJ_124 (fun h => c7 ((lg_cmp_eq _ _).mpr h)) ?_
        refine lv_topl (fun v24 e24 => ?_)
        refine lv_lstore (lv' := [(19, .long v24), (17, .long v23), (16, .int (3 : Int32)), (14, .long v22), (12, .long v21), (10, .long v8), (8, .long v6), (7, .int v5), (6, .int v4), (4, .long v3), (0, .long x0), (2, .long x2)]) hx hb d_I_quotient_JJ_125 hl (by decide) rfl (fun ls hl => ?_)
        refine lv_lload hx hb d_I_quotient_JJ_127 (lv_at hl 4 rfl) ?_
        refine lv_bipush (v := (10 : Int32)) hx hb d_I_quotient_JJ_129 (by decide) ?_
        refine lv_lshl (v := j_shl v21 (10 : Int32)) hx hb d_I_quotient_JJ_131 rfl ?_
        refine lv_lload hx hb d_I_quotient_JJ_132 (lv_at hl 0 rfl) ?_
        refine lv_lor hx hb d_I_quotient_JJ_134 ?_
        refine lv_topl (fun v25 e25 => ?_)
        refine lv_lstore (lv' := [(12, .long v25), (19, .long v24), (17, .long v23), (16, .int (3 : Int32)), (14, .long v22), (10, .long v8), (8, .long v6), (7, .int v5), (6, .int v4), (4, .long v3), (0, .long x0), (2, .long x2)]) hx hb d_I_quotient_JJ_135 hl (by decide) rfl (fun ls hl => ?_)
        refine lv_lload hx hb d_I_quotient_JJ_137 (lv_at hl 2 rfl) ?_
        refine lv_lload hx hb d_I_quotient_JJ_139 (lv_at hl 1 rfl) ?_
        refine lv_lload hx hb d_I_quotient_JJ_141 (lv_at hl 6 rfl) ?_
        refine lv_lmul hx hb d_I_quotient_JJ_143 ?_
        refine lv_lsub hx hb d_I_quotient_JJ_144 ?_
        refine lv_topl (fun v26 e26 => ?_)
        refine lv_lstore (lv' := [(14, .long v26), (12, .long v25), (19, .long v24), (17, .long v23), (16, .int (3 : Int32)), (10, .long v8), (8, .long v6), (7, .int v5), (6, .int v4), (4, .long v3), (0, .long x0), (2, .long x2)]) hx hb d_I_quotient_JJ_145 hl (by decide) rfl (fun ls hl => ?_)
        refine lv_iinc (v := (4 : Int32)) (lv' := [(16, .int (4 : Int32)), (14, .long v26), (12, .long v25), (19, .long v24), (17, .long v23), (10, .long v8), (8, .long v6), (7, .int v5), (6, .int v4), (4, .long v3), (0, .long x0), (2, .long x2)]) hx hb d_I_quotient_JJ_147 hl (k := 4) rfl (by decide) (by decide) rfl (fun ls hl => ?_)
        refine lv_goto (tgt := 106) hx hb d_I_quotient_JJ_150 (by decide) ?_
        refine lv_iload hx hb d_I_quotient_JJ_106 (lv_at hl 0 rfl) ?_
        refine lv_bipush (v := (6 : Int32)) hx hb d_I_quotient_JJ_108 (by decide) ?_
        refine lv_icmp_ge (tgt := 153) hx hb d_I_quotient_JJ_110 (by decide) (fun c0 => absurd c0 (by decide)) (fun _ => ?_)
        refine lv_lload hx hb d_I_quotient_JJ_113 (lv_at hl 1 rfl) ?_
        refine lv_bipush (v := (10 : Int32)) hx hb d_I_quotient_JJ_115 (by decide) ?_
        refine lv_lshl (v := j_shl v26 (10 : Int32)) hx hb d_I_quotient_JJ_117 rfl ?_
        refine lv_topl (fun v27 e27 => ?_)
        refine lv_lstore (lv' := [(17, .long v27), (16, .int (4 : Int32)), (14, .long v26), (12, .long v25), (19, .long v24), (10, .long v8), (8, .long v6), (7, .int v5), (6, .int v4), (4, .long v3), (0, .long x0), (2, .long x2)]) hx hb d_I_quotient_JJ_118 hl (by decide) rfl (fun ls hl => ?_)
        refine lv_lload hx hb d_I_quotient_JJ_120 (lv_at hl 0 rfl) ?_
        refine lv_lload hx hb d_I_quotient_JJ_122 (lv_at hl 6 rfl) ?_
        refine lv_ldiv hx hb d_I_quotient_JJ_124 (fun h => c7 ((lg_cmp_eq _ _).mpr h)) ?_
        refine lv_topl (fun v28 e28 => ?_)
        refine lv_lstore (lv' := [(19, .long v28), (17, .long v27), (16, .int (4 : Int32)), (14, .long v26), (12, .long v25), (10, .long v8), (8, .long v6), (7, .int v5), (6, .int v4), (4, .long v3), (0, .long x0), (2, .long x2)]) hx hb d_I_quotient_JJ_125 hl (by decide) rfl (fun ls hl => ?_)
        refine lv_lload hx hb d_I_quotient_JJ_127 (lv_at hl 4 rfl) ?_
        refine lv_bipush (v := (10 : Int32)) hx hb d_I_quotient_JJ_129 (by decide) ?_
        refine lv_lshl (v := j_shl v25 (10 : Int32)) hx hb d_I_quotient_JJ_131 rfl ?_
        refine lv_lload hx hb d_I_quotient_JJ_132 (lv_at hl 0 rfl) ?_
        refine lv_lor hx hb d_I_quotient_JJ_134 ?_
        refine lv_topl (fun v29 e29 => ?_)
        refine lv_lstore (lv' := [(12, .long v29), (19, .long v28), (17, .long v27), (16, .int (4 : Int32)), (14, .long v26), (10, .long v8), (8, .long v6), (7, .int v5), (6, .int v4), (4, .long v3), (0, .long x0), (2, .long x2)]) hx hb d_I_quotient_JJ_135 hl (by decide) rfl (fun ls hl => ?_)
        refine lv_lload hx hb d_I_quotient_JJ_137 (lv_at hl 2 rfl) ?_
        refine lv_lload hx hb d_I_quotient_JJ_139 (lv_at hl 1 rfl) ?_
        refine lv_lload hx hb d_I_quotient_JJ_141 (lv_at hl 6 rfl) ?_
        refine lv_lmul hx hb d_I_quotient_JJ_143 ?_
        refine lv_lsub hx hb d_I_quotient_JJ_144 ?_
        refine lv_topl (fun v30 e30 => ?_)
        refine lv_lstore (lv' := [(14, .long v30), (12, .long v29), (19, .long v28), (17, .long v27), (16, .int (4 : Int32)), (10, .long v8), (8, .long v6), (7, .int v5), (6, .int v4), (4, .long v3), (0, .long x0), (2, .long x2)]) hx hb d_I_quotient_JJ_145 hl (by decide) rfl (fun ls hl => ?_)
        refine lv_iinc (v := (5 : Int32)) (lv' := [(16, .int (5 : Int32)), (14, .long v30), (12, .long v29), (19, .long v28), (17, .long v27), (10, .long v8), (8, .long v6), (7, .int v5), (6, .int v4), (4, .long v3), (0, .long x0), (2, .long x2)]) hx hb d_I_quotient_JJ_147 hl (k := 4) rfl (by decide) (by decide) rfl (fun ls hl => ?_)
        refine lv_goto (tgt := 106) hx hb d_I_quotient_JJ_150 (by decide) ?_
        refine lv_iload hx hb d_I_quotient_JJ_106 (lv_at hl 0 rfl) ?_
        refine lv_bipush (v := (6 : Int32)) hx hb d_I_quotient_JJ_108 (by decide) ?_
        refine lv_icmp_ge (tgt := 153) hx hb d_I_quotient_JJ_110 (by decide) (fun c0 => absurd c0 (by decide)) (fun _ => ?_)
        refine lv_lload hx hb d_I_quotient_JJ_113 (lv_at hl 1 rfl) ?_
        refine lv_bipush (v := (10 : Int32)) hx hb d_I_quotient_JJ_115 (by decide) ?_
        refine lv_lshl (v := j_shl v30 (10 : Int32)) hx hb d_I_quotient_JJ_117 rfl ?_
        refine lv_topl (fun v31 e31 => ?_)
        refine lv_lstore (lv' := [(17, .long v31), (16, .int (5 : Int32)), (14, .long v30), (12, .long v29), (19, .long v28), (10, .long v8), (8, .long v6), (7, .int v5), (6, .int v4), (4, .long v3), (0, .long x0), (2, .long x2)]) hx hb d_I_quotient_JJ_118 hl (by decide) rfl (fun ls hl => ?_)
        refine lv_lload hx hb d_I_quotient_JJ_120 (lv_at hl 0 rfl) ?_
        refine lv_lload hx hb d_I_quotient_JJ_122 (lv_at hl 6 rfl) ?_
        refine lv_ldiv hx hb d_I_quotient_JJ_124 (fun h => c7 ((lg_cmp_eq _ _).mpr h)) ?_
        refine lv_topl (fun v32 e32 => ?_)
        refine lv_lstore (lv' := [(19, .long v32), (17, .long v31), (16, .int (5 : Int32)), (14, .long v30), (12, .long v29), (10, .long v8), (8, .long v6), (7, .int v5), (6, .int v4), (4, .long v3), (0, .long x0), (2, .long x2)]) hx hb d_I_quotient_JJ_125 hl (by decide) rfl (fun ls hl => ?_)
        refine lv_lload hx hb d_I_quotient_JJ_127 (lv_at hl 4 rfl) ?_
        refine lv_bipush (v := (10 : Int32)) hx hb d_I_quotient_JJ_129 (by decide) ?_
        refine lv_lshl (v := j_shl v29 (10 : Int32)) hx hb d_I_quotient_JJ_131 rfl ?_
        refine lv_lload hx hb d_I_quotient_JJ_132 (lv_at hl 0 rfl) ?_
        refine lv_lor hx hb d_I_quotient_JJ_134 ?_
        refine lv_topl (fun v33 e33 => ?_)
        refine lv_lstore (lv' := [(12, .long v33), (19, .long v32), (17, .long v31), (16, .int (5 : Int32)), (14, .long v30), (10, .long v8), (8, .long v6), (7, .int v5), (6, .int v4), (4, .long v3), (0, .long x0), (2, .long x2)]) hx hb d_I_quotient_JJ_135 hl (by decide) rfl (fun ls hl => ?_)
        refine lv_lload hx hb d_I_quotient_JJ_137 (lv_at hl 2 rfl) ?_
        refine lv_lload hx hb d_I_quotient_JJ_139 (lv_at hl 1 rfl) ?_
        refine lv_lload hx hb d_I_quotient_JJ_141 (lv_at hl 6 rfl) ?_
        refine lv_lmul hx hb d_I_quotient_JJ_143 ?_
        refine lv_lsub hx hb d_I_quotient_JJ_144 ?_
        refine lv_topl (fun v34 e34 => ?_)
        refine lv_lstore (lv' := [(14, .long v34), (12, .long v33), (19, .long v32), (17, .long v31), (16, .int (5 : Int32)), (10, .long v8), (8, .long v6), (7, .int v5), (6, .int v4), (4, .long v3), (0, .long x0), (2, .long x2)]) hx hb d_I_quotient_JJ_145 hl (by decide) rfl (fun ls hl => ?_)
        refine lv_iinc (v := (6 : Int32)) (lv' := [(16, .int (6 : Int32)), (14, .long v34), (12, .long v33), (19, .long v32), (17, .long v31), (10, .long v8), (8, .long v6), (7, .int v5), (6, .int v4), (4, .long v3), (0, .long x0), (2, .long x2)]) hx hb d_I_quotient_JJ_147 hl (k := 4) rfl (by decide) (by decide) rfl (fun ls hl => ?_)
        refine lv_goto (tgt := 106) hx hb d_I_quotient_JJ_150 (by decide) ?_
        refine lv_iload hx hb d_I_quotient_JJ_106 (lv_at hl 0 rfl) ?_
        refine lv_bipush (v := (6 : Int32)) hx hb d_I_quotient_JJ_108 (by decide) ?_
        refine lv_icmp_ge (tgt := 153) hx hb d_I_quotient_JJ_110 (by decide) (fun _ => ?_) (fun c0 => absurd c0 (by decide))
        refine lv_lload_n hx hb d_I_quotient_JJ_153 rfl (lv_at hl 10 rfl) ?_
        refine pu_i (As := [.long x0]) (rest := []) ⟨hx, hb, hml, hown, hts⟩ (c_I_power_J l _ x0) pu_pre (gw_call (k := 1) hts tw_94 tw_95 tw_5 tw_96 (by decide +kernel) rfl rfl ⟨Nat.le_of_ble_eq_true rfl, Nat.le_of_ble_eq_true rfl⟩) rfl hl.1 rfl (Nat.le_of_ble_eq_true rfl) ⟨Nat.zero_le _, Nat.zero_le _⟩ d_I_quotient_JJ_154 ?_
        refine lv_iload hx hb d_I_quotient_JJ_157 (lv_at hl 8 rfl) ?_
        refine lv_isub hx hb d_I_quotient_JJ_159 ?_
        refine lv_lload_n hx hb d_I_quotient_JJ_160 rfl (lv_at hl 11 rfl) ?_
        refine pu_i (As := [.long x2]) (rest := [.int ((f_I_power_J x0) - v4)]) ⟨hx, hb, hml, hown, hts⟩ (c_I_power_J l _ x2) pu_pre (gw_call (k := 1) hts tw_94 tw_95 tw_5 tw_96 (by decide +kernel) rfl rfl ⟨Nat.le_of_ble_eq_true rfl, Nat.le_of_ble_eq_true rfl⟩) rfl hl.1 rfl (Nat.le_of_ble_eq_true rfl) ⟨Nat.zero_le _, Nat.zero_le _⟩ d_I_quotient_JJ_161 ?_
        refine lv_isub hx hb d_I_quotient_JJ_164 ?_
        refine lv_iload hx hb d_I_quotient_JJ_165 (lv_at hl 7 rfl) ?_
        refine lv_iadd hx hb d_I_quotient_JJ_167 ?_
        refine lv_bipush (v := (60 : Int32)) hx hb d_I_quotient_JJ_168 (by decide) ?_
        refine lv_isub hx hb d_I_quotient_JJ_170 ?_
        refine lv_topi (fun v35 e35 => ?_)
        refine lv_istore (lv' := [(16, .int v35), (14, .long v34), (12, .long v33), (19, .long v32), (17, .long v31), (10, .long v8), (8, .long v6), (7, .int v5), (6, .int v4), (4, .long v3), (0, .long x0), (2, .long x2)]) hx hb d_I_quotient_JJ_171 hl (by decide) rfl (fun ls hl => ?_)
        refine lv_lload hx hb d_I_quotient_JJ_173 (lv_at hl 9 rfl) ?_
        refine lv_iload hx hb d_I_quotient_JJ_175 (lv_at hl 0 rfl) ?_
        refine lv_lload hx hb d_I_quotient_JJ_177 (lv_at hl 1 rfl) ?_
        refine lv_lconst (v := (0 : Int64)) hx hb d_I_quotient_JJ_179 (by decide) ?_
        refine W.lcmp hx hb d_I_quotient_JJ_180 ?_
        refine lv_if_ne (tgt := 189) hx hb d_I_quotient_JJ_181 (by decide) (fun c36 => ?_) (fun c36 => ?_)
        · refine lv_lload hx hb d_I_quotient_JJ_189 (lv_at hl 2 rfl) ?_
          refine lv_lconst (v := (1 : Int64)) hx hb d_I_quotient_JJ_191 (by decide) ?_
          refine lv_lor hx hb d_I_quotient_JJ_192 ?_
          refine pu_l (As := [.long v3, .int v35, .long (v33 ||| (1 : Int64))]) (rest := []) ⟨hx, hb, hml, hown, hts⟩ (c_I_nearest_JIJ l _ v3 v35 (v33 ||| (1 : Int64))) pu_pre (gw_call (k := 3) hts tw_115 tw_116 tw_5 tw_117 (by decide +kernel) rfl rfl ⟨Nat.le_of_ble_eq_true rfl, Nat.le_of_ble_eq_true rfl⟩) rfl hl.1 rfl (Nat.le_of_ble_eq_true rfl) ⟨Nat.zero_le _, Nat.zero_le _⟩ d_I_quotient_JJ_193 ?_
          exact pu_lret hx hb hr hlocks d_I_quotient_JJ_196 (by have qe3 := e3.symm; have qe4 := e4.symm; have qe5 := e5.symm; have qe6 := e6.symm; have qe8 := e8.symm; have qe9 := e9.symm; have qe10 := e10.symm; have qe11 := e11.symm; have qe12 := e12.symm; have qe13 := e13.symm; have qe14 := e14.symm; have qe15 := e15.symm; have qe16 := e16.symm; have qe17 := e17.symm; have qe18 := e18.symm; have qe19 := e19.symm; have qe20 := e20.symm; have qe21 := e21.symm; have qe22 := e22.symm; have qe23 := e23.symm; have qe24 := e24.symm; have qe25 := e25.symm; have qe26 := e26.symm; have qe27 := e27.symm; have qe28 := e28.symm; have qe29 := e29.symm; have qe30 := e30.symm; have qe31 := e31.symm; have qe32 := e32.symm; have qe33 := e33.symm; have qe34 := e34.symm; have qe35 := e35.symm; subst qe3 qe4 qe5 qe6 qe8 qe9 qe10 qe11 qe12 qe13 qe14 qe15 qe16 qe17 qe18 qe19 qe20 qe21 qe22 qe23 qe24 qe25 qe26 qe27 qe28 qe29 qe30 qe31 qe32 qe33 qe34 qe35; exact Eq.symm (Eq.trans (if_neg c1) (Eq.trans (if_neg c2) (Eq.trans (if_neg c7) (if_neg c36)))))
        · refine lv_lload hx hb d_I_quotient_JJ_184 (lv_at hl 2 rfl) ?_
          refine lv_goto (tgt := 193) hx hb d_I_quotient_JJ_186 (by decide) ?_
          refine pu_l (As := [.long v3, .int v35, .long v33]) (rest := []) ⟨hx, hb, hml, hown, hts⟩ (c_I_nearest_JIJ l _ v3 v35 v33) pu_pre (gw_call (k := 3) hts tw_115 tw_116 tw_5 tw_117 (by decide +kernel) rfl rfl ⟨Nat.le_of_ble_eq_true rfl, Nat.le_of_ble_eq_true rfl⟩) rfl hl.1 rfl (Nat.le_of_ble_eq_true rfl) ⟨Nat.zero_le _, Nat.zero_le _⟩ d_I_quotient_JJ_193 ?_
          exact pu_lret hx hb hr hlocks d_I_quotient_JJ_196 (by have qe3 := e3.symm; have qe4 := e4.symm; have qe5 := e5.symm; have qe6 := e6.symm; have qe8 := e8.symm; have qe9 := e9.symm; have qe10 := e10.symm; have qe11 := e11.symm; have qe12 := e12.symm; have qe13 := e13.symm; have qe14 := e14.symm; have qe15 := e15.symm; have qe16 := e16.symm; have qe17 := e17.symm; have qe18 := e18.symm; have qe19 := e19.symm; have qe20 := e20.symm; have qe21 := e21.symm; have qe22 := e22.symm; have qe23 := e23.symm; have qe24 := e24.symm; have qe25 := e25.symm; have qe26 := e26.symm; have qe27 := e27.symm; have qe28 := e28.symm; have qe29 := e29.symm; have qe30 := e30.symm; have qe31 := e31.symm; have qe32 := e32.symm; have qe33 := e33.symm; have qe34 := e34.symm; have qe35 := e35.symm; subst qe3 qe4 qe5 qe6 qe8 qe9 qe10 qe11 qe12 qe13 qe14 qe15 qe16 qe17 qe18 qe19 qe20 qe21 qe22 qe23 qe24 qe25 qe26 qe27 qe28 qe29 qe30 qe31 qe32 qe33 qe34 qe35; exact Eq.symm (Eq.trans (if_neg c1) (Eq.trans (if_neg c2) (Eq.trans (if_neg c7) (if_pos c36)))))
      · refine lv_lload_n hx hb d_I_quotient_JJ_57 rfl (lv_at hl 4 rfl) ?_
        refine pu_i (As := [.long x0]) (rest := []) ⟨hx, hb, hml, hown, hts⟩ (c_I_isZero_J l _ x0) pu_pre (gw_call (k := 1) hts tw_177 tw_178 tw_5 tw_179 (by decide +kernel) rfl rfl ⟨Nat.le_of_ble_eq_true rfl, Nat.le_of_ble_eq_true rfl⟩) rfl hl.1 rfl (Nat.le_of_ble_eq_true rfl) ⟨Nat.zero_le _, Nat.zero_le _⟩ d_I_quotient_JJ_58 ?_
        refine lv_if_eq (tgt := 70) hx hb d_I_quotient_JJ_61 (by decide) (fun c37 => ?_) (fun c37 => ?_)
        · refine lv_lload hx hb d_I_quotient_JJ_70 (lv_at hl 3 rfl) ?_
          refine lv_ldc2 (v := (9218868437227405312 : Int64)) hx hb hown (hts _ (gm tw_85)) d_I_quotient_JJ_72 ?_
          refine lv_lor hx hb d_I_quotient_JJ_75 ?_
          exact pu_lret hx hb hr hlocks d_I_quotient_JJ_76 (by have qe3 := e3.symm; have qe4 := e4.symm; have qe5 := e5.symm; have qe6 := e6.symm; subst qe3 qe4 qe5 qe6; exact Eq.symm (Eq.trans (if_neg c1) (Eq.trans (if_neg c2) (Eq.trans (if_pos c7) (if_pos c37)))))
        · refine lv_ldc2 (v := (9221120237041090560 : Int64)) hx hb hown (hts _ (gm tw_92)) d_I_quotient_JJ_64 ?_
          refine lv_goto (tgt := 76) hx hb d_I_quotient_JJ_67 (by decide) ?_
          exact pu_lret hx hb hr hlocks d_I_quotient_JJ_76 (by have qe3 := e3.symm; have qe4 := e4.symm; have qe5 := e5.symm; have qe6 := e6.symm; subst qe3 qe4 qe5 qe6; exact Eq.symm (Eq.trans (if_neg c1) (Eq.trans (if_neg c2) (Eq.trans (if_pos c7) (if_neg c37)))))
    · refine lv_lload_n hx hb d_I_quotient_JJ_14 rfl (lv_at hl 0 rfl) ?_
      refine lv_lload_n hx hb d_I_quotient_JJ_15 rfl (lv_at hl 1 rfl) ?_
      refine pu_l (As := [.long x0, .long x2]) (rest := []) ⟨hx, hb, hml, hown, hts⟩ (c_I_unendingQuotient_JJ l _ x0 x2) pu_pre (gw_call (k := 2) hts tw_226 tw_227 tw_5 tw_228 (by decide +kernel) rfl rfl ⟨Nat.le_of_ble_eq_true rfl, Nat.le_of_ble_eq_true rfl⟩) rfl hl.1 rfl (Nat.le_of_ble_eq_true rfl) ⟨Nat.zero_le _, Nat.zero_le _⟩ d_I_quotient_JJ_16 ?_
      exact pu_lret hx hb hr hlocks d_I_quotient_JJ_19 (by exact Eq.symm (Eq.trans (if_neg c1) (if_pos c2)))
-- ===== MotionLab$Ieee.root(J)J
abbrev y_I_root_J : MethodName := ⟨"MotionLab$Ieee", "root", "(J)J"⟩
abbrev b_I_root_J : ByteArray := prog_2_method_22_code
theorem d_I_root_J_0 : decode b_I_root_J 0 = .ok (.lload_n 0, 1) := by decide +kernel
theorem d_I_root_J_1 : decode b_I_root_J 1 = .ok (.lconst 0, 1) := by decide +kernel
theorem d_I_root_J_2 : decode b_I_root_J 2 = .ok (.lcmp, 1) := by decide +kernel
theorem d_I_root_J_3 : decode b_I_root_J 3 = .ok (.ifCond .le 11, 3) := by decide +kernel
theorem d_I_root_J_6 : decode b_I_root_J 6 = .ok (.lload_n 0, 1) := by decide +kernel
theorem d_I_root_J_7 : decode b_I_root_J 7 = .ok (.ldc2_w 11, 3) := by decide +kernel
theorem d_I_root_J_10 : decode b_I_root_J 10 = .ok (.lcmp, 1) := by decide +kernel
theorem d_I_root_J_11 : decode b_I_root_J 11 = .ok (.ifCond .lt 5, 3) := by decide +kernel
theorem d_I_root_J_14 : decode b_I_root_J 14 = .ok (.lload_n 0, 1) := by decide +kernel
theorem d_I_root_J_15 : decode b_I_root_J 15 = .ok (.lreturn, 1) := by decide +kernel
theorem d_I_root_J_16 : decode b_I_root_J 16 = .ok (.lload_n 0, 1) := by decide +kernel
theorem d_I_root_J_17 : decode b_I_root_J 17 = .ok (.iconst 1, 1) := by decide +kernel
theorem d_I_root_J_18 : decode b_I_root_J 18 = .ok (.lushr, 1) := by decide +kernel
theorem d_I_root_J_19 : decode b_I_root_J 19 = .ok (.ldc2_w 87, 3) := by decide +kernel
theorem d_I_root_J_22 : decode b_I_root_J 22 = .ok (.ladd, 1) := by decide +kernel
theorem d_I_root_J_23 : decode b_I_root_J 23 = .ok (.lstore_n 2, 1) := by decide +kernel
theorem d_I_root_J_24 : decode b_I_root_J 24 = .ok (.iconst 0, 1) := by decide +kernel
theorem d_I_root_J_25 : decode b_I_root_J 25 = .ok (.istore 4, 2) := by decide +kernel
theorem d_I_root_J_27 : decode b_I_root_J 27 = .ok (.iload 4, 2) := by decide +kernel
theorem d_I_root_J_29 : decode b_I_root_J 29 = .ok (.iconst 5, 1) := by decide +kernel
theorem d_I_root_J_30 : decode b_I_root_J 30 = .ok (.if_icmp .ge 25, 3) := by decide +kernel
theorem d_I_root_J_33 : decode b_I_root_J 33 = .ok (.lload_n 2, 1) := by decide +kernel
theorem d_I_root_J_34 : decode b_I_root_J 34 = .ok (.lload_n 0, 1) := by decide +kernel
theorem d_I_root_J_35 : decode b_I_root_J 35 = .ok (.lload_n 2, 1) := by decide +kernel
theorem d_I_root_J_36 : decode b_I_root_J 36 = .ok (.invokestatic 89, 3) := by decide +kernel
theorem d_I_root_J_39 : decode b_I_root_J 39 = .ok (.invokestatic 59, 3) := by decide +kernel
theorem d_I_root_J_42 : decode b_I_root_J 42 = .ok (.ldc2_w 92, 3) := by decide +kernel
theorem d_I_root_J_45 : decode b_I_root_J 45 = .ok (.invokestatic 75, 3) := by decide +kernel
theorem d_I_root_J_48 : decode b_I_root_J 48 = .ok (.lstore_n 2, 1) := by decide +kernel
theorem d_I_root_J_49 : decode b_I_root_J 49 = .ok (.iinc 4 1, 3) := by decide +kernel
theorem d_I_root_J_52 : decode b_I_root_J 52 = .ok (.goto (-25), 3) := by decide +kernel
theorem d_I_root_J_55 : decode b_I_root_J 55 = .ok (.lload_n 2, 1) := by decide +kernel
theorem d_I_root_J_56 : decode b_I_root_J 56 = .ok (.lreturn, 1) := by decide +kernel
def f_I_root_J (x0 : Int64) : Int64 :=
  if (lg_cmp x0 (0 : Int64)) ≤ 0 then
    x0
  else
    if (lg_cmp x0 (9218868437227405312 : Int64)) < 0 then
      let v3 : Int64 := (j_ushr x0 (1 : Int32)) + (2303591209400008704 : Int64)
      let v4 : Int64 := f_I_product_JJ (f_I_sum_JJ v3 (f_I_quotient_JJ x0 v3)) (4602678819172646912 : Int64)
      let v5 : Int64 := f_I_product_JJ (f_I_sum_JJ v4 (f_I_quotient_JJ x0 v4)) (4602678819172646912 : Int64)
      let v6 : Int64 := f_I_product_JJ (f_I_sum_JJ v5 (f_I_quotient_JJ x0 v5)) (4602678819172646912 : Int64)
      let v7 : Int64 := f_I_product_JJ (f_I_sum_JJ v6 (f_I_quotient_JJ x0 v6)) (4602678819172646912 : Int64)
      let v8 : Int64 := f_I_product_JJ (f_I_sum_JJ v7 (f_I_quotient_JJ x0 v7)) (4602678819172646912 : Int64)
      v8
    else
      x0
set_option maxHeartbeats 4000000 in
set_option maxRecDepth 100000 in
theorem c_I_root_J (l : Launch) (h : Heap) (x0 : Int64) : Met l y_I_root_J (gw y_I_root_J b_I_root_J 5 (some .long)) { frames := 4, cells := 0, slots := 0, locals := 109 } (pu_Pc [.long x0] h) (pu_Ml (f_I_root_J x0) h) 0 0 (fun _ => False) := by
  refine Met.ofW (cc := b_I_root_J) (maxL := 5) (ret := (some .long)) (by decide) rfl ?_
  intro p e s m args below meth c s₁ B hml hv
  obtain ⟨rfl, hh⟩ := hv
  subst hh
  have hx := B.exec
  have hb := B.bytes
  have hr := B.returns
  have hts := atoms_spec (ws := (gw y_I_root_J b_I_root_J 5 (some .long))) B.pre
  have hown : s.vm.findClass "MotionLab$Ieee" = some m.cls := findClass_of_methodNamed B.named
  have hlocks := B.notSynchronized
  have C0 : pu_C p s m _ meth c b_I_root_J 5 "MotionLab$Ieee" (some .long) (gw y_I_root_J b_I_root_J 5 (some .long)) := ⟨hx, hb, hml, hown, hts, hr, hlocks⟩
  have hl := lv_entry ([.long x0]) (n := 5) (Nat.le_of_ble_eq_true rfl)
  rw [lg_entry_eq]
  generalize (lg_sl ([.long x0]) ++ List.replicate (5 - (lg_sl ([.long x0])).length) Slot.unset).toArray = ls at hl ⊢
  have hl : lv_has ls 5 [(0, .long x0)] := hl
  refine lv_lload_n hx hb d_I_root_J_0 rfl (lv_at hl 0 rfl) ?_
  refine lv_lconst (v := (0 : Int64)) hx hb d_I_root_J_1 (by decide) ?_
  refine W.lcmp hx hb d_I_root_J_2 ?_
  refine lv_if_le (tgt := 14) hx hb d_I_root_J_3 (by decide) (fun c1 => ?_) (fun c1 => ?_)
  · refine lv_lload_n hx hb d_I_root_J_14 rfl (lv_at hl 0 rfl) ?_
    exact pu_lret hx hb hr hlocks d_I_root_J_15 (by exact Eq.symm (if_pos c1))
  · refine lv_lload_n hx hb d_I_root_J_6 rfl (lv_at hl 0 rfl) ?_
    refine lv_ldc2 (v := (9218868437227405312 : Int64)) hx hb hown (hts _ (gm tw_85)) d_I_root_J_7 ?_
    refine W.lcmp hx hb d_I_root_J_10 ?_
    refine lv_if_lt (tgt := 16) hx hb d_I_root_J_11 (by decide) (fun c2 => ?_) (fun c2 => ?_)
    · refine lv_lload_n hx hb d_I_root_J_16 rfl (lv_at hl 0 rfl) ?_
      refine lv_iconst (v := 1) hx hb d_I_root_J_17 (by decide) ?_
      refine lv_lushr (v := j_ushr x0 (1 : Int32)) hx hb d_I_root_J_18 rfl ?_
      refine lv_ldc2 (v := (2303591209400008704 : Int64)) hx hb hown (hts _ (gm tw_222)) d_I_root_J_19 ?_
      refine lv_ladd hx hb d_I_root_J_22 ?_
      refine lv_topl (fun v3 e3 => ?_)
      refine lv_lstore_n (lv' := [(2, .long v3), (0, .long x0)]) hx hb d_I_root_J_23 rfl hl (by decide) rfl (fun ls hl => ?_)
      refine lv_iconst (v := 0) hx hb d_I_root_J_24 (by decide) ?_
      refine lv_istore (lv' := [(4, .int (0 : Int32)), (2, .long v3), (0, .long x0)]) hx hb d_I_root_J_25 hl (by decide) rfl (fun ls hl => ?_)
      refine lv_iload hx hb d_I_root_J_27 (lv_at hl 0 rfl) ?_
      refine lv_iconst (v := 5) hx hb d_I_root_J_29 (by decide) ?_
      refine lv_icmp_ge (tgt := 55) hx hb d_I_root_J_30 (by decide) (fun c0 => absurd c0 (by decide)) (fun _ => ?_)
      refine lv_lload_n hx hb d_I_root_J_33 rfl (lv_at hl 1 rfl) ?_
      refine lv_lload_n hx hb d_I_root_J_34 rfl (lv_at hl 2 rfl) ?_
      refine lv_lload_n hx hb d_I_root_J_35 rfl (lv_at hl 1 rfl) ?_
      refine pu_l (As := [.long x0, .long v3]) (rest := [.long v3]) ⟨hx, hb, hml, hown, hts⟩ (c_I_quotient_JJ l _ x0 v3) pu_pre (gw_call (k := 2) hts tw_223 tw_224 tw_5 tw_225 (by decide +kernel) rfl rfl ⟨Nat.le_of_ble_eq_true rfl, Nat.le_of_ble_eq_true rfl⟩) rfl hl.1 rfl (Nat.le_of_ble_eq_true rfl) ⟨Nat.zero_le _, Nat.zero_le _⟩ d_I_root_J_36 ?_
      refine pu_l (As := [.long v3, .long (f_I_quotient_JJ x0 v3)]) (rest := []) ⟨hx, hb, hml, hown, hts⟩ (c_I_sum_JJ l _ v3 (f_I_quotient_JJ x0 v3)) pu_pre (gw_call (k := 2) hts tw_191 tw_192 tw_5 tw_193 (by decide +kernel) rfl rfl ⟨Nat.le_of_ble_eq_true rfl, Nat.le_of_ble_eq_true rfl⟩) rfl hl.1 rfl (Nat.le_of_ble_eq_true rfl) ⟨Nat.zero_le _, Nat.zero_le _⟩ d_I_root_J_39 ?_
      refine lv_ldc2 (v := (4602678819172646912 : Int64)) hx hb hown (hts _ (gm tw_229)) d_I_root_J_42 ?_
      refine pu_l (As := [.long (f_I_sum_JJ v3 (f_I_quotient_JJ x0 v3)), .long (4602678819172646912 : Int64)]) (rest := []) ⟨hx, hb, hml, hown, hts⟩ (c_I_product_JJ l _ (f_I_sum_JJ v3 (f_I_quotient_JJ x0 v3)) (4602678819172646912 : Int64)) pu_pre (gw_call (k := 2) hts tw_218 tw_175 tw_5 tw_176 (by decide +kernel) rfl rfl ⟨Nat.le_of_ble_eq_true rfl, Nat.le_of_ble_eq_true rfl⟩) rfl hl.1 rfl (Nat.le_of_ble_eq_true rfl) ⟨Nat.zero_le _, Nat.zero_le _⟩ d_I_root_J_45 ?_
      refine lv_topl (fun v4 e4 => ?_)
      refine lv_lstore_n (lv' := [(2, .long v4), (4, .int (0 : Int32)), (0, .long x0)]) hx hb d_I_root_J_48 rfl hl (by decide) rfl (fun ls hl => ?_)
      refine lv_iinc (v := (1 : Int32)) (lv' := [(4, .int (1 : Int32)), (2, .long v4), (0, .long x0)]) hx hb d_I_root_J_49 hl (k := 1) rfl (by decide) (by decide) rfl (fun ls hl => ?_)
      refine lv_goto (tgt := 27) hx hb d_I_root_J_52 (by decide) ?_
      refine lv_iload hx hb d_I_root_J_27 (lv_at hl 0 rfl) ?_
      refine lv_iconst (v := 5) hx hb d_I_root_J_29 (by decide) ?_
      refine lv_icmp_ge (tgt := 55) hx hb d_I_root_J_30 (by decide) (fun c0 => absurd c0 (by decide)) (fun _ => ?_)
      refine lv_lload_n hx hb d_I_root_J_33 rfl (lv_at hl 1 rfl) ?_
      refine lv_lload_n hx hb d_I_root_J_34 rfl (lv_at hl 2 rfl) ?_
      refine lv_lload_n hx hb d_I_root_J_35 rfl (lv_at hl 1 rfl) ?_
      refine pu_l (As := [.long x0, .long v4]) (rest := [.long v4]) ⟨hx, hb, hml, hown, hts⟩ (c_I_quotient_JJ l _ x0 v4) pu_pre (gw_call (k := 2) hts tw_223 tw_224 tw_5 tw_225 (by decide +kernel) rfl rfl ⟨Nat.le_of_ble_eq_true rfl, Nat.le_of_ble_eq_true rfl⟩) rfl hl.1 rfl (Nat.le_of_ble_eq_true rfl) ⟨Nat.zero_le _, Nat.zero_le _⟩ d_I_root_J_36 ?_
      refine pu_l (As := [.long v4, .long (f_I_quotient_JJ x0 v4)]) (rest := []) ⟨hx, hb, hml, hown, hts⟩ (c_I_sum_JJ l _ v4 (f_I_quotient_JJ x0 v4)) pu_pre (gw_call (k := 2) hts tw_191 tw_192 tw_5 tw_193 (by decide +kernel) rfl rfl ⟨Nat.le_of_ble_eq_true rfl, Nat.le_of_ble_eq_true rfl⟩) rfl hl.1 rfl (Nat.le_of_ble_eq_true rfl) ⟨Nat.zero_le _, Nat.zero_le _⟩ d_I_root_J_39 ?_
      refine lv_ldc2 (v := (4602678819172646912 : Int64)) hx hb hown (hts _ (gm tw_229)) d_I_root_J_42 ?_
      refine pu_l (As := [.long (f_I_sum_JJ v4 (f_I_quotient_JJ x0 v4)), .long (4602678819172646912 : Int64)]) (rest := []) ⟨hx, hb, hml, hown, hts⟩ (c_I_product_JJ l _ (f_I_sum_JJ v4 (f_I_quotient_JJ x0 v4)) (4602678819172646912 : Int64)) pu_pre (gw_call (k := 2) hts tw_218 tw_175 tw_5 tw_176 (by decide +kernel) rfl rfl ⟨Nat.le_of_ble_eq_true rfl, Nat.le_of_ble_eq_true rfl⟩) rfl hl.1 rfl (Nat.le_of_ble_eq_true rfl) ⟨Nat.zero_le _, Nat.zero_le _⟩ d_I_root_J_45 ?_
      refine lv_topl (fun v5 e5 => ?_)
      refine lv_lstore_n (lv' := [(2, .long v5), (4, .int (1 : Int32)), (0, .long x0)]) hx hb d_I_root_J_48 rfl hl (by decide) rfl (fun ls hl => ?_)
      refine lv_iinc (v := (2 : Int32)) (lv' := [(4, .int (2 : Int32)), (2, .long v5), (0, .long x0)]) hx hb d_I_root_J_49 hl (k := 1) rfl (by decide) (by decide) rfl (fun ls hl => ?_)
      refine lv_goto (tgt := 27) hx hb d_I_root_J_52 (by decide) ?_
      refine lv_iload hx hb d_I_root_J_27 (lv_at hl 0 rfl) ?_
      refine lv_iconst (v := 5) hx hb d_I_root_J_29 (by decide) ?_
      refine lv_icmp_ge (tgt := 55) hx hb d_I_root_J_30 (by decide) (fun c0 => absurd c0 (by decide)) (fun _ => ?_)
      refine lv_lload_n hx hb d_I_root_J_33 rfl (lv_at hl 1 rfl) ?_
      refine lv_lload_n hx hb d_I_root_J_34 rfl (lv_at hl 2 rfl) ?_
      refine lv_lload_n hx hb d_I_root_J_35 rfl (lv_at hl 1 rfl) ?_
      refine pu_l (As := [.long x0, .long v5]) (rest := [.long v5]) ⟨hx, hb, hml, hown, hts⟩ (c_I_quotient_JJ l _ x0 v5) pu_pre (gw_call (k := 2) hts tw_223 tw_224 tw_5 tw_225 (by decide +kernel) rfl rfl ⟨Nat.le_of_ble_eq_true rfl, Nat.le_of_ble_eq_true rfl⟩) rfl hl.1 rfl (Nat.le_of_ble_eq_true rfl) ⟨Nat.zero_le _, Nat.zero_le _⟩ d_I_root_J_36 ?_
      refine pu_l (As := [.long v5, .long (f_I_quotient_JJ x0 v5)]) (rest := []) ⟨hx, hb, hml, hown, hts⟩ (c_I_sum_JJ l _ v5 (f_I_quotient_JJ x0 v5)) pu_pre (gw_call (k := 2) hts tw_191 tw_192 tw_5 tw_193 (by decide +kernel) rfl rfl ⟨Nat.le_of_ble_eq_true rfl, Nat.le_of_ble_eq_true rfl⟩) rfl hl.1 rfl (Nat.le_of_ble_eq_true rfl) ⟨Nat.zero_le _, Nat.zero_le _⟩ d_I_root_J_39 ?_
      refine lv_ldc2 (v := (4602678819172646912 : Int64)) hx hb hown (hts _ (gm tw_229)) d_I_root_J_42 ?_
      refine pu_l (As := [.long (f_I_sum_JJ v5 (f_I_quotient_JJ x0 v5)), .long (4602678819172646912 : Int64)]) (rest := []) ⟨hx, hb, hml, hown, hts⟩ (c_I_product_JJ l _ (f_I_sum_JJ v5 (f_I_quotient_JJ x0 v5)) (4602678819172646912 : Int64)) pu_pre (gw_call (k := 2) hts tw_218 tw_175 tw_5 tw_176 (by decide +kernel) rfl rfl ⟨Nat.le_of_ble_eq_true rfl, Nat.le_of_ble_eq_true rfl⟩) rfl hl.1 rfl (Nat.le_of_ble_eq_true rfl) ⟨Nat.zero_le _, Nat.zero_le _⟩ d_I_root_J_45 ?_
      refine lv_topl (fun v6 e6 => ?_)
      refine lv_lstore_n (lv' := [(2, .long v6), (4, .int (2 : Int32)), (0, .long x0)]) hx hb d_I_root_J_48 rfl hl (by decide) rfl (fun ls hl => ?_)
      refine lv_iinc (v := (3 : Int32)) (lv' := [(4, .int (3 : Int32)), (2, .long v6), (0, .long x0)]) hx hb d_I_root_J_49 hl (k := 1) rfl (by decide) (by decide) rfl (fun ls hl => ?_)
      refine lv_goto (tgt := 27) hx hb d_I_root_J_52 (by decide) ?_
      refine lv_iload hx hb d_I_root_J_27 (lv_at hl 0 rfl) ?_
      refine lv_iconst (v := 5) hx hb d_I_root_J_29 (by decide) ?_
      refine lv_icmp_ge (tgt := 55) hx hb d_I_root_J_30 (by decide) (fun c0 => absurd c0 (by decide)) (fun _ => ?_)
      refine lv_lload_n hx hb d_I_root_J_33 rfl (lv_at hl 1 rfl) ?_
      refine lv_lload_n hx hb d_I_root_J_34 rfl (lv_at hl 2 rfl) ?_
      refine lv_lload_n hx hb d_I_root_J_35 rfl (lv_at hl 1 rfl) ?_
      refine pu_l (As := [.long x0, .long v6]) (rest := [.long v6]) ⟨hx, hb, hml, hown, hts⟩ (c_I_quotient_JJ l _ x0 v6) pu_pre (gw_call (k := 2) hts tw_223 tw_224 tw_5 tw_225 (by decide +kernel) rfl rfl ⟨Nat.le_of_ble_eq_true rfl, Nat.le_of_ble_eq_true rfl⟩) rfl hl.1 rfl (Nat.le_of_ble_eq_true rfl) ⟨Nat.zero_le _, Nat.zero_le _⟩ d_I_root_J_36 ?_
      refine pu_l (As := [.long v6, .long (f_I_quotient_JJ x0 v6)]) (rest := []) ⟨hx, hb, hml, hown, hts⟩ (c_I_sum_JJ l _ v6 (f_I_quotient_JJ x0 v6)) pu_pre (gw_call (k := 2) hts tw_191 tw_192 tw_5 tw_193 (by decide +kernel) rfl rfl ⟨Nat.le_of_ble_eq_true rfl, Nat.le_of_ble_eq_true rfl⟩) rfl hl.1 rfl (Nat.le_of_ble_eq_true rfl) ⟨Nat.zero_le _, Nat.zero_le _⟩ d_I_root_J_39 ?_
      refine lv_ldc2 (v := (4602678819172646912 : Int64)) hx hb hown (hts _ (gm tw_229)) d_I_root_J_42 ?_
      refine pu_l (As := [.long (f_I_sum_JJ v6 (f_I_quotient_JJ x0 v6)), .long (4602678819172646912 : Int64)]) (rest := []) ⟨hx, hb, hml, hown, hts⟩ (c_I_product_JJ l _ (f_I_sum_JJ v6 (f_I_quotient_JJ x0 v6)) (4602678819172646912 : Int64)) pu_pre (gw_call (k := 2) hts tw_218 tw_175 tw_5 tw_176 (by decide +kernel) rfl rfl ⟨Nat.le_of_ble_eq_true rfl, Nat.le_of_ble_eq_true rfl⟩) rfl hl.1 rfl (Nat.le_of_ble_eq_true rfl) ⟨Nat.zero_le _, Nat.zero_le _⟩ d_I_root_J_45 ?_
      refine lv_topl (fun v7 e7 => ?_)
      refine lv_lstore_n (lv' := [(2, .long v7), (4, .int (3 : Int32)), (0, .long x0)]) hx hb d_I_root_J_48 rfl hl (by decide) rfl (fun ls hl => ?_)
      refine lv_iinc (v := (4 : Int32)) (lv' := [(4, .int (4 : Int32)), (2, .long v7), (0, .long x0)]) hx hb d_I_root_J_49 hl (k := 1) rfl (by decide) (by decide) rfl (fun ls hl => ?_)
      refine lv_goto (tgt := 27) hx hb d_I_root_J_52 (by decide) ?_
      refine lv_iload hx hb d_I_root_J_27 (lv_at hl 0 rfl) ?_
      refine lv_iconst (v := 5) hx hb d_I_root_J_29 (by decide) ?_
      refine lv_icmp_ge (tgt := 55) hx hb d_I_root_J_30 (by decide) (fun c0 => absurd c0 (by decide)) (fun _ => ?_)
      refine lv_lload_n hx hb d_I_root_J_33 rfl (lv_at hl 1 rfl) ?_
      refine lv_lload_n hx hb d_I_root_J_34 rfl (lv_at hl 2 rfl) ?_
      refine lv_lload_n hx hb d_I_root_J_35 rfl (lv_at hl 1 rfl) ?_
      refine pu_l (As := [.long x0, .long v7]) (rest := [.long v7]) ⟨hx, hb, hml, hown, hts⟩ (c_I_quotient_JJ l _ x0 v7) pu_pre (gw_call (k := 2) hts tw_223 tw_224 tw_5 tw_225 (by decide +kernel) rfl rfl ⟨Nat.le_of_ble_eq_true rfl, Nat.le_of_ble_eq_true rfl⟩) rfl hl.1 rfl (Nat.le_of_ble_eq_true rfl) ⟨Nat.zero_le _, Nat.zero_le _⟩ d_I_root_J_36 ?_
      refine pu_l (As := [.long v7, .long (f_I_quotient_JJ x0 v7)]) (rest := []) ⟨hx, hb, hml, hown, hts⟩ (c_I_sum_JJ l _ v7 (f_I_quotient_JJ x0 v7)) pu_pre (gw_call (k := 2) hts tw_191 tw_192 tw_5 tw_193 (by decide +kernel) rfl rfl ⟨Nat.le_of_ble_eq_true rfl, Nat.le_of_ble_eq_true rfl⟩) rfl hl.1 rfl (Nat.le_of_ble_eq_true rfl) ⟨Nat.zero_le _, Nat.zero_le _⟩ d_I_root_J_39 ?_
      refine lv_ldc2 (v := (4602678819172646912 : Int64)) hx hb hown (hts _ (gm tw_229)) d_I_root_J_42 ?_
      refine pu_l (As := [.long (f_I_sum_JJ v7 (f_I_quotient_JJ x0 v7)), .long (4602678819172646912 : Int64)]) (rest := []) ⟨hx, hb, hml, hown, hts⟩ (c_I_product_JJ l _ (f_I_sum_JJ v7 (f_I_quotient_JJ x0 v7)) (4602678819172646912 : Int64)) pu_pre (gw_call (k := 2) hts tw_218 tw_175 tw_5 tw_176 (by decide +kernel) rfl rfl ⟨Nat.le_of_ble_eq_true rfl, Nat.le_of_ble_eq_true rfl⟩) rfl hl.1 rfl (Nat.le_of_ble_eq_true rfl) ⟨Nat.zero_le _, Nat.zero_le _⟩ d_I_root_J_45 ?_
      refine lv_topl (fun v8 e8 => ?_)
      refine lv_lstore_n (lv' := [(2, .long v8), (4, .int (4 : Int32)), (0, .long x0)]) hx hb d_I_root_J_48 rfl hl (by decide) rfl (fun ls hl => ?_)
      refine lv_iinc (v := (5 : Int32)) (lv' := [(4, .int (5 : Int32)), (2, .long v8), (0, .long x0)]) hx hb d_I_root_J_49 hl (k := 1) rfl (by decide) (by decide) rfl (fun ls hl => ?_)
      refine lv_goto (tgt := 27) hx hb d_I_root_J_52 (by decide) ?_
      refine lv_iload hx hb d_I_root_J_27 (lv_at hl 0 rfl) ?_
      refine lv_iconst (v := 5) hx hb d_I_root_J_29 (by decide) ?_
      refine lv_icmp_ge (tgt := 55) hx hb d_I_root_J_30 (by decide) (fun _ => ?_) (fun c0 => absurd c0 (by decide))
      refine lv_lload_n hx hb d_I_root_J_55 rfl (lv_at hl 1 rfl) ?_
      exact pu_lret hx hb hr hlocks d_I_root_J_56 (by have qe3 := e3.symm; have qe4 := e4.symm; have qe5 := e5.symm; have qe6 := e6.symm; have qe7 := e7.symm; have qe8 := e8.symm; subst qe3 qe4 qe5 qe6 qe7 qe8; exact Eq.symm (Eq.trans (if_neg c1) (if_pos c2)))
    · refine lv_lload_n hx hb d_I_root_J_14 rfl (lv_at hl 0 rfl) ?_
      exact pu_lret hx hb hr hlocks d_I_root_J_15 (by exact Eq.symm (Eq.trans (if_neg c1) (if_neg c2)))
-- ===== MotionLab$Ieee.order(J)J
abbrev y_I_order_J : MethodName := ⟨"MotionLab$Ieee", "order", "(J)J"⟩
abbrev b_I_order_J : ByteArray := prog_2_method_11_code
theorem d_I_order_J_0 : decode b_I_order_J 0 = .ok (.lload_n 0, 1) := by decide +kernel
theorem d_I_order_J_1 : decode b_I_order_J 1 = .ok (.lconst 0, 1) := by decide +kernel
theorem d_I_order_J_2 : decode b_I_order_J 2 = .ok (.lcmp, 1) := by decide +kernel
theorem d_I_order_J_3 : decode b_I_order_J 3 = .ok (.ifCond .ge 11, 3) := by decide +kernel
theorem d_I_order_J_6 : decode b_I_order_J 6 = .ok (.ldc2_w 19, 3) := by decide +kernel
theorem d_I_order_J_9 : decode b_I_order_J 9 = .ok (.lload_n 0, 1) := by decide +kernel
theorem d_I_order_J_10 : decode b_I_order_J 10 = .ok (.lsub, 1) := by decide +kernel
theorem d_I_order_J_11 : decode b_I_order_J 11 = .ok (.goto 4, 3) := by decide +kernel
theorem d_I_order_J_14 : decode b_I_order_J 14 = .ok (.lload_n 0, 1) := by decide +kernel
theorem d_I_order_J_15 : decode b_I_order_J 15 = .ok (.lreturn, 1) := by decide +kernel
def f_I_order_J (x0 : Int64) : Int64 :=
  if 0 ≤ (lg_cmp x0 (0 : Int64)) then
    x0
  else
    (-9223372036854775808 : Int64) - x0
set_option maxHeartbeats 4000000 in
set_option maxRecDepth 100000 in
theorem c_I_order_J (l : Launch) (h : Heap) (x0 : Int64) : Met l y_I_order_J (gw y_I_order_J b_I_order_J 2 (some .long)) { frames := 0, cells := 0, slots := 0, locals := 0 } (pu_Pc [.long x0] h) (pu_Ml (f_I_order_J x0) h) 0 0 (fun _ => False) := by
  refine Met.ofW (cc := b_I_order_J) (maxL := 2) (ret := (some .long)) (by decide) rfl ?_
  intro p e s m args below meth c s₁ B hml hv
  obtain ⟨rfl, hh⟩ := hv
  subst hh
  have hx := B.exec
  have hb := B.bytes
  have hr := B.returns
  have hts := atoms_spec (ws := (gw y_I_order_J b_I_order_J 2 (some .long))) B.pre
  have hown : s.vm.findClass "MotionLab$Ieee" = some m.cls := findClass_of_methodNamed B.named
  have hlocks := B.notSynchronized
  have C0 : pu_C p s m _ meth c b_I_order_J 2 "MotionLab$Ieee" (some .long) (gw y_I_order_J b_I_order_J 2 (some .long)) := ⟨hx, hb, hml, hown, hts, hr, hlocks⟩
  have hl := lv_entry ([.long x0]) (n := 2) (Nat.le_of_ble_eq_true rfl)
  rw [lg_entry_eq]
  generalize (lg_sl ([.long x0]) ++ List.replicate (2 - (lg_sl ([.long x0])).length) Slot.unset).toArray = ls at hl ⊢
  have hl : lv_has ls 2 [(0, .long x0)] := hl
  refine lv_lload_n hx hb d_I_order_J_0 rfl (lv_at hl 0 rfl) ?_
  refine lv_lconst (v := (0 : Int64)) hx hb d_I_order_J_1 (by decide) ?_
  refine W.lcmp hx hb d_I_order_J_2 ?_
  refine lv_if_ge (tgt := 14) hx hb d_I_order_J_3 (by decide) (fun c1 => ?_) (fun c1 => ?_)
  · refine lv_lload_n hx hb d_I_order_J_14 rfl (lv_at hl 0 rfl) ?_
    exact pu_lret hx hb hr hlocks d_I_order_J_15 (by exact Eq.symm (if_pos c1))
  · refine lv_ldc2 (v := (-9223372036854775808 : Int64)) hx hb hown (hts _ (gm tw_93)) d_I_order_J_6 ?_
    refine lv_lload_n hx hb d_I_order_J_9 rfl (lv_at hl 0 rfl) ?_
    refine lv_lsub hx hb d_I_order_J_10 ?_
    refine lv_goto (tgt := 15) hx hb d_I_order_J_11 (by decide) ?_
    exact pu_lret hx hb hr hlocks d_I_order_J_15 (by exact Eq.symm (if_neg c1))
end
section
-- ===== MotionLab$Ieee.less(JJ)Z
abbrev y_I_less_JJ : MethodName := ⟨"MotionLab$Ieee", "less", "(JJ)Z"⟩
abbrev b_I_less_JJ : ByteArray := prog_2_method_8_code
theorem d_I_less_JJ_0 : decode b_I_less_JJ 0 = .ok (.lload_n 0, 1) := by decide +kernel
theorem d_I_less_JJ_1 : decode b_I_less_JJ 1 = .ok (.invokestatic 13, 3) := by decide +kernel
theorem d_I_less_JJ_4 : decode b_I_less_JJ 4 = .ok (.ifCond .ne 26, 3) := by decide +kernel
theorem d_I_less_JJ_7 : decode b_I_less_JJ 7 = .ok (.lload_n 2, 1) := by decide +kernel
theorem d_I_less_JJ_8 : decode b_I_less_JJ 8 = .ok (.invokestatic 13, 3) := by decide +kernel
theorem d_I_less_JJ_11 : decode b_I_less_JJ 11 = .ok (.ifCond .ne 19, 3) := by decide +kernel
theorem d_I_less_JJ_14 : decode b_I_less_JJ 14 = .ok (.lload_n 0, 1) := by decide +kernel
theorem d_I_less_JJ_15 : decode b_I_less_JJ 15 = .ok (.invokestatic 25, 3) := by decide +kernel
theorem d_I_less_JJ_18 : decode b_I_less_JJ 18 = .ok (.lload_n 2, 1) := by decide +kernel
theorem d_I_less_JJ_19 : decode b_I_less_JJ 19 = .ok (.invokestatic 25, 3) := by decide +kernel
theorem d_I_less_JJ_22 : decode b_I_less_JJ 22 = .ok (.lcmp, 1) := by decide +kernel
theorem d_I_less_JJ_23 : decode b_I_less_JJ 23 = .ok (.ifCond .ge 7, 3) := by decide +kernel
theorem d_I_less_JJ_26 : decode b_I_less_JJ 26 = .ok (.iconst 1, 1) := by decide +kernel
theorem d_I_less_JJ_27 : decode b_I_less_JJ 27 = .ok (.goto 4, 3) := by decide +kernel
theorem d_I_less_JJ_30 : decode b_I_less_JJ 30 = .ok (.iconst 0, 1) := by decide +kernel
theorem d_I_less_JJ_31 : decode b_I_less_JJ 31 = .ok (.ireturn, 1) := by decide +kernel
def f_I_less_JJ (x0 : Int64) (x2 : Int64) : Int32 :=
  if (f_I_isNoNumber_J x0) = 0 then
    if (f_I_isNoNumber_J x2) = 0 then
      if 0 ≤ (lg_cmp (f_I_order_J x0) (f_I_order_J x2)) then
        (0 : Int32)
      else
        (1 : Int32)
    else
      (0 : Int32)
  else
    (0 : Int32)
set_option maxHeartbeats 4000000 in
set_option maxRecDepth 100000 in
theorem c_I_less_JJ (l : Launch) (h : Heap) (x0 : Int64) (x2 : Int64) : Met l y_I_less_JJ (gw y_I_less_JJ b_I_less_JJ 4 (some .boolean)) { frames := 1, cells := 0, slots := 0, locals := 21 } (pu_Pc [.long x0, .long x2] h) (pu_Mi (f_I_less_JJ x0 x2) h) 0 0 (fun _ => False) := by
  refine Met.ofW (cc := b_I_less_JJ) (maxL := 4) (ret := (some .boolean)) (by decide) rfl ?_
  intro p e s m args below meth c s₁ B hml hv
  obtain ⟨rfl, hh⟩ := hv
  subst hh
  have hx := B.exec
  have hb := B.bytes
  have hr := B.returns
  have hts := atoms_spec (ws := (gw y_I_less_JJ b_I_less_JJ 4 (some .boolean))) B.pre
  have hown : s.vm.findClass "MotionLab$Ieee" = some m.cls := findClass_of_methodNamed B.named
  have hlocks := B.notSynchronized
  have C0 : pu_C p s m _ meth c b_I_less_JJ 4 "MotionLab$Ieee" (some .boolean) (gw y_I_less_JJ b_I_less_JJ 4 (some .boolean)) := ⟨hx, hb, hml, hown, hts, hr, hlocks⟩
  have hl := lv_entry ([.long x0, .long x2]) (n := 4) (Nat.le_of_ble_eq_true rfl)
  rw [lg_entry_eq]
  generalize (lg_sl ([.long x0, .long x2]) ++ List.replicate (4 - (lg_sl ([.long x0, .long x2])).length) Slot.unset).toArray = ls at hl ⊢
  have hl : lv_has ls 4 [(0, .long x0), (2, .long x2)] := hl
  refine lv_lload_n hx hb d_I_less_JJ_0 rfl (lv_at hl 0 rfl) ?_
  refine pu_i (As := [.long x0]) (rest := []) ⟨hx, hb, hml, hown, hts⟩ (c_I_isNoNumber_J l _ x0) pu_pre (gw_call (k := 1) hts tw_89 tw_90 tw_5 tw_91 (by decide +kernel) rfl rfl ⟨Nat.le_of_ble_eq_true rfl, Nat.le_of_ble_eq_true rfl⟩) rfl hl.1 rfl (Nat.le_of_ble_eq_true rfl) ⟨Nat.zero_le _, Nat.zero_le _⟩ d_I_less_JJ_1 ?_
  refine lv_if_ne (tgt := 30) hx hb d_I_less_JJ_4 (by decide) (fun c1 => ?_) (fun c1 => ?_)
  · refine lv_iconst (v := 0) hx hb d_I_less_JJ_30 (by decide) ?_
    exact pu_zret hx hb hr rfl hlocks d_I_less_JJ_31 (by exact Eq.symm (if_neg c1))
  · refine lv_lload_n hx hb d_I_less_JJ_7 rfl (lv_at hl 1 rfl) ?_
    refine pu_i (As := [.long x2]) (rest := []) ⟨hx, hb, hml, hown, hts⟩ (c_I_isNoNumber_J l _ x2) pu_pre (gw_call (k := 1) hts tw_89 tw_90 tw_5 tw_91 (by decide +kernel) rfl rfl ⟨Nat.le_of_ble_eq_true rfl, Nat.le_of_ble_eq_true rfl⟩) rfl hl.1 rfl (Nat.le_of_ble_eq_true rfl) ⟨Nat.zero_le _, Nat.zero_le _⟩ d_I_less_JJ_8 ?_
    refine lv_if_ne (tgt := 30) hx hb d_I_less_JJ_11 (by decide) (fun c2 => ?_) (fun c2 => ?_)
    · refine lv_iconst (v := 0) hx hb d_I_less_JJ_30 (by decide) ?_
      exact pu_zret hx hb hr rfl hlocks d_I_less_JJ_31 (by exact Eq.symm (Eq.trans (if_pos c1) (if_neg c2)))
    · refine lv_lload_n hx hb d_I_less_JJ_14 rfl (lv_at hl 0 rfl) ?_
      refine pu_l (As := [.long x0]) (rest := []) ⟨hx, hb, hml, hown, hts⟩ (c_I_order_J l _ x0) pu_pre (gw_call (k := 1) hts tw_233 tw_234 tw_5 tw_235 (by decide +kernel) rfl rfl ⟨Nat.le_of_ble_eq_true rfl, Nat.le_of_ble_eq_true rfl⟩) rfl hl.1 rfl (Nat.le_of_ble_eq_true rfl) ⟨Nat.zero_le _, Nat.zero_le _⟩ d_I_less_JJ_15 ?_
      refine lv_lload_n hx hb d_I_less_JJ_18 rfl (lv_at hl 1 rfl) ?_
      refine pu_l (As := [.long x2]) (rest := [.long (f_I_order_J x0)]) ⟨hx, hb, hml, hown, hts⟩ (c_I_order_J l _ x2) pu_pre (gw_call (k := 1) hts tw_233 tw_234 tw_5 tw_235 (by decide +kernel) rfl rfl ⟨Nat.le_of_ble_eq_true rfl, Nat.le_of_ble_eq_true rfl⟩) rfl hl.1 rfl (Nat.le_of_ble_eq_true rfl) ⟨Nat.zero_le _, Nat.zero_le _⟩ d_I_less_JJ_19 ?_
      refine W.lcmp hx hb d_I_less_JJ_22 ?_
      refine lv_if_ge (tgt := 30) hx hb d_I_less_JJ_23 (by decide) (fun c3 => ?_) (fun c3 => ?_)
      · refine lv_iconst (v := 0) hx hb d_I_less_JJ_30 (by decide) ?_
        exact pu_zret hx hb hr rfl hlocks d_I_less_JJ_31 (by exact Eq.symm (Eq.trans (if_pos c1) (Eq.trans (if_pos c2) (if_pos c3))))
      · refine lv_iconst (v := 1) hx hb d_I_less_JJ_26 (by decide) ?_
        refine lv_goto (tgt := 31) hx hb d_I_less_JJ_27 (by decide) ?_
        exact pu_zret hx hb hr rfl hlocks d_I_less_JJ_31 (by exact Eq.symm (Eq.trans (if_pos c1) (Eq.trans (if_pos c2) (if_neg c3))))
-- ===== MotionLab$Ieee.negated(J)J
abbrev y_I_negated_J : MethodName := ⟨"MotionLab$Ieee", "negated", "(J)J"⟩
abbrev b_I_negated_J : ByteArray := prog_2_method_7_code
theorem d_I_negated_J_0 : decode b_I_negated_J 0 = .ok (.lload_n 0, 1) := by decide +kernel
theorem d_I_negated_J_1 : decode b_I_negated_J 1 = .ok (.ldc2_w 19, 3) := by decide +kernel
theorem d_I_negated_J_4 : decode b_I_negated_J 4 = .ok (.lxor, 1) := by decide +kernel
theorem d_I_negated_J_5 : decode b_I_negated_J 5 = .ok (.invokestatic 21, 3) := by decide +kernel
theorem d_I_negated_J_8 : decode b_I_negated_J 8 = .ok (.lreturn, 1) := by decide +kernel
def f_I_negated_J (x0 : Int64) : Int64 :=
  f_I_told_J (x0 ^^^ (-9223372036854775808 : Int64))
set_option maxHeartbeats 4000000 in
set_option maxRecDepth 100000 in
theorem c_I_negated_J (l : Launch) (h : Heap) (x0 : Int64) : Met l y_I_negated_J (gw y_I_negated_J b_I_negated_J 2 (some .long)) { frames := 2, cells := 0, slots := 0, locals := 42 } (pu_Pc [.long x0] h) (pu_Ml (f_I_negated_J x0) h) 0 0 (fun _ => False) := by
  refine Met.ofW (cc := b_I_negated_J) (maxL := 2) (ret := (some .long)) (by decide) rfl ?_
  intro p e s m args below meth c s₁ B hml hv
  obtain ⟨rfl, hh⟩ := hv
  subst hh
  have hx := B.exec
  have hb := B.bytes
  have hr := B.returns
  have hts := atoms_spec (ws := (gw y_I_negated_J b_I_negated_J 2 (some .long))) B.pre
  have hown : s.vm.findClass "MotionLab$Ieee" = some m.cls := findClass_of_methodNamed B.named
  have hlocks := B.notSynchronized
  have C0 : pu_C p s m _ meth c b_I_negated_J 2 "MotionLab$Ieee" (some .long) (gw y_I_negated_J b_I_negated_J 2 (some .long)) := ⟨hx, hb, hml, hown, hts, hr, hlocks⟩
  have hl := lv_entry ([.long x0]) (n := 2) (Nat.le_of_ble_eq_true rfl)
  rw [lg_entry_eq]
  generalize (lg_sl ([.long x0]) ++ List.replicate (2 - (lg_sl ([.long x0])).length) Slot.unset).toArray = ls at hl ⊢
  have hl : lv_has ls 2 [(0, .long x0)] := hl
  refine lv_lload_n hx hb d_I_negated_J_0 rfl (lv_at hl 0 rfl) ?_
  refine lv_ldc2 (v := (-9223372036854775808 : Int64)) hx hb hown (hts _ (gm tw_93)) d_I_negated_J_1 ?_
  refine lv_lxor hx hb d_I_negated_J_4 ?_
  refine pu_l (As := [.long (x0 ^^^ (-9223372036854775808 : Int64))]) (rest := []) ⟨hx, hb, hml, hown, hts⟩ (c_I_told_J l _ (x0 ^^^ (-9223372036854775808 : Int64))) pu_pre (gw_call (k := 1) hts tw_86 tw_87 tw_5 tw_88 (by decide +kernel) rfl rfl ⟨Nat.le_of_ble_eq_true rfl, Nat.le_of_ble_eq_true rfl⟩) rfl hl.1 rfl (Nat.le_of_ble_eq_true rfl) ⟨Nat.zero_le _, Nat.zero_le _⟩ d_I_negated_J_5 ?_
  exact pu_lret hx hb hr hlocks d_I_negated_J_8 (by exact Eq.symm rfl)
-- ===== MotionLab.isStore(I)Z
abbrev y_L_isStore_I : MethodName := ⟨"MotionLab", "isStore", "(I)Z"⟩
abbrev b_L_isStore_I : ByteArray := prog_1_method_19_code
theorem d_L_isStore_I_0 : decode b_L_isStore_I 0 = .ok (.iload_n 0, 1) := by decide +kernel
theorem d_L_isStore_I_1 : decode b_L_isStore_I 1 = .ok (.ifCond .lt 13, 3) := by decide +kernel
theorem d_L_isStore_I_4 : decode b_L_isStore_I 4 = .ok (.iload_n 0, 1) := by decide +kernel
theorem d_L_isStore_I_5 : decode b_L_isStore_I 5 = .ok (.bipush 8, 2) := by decide +kernel
theorem d_L_isStore_I_7 : decode b_L_isStore_I 7 = .ok (.if_icmp .ge 7, 3) := by decide +kernel
theorem d_L_isStore_I_10 : decode b_L_isStore_I 10 = .ok (.iconst 1, 1) := by decide +kernel
theorem d_L_isStore_I_11 : decode b_L_isStore_I 11 = .ok (.goto 4, 3) := by decide +kernel
theorem d_L_isStore_I_14 : decode b_L_isStore_I 14 = .ok (.iconst 0, 1) := by decide +kernel
theorem d_L_isStore_I_15 : decode b_L_isStore_I 15 = .ok (.ireturn, 1) := by decide +kernel
def f_L_isStore_I (x0 : Int32) : Int32 :=
  if x0 < 0 then
    (0 : Int32)
  else
    if (8 : Int32) ≤ x0 then
      (0 : Int32)
    else
      (1 : Int32)
set_option maxHeartbeats 4000000 in
set_option maxRecDepth 100000 in
theorem c_L_isStore_I (l : Launch) (h : Heap) (x0 : Int32) : Met l y_L_isStore_I (gw y_L_isStore_I b_L_isStore_I 1 (some .boolean)) { frames := 0, cells := 0, slots := 0, locals := 0 } (pu_Pc [.int x0] h) (pu_Mi (f_L_isStore_I x0) h) 0 0 (fun _ => False) := by
  refine Met.ofW (cc := b_L_isStore_I) (maxL := 1) (ret := (some .boolean)) (by decide) rfl ?_
  intro p e s m args below meth c s₁ B hml hv
  obtain ⟨rfl, hh⟩ := hv
  subst hh
  have hx := B.exec
  have hb := B.bytes
  have hr := B.returns
  have hts := atoms_spec (ws := (gw y_L_isStore_I b_L_isStore_I 1 (some .boolean))) B.pre
  have hown : s.vm.findClass "MotionLab" = some m.cls := findClass_of_methodNamed B.named
  have hlocks := B.notSynchronized
  have C0 : pu_C p s m _ meth c b_L_isStore_I 1 "MotionLab" (some .boolean) (gw y_L_isStore_I b_L_isStore_I 1 (some .boolean)) := ⟨hx, hb, hml, hown, hts, hr, hlocks⟩
  have hl := lv_entry ([.int x0]) (n := 1) (Nat.le_of_ble_eq_true rfl)
  rw [lg_entry_eq]
  generalize (lg_sl ([.int x0]) ++ List.replicate (1 - (lg_sl ([.int x0])).length) Slot.unset).toArray = ls at hl ⊢
  have hl : lv_has ls 1 [(0, .int x0)] := hl
  refine lv_iload_n hx hb d_L_isStore_I_0 rfl (lv_at hl 0 rfl) ?_
  refine lv_if_lt (tgt := 14) hx hb d_L_isStore_I_1 (by decide) (fun c1 => ?_) (fun c1 => ?_)
  · refine lv_iconst (v := 0) hx hb d_L_isStore_I_14 (by decide) ?_
    exact pu_zret hx hb hr rfl hlocks d_L_isStore_I_15 (by exact Eq.symm (if_pos c1))
  · refine lv_iload_n hx hb d_L_isStore_I_4 rfl (lv_at hl 0 rfl) ?_
    refine lv_bipush (v := (8 : Int32)) hx hb d_L_isStore_I_5 (by decide) ?_
    refine lv_icmp_ge (tgt := 14) hx hb d_L_isStore_I_7 (by decide) (fun c2 => ?_) (fun c2 => ?_)
    · refine lv_iconst (v := 0) hx hb d_L_isStore_I_14 (by decide) ?_
      exact pu_zret hx hb hr rfl hlocks d_L_isStore_I_15 (by exact Eq.symm (Eq.trans (if_neg c1) (if_pos c2)))
    · refine lv_iconst (v := 1) hx hb d_L_isStore_I_10 (by decide) ?_
      refine lv_goto (tgt := 15) hx hb d_L_isStore_I_11 (by decide) ?_
      exact pu_zret hx hb hr rfl hlocks d_L_isStore_I_15 (by exact Eq.symm (Eq.trans (if_neg c1) (if_neg c2)))
-- ===== java/lang/Math.min(II)I
abbrev y_jM_min_II : MethodName := ⟨"java/lang/Math", "min", "(II)I"⟩
abbrev b_jM_min_II : ByteArray := prog_9_method_69_code
theorem d_jM_min_II_0 : decode b_jM_min_II 0 = .ok (.iload_n 0, 1) := by decide +kernel
theorem d_jM_min_II_1 : decode b_jM_min_II 1 = .ok (.iload_n 1, 1) := by decide +kernel
theorem d_jM_min_II_2 : decode b_jM_min_II 2 = .ok (.if_icmp .gt 7, 3) := by decide +kernel
theorem d_jM_min_II_5 : decode b_jM_min_II 5 = .ok (.iload_n 0, 1) := by decide +kernel
theorem d_jM_min_II_6 : decode b_jM_min_II 6 = .ok (.goto 4, 3) := by decide +kernel
theorem d_jM_min_II_9 : decode b_jM_min_II 9 = .ok (.iload_n 1, 1) := by decide +kernel
theorem d_jM_min_II_10 : decode b_jM_min_II 10 = .ok (.ireturn, 1) := by decide +kernel
def f_jM_min_II (x0 : Int32) (x1 : Int32) : Int32 :=
  if x1 < x0 then
    x1
  else
    x0
set_option maxHeartbeats 4000000 in
set_option maxRecDepth 100000 in
theorem c_jM_min_II (l : Launch) (h : Heap) (x0 : Int32) (x1 : Int32) : Met l y_jM_min_II (gw y_jM_min_II b_jM_min_II 2 (some .int)) { frames := 0, cells := 0, slots := 0, locals := 0 } (pu_Pc [.int x0, .int x1] h) (pu_Mi (f_jM_min_II x0 x1) h) 0 0 (fun _ => False) := by
  refine va_MetF (cc := b_jM_min_II) (maxL := 2) (ret := (some .int)) (by decide +kernel) rfl ?_
  intro p e s m args below meth c s₁ B hml hv
  obtain ⟨rfl, hh⟩ := hv
  subst hh
  have hx := B.exec
  have hb := B.bytes
  have hr := B.returns
  have hts := atoms_spec (ws := (gw y_jM_min_II b_jM_min_II 2 (some .int))) B.pre
  have hown : s.vm.findClass "java/lang/Math" = some m.cls := findClass_of_methodNamed B.named
  have hlocks := B.notSynchronized
  have C0 : pu_C p s m _ meth c b_jM_min_II 2 "java/lang/Math" (some .int) (gw y_jM_min_II b_jM_min_II 2 (some .int)) := ⟨hx, hb, hml, hown, hts, hr, hlocks⟩
  have hl := lv_entry ([.int x0, .int x1]) (n := 2) (Nat.le_of_ble_eq_true rfl)
  rw [lg_entry_eq]
  generalize (lg_sl ([.int x0, .int x1]) ++ List.replicate (2 - (lg_sl ([.int x0, .int x1])).length) Slot.unset).toArray = ls at hl ⊢
  have hl : lv_has ls 2 [(0, .int x0), (1, .int x1)] := hl
  refine lv_iload_n hx hb d_jM_min_II_0 rfl (lv_at hl 0 rfl) ?_
  refine lv_iload_n hx hb d_jM_min_II_1 rfl (lv_at hl 1 rfl) ?_
  refine lv_icmp_gt (tgt := 9) hx hb d_jM_min_II_2 (by decide) (fun c1 => ?_) (fun c1 => ?_)
  · refine lv_iload_n hx hb d_jM_min_II_9 rfl (lv_at hl 1 rfl) ?_
    exact pu_iret hx hb hr hlocks d_jM_min_II_10 (by exact Eq.symm (if_pos c1))
  · refine lv_iload_n hx hb d_jM_min_II_5 rfl (lv_at hl 0 rfl) ?_
    refine lv_goto (tgt := 10) hx hb d_jM_min_II_6 (by decide) ?_
    exact pu_iret hx hb hr hlocks d_jM_min_II_10 (by exact Eq.symm (if_neg c1))
-- ===== MotionLab$Ieee.remainder(JJ)J
abbrev y_I_remainder_JJ : MethodName := ⟨"MotionLab$Ieee", "remainder", "(JJ)J"⟩
abbrev b_I_remainder_JJ : ByteArray := prog_2_method_21_code
theorem d_I_remainder_JJ_0 : decode b_I_remainder_JJ 0 = .ok (.lload_n 2, 1) := by decide +kernel
theorem d_I_remainder_JJ_1 : decode b_I_remainder_JJ 1 = .ok (.invokestatic 45, 3) := by decide +kernel
theorem d_I_remainder_JJ_4 : decode b_I_remainder_JJ 4 = .ok (.lstore 4, 2) := by decide +kernel
theorem d_I_remainder_JJ_6 : decode b_I_remainder_JJ 6 = .ok (.lload_n 2, 1) := by decide +kernel
theorem d_I_remainder_JJ_7 : decode b_I_remainder_JJ 7 = .ok (.invokestatic 13, 3) := by decide +kernel
theorem d_I_remainder_JJ_10 : decode b_I_remainder_JJ 10 = .ok (.ifCond .ne 17, 3) := by decide +kernel
theorem d_I_remainder_JJ_13 : decode b_I_remainder_JJ 13 = .ok (.lload_n 0, 1) := by decide +kernel
theorem d_I_remainder_JJ_14 : decode b_I_remainder_JJ 14 = .ok (.invokestatic 35, 3) := by decide +kernel
theorem d_I_remainder_JJ_17 : decode b_I_remainder_JJ 17 = .ok (.ifCond .eq 10, 3) := by decide +kernel
theorem d_I_remainder_JJ_20 : decode b_I_remainder_JJ 20 = .ok (.lload 4, 2) := by decide +kernel
theorem d_I_remainder_JJ_22 : decode b_I_remainder_JJ 22 = .ok (.lconst 0, 1) := by decide +kernel
theorem d_I_remainder_JJ_23 : decode b_I_remainder_JJ 23 = .ok (.lcmp, 1) := by decide +kernel
theorem d_I_remainder_JJ_24 : decode b_I_remainder_JJ 24 = .ok (.ifCond .ne 7, 3) := by decide +kernel
theorem d_I_remainder_JJ_27 : decode b_I_remainder_JJ 27 = .ok (.ldc2_w 17, 3) := by decide +kernel
theorem d_I_remainder_JJ_30 : decode b_I_remainder_JJ 30 = .ok (.lreturn, 1) := by decide +kernel
theorem d_I_remainder_JJ_31 : decode b_I_remainder_JJ 31 = .ok (.lload_n 0, 1) := by decide +kernel
theorem d_I_remainder_JJ_32 : decode b_I_remainder_JJ 32 = .ok (.ldc2_w 9, 3) := by decide +kernel
theorem d_I_remainder_JJ_35 : decode b_I_remainder_JJ 35 = .ok (.land, 1) := by decide +kernel
theorem d_I_remainder_JJ_36 : decode b_I_remainder_JJ 36 = .ok (.lload_n 2, 1) := by decide +kernel
theorem d_I_remainder_JJ_37 : decode b_I_remainder_JJ 37 = .ok (.ldc2_w 9, 3) := by decide +kernel
theorem d_I_remainder_JJ_40 : decode b_I_remainder_JJ 40 = .ok (.land, 1) := by decide +kernel
theorem d_I_remainder_JJ_41 : decode b_I_remainder_JJ 41 = .ok (.lcmp, 1) := by decide +kernel
theorem d_I_remainder_JJ_42 : decode b_I_remainder_JJ 42 = .ok (.ifCond .ge 5, 3) := by decide +kernel
theorem d_I_remainder_JJ_45 : decode b_I_remainder_JJ 45 = .ok (.lload_n 0, 1) := by decide +kernel
theorem d_I_remainder_JJ_46 : decode b_I_remainder_JJ 46 = .ok (.lreturn, 1) := by decide +kernel
theorem d_I_remainder_JJ_47 : decode b_I_remainder_JJ 47 = .ok (.lload_n 0, 1) := by decide +kernel
theorem d_I_remainder_JJ_48 : decode b_I_remainder_JJ 48 = .ok (.invokestatic 45, 3) := by decide +kernel
theorem d_I_remainder_JJ_51 : decode b_I_remainder_JJ 51 = .ok (.lload 4, 2) := by decide +kernel
theorem d_I_remainder_JJ_53 : decode b_I_remainder_JJ 53 = .ok (.lrem, 1) := by decide +kernel
theorem d_I_remainder_JJ_54 : decode b_I_remainder_JJ 54 = .ok (.lstore 6, 2) := by decide +kernel
theorem d_I_remainder_JJ_56 : decode b_I_remainder_JJ 56 = .ok (.lload_n 0, 1) := by decide +kernel
theorem d_I_remainder_JJ_57 : decode b_I_remainder_JJ 57 = .ok (.invokestatic 41, 3) := by decide +kernel
theorem d_I_remainder_JJ_60 : decode b_I_remainder_JJ 60 = .ok (.lload_n 2, 1) := by decide +kernel
theorem d_I_remainder_JJ_61 : decode b_I_remainder_JJ 61 = .ok (.invokestatic 41, 3) := by decide +kernel
theorem d_I_remainder_JJ_64 : decode b_I_remainder_JJ 64 = .ok (.isub, 1) := by decide +kernel
theorem d_I_remainder_JJ_65 : decode b_I_remainder_JJ 65 = .ok (.istore 8, 2) := by decide +kernel
theorem d_I_remainder_JJ_67 : decode b_I_remainder_JJ 67 = .ok (.iload 8, 2) := by decide +kernel
theorem d_I_remainder_JJ_69 : decode b_I_remainder_JJ 69 = .ok (.ifCond .le 24, 3) := by decide +kernel
theorem d_I_remainder_JJ_72 : decode b_I_remainder_JJ 72 = .ok (.lload 6, 2) := by decide +kernel
theorem d_I_remainder_JJ_74 : decode b_I_remainder_JJ 74 = .ok (.iload 8, 2) := by decide +kernel
theorem d_I_remainder_JJ_76 : decode b_I_remainder_JJ 76 = .ok (.bipush 10, 2) := by decide +kernel
theorem d_I_remainder_JJ_78 : decode b_I_remainder_JJ 78 = .ok (.invokestatic 81, 3) := by decide +kernel
theorem d_I_remainder_JJ_81 : decode b_I_remainder_JJ 81 = .ok (.lshl, 1) := by decide +kernel
theorem d_I_remainder_JJ_82 : decode b_I_remainder_JJ 82 = .ok (.lload 4, 2) := by decide +kernel
theorem d_I_remainder_JJ_84 : decode b_I_remainder_JJ 84 = .ok (.lrem, 1) := by decide +kernel
theorem d_I_remainder_JJ_85 : decode b_I_remainder_JJ 85 = .ok (.lstore 6, 2) := by decide +kernel
theorem d_I_remainder_JJ_87 : decode b_I_remainder_JJ 87 = .ok (.iinc 8 (-10), 3) := by decide +kernel
theorem d_I_remainder_JJ_90 : decode b_I_remainder_JJ 90 = .ok (.goto (-23), 3) := by decide +kernel
theorem d_I_remainder_JJ_93 : decode b_I_remainder_JJ 93 = .ok (.lload_n 0, 1) := by decide +kernel
theorem d_I_remainder_JJ_94 : decode b_I_remainder_JJ 94 = .ok (.ldc2_w 19, 3) := by decide +kernel
theorem d_I_remainder_JJ_97 : decode b_I_remainder_JJ 97 = .ok (.land, 1) := by decide +kernel
theorem d_I_remainder_JJ_98 : decode b_I_remainder_JJ 98 = .ok (.lload_n 2, 1) := by decide +kernel
theorem d_I_remainder_JJ_99 : decode b_I_remainder_JJ 99 = .ok (.invokestatic 41, 3) := by decide +kernel
theorem d_I_remainder_JJ_102 : decode b_I_remainder_JJ 102 = .ok (.lload 6, 2) := by decide +kernel
theorem d_I_remainder_JJ_104 : decode b_I_remainder_JJ 104 = .ok (.invokestatic 52, 3) := by decide +kernel
theorem d_I_remainder_JJ_107 : decode b_I_remainder_JJ 107 = .ok (.lreturn, 1) := by decide +kernel
def f_I_remainder_JJ_67 : Nat → Int64 → Int64 → Int64 → Int64 → Int32 → Int64
  | 0, _, _, _, _, _ => 0
  | n + 1, x0, x2, x4, x6, x8 =>
    if x8 ≤ 0 then
      f_I_nearest_JIJ (x0 &&& (-9223372036854775808 : Int64)) (f_I_power_J x2) x6
    else
      let v2 : Int64 := (j_shl x6 (f_jM_min_II x8 (10 : Int32))) - (j_shl x6 (f_jM_min_II x8 (10 : Int32))) / x4 * x4
      let v3 : Int32 := x8 + (-10)
      f_I_remainder_JJ_67 n x0 x2 x4 v2 v3
set_option maxHeartbeats 4000000 in
set_option maxRecDepth 100000 in
theorem k_I_remainder_JJ_67 {p : Program} {l : Launch} {e : Env} {s : State} {m : MethodId} {args : Array Value} {below : List Frame} {meth : Method} {c : Code} (C0 : pu_C p s m args meth c b_I_remainder_JJ 9 "MotionLab$Ieee" (some .long) (gw y_I_remainder_JJ b_I_remainder_JJ 9 (some .long))) (n : Nat) : ∀ (x0 : Int64) (x2 : Int64) (x4 : Int64) (x6 : Int64) (x8 : Int32) (hz_x4 : ¬ x4 = 0) (hinv : x8.toNatClampNeg < n) (ls : Array Slot) (hl : lv_has ls 9 [(0, .long x0), (2, .long x2), (4, .long x4), (6, .long x6), (8, .int x8)]) {w : Int64} (hw : w = f_I_remainder_JJ_67 n x0 x2 x4 x6 x8), W p l e (headSpec (gw y_I_remainder_JJ b_I_remainder_JJ 9 (some .long)) ({ frames := 3, cells := 0, slots := 0, locals := 69 } : Room)).room s m args below meth c s.heap [] 0 0 (pu_Ql w below args s) (F0 m 67 ls []) := by
  obtain ⟨hx, hb, hml, hown, hts, hr, hlocks⟩ := id C0
  induction n with
  | zero => intro x0 x2 x4 x6 x8 hz_x4 hinv ls hl w hw; exact absurd hinv (Nat.not_lt_zero _)
  | succ n ih =>
    intro x0 x2 x4 x6 x8 hz_x4 hinv ls hl w hw
    refine lv_iload hx hb d_I_remainder_JJ_67 (lv_at hl 4 rfl) ?_
    refine lv_if_le (tgt := 93) hx hb d_I_remainder_JJ_69 (by decide) (fun c1 => ?_) (fun c1 => ?_)
    · refine lv_lload_n hx hb d_I_remainder_JJ_93 rfl (lv_at hl 0 rfl) ?_
      refine lv_ldc2 (v := (-9223372036854775808 : Int64)) hx hb hown (hts _ (gm tw_93)) d_I_remainder_JJ_94 ?_
      refine lv_land hx hb d_I_remainder_JJ_97 ?_
      refine lv_lload_n hx hb d_I_remainder_JJ_98 rfl (lv_at hl 1 rfl) ?_
      refine pu_i (As := [.long x2]) (rest := [.long (x0 &&& (-9223372036854775808 : Int64))]) ⟨hx, hb, hml, hown, hts⟩ (c_I_power_J l _ x2) pu_pre (gw_call (k := 1) hts tw_94 tw_95 tw_5 tw_96 (by decide +kernel) rfl rfl ⟨Nat.le_of_ble_eq_true rfl, Nat.le_of_ble_eq_true rfl⟩) rfl hl.1 rfl (Nat.le_of_ble_eq_true rfl) ⟨Nat.zero_le _, Nat.zero_le _⟩ d_I_remainder_JJ_99 ?_
      refine lv_lload hx hb d_I_remainder_JJ_102 (lv_at hl 3 rfl) ?_
      refine pu_l (As := [.long (x0 &&& (-9223372036854775808 : Int64)), .int (f_I_power_J x2), .long x6]) (rest := []) ⟨hx, hb, hml, hown, hts⟩ (c_I_nearest_JIJ l _ (x0 &&& (-9223372036854775808 : Int64)) (f_I_power_J x2) x6) pu_pre (gw_call (k := 3) hts tw_115 tw_116 tw_5 tw_117 (by decide +kernel) rfl rfl ⟨Nat.le_of_ble_eq_true rfl, Nat.le_of_ble_eq_true rfl⟩) rfl hl.1 rfl (Nat.le_of_ble_eq_true rfl) ⟨Nat.zero_le _, Nat.zero_le _⟩ d_I_remainder_JJ_104 ?_
      exact pu_lret hx hb hr hlocks d_I_remainder_JJ_107 (by exact Eq.symm (hw.trans (if_pos c1)))
    · refine lv_lload hx hb d_I_remainder_JJ_72 (lv_at hl 3 rfl) ?_
      refine lv_iload hx hb d_I_remainder_JJ_74 (lv_at hl 4 rfl) ?_
      refine lv_bipush (v := (10 : Int32)) hx hb d_I_remainder_JJ_76 (by decide) ?_
      refine pu_i (As := [.int x8, .int (10 : Int32)]) (rest := [.long x6]) ⟨hx, hb, hml, hown, hts⟩ (c_jM_min_II l _ x8 (10 : Int32)) pu_pre (gw_call (k := 2) hts tw_308 tw_309 tw_6 tw_310 (by decide +kernel) rfl rfl ⟨Nat.le_of_ble_eq_true rfl, Nat.le_of_ble_eq_true rfl⟩) rfl hl.1 rfl (Nat.le_of_ble_eq_true rfl) ⟨Nat.zero_le _, Nat.zero_le _⟩ d_I_remainder_JJ_78 ?_
      refine lv_lshl (v := j_shl x6 (f_jM_min_II x8 (10 : Int32))) hx hb d_I_remainder_JJ_81 rfl ?_
      refine lv_lload hx hb d_I_remainder_JJ_82 (lv_at hl 2 rfl) ?_
      refine lv_lrem hx hb d_I_remainder_JJ_84 hz_x4 ?_
      refine lv_topl (fun v2 e2 => ?_)
      refine lv_lstore (lv' := [(6, .long v2), (0, .long x0), (2, .long x2), (4, .long x4), (8, .int x8)]) hx hb d_I_remainder_JJ_85 hl (by decide) rfl (fun ls hl => ?_)
      obtain ⟨v3, e3⟩ : ∃ y : Int32, y = x8 + (-10) := ⟨_, rfl⟩
      refine lv_iinc (v := v3) (lv' := [(8, .int v3), (6, .long v2), (0, .long x0), (2, .long x2), (4, .long x4)]) hx hb d_I_remainder_JJ_87 hl (k := 4) rfl (by rw [e3]; rfl) (by decide) rfl (fun ls hl => ?_)
      refine lv_goto (tgt := 67) hx hb d_I_remainder_JJ_90 (by decide) ?_
      exact ih x0 x2 x4 v2 v3 hz_x4 (by rw [e3]; exact fl_dn hinv c1) ls (lv_sub hl [2, 3, 4, 1, 0] rfl) (by have qe2 := e2.symm; have qe3 := e3.symm; subst qe2 qe3; exact (hw.trans (if_neg c1)))
def f_I_remainder_JJ (x0 : Int64) (x2 : Int64) : Int64 :=
  let v1 : Int64 := f_I_significand_J x2
  if (f_I_isNoNumber_J x2) = 0 then
    if (f_I_isFinite_J x0) = 0 then
      (9221120237041090560 : Int64)
    else
      if (lg_cmp v1 (0 : Int64)) = 0 then
        (9221120237041090560 : Int64)
      else
        if 0 ≤ (lg_cmp (x0 &&& (9223372036854775807 : Int64)) (x2 &&& (9223372036854775807 : Int64))) then
          let v6 : Int64 := (f_I_significand_J x0) - (f_I_significand_J x0) / v1 * v1
          let v7 : Int32 := (f_I_power_J x0) - (f_I_power_J x2)
          f_I_remainder_JJ_67 (v7.toNatClampNeg + 1) x0 x2 v1 v6 v7
        else
          x0
  else
    (9221120237041090560 : Int64)
set_option maxHeartbeats 4000000 in
set_option maxRecDepth 100000 in
theorem c_I_remainder_JJ (l : Launch) (h : Heap) (x0 : Int64) (x2 : Int64) : Met l y_I_remainder_JJ (gw y_I_remainder_JJ b_I_remainder_JJ 9 (some .long)) { frames := 3, cells := 0, slots := 0, locals := 69 } (pu_Pc [.long x0, .long x2] h) (pu_Ml (f_I_remainder_JJ x0 x2) h) 0 0 (fun _ => False) := by
  refine Met.ofW (cc := b_I_remainder_JJ) (maxL := 9) (ret := (some .long)) (by decide) rfl ?_
  intro p e s m args below meth c s₁ B hml hv
  obtain ⟨rfl, hh⟩ := hv
  subst hh
  have hx := B.exec
  have hb := B.bytes
  have hr := B.returns
  have hts := atoms_spec (ws := (gw y_I_remainder_JJ b_I_remainder_JJ 9 (some .long))) B.pre
  have hown : s.vm.findClass "MotionLab$Ieee" = some m.cls := findClass_of_methodNamed B.named
  have hlocks := B.notSynchronized
  have C0 : pu_C p s m _ meth c b_I_remainder_JJ 9 "MotionLab$Ieee" (some .long) (gw y_I_remainder_JJ b_I_remainder_JJ 9 (some .long)) := ⟨hx, hb, hml, hown, hts, hr, hlocks⟩
  have hl := lv_entry ([.long x0, .long x2]) (n := 9) (Nat.le_of_ble_eq_true rfl)
  rw [lg_entry_eq]
  generalize (lg_sl ([.long x0, .long x2]) ++ List.replicate (9 - (lg_sl ([.long x0, .long x2])).length) Slot.unset).toArray = ls at hl ⊢
  have hl : lv_has ls 9 [(0, .long x0), (2, .long x2)] := hl
  refine lv_lload_n hx hb d_I_remainder_JJ_0 rfl (lv_at hl 1 rfl) ?_
  refine pu_l (As := [.long x2]) (rest := []) ⟨hx, hb, hml, hown, hts⟩ (c_I_significand_J l _ x2) pu_pre (gw_call (k := 1) hts tw_100 tw_101 tw_5 tw_102 (by decide +kernel) rfl rfl ⟨Nat.le_of_ble_eq_true rfl, Nat.le_of_ble_eq_true rfl⟩) rfl hl.1 rfl (Nat.le_of_ble_eq_true rfl) ⟨Nat.zero_le _, Nat.zero_le _⟩ d_I_remainder_JJ_1 ?_
  refine lv_topl (fun v1 e1 => ?_)
  refine lv_lstore (lv' := [(4, .long v1), (0, .long x0), (2, .long x2)]) hx hb d_I_remainder_JJ_4 hl (by decide) rfl (fun ls hl => ?_)
  refine lv_lload_n hx hb d_I_remainder_JJ_6 rfl (lv_at hl 2 rfl) ?_
  refine pu_i (As := [.long x2]) (rest := []) ⟨hx, hb, hml, hown, hts⟩ (c_I_isNoNumber_J l _ x2) pu_pre (gw_call (k := 1) hts tw_89 tw_90 tw_5 tw_91 (by decide +kernel) rfl rfl ⟨Nat.le_of_ble_eq_true rfl, Nat.le_of_ble_eq_true rfl⟩) rfl hl.1 rfl (Nat.le_of_ble_eq_true rfl) ⟨Nat.zero_le _, Nat.zero_le _⟩ d_I_remainder_JJ_7 ?_
  refine lv_if_ne (tgt := 27) hx hb d_I_remainder_JJ_10 (by decide) (fun c2 => ?_) (fun c2 => ?_)
  · refine lv_ldc2 (v := (9221120237041090560 : Int64)) hx hb hown (hts _ (gm tw_92)) d_I_remainder_JJ_27 ?_
    exact pu_lret hx hb hr hlocks d_I_remainder_JJ_30 (by have qe1 := e1.symm; subst qe1; exact Eq.symm (if_neg c2))
  · refine lv_lload_n hx hb d_I_remainder_JJ_13 rfl (lv_at hl 1 rfl) ?_
    refine pu_i (As := [.long x0]) (rest := []) ⟨hx, hb, hml, hown, hts⟩ (c_I_isFinite_J l _ x0) pu_pre (gw_call (k := 1) hts tw_81 tw_82 tw_5 tw_83 (by decide +kernel) rfl rfl ⟨Nat.le_of_ble_eq_true rfl, Nat.le_of_ble_eq_true rfl⟩) rfl hl.1 rfl (Nat.le_of_ble_eq_true rfl) ⟨Nat.zero_le _, Nat.zero_le _⟩ d_I_remainder_JJ_14 ?_
    refine lv_if_eq (tgt := 27) hx hb d_I_remainder_JJ_17 (by decide) (fun c3 => ?_) (fun c3 => ?_)
    · refine lv_ldc2 (v := (9221120237041090560 : Int64)) hx hb hown (hts _ (gm tw_92)) d_I_remainder_JJ_27 ?_
      exact pu_lret hx hb hr hlocks d_I_remainder_JJ_30 (by have qe1 := e1.symm; subst qe1; exact Eq.symm (Eq.trans (if_pos c2) (if_pos c3)))
    · refine lv_lload hx hb d_I_remainder_JJ_20 (lv_at hl 0 rfl) ?_
      refine lv_lconst (v := (0 : Int64)) hx hb d_I_remainder_JJ_22 (by decide) ?_
      refine W.lcmp hx hb d_I_remainder_JJ_23 ?_
      refine lv_if_ne (tgt := 31) hx hb d_I_remainder_JJ_24 (by decide) (fun c4 => ?_) (fun c4 => ?_)
      · refine lv_lload_n hx hb d_I_remainder_JJ_31 rfl (lv_at hl 1 rfl) ?_
        refine lv_ldc2 (v := (9223372036854775807 : Int64)) hx hb hown (hts _ (gm tw_84)) d_I_remainder_JJ_32 ?_
        refine lv_land hx hb d_I_remainder_JJ_35 ?_
        refine lv_lload_n hx hb d_I_remainder_JJ_36 rfl (lv_at hl 2 rfl) ?_
        refine lv_ldc2 (v := (9223372036854775807 : Int64)) hx hb hown (hts _ (gm tw_84)) d_I_remainder_JJ_37 ?_
        refine lv_land hx hb d_I_remainder_JJ_40 ?_
        refine W.lcmp hx hb d_I_remainder_JJ_41 ?_
        refine lv_if_ge (tgt := 47) hx hb d_I_remainder_JJ_42 (by decide) (fun c5 => ?_) (fun c5 => ?_)
        · refine lv_lload_n hx hb d_I_remainder_JJ_47 rfl (lv_at hl 1 rfl) ?_
          refine pu_l (As := [.long x0]) (rest := []) ⟨hx, hb, hml, hown, hts⟩ (c_I_significand_J l _ x0) pu_pre (gw_call (k := 1) hts tw_100 tw_101 tw_5 tw_102 (by decide +kernel) rfl rfl ⟨Nat.le_of_ble_eq_true rfl, Nat.le_of_ble_eq_true rfl⟩) rfl hl.1 rfl (Nat.le_of_ble_eq_true rfl) ⟨Nat.zero_le _, Nat.zero_le _⟩ d_I_remainder_JJ_48 ?_
          refine lv_lload hx hb d_I_remainder_JJ_51 (lv_at hl 0 rfl) ?_
          refine lv_lrem hx hb d_I_remainder_JJ_53 (fun h => c4 ((lg_cmp_eq _ _).mpr h)) ?_
          refine lv_topl (fun v6 e6 => ?_)
          refine lv_lstore (lv' := [(6, .long v6), (4, .long v1), (0, .long x0), (2, .long x2)]) hx hb d_I_remainder_JJ_54 hl (by decide) rfl (fun ls hl => ?_)
          refine lv_lload_n hx hb d_I_remainder_JJ_56 rfl (lv_at hl 2 rfl) ?_
          refine pu_i (As := [.long x0]) (rest := []) ⟨hx, hb, hml, hown, hts⟩ (c_I_power_J l _ x0) pu_pre (gw_call (k := 1) hts tw_94 tw_95 tw_5 tw_96 (by decide +kernel) rfl rfl ⟨Nat.le_of_ble_eq_true rfl, Nat.le_of_ble_eq_true rfl⟩) rfl hl.1 rfl (Nat.le_of_ble_eq_true rfl) ⟨Nat.zero_le _, Nat.zero_le _⟩ d_I_remainder_JJ_57 ?_
          refine lv_lload_n hx hb d_I_remainder_JJ_60 rfl (lv_at hl 3 rfl) ?_
          refine pu_i (As := [.long x2]) (rest := [.int (f_I_power_J x0)]) ⟨hx, hb, hml, hown, hts⟩ (c_I_power_J l _ x2) pu_pre (gw_call (k := 1) hts tw_94 tw_95 tw_5 tw_96 (by decide +kernel) rfl rfl ⟨Nat.le_of_ble_eq_true rfl, Nat.le_of_ble_eq_true rfl⟩) rfl hl.1 rfl (Nat.le_of_ble_eq_true rfl) ⟨Nat.zero_le _, Nat.zero_le _⟩ d_I_remainder_JJ_61 ?_
          refine lv_isub hx hb d_I_remainder_JJ_64 ?_
          refine lv_topi (fun v7 e7 => ?_)
          refine lv_istore (lv' := [(8, .int v7), (6, .long v6), (4, .long v1), (0, .long x0), (2, .long x2)]) hx hb d_I_remainder_JJ_65 hl (by decide) rfl (fun ls hl => ?_)
          exact k_I_remainder_JJ_67 C0 (v7.toNatClampNeg + 1) x0 x2 v1 v6 v7 (fun h => c4 ((lg_cmp_eq _ _).mpr h)) (Nat.lt_succ_self _) ls (lv_sub hl [3, 4, 2, 1, 0] rfl) (by have qe1 := e1.symm; have qe6 := e6.symm; have qe7 := e7.symm; subst qe1 qe6 qe7; exact (Eq.trans (if_pos c2) (Eq.trans (if_neg c3) (Eq.trans (if_neg c4) (if_pos c5)))))
        · refine lv_lload_n hx hb d_I_remainder_JJ_45 rfl (lv_at hl 1 rfl) ?_
          exact pu_lret hx hb hr hlocks d_I_remainder_JJ_46 (by have qe1 := e1.symm; subst qe1; exact Eq.symm (Eq.trans (if_pos c2) (Eq.trans (if_neg c3) (Eq.trans (if_neg c4) (if_neg c5)))))
      · refine lv_ldc2 (v := (9221120237041090560 : Int64)) hx hb hown (hts _ (gm tw_92)) d_I_remainder_JJ_27 ?_
        exact pu_lret hx hb hr hlocks d_I_remainder_JJ_30 (by have qe1 := e1.symm; subst qe1; exact Eq.symm (Eq.trans (if_pos c2) (Eq.trans (if_neg c3) (if_pos c4))))
-- ===== MotionLab$Ieee.lesser(JJ)J
abbrev y_I_lesser_JJ : MethodName := ⟨"MotionLab$Ieee", "lesser", "(JJ)J"⟩
abbrev b_I_lesser_JJ : ByteArray := prog_2_method_9_code
theorem d_I_lesser_JJ_0 : decode b_I_lesser_JJ 0 = .ok (.lload_n 0, 1) := by decide +kernel
theorem d_I_lesser_JJ_1 : decode b_I_lesser_JJ 1 = .ok (.invokestatic 13, 3) := by decide +kernel
theorem d_I_lesser_JJ_4 : decode b_I_lesser_JJ 4 = .ok (.ifCond .ne 10, 3) := by decide +kernel
theorem d_I_lesser_JJ_7 : decode b_I_lesser_JJ 7 = .ok (.lload_n 2, 1) := by decide +kernel
theorem d_I_lesser_JJ_8 : decode b_I_lesser_JJ 8 = .ok (.invokestatic 13, 3) := by decide +kernel
theorem d_I_lesser_JJ_11 : decode b_I_lesser_JJ 11 = .ok (.ifCond .eq 7, 3) := by decide +kernel
theorem d_I_lesser_JJ_14 : decode b_I_lesser_JJ 14 = .ok (.ldc2_w 17, 3) := by decide +kernel
theorem d_I_lesser_JJ_17 : decode b_I_lesser_JJ 17 = .ok (.lreturn, 1) := by decide +kernel
theorem d_I_lesser_JJ_18 : decode b_I_lesser_JJ 18 = .ok (.lload_n 0, 1) := by decide +kernel
theorem d_I_lesser_JJ_19 : decode b_I_lesser_JJ 19 = .ok (.invokestatic 25, 3) := by decide +kernel
theorem d_I_lesser_JJ_22 : decode b_I_lesser_JJ 22 = .ok (.lload_n 2, 1) := by decide +kernel
theorem d_I_lesser_JJ_23 : decode b_I_lesser_JJ 23 = .ok (.invokestatic 25, 3) := by decide +kernel
theorem d_I_lesser_JJ_26 : decode b_I_lesser_JJ 26 = .ok (.lcmp, 1) := by decide +kernel
theorem d_I_lesser_JJ_27 : decode b_I_lesser_JJ 27 = .ok (.ifCond .ne 7, 3) := by decide +kernel
theorem d_I_lesser_JJ_30 : decode b_I_lesser_JJ 30 = .ok (.lload_n 0, 1) := by decide +kernel
theorem d_I_lesser_JJ_31 : decode b_I_lesser_JJ 31 = .ok (.lload_n 2, 1) := by decide +kernel
theorem d_I_lesser_JJ_32 : decode b_I_lesser_JJ 32 = .ok (.lor, 1) := by decide +kernel
theorem d_I_lesser_JJ_33 : decode b_I_lesser_JJ 33 = .ok (.lreturn, 1) := by decide +kernel
theorem d_I_lesser_JJ_34 : decode b_I_lesser_JJ 34 = .ok (.lload_n 0, 1) := by decide +kernel
theorem d_I_lesser_JJ_35 : decode b_I_lesser_JJ 35 = .ok (.invokestatic 25, 3) := by decide +kernel
theorem d_I_lesser_JJ_38 : decode b_I_lesser_JJ 38 = .ok (.lload_n 2, 1) := by decide +kernel
theorem d_I_lesser_JJ_39 : decode b_I_lesser_JJ 39 = .ok (.invokestatic 25, 3) := by decide +kernel
theorem d_I_lesser_JJ_42 : decode b_I_lesser_JJ 42 = .ok (.lcmp, 1) := by decide +kernel
theorem d_I_lesser_JJ_43 : decode b_I_lesser_JJ 43 = .ok (.ifCond .ge 7, 3) := by decide +kernel
theorem d_I_lesser_JJ_46 : decode b_I_lesser_JJ 46 = .ok (.lload_n 0, 1) := by decide +kernel
theorem d_I_lesser_JJ_47 : decode b_I_lesser_JJ 47 = .ok (.goto 4, 3) := by decide +kernel
theorem d_I_lesser_JJ_50 : decode b_I_lesser_JJ 50 = .ok (.lload_n 2, 1) := by decide +kernel
theorem d_I_lesser_JJ_51 : decode b_I_lesser_JJ 51 = .ok (.lreturn, 1) := by decide +kernel
def f_I_lesser_JJ (x0 : Int64) (x2 : Int64) : Int64 :=
  if (f_I_isNoNumber_J x0) = 0 then
    if (f_I_isNoNumber_J x2) = 0 then
      if (lg_cmp (f_I_order_J x0) (f_I_order_J x2)) = 0 then
        x0 ||| x2
      else
        if 0 ≤ (lg_cmp (f_I_order_J x0) (f_I_order_J x2)) then
          x2
        else
          x0
    else
      (9221120237041090560 : Int64)
  else
    (9221120237041090560 : Int64)
set_option maxHeartbeats 4000000 in
set_option maxRecDepth 100000 in
theorem c_I_lesser_JJ (l : Launch) (h : Heap) (x0 : Int64) (x2 : Int64) : Met l y_I_lesser_JJ (gw y_I_lesser_JJ b_I_lesser_JJ 4 (some .long)) { frames := 1, cells := 0, slots := 0, locals := 21 } (pu_Pc [.long x0, .long x2] h) (pu_Ml (f_I_lesser_JJ x0 x2) h) 0 0 (fun _ => False) := by
  refine Met.ofW (cc := b_I_lesser_JJ) (maxL := 4) (ret := (some .long)) (by decide) rfl ?_
  intro p e s m args below meth c s₁ B hml hv
  obtain ⟨rfl, hh⟩ := hv
  subst hh
  have hx := B.exec
  have hb := B.bytes
  have hr := B.returns
  have hts := atoms_spec (ws := (gw y_I_lesser_JJ b_I_lesser_JJ 4 (some .long))) B.pre
  have hown : s.vm.findClass "MotionLab$Ieee" = some m.cls := findClass_of_methodNamed B.named
  have hlocks := B.notSynchronized
  have C0 : pu_C p s m _ meth c b_I_lesser_JJ 4 "MotionLab$Ieee" (some .long) (gw y_I_lesser_JJ b_I_lesser_JJ 4 (some .long)) := ⟨hx, hb, hml, hown, hts, hr, hlocks⟩
  have hl := lv_entry ([.long x0, .long x2]) (n := 4) (Nat.le_of_ble_eq_true rfl)
  rw [lg_entry_eq]
  generalize (lg_sl ([.long x0, .long x2]) ++ List.replicate (4 - (lg_sl ([.long x0, .long x2])).length) Slot.unset).toArray = ls at hl ⊢
  have hl : lv_has ls 4 [(0, .long x0), (2, .long x2)] := hl
  refine lv_lload_n hx hb d_I_lesser_JJ_0 rfl (lv_at hl 0 rfl) ?_
  refine pu_i (As := [.long x0]) (rest := []) ⟨hx, hb, hml, hown, hts⟩ (c_I_isNoNumber_J l _ x0) pu_pre (gw_call (k := 1) hts tw_89 tw_90 tw_5 tw_91 (by decide +kernel) rfl rfl ⟨Nat.le_of_ble_eq_true rfl, Nat.le_of_ble_eq_true rfl⟩) rfl hl.1 rfl (Nat.le_of_ble_eq_true rfl) ⟨Nat.zero_le _, Nat.zero_le _⟩ d_I_lesser_JJ_1 ?_
  refine lv_if_ne (tgt := 14) hx hb d_I_lesser_JJ_4 (by decide) (fun c1 => ?_) (fun c1 => ?_)
  · refine lv_ldc2 (v := (9221120237041090560 : Int64)) hx hb hown (hts _ (gm tw_92)) d_I_lesser_JJ_14 ?_
    exact pu_lret hx hb hr hlocks d_I_lesser_JJ_17 (by exact Eq.symm (if_neg c1))
  · refine lv_lload_n hx hb d_I_lesser_JJ_7 rfl (lv_at hl 1 rfl) ?_
    refine pu_i (As := [.long x2]) (rest := []) ⟨hx, hb, hml, hown, hts⟩ (c_I_isNoNumber_J l _ x2) pu_pre (gw_call (k := 1) hts tw_89 tw_90 tw_5 tw_91 (by decide +kernel) rfl rfl ⟨Nat.le_of_ble_eq_true rfl, Nat.le_of_ble_eq_true rfl⟩) rfl hl.1 rfl (Nat.le_of_ble_eq_true rfl) ⟨Nat.zero_le _, Nat.zero_le _⟩ d_I_lesser_JJ_8 ?_
    refine lv_if_eq (tgt := 18) hx hb d_I_lesser_JJ_11 (by decide) (fun c2 => ?_) (fun c2 => ?_)
    · refine lv_lload_n hx hb d_I_lesser_JJ_18 rfl (lv_at hl 0 rfl) ?_
      refine pu_l (As := [.long x0]) (rest := []) ⟨hx, hb, hml, hown, hts⟩ (c_I_order_J l _ x0) pu_pre (gw_call (k := 1) hts tw_233 tw_234 tw_5 tw_235 (by decide +kernel) rfl rfl ⟨Nat.le_of_ble_eq_true rfl, Nat.le_of_ble_eq_true rfl⟩) rfl hl.1 rfl (Nat.le_of_ble_eq_true rfl) ⟨Nat.zero_le _, Nat.zero_le _⟩ d_I_lesser_JJ_19 ?_
      refine lv_lload_n hx hb d_I_lesser_JJ_22 rfl (lv_at hl 1 rfl) ?_
      refine pu_l (As := [.long x2]) (rest := [.long (f_I_order_J x0)]) ⟨hx, hb, hml, hown, hts⟩ (c_I_order_J l _ x2) pu_pre (gw_call (k := 1) hts tw_233 tw_234 tw_5 tw_235 (by decide +kernel) rfl rfl ⟨Nat.le_of_ble_eq_true rfl, Nat.le_of_ble_eq_true rfl⟩) rfl hl.1 rfl (Nat.le_of_ble_eq_true rfl) ⟨Nat.zero_le _, Nat.zero_le _⟩ d_I_lesser_JJ_23 ?_
      refine W.lcmp hx hb d_I_lesser_JJ_26 ?_
      refine lv_if_ne (tgt := 34) hx hb d_I_lesser_JJ_27 (by decide) (fun c3 => ?_) (fun c3 => ?_)
      · refine lv_lload_n hx hb d_I_lesser_JJ_34 rfl (lv_at hl 0 rfl) ?_
        refine pu_l (As := [.long x0]) (rest := []) ⟨hx, hb, hml, hown, hts⟩ (c_I_order_J l _ x0) pu_pre (gw_call (k := 1) hts tw_233 tw_234 tw_5 tw_235 (by decide +kernel) rfl rfl ⟨Nat.le_of_ble_eq_true rfl, Nat.le_of_ble_eq_true rfl⟩) rfl hl.1 rfl (Nat.le_of_ble_eq_true rfl) ⟨Nat.zero_le _, Nat.zero_le _⟩ d_I_lesser_JJ_35 ?_
        refine lv_lload_n hx hb d_I_lesser_JJ_38 rfl (lv_at hl 1 rfl) ?_
        refine pu_l (As := [.long x2]) (rest := [.long (f_I_order_J x0)]) ⟨hx, hb, hml, hown, hts⟩ (c_I_order_J l _ x2) pu_pre (gw_call (k := 1) hts tw_233 tw_234 tw_5 tw_235 (by decide +kernel) rfl rfl ⟨Nat.le_of_ble_eq_true rfl, Nat.le_of_ble_eq_true rfl⟩) rfl hl.1 rfl (Nat.le_of_ble_eq_true rfl) ⟨Nat.zero_le _, Nat.zero_le _⟩ d_I_lesser_JJ_39 ?_
        refine W.lcmp hx hb d_I_lesser_JJ_42 ?_
        refine lv_if_ge (tgt := 50) hx hb d_I_lesser_JJ_43 (by decide) (fun c4 => ?_) (fun c4 => ?_)
        · refine lv_lload_n hx hb d_I_lesser_JJ_50 rfl (lv_at hl 1 rfl) ?_
          exact pu_lret hx hb hr hlocks d_I_lesser_JJ_51 (by exact Eq.symm (Eq.trans (if_pos c1) (Eq.trans (if_pos c2) (Eq.trans (if_neg c3) (if_pos c4)))))
        · refine lv_lload_n hx hb d_I_lesser_JJ_46 rfl (lv_at hl 0 rfl) ?_
          refine lv_goto (tgt := 51) hx hb d_I_lesser_JJ_47 (by decide) ?_
          exact pu_lret hx hb hr hlocks d_I_lesser_JJ_51 (by exact Eq.symm (Eq.trans (if_pos c1) (Eq.trans (if_pos c2) (Eq.trans (if_neg c3) (if_neg c4)))))
      · refine lv_lload_n hx hb d_I_lesser_JJ_30 rfl (lv_at hl 0 rfl) ?_
        refine lv_lload_n hx hb d_I_lesser_JJ_31 rfl (lv_at hl 1 rfl) ?_
        refine lv_lor hx hb d_I_lesser_JJ_32 ?_
        exact pu_lret hx hb hr hlocks d_I_lesser_JJ_33 (by exact Eq.symm (Eq.trans (if_pos c1) (Eq.trans (if_pos c2) (if_pos c3))))
    · refine lv_ldc2 (v := (9221120237041090560 : Int64)) hx hb hown (hts _ (gm tw_92)) d_I_lesser_JJ_14 ?_
      exact pu_lret hx hb hr hlocks d_I_lesser_JJ_17 (by exact Eq.symm (Eq.trans (if_pos c1) (if_neg c2)))
-- ===== MotionLab$Ieee.greater(JJ)J
abbrev y_I_greater_JJ : MethodName := ⟨"MotionLab$Ieee", "greater", "(JJ)J"⟩
abbrev b_I_greater_JJ : ByteArray := prog_2_method_10_code
theorem d_I_greater_JJ_0 : decode b_I_greater_JJ 0 = .ok (.lload_n 0, 1) := by decide +kernel
theorem d_I_greater_JJ_1 : decode b_I_greater_JJ 1 = .ok (.invokestatic 28, 3) := by decide +kernel
theorem d_I_greater_JJ_4 : decode b_I_greater_JJ 4 = .ok (.lload_n 2, 1) := by decide +kernel
theorem d_I_greater_JJ_5 : decode b_I_greater_JJ 5 = .ok (.invokestatic 28, 3) := by decide +kernel
theorem d_I_greater_JJ_8 : decode b_I_greater_JJ 8 = .ok (.invokestatic 31, 3) := by decide +kernel
theorem d_I_greater_JJ_11 : decode b_I_greater_JJ 11 = .ok (.invokestatic 28, 3) := by decide +kernel
theorem d_I_greater_JJ_14 : decode b_I_greater_JJ 14 = .ok (.lreturn, 1) := by decide +kernel
def f_I_greater_JJ (x0 : Int64) (x2 : Int64) : Int64 :=
  f_I_negated_J (f_I_lesser_JJ (f_I_negated_J x0) (f_I_negated_J x2))
set_option maxHeartbeats 4000000 in
set_option maxRecDepth 100000 in
theorem c_I_greater_JJ (l : Launch) (h : Heap) (x0 : Int64) (x2 : Int64) : Met l y_I_greater_JJ (gw y_I_greater_JJ b_I_greater_JJ 4 (some .long)) { frames := 3, cells := 0, slots := 0, locals := 63 } (pu_Pc [.long x0, .long x2] h) (pu_Ml (f_I_greater_JJ x0 x2) h) 0 0 (fun _ => False) := by
  refine Met.ofW (cc := b_I_greater_JJ) (maxL := 4) (ret := (some .long)) (by decide) rfl ?_
  intro p e s m args below meth c s₁ B hml hv
  obtain ⟨rfl, hh⟩ := hv
  subst hh
  have hx := B.exec
  have hb := B.bytes
  have hr := B.returns
  have hts := atoms_spec (ws := (gw y_I_greater_JJ b_I_greater_JJ 4 (some .long))) B.pre
  have hown : s.vm.findClass "MotionLab$Ieee" = some m.cls := findClass_of_methodNamed B.named
  have hlocks := B.notSynchronized
  have C0 : pu_C p s m _ meth c b_I_greater_JJ 4 "MotionLab$Ieee" (some .long) (gw y_I_greater_JJ b_I_greater_JJ 4 (some .long)) := ⟨hx, hb, hml, hown, hts, hr, hlocks⟩
  have hl := lv_entry ([.long x0, .long x2]) (n := 4) (Nat.le_of_ble_eq_true rfl)
  rw [lg_entry_eq]
  generalize (lg_sl ([.long x0, .long x2]) ++ List.replicate (4 - (lg_sl ([.long x0, .long x2])).length) Slot.unset).toArray = ls at hl ⊢
  have hl : lv_has ls 4 [(0, .long x0), (2, .long x2)] := hl
  refine lv_lload_n hx hb d_I_greater_JJ_0 rfl (lv_at hl 0 rfl) ?_
  refine pu_l (As := [.long x0]) (rest := []) ⟨hx, hb, hml, hown, hts⟩ (c_I_negated_J l _ x0) pu_pre (gw_call (k := 1) hts tw_320 tw_263 tw_5 tw_264 (by decide +kernel) rfl rfl ⟨Nat.le_of_ble_eq_true rfl, Nat.le_of_ble_eq_true rfl⟩) rfl hl.1 rfl (Nat.le_of_ble_eq_true rfl) ⟨Nat.zero_le _, Nat.zero_le _⟩ d_I_greater_JJ_1 ?_
  refine lv_lload_n hx hb d_I_greater_JJ_4 rfl (lv_at hl 1 rfl) ?_
  refine pu_l (As := [.long x2]) (rest := [.long (f_I_negated_J x0)]) ⟨hx, hb, hml, hown, hts⟩ (c_I_negated_J l _ x2) pu_pre (gw_call (k := 1) hts tw_320 tw_263 tw_5 tw_264 (by decide +kernel) rfl rfl ⟨Nat.le_of_ble_eq_true rfl, Nat.le_of_ble_eq_true rfl⟩) rfl hl.1 rfl (Nat.le_of_ble_eq_true rfl) ⟨Nat.zero_le _, Nat.zero_le _⟩ d_I_greater_JJ_5 ?_
  refine pu_l (As := [.long (f_I_negated_J x0), .long (f_I_negated_J x2)]) (rest := []) ⟨hx, hb, hml, hown, hts⟩ (c_I_lesser_JJ l _ (f_I_negated_J x0) (f_I_negated_J x2)) pu_pre (gw_call (k := 2) hts tw_321 tw_315 tw_5 tw_316 (by decide +kernel) rfl rfl ⟨Nat.le_of_ble_eq_true rfl, Nat.le_of_ble_eq_true rfl⟩) rfl hl.1 rfl (Nat.le_of_ble_eq_true rfl) ⟨Nat.zero_le _, Nat.zero_le _⟩ d_I_greater_JJ_8 ?_
  refine pu_l (As := [.long (f_I_lesser_JJ (f_I_negated_J x0) (f_I_negated_J x2))]) (rest := []) ⟨hx, hb, hml, hown, hts⟩ (c_I_negated_J l _ (f_I_lesser_JJ (f_I_negated_J x0) (f_I_negated_J x2))) pu_pre (gw_call (k := 1) hts tw_320 tw_263 tw_5 tw_264 (by decide +kernel) rfl rfl ⟨Nat.le_of_ble_eq_true rfl, Nat.le_of_ble_eq_true rfl⟩) rfl hl.1 rfl (Nat.le_of_ble_eq_true rfl) ⟨Nat.zero_le _, Nat.zero_le _⟩ d_I_greater_JJ_11 ?_
  exact pu_lret hx hb hr hlocks d_I_greater_JJ_14 (by exact Eq.symm rfl)
-- ===== MotionLab.floatResult(IJJ)J
abbrev y_L_floatResult_IJJ : MethodName := ⟨"MotionLab", "floatResult", "(IJJ)J"⟩
abbrev b_L_floatResult_IJJ : ByteArray := prog_1_method_21_code
theorem d_L_floatResult_IJJ_0 : decode b_L_floatResult_IJJ 0 = .ok (.iload_n 0, 1) := by decide +kernel
theorem d_L_floatResult_IJJ_1 : decode b_L_floatResult_IJJ 1 = .ok (.tableswitch 67 8 11 #[31, 40, 49, 58], 31) := by decide +kernel
theorem d_L_floatResult_IJJ_32 : decode b_L_floatResult_IJJ 32 = .ok (.lload_n 1, 1) := by decide +kernel
theorem d_L_floatResult_IJJ_33 : decode b_L_floatResult_IJJ 33 = .ok (.lload_n 3, 1) := by decide +kernel
theorem d_L_floatResult_IJJ_34 : decode b_L_floatResult_IJJ 34 = .ok (.invokestatic 122, 3) := by decide +kernel
theorem d_L_floatResult_IJJ_37 : decode b_L_floatResult_IJJ 37 = .ok (.invokestatic 125, 3) := by decide +kernel
theorem d_L_floatResult_IJJ_40 : decode b_L_floatResult_IJJ 40 = .ok (.lreturn, 1) := by decide +kernel
theorem d_L_floatResult_IJJ_41 : decode b_L_floatResult_IJJ 41 = .ok (.lload_n 1, 1) := by decide +kernel
theorem d_L_floatResult_IJJ_42 : decode b_L_floatResult_IJJ 42 = .ok (.lload_n 3, 1) := by decide +kernel
theorem d_L_floatResult_IJJ_43 : decode b_L_floatResult_IJJ 43 = .ok (.invokestatic 131, 3) := by decide +kernel
theorem d_L_floatResult_IJJ_46 : decode b_L_floatResult_IJJ 46 = .ok (.invokestatic 125, 3) := by decide +kernel
theorem d_L_floatResult_IJJ_49 : decode b_L_floatResult_IJJ 49 = .ok (.lreturn, 1) := by decide +kernel
theorem d_L_floatResult_IJJ_50 : decode b_L_floatResult_IJJ 50 = .ok (.lload_n 1, 1) := by decide +kernel
theorem d_L_floatResult_IJJ_51 : decode b_L_floatResult_IJJ 51 = .ok (.lload_n 3, 1) := by decide +kernel
theorem d_L_floatResult_IJJ_52 : decode b_L_floatResult_IJJ 52 = .ok (.invokestatic 118, 3) := by decide +kernel
theorem d_L_floatResult_IJJ_55 : decode b_L_floatResult_IJJ 55 = .ok (.invokestatic 125, 3) := by decide +kernel
theorem d_L_floatResult_IJJ_58 : decode b_L_floatResult_IJJ 58 = .ok (.lreturn, 1) := by decide +kernel
theorem d_L_floatResult_IJJ_59 : decode b_L_floatResult_IJJ 59 = .ok (.lload_n 1, 1) := by decide +kernel
theorem d_L_floatResult_IJJ_60 : decode b_L_floatResult_IJJ 60 = .ok (.lload_n 3, 1) := by decide +kernel
theorem d_L_floatResult_IJJ_61 : decode b_L_floatResult_IJJ 61 = .ok (.invokestatic 134, 3) := by decide +kernel
theorem d_L_floatResult_IJJ_64 : decode b_L_floatResult_IJJ 64 = .ok (.invokestatic 125, 3) := by decide +kernel
theorem d_L_floatResult_IJJ_67 : decode b_L_floatResult_IJJ 67 = .ok (.lreturn, 1) := by decide +kernel
theorem d_L_floatResult_IJJ_68 : decode b_L_floatResult_IJJ 68 = .ok (.lload_n 1, 1) := by decide +kernel
theorem d_L_floatResult_IJJ_69 : decode b_L_floatResult_IJJ 69 = .ok (.lload_n 3, 1) := by decide +kernel
theorem d_L_floatResult_IJJ_70 : decode b_L_floatResult_IJJ 70 = .ok (.invokestatic 137, 3) := by decide +kernel
theorem d_L_floatResult_IJJ_73 : decode b_L_floatResult_IJJ 73 = .ok (.lreturn, 1) := by decide +kernel
def f_L_floatResult_IJJ (x0 : Int32) (x1 : Int64) (x3 : Int64) : Int64 :=
  if x0 = 8 then
    f_I_toFloat_J (f_I_sum_JJ x1 x3)
  else
    if x0 = 9 then
      f_I_toFloat_J (f_I_difference_JJ x1 x3)
    else
      if x0 = 10 then
        f_I_toFloat_J (f_I_product_JJ x1 x3)
      else
        if x0 = 11 then
          f_I_toFloat_J (f_I_quotient_JJ x1 x3)
        else
          f_I_remainder_JJ x1 x3
set_option maxHeartbeats 4000000 in
set_option maxRecDepth 100000 in
theorem c_L_floatResult_IJJ (l : Launch) (h : Heap) (x0 : Int32) (x1 : Int64) (x3 : Int64) : Met l y_L_floatResult_IJJ (gw y_L_floatResult_IJJ b_L_floatResult_IJJ 5 (some .long)) { frames := 5, cells := 0, slots := 0, locals := 127 } (pu_Pc [.int x0, .long x1, .long x3] h) (pu_Ml (f_L_floatResult_IJJ x0 x1 x3) h) 0 0 (fun _ => False) := by
  refine Met.ofW (cc := b_L_floatResult_IJJ) (maxL := 5) (ret := (some .long)) (by decide) rfl ?_
  intro p e s m args below meth c s₁ B hml hv
  obtain ⟨rfl, hh⟩ := hv
  subst hh
  have hx := B.exec
  have hb := B.bytes
  have hr := B.returns
  have hts := atoms_spec (ws := (gw y_L_floatResult_IJJ b_L_floatResult_IJJ 5 (some .long))) B.pre
  have hown : s.vm.findClass "MotionLab" = some m.cls := findClass_of_methodNamed B.named
  have hlocks := B.notSynchronized
  have C0 : pu_C p s m _ meth c b_L_floatResult_IJJ 5 "MotionLab" (some .long) (gw y_L_floatResult_IJJ b_L_floatResult_IJJ 5 (some .long)) := ⟨hx, hb, hml, hown, hts, hr, hlocks⟩
  have hl := lv_entry ([.int x0, .long x1, .long x3]) (n := 5) (Nat.le_of_ble_eq_true rfl)
  rw [lg_entry_eq]
  generalize (lg_sl ([.int x0, .long x1, .long x3]) ++ List.replicate (5 - (lg_sl ([.int x0, .long x1, .long x3])).length) Slot.unset).toArray = ls at hl ⊢
  have hl : lv_has ls 5 [(0, .int x0), (1, .long x1), (3, .long x3)] := hl
  refine lv_iload_n hx hb d_L_floatResult_IJJ_0 rfl (lv_at hl 0 rfl) ?_
  by_cases c1 : x0 = 8
  · refine lv_tableIn (off := 31) (tgt := 32) hx hb d_L_floatResult_IJJ_1 (by rw [c1]; decide) (by rw [c1]; decide) (by rw [c1]; rfl) (by decide) ?_
    refine lv_lload_n hx hb d_L_floatResult_IJJ_32 rfl (lv_at hl 1 rfl) ?_
    refine lv_lload_n hx hb d_L_floatResult_IJJ_33 rfl (lv_at hl 2 rfl) ?_
    refine pu_l (As := [.long x1, .long x3]) (rest := []) ⟨hx, hb, hml, hown, hts⟩ (c_I_sum_JJ l _ x1 x3) pu_pre (gw_call (k := 2) hts tw_301 tw_192 tw_5 tw_193 (by decide +kernel) rfl rfl ⟨Nat.le_of_ble_eq_true rfl, Nat.le_of_ble_eq_true rfl⟩) rfl hl.1 rfl (Nat.le_of_ble_eq_true rfl) ⟨Nat.zero_le _, Nat.zero_le _⟩ d_L_floatResult_IJJ_34 ?_
    refine pu_l (As := [.long (f_I_sum_JJ x1 x3)]) (rest := []) ⟨hx, hb, hml, hown, hts⟩ (c_I_toFloat_J l _ (f_I_sum_JJ x1 x3)) pu_pre (gw_call (k := 1) hts tw_313 tw_79 tw_5 tw_80 (by decide +kernel) rfl rfl ⟨Nat.le_of_ble_eq_true rfl, Nat.le_of_ble_eq_true rfl⟩) rfl hl.1 rfl (Nat.le_of_ble_eq_true rfl) ⟨Nat.zero_le _, Nat.zero_le _⟩ d_L_floatResult_IJJ_37 ?_
    exact pu_lret hx hb hr hlocks d_L_floatResult_IJJ_40 (by exact Eq.symm (if_pos c1))
  · skip
    by_cases c2 : x0 = 9
    · refine lv_tableIn (off := 40) (tgt := 41) hx hb d_L_floatResult_IJJ_1 (by rw [c2]; decide) (by rw [c2]; decide) (by rw [c2]; rfl) (by decide) ?_
      refine lv_lload_n hx hb d_L_floatResult_IJJ_41 rfl (lv_at hl 1 rfl) ?_
      refine lv_lload_n hx hb d_L_floatResult_IJJ_42 rfl (lv_at hl 2 rfl) ?_
      refine pu_l (As := [.long x1, .long x3]) (rest := []) ⟨hx, hb, hml, hown, hts⟩ (c_I_difference_JJ l _ x1 x3) pu_pre (gw_call (k := 2) hts tw_302 tw_189 tw_5 tw_190 (by decide +kernel) rfl rfl ⟨Nat.le_of_ble_eq_true rfl, Nat.le_of_ble_eq_true rfl⟩) rfl hl.1 rfl (Nat.le_of_ble_eq_true rfl) ⟨Nat.zero_le _, Nat.zero_le _⟩ d_L_floatResult_IJJ_43 ?_
      refine pu_l (As := [.long (f_I_difference_JJ x1 x3)]) (rest := []) ⟨hx, hb, hml, hown, hts⟩ (c_I_toFloat_J l _ (f_I_difference_JJ x1 x3)) pu_pre (gw_call (k := 1) hts tw_313 tw_79 tw_5 tw_80 (by decide +kernel) rfl rfl ⟨Nat.le_of_ble_eq_true rfl, Nat.le_of_ble_eq_true rfl⟩) rfl hl.1 rfl (Nat.le_of_ble_eq_true rfl) ⟨Nat.zero_le _, Nat.zero_le _⟩ d_L_floatResult_IJJ_46 ?_
      exact pu_lret hx hb hr hlocks d_L_floatResult_IJJ_49 (by exact Eq.symm (Eq.trans (if_neg c1) (if_pos c2)))
    · skip
      by_cases c3 : x0 = 10
      · refine lv_tableIn (off := 49) (tgt := 50) hx hb d_L_floatResult_IJJ_1 (by rw [c3]; decide) (by rw [c3]; decide) (by rw [c3]; rfl) (by decide) ?_
        refine lv_lload_n hx hb d_L_floatResult_IJJ_50 rfl (lv_at hl 1 rfl) ?_
        refine lv_lload_n hx hb d_L_floatResult_IJJ_51 rfl (lv_at hl 2 rfl) ?_
        refine pu_l (As := [.long x1, .long x3]) (rest := []) ⟨hx, hb, hml, hown, hts⟩ (c_I_product_JJ l _ x1 x3) pu_pre (gw_call (k := 2) hts tw_303 tw_175 tw_5 tw_176 (by decide +kernel) rfl rfl ⟨Nat.le_of_ble_eq_true rfl, Nat.le_of_ble_eq_true rfl⟩) rfl hl.1 rfl (Nat.le_of_ble_eq_true rfl) ⟨Nat.zero_le _, Nat.zero_le _⟩ d_L_floatResult_IJJ_52 ?_
        refine pu_l (As := [.long (f_I_product_JJ x1 x3)]) (rest := []) ⟨hx, hb, hml, hown, hts⟩ (c_I_toFloat_J l _ (f_I_product_JJ x1 x3)) pu_pre (gw_call (k := 1) hts tw_313 tw_79 tw_5 tw_80 (by decide +kernel) rfl rfl ⟨Nat.le_of_ble_eq_true rfl, Nat.le_of_ble_eq_true rfl⟩) rfl hl.1 rfl (Nat.le_of_ble_eq_true rfl) ⟨Nat.zero_le _, Nat.zero_le _⟩ d_L_floatResult_IJJ_55 ?_
        exact pu_lret hx hb hr hlocks d_L_floatResult_IJJ_58 (by exact Eq.symm (Eq.trans (if_neg c1) (Eq.trans (if_neg c2) (if_pos c3))))
      · skip
        by_cases c4 : x0 = 11
        · refine lv_tableIn (off := 58) (tgt := 59) hx hb d_L_floatResult_IJJ_1 (by rw [c4]; decide) (by rw [c4]; decide) (by rw [c4]; rfl) (by decide) ?_
          refine lv_lload_n hx hb d_L_floatResult_IJJ_59 rfl (lv_at hl 1 rfl) ?_
          refine lv_lload_n hx hb d_L_floatResult_IJJ_60 rfl (lv_at hl 2 rfl) ?_
          refine pu_l (As := [.long x1, .long x3]) (rest := []) ⟨hx, hb, hml, hown, hts⟩ (c_I_quotient_JJ l _ x1 x3) pu_pre (gw_call (k := 2) hts tw_304 tw_224 tw_5 tw_225 (by decide +kernel) rfl rfl ⟨Nat.le_of_ble_eq_true rfl, Nat.le_of_ble_eq_true rfl⟩) rfl hl.1 rfl (Nat.le_of_ble_eq_true rfl) ⟨Nat.zero_le _, Nat.zero_le _⟩ d_L_floatResult_IJJ_61 ?_
          refine pu_l (As := [.long (f_I_quotient_JJ x1 x3)]) (rest := []) ⟨hx, hb, hml, hown, hts⟩ (c_I_toFloat_J l _ (f_I_quotient_JJ x1 x3)) pu_pre (gw_call (k := 1) hts tw_313 tw_79 tw_5 tw_80 (by decide +kernel) rfl rfl ⟨Nat.le_of_ble_eq_true rfl, Nat.le_of_ble_eq_true rfl⟩) rfl hl.1 rfl (Nat.le_of_ble_eq_true rfl) ⟨Nat.zero_le _, Nat.zero_le _⟩ d_L_floatResult_IJJ_64 ?_
          exact pu_lret hx hb hr hlocks d_L_floatResult_IJJ_67 (by exact Eq.symm (Eq.trans (if_neg c1) (Eq.trans (if_neg c2) (Eq.trans (if_neg c3) (if_pos c4)))))
        · skip
          refine lv_tableOut (tgt := 68) hx hb d_L_floatResult_IJJ_1 (sw_out (fun j h1 h2 e => by rcases (show j = 8 ∨ j = 9 ∨ j = 10 ∨ j = 11 by omega) with rfl | rfl | rfl | rfl <;> first | exact c1 (Int32.toInt_inj.mp (e.trans (by decide))) | exact c2 (Int32.toInt_inj.mp (e.trans (by decide))) | exact c3 (Int32.toInt_inj.mp (e.trans (by decide))) | exact c4 (Int32.toInt_inj.mp (e.trans (by decide))))) (by decide) ?_
          refine lv_lload_n hx hb d_L_floatResult_IJJ_68 rfl (lv_at hl 1 rfl) ?_
          refine lv_lload_n hx hb d_L_floatResult_IJJ_69 rfl (lv_at hl 2 rfl) ?_
          refine pu_l (As := [.long x1, .long x3]) (rest := []) ⟨hx, hb, hml, hown, hts⟩ (c_I_remainder_JJ l _ x1 x3) pu_pre (gw_call (k := 2) hts tw_305 tw_306 tw_5 tw_307 (by decide +kernel) rfl rfl ⟨Nat.le_of_ble_eq_true rfl, Nat.le_of_ble_eq_true rfl⟩) rfl hl.1 rfl (Nat.le_of_ble_eq_true rfl) ⟨Nat.zero_le _, Nat.zero_le _⟩ d_L_floatResult_IJJ_70 ?_
          exact pu_lret hx hb hr hlocks d_L_floatResult_IJJ_73 (by exact Eq.symm (Eq.trans (if_neg c1) (Eq.trans (if_neg c2) (Eq.trans (if_neg c3) (if_neg c4)))))
end
section
-- ===== MotionLab.result(IJJ)J
abbrev y_L_result_IJJ : MethodName := ⟨"MotionLab", "result", "(IJJ)J"⟩
abbrev b_L_result_IJJ : ByteArray := prog_1_method_20_code
theorem d_L_result_IJJ_0 : decode b_L_result_IJJ 0 = .ok (.iload_n 0, 1) := by decide +kernel
theorem d_L_result_IJJ_1 : decode b_L_result_IJJ 1 = .ok (.tableswitch 132 0 14 #[75, 81, 87, 93, 99, 105, 110, 115, 132, 132, 132, 132, 132, 120, 126], 75) := by decide +kernel
theorem d_L_result_IJJ_76 : decode b_L_result_IJJ 76 = .ok (.lload_n 1, 1) := by decide +kernel
theorem d_L_result_IJJ_77 : decode b_L_result_IJJ 77 = .ok (.lload_n 3, 1) := by decide +kernel
theorem d_L_result_IJJ_78 : decode b_L_result_IJJ 78 = .ok (.invokestatic 122, 3) := by decide +kernel
theorem d_L_result_IJJ_81 : decode b_L_result_IJJ 81 = .ok (.lreturn, 1) := by decide +kernel
theorem d_L_result_IJJ_82 : decode b_L_result_IJJ 82 = .ok (.lload_n 1, 1) := by decide +kernel
theorem d_L_result_IJJ_83 : decode b_L_result_IJJ 83 = .ok (.lload_n 3, 1) := by decide +kernel
theorem d_L_result_IJJ_84 : decode b_L_result_IJJ 84 = .ok (.invokestatic 131, 3) := by decide +kernel
theorem d_L_result_IJJ_87 : decode b_L_result_IJJ 87 = .ok (.lreturn, 1) := by decide +kernel
theorem d_L_result_IJJ_88 : decode b_L_result_IJJ 88 = .ok (.lload_n 1, 1) := by decide +kernel
theorem d_L_result_IJJ_89 : decode b_L_result_IJJ 89 = .ok (.lload_n 3, 1) := by decide +kernel
theorem d_L_result_IJJ_90 : decode b_L_result_IJJ 90 = .ok (.invokestatic 118, 3) := by decide +kernel
theorem d_L_result_IJJ_93 : decode b_L_result_IJJ 93 = .ok (.lreturn, 1) := by decide +kernel
theorem d_L_result_IJJ_94 : decode b_L_result_IJJ 94 = .ok (.lload_n 1, 1) := by decide +kernel
theorem d_L_result_IJJ_95 : decode b_L_result_IJJ 95 = .ok (.lload_n 3, 1) := by decide +kernel
theorem d_L_result_IJJ_96 : decode b_L_result_IJJ 96 = .ok (.invokestatic 134, 3) := by decide +kernel
theorem d_L_result_IJJ_99 : decode b_L_result_IJJ 99 = .ok (.lreturn, 1) := by decide +kernel
theorem d_L_result_IJJ_100 : decode b_L_result_IJJ 100 = .ok (.lload_n 1, 1) := by decide +kernel
theorem d_L_result_IJJ_101 : decode b_L_result_IJJ 101 = .ok (.lload_n 3, 1) := by decide +kernel
theorem d_L_result_IJJ_102 : decode b_L_result_IJJ 102 = .ok (.invokestatic 137, 3) := by decide +kernel
theorem d_L_result_IJJ_105 : decode b_L_result_IJJ 105 = .ok (.lreturn, 1) := by decide +kernel
theorem d_L_result_IJJ_106 : decode b_L_result_IJJ 106 = .ok (.lload_n 1, 1) := by decide +kernel
theorem d_L_result_IJJ_107 : decode b_L_result_IJJ 107 = .ok (.invokestatic 140, 3) := by decide +kernel
theorem d_L_result_IJJ_110 : decode b_L_result_IJJ 110 = .ok (.lreturn, 1) := by decide +kernel
theorem d_L_result_IJJ_111 : decode b_L_result_IJJ 111 = .ok (.lload_n 1, 1) := by decide +kernel
theorem d_L_result_IJJ_112 : decode b_L_result_IJJ 112 = .ok (.invokestatic 143, 3) := by decide +kernel
theorem d_L_result_IJJ_115 : decode b_L_result_IJJ 115 = .ok (.lreturn, 1) := by decide +kernel
theorem d_L_result_IJJ_116 : decode b_L_result_IJJ 116 = .ok (.lload_n 1, 1) := by decide +kernel
theorem d_L_result_IJJ_117 : decode b_L_result_IJJ 117 = .ok (.invokestatic 125, 3) := by decide +kernel
theorem d_L_result_IJJ_120 : decode b_L_result_IJJ 120 = .ok (.lreturn, 1) := by decide +kernel
theorem d_L_result_IJJ_121 : decode b_L_result_IJJ 121 = .ok (.lload_n 1, 1) := by decide +kernel
theorem d_L_result_IJJ_122 : decode b_L_result_IJJ 122 = .ok (.lload_n 3, 1) := by decide +kernel
theorem d_L_result_IJJ_123 : decode b_L_result_IJJ 123 = .ok (.invokestatic 146, 3) := by decide +kernel
theorem d_L_result_IJJ_126 : decode b_L_result_IJJ 126 = .ok (.lreturn, 1) := by decide +kernel
theorem d_L_result_IJJ_127 : decode b_L_result_IJJ 127 = .ok (.lload_n 1, 1) := by decide +kernel
theorem d_L_result_IJJ_128 : decode b_L_result_IJJ 128 = .ok (.lload_n 3, 1) := by decide +kernel
theorem d_L_result_IJJ_129 : decode b_L_result_IJJ 129 = .ok (.invokestatic 149, 3) := by decide +kernel
theorem d_L_result_IJJ_132 : decode b_L_result_IJJ 132 = .ok (.lreturn, 1) := by decide +kernel
theorem d_L_result_IJJ_133 : decode b_L_result_IJJ 133 = .ok (.iload_n 0, 1) := by decide +kernel
theorem d_L_result_IJJ_134 : decode b_L_result_IJJ 134 = .ok (.lload_n 1, 1) := by decide +kernel
theorem d_L_result_IJJ_135 : decode b_L_result_IJJ 135 = .ok (.invokestatic 125, 3) := by decide +kernel
theorem d_L_result_IJJ_138 : decode b_L_result_IJJ 138 = .ok (.lload_n 3, 1) := by decide +kernel
theorem d_L_result_IJJ_139 : decode b_L_result_IJJ 139 = .ok (.invokestatic 125, 3) := by decide +kernel
theorem d_L_result_IJJ_142 : decode b_L_result_IJJ 142 = .ok (.invokestatic 152, 3) := by decide +kernel
theorem d_L_result_IJJ_145 : decode b_L_result_IJJ 145 = .ok (.lreturn, 1) := by decide +kernel
def f_L_result_IJJ (x0 : Int32) (x1 : Int64) (x3 : Int64) : Int64 :=
  if x0 = 0 then
    f_I_sum_JJ x1 x3
  else
    if x0 = 1 then
      f_I_difference_JJ x1 x3
    else
      if x0 = 2 then
        f_I_product_JJ x1 x3
      else
        if x0 = 3 then
          f_I_quotient_JJ x1 x3
        else
          if x0 = 4 then
            f_I_remainder_JJ x1 x3
          else
            if x0 = 5 then
              f_I_root_J x1
            else
              if x0 = 6 then
                f_I_negated_J x1
              else
                if x0 = 7 then
                  f_I_toFloat_J x1
                else
                  if x0 = 8 then
                    f_L_floatResult_IJJ x0 (f_I_toFloat_J x1) (f_I_toFloat_J x3)
                  else
                    if x0 = 9 then
                      f_L_floatResult_IJJ x0 (f_I_toFloat_J x1) (f_I_toFloat_J x3)
                    else
                      if x0 = 10 then
                        f_L_floatResult_IJJ x0 (f_I_toFloat_J x1) (f_I_toFloat_J x3)
                      else
                        if x0 = 11 then
                          f_L_floatResult_IJJ x0 (f_I_toFloat_J x1) (f_I_toFloat_J x3)
                        else
                          if x0 = 12 then
                            f_L_floatResult_IJJ x0 (f_I_toFloat_J x1) (f_I_toFloat_J x3)
                          else
                            if x0 = 13 then
                              f_I_lesser_JJ x1 x3
                            else
                              if x0 = 14 then
                                f_I_greater_JJ x1 x3
                              else
                                f_L_floatResult_IJJ x0 (f_I_toFloat_J x1) (f_I_toFloat_J x3)
set_option maxHeartbeats 4000000 in
set_option maxRecDepth 100000 in
theorem c_L_result_IJJ (l : Launch) (h : Heap) (x0 : Int32) (x1 : Int64) (x3 : Int64) : Met l y_L_result_IJJ (gw y_L_result_IJJ b_L_result_IJJ 5 (some .long)) { frames := 6, cells := 0, slots := 0, locals := 151 } (pu_Pc [.int x0, .long x1, .long x3] h) (pu_Ml (f_L_result_IJJ x0 x1 x3) h) 0 0 (fun _ => False) := by
  refine Met.ofW (cc := b_L_result_IJJ) (maxL := 5) (ret := (some .long)) (by decide) rfl ?_
  intro p e s m args below meth c s₁ B hml hv
  obtain ⟨rfl, hh⟩ := hv
  subst hh
  have hx := B.exec
  have hb := B.bytes
  have hr := B.returns
  have hts := atoms_spec (ws := (gw y_L_result_IJJ b_L_result_IJJ 5 (some .long))) B.pre
  have hown : s.vm.findClass "MotionLab" = some m.cls := findClass_of_methodNamed B.named
  have hlocks := B.notSynchronized
  have C0 : pu_C p s m _ meth c b_L_result_IJJ 5 "MotionLab" (some .long) (gw y_L_result_IJJ b_L_result_IJJ 5 (some .long)) := ⟨hx, hb, hml, hown, hts, hr, hlocks⟩
  have hl := lv_entry ([.int x0, .long x1, .long x3]) (n := 5) (Nat.le_of_ble_eq_true rfl)
  rw [lg_entry_eq]
  generalize (lg_sl ([.int x0, .long x1, .long x3]) ++ List.replicate (5 - (lg_sl ([.int x0, .long x1, .long x3])).length) Slot.unset).toArray = ls at hl ⊢
  have hl : lv_has ls 5 [(0, .int x0), (1, .long x1), (3, .long x3)] := hl
  refine lv_iload_n hx hb d_L_result_IJJ_0 rfl (lv_at hl 0 rfl) ?_
  by_cases c1 : x0 = 0
  · refine lv_tableIn (off := 75) (tgt := 76) hx hb d_L_result_IJJ_1 (by rw [c1]; decide) (by rw [c1]; decide) (by rw [c1]; rfl) (by decide) ?_
    refine lv_lload_n hx hb d_L_result_IJJ_76 rfl (lv_at hl 1 rfl) ?_
    refine lv_lload_n hx hb d_L_result_IJJ_77 rfl (lv_at hl 2 rfl) ?_
    refine pu_l (As := [.long x1, .long x3]) (rest := []) ⟨hx, hb, hml, hown, hts⟩ (c_I_sum_JJ l _ x1 x3) pu_pre (gw_call (k := 2) hts tw_301 tw_192 tw_5 tw_193 (by decide +kernel) rfl rfl ⟨Nat.le_of_ble_eq_true rfl, Nat.le_of_ble_eq_true rfl⟩) rfl hl.1 rfl (Nat.le_of_ble_eq_true rfl) ⟨Nat.zero_le _, Nat.zero_le _⟩ d_L_result_IJJ_78 ?_
    exact pu_lret hx hb hr hlocks d_L_result_IJJ_81 (by exact Eq.symm (if_pos c1))
  · skip
    by_cases c2 : x0 = 1
    · refine lv_tableIn (off := 81) (tgt := 82) hx hb d_L_result_IJJ_1 (by rw [c2]; decide) (by rw [c2]; decide) (by rw [c2]; rfl) (by decide) ?_
      refine lv_lload_n hx hb d_L_result_IJJ_82 rfl (lv_at hl 1 rfl) ?_
      refine lv_lload_n hx hb d_L_result_IJJ_83 rfl (lv_at hl 2 rfl) ?_
      refine pu_l (As := [.long x1, .long x3]) (rest := []) ⟨hx, hb, hml, hown, hts⟩ (c_I_difference_JJ l _ x1 x3) pu_pre (gw_call (k := 2) hts tw_302 tw_189 tw_5 tw_190 (by decide +kernel) rfl rfl ⟨Nat.le_of_ble_eq_true rfl, Nat.le_of_ble_eq_true rfl⟩) rfl hl.1 rfl (Nat.le_of_ble_eq_true rfl) ⟨Nat.zero_le _, Nat.zero_le _⟩ d_L_result_IJJ_84 ?_
      exact pu_lret hx hb hr hlocks d_L_result_IJJ_87 (by exact Eq.symm (Eq.trans (if_neg c1) (if_pos c2)))
    · skip
      by_cases c3 : x0 = 2
      · refine lv_tableIn (off := 87) (tgt := 88) hx hb d_L_result_IJJ_1 (by rw [c3]; decide) (by rw [c3]; decide) (by rw [c3]; rfl) (by decide) ?_
        refine lv_lload_n hx hb d_L_result_IJJ_88 rfl (lv_at hl 1 rfl) ?_
        refine lv_lload_n hx hb d_L_result_IJJ_89 rfl (lv_at hl 2 rfl) ?_
        refine pu_l (As := [.long x1, .long x3]) (rest := []) ⟨hx, hb, hml, hown, hts⟩ (c_I_product_JJ l _ x1 x3) pu_pre (gw_call (k := 2) hts tw_303 tw_175 tw_5 tw_176 (by decide +kernel) rfl rfl ⟨Nat.le_of_ble_eq_true rfl, Nat.le_of_ble_eq_true rfl⟩) rfl hl.1 rfl (Nat.le_of_ble_eq_true rfl) ⟨Nat.zero_le _, Nat.zero_le _⟩ d_L_result_IJJ_90 ?_
        exact pu_lret hx hb hr hlocks d_L_result_IJJ_93 (by exact Eq.symm (Eq.trans (if_neg c1) (Eq.trans (if_neg c2) (if_pos c3))))
      · skip
        by_cases c4 : x0 = 3
        · refine lv_tableIn (off := 93) (tgt := 94) hx hb d_L_result_IJJ_1 (by rw [c4]; decide) (by rw [c4]; decide) (by rw [c4]; rfl) (by decide) ?_
          refine lv_lload_n hx hb d_L_result_IJJ_94 rfl (lv_at hl 1 rfl) ?_
          refine lv_lload_n hx hb d_L_result_IJJ_95 rfl (lv_at hl 2 rfl) ?_
          refine pu_l (As := [.long x1, .long x3]) (rest := []) ⟨hx, hb, hml, hown, hts⟩ (c_I_quotient_JJ l _ x1 x3) pu_pre (gw_call (k := 2) hts tw_304 tw_224 tw_5 tw_225 (by decide +kernel) rfl rfl ⟨Nat.le_of_ble_eq_true rfl, Nat.le_of_ble_eq_true rfl⟩) rfl hl.1 rfl (Nat.le_of_ble_eq_true rfl) ⟨Nat.zero_le _, Nat.zero_le _⟩ d_L_result_IJJ_96 ?_
          exact pu_lret hx hb hr hlocks d_L_result_IJJ_99 (by exact Eq.symm (Eq.trans (if_neg c1) (Eq.trans (if_neg c2) (Eq.trans (if_neg c3) (if_pos c4)))))
        · skip
          by_cases c5 : x0 = 4
          · refine lv_tableIn (off := 99) (tgt := 100) hx hb d_L_result_IJJ_1 (by rw [c5]; decide) (by rw [c5]; decide) (by rw [c5]; rfl) (by decide) ?_
            refine lv_lload_n hx hb d_L_result_IJJ_100 rfl (lv_at hl 1 rfl) ?_
            refine lv_lload_n hx hb d_L_result_IJJ_101 rfl (lv_at hl 2 rfl) ?_
            refine pu_l (As := [.long x1, .long x3]) (rest := []) ⟨hx, hb, hml, hown, hts⟩ (c_I_remainder_JJ l _ x1 x3) pu_pre (gw_call (k := 2) hts tw_305 tw_306 tw_5 tw_307 (by decide +kernel) rfl rfl ⟨Nat.le_of_ble_eq_true rfl, Nat.le_of_ble_eq_true rfl⟩) rfl hl.1 rfl (Nat.le_of_ble_eq_true rfl) ⟨Nat.zero_le _, Nat.zero_le _⟩ d_L_result_IJJ_102 ?_
            exact pu_lret hx hb hr hlocks d_L_result_IJJ_105 (by exact Eq.symm (Eq.trans (if_neg c1) (Eq.trans (if_neg c2) (Eq.trans (if_neg c3) (Eq.trans (if_neg c4) (if_pos c5))))))
          · skip
            by_cases c6 : x0 = 5
            · refine lv_tableIn (off := 105) (tgt := 106) hx hb d_L_result_IJJ_1 (by rw [c6]; decide) (by rw [c6]; decide) (by rw [c6]; rfl) (by decide) ?_
              refine lv_lload_n hx hb d_L_result_IJJ_106 rfl (lv_at hl 1 rfl) ?_
              refine pu_l (As := [.long x1]) (rest := []) ⟨hx, hb, hml, hown, hts⟩ (c_I_root_J l _ x1) pu_pre (gw_call (k := 1) hts tw_311 tw_220 tw_5 tw_221 (by decide +kernel) rfl rfl ⟨Nat.le_of_ble_eq_true rfl, Nat.le_of_ble_eq_true rfl⟩) rfl hl.1 rfl (Nat.le_of_ble_eq_true rfl) ⟨Nat.zero_le _, Nat.zero_le _⟩ d_L_result_IJJ_107 ?_
              exact pu_lret hx hb hr hlocks d_L_result_IJJ_110 (by exact Eq.symm (Eq.trans (if_neg c1) (Eq.trans (if_neg c2) (Eq.trans (if_neg c3) (Eq.trans (if_neg c4) (Eq.trans (if_neg c5) (if_pos c6)))))))
            · skip
              by_cases c7 : x0 = 6
              · refine lv_tableIn (off := 110) (tgt := 111) hx hb d_L_result_IJJ_1 (by rw [c7]; decide) (by rw [c7]; decide) (by rw [c7]; rfl) (by decide) ?_
                refine lv_lload_n hx hb d_L_result_IJJ_111 rfl (lv_at hl 1 rfl) ?_
                refine pu_l (As := [.long x1]) (rest := []) ⟨hx, hb, hml, hown, hts⟩ (c_I_negated_J l _ x1) pu_pre (gw_call (k := 1) hts tw_312 tw_263 tw_5 tw_264 (by decide +kernel) rfl rfl ⟨Nat.le_of_ble_eq_true rfl, Nat.le_of_ble_eq_true rfl⟩) rfl hl.1 rfl (Nat.le_of_ble_eq_true rfl) ⟨Nat.zero_le _, Nat.zero_le _⟩ d_L_result_IJJ_112 ?_
                exact pu_lret hx hb hr hlocks d_L_result_IJJ_115 (by exact Eq.symm (Eq.trans (if_neg c1) (Eq.trans (if_neg c2) (Eq.trans (if_neg c3) (Eq.trans (if_neg c4) (Eq.trans (if_neg c5) (Eq.trans (if_neg c6) (if_pos c7))))))))
              · skip
                by_cases c8 : x0 = 7
                · refine lv_tableIn (off := 115) (tgt := 116) hx hb d_L_result_IJJ_1 (by rw [c8]; decide) (by rw [c8]; decide) (by rw [c8]; rfl) (by decide) ?_
                  refine lv_lload_n hx hb d_L_result_IJJ_116 rfl (lv_at hl 1 rfl) ?_
                  refine pu_l (As := [.long x1]) (rest := []) ⟨hx, hb, hml, hown, hts⟩ (c_I_toFloat_J l _ x1) pu_pre (gw_call (k := 1) hts tw_313 tw_79 tw_5 tw_80 (by decide +kernel) rfl rfl ⟨Nat.le_of_ble_eq_true rfl, Nat.le_of_ble_eq_true rfl⟩) rfl hl.1 rfl (Nat.le_of_ble_eq_true rfl) ⟨Nat.zero_le _, Nat.zero_le _⟩ d_L_result_IJJ_117 ?_
                  exact pu_lret hx hb hr hlocks d_L_result_IJJ_120 (by exact Eq.symm (Eq.trans (if_neg c1) (Eq.trans (if_neg c2) (Eq.trans (if_neg c3) (Eq.trans (if_neg c4) (Eq.trans (if_neg c5) (Eq.trans (if_neg c6) (Eq.trans (if_neg c7) (if_pos c8)))))))))
                · skip
                  by_cases c9 : x0 = 8
                  · refine lv_tableIn (off := 132) (tgt := 133) hx hb d_L_result_IJJ_1 (by rw [c9]; decide) (by rw [c9]; decide) (by rw [c9]; rfl) (by decide) ?_
                    refine lv_iload_n hx hb d_L_result_IJJ_133 rfl (lv_at hl 0 rfl) ?_
                    refine lv_lload_n hx hb d_L_result_IJJ_134 rfl (lv_at hl 1 rfl) ?_
                    refine pu_l (As := [.long x1]) (rest := [.int x0]) ⟨hx, hb, hml, hown, hts⟩ (c_I_toFloat_J l _ x1) pu_pre (gw_call (k := 1) hts tw_313 tw_79 tw_5 tw_80 (by decide +kernel) rfl rfl ⟨Nat.le_of_ble_eq_true rfl, Nat.le_of_ble_eq_true rfl⟩) rfl hl.1 rfl (Nat.le_of_ble_eq_true rfl) ⟨Nat.zero_le _, Nat.zero_le _⟩ d_L_result_IJJ_135 ?_
                    refine lv_lload_n hx hb d_L_result_IJJ_138 rfl (lv_at hl 2 rfl) ?_
                    refine pu_l (As := [.long x3]) (rest := [.long (f_I_toFloat_J x1), .int x0]) ⟨hx, hb, hml, hown, hts⟩ (c_I_toFloat_J l _ x3) pu_pre (gw_call (k := 1) hts tw_313 tw_79 tw_5 tw_80 (by decide +kernel) rfl rfl ⟨Nat.le_of_ble_eq_true rfl, Nat.le_of_ble_eq_true rfl⟩) rfl hl.1 rfl (Nat.le_of_ble_eq_true rfl) ⟨Nat.zero_le _, Nat.zero_le _⟩ d_L_result_IJJ_139 ?_
                    refine pu_l (As := [.int x0, .long (f_I_toFloat_J x1), .long (f_I_toFloat_J x3)]) (rest := []) ⟨hx, hb, hml, hown, hts⟩ (c_L_floatResult_IJJ l _ x0 (f_I_toFloat_J x1) (f_I_toFloat_J x3)) pu_pre (gw_call (k := 3) hts tw_322 tw_323 tw_1 tw_324 (by decide +kernel) rfl rfl ⟨Nat.le_of_ble_eq_true rfl, Nat.le_of_ble_eq_true rfl⟩) rfl hl.1 rfl (Nat.le_of_ble_eq_true rfl) ⟨Nat.zero_le _, Nat.zero_le _⟩ d_L_result_IJJ_142 ?_
                    exact pu_lret hx hb hr hlocks d_L_result_IJJ_145 (by exact Eq.symm (Eq.trans (if_neg c1) (Eq.trans (if_neg c2) (Eq.trans (if_neg c3) (Eq.trans (if_neg c4) (Eq.trans (if_neg c5) (Eq.trans (if_neg c6) (Eq.trans (if_neg c7) (Eq.trans (if_neg c8) (if_pos c9))))))))))
                  · skip
                    by_cases c10 : x0 = 9
                    · refine lv_tableIn (off := 132) (tgt := 133) hx hb d_L_result_IJJ_1 (by rw [c10]; decide) (by rw [c10]; decide) (by rw [c10]; rfl) (by decide) ?_
                      refine lv_iload_n hx hb d_L_result_IJJ_133 rfl (lv_at hl 0 rfl) ?_
                      refine lv_lload_n hx hb d_L_result_IJJ_134 rfl (lv_at hl 1 rfl) ?_
                      refine pu_l (As := [.long x1]) (rest := [.int x0]) ⟨hx, hb, hml, hown, hts⟩ (c_I_toFloat_J l _ x1) pu_pre (gw_call (k := 1) hts tw_313 tw_79 tw_5 tw_80 (by decide +kernel) rfl rfl ⟨Nat.le_of_ble_eq_true rfl, Nat.le_of_ble_eq_true rfl⟩) rfl hl.1 rfl (Nat.le_of_ble_eq_true rfl) ⟨Nat.zero_le _, Nat.zero_le _⟩ d_L_result_IJJ_135 ?_
                      refine lv_lload_n hx hb d_L_result_IJJ_138 rfl (lv_at hl 2 rfl) ?_
                      refine pu_l (As := [.long x3]) (rest := [.long (f_I_toFloat_J x1), .int x0]) ⟨hx, hb, hml, hown, hts⟩ (c_I_toFloat_J l _ x3) pu_pre (gw_call (k := 1) hts tw_313 tw_79 tw_5 tw_80 (by decide +kernel) rfl rfl ⟨Nat.le_of_ble_eq_true rfl, Nat.le_of_ble_eq_true rfl⟩) rfl hl.1 rfl (Nat.le_of_ble_eq_true rfl) ⟨Nat.zero_le _, Nat.zero_le _⟩ d_L_result_IJJ_139 ?_
                      refine pu_l (As := [.int x0, .long (f_I_toFloat_J x1), .long (f_I_toFloat_J x3)]) (rest := []) ⟨hx, hb, hml, hown, hts⟩ (c_L_floatResult_IJJ l _ x0 (f_I_toFloat_J x1) (f_I_toFloat_J x3)) pu_pre (gw_call (k := 3) hts tw_322 tw_323 tw_1 tw_324 (by decide +kernel) rfl rfl ⟨Nat.le_of_ble_eq_true rfl, Nat.le_of_ble_eq_true rfl⟩) rfl hl.1 rfl (Nat.le_of_ble_eq_true rfl) ⟨Nat.zero_le _, Nat.zero_le _⟩ d_L_result_IJJ_142 ?_
                      exact pu_lret hx hb hr hlocks d_L_result_IJJ_145 (by exact Eq.symm (Eq.trans (if_neg c1) (Eq.trans (if_neg c2) (Eq.trans (if_neg c3) (Eq.trans (if_neg c4) (Eq.trans (if_neg c5) (Eq.trans (if_neg c6) (Eq.trans (if_neg c7) (Eq.trans (if_neg c8) (Eq.trans (if_neg c9) (if_pos c10)))))))))))
                    · skip
                      by_cases c11 : x0 = 10
                      · refine lv_tableIn (off := 132) (tgt := 133) hx hb d_L_result_IJJ_1 (by rw [c11]; decide) (by rw [c11]; decide) (by rw [c11]; rfl) (by decide) ?_
                        refine lv_iload_n hx hb d_L_result_IJJ_133 rfl (lv_at hl 0 rfl) ?_
                        refine lv_lload_n hx hb d_L_result_IJJ_134 rfl (lv_at hl 1 rfl) ?_
                        refine pu_l (As := [.long x1]) (rest := [.int x0]) ⟨hx, hb, hml, hown, hts⟩ (c_I_toFloat_J l _ x1) pu_pre (gw_call (k := 1) hts tw_313 tw_79 tw_5 tw_80 (by decide +kernel) rfl rfl ⟨Nat.le_of_ble_eq_true rfl, Nat.le_of_ble_eq_true rfl⟩) rfl hl.1 rfl (Nat.le_of_ble_eq_true rfl) ⟨Nat.zero_le _, Nat.zero_le _⟩ d_L_result_IJJ_135 ?_
                        refine lv_lload_n hx hb d_L_result_IJJ_138 rfl (lv_at hl 2 rfl) ?_
                        refine pu_l (As := [.long x3]) (rest := [.long (f_I_toFloat_J x1), .int x0]) ⟨hx, hb, hml, hown, hts⟩ (c_I_toFloat_J l _ x3) pu_pre (gw_call (k := 1) hts tw_313 tw_79 tw_5 tw_80 (by decide +kernel) rfl rfl ⟨Nat.le_of_ble_eq_true rfl, Nat.le_of_ble_eq_true rfl⟩) rfl hl.1 rfl (Nat.le_of_ble_eq_true rfl) ⟨Nat.zero_le _, Nat.zero_le _⟩ d_L_result_IJJ_139 ?_
                        refine pu_l (As := [.int x0, .long (f_I_toFloat_J x1), .long (f_I_toFloat_J x3)]) (rest := []) ⟨hx, hb, hml, hown, hts⟩ (c_L_floatResult_IJJ l _ x0 (f_I_toFloat_J x1) (f_I_toFloat_J x3)) pu_pre (gw_call (k := 3) hts tw_322 tw_323 tw_1 tw_324 (by decide +kernel) rfl rfl ⟨Nat.le_of_ble_eq_true rfl, Nat.le_of_ble_eq_true rfl⟩) rfl hl.1 rfl (Nat.le_of_ble_eq_true rfl) ⟨Nat.zero_le _, Nat.zero_le _⟩ d_L_result_IJJ_142 ?_
                        exact pu_lret hx hb hr hlocks d_L_result_IJJ_145 (by exact Eq.symm (Eq.trans (if_neg c1) (Eq.trans (if_neg c2) (Eq.trans (if_neg c3) (Eq.trans (if_neg c4) (Eq.trans (if_neg c5) (Eq.trans (if_neg c6) (Eq.trans (if_neg c7) (Eq.trans (if_neg c8) (Eq.trans (if_neg c9) (Eq.trans (if_neg c10) (if_pos c11))))))))))))
                      · skip
                        by_cases c12 : x0 = 11
                        · refine lv_tableIn (off := 132) (tgt := 133) hx hb d_L_result_IJJ_1 (by rw [c12]; decide) (by rw [c12]; decide) (by rw [c12]; rfl) (by decide) ?_
                          refine lv_iload_n hx hb d_L_result_IJJ_133 rfl (lv_at hl 0 rfl) ?_
                          refine lv_lload_n hx hb d_L_result_IJJ_134 rfl (lv_at hl 1 rfl) ?_
                          refine pu_l (As := [.long x1]) (rest := [.int x0]) ⟨hx, hb, hml, hown, hts⟩ (c_I_toFloat_J l _ x1) pu_pre (gw_call (k := 1) hts tw_313 tw_79 tw_5 tw_80 (by decide +kernel) rfl rfl ⟨Nat.le_of_ble_eq_true rfl, Nat.le_of_ble_eq_true rfl⟩) rfl hl.1 rfl (Nat.le_of_ble_eq_true rfl) ⟨Nat.zero_le _, Nat.zero_le _⟩ d_L_result_IJJ_135 ?_
                          refine lv_lload_n hx hb d_L_result_IJJ_138 rfl (lv_at hl 2 rfl) ?_
                          refine pu_l (As := [.long x3]) (rest := [.long (f_I_toFloat_J x1), .int x0]) ⟨hx, hb, hml, hown, hts⟩ (c_I_toFloat_J l _ x3) pu_pre (gw_call (k := 1) hts tw_313 tw_79 tw_5 tw_80 (by decide +kernel) rfl rfl ⟨Nat.le_of_ble_eq_true rfl, Nat.le_of_ble_eq_true rfl⟩) rfl hl.1 rfl (Nat.le_of_ble_eq_true rfl) ⟨Nat.zero_le _, Nat.zero_le _⟩ d_L_result_IJJ_139 ?_
                          refine pu_l (As := [.int x0, .long (f_I_toFloat_J x1), .long (f_I_toFloat_J x3)]) (rest := []) ⟨hx, hb, hml, hown, hts⟩ (c_L_floatResult_IJJ l _ x0 (f_I_toFloat_J x1) (f_I_toFloat_J x3)) pu_pre (gw_call (k := 3) hts tw_322 tw_323 tw_1 tw_324 (by decide +kernel) rfl rfl ⟨Nat.le_of_ble_eq_true rfl, Nat.le_of_ble_eq_true rfl⟩) rfl hl.1 rfl (Nat.le_of_ble_eq_true rfl) ⟨Nat.zero_le _, Nat.zero_le _⟩ d_L_result_IJJ_142 ?_
                          exact pu_lret hx hb hr hlocks d_L_result_IJJ_145 (by exact Eq.symm (Eq.trans (if_neg c1) (Eq.trans (if_neg c2) (Eq.trans (if_neg c3) (Eq.trans (if_neg c4) (Eq.trans (if_neg c5) (Eq.trans (if_neg c6) (Eq.trans (if_neg c7) (Eq.trans (if_neg c8) (Eq.trans (if_neg c9) (Eq.trans (if_neg c10) (Eq.trans (if_neg c11) (if_pos c12)))))))))))))
                        · skip
                          by_cases c13 : x0 = 12
                          · refine lv_tableIn (off := 132) (tgt := 133) hx hb d_L_result_IJJ_1 (by rw [c13]; decide) (by rw [c13]; decide) (by rw [c13]; rfl) (by decide) ?_
                            refine lv_iload_n hx hb d_L_result_IJJ_133 rfl (lv_at hl 0 rfl) ?_
                            refine lv_lload_n hx hb d_L_result_IJJ_134 rfl (lv_at hl 1 rfl) ?_
                            refine pu_l (As := [.long x1]) (rest := [.int x0]) ⟨hx, hb, hml, hown, hts⟩ (c_I_toFloat_J l _ x1) pu_pre (gw_call (k := 1) hts tw_313 tw_79 tw_5 tw_80 (by decide +kernel) rfl rfl ⟨Nat.le_of_ble_eq_true rfl, Nat.le_of_ble_eq_true rfl⟩) rfl hl.1 rfl (Nat.le_of_ble_eq_true rfl) ⟨Nat.zero_le _, Nat.zero_le _⟩ d_L_result_IJJ_135 ?_
                            refine lv_lload_n hx hb d_L_result_IJJ_138 rfl (lv_at hl 2 rfl) ?_
                            refine pu_l (As := [.long x3]) (rest := [.long (f_I_toFloat_J x1), .int x0]) ⟨hx, hb, hml, hown, hts⟩ (c_I_toFloat_J l _ x3) pu_pre (gw_call (k := 1) hts tw_313 tw_79 tw_5 tw_80 (by decide +kernel) rfl rfl ⟨Nat.le_of_ble_eq_true rfl, Nat.le_of_ble_eq_true rfl⟩) rfl hl.1 rfl (Nat.le_of_ble_eq_true rfl) ⟨Nat.zero_le _, Nat.zero_le _⟩ d_L_result_IJJ_139 ?_
                            refine pu_l (As := [.int x0, .long (f_I_toFloat_J x1), .long (f_I_toFloat_J x3)]) (rest := []) ⟨hx, hb, hml, hown, hts⟩ (c_L_floatResult_IJJ l _ x0 (f_I_toFloat_J x1) (f_I_toFloat_J x3)) pu_pre (gw_call (k := 3) hts tw_322 tw_323 tw_1 tw_324 (by decide +kernel) rfl rfl ⟨Nat.le_of_ble_eq_true rfl, Nat.le_of_ble_eq_true rfl⟩) rfl hl.1 rfl (Nat.le_of_ble_eq_true rfl) ⟨Nat.zero_le _, Nat.zero_le _⟩ d_L_result_IJJ_142 ?_
                            exact pu_lret hx hb hr hlocks d_L_result_IJJ_145 (by exact Eq.symm (Eq.trans (if_neg c1) (Eq.trans (if_neg c2) (Eq.trans (if_neg c3) (Eq.trans (if_neg c4) (Eq.trans (if_neg c5) (Eq.trans (if_neg c6) (Eq.trans (if_neg c7) (Eq.trans (if_neg c8) (Eq.trans (if_neg c9) (Eq.trans (if_neg c10) (Eq.trans (if_neg c11) (Eq.trans (if_neg c12) (if_pos c13))))))))))))))
                          · skip
                            by_cases c14 : x0 = 13
                            · refine lv_tableIn (off := 120) (tgt := 121) hx hb d_L_result_IJJ_1 (by rw [c14]; decide) (by rw [c14]; decide) (by rw [c14]; rfl) (by decide) ?_
                              refine lv_lload_n hx hb d_L_result_IJJ_121 rfl (lv_at hl 1 rfl) ?_
                              refine lv_lload_n hx hb d_L_result_IJJ_122 rfl (lv_at hl 2 rfl) ?_
                              refine pu_l (As := [.long x1, .long x3]) (rest := []) ⟨hx, hb, hml, hown, hts⟩ (c_I_lesser_JJ l _ x1 x3) pu_pre (gw_call (k := 2) hts tw_314 tw_315 tw_5 tw_316 (by decide +kernel) rfl rfl ⟨Nat.le_of_ble_eq_true rfl, Nat.le_of_ble_eq_true rfl⟩) rfl hl.1 rfl (Nat.le_of_ble_eq_true rfl) ⟨Nat.zero_le _, Nat.zero_le _⟩ d_L_result_IJJ_123 ?_
                              exact pu_lret hx hb hr hlocks d_L_result_IJJ_126 (by exact Eq.symm (Eq.trans (if_neg c1) (Eq.trans (if_neg c2) (Eq.trans (if_neg c3) (Eq.trans (if_neg c4) (Eq.trans (if_neg c5) (Eq.trans (if_neg c6) (Eq.trans (if_neg c7) (Eq.trans (if_neg c8) (Eq.trans (if_neg c9) (Eq.trans (if_neg c10) (Eq.trans (if_neg c11) (Eq.trans (if_neg c12) (Eq.trans (if_neg c13) (if_pos c14)))))))))))))))
                            · skip
                              by_cases c15 : x0 = 14
                              · refine lv_tableIn (off := 126) (tgt := 127) hx hb d_L_result_IJJ_1 (by rw [c15]; decide) (by rw [c15]; decide) (by rw [c15]; rfl) (by decide) ?_
                                refine lv_lload_n hx hb d_L_result_IJJ_127 rfl (lv_at hl 1 rfl) ?_
                                refine lv_lload_n hx hb d_L_result_IJJ_128 rfl (lv_at hl 2 rfl) ?_
                                refine pu_l (As := [.long x1, .long x3]) (rest := []) ⟨hx, hb, hml, hown, hts⟩ (c_I_greater_JJ l _ x1 x3) pu_pre (gw_call (k := 2) hts tw_317 tw_318 tw_5 tw_319 (by decide +kernel) rfl rfl ⟨Nat.le_of_ble_eq_true rfl, Nat.le_of_ble_eq_true rfl⟩) rfl hl.1 rfl (Nat.le_of_ble_eq_true rfl) ⟨Nat.zero_le _, Nat.zero_le _⟩ d_L_result_IJJ_129 ?_
                                exact pu_lret hx hb hr hlocks d_L_result_IJJ_132 (by exact Eq.symm (Eq.trans (if_neg c1) (Eq.trans (if_neg c2) (Eq.trans (if_neg c3) (Eq.trans (if_neg c4) (Eq.trans (if_neg c5) (Eq.trans (if_neg c6) (Eq.trans (if_neg c7) (Eq.trans (if_neg c8) (Eq.trans (if_neg c9) (Eq.trans (if_neg c10) (Eq.trans (if_neg c11) (Eq.trans (if_neg c12) (Eq.trans (if_neg c13) (Eq.trans (if_neg c14) (if_pos c15))))))))))))))))
                              · skip
                                refine lv_tableOut (tgt := 133) hx hb d_L_result_IJJ_1 (sw_out (fun j h1 h2 e => by rcases (show j = 0 ∨ j = 1 ∨ j = 2 ∨ j = 3 ∨ j = 4 ∨ j = 5 ∨ j = 6 ∨ j = 7 ∨ j = 8 ∨ j = 9 ∨ j = 10 ∨ j = 11 ∨ j = 12 ∨ j = 13 ∨ j = 14 by omega) with rfl | rfl | rfl | rfl | rfl | rfl | rfl | rfl | rfl | rfl | rfl | rfl | rfl | rfl | rfl <;> first | exact c1 (Int32.toInt_inj.mp (e.trans (by decide))) | exact c2 (Int32.toInt_inj.mp (e.trans (by decide))) | exact c3 (Int32.toInt_inj.mp (e.trans (by decide))) | exact c4 (Int32.toInt_inj.mp (e.trans (by decide))) | exact c5 (Int32.toInt_inj.mp (e.trans (by decide))) | exact c6 (Int32.toInt_inj.mp (e.trans (by decide))) | exact c7 (Int32.toInt_inj.mp (e.trans (by decide))) | exact c8 (Int32.toInt_inj.mp (e.trans (by decide))) | exact c9 (Int32.toInt_inj.mp (e.trans (by decide))) | exact c10 (Int32.toInt_inj.mp (e.trans (by decide))) | exact c11 (Int32.toInt_inj.mp (e.trans (by decide))) | exact c12 (Int32.toInt_inj.mp (e.trans (by decide))) | exact c13 (Int32.toInt_inj.mp (e.trans (by decide))) | exact c14 (Int32.toInt_inj.mp (e.trans (by decide))) | exact c15 (Int32.toInt_inj.mp (e.trans (by decide))))) (by decide) ?_
                                refine lv_iload_n hx hb d_L_result_IJJ_133 rfl (lv_at hl 0 rfl) ?_
                                refine lv_lload_n hx hb d_L_result_IJJ_134 rfl (lv_at hl 1 rfl) ?_
                                refine pu_l (As := [.long x1]) (rest := [.int x0]) ⟨hx, hb, hml, hown, hts⟩ (c_I_toFloat_J l _ x1) pu_pre (gw_call (k := 1) hts tw_313 tw_79 tw_5 tw_80 (by decide +kernel) rfl rfl ⟨Nat.le_of_ble_eq_true rfl, Nat.le_of_ble_eq_true rfl⟩) rfl hl.1 rfl (Nat.le_of_ble_eq_true rfl) ⟨Nat.zero_le _, Nat.zero_le _⟩ d_L_result_IJJ_135 ?_
                                refine lv_lload_n hx hb d_L_result_IJJ_138 rfl (lv_at hl 2 rfl) ?_
                                refine pu_l (As := [.long x3]) (rest := [.long (f_I_toFloat_J x1), .int x0]) ⟨hx, hb, hml, hown, hts⟩ (c_I_toFloat_J l _ x3) pu_pre (gw_call (k := 1) hts tw_313 tw_79 tw_5 tw_80 (by decide +kernel) rfl rfl ⟨Nat.le_of_ble_eq_true rfl, Nat.le_of_ble_eq_true rfl⟩) rfl hl.1 rfl (Nat.le_of_ble_eq_true rfl) ⟨Nat.zero_le _, Nat.zero_le _⟩ d_L_result_IJJ_139 ?_
                                refine pu_l (As := [.int x0, .long (f_I_toFloat_J x1), .long (f_I_toFloat_J x3)]) (rest := []) ⟨hx, hb, hml, hown, hts⟩ (c_L_floatResult_IJJ l _ x0 (f_I_toFloat_J x1) (f_I_toFloat_J x3)) pu_pre (gw_call (k := 3) hts tw_322 tw_323 tw_1 tw_324 (by decide +kernel) rfl rfl ⟨Nat.le_of_ble_eq_true rfl, Nat.le_of_ble_eq_true rfl⟩) rfl hl.1 rfl (Nat.le_of_ble_eq_true rfl) ⟨Nat.zero_le _, Nat.zero_le _⟩ d_L_result_IJJ_142 ?_
                                exact pu_lret hx hb hr hlocks d_L_result_IJJ_145 (by exact Eq.symm (Eq.trans (if_neg c1) (Eq.trans (if_neg c2) (Eq.trans (if_neg c3) (Eq.trans (if_neg c4) (Eq.trans (if_neg c5) (Eq.trans (if_neg c6) (Eq.trans (if_neg c7) (Eq.trans (if_neg c8) (Eq.trans (if_neg c9) (Eq.trans (if_neg c10) (Eq.trans (if_neg c11) (Eq.trans (if_neg c12) (Eq.trans (if_neg c13) (Eq.trans (if_neg c14) (if_neg c15))))))))))))))))
-- ===== java/lang/Math.abs(J)J
abbrev y_jM_abs_J : MethodName := ⟨"java/lang/Math", "abs", "(J)J"⟩
abbrev b_jM_abs_J : ByteArray := prog_9_method_61_code
theorem d_jM_abs_J_0 : decode b_jM_abs_J 0 = .ok (.lload_n 0, 1) := by decide +kernel
theorem d_jM_abs_J_1 : decode b_jM_abs_J 1 = .ok (.lconst 0, 1) := by decide +kernel
theorem d_jM_abs_J_2 : decode b_jM_abs_J 2 = .ok (.lcmp, 1) := by decide +kernel
theorem d_jM_abs_J_3 : decode b_jM_abs_J 3 = .ok (.ifCond .ge 8, 3) := by decide +kernel
theorem d_jM_abs_J_6 : decode b_jM_abs_J 6 = .ok (.lload_n 0, 1) := by decide +kernel
theorem d_jM_abs_J_7 : decode b_jM_abs_J 7 = .ok (.lneg, 1) := by decide +kernel
theorem d_jM_abs_J_8 : decode b_jM_abs_J 8 = .ok (.goto 4, 3) := by decide +kernel
theorem d_jM_abs_J_11 : decode b_jM_abs_J 11 = .ok (.lload_n 0, 1) := by decide +kernel
theorem d_jM_abs_J_12 : decode b_jM_abs_J 12 = .ok (.lreturn, 1) := by decide +kernel
def f_jM_abs_J (x0 : Int64) : Int64 :=
  if 0 ≤ (lg_cmp x0 (0 : Int64)) then
    x0
  else
    -x0
set_option maxHeartbeats 4000000 in
set_option maxRecDepth 100000 in
theorem c_jM_abs_J (l : Launch) (h : Heap) (x0 : Int64) : Met l y_jM_abs_J (gw y_jM_abs_J b_jM_abs_J 2 (some .long)) { frames := 0, cells := 0, slots := 0, locals := 0 } (pu_Pc [.long x0] h) (pu_Ml (f_jM_abs_J x0) h) 0 0 (fun _ => False) := by
  refine va_MetF (cc := b_jM_abs_J) (maxL := 2) (ret := (some .long)) (by decide +kernel) rfl ?_
  intro p e s m args below meth c s₁ B hml hv
  obtain ⟨rfl, hh⟩ := hv
  subst hh
  have hx := B.exec
  have hb := B.bytes
  have hr := B.returns
  have hts := atoms_spec (ws := (gw y_jM_abs_J b_jM_abs_J 2 (some .long))) B.pre
  have hown : s.vm.findClass "java/lang/Math" = some m.cls := findClass_of_methodNamed B.named
  have hlocks := B.notSynchronized
  have C0 : pu_C p s m _ meth c b_jM_abs_J 2 "java/lang/Math" (some .long) (gw y_jM_abs_J b_jM_abs_J 2 (some .long)) := ⟨hx, hb, hml, hown, hts, hr, hlocks⟩
  have hl := lv_entry ([.long x0]) (n := 2) (Nat.le_of_ble_eq_true rfl)
  rw [lg_entry_eq]
  generalize (lg_sl ([.long x0]) ++ List.replicate (2 - (lg_sl ([.long x0])).length) Slot.unset).toArray = ls at hl ⊢
  have hl : lv_has ls 2 [(0, .long x0)] := hl
  refine lv_lload_n hx hb d_jM_abs_J_0 rfl (lv_at hl 0 rfl) ?_
  refine lv_lconst (v := (0 : Int64)) hx hb d_jM_abs_J_1 (by decide) ?_
  refine W.lcmp hx hb d_jM_abs_J_2 ?_
  refine lv_if_ge (tgt := 11) hx hb d_jM_abs_J_3 (by decide) (fun c1 => ?_) (fun c1 => ?_)
  · refine lv_lload_n hx hb d_jM_abs_J_11 rfl (lv_at hl 0 rfl) ?_
    exact pu_lret hx hb hr hlocks d_jM_abs_J_12 (by exact Eq.symm (if_pos c1))
  · refine lv_lload_n hx hb d_jM_abs_J_6 rfl (lv_at hl 0 rfl) ?_
    refine lv_lneg hx hb d_jM_abs_J_7 ?_
    refine lv_goto (tgt := 12) hx hb d_jM_abs_J_8 (by decide) ?_
    exact pu_lret hx hb hr hlocks d_jM_abs_J_12 (by exact Eq.symm (if_neg c1))
-- ===== MotionLab$Ieee.ofWhole(J)J
abbrev y_I_ofWhole_J : MethodName := ⟨"MotionLab$Ieee", "ofWhole", "(J)J"⟩
abbrev b_I_ofWhole_J : ByteArray := prog_2_method_26_code
theorem d_I_ofWhole_J_0 : decode b_I_ofWhole_J 0 = .ok (.lload_n 0, 1) := by decide +kernel
theorem d_I_ofWhole_J_1 : decode b_I_ofWhole_J 1 = .ok (.ldc2_w 19, 3) := by decide +kernel
theorem d_I_ofWhole_J_4 : decode b_I_ofWhole_J 4 = .ok (.land, 1) := by decide +kernel
theorem d_I_ofWhole_J_5 : decode b_I_ofWhole_J 5 = .ok (.iconst 0, 1) := by decide +kernel
theorem d_I_ofWhole_J_6 : decode b_I_ofWhole_J 6 = .ok (.lload_n 0, 1) := by decide +kernel
theorem d_I_ofWhole_J_7 : decode b_I_ofWhole_J 7 = .ok (.invokestatic 105, 3) := by decide +kernel
theorem d_I_ofWhole_J_10 : decode b_I_ofWhole_J 10 = .ok (.invokestatic 52, 3) := by decide +kernel
theorem d_I_ofWhole_J_13 : decode b_I_ofWhole_J 13 = .ok (.lreturn, 1) := by decide +kernel
def f_I_ofWhole_J (x0 : Int64) : Int64 :=
  f_I_nearest_JIJ (x0 &&& (-9223372036854775808 : Int64)) (0 : Int32) (f_jM_abs_J x0)
set_option maxHeartbeats 4000000 in
set_option maxRecDepth 100000 in
theorem c_I_ofWhole_J (l : Launch) (h : Heap) (x0 : Int64) : Met l y_I_ofWhole_J (gw y_I_ofWhole_J b_I_ofWhole_J 2 (some .long)) { frames := 3, cells := 0, slots := 0, locals := 69 } (pu_Pc [.long x0] h) (pu_Ml (f_I_ofWhole_J x0) h) 0 0 (fun _ => False) := by
  refine Met.ofW (cc := b_I_ofWhole_J) (maxL := 2) (ret := (some .long)) (by decide) rfl ?_
  intro p e s m args below meth c s₁ B hml hv
  obtain ⟨rfl, hh⟩ := hv
  subst hh
  have hx := B.exec
  have hb := B.bytes
  have hr := B.returns
  have hts := atoms_spec (ws := (gw y_I_ofWhole_J b_I_ofWhole_J 2 (some .long))) B.pre
  have hown : s.vm.findClass "MotionLab$Ieee" = some m.cls := findClass_of_methodNamed B.named
  have hlocks := B.notSynchronized
  have C0 : pu_C p s m _ meth c b_I_ofWhole_J 2 "MotionLab$Ieee" (some .long) (gw y_I_ofWhole_J b_I_ofWhole_J 2 (some .long)) := ⟨hx, hb, hml, hown, hts, hr, hlocks⟩
  have hl := lv_entry ([.long x0]) (n := 2) (Nat.le_of_ble_eq_true rfl)
  rw [lg_entry_eq]
  generalize (lg_sl ([.long x0]) ++ List.replicate (2 - (lg_sl ([.long x0])).length) Slot.unset).toArray = ls at hl ⊢
  have hl : lv_has ls 2 [(0, .long x0)] := hl
  refine lv_lload_n hx hb d_I_ofWhole_J_0 rfl (lv_at hl 0 rfl) ?_
  refine lv_ldc2 (v := (-9223372036854775808 : Int64)) hx hb hown (hts _ (gm tw_93)) d_I_ofWhole_J_1 ?_
  refine lv_land hx hb d_I_ofWhole_J_4 ?_
  refine lv_iconst (v := 0) hx hb d_I_ofWhole_J_5 (by decide) ?_
  refine lv_lload_n hx hb d_I_ofWhole_J_6 rfl (lv_at hl 0 rfl) ?_
  refine pu_l (As := [.long x0]) (rest := [.int (0 : Int32), .long (x0 &&& (-9223372036854775808 : Int64))]) ⟨hx, hb, hml, hown, hts⟩ (c_jM_abs_J l _ x0) pu_pre (gw_call (k := 1) hts tw_332 tw_333 tw_6 tw_334 (by decide +kernel) rfl rfl ⟨Nat.le_of_ble_eq_true rfl, Nat.le_of_ble_eq_true rfl⟩) rfl hl.1 rfl (Nat.le_of_ble_eq_true rfl) ⟨Nat.zero_le _, Nat.zero_le _⟩ d_I_ofWhole_J_7 ?_
  refine pu_l (As := [.long (x0 &&& (-9223372036854775808 : Int64)), .int (0 : Int32), .long (f_jM_abs_J x0)]) (rest := []) ⟨hx, hb, hml, hown, hts⟩ (c_I_nearest_JIJ l _ (x0 &&& (-9223372036854775808 : Int64)) (0 : Int32) (f_jM_abs_J x0)) pu_pre (gw_call (k := 3) hts tw_115 tw_116 tw_5 tw_117 (by decide +kernel) rfl rfl ⟨Nat.le_of_ble_eq_true rfl, Nat.le_of_ble_eq_true rfl⟩) rfl hl.1 rfl (Nat.le_of_ble_eq_true rfl) ⟨Nat.zero_le _, Nat.zero_le _⟩ d_I_ofWhole_J_10 ?_
  exact pu_lret hx hb hr hlocks d_I_ofWhole_J_13 (by exact Eq.symm rfl)
-- ===== MotionLab$Ieee.floatOfWhole(J)J
abbrev y_I_floatOfWhole_J : MethodName := ⟨"MotionLab$Ieee", "floatOfWhole", "(J)J"⟩
abbrev b_I_floatOfWhole_J : ByteArray := prog_2_method_27_code
theorem d_I_floatOfWhole_J_0 : decode b_I_floatOfWhole_J 0 = .ok (.lload_n 0, 1) := by decide +kernel
theorem d_I_floatOfWhole_J_1 : decode b_I_floatOfWhole_J 1 = .ok (.ldc2_w 19, 3) := by decide +kernel
theorem d_I_floatOfWhole_J_4 : decode b_I_floatOfWhole_J 4 = .ok (.land, 1) := by decide +kernel
theorem d_I_floatOfWhole_J_5 : decode b_I_floatOfWhole_J 5 = .ok (.iconst 0, 1) := by decide +kernel
theorem d_I_floatOfWhole_J_6 : decode b_I_floatOfWhole_J 6 = .ok (.lload_n 0, 1) := by decide +kernel
theorem d_I_floatOfWhole_J_7 : decode b_I_floatOfWhole_J 7 = .ok (.invokestatic 105, 3) := by decide +kernel
theorem d_I_floatOfWhole_J_10 : decode b_I_floatOfWhole_J 10 = .ok (.invokestatic 94, 3) := by decide +kernel
theorem d_I_floatOfWhole_J_13 : decode b_I_floatOfWhole_J 13 = .ok (.lreturn, 1) := by decide +kernel
def f_I_floatOfWhole_J (x0 : Int64) : Int64 :=
  f_I_nearestFloat_JIJ (x0 &&& (-9223372036854775808 : Int64)) (0 : Int32) (f_jM_abs_J x0)
set_option maxHeartbeats 4000000 in
set_option maxRecDepth 100000 in
theorem c_I_floatOfWhole_J (l : Launch) (h : Heap) (x0 : Int64) : Met l y_I_floatOfWhole_J (gw y_I_floatOfWhole_J b_I_floatOfWhole_J 2 (some .long)) { frames := 4, cells := 0, slots := 0, locals := 96 } (pu_Pc [.long x0] h) (pu_Ml (f_I_floatOfWhole_J x0) h) 0 0 (fun _ => False) := by
  refine Met.ofW (cc := b_I_floatOfWhole_J) (maxL := 2) (ret := (some .long)) (by decide) rfl ?_
  intro p e s m args below meth c s₁ B hml hv
  obtain ⟨rfl, hh⟩ := hv
  subst hh
  have hx := B.exec
  have hb := B.bytes
  have hr := B.returns
  have hts := atoms_spec (ws := (gw y_I_floatOfWhole_J b_I_floatOfWhole_J 2 (some .long))) B.pre
  have hown : s.vm.findClass "MotionLab$Ieee" = some m.cls := findClass_of_methodNamed B.named
  have hlocks := B.notSynchronized
  have C0 : pu_C p s m _ meth c b_I_floatOfWhole_J 2 "MotionLab$Ieee" (some .long) (gw y_I_floatOfWhole_J b_I_floatOfWhole_J 2 (some .long)) := ⟨hx, hb, hml, hown, hts, hr, hlocks⟩
  have hl := lv_entry ([.long x0]) (n := 2) (Nat.le_of_ble_eq_true rfl)
  rw [lg_entry_eq]
  generalize (lg_sl ([.long x0]) ++ List.replicate (2 - (lg_sl ([.long x0])).length) Slot.unset).toArray = ls at hl ⊢
  have hl : lv_has ls 2 [(0, .long x0)] := hl
  refine lv_lload_n hx hb d_I_floatOfWhole_J_0 rfl (lv_at hl 0 rfl) ?_
  refine lv_ldc2 (v := (-9223372036854775808 : Int64)) hx hb hown (hts _ (gm tw_93)) d_I_floatOfWhole_J_1 ?_
  refine lv_land hx hb d_I_floatOfWhole_J_4 ?_
  refine lv_iconst (v := 0) hx hb d_I_floatOfWhole_J_5 (by decide) ?_
  refine lv_lload_n hx hb d_I_floatOfWhole_J_6 rfl (lv_at hl 0 rfl) ?_
  refine pu_l (As := [.long x0]) (rest := [.int (0 : Int32), .long (x0 &&& (-9223372036854775808 : Int64))]) ⟨hx, hb, hml, hown, hts⟩ (c_jM_abs_J l _ x0) pu_pre (gw_call (k := 1) hts tw_332 tw_333 tw_6 tw_334 (by decide +kernel) rfl rfl ⟨Nat.le_of_ble_eq_true rfl, Nat.le_of_ble_eq_true rfl⟩) rfl hl.1 rfl (Nat.le_of_ble_eq_true rfl) ⟨Nat.zero_le _, Nat.zero_le _⟩ d_I_floatOfWhole_J_7 ?_
  refine pu_l (As := [.long (x0 &&& (-9223372036854775808 : Int64)), .int (0 : Int32), .long (f_jM_abs_J x0)]) (rest := []) ⟨hx, hb, hml, hown, hts⟩ (c_I_nearestFloat_JIJ l _ (x0 &&& (-9223372036854775808 : Int64)) (0 : Int32) (f_jM_abs_J x0)) pu_pre (gw_call (k := 3) hts tw_105 tw_106 tw_5 tw_107 (by decide +kernel) rfl rfl ⟨Nat.le_of_ble_eq_true rfl, Nat.le_of_ble_eq_true rfl⟩) rfl hl.1 rfl (Nat.le_of_ble_eq_true rfl) ⟨Nat.zero_le _, Nat.zero_le _⟩ d_I_floatOfWhole_J_10 ?_
  exact pu_lret hx hb hr hlocks d_I_floatOfWhole_J_13 (by exact Eq.symm rfl)
-- ===== MotionLab$Ieee.toLong(J)J
abbrev y_I_toLong_J : MethodName := ⟨"MotionLab$Ieee", "toLong", "(J)J"⟩
abbrev b_I_toLong_J : ByteArray := prog_2_method_29_code
theorem d_I_toLong_J_0 : decode b_I_toLong_J 0 = .ok (.lload_n 0, 1) := by decide +kernel
theorem d_I_toLong_J_1 : decode b_I_toLong_J 1 = .ok (.invokestatic 13, 3) := by decide +kernel
theorem d_I_toLong_J_4 : decode b_I_toLong_J 4 = .ok (.ifCond .eq 5, 3) := by decide +kernel
theorem d_I_toLong_J_7 : decode b_I_toLong_J 7 = .ok (.lconst 0, 1) := by decide +kernel
theorem d_I_toLong_J_8 : decode b_I_toLong_J 8 = .ok (.lreturn, 1) := by decide +kernel
theorem d_I_toLong_J_9 : decode b_I_toLong_J 9 = .ok (.lload_n 0, 1) := by decide +kernel
theorem d_I_toLong_J_10 : decode b_I_toLong_J 10 = .ok (.invokestatic 41, 3) := by decide +kernel
theorem d_I_toLong_J_13 : decode b_I_toLong_J 13 = .ok (.istore_n 2, 1) := by decide +kernel
theorem d_I_toLong_J_14 : decode b_I_toLong_J 14 = .ok (.iload_n 2, 1) := by decide +kernel
theorem d_I_toLong_J_15 : decode b_I_toLong_J 15 = .ok (.bipush 10, 2) := by decide +kernel
theorem d_I_toLong_J_17 : decode b_I_toLong_J 17 = .ok (.if_icmp .le 19, 3) := by decide +kernel
theorem d_I_toLong_J_20 : decode b_I_toLong_J 20 = .ok (.lload_n 0, 1) := by decide +kernel
theorem d_I_toLong_J_21 : decode b_I_toLong_J 21 = .ok (.lconst 0, 1) := by decide +kernel
theorem d_I_toLong_J_22 : decode b_I_toLong_J 22 = .ok (.lcmp, 1) := by decide +kernel
theorem d_I_toLong_J_23 : decode b_I_toLong_J 23 = .ok (.ifCond .ge 9, 3) := by decide +kernel
theorem d_I_toLong_J_26 : decode b_I_toLong_J 26 = .ok (.ldc2_w 19, 3) := by decide +kernel
theorem d_I_toLong_J_29 : decode b_I_toLong_J 29 = .ok (.goto 6, 3) := by decide +kernel
theorem d_I_toLong_J_32 : decode b_I_toLong_J 32 = .ok (.ldc2_w 9, 3) := by decide +kernel
theorem d_I_toLong_J_35 : decode b_I_toLong_J 35 = .ok (.lreturn, 1) := by decide +kernel
theorem d_I_toLong_J_36 : decode b_I_toLong_J 36 = .ok (.iload_n 2, 1) := by decide +kernel
theorem d_I_toLong_J_37 : decode b_I_toLong_J 37 = .ok (.bipush (-52), 2) := by decide +kernel
theorem d_I_toLong_J_39 : decode b_I_toLong_J 39 = .ok (.if_icmp .ge 5, 3) := by decide +kernel
theorem d_I_toLong_J_42 : decode b_I_toLong_J 42 = .ok (.lconst 0, 1) := by decide +kernel
theorem d_I_toLong_J_43 : decode b_I_toLong_J 43 = .ok (.lreturn, 1) := by decide +kernel
theorem d_I_toLong_J_44 : decode b_I_toLong_J 44 = .ok (.iload_n 2, 1) := by decide +kernel
theorem d_I_toLong_J_45 : decode b_I_toLong_J 45 = .ok (.ifCond .ge 13, 3) := by decide +kernel
theorem d_I_toLong_J_48 : decode b_I_toLong_J 48 = .ok (.lload_n 0, 1) := by decide +kernel
theorem d_I_toLong_J_49 : decode b_I_toLong_J 49 = .ok (.invokestatic 45, 3) := by decide +kernel
theorem d_I_toLong_J_52 : decode b_I_toLong_J 52 = .ok (.iload_n 2, 1) := by decide +kernel
theorem d_I_toLong_J_53 : decode b_I_toLong_J 53 = .ok (.ineg, 1) := by decide +kernel
theorem d_I_toLong_J_54 : decode b_I_toLong_J 54 = .ok (.lushr, 1) := by decide +kernel
theorem d_I_toLong_J_55 : decode b_I_toLong_J 55 = .ok (.goto 9, 3) := by decide +kernel
theorem d_I_toLong_J_58 : decode b_I_toLong_J 58 = .ok (.lload_n 0, 1) := by decide +kernel
theorem d_I_toLong_J_59 : decode b_I_toLong_J 59 = .ok (.invokestatic 45, 3) := by decide +kernel
theorem d_I_toLong_J_62 : decode b_I_toLong_J 62 = .ok (.iload_n 2, 1) := by decide +kernel
theorem d_I_toLong_J_63 : decode b_I_toLong_J 63 = .ok (.lshl, 1) := by decide +kernel
theorem d_I_toLong_J_64 : decode b_I_toLong_J 64 = .ok (.lstore_n 3, 1) := by decide +kernel
theorem d_I_toLong_J_65 : decode b_I_toLong_J 65 = .ok (.lload_n 0, 1) := by decide +kernel
theorem d_I_toLong_J_66 : decode b_I_toLong_J 66 = .ok (.lconst 0, 1) := by decide +kernel
theorem d_I_toLong_J_67 : decode b_I_toLong_J 67 = .ok (.lcmp, 1) := by decide +kernel
theorem d_I_toLong_J_68 : decode b_I_toLong_J 68 = .ok (.ifCond .ge 8, 3) := by decide +kernel
theorem d_I_toLong_J_71 : decode b_I_toLong_J 71 = .ok (.lload_n 3, 1) := by decide +kernel
theorem d_I_toLong_J_72 : decode b_I_toLong_J 72 = .ok (.lneg, 1) := by decide +kernel
theorem d_I_toLong_J_73 : decode b_I_toLong_J 73 = .ok (.goto 4, 3) := by decide +kernel
theorem d_I_toLong_J_76 : decode b_I_toLong_J 76 = .ok (.lload_n 3, 1) := by decide +kernel
theorem d_I_toLong_J_77 : decode b_I_toLong_J 77 = .ok (.lreturn, 1) := by decide +kernel
def f_I_toLong_J_64 (x0 : Int64) (s0 : Int64) : Int64 :=
  if 0 ≤ (lg_cmp x0 (0 : Int64)) then
    s0
  else
    -s0
set_option maxHeartbeats 4000000 in
set_option maxRecDepth 100000 in
theorem k_I_toLong_J_64 {p : Program} {l : Launch} {e : Env} {s : State} {m : MethodId} {args : Array Value} {below : List Frame} {meth : Method} {c : Code} (C0 : pu_C p s m args meth c b_I_toLong_J 5 "MotionLab$Ieee" (some .long) (gw y_I_toLong_J b_I_toLong_J 5 (some .long))) (x0 : Int64) (s0 : Int64) (ls : Array Slot) (hl : lv_has ls 5 [(0, .long x0)]) {w : Int64} (hw : w = f_I_toLong_J_64 x0 s0) : W p l e (headSpec (gw y_I_toLong_J b_I_toLong_J 5 (some .long)) ({ frames := 2, cells := 0, slots := 0, locals := 43 } : Room)).room s m args below meth c s.heap [] 0 0 (pu_Ql w below args s) (F0 m 64 ls [.long s0]) := by
  obtain ⟨hx, hb, hml, hown, hts, hr, hlocks⟩ := id C0
  refine lv_lstore_n (lv' := [(3, .long s0), (0, .long x0)]) hx hb d_I_toLong_J_64 rfl hl (by decide) rfl (fun ls hl => ?_)
  refine lv_lload_n hx hb d_I_toLong_J_65 rfl (lv_at hl 1 rfl) ?_
  refine lv_lconst (v := (0 : Int64)) hx hb d_I_toLong_J_66 (by decide) ?_
  refine W.lcmp hx hb d_I_toLong_J_67 ?_
  refine lv_if_ge (tgt := 76) hx hb d_I_toLong_J_68 (by decide) (fun c1 => ?_) (fun c1 => ?_)
  · refine lv_lload_n hx hb d_I_toLong_J_76 rfl (lv_at hl 0 rfl) ?_
    exact pu_lret hx hb hr hlocks d_I_toLong_J_77 (by exact Eq.symm (hw.trans (if_pos c1)))
  · refine lv_lload_n hx hb d_I_toLong_J_71 rfl (lv_at hl 0 rfl) ?_
    refine lv_lneg hx hb d_I_toLong_J_72 ?_
    refine lv_goto (tgt := 77) hx hb d_I_toLong_J_73 (by decide) ?_
    exact pu_lret hx hb hr hlocks d_I_toLong_J_77 (by exact Eq.symm (hw.trans (if_neg c1)))
def f_I_toLong_J (x0 : Int64) : Int64 :=
  if (f_I_isNoNumber_J x0) = 0 then
    let v2 : Int32 := f_I_power_J x0
    if v2 ≤ (10 : Int32) then
      if (-52 : Int32) ≤ v2 then
        if 0 ≤ v2 then
          f_I_toLong_J_64 x0 (j_shl (f_I_significand_J x0) v2)
        else
          f_I_toLong_J_64 x0 (j_ushr (f_I_significand_J x0) (-v2))
      else
        (0 : Int64)
    else
      if 0 ≤ (lg_cmp x0 (0 : Int64)) then
        (9223372036854775807 : Int64)
      else
        (-9223372036854775808 : Int64)
  else
    (0 : Int64)
set_option maxHeartbeats 4000000 in
set_option maxRecDepth 100000 in
theorem c_I_toLong_J (l : Launch) (h : Heap) (x0 : Int64) : Met l y_I_toLong_J (gw y_I_toLong_J b_I_toLong_J 5 (some .long)) { frames := 2, cells := 0, slots := 0, locals := 43 } (pu_Pc [.long x0] h) (pu_Ml (f_I_toLong_J x0) h) 0 0 (fun _ => False) := by
  refine Met.ofW (cc := b_I_toLong_J) (maxL := 5) (ret := (some .long)) (by decide) rfl ?_
  intro p e s m args below meth c s₁ B hml hv
  obtain ⟨rfl, hh⟩ := hv
  subst hh
  have hx := B.exec
  have hb := B.bytes
  have hr := B.returns
  have hts := atoms_spec (ws := (gw y_I_toLong_J b_I_toLong_J 5 (some .long))) B.pre
  have hown : s.vm.findClass "MotionLab$Ieee" = some m.cls := findClass_of_methodNamed B.named
  have hlocks := B.notSynchronized
  have C0 : pu_C p s m _ meth c b_I_toLong_J 5 "MotionLab$Ieee" (some .long) (gw y_I_toLong_J b_I_toLong_J 5 (some .long)) := ⟨hx, hb, hml, hown, hts, hr, hlocks⟩
  have hl := lv_entry ([.long x0]) (n := 5) (Nat.le_of_ble_eq_true rfl)
  rw [lg_entry_eq]
  generalize (lg_sl ([.long x0]) ++ List.replicate (5 - (lg_sl ([.long x0])).length) Slot.unset).toArray = ls at hl ⊢
  have hl : lv_has ls 5 [(0, .long x0)] := hl
  refine lv_lload_n hx hb d_I_toLong_J_0 rfl (lv_at hl 0 rfl) ?_
  refine pu_i (As := [.long x0]) (rest := []) ⟨hx, hb, hml, hown, hts⟩ (c_I_isNoNumber_J l _ x0) pu_pre (gw_call (k := 1) hts tw_89 tw_90 tw_5 tw_91 (by decide +kernel) rfl rfl ⟨Nat.le_of_ble_eq_true rfl, Nat.le_of_ble_eq_true rfl⟩) rfl hl.1 rfl (Nat.le_of_ble_eq_true rfl) ⟨Nat.zero_le _, Nat.zero_le _⟩ d_I_toLong_J_1 ?_
  refine lv_if_eq (tgt := 9) hx hb d_I_toLong_J_4 (by decide) (fun c1 => ?_) (fun c1 => ?_)
  · refine lv_lload_n hx hb d_I_toLong_J_9 rfl (lv_at hl 0 rfl) ?_
    refine pu_i (As := [.long x0]) (rest := []) ⟨hx, hb, hml, hown, hts⟩ (c_I_power_J l _ x0) pu_pre (gw_call (k := 1) hts tw_94 tw_95 tw_5 tw_96 (by decide +kernel) rfl rfl ⟨Nat.le_of_ble_eq_true rfl, Nat.le_of_ble_eq_true rfl⟩) rfl hl.1 rfl (Nat.le_of_ble_eq_true rfl) ⟨Nat.zero_le _, Nat.zero_le _⟩ d_I_toLong_J_10 ?_
    refine lv_topi (fun v2 e2 => ?_)
    refine lv_istore_n (lv' := [(2, .int v2), (0, .long x0)]) hx hb d_I_toLong_J_13 rfl hl (by decide) rfl (fun ls hl => ?_)
    refine lv_iload_n hx hb d_I_toLong_J_14 rfl (lv_at hl 0 rfl) ?_
    refine lv_bipush (v := (10 : Int32)) hx hb d_I_toLong_J_15 (by decide) ?_
    refine lv_icmp_le (tgt := 36) hx hb d_I_toLong_J_17 (by decide) (fun c3 => ?_) (fun c3 => ?_)
    · refine lv_iload_n hx hb d_I_toLong_J_36 rfl (lv_at hl 0 rfl) ?_
      refine lv_bipush (v := (-52 : Int32)) hx hb d_I_toLong_J_37 (by decide) ?_
      refine lv_icmp_ge (tgt := 44) hx hb d_I_toLong_J_39 (by decide) (fun c4 => ?_) (fun c4 => ?_)
      · refine lv_iload_n hx hb d_I_toLong_J_44 rfl (lv_at hl 0 rfl) ?_
        refine lv_if_ge (tgt := 58) hx hb d_I_toLong_J_45 (by decide) (fun c5 => ?_) (fun c5 => ?_)
        · refine lv_lload_n hx hb d_I_toLong_J_58 rfl (lv_at hl 1 rfl) ?_
          refine pu_l (As := [.long x0]) (rest := []) ⟨hx, hb, hml, hown, hts⟩ (c_I_significand_J l _ x0) pu_pre (gw_call (k := 1) hts tw_100 tw_101 tw_5 tw_102 (by decide +kernel) rfl rfl ⟨Nat.le_of_ble_eq_true rfl, Nat.le_of_ble_eq_true rfl⟩) rfl hl.1 rfl (Nat.le_of_ble_eq_true rfl) ⟨Nat.zero_le _, Nat.zero_le _⟩ d_I_toLong_J_59 ?_
          refine lv_iload_n hx hb d_I_toLong_J_62 rfl (lv_at hl 0 rfl) ?_
          refine lv_lshl (v := j_shl (f_I_significand_J x0) v2) hx hb d_I_toLong_J_63 rfl ?_
          exact k_I_toLong_J_64 C0 x0 (j_shl (f_I_significand_J x0) v2) ls (lv_sub hl [1] rfl) (by have qe2 := e2.symm; subst qe2; exact (Eq.trans (if_pos c1) (Eq.trans (if_pos c3) (Eq.trans (if_pos c4) (if_pos c5)))))
        · refine lv_lload_n hx hb d_I_toLong_J_48 rfl (lv_at hl 1 rfl) ?_
          refine pu_l (As := [.long x0]) (rest := []) ⟨hx, hb, hml, hown, hts⟩ (c_I_significand_J l _ x0) pu_pre (gw_call (k := 1) hts tw_100 tw_101 tw_5 tw_102 (by decide +kernel) rfl rfl ⟨Nat.le_of_ble_eq_true rfl, Nat.le_of_ble_eq_true rfl⟩) rfl hl.1 rfl (Nat.le_of_ble_eq_true rfl) ⟨Nat.zero_le _, Nat.zero_le _⟩ d_I_toLong_J_49 ?_
          refine lv_iload_n hx hb d_I_toLong_J_52 rfl (lv_at hl 0 rfl) ?_
          refine lv_ineg hx hb d_I_toLong_J_53 ?_
          refine lv_lushr (v := j_ushr (f_I_significand_J x0) (-v2)) hx hb d_I_toLong_J_54 rfl ?_
          refine lv_goto (tgt := 64) hx hb d_I_toLong_J_55 (by decide) ?_
          exact k_I_toLong_J_64 C0 x0 (j_ushr (f_I_significand_J x0) (-v2)) ls (lv_sub hl [1] rfl) (by have qe2 := e2.symm; subst qe2; exact (Eq.trans (if_pos c1) (Eq.trans (if_pos c3) (Eq.trans (if_pos c4) (if_neg c5)))))
      · refine lv_lconst (v := (0 : Int64)) hx hb d_I_toLong_J_42 (by decide) ?_
        exact pu_lret hx hb hr hlocks d_I_toLong_J_43 (by have qe2 := e2.symm; subst qe2; exact Eq.symm (Eq.trans (if_pos c1) (Eq.trans (if_pos c3) (if_neg c4))))
    · refine lv_lload_n hx hb d_I_toLong_J_20 rfl (lv_at hl 1 rfl) ?_
      refine lv_lconst (v := (0 : Int64)) hx hb d_I_toLong_J_21 (by decide) ?_
      refine W.lcmp hx hb d_I_toLong_J_22 ?_
      refine lv_if_ge (tgt := 32) hx hb d_I_toLong_J_23 (by decide) (fun c6 => ?_) (fun c6 => ?_)
      · refine lv_ldc2 (v := (9223372036854775807 : Int64)) hx hb hown (hts _ (gm tw_84)) d_I_toLong_J_32 ?_
        exact pu_lret hx hb hr hlocks d_I_toLong_J_35 (by have qe2 := e2.symm; subst qe2; exact Eq.symm (Eq.trans (if_pos c1) (Eq.trans (if_neg c3) (if_pos c6))))
      · refine lv_ldc2 (v := (-9223372036854775808 : Int64)) hx hb hown (hts _ (gm tw_93)) d_I_toLong_J_26 ?_
        refine lv_goto (tgt := 35) hx hb d_I_toLong_J_29 (by decide) ?_
        exact pu_lret hx hb hr hlocks d_I_toLong_J_35 (by have qe2 := e2.symm; subst qe2; exact Eq.symm (Eq.trans (if_pos c1) (Eq.trans (if_neg c3) (if_neg c6))))
  · refine lv_lconst (v := (0 : Int64)) hx hb d_I_toLong_J_7 (by decide) ?_
    exact pu_lret hx hb hr hlocks d_I_toLong_J_8 (by exact Eq.symm (if_neg c1))
-- ===== java/lang/Math.min(JJ)J
abbrev y_jM_min_JJ : MethodName := ⟨"java/lang/Math", "min", "(JJ)J"⟩
abbrev b_jM_min_JJ : ByteArray := prog_9_method_70_code
theorem d_jM_min_JJ_0 : decode b_jM_min_JJ 0 = .ok (.lload_n 0, 1) := by decide +kernel
theorem d_jM_min_JJ_1 : decode b_jM_min_JJ 1 = .ok (.lload_n 2, 1) := by decide +kernel
theorem d_jM_min_JJ_2 : decode b_jM_min_JJ 2 = .ok (.lcmp, 1) := by decide +kernel
theorem d_jM_min_JJ_3 : decode b_jM_min_JJ 3 = .ok (.ifCond .gt 7, 3) := by decide +kernel
theorem d_jM_min_JJ_6 : decode b_jM_min_JJ 6 = .ok (.lload_n 0, 1) := by decide +kernel
theorem d_jM_min_JJ_7 : decode b_jM_min_JJ 7 = .ok (.goto 4, 3) := by decide +kernel
theorem d_jM_min_JJ_10 : decode b_jM_min_JJ 10 = .ok (.lload_n 2, 1) := by decide +kernel
theorem d_jM_min_JJ_11 : decode b_jM_min_JJ 11 = .ok (.lreturn, 1) := by decide +kernel
def f_jM_min_JJ (x0 : Int64) (x2 : Int64) : Int64 :=
  if 0 < (lg_cmp x0 x2) then
    x2
  else
    x0
set_option maxHeartbeats 4000000 in
set_option maxRecDepth 100000 in
theorem c_jM_min_JJ (l : Launch) (h : Heap) (x0 : Int64) (x2 : Int64) : Met l y_jM_min_JJ (gw y_jM_min_JJ b_jM_min_JJ 4 (some .long)) { frames := 0, cells := 0, slots := 0, locals := 0 } (pu_Pc [.long x0, .long x2] h) (pu_Ml (f_jM_min_JJ x0 x2) h) 0 0 (fun _ => False) := by
  refine va_MetF (cc := b_jM_min_JJ) (maxL := 4) (ret := (some .long)) (by decide +kernel) rfl ?_
  intro p e s m args below meth c s₁ B hml hv
  obtain ⟨rfl, hh⟩ := hv
  subst hh
  have hx := B.exec
  have hb := B.bytes
  have hr := B.returns
  have hts := atoms_spec (ws := (gw y_jM_min_JJ b_jM_min_JJ 4 (some .long))) B.pre
  have hown : s.vm.findClass "java/lang/Math" = some m.cls := findClass_of_methodNamed B.named
  have hlocks := B.notSynchronized
  have C0 : pu_C p s m _ meth c b_jM_min_JJ 4 "java/lang/Math" (some .long) (gw y_jM_min_JJ b_jM_min_JJ 4 (some .long)) := ⟨hx, hb, hml, hown, hts, hr, hlocks⟩
  have hl := lv_entry ([.long x0, .long x2]) (n := 4) (Nat.le_of_ble_eq_true rfl)
  rw [lg_entry_eq]
  generalize (lg_sl ([.long x0, .long x2]) ++ List.replicate (4 - (lg_sl ([.long x0, .long x2])).length) Slot.unset).toArray = ls at hl ⊢
  have hl : lv_has ls 4 [(0, .long x0), (2, .long x2)] := hl
  refine lv_lload_n hx hb d_jM_min_JJ_0 rfl (lv_at hl 0 rfl) ?_
  refine lv_lload_n hx hb d_jM_min_JJ_1 rfl (lv_at hl 1 rfl) ?_
  refine W.lcmp hx hb d_jM_min_JJ_2 ?_
  refine lv_if_gt (tgt := 10) hx hb d_jM_min_JJ_3 (by decide) (fun c1 => ?_) (fun c1 => ?_)
  · refine lv_lload_n hx hb d_jM_min_JJ_10 rfl (lv_at hl 1 rfl) ?_
    exact pu_lret hx hb hr hlocks d_jM_min_JJ_11 (by exact Eq.symm (if_pos c1))
  · refine lv_lload_n hx hb d_jM_min_JJ_6 rfl (lv_at hl 0 rfl) ?_
    refine lv_goto (tgt := 11) hx hb d_jM_min_JJ_7 (by decide) ?_
    exact pu_lret hx hb hr hlocks d_jM_min_JJ_11 (by exact Eq.symm (if_neg c1))
-- ===== java/lang/Math.max(JJ)J
abbrev y_jM_max_JJ : MethodName := ⟨"java/lang/Math", "max", "(JJ)J"⟩
abbrev b_jM_max_JJ : ByteArray := prog_9_method_66_code
theorem d_jM_max_JJ_0 : decode b_jM_max_JJ 0 = .ok (.lload_n 0, 1) := by decide +kernel
theorem d_jM_max_JJ_1 : decode b_jM_max_JJ 1 = .ok (.lload_n 2, 1) := by decide +kernel
theorem d_jM_max_JJ_2 : decode b_jM_max_JJ 2 = .ok (.lcmp, 1) := by decide +kernel
theorem d_jM_max_JJ_3 : decode b_jM_max_JJ 3 = .ok (.ifCond .lt 7, 3) := by decide +kernel
theorem d_jM_max_JJ_6 : decode b_jM_max_JJ 6 = .ok (.lload_n 0, 1) := by decide +kernel
theorem d_jM_max_JJ_7 : decode b_jM_max_JJ 7 = .ok (.goto 4, 3) := by decide +kernel
theorem d_jM_max_JJ_10 : decode b_jM_max_JJ 10 = .ok (.lload_n 2, 1) := by decide +kernel
theorem d_jM_max_JJ_11 : decode b_jM_max_JJ 11 = .ok (.lreturn, 1) := by decide +kernel
def f_jM_max_JJ (x0 : Int64) (x2 : Int64) : Int64 :=
  if (lg_cmp x0 x2) < 0 then
    x2
  else
    x0
set_option maxHeartbeats 4000000 in
set_option maxRecDepth 100000 in
theorem c_jM_max_JJ (l : Launch) (h : Heap) (x0 : Int64) (x2 : Int64) : Met l y_jM_max_JJ (gw y_jM_max_JJ b_jM_max_JJ 4 (some .long)) { frames := 0, cells := 0, slots := 0, locals := 0 } (pu_Pc [.long x0, .long x2] h) (pu_Ml (f_jM_max_JJ x0 x2) h) 0 0 (fun _ => False) := by
  refine va_MetF (cc := b_jM_max_JJ) (maxL := 4) (ret := (some .long)) (by decide +kernel) rfl ?_
  intro p e s m args below meth c s₁ B hml hv
  obtain ⟨rfl, hh⟩ := hv
  subst hh
  have hx := B.exec
  have hb := B.bytes
  have hr := B.returns
  have hts := atoms_spec (ws := (gw y_jM_max_JJ b_jM_max_JJ 4 (some .long))) B.pre
  have hown : s.vm.findClass "java/lang/Math" = some m.cls := findClass_of_methodNamed B.named
  have hlocks := B.notSynchronized
  have C0 : pu_C p s m _ meth c b_jM_max_JJ 4 "java/lang/Math" (some .long) (gw y_jM_max_JJ b_jM_max_JJ 4 (some .long)) := ⟨hx, hb, hml, hown, hts, hr, hlocks⟩
  have hl := lv_entry ([.long x0, .long x2]) (n := 4) (Nat.le_of_ble_eq_true rfl)
  rw [lg_entry_eq]
  generalize (lg_sl ([.long x0, .long x2]) ++ List.replicate (4 - (lg_sl ([.long x0, .long x2])).length) Slot.unset).toArray = ls at hl ⊢
  have hl : lv_has ls 4 [(0, .long x0), (2, .long x2)] := hl
  refine lv_lload_n hx hb d_jM_max_JJ_0 rfl (lv_at hl 0 rfl) ?_
  refine lv_lload_n hx hb d_jM_max_JJ_1 rfl (lv_at hl 1 rfl) ?_
  refine W.lcmp hx hb d_jM_max_JJ_2 ?_
  refine lv_if_lt (tgt := 10) hx hb d_jM_max_JJ_3 (by decide) (fun c1 => ?_) (fun c1 => ?_)
  · refine lv_lload_n hx hb d_jM_max_JJ_10 rfl (lv_at hl 1 rfl) ?_
    exact pu_lret hx hb hr hlocks d_jM_max_JJ_11 (by exact Eq.symm (if_pos c1))
  · refine lv_lload_n hx hb d_jM_max_JJ_6 rfl (lv_at hl 0 rfl) ?_
    refine lv_goto (tgt := 11) hx hb d_jM_max_JJ_7 (by decide) ?_
    exact pu_lret hx hb hr hlocks d_jM_max_JJ_11 (by exact Eq.symm (if_neg c1))
-- ===== MotionLab$Ieee.toInt(J)I
abbrev y_I_toInt_J : MethodName := ⟨"MotionLab$Ieee", "toInt", "(J)I"⟩
abbrev b_I_toInt_J : ByteArray := prog_2_method_28_code
theorem d_I_toInt_J_0 : decode b_I_toInt_J 0 = .ok (.ldc2_w 108, 3) := by decide +kernel
theorem d_I_toInt_J_3 : decode b_I_toInt_J 3 = .ok (.ldc2_w 110, 3) := by decide +kernel
theorem d_I_toInt_J_6 : decode b_I_toInt_J 6 = .ok (.lload_n 0, 1) := by decide +kernel
theorem d_I_toInt_J_7 : decode b_I_toInt_J 7 = .ok (.invokestatic 112, 3) := by decide +kernel
theorem d_I_toInt_J_10 : decode b_I_toInt_J 10 = .ok (.invokestatic 115, 3) := by decide +kernel
theorem d_I_toInt_J_13 : decode b_I_toInt_J 13 = .ok (.invokestatic 117, 3) := by decide +kernel
theorem d_I_toInt_J_16 : decode b_I_toInt_J 16 = .ok (.l2i, 1) := by decide +kernel
theorem d_I_toInt_J_17 : decode b_I_toInt_J 17 = .ok (.ireturn, 1) := by decide +kernel
def f_I_toInt_J (x0 : Int64) : Int32 :=
  (f_jM_max_JJ (-2147483648 : Int64) (f_jM_min_JJ (2147483647 : Int64) (f_I_toLong_J x0))).toInt32
set_option maxHeartbeats 4000000 in
set_option maxRecDepth 100000 in
theorem c_I_toInt_J (l : Launch) (h : Heap) (x0 : Int64) : Met l y_I_toInt_J (gw y_I_toInt_J b_I_toInt_J 2 (some .int)) { frames := 3, cells := 0, slots := 0, locals := 67 } (pu_Pc [.long x0] h) (pu_Mi (f_I_toInt_J x0) h) 0 0 (fun _ => False) := by
  refine Met.ofW (cc := b_I_toInt_J) (maxL := 2) (ret := (some .int)) (by decide) rfl ?_
  intro p e s m args below meth c s₁ B hml hv
  obtain ⟨rfl, hh⟩ := hv
  subst hh
  have hx := B.exec
  have hb := B.bytes
  have hr := B.returns
  have hts := atoms_spec (ws := (gw y_I_toInt_J b_I_toInt_J 2 (some .int))) B.pre
  have hown : s.vm.findClass "MotionLab$Ieee" = some m.cls := findClass_of_methodNamed B.named
  have hlocks := B.notSynchronized
  have C0 : pu_C p s m _ meth c b_I_toInt_J 2 "MotionLab$Ieee" (some .int) (gw y_I_toInt_J b_I_toInt_J 2 (some .int)) := ⟨hx, hb, hml, hown, hts, hr, hlocks⟩
  have hl := lv_entry ([.long x0]) (n := 2) (Nat.le_of_ble_eq_true rfl)
  rw [lg_entry_eq]
  generalize (lg_sl ([.long x0]) ++ List.replicate (2 - (lg_sl ([.long x0])).length) Slot.unset).toArray = ls at hl ⊢
  have hl : lv_has ls 2 [(0, .long x0)] := hl
  refine lv_ldc2 (v := (-2147483648 : Int64)) hx hb hown (hts _ (gm tw_346)) d_I_toInt_J_0 ?_
  refine lv_ldc2 (v := (2147483647 : Int64)) hx hb hown (hts _ (gm tw_347)) d_I_toInt_J_3 ?_
  refine lv_lload_n hx hb d_I_toInt_J_6 rfl (lv_at hl 0 rfl) ?_
  refine pu_l (As := [.long x0]) (rest := [.long (2147483647 : Int64), .long (-2147483648 : Int64)]) ⟨hx, hb, hml, hown, hts⟩ (c_I_toLong_J l _ x0) pu_pre (gw_call (k := 1) hts tw_348 tw_349 tw_5 tw_350 (by decide +kernel) rfl rfl ⟨Nat.le_of_ble_eq_true rfl, Nat.le_of_ble_eq_true rfl⟩) rfl hl.1 rfl (Nat.le_of_ble_eq_true rfl) ⟨Nat.zero_le _, Nat.zero_le _⟩ d_I_toInt_J_7 ?_
  refine pu_l (As := [.long (2147483647 : Int64), .long (f_I_toLong_J x0)]) (rest := [.long (-2147483648 : Int64)]) ⟨hx, hb, hml, hown, hts⟩ (c_jM_min_JJ l _ (2147483647 : Int64) (f_I_toLong_J x0)) pu_pre (gw_call (k := 2) hts tw_351 tw_352 tw_6 tw_353 (by decide +kernel) rfl rfl ⟨Nat.le_of_ble_eq_true rfl, Nat.le_of_ble_eq_true rfl⟩) rfl hl.1 rfl (Nat.le_of_ble_eq_true rfl) ⟨Nat.zero_le _, Nat.zero_le _⟩ d_I_toInt_J_10 ?_
  refine pu_l (As := [.long (-2147483648 : Int64), .long (f_jM_min_JJ (2147483647 : Int64) (f_I_toLong_J x0))]) (rest := []) ⟨hx, hb, hml, hown, hts⟩ (c_jM_max_JJ l _ (-2147483648 : Int64) (f_jM_min_JJ (2147483647 : Int64) (f_I_toLong_J x0))) pu_pre (gw_call (k := 2) hts tw_354 tw_355 tw_6 tw_356 (by decide +kernel) rfl rfl ⟨Nat.le_of_ble_eq_true rfl, Nat.le_of_ble_eq_true rfl⟩) rfl hl.1 rfl (Nat.le_of_ble_eq_true rfl) ⟨Nat.zero_le _, Nat.zero_le _⟩ d_I_toInt_J_13 ?_
  refine lv_l2i hx hb d_I_toInt_J_16 rfl ?_
  exact pu_iret hx hb hr hlocks d_I_toInt_J_17 (by exact Eq.symm rfl)
end
section
-- ===== MotionLab$Ieee.floatBits(J)I
abbrev y_I_floatBits_J : MethodName := ⟨"MotionLab$Ieee", "floatBits", "(J)I"⟩
abbrev b_I_floatBits_J : ByteArray := prog_2_method_25_code
theorem d_I_floatBits_J_0 : decode b_I_floatBits_J 0 = .ok (.lload_n 0, 1) := by decide +kernel
theorem d_I_floatBits_J_1 : decode b_I_floatBits_J 1 = .ok (.invokestatic 13, 3) := by decide +kernel
theorem d_I_floatBits_J_4 : decode b_I_floatBits_J 4 = .ok (.ifCond .eq 6, 3) := by decide +kernel
theorem d_I_floatBits_J_7 : decode b_I_floatBits_J 7 = .ok (.ldc 102, 2) := by decide +kernel
theorem d_I_floatBits_J_9 : decode b_I_floatBits_J 9 = .ok (.ireturn, 1) := by decide +kernel
theorem d_I_floatBits_J_10 : decode b_I_floatBits_J 10 = .ok (.lload_n 0, 1) := by decide +kernel
theorem d_I_floatBits_J_11 : decode b_I_floatBits_J 11 = .ok (.lconst 0, 1) := by decide +kernel
theorem d_I_floatBits_J_12 : decode b_I_floatBits_J 12 = .ok (.lcmp, 1) := by decide +kernel
theorem d_I_floatBits_J_13 : decode b_I_floatBits_J 13 = .ok (.ifCond .ge 8, 3) := by decide +kernel
theorem d_I_floatBits_J_16 : decode b_I_floatBits_J 16 = .ok (.ldc 97, 2) := by decide +kernel
theorem d_I_floatBits_J_18 : decode b_I_floatBits_J 18 = .ok (.goto 4, 3) := by decide +kernel
theorem d_I_floatBits_J_21 : decode b_I_floatBits_J 21 = .ok (.iconst 0, 1) := by decide +kernel
theorem d_I_floatBits_J_22 : decode b_I_floatBits_J 22 = .ok (.istore_n 2, 1) := by decide +kernel
theorem d_I_floatBits_J_23 : decode b_I_floatBits_J 23 = .ok (.lload_n 0, 1) := by decide +kernel
theorem d_I_floatBits_J_24 : decode b_I_floatBits_J 24 = .ok (.ldc2_w 9, 3) := by decide +kernel
theorem d_I_floatBits_J_27 : decode b_I_floatBits_J 27 = .ok (.land, 1) := by decide +kernel
theorem d_I_floatBits_J_28 : decode b_I_floatBits_J 28 = .ok (.lstore_n 3, 1) := by decide +kernel
theorem d_I_floatBits_J_29 : decode b_I_floatBits_J 29 = .ok (.lload_n 3, 1) := by decide +kernel
theorem d_I_floatBits_J_30 : decode b_I_floatBits_J 30 = .ok (.ldc2_w 11, 3) := by decide +kernel
theorem d_I_floatBits_J_33 : decode b_I_floatBits_J 33 = .ok (.lcmp, 1) := by decide +kernel
theorem d_I_floatBits_J_34 : decode b_I_floatBits_J 34 = .ok (.ifCond .ne 8, 3) := by decide +kernel
theorem d_I_floatBits_J_37 : decode b_I_floatBits_J 37 = .ok (.iload_n 2, 1) := by decide +kernel
theorem d_I_floatBits_J_38 : decode b_I_floatBits_J 38 = .ok (.ldc 99, 2) := by decide +kernel
theorem d_I_floatBits_J_40 : decode b_I_floatBits_J 40 = .ok (.ior, 1) := by decide +kernel
theorem d_I_floatBits_J_41 : decode b_I_floatBits_J 41 = .ok (.ireturn, 1) := by decide +kernel
theorem d_I_floatBits_J_42 : decode b_I_floatBits_J 42 = .ok (.lload_n 3, 1) := by decide +kernel
theorem d_I_floatBits_J_43 : decode b_I_floatBits_J 43 = .ok (.ldc2_w 103, 3) := by decide +kernel
theorem d_I_floatBits_J_46 : decode b_I_floatBits_J 46 = .ok (.lcmp, 1) := by decide +kernel
theorem d_I_floatBits_J_47 : decode b_I_floatBits_J 47 = .ok (.ifCond .lt 18, 3) := by decide +kernel
theorem d_I_floatBits_J_50 : decode b_I_floatBits_J 50 = .ok (.iload_n 2, 1) := by decide +kernel
theorem d_I_floatBits_J_51 : decode b_I_floatBits_J 51 = .ok (.lload_n 3, 1) := by decide +kernel
theorem d_I_floatBits_J_52 : decode b_I_floatBits_J 52 = .ok (.ldc2_w 103, 3) := by decide +kernel
theorem d_I_floatBits_J_55 : decode b_I_floatBits_J 55 = .ok (.lsub, 1) := by decide +kernel
theorem d_I_floatBits_J_56 : decode b_I_floatBits_J 56 = .ok (.bipush 29, 2) := by decide +kernel
theorem d_I_floatBits_J_58 : decode b_I_floatBits_J 58 = .ok (.lushr, 1) := by decide +kernel
theorem d_I_floatBits_J_59 : decode b_I_floatBits_J 59 = .ok (.l2i, 1) := by decide +kernel
theorem d_I_floatBits_J_60 : decode b_I_floatBits_J 60 = .ok (.ldc 101, 2) := by decide +kernel
theorem d_I_floatBits_J_62 : decode b_I_floatBits_J 62 = .ok (.iadd, 1) := by decide +kernel
theorem d_I_floatBits_J_63 : decode b_I_floatBits_J 63 = .ok (.ior, 1) := by decide +kernel
theorem d_I_floatBits_J_64 : decode b_I_floatBits_J 64 = .ok (.ireturn, 1) := by decide +kernel
theorem d_I_floatBits_J_65 : decode b_I_floatBits_J 65 = .ok (.lload_n 3, 1) := by decide +kernel
theorem d_I_floatBits_J_66 : decode b_I_floatBits_J 66 = .ok (.lconst 0, 1) := by decide +kernel
theorem d_I_floatBits_J_67 : decode b_I_floatBits_J 67 = .ok (.lcmp, 1) := by decide +kernel
theorem d_I_floatBits_J_68 : decode b_I_floatBits_J 68 = .ok (.ifCond .ne 7, 3) := by decide +kernel
theorem d_I_floatBits_J_71 : decode b_I_floatBits_J 71 = .ok (.iload_n 2, 1) := by decide +kernel
theorem d_I_floatBits_J_72 : decode b_I_floatBits_J 72 = .ok (.goto 19, 3) := by decide +kernel
theorem d_I_floatBits_J_75 : decode b_I_floatBits_J 75 = .ok (.iload_n 2, 1) := by decide +kernel
theorem d_I_floatBits_J_76 : decode b_I_floatBits_J 76 = .ok (.lload_n 0, 1) := by decide +kernel
theorem d_I_floatBits_J_77 : decode b_I_floatBits_J 77 = .ok (.invokestatic 45, 3) := by decide +kernel
theorem d_I_floatBits_J_80 : decode b_I_floatBits_J 80 = .ok (.sipush (-149), 3) := by decide +kernel
theorem d_I_floatBits_J_83 : decode b_I_floatBits_J 83 = .ok (.lload_n 0, 1) := by decide +kernel
theorem d_I_floatBits_J_84 : decode b_I_floatBits_J 84 = .ok (.invokestatic 41, 3) := by decide +kernel
theorem d_I_floatBits_J_87 : decode b_I_floatBits_J 87 = .ok (.isub, 1) := by decide +kernel
theorem d_I_floatBits_J_88 : decode b_I_floatBits_J 88 = .ok (.lushr, 1) := by decide +kernel
theorem d_I_floatBits_J_89 : decode b_I_floatBits_J 89 = .ok (.l2i, 1) := by decide +kernel
theorem d_I_floatBits_J_90 : decode b_I_floatBits_J 90 = .ok (.ior, 1) := by decide +kernel
theorem d_I_floatBits_J_91 : decode b_I_floatBits_J 91 = .ok (.ireturn, 1) := by decide +kernel
def f_I_floatBits_J_22 (x0 : Int64) (s0 : Int32) : Int32 :=
  let v1 : Int64 := x0 &&& (9223372036854775807 : Int64)
  if (lg_cmp v1 (9218868437227405312 : Int64)) = 0 then
    s0 ||| (2139095040 : Int32)
  else
    if (lg_cmp v1 (4039728865751334912 : Int64)) < 0 then
      if (lg_cmp v1 (0 : Int64)) = 0 then
        s0
      else
        s0 ||| ((j_ushr (f_I_significand_J x0) ((-149 : Int32) - (f_I_power_J x0))).toInt32)
    else
      s0 ||| (((j_ushr (v1 - (4039728865751334912 : Int64)) (29 : Int32)).toInt32) + (8388608 : Int32))
set_option maxHeartbeats 4000000 in
set_option maxRecDepth 100000 in
theorem k_I_floatBits_J_22 {p : Program} {l : Launch} {e : Env} {s : State} {m : MethodId} {args : Array Value} {below : List Frame} {meth : Method} {c : Code} (C0 : pu_C p s m args meth c b_I_floatBits_J 5 "MotionLab$Ieee" (some .int) (gw y_I_floatBits_J b_I_floatBits_J 5 (some .int))) (x0 : Int64) (s0 : Int32) (ls : Array Slot) (hl : lv_has ls 5 [(0, .long x0)]) {w : Int32} (hw : w = f_I_floatBits_J_22 x0 s0) : W p l e (headSpec (gw y_I_floatBits_J b_I_floatBits_J 5 (some .int)) ({ frames := 2, cells := 0, slots := 0, locals := 43 } : Room)).room s m args below meth c s.heap [] 0 0 (pu_Qi w below args s) (F0 m 22 ls [.int s0]) := by
  obtain ⟨hx, hb, hml, hown, hts, hr, hlocks⟩ := id C0
  refine lv_istore_n (lv' := [(2, .int s0), (0, .long x0)]) hx hb d_I_floatBits_J_22 rfl hl (by decide) rfl (fun ls hl => ?_)
  refine lv_lload_n hx hb d_I_floatBits_J_23 rfl (lv_at hl 1 rfl) ?_
  refine lv_ldc2 (v := (9223372036854775807 : Int64)) hx hb hown (hts _ (gm tw_84)) d_I_floatBits_J_24 ?_
  refine lv_land hx hb d_I_floatBits_J_27 ?_
  refine lv_topl (fun v1 e1 => ?_)
  refine lv_lstore_n (lv' := [(3, .long v1), (2, .int s0), (0, .long x0)]) hx hb d_I_floatBits_J_28 rfl hl (by decide) rfl (fun ls hl => ?_)
  refine lv_lload_n hx hb d_I_floatBits_J_29 rfl (lv_at hl 0 rfl) ?_
  refine lv_ldc2 (v := (9218868437227405312 : Int64)) hx hb hown (hts _ (gm tw_85)) d_I_floatBits_J_30 ?_
  refine W.lcmp hx hb d_I_floatBits_J_33 ?_
  refine lv_if_ne (tgt := 42) hx hb d_I_floatBits_J_34 (by decide) (fun c2 => ?_) (fun c2 => ?_)
  · refine lv_lload_n hx hb d_I_floatBits_J_42 rfl (lv_at hl 0 rfl) ?_
    refine lv_ldc2 (v := (4039728865751334912 : Int64)) hx hb hown (hts _ (gm tw_407)) d_I_floatBits_J_43 ?_
    refine W.lcmp hx hb d_I_floatBits_J_46 ?_
    refine lv_if_lt (tgt := 65) hx hb d_I_floatBits_J_47 (by decide) (fun c3 => ?_) (fun c3 => ?_)
    · refine lv_lload_n hx hb d_I_floatBits_J_65 rfl (lv_at hl 0 rfl) ?_
      refine lv_lconst (v := (0 : Int64)) hx hb d_I_floatBits_J_66 (by decide) ?_
      refine W.lcmp hx hb d_I_floatBits_J_67 ?_
      refine lv_if_ne (tgt := 75) hx hb d_I_floatBits_J_68 (by decide) (fun c4 => ?_) (fun c4 => ?_)
      · refine lv_iload_n hx hb d_I_floatBits_J_75 rfl (lv_at hl 1 rfl) ?_
        refine lv_lload_n hx hb d_I_floatBits_J_76 rfl (lv_at hl 2 rfl) ?_
        refine pu_l (As := [.long x0]) (rest := [.int s0]) ⟨hx, hb, hml, hown, hts⟩ (c_I_significand_J l _ x0) pu_pre (gw_call (k := 1) hts tw_100 tw_101 tw_5 tw_102 (by decide +kernel) rfl rfl ⟨Nat.le_of_ble_eq_true rfl, Nat.le_of_ble_eq_true rfl⟩) rfl hl.1 rfl (Nat.le_of_ble_eq_true rfl) ⟨Nat.zero_le _, Nat.zero_le _⟩ d_I_floatBits_J_77 ?_
        refine lv_sipush (v := (-149 : Int32)) hx hb d_I_floatBits_J_80 (by decide) ?_
        refine lv_lload_n hx hb d_I_floatBits_J_83 rfl (lv_at hl 2 rfl) ?_
        refine pu_i (As := [.long x0]) (rest := [.int (-149 : Int32), .long (f_I_significand_J x0), .int s0]) ⟨hx, hb, hml, hown, hts⟩ (c_I_power_J l _ x0) pu_pre (gw_call (k := 1) hts tw_94 tw_95 tw_5 tw_96 (by decide +kernel) rfl rfl ⟨Nat.le_of_ble_eq_true rfl, Nat.le_of_ble_eq_true rfl⟩) rfl hl.1 rfl (Nat.le_of_ble_eq_true rfl) ⟨Nat.zero_le _, Nat.zero_le _⟩ d_I_floatBits_J_84 ?_
        refine lv_isub hx hb d_I_floatBits_J_87 ?_
        refine lv_lushr (v := j_ushr (f_I_significand_J x0) ((-149 : Int32) - (f_I_power_J x0))) hx hb d_I_floatBits_J_88 rfl ?_
        refine lv_l2i hx hb d_I_floatBits_J_89 rfl ?_
        refine lv_ior hx hb d_I_floatBits_J_90 ?_
        exact pu_iret hx hb hr hlocks d_I_floatBits_J_91 (by have qe1 := e1.symm; subst qe1; exact Eq.symm (hw.trans (Eq.trans (if_neg c2) (Eq.trans (if_pos c3) (if_neg c4)))))
      · refine lv_iload_n hx hb d_I_floatBits_J_71 rfl (lv_at hl 1 rfl) ?_
        refine lv_goto (tgt := 91) hx hb d_I_floatBits_J_72 (by decide) ?_
        exact pu_iret hx hb hr hlocks d_I_floatBits_J_91 (by have qe1 := e1.symm; subst qe1; exact Eq.symm (hw.trans (Eq.trans (if_neg c2) (Eq.trans (if_pos c3) (if_pos c4)))))
    · refine lv_iload_n hx hb d_I_floatBits_J_50 rfl (lv_at hl 1 rfl) ?_
      refine lv_lload_n hx hb d_I_floatBits_J_51 rfl (lv_at hl 0 rfl) ?_
      refine lv_ldc2 (v := (4039728865751334912 : Int64)) hx hb hown (hts _ (gm tw_407)) d_I_floatBits_J_52 ?_
      refine lv_lsub hx hb d_I_floatBits_J_55 ?_
      refine lv_bipush (v := (29 : Int32)) hx hb d_I_floatBits_J_56 (by decide) ?_
      refine lv_lushr (v := j_ushr (v1 - (4039728865751334912 : Int64)) (29 : Int32)) hx hb d_I_floatBits_J_58 rfl ?_
      refine lv_l2i hx hb d_I_floatBits_J_59 rfl ?_
      refine lv_ldc (v := (8388608 : Int32)) hx hb hown (hts _ (gm tw_149)) d_I_floatBits_J_60 ?_
      refine lv_iadd hx hb d_I_floatBits_J_62 ?_
      refine lv_ior hx hb d_I_floatBits_J_63 ?_
      exact pu_iret hx hb hr hlocks d_I_floatBits_J_64 (by have qe1 := e1.symm; subst qe1; exact Eq.symm (hw.trans (Eq.trans (if_neg c2) (if_neg c3))))
  · refine lv_iload_n hx hb d_I_floatBits_J_37 rfl (lv_at hl 1 rfl) ?_
    refine lv_ldc (v := (2139095040 : Int32)) hx hb hown (hts _ (gm tw_147)) d_I_floatBits_J_38 ?_
    refine lv_ior hx hb d_I_floatBits_J_40 ?_
    exact pu_iret hx hb hr hlocks d_I_floatBits_J_41 (by have qe1 := e1.symm; subst qe1; exact Eq.symm (hw.trans (if_pos c2)))
def f_I_floatBits_J (x0 : Int64) : Int32 :=
  if (f_I_isNoNumber_J x0) = 0 then
    if 0 ≤ (lg_cmp x0 (0 : Int64)) then
      f_I_floatBits_J_22 x0 (0 : Int32)
    else
      f_I_floatBits_J_22 x0 (-2147483648 : Int32)
  else
    (2143289344 : Int32)
set_option maxHeartbeats 4000000 in
set_option maxRecDepth 100000 in
theorem c_I_floatBits_J (l : Launch) (h : Heap) (x0 : Int64) : Met l y_I_floatBits_J (gw y_I_floatBits_J b_I_floatBits_J 5 (some .int)) { frames := 2, cells := 0, slots := 0, locals := 43 } (pu_Pc [.long x0] h) (pu_Mi (f_I_floatBits_J x0) h) 0 0 (fun _ => False) := by
  refine Met.ofW (cc := b_I_floatBits_J) (maxL := 5) (ret := (some .int)) (by decide) rfl ?_
  intro p e s m args below meth c s₁ B hml hv
  obtain ⟨rfl, hh⟩ := hv
  subst hh
  have hx := B.exec
  have hb := B.bytes
  have hr := B.returns
  have hts := atoms_spec (ws := (gw y_I_floatBits_J b_I_floatBits_J 5 (some .int))) B.pre
  have hown : s.vm.findClass "MotionLab$Ieee" = some m.cls := findClass_of_methodNamed B.named
  have hlocks := B.notSynchronized
  have C0 : pu_C p s m _ meth c b_I_floatBits_J 5 "MotionLab$Ieee" (some .int) (gw y_I_floatBits_J b_I_floatBits_J 5 (some .int)) := ⟨hx, hb, hml, hown, hts, hr, hlocks⟩
  have hl := lv_entry ([.long x0]) (n := 5) (Nat.le_of_ble_eq_true rfl)
  rw [lg_entry_eq]
  generalize (lg_sl ([.long x0]) ++ List.replicate (5 - (lg_sl ([.long x0])).length) Slot.unset).toArray = ls at hl ⊢
  have hl : lv_has ls 5 [(0, .long x0)] := hl
  refine lv_lload_n hx hb d_I_floatBits_J_0 rfl (lv_at hl 0 rfl) ?_
  refine pu_i (As := [.long x0]) (rest := []) ⟨hx, hb, hml, hown, hts⟩ (c_I_isNoNumber_J l _ x0) pu_pre (gw_call (k := 1) hts tw_89 tw_90 tw_5 tw_91 (by decide +kernel) rfl rfl ⟨Nat.le_of_ble_eq_true rfl, Nat.le_of_ble_eq_true rfl⟩) rfl hl.1 rfl (Nat.le_of_ble_eq_true rfl) ⟨Nat.zero_le _, Nat.zero_le _⟩ d_I_floatBits_J_1 ?_
  refine lv_if_eq (tgt := 10) hx hb d_I_floatBits_J_4 (by decide) (fun c1 => ?_) (fun c1 => ?_)
  · refine lv_lload_n hx hb d_I_floatBits_J_10 rfl (lv_at hl 0 rfl) ?_
    refine lv_lconst (v := (0 : Int64)) hx hb d_I_floatBits_J_11 (by decide) ?_
    refine W.lcmp hx hb d_I_floatBits_J_12 ?_
    refine lv_if_ge (tgt := 21) hx hb d_I_floatBits_J_13 (by decide) (fun c2 => ?_) (fun c2 => ?_)
    · refine lv_iconst (v := 0) hx hb d_I_floatBits_J_21 (by decide) ?_
      exact k_I_floatBits_J_22 C0 x0 (0 : Int32) ls (lv_sub hl [0] rfl) (by exact (Eq.trans (if_pos c1) (if_pos c2)))
    · refine lv_ldc (v := (-2147483648 : Int32)) hx hb hown (hts _ (gm tw_145)) d_I_floatBits_J_16 ?_
      refine lv_goto (tgt := 22) hx hb d_I_floatBits_J_18 (by decide) ?_
      exact k_I_floatBits_J_22 C0 x0 (-2147483648 : Int32) ls (lv_sub hl [0] rfl) (by exact (Eq.trans (if_pos c1) (if_neg c2)))
  · refine lv_ldc (v := (2143289344 : Int32)) hx hb hown (hts _ (gm tw_406)) d_I_floatBits_J_7 ?_
    exact pu_iret hx hb hr hlocks d_I_floatBits_J_9 (by exact Eq.symm (if_neg c1))
-- ===== MotionLabModel.in(II)Z
abbrev y_M_in_II : MethodName := ⟨"MotionLabModel", "in", "(II)Z"⟩
abbrev b_M_in_II : ByteArray := prog_6_method_32_code
theorem d_M_in_II_0 : decode b_M_in_II 0 = .ok (.iload_n 0, 1) := by decide +kernel
theorem d_M_in_II_1 : decode b_M_in_II 1 = .ok (.ifCond .lt 12, 3) := by decide +kernel
theorem d_M_in_II_4 : decode b_M_in_II 4 = .ok (.iload_n 0, 1) := by decide +kernel
theorem d_M_in_II_5 : decode b_M_in_II 5 = .ok (.iload_n 1, 1) := by decide +kernel
theorem d_M_in_II_6 : decode b_M_in_II 6 = .ok (.if_icmp .ge 7, 3) := by decide +kernel
theorem d_M_in_II_9 : decode b_M_in_II 9 = .ok (.iconst 1, 1) := by decide +kernel
theorem d_M_in_II_10 : decode b_M_in_II 10 = .ok (.goto 4, 3) := by decide +kernel
theorem d_M_in_II_13 : decode b_M_in_II 13 = .ok (.iconst 0, 1) := by decide +kernel
theorem d_M_in_II_14 : decode b_M_in_II 14 = .ok (.ireturn, 1) := by decide +kernel
def f_M_in_II (x0 : Int32) (x1 : Int32) : Int32 :=
  if x0 < 0 then
    (0 : Int32)
  else
    if x1 ≤ x0 then
      (0 : Int32)
    else
      (1 : Int32)
set_option maxHeartbeats 4000000 in
set_option maxRecDepth 100000 in
theorem c_M_in_II (l : Launch) (h : Heap) (x0 : Int32) (x1 : Int32) : Met l y_M_in_II (gw y_M_in_II b_M_in_II 2 (some .boolean)) { frames := 0, cells := 0, slots := 0, locals := 0 } (pu_Pc [.int x0, .int x1] h) (pu_Mi (f_M_in_II x0 x1) h) 0 0 (fun _ => False) := by
  refine Met.ofW (cc := b_M_in_II) (maxL := 2) (ret := (some .boolean)) (by decide) rfl ?_
  intro p e s m args below meth c s₁ B hml hv
  obtain ⟨rfl, hh⟩ := hv
  subst hh
  have hx := B.exec
  have hb := B.bytes
  have hr := B.returns
  have hts := atoms_spec (ws := (gw y_M_in_II b_M_in_II 2 (some .boolean))) B.pre
  have hown : s.vm.findClass "MotionLabModel" = some m.cls := findClass_of_methodNamed B.named
  have hlocks := B.notSynchronized
  have C0 : pu_C p s m _ meth c b_M_in_II 2 "MotionLabModel" (some .boolean) (gw y_M_in_II b_M_in_II 2 (some .boolean)) := ⟨hx, hb, hml, hown, hts, hr, hlocks⟩
  have hl := lv_entry ([.int x0, .int x1]) (n := 2) (Nat.le_of_ble_eq_true rfl)
  rw [lg_entry_eq]
  generalize (lg_sl ([.int x0, .int x1]) ++ List.replicate (2 - (lg_sl ([.int x0, .int x1])).length) Slot.unset).toArray = ls at hl ⊢
  have hl : lv_has ls 2 [(0, .int x0), (1, .int x1)] := hl
  refine lv_iload_n hx hb d_M_in_II_0 rfl (lv_at hl 0 rfl) ?_
  refine lv_if_lt (tgt := 13) hx hb d_M_in_II_1 (by decide) (fun c1 => ?_) (fun c1 => ?_)
  · refine lv_iconst (v := 0) hx hb d_M_in_II_13 (by decide) ?_
    exact pu_zret hx hb hr rfl hlocks d_M_in_II_14 (by exact Eq.symm (if_pos c1))
  · refine lv_iload_n hx hb d_M_in_II_4 rfl (lv_at hl 0 rfl) ?_
    refine lv_iload_n hx hb d_M_in_II_5 rfl (lv_at hl 1 rfl) ?_
    refine lv_icmp_ge (tgt := 13) hx hb d_M_in_II_6 (by decide) (fun c2 => ?_) (fun c2 => ?_)
    · refine lv_iconst (v := 0) hx hb d_M_in_II_13 (by decide) ?_
      exact pu_zret hx hb hr rfl hlocks d_M_in_II_14 (by exact Eq.symm (Eq.trans (if_neg c1) (if_pos c2)))
    · refine lv_iconst (v := 1) hx hb d_M_in_II_9 (by decide) ?_
      refine lv_goto (tgt := 14) hx hb d_M_in_II_10 (by decide) ?_
      exact pu_zret hx hb hr rfl hlocks d_M_in_II_14 (by exact Eq.symm (Eq.trans (if_neg c1) (if_neg c2)))
-- ===== MotionLabModel.wide(I)I
abbrev y_M_wide_I : MethodName := ⟨"MotionLabModel", "wide", "(I)I"⟩
abbrev b_M_wide_I : ByteArray := prog_6_method_1_code
theorem d_M_wide_I_0 : decode b_M_wide_I 0 = .ok (.iload_n 0, 1) := by decide +kernel
theorem d_M_wide_I_1 : decode b_M_wide_I 1 = .ok (.ifCond .ne 8, 3) := by decide +kernel
theorem d_M_wide_I_4 : decode b_M_wide_I 4 = .ok (.bipush 64, 2) := by decide +kernel
theorem d_M_wide_I_6 : decode b_M_wide_I 6 = .ok (.goto 5, 3) := by decide +kernel
theorem d_M_wide_I_9 : decode b_M_wide_I 9 = .ok (.bipush 32, 2) := by decide +kernel
theorem d_M_wide_I_11 : decode b_M_wide_I 11 = .ok (.ireturn, 1) := by decide +kernel
def f_M_wide_I (x0 : Int32) : Int32 :=
  if x0 = 0 then
    (64 : Int32)
  else
    (32 : Int32)
set_option maxHeartbeats 4000000 in
set_option maxRecDepth 100000 in
theorem c_M_wide_I (l : Launch) (h : Heap) (x0 : Int32) : Met l y_M_wide_I (gw y_M_wide_I b_M_wide_I 1 (some .int)) { frames := 0, cells := 0, slots := 0, locals := 0 } (pu_Pc [.int x0] h) (pu_Mi (f_M_wide_I x0) h) 0 0 (fun _ => False) := by
  refine Met.ofW (cc := b_M_wide_I) (maxL := 1) (ret := (some .int)) (by decide) rfl ?_
  intro p e s m args below meth c s₁ B hml hv
  obtain ⟨rfl, hh⟩ := hv
  subst hh
  have hx := B.exec
  have hb := B.bytes
  have hr := B.returns
  have hts := atoms_spec (ws := (gw y_M_wide_I b_M_wide_I 1 (some .int))) B.pre
  have hown : s.vm.findClass "MotionLabModel" = some m.cls := findClass_of_methodNamed B.named
  have hlocks := B.notSynchronized
  have C0 : pu_C p s m _ meth c b_M_wide_I 1 "MotionLabModel" (some .int) (gw y_M_wide_I b_M_wide_I 1 (some .int)) := ⟨hx, hb, hml, hown, hts, hr, hlocks⟩
  have hl := lv_entry ([.int x0]) (n := 1) (Nat.le_of_ble_eq_true rfl)
  rw [lg_entry_eq]
  generalize (lg_sl ([.int x0]) ++ List.replicate (1 - (lg_sl ([.int x0])).length) Slot.unset).toArray = ls at hl ⊢
  have hl : lv_has ls 1 [(0, .int x0)] := hl
  refine lv_iload_n hx hb d_M_wide_I_0 rfl (lv_at hl 0 rfl) ?_
  refine lv_if_ne (tgt := 9) hx hb d_M_wide_I_1 (by decide) (fun c1 => ?_) (fun c1 => ?_)
  · refine lv_bipush (v := (32 : Int32)) hx hb d_M_wide_I_9 (by decide) ?_
    exact pu_iret hx hb hr hlocks d_M_wide_I_11 (by exact Eq.symm (if_neg c1))
  · refine lv_bipush (v := (64 : Int32)) hx hb d_M_wide_I_4 (by decide) ?_
    refine lv_goto (tgt := 11) hx hb d_M_wide_I_6 (by decide) ?_
    exact pu_iret hx hb hr hlocks d_M_wide_I_11 (by exact Eq.symm (if_pos c1))
-- ===== MotionLabModel.size(JI)J
abbrev y_M_size_JI : MethodName := ⟨"MotionLabModel", "size", "(JI)J"⟩
abbrev b_M_size_JI : ByteArray := prog_6_method_3_code
theorem d_M_size_JI_0 : decode b_M_size_JI 0 = .ok (.lload_n 0, 1) := by decide +kernel
theorem d_M_size_JI_1 : decode b_M_size_JI 1 = .ok (.lconst 1, 1) := by decide +kernel
theorem d_M_size_JI_2 : decode b_M_size_JI 2 = .ok (.iload_n 2, 1) := by decide +kernel
theorem d_M_size_JI_3 : decode b_M_size_JI 3 = .ok (.invokestatic 1, 3) := by decide +kernel
theorem d_M_size_JI_6 : decode b_M_size_JI 6 = .ok (.iconst 1, 1) := by decide +kernel
theorem d_M_size_JI_7 : decode b_M_size_JI 7 = .ok (.isub, 1) := by decide +kernel
theorem d_M_size_JI_8 : decode b_M_size_JI 8 = .ok (.lshl, 1) := by decide +kernel
theorem d_M_size_JI_9 : decode b_M_size_JI 9 = .ok (.lconst 1, 1) := by decide +kernel
theorem d_M_size_JI_10 : decode b_M_size_JI 10 = .ok (.lsub, 1) := by decide +kernel
theorem d_M_size_JI_11 : decode b_M_size_JI 11 = .ok (.land, 1) := by decide +kernel
theorem d_M_size_JI_12 : decode b_M_size_JI 12 = .ok (.lreturn, 1) := by decide +kernel
def f_M_size_JI (x0 : Int64) (x2 : Int32) : Int64 :=
  x0 &&& ((j_shl (1 : Int64) ((f_M_wide_I x2) - (1 : Int32))) - (1 : Int64))
set_option maxHeartbeats 4000000 in
set_option maxRecDepth 100000 in
theorem c_M_size_JI (l : Launch) (h : Heap) (x0 : Int64) (x2 : Int32) : Met l y_M_size_JI (gw y_M_size_JI b_M_size_JI 3 (some .long)) { frames := 1, cells := 0, slots := 0, locals := 20 } (pu_Pc [.long x0, .int x2] h) (pu_Ml (f_M_size_JI x0 x2) h) 0 0 (fun _ => False) := by
  refine Met.ofW (cc := b_M_size_JI) (maxL := 3) (ret := (some .long)) (by decide) rfl ?_
  intro p e s m args below meth c s₁ B hml hv
  obtain ⟨rfl, hh⟩ := hv
  subst hh
  have hx := B.exec
  have hb := B.bytes
  have hr := B.returns
  have hts := atoms_spec (ws := (gw y_M_size_JI b_M_size_JI 3 (some .long))) B.pre
  have hown : s.vm.findClass "MotionLabModel" = some m.cls := findClass_of_methodNamed B.named
  have hlocks := B.notSynchronized
  have C0 : pu_C p s m _ meth c b_M_size_JI 3 "MotionLabModel" (some .long) (gw y_M_size_JI b_M_size_JI 3 (some .long)) := ⟨hx, hb, hml, hown, hts, hr, hlocks⟩
  have hl := lv_entry ([.long x0, .int x2]) (n := 3) (Nat.le_of_ble_eq_true rfl)
  rw [lg_entry_eq]
  generalize (lg_sl ([.long x0, .int x2]) ++ List.replicate (3 - (lg_sl ([.long x0, .int x2])).length) Slot.unset).toArray = ls at hl ⊢
  have hl : lv_has ls 3 [(0, .long x0), (2, .int x2)] := hl
  refine lv_lload_n hx hb d_M_size_JI_0 rfl (lv_at hl 0 rfl) ?_
  refine lv_lconst (v := (1 : Int64)) hx hb d_M_size_JI_1 (by decide) ?_
  refine lv_iload_n hx hb d_M_size_JI_2 rfl (lv_at hl 1 rfl) ?_
  refine pu_i (As := [.int x2]) (rest := [.long (1 : Int64), .long x0]) ⟨hx, hb, hml, hown, hts⟩ (c_M_wide_I l _ x2) pu_pre (gw_call (k := 1) hts tw_504 tw_505 tw_4 tw_506 (by decide +kernel) rfl rfl ⟨Nat.le_of_ble_eq_true rfl, Nat.le_of_ble_eq_true rfl⟩) rfl hl.1 rfl (Nat.le_of_ble_eq_true rfl) ⟨Nat.zero_le _, Nat.zero_le _⟩ d_M_size_JI_3 ?_
  refine lv_iconst (v := 1) hx hb d_M_size_JI_6 (by decide) ?_
  refine lv_isub hx hb d_M_size_JI_7 ?_
  refine lv_lshl (v := j_shl (1 : Int64) ((f_M_wide_I x2) - (1 : Int32))) hx hb d_M_size_JI_8 rfl ?_
  refine lv_lconst (v := (1 : Int64)) hx hb d_M_size_JI_9 (by decide) ?_
  refine lv_lsub hx hb d_M_size_JI_10 ?_
  refine lv_land hx hb d_M_size_JI_11 ?_
  exact pu_lret hx hb hr hlocks d_M_size_JI_12 (by exact Eq.symm rfl)
-- ===== MotionLabModel.infinite(I)J
abbrev y_M_infinite_I : MethodName := ⟨"MotionLabModel", "infinite", "(I)J"⟩
abbrev b_M_infinite_I : ByteArray := prog_6_method_4_code
theorem d_M_infinite_I_0 : decode b_M_infinite_I 0 = .ok (.iload_n 0, 1) := by decide +kernel
theorem d_M_infinite_I_1 : decode b_M_infinite_I 1 = .ok (.ifCond .ne 9, 3) := by decide +kernel
theorem d_M_infinite_I_4 : decode b_M_infinite_I 4 = .ok (.ldc2_w 7, 3) := by decide +kernel
theorem d_M_infinite_I_7 : decode b_M_infinite_I 7 = .ok (.goto 6, 3) := by decide +kernel
theorem d_M_infinite_I_10 : decode b_M_infinite_I 10 = .ok (.ldc2_w 9, 3) := by decide +kernel
theorem d_M_infinite_I_13 : decode b_M_infinite_I 13 = .ok (.lreturn, 1) := by decide +kernel
def f_M_infinite_I (x0 : Int32) : Int64 :=
  if x0 = 0 then
    (9218868437227405312 : Int64)
  else
    (2139095040 : Int64)
set_option maxHeartbeats 4000000 in
set_option maxRecDepth 100000 in
theorem c_M_infinite_I (l : Launch) (h : Heap) (x0 : Int32) : Met l y_M_infinite_I (gw y_M_infinite_I b_M_infinite_I 1 (some .long)) { frames := 0, cells := 0, slots := 0, locals := 0 } (pu_Pc [.int x0] h) (pu_Ml (f_M_infinite_I x0) h) 0 0 (fun _ => False) := by
  refine Met.ofW (cc := b_M_infinite_I) (maxL := 1) (ret := (some .long)) (by decide) rfl ?_
  intro p e s m args below meth c s₁ B hml hv
  obtain ⟨rfl, hh⟩ := hv
  subst hh
  have hx := B.exec
  have hb := B.bytes
  have hr := B.returns
  have hts := atoms_spec (ws := (gw y_M_infinite_I b_M_infinite_I 1 (some .long))) B.pre
  have hown : s.vm.findClass "MotionLabModel" = some m.cls := findClass_of_methodNamed B.named
  have hlocks := B.notSynchronized
  have C0 : pu_C p s m _ meth c b_M_infinite_I 1 "MotionLabModel" (some .long) (gw y_M_infinite_I b_M_infinite_I 1 (some .long)) := ⟨hx, hb, hml, hown, hts, hr, hlocks⟩
  have hl := lv_entry ([.int x0]) (n := 1) (Nat.le_of_ble_eq_true rfl)
  rw [lg_entry_eq]
  generalize (lg_sl ([.int x0]) ++ List.replicate (1 - (lg_sl ([.int x0])).length) Slot.unset).toArray = ls at hl ⊢
  have hl : lv_has ls 1 [(0, .int x0)] := hl
  refine lv_iload_n hx hb d_M_infinite_I_0 rfl (lv_at hl 0 rfl) ?_
  refine lv_if_ne (tgt := 10) hx hb d_M_infinite_I_1 (by decide) (fun c1 => ?_) (fun c1 => ?_)
  · refine lv_ldc2 (v := (2139095040 : Int64)) hx hb hown (hts _ (gm tw_510)) d_M_infinite_I_10 ?_
    exact pu_lret hx hb hr hlocks d_M_infinite_I_13 (by exact Eq.symm (if_neg c1))
  · refine lv_ldc2 (v := (9218868437227405312 : Int64)) hx hb hown (hts _ (gm tw_419)) d_M_infinite_I_4 ?_
    refine lv_goto (tgt := 13) hx hb d_M_infinite_I_7 (by decide) ?_
    exact pu_lret hx hb hr hlocks d_M_infinite_I_13 (by exact Eq.symm (if_pos c1))
-- ===== MotionLabModel.isNone(JI)Z
abbrev y_M_isNone_JI : MethodName := ⟨"MotionLabModel", "isNone", "(JI)Z"⟩
abbrev b_M_isNone_JI : ByteArray := prog_6_method_6_code
theorem d_M_isNone_JI_0 : decode b_M_isNone_JI 0 = .ok (.lload_n 0, 1) := by decide +kernel
theorem d_M_isNone_JI_1 : decode b_M_isNone_JI 1 = .ok (.iload_n 2, 1) := by decide +kernel
theorem d_M_isNone_JI_2 : decode b_M_isNone_JI 2 = .ok (.invokestatic 15, 3) := by decide +kernel
theorem d_M_isNone_JI_5 : decode b_M_isNone_JI 5 = .ok (.iload_n 2, 1) := by decide +kernel
theorem d_M_isNone_JI_6 : decode b_M_isNone_JI 6 = .ok (.invokestatic 19, 3) := by decide +kernel
theorem d_M_isNone_JI_9 : decode b_M_isNone_JI 9 = .ok (.lcmp, 1) := by decide +kernel
theorem d_M_isNone_JI_10 : decode b_M_isNone_JI 10 = .ok (.ifCond .le 7, 3) := by decide +kernel
theorem d_M_isNone_JI_13 : decode b_M_isNone_JI 13 = .ok (.iconst 1, 1) := by decide +kernel
theorem d_M_isNone_JI_14 : decode b_M_isNone_JI 14 = .ok (.goto 4, 3) := by decide +kernel
theorem d_M_isNone_JI_17 : decode b_M_isNone_JI 17 = .ok (.iconst 0, 1) := by decide +kernel
theorem d_M_isNone_JI_18 : decode b_M_isNone_JI 18 = .ok (.ireturn, 1) := by decide +kernel
def f_M_isNone_JI (x0 : Int64) (x2 : Int32) : Int32 :=
  if (lg_cmp (f_M_size_JI x0 x2) (f_M_infinite_I x2)) ≤ 0 then
    (0 : Int32)
  else
    (1 : Int32)
set_option maxHeartbeats 4000000 in
set_option maxRecDepth 100000 in
theorem c_M_isNone_JI (l : Launch) (h : Heap) (x0 : Int64) (x2 : Int32) : Met l y_M_isNone_JI (gw y_M_isNone_JI b_M_isNone_JI 3 (some .boolean)) { frames := 2, cells := 0, slots := 0, locals := 42 } (pu_Pc [.long x0, .int x2] h) (pu_Mi (f_M_isNone_JI x0 x2) h) 0 0 (fun _ => False) := by
  refine Met.ofW (cc := b_M_isNone_JI) (maxL := 3) (ret := (some .boolean)) (by decide) rfl ?_
  intro p e s m args below meth c s₁ B hml hv
  obtain ⟨rfl, hh⟩ := hv
  subst hh
  have hx := B.exec
  have hb := B.bytes
  have hr := B.returns
  have hts := atoms_spec (ws := (gw y_M_isNone_JI b_M_isNone_JI 3 (some .boolean))) B.pre
  have hown : s.vm.findClass "MotionLabModel" = some m.cls := findClass_of_methodNamed B.named
  have hlocks := B.notSynchronized
  have C0 : pu_C p s m _ meth c b_M_isNone_JI 3 "MotionLabModel" (some .boolean) (gw y_M_isNone_JI b_M_isNone_JI 3 (some .boolean)) := ⟨hx, hb, hml, hown, hts, hr, hlocks⟩
  have hl := lv_entry ([.long x0, .int x2]) (n := 3) (Nat.le_of_ble_eq_true rfl)
  rw [lg_entry_eq]
  generalize (lg_sl ([.long x0, .int x2]) ++ List.replicate (3 - (lg_sl ([.long x0, .int x2])).length) Slot.unset).toArray = ls at hl ⊢
  have hl : lv_has ls 3 [(0, .long x0), (2, .int x2)] := hl
  refine lv_lload_n hx hb d_M_isNone_JI_0 rfl (lv_at hl 0 rfl) ?_
  refine lv_iload_n hx hb d_M_isNone_JI_1 rfl (lv_at hl 1 rfl) ?_
  refine pu_l (As := [.long x0, .int x2]) (rest := []) ⟨hx, hb, hml, hown, hts⟩ (c_M_size_JI l _ x0 x2) pu_pre (gw_call (k := 2) hts tw_501 tw_502 tw_4 tw_503 (by decide +kernel) rfl rfl ⟨Nat.le_of_ble_eq_true rfl, Nat.le_of_ble_eq_true rfl⟩) rfl hl.1 rfl (Nat.le_of_ble_eq_true rfl) ⟨Nat.zero_le _, Nat.zero_le _⟩ d_M_isNone_JI_2 ?_
  refine lv_iload_n hx hb d_M_isNone_JI_5 rfl (lv_at hl 1 rfl) ?_
  refine pu_l (As := [.int x2]) (rest := [.long (f_M_size_JI x0 x2)]) ⟨hx, hb, hml, hown, hts⟩ (c_M_infinite_I l _ x2) pu_pre (gw_call (k := 1) hts tw_507 tw_508 tw_4 tw_509 (by decide +kernel) rfl rfl ⟨Nat.le_of_ble_eq_true rfl, Nat.le_of_ble_eq_true rfl⟩) rfl hl.1 rfl (Nat.le_of_ble_eq_true rfl) ⟨Nat.zero_le _, Nat.zero_le _⟩ d_M_isNone_JI_6 ?_
  refine W.lcmp hx hb d_M_isNone_JI_9 ?_
  refine lv_if_le (tgt := 17) hx hb d_M_isNone_JI_10 (by decide) (fun c1 => ?_) (fun c1 => ?_)
  · refine lv_iconst (v := 0) hx hb d_M_isNone_JI_17 (by decide) ?_
    exact pu_zret hx hb hr rfl hlocks d_M_isNone_JI_18 (by exact Eq.symm (if_pos c1))
  · refine lv_iconst (v := 1) hx hb d_M_isNone_JI_13 (by decide) ?_
    refine lv_goto (tgt := 18) hx hb d_M_isNone_JI_14 (by decide) ?_
    exact pu_zret hx hb hr rfl hlocks d_M_isNone_JI_18 (by exact Eq.symm (if_neg c1))
-- ===== MotionLabModel.none(I)J
abbrev y_M_none_I : MethodName := ⟨"MotionLabModel", "none", "(I)J"⟩
abbrev b_M_none_I : ByteArray := prog_6_method_5_code
theorem d_M_none_I_0 : decode b_M_none_I 0 = .ok (.iload_n 0, 1) := by decide +kernel
theorem d_M_none_I_1 : decode b_M_none_I 1 = .ok (.ifCond .ne 9, 3) := by decide +kernel
theorem d_M_none_I_4 : decode b_M_none_I 4 = .ok (.ldc2_w 11, 3) := by decide +kernel
theorem d_M_none_I_7 : decode b_M_none_I 7 = .ok (.goto 6, 3) := by decide +kernel
theorem d_M_none_I_10 : decode b_M_none_I 10 = .ok (.ldc2_w 13, 3) := by decide +kernel
theorem d_M_none_I_13 : decode b_M_none_I 13 = .ok (.lreturn, 1) := by decide +kernel
def f_M_none_I (x0 : Int32) : Int64 :=
  if x0 = 0 then
    (9221120237041090560 : Int64)
  else
    (2143289344 : Int64)
set_option maxHeartbeats 4000000 in
set_option maxRecDepth 100000 in
theorem c_M_none_I (l : Launch) (h : Heap) (x0 : Int32) : Met l y_M_none_I (gw y_M_none_I b_M_none_I 1 (some .long)) { frames := 0, cells := 0, slots := 0, locals := 0 } (pu_Pc [.int x0] h) (pu_Ml (f_M_none_I x0) h) 0 0 (fun _ => False) := by
  refine Met.ofW (cc := b_M_none_I) (maxL := 1) (ret := (some .long)) (by decide) rfl ?_
  intro p e s m args below meth c s₁ B hml hv
  obtain ⟨rfl, hh⟩ := hv
  subst hh
  have hx := B.exec
  have hb := B.bytes
  have hr := B.returns
  have hts := atoms_spec (ws := (gw y_M_none_I b_M_none_I 1 (some .long))) B.pre
  have hown : s.vm.findClass "MotionLabModel" = some m.cls := findClass_of_methodNamed B.named
  have hlocks := B.notSynchronized
  have C0 : pu_C p s m _ meth c b_M_none_I 1 "MotionLabModel" (some .long) (gw y_M_none_I b_M_none_I 1 (some .long)) := ⟨hx, hb, hml, hown, hts, hr, hlocks⟩
  have hl := lv_entry ([.int x0]) (n := 1) (Nat.le_of_ble_eq_true rfl)
  rw [lg_entry_eq]
  generalize (lg_sl ([.int x0]) ++ List.replicate (1 - (lg_sl ([.int x0])).length) Slot.unset).toArray = ls at hl ⊢
  have hl : lv_has ls 1 [(0, .int x0)] := hl
  refine lv_iload_n hx hb d_M_none_I_0 rfl (lv_at hl 0 rfl) ?_
  refine lv_if_ne (tgt := 10) hx hb d_M_none_I_1 (by decide) (fun c1 => ?_) (fun c1 => ?_)
  · refine lv_ldc2 (v := (2143289344 : Int64)) hx hb hown (hts _ (gm tw_515)) d_M_none_I_10 ?_
    exact pu_lret hx hb hr hlocks d_M_none_I_13 (by exact Eq.symm (if_neg c1))
  · refine lv_ldc2 (v := (9221120237041090560 : Int64)) hx hb hown (hts _ (gm tw_514)) d_M_none_I_4 ?_
    refine lv_goto (tgt := 13) hx hb d_M_none_I_7 (by decide) ?_
    exact pu_lret hx hb hr hlocks d_M_none_I_13 (by exact Eq.symm (if_pos c1))
-- ===== MotionLabModel.isInfinite(JI)Z
abbrev y_M_isInfinite_JI : MethodName := ⟨"MotionLabModel", "isInfinite", "(JI)Z"⟩
abbrev b_M_isInfinite_JI : ByteArray := prog_6_method_7_code
theorem d_M_isInfinite_JI_0 : decode b_M_isInfinite_JI 0 = .ok (.lload_n 0, 1) := by decide +kernel
theorem d_M_isInfinite_JI_1 : decode b_M_isInfinite_JI 1 = .ok (.iload_n 2, 1) := by decide +kernel
theorem d_M_isInfinite_JI_2 : decode b_M_isInfinite_JI 2 = .ok (.invokestatic 15, 3) := by decide +kernel
theorem d_M_isInfinite_JI_5 : decode b_M_isInfinite_JI 5 = .ok (.iload_n 2, 1) := by decide +kernel
theorem d_M_isInfinite_JI_6 : decode b_M_isInfinite_JI 6 = .ok (.invokestatic 19, 3) := by decide +kernel
theorem d_M_isInfinite_JI_9 : decode b_M_isInfinite_JI 9 = .ok (.lcmp, 1) := by decide +kernel
theorem d_M_isInfinite_JI_10 : decode b_M_isInfinite_JI 10 = .ok (.ifCond .ne 7, 3) := by decide +kernel
theorem d_M_isInfinite_JI_13 : decode b_M_isInfinite_JI 13 = .ok (.iconst 1, 1) := by decide +kernel
theorem d_M_isInfinite_JI_14 : decode b_M_isInfinite_JI 14 = .ok (.goto 4, 3) := by decide +kernel
theorem d_M_isInfinite_JI_17 : decode b_M_isInfinite_JI 17 = .ok (.iconst 0, 1) := by decide +kernel
theorem d_M_isInfinite_JI_18 : decode b_M_isInfinite_JI 18 = .ok (.ireturn, 1) := by decide +kernel
def f_M_isInfinite_JI (x0 : Int64) (x2 : Int32) : Int32 :=
  if (lg_cmp (f_M_size_JI x0 x2) (f_M_infinite_I x2)) = 0 then
    (1 : Int32)
  else
    (0 : Int32)
set_option maxHeartbeats 4000000 in
set_option maxRecDepth 100000 in
theorem c_M_isInfinite_JI (l : Launch) (h : Heap) (x0 : Int64) (x2 : Int32) : Met l y_M_isInfinite_JI (gw y_M_isInfinite_JI b_M_isInfinite_JI 3 (some .boolean)) { frames := 2, cells := 0, slots := 0, locals := 42 } (pu_Pc [.long x0, .int x2] h) (pu_Mi (f_M_isInfinite_JI x0 x2) h) 0 0 (fun _ => False) := by
  refine Met.ofW (cc := b_M_isInfinite_JI) (maxL := 3) (ret := (some .boolean)) (by decide) rfl ?_
  intro p e s m args below meth c s₁ B hml hv
  obtain ⟨rfl, hh⟩ := hv
  subst hh
  have hx := B.exec
  have hb := B.bytes
  have hr := B.returns
  have hts := atoms_spec (ws := (gw y_M_isInfinite_JI b_M_isInfinite_JI 3 (some .boolean))) B.pre
  have hown : s.vm.findClass "MotionLabModel" = some m.cls := findClass_of_methodNamed B.named
  have hlocks := B.notSynchronized
  have C0 : pu_C p s m _ meth c b_M_isInfinite_JI 3 "MotionLabModel" (some .boolean) (gw y_M_isInfinite_JI b_M_isInfinite_JI 3 (some .boolean)) := ⟨hx, hb, hml, hown, hts, hr, hlocks⟩
  have hl := lv_entry ([.long x0, .int x2]) (n := 3) (Nat.le_of_ble_eq_true rfl)
  rw [lg_entry_eq]
  generalize (lg_sl ([.long x0, .int x2]) ++ List.replicate (3 - (lg_sl ([.long x0, .int x2])).length) Slot.unset).toArray = ls at hl ⊢
  have hl : lv_has ls 3 [(0, .long x0), (2, .int x2)] := hl
  refine lv_lload_n hx hb d_M_isInfinite_JI_0 rfl (lv_at hl 0 rfl) ?_
  refine lv_iload_n hx hb d_M_isInfinite_JI_1 rfl (lv_at hl 1 rfl) ?_
  refine pu_l (As := [.long x0, .int x2]) (rest := []) ⟨hx, hb, hml, hown, hts⟩ (c_M_size_JI l _ x0 x2) pu_pre (gw_call (k := 2) hts tw_501 tw_502 tw_4 tw_503 (by decide +kernel) rfl rfl ⟨Nat.le_of_ble_eq_true rfl, Nat.le_of_ble_eq_true rfl⟩) rfl hl.1 rfl (Nat.le_of_ble_eq_true rfl) ⟨Nat.zero_le _, Nat.zero_le _⟩ d_M_isInfinite_JI_2 ?_
  refine lv_iload_n hx hb d_M_isInfinite_JI_5 rfl (lv_at hl 1 rfl) ?_
  refine pu_l (As := [.int x2]) (rest := [.long (f_M_size_JI x0 x2)]) ⟨hx, hb, hml, hown, hts⟩ (c_M_infinite_I l _ x2) pu_pre (gw_call (k := 1) hts tw_507 tw_508 tw_4 tw_509 (by decide +kernel) rfl rfl ⟨Nat.le_of_ble_eq_true rfl, Nat.le_of_ble_eq_true rfl⟩) rfl hl.1 rfl (Nat.le_of_ble_eq_true rfl) ⟨Nat.zero_le _, Nat.zero_le _⟩ d_M_isInfinite_JI_6 ?_
  refine W.lcmp hx hb d_M_isInfinite_JI_9 ?_
  refine lv_if_ne (tgt := 17) hx hb d_M_isInfinite_JI_10 (by decide) (fun c1 => ?_) (fun c1 => ?_)
  · refine lv_iconst (v := 0) hx hb d_M_isInfinite_JI_17 (by decide) ?_
    exact pu_zret hx hb hr rfl hlocks d_M_isInfinite_JI_18 (by exact Eq.symm (if_neg c1))
  · refine lv_iconst (v := 1) hx hb d_M_isInfinite_JI_13 (by decide) ?_
    refine lv_goto (tgt := 18) hx hb d_M_isInfinite_JI_14 (by decide) ?_
    exact pu_zret hx hb hr rfl hlocks d_M_isInfinite_JI_18 (by exact Eq.symm (if_pos c1))
-- ===== MotionLabModel.minus(JI)Z
abbrev y_M_minus_JI : MethodName := ⟨"MotionLabModel", "minus", "(JI)Z"⟩
abbrev b_M_minus_JI : ByteArray := prog_6_method_2_code
theorem d_M_minus_JI_0 : decode b_M_minus_JI 0 = .ok (.lload_n 0, 1) := by decide +kernel
theorem d_M_minus_JI_1 : decode b_M_minus_JI 1 = .ok (.iload_n 2, 1) := by decide +kernel
theorem d_M_minus_JI_2 : decode b_M_minus_JI 2 = .ok (.invokestatic 1, 3) := by decide +kernel
theorem d_M_minus_JI_5 : decode b_M_minus_JI 5 = .ok (.iconst 1, 1) := by decide +kernel
theorem d_M_minus_JI_6 : decode b_M_minus_JI 6 = .ok (.isub, 1) := by decide +kernel
theorem d_M_minus_JI_7 : decode b_M_minus_JI 7 = .ok (.lushr, 1) := by decide +kernel
theorem d_M_minus_JI_8 : decode b_M_minus_JI 8 = .ok (.lconst 1, 1) := by decide +kernel
theorem d_M_minus_JI_9 : decode b_M_minus_JI 9 = .ok (.land, 1) := by decide +kernel
theorem d_M_minus_JI_10 : decode b_M_minus_JI 10 = .ok (.lconst 1, 1) := by decide +kernel
theorem d_M_minus_JI_11 : decode b_M_minus_JI 11 = .ok (.lcmp, 1) := by decide +kernel
theorem d_M_minus_JI_12 : decode b_M_minus_JI 12 = .ok (.ifCond .ne 7, 3) := by decide +kernel
theorem d_M_minus_JI_15 : decode b_M_minus_JI 15 = .ok (.iconst 1, 1) := by decide +kernel
theorem d_M_minus_JI_16 : decode b_M_minus_JI 16 = .ok (.goto 4, 3) := by decide +kernel
theorem d_M_minus_JI_19 : decode b_M_minus_JI 19 = .ok (.iconst 0, 1) := by decide +kernel
theorem d_M_minus_JI_20 : decode b_M_minus_JI 20 = .ok (.ireturn, 1) := by decide +kernel
def f_M_minus_JI (x0 : Int64) (x2 : Int32) : Int32 :=
  if (lg_cmp ((j_ushr x0 ((f_M_wide_I x2) - (1 : Int32))) &&& (1 : Int64)) (1 : Int64)) = 0 then
    (1 : Int32)
  else
    (0 : Int32)
set_option maxHeartbeats 4000000 in
set_option maxRecDepth 100000 in
theorem c_M_minus_JI (l : Launch) (h : Heap) (x0 : Int64) (x2 : Int32) : Met l y_M_minus_JI (gw y_M_minus_JI b_M_minus_JI 3 (some .boolean)) { frames := 1, cells := 0, slots := 0, locals := 20 } (pu_Pc [.long x0, .int x2] h) (pu_Mi (f_M_minus_JI x0 x2) h) 0 0 (fun _ => False) := by
  refine Met.ofW (cc := b_M_minus_JI) (maxL := 3) (ret := (some .boolean)) (by decide) rfl ?_
  intro p e s m args below meth c s₁ B hml hv
  obtain ⟨rfl, hh⟩ := hv
  subst hh
  have hx := B.exec
  have hb := B.bytes
  have hr := B.returns
  have hts := atoms_spec (ws := (gw y_M_minus_JI b_M_minus_JI 3 (some .boolean))) B.pre
  have hown : s.vm.findClass "MotionLabModel" = some m.cls := findClass_of_methodNamed B.named
  have hlocks := B.notSynchronized
  have C0 : pu_C p s m _ meth c b_M_minus_JI 3 "MotionLabModel" (some .boolean) (gw y_M_minus_JI b_M_minus_JI 3 (some .boolean)) := ⟨hx, hb, hml, hown, hts, hr, hlocks⟩
  have hl := lv_entry ([.long x0, .int x2]) (n := 3) (Nat.le_of_ble_eq_true rfl)
  rw [lg_entry_eq]
  generalize (lg_sl ([.long x0, .int x2]) ++ List.replicate (3 - (lg_sl ([.long x0, .int x2])).length) Slot.unset).toArray = ls at hl ⊢
  have hl : lv_has ls 3 [(0, .long x0), (2, .int x2)] := hl
  refine lv_lload_n hx hb d_M_minus_JI_0 rfl (lv_at hl 0 rfl) ?_
  refine lv_iload_n hx hb d_M_minus_JI_1 rfl (lv_at hl 1 rfl) ?_
  refine pu_i (As := [.int x2]) (rest := [.long x0]) ⟨hx, hb, hml, hown, hts⟩ (c_M_wide_I l _ x2) pu_pre (gw_call (k := 1) hts tw_504 tw_505 tw_4 tw_506 (by decide +kernel) rfl rfl ⟨Nat.le_of_ble_eq_true rfl, Nat.le_of_ble_eq_true rfl⟩) rfl hl.1 rfl (Nat.le_of_ble_eq_true rfl) ⟨Nat.zero_le _, Nat.zero_le _⟩ d_M_minus_JI_2 ?_
  refine lv_iconst (v := 1) hx hb d_M_minus_JI_5 (by decide) ?_
  refine lv_isub hx hb d_M_minus_JI_6 ?_
  refine lv_lushr (v := j_ushr x0 ((f_M_wide_I x2) - (1 : Int32))) hx hb d_M_minus_JI_7 rfl ?_
  refine lv_lconst (v := (1 : Int64)) hx hb d_M_minus_JI_8 (by decide) ?_
  refine lv_land hx hb d_M_minus_JI_9 ?_
  refine lv_lconst (v := (1 : Int64)) hx hb d_M_minus_JI_10 (by decide) ?_
  refine W.lcmp hx hb d_M_minus_JI_11 ?_
  refine lv_if_ne (tgt := 19) hx hb d_M_minus_JI_12 (by decide) (fun c1 => ?_) (fun c1 => ?_)
  · refine lv_iconst (v := 0) hx hb d_M_minus_JI_19 (by decide) ?_
    exact pu_zret hx hb hr rfl hlocks d_M_minus_JI_20 (by exact Eq.symm (if_neg c1))
  · refine lv_iconst (v := 1) hx hb d_M_minus_JI_15 (by decide) ?_
    refine lv_goto (tgt := 20) hx hb d_M_minus_JI_16 (by decide) ?_
    exact pu_zret hx hb hr rfl hlocks d_M_minus_JI_20 (by exact Eq.symm (if_pos c1))
-- ===== MotionLabModel.signed(JZI)J
abbrev y_M_signed_JZI : MethodName := ⟨"MotionLabModel", "signed", "(JZI)J"⟩
abbrev b_M_signed_JZI : ByteArray := prog_6_method_9_code
theorem d_M_signed_JZI_0 : decode b_M_signed_JZI 0 = .ok (.iload_n 2, 1) := by decide +kernel
theorem d_M_signed_JZI_1 : decode b_M_signed_JZI 1 = .ok (.ifCond .eq 16, 3) := by decide +kernel
theorem d_M_signed_JZI_4 : decode b_M_signed_JZI 4 = .ok (.lload_n 0, 1) := by decide +kernel
theorem d_M_signed_JZI_5 : decode b_M_signed_JZI 5 = .ok (.lconst 1, 1) := by decide +kernel
theorem d_M_signed_JZI_6 : decode b_M_signed_JZI 6 = .ok (.iload_n 3, 1) := by decide +kernel
theorem d_M_signed_JZI_7 : decode b_M_signed_JZI 7 = .ok (.invokestatic 1, 3) := by decide +kernel
theorem d_M_signed_JZI_10 : decode b_M_signed_JZI 10 = .ok (.iconst 1, 1) := by decide +kernel
theorem d_M_signed_JZI_11 : decode b_M_signed_JZI 11 = .ok (.isub, 1) := by decide +kernel
theorem d_M_signed_JZI_12 : decode b_M_signed_JZI 12 = .ok (.lshl, 1) := by decide +kernel
theorem d_M_signed_JZI_13 : decode b_M_signed_JZI 13 = .ok (.lor, 1) := by decide +kernel
theorem d_M_signed_JZI_14 : decode b_M_signed_JZI 14 = .ok (.goto 4, 3) := by decide +kernel
theorem d_M_signed_JZI_17 : decode b_M_signed_JZI 17 = .ok (.lload_n 0, 1) := by decide +kernel
theorem d_M_signed_JZI_18 : decode b_M_signed_JZI 18 = .ok (.lreturn, 1) := by decide +kernel
def f_M_signed_JZI (x0 : Int64) (x2 : Int32) (x3 : Int32) : Int64 :=
  if x2 = 0 then
    x0
  else
    x0 ||| (j_shl (1 : Int64) ((f_M_wide_I x3) - (1 : Int32)))
set_option maxHeartbeats 4000000 in
set_option maxRecDepth 100000 in
theorem c_M_signed_JZI (l : Launch) (h : Heap) (x0 : Int64) (x2 : Int32) (x3 : Int32) : Met l y_M_signed_JZI (gw y_M_signed_JZI b_M_signed_JZI 4 (some .long)) { frames := 1, cells := 0, slots := 0, locals := 20 } (pu_Pc [.long x0, .int x2, .int x3] h) (pu_Ml (f_M_signed_JZI x0 x2 x3) h) 0 0 (fun _ => False) := by
  refine Met.ofW (cc := b_M_signed_JZI) (maxL := 4) (ret := (some .long)) (by decide) rfl ?_
  intro p e s m args below meth c s₁ B hml hv
  obtain ⟨rfl, hh⟩ := hv
  subst hh
  have hx := B.exec
  have hb := B.bytes
  have hr := B.returns
  have hts := atoms_spec (ws := (gw y_M_signed_JZI b_M_signed_JZI 4 (some .long))) B.pre
  have hown : s.vm.findClass "MotionLabModel" = some m.cls := findClass_of_methodNamed B.named
  have hlocks := B.notSynchronized
  have C0 : pu_C p s m _ meth c b_M_signed_JZI 4 "MotionLabModel" (some .long) (gw y_M_signed_JZI b_M_signed_JZI 4 (some .long)) := ⟨hx, hb, hml, hown, hts, hr, hlocks⟩
  have hl := lv_entry ([.long x0, .int x2, .int x3]) (n := 4) (Nat.le_of_ble_eq_true rfl)
  rw [lg_entry_eq]
  generalize (lg_sl ([.long x0, .int x2, .int x3]) ++ List.replicate (4 - (lg_sl ([.long x0, .int x2, .int x3])).length) Slot.unset).toArray = ls at hl ⊢
  have hl : lv_has ls 4 [(0, .long x0), (2, .int x2), (3, .int x3)] := hl
  refine lv_iload_n hx hb d_M_signed_JZI_0 rfl (lv_at hl 1 rfl) ?_
  refine lv_if_eq (tgt := 17) hx hb d_M_signed_JZI_1 (by decide) (fun c1 => ?_) (fun c1 => ?_)
  · refine lv_lload_n hx hb d_M_signed_JZI_17 rfl (lv_at hl 0 rfl) ?_
    exact pu_lret hx hb hr hlocks d_M_signed_JZI_18 (by exact Eq.symm (if_pos c1))
  · refine lv_lload_n hx hb d_M_signed_JZI_4 rfl (lv_at hl 0 rfl) ?_
    refine lv_lconst (v := (1 : Int64)) hx hb d_M_signed_JZI_5 (by decide) ?_
    refine lv_iload_n hx hb d_M_signed_JZI_6 rfl (lv_at hl 2 rfl) ?_
    refine pu_i (As := [.int x3]) (rest := [.long (1 : Int64), .long x0]) ⟨hx, hb, hml, hown, hts⟩ (c_M_wide_I l _ x3) pu_pre (gw_call (k := 1) hts tw_504 tw_505 tw_4 tw_506 (by decide +kernel) rfl rfl ⟨Nat.le_of_ble_eq_true rfl, Nat.le_of_ble_eq_true rfl⟩) rfl hl.1 rfl (Nat.le_of_ble_eq_true rfl) ⟨Nat.zero_le _, Nat.zero_le _⟩ d_M_signed_JZI_7 ?_
    refine lv_iconst (v := 1) hx hb d_M_signed_JZI_10 (by decide) ?_
    refine lv_isub hx hb d_M_signed_JZI_11 ?_
    refine lv_lshl (v := j_shl (1 : Int64) ((f_M_wide_I x3) - (1 : Int32))) hx hb d_M_signed_JZI_12 rfl ?_
    refine lv_lor hx hb d_M_signed_JZI_13 ?_
    refine lv_goto (tgt := 18) hx hb d_M_signed_JZI_14 (by decide) ?_
    exact pu_lret hx hb hr hlocks d_M_signed_JZI_18 (by exact Eq.symm (if_neg c1))
-- ===== MotionLabModel.whole(JI)J
abbrev y_M_whole_JI : MethodName := ⟨"MotionLabModel", "whole", "(JI)J"⟩
abbrev b_M_whole_JI : ByteArray := prog_6_method_11_code
theorem d_M_whole_JI_0 : decode b_M_whole_JI 0 = .ok (.getstatic 23, 3) := by decide +kernel
theorem d_M_whole_JI_3 : decode b_M_whole_JI 3 = .ok (.iload_n 2, 1) := by decide +kernel
theorem d_M_whole_JI_4 : decode b_M_whole_JI 4 = .ok (.iaload, 1) := by decide +kernel
theorem d_M_whole_JI_5 : decode b_M_whole_JI 5 = .ok (.iconst 1, 1) := by decide +kernel
theorem d_M_whole_JI_6 : decode b_M_whole_JI 6 = .ok (.isub, 1) := by decide +kernel
theorem d_M_whole_JI_7 : decode b_M_whole_JI 7 = .ok (.istore_n 3, 1) := by decide +kernel
theorem d_M_whole_JI_8 : decode b_M_whole_JI 8 = .ok (.lload_n 0, 1) := by decide +kernel
theorem d_M_whole_JI_9 : decode b_M_whole_JI 9 = .ok (.iload_n 2, 1) := by decide +kernel
theorem d_M_whole_JI_10 : decode b_M_whole_JI 10 = .ok (.invokestatic 15, 3) := by decide +kernel
theorem d_M_whole_JI_13 : decode b_M_whole_JI 13 = .ok (.lstore 4, 2) := by decide +kernel
theorem d_M_whole_JI_15 : decode b_M_whole_JI 15 = .ok (.lload 4, 2) := by decide +kernel
theorem d_M_whole_JI_17 : decode b_M_whole_JI 17 = .ok (.lconst 1, 1) := by decide +kernel
theorem d_M_whole_JI_18 : decode b_M_whole_JI 18 = .ok (.iload_n 3, 1) := by decide +kernel
theorem d_M_whole_JI_19 : decode b_M_whole_JI 19 = .ok (.lshl, 1) := by decide +kernel
theorem d_M_whole_JI_20 : decode b_M_whole_JI 20 = .ok (.lconst 1, 1) := by decide +kernel
theorem d_M_whole_JI_21 : decode b_M_whole_JI 21 = .ok (.lsub, 1) := by decide +kernel
theorem d_M_whole_JI_22 : decode b_M_whole_JI 22 = .ok (.land, 1) := by decide +kernel
theorem d_M_whole_JI_23 : decode b_M_whole_JI 23 = .ok (.lstore 6, 2) := by decide +kernel
theorem d_M_whole_JI_25 : decode b_M_whole_JI 25 = .ok (.lload 4, 2) := by decide +kernel
theorem d_M_whole_JI_27 : decode b_M_whole_JI 27 = .ok (.iload_n 3, 1) := by decide +kernel
theorem d_M_whole_JI_28 : decode b_M_whole_JI 28 = .ok (.lushr, 1) := by decide +kernel
theorem d_M_whole_JI_29 : decode b_M_whole_JI 29 = .ok (.lconst 0, 1) := by decide +kernel
theorem d_M_whole_JI_30 : decode b_M_whole_JI 30 = .ok (.lcmp, 1) := by decide +kernel
theorem d_M_whole_JI_31 : decode b_M_whole_JI 31 = .ok (.ifCond .ne 8, 3) := by decide +kernel
theorem d_M_whole_JI_34 : decode b_M_whole_JI 34 = .ok (.lload 6, 2) := by decide +kernel
theorem d_M_whole_JI_36 : decode b_M_whole_JI 36 = .ok (.goto 9, 3) := by decide +kernel
theorem d_M_whole_JI_39 : decode b_M_whole_JI 39 = .ok (.lload 6, 2) := by decide +kernel
theorem d_M_whole_JI_41 : decode b_M_whole_JI 41 = .ok (.lconst 1, 1) := by decide +kernel
theorem d_M_whole_JI_42 : decode b_M_whole_JI 42 = .ok (.iload_n 3, 1) := by decide +kernel
theorem d_M_whole_JI_43 : decode b_M_whole_JI 43 = .ok (.lshl, 1) := by decide +kernel
theorem d_M_whole_JI_44 : decode b_M_whole_JI 44 = .ok (.lor, 1) := by decide +kernel
theorem d_M_whole_JI_45 : decode b_M_whole_JI 45 = .ok (.lreturn, 1) := by decide +kernel
def f_M_whole_JI (x0 : Int64) (x2 : Int32) : Int64 :=
  let v1 : Int32 := (tP_at x2) - (1 : Int32)
  let v2 : Int64 := f_M_size_JI x0 x2
  let v3 : Int64 := v2 &&& ((j_shl (1 : Int64) v1) - (1 : Int64))
  if (lg_cmp (j_ushr v2 v1) (0 : Int64)) = 0 then
    v3
  else
    v3 ||| (j_shl (1 : Int64) v1)
set_option maxHeartbeats 4000000 in
set_option maxRecDepth 100000 in
theorem c_M_whole_JI (l : Launch) (h : Heap) (t0 t1 t2 : Nat) (x0 : Int64) (x2 : Int32) (hk_x2 : vp_in x2 2) : Met l y_M_whole_JI (gw y_M_whole_JI b_M_whole_JI 8 (some .long)) { frames := 2, cells := 0, slots := 0, locals := 42 } (pr_Pc [.long x0, .int x2] h t0 t1 t2) (pu_Ml (f_M_whole_JI x0 x2) h) 0 0 (fun _ => False) := by
  refine Met.ofW (cc := b_M_whole_JI) (maxL := 8) (ret := (some .long)) (by decide) rfl ?_
  intro p e s m args below meth c s₁ B hml hv
  obtain ⟨rfl, hh, hRT⟩ := hv
  subst hh
  obtain ⟨hT0, hT1, hT2⟩ := id hRT
  have hx := B.exec
  have hb := B.bytes
  have hr := B.returns
  have hts := atoms_spec (ws := (gw y_M_whole_JI b_M_whole_JI 8 (some .long))) B.pre
  have hown : s.vm.findClass "MotionLabModel" = some m.cls := findClass_of_methodNamed B.named
  have hlocks := B.notSynchronized
  have C0 : pu_C p s m _ meth c b_M_whole_JI 8 "MotionLabModel" (some .long) (gw y_M_whole_JI b_M_whole_JI 8 (some .long)) := ⟨hx, hb, hml, hown, hts, hr, hlocks⟩
  have hl := lv_entry ([.long x0, .int x2]) (n := 8) (Nat.le_of_ble_eq_true rfl)
  rw [lg_entry_eq]
  generalize (lg_sl ([.long x0, .int x2]) ++ List.replicate (8 - (lg_sl ([.long x0, .int x2])).length) Slot.unset).toArray = ls at hl ⊢
  have hl : lv_has ls 8 [(0, .long x0), (2, .int x2)] := hl
  refine va_gets hx hb hT0.1 va_S.rf hown (hts _ (gm tw_528)) (fun _ h9 => h9) d_M_whole_JI_0 ?_
  refine lv_iload_n hx hb d_M_whole_JI_3 rfl (lv_at hl 1 rfl) ?_
  refine va_ti hx hb hT0.2 va_S.rf hk_x2 (v := .int (tP_at x2)) rfl d_M_whole_JI_4 ?_
  refine lv_iconst (v := 1) hx hb d_M_whole_JI_5 (by decide) ?_
  refine lv_isub hx hb d_M_whole_JI_6 ?_
  refine lv_topi (fun v1 e1 => ?_)
  refine lv_istore_n (lv' := [(3, .int v1), (0, .long x0), (2, .int x2)]) hx hb d_M_whole_JI_7 rfl hl (by decide) rfl (fun ls hl => ?_)
  refine lv_lload_n hx hb d_M_whole_JI_8 rfl (lv_at hl 1 rfl) ?_
  refine lv_iload_n hx hb d_M_whole_JI_9 rfl (lv_at hl 2 rfl) ?_
  refine pu_l (As := [.long x0, .int x2]) (rest := []) ⟨hx, hb, hml, hown, hts⟩ (c_M_size_JI l _ x0 x2) pu_pre (gw_call (k := 2) hts tw_501 tw_502 tw_4 tw_503 (by decide +kernel) rfl rfl ⟨Nat.le_of_ble_eq_true rfl, Nat.le_of_ble_eq_true rfl⟩) rfl hl.1 rfl (Nat.le_of_ble_eq_true rfl) ⟨Nat.zero_le _, Nat.zero_le _⟩ d_M_whole_JI_10 ?_
  refine lv_topl (fun v2 e2 => ?_)
  refine lv_lstore (lv' := [(4, .long v2), (3, .int v1), (0, .long x0), (2, .int x2)]) hx hb d_M_whole_JI_13 hl (by decide) rfl (fun ls hl => ?_)
  refine lv_lload hx hb d_M_whole_JI_15 (lv_at hl 0 rfl) ?_
  refine lv_lconst (v := (1 : Int64)) hx hb d_M_whole_JI_17 (by decide) ?_
  refine lv_iload_n hx hb d_M_whole_JI_18 rfl (lv_at hl 1 rfl) ?_
  refine lv_lshl (v := j_shl (1 : Int64) v1) hx hb d_M_whole_JI_19 rfl ?_
  refine lv_lconst (v := (1 : Int64)) hx hb d_M_whole_JI_20 (by decide) ?_
  refine lv_lsub hx hb d_M_whole_JI_21 ?_
  refine lv_land hx hb d_M_whole_JI_22 ?_
  refine lv_topl (fun v3 e3 => ?_)
  refine lv_lstore (lv' := [(6, .long v3), (4, .long v2), (3, .int v1), (0, .long x0), (2, .int x2)]) hx hb d_M_whole_JI_23 hl (by decide) rfl (fun ls hl => ?_)
  refine lv_lload hx hb d_M_whole_JI_25 (lv_at hl 1 rfl) ?_
  refine lv_iload_n hx hb d_M_whole_JI_27 rfl (lv_at hl 2 rfl) ?_
  refine lv_lushr (v := j_ushr v2 v1) hx hb d_M_whole_JI_28 rfl ?_
  refine lv_lconst (v := (0 : Int64)) hx hb d_M_whole_JI_29 (by decide) ?_
  refine W.lcmp hx hb d_M_whole_JI_30 ?_
  refine lv_if_ne (tgt := 39) hx hb d_M_whole_JI_31 (by decide) (fun c4 => ?_) (fun c4 => ?_)
  · refine lv_lload hx hb d_M_whole_JI_39 (lv_at hl 0 rfl) ?_
    refine lv_lconst (v := (1 : Int64)) hx hb d_M_whole_JI_41 (by decide) ?_
    refine lv_iload_n hx hb d_M_whole_JI_42 rfl (lv_at hl 2 rfl) ?_
    refine lv_lshl (v := j_shl (1 : Int64) v1) hx hb d_M_whole_JI_43 rfl ?_
    refine lv_lor hx hb d_M_whole_JI_44 ?_
    exact pu_lret hx hb hr hlocks d_M_whole_JI_45 (by have qe1 := e1.symm; have qe2 := e2.symm; have qe3 := e3.symm; subst qe1 qe2 qe3; exact Eq.symm (if_neg c4))
  · refine lv_lload hx hb d_M_whole_JI_34 (lv_at hl 0 rfl) ?_
    refine lv_goto (tgt := 45) hx hb d_M_whole_JI_36 (by decide) ?_
    exact pu_lret hx hb hr hlocks d_M_whole_JI_45 (by have qe1 := e1.symm; have qe2 := e2.symm; have qe3 := e3.symm; subst qe1 qe2 qe3; exact Eq.symm (if_pos c4))
end
section
-- ===== MotionLabModel.power(JI)I
abbrev y_M_power_JI : MethodName := ⟨"MotionLabModel", "power", "(JI)I"⟩
abbrev b_M_power_JI : ByteArray := prog_6_method_12_code
theorem d_M_power_JI_0 : decode b_M_power_JI 0 = .ok (.lload_n 0, 1) := by decide +kernel
theorem d_M_power_JI_1 : decode b_M_power_JI 1 = .ok (.iload_n 2, 1) := by decide +kernel
theorem d_M_power_JI_2 : decode b_M_power_JI 2 = .ok (.invokestatic 15, 3) := by decide +kernel
theorem d_M_power_JI_5 : decode b_M_power_JI 5 = .ok (.getstatic 23, 3) := by decide +kernel
theorem d_M_power_JI_8 : decode b_M_power_JI 8 = .ok (.iload_n 2, 1) := by decide +kernel
theorem d_M_power_JI_9 : decode b_M_power_JI 9 = .ok (.iaload, 1) := by decide +kernel
theorem d_M_power_JI_10 : decode b_M_power_JI 10 = .ok (.iconst 1, 1) := by decide +kernel
theorem d_M_power_JI_11 : decode b_M_power_JI 11 = .ok (.isub, 1) := by decide +kernel
theorem d_M_power_JI_12 : decode b_M_power_JI 12 = .ok (.lushr, 1) := by decide +kernel
theorem d_M_power_JI_13 : decode b_M_power_JI 13 = .ok (.lstore_n 3, 1) := by decide +kernel
theorem d_M_power_JI_14 : decode b_M_power_JI 14 = .ok (.getstatic 27, 3) := by decide +kernel
theorem d_M_power_JI_17 : decode b_M_power_JI 17 = .ok (.iload_n 2, 1) := by decide +kernel
theorem d_M_power_JI_18 : decode b_M_power_JI 18 = .ok (.iaload, 1) := by decide +kernel
theorem d_M_power_JI_19 : decode b_M_power_JI 19 = .ok (.lload_n 3, 1) := by decide +kernel
theorem d_M_power_JI_20 : decode b_M_power_JI 20 = .ok (.lconst 1, 1) := by decide +kernel
theorem d_M_power_JI_21 : decode b_M_power_JI 21 = .ok (.invokestatic 30, 3) := by decide +kernel
theorem d_M_power_JI_24 : decode b_M_power_JI 24 = .ok (.l2i, 1) := by decide +kernel
theorem d_M_power_JI_25 : decode b_M_power_JI 25 = .ok (.iadd, 1) := by decide +kernel
theorem d_M_power_JI_26 : decode b_M_power_JI 26 = .ok (.iconst 1, 1) := by decide +kernel
theorem d_M_power_JI_27 : decode b_M_power_JI 27 = .ok (.isub, 1) := by decide +kernel
theorem d_M_power_JI_28 : decode b_M_power_JI 28 = .ok (.ireturn, 1) := by decide +kernel
def f_M_power_JI (x0 : Int64) (x2 : Int32) : Int32 :=
  let v1 : Int64 := j_ushr (f_M_size_JI x0 x2) ((tP_at x2) - (1 : Int32))
  ((tL_at x2) + ((f_jM_max_JJ v1 (1 : Int64)).toInt32)) - (1 : Int32)
set_option maxHeartbeats 4000000 in
set_option maxRecDepth 100000 in
theorem c_M_power_JI (l : Launch) (h : Heap) (t0 t1 t2 : Nat) (x0 : Int64) (x2 : Int32) (hk_x2 : vp_in x2 2) : Met l y_M_power_JI (gw y_M_power_JI b_M_power_JI 5 (some .int)) { frames := 2, cells := 0, slots := 0, locals := 42 } (pr_Pc [.long x0, .int x2] h t0 t1 t2) (pu_Mi (f_M_power_JI x0 x2) h) 0 0 (fun _ => False) := by
  refine Met.ofW (cc := b_M_power_JI) (maxL := 5) (ret := (some .int)) (by decide) rfl ?_
  intro p e s m args below meth c s₁ B hml hv
  obtain ⟨rfl, hh, hRT⟩ := hv
  subst hh
  obtain ⟨hT0, hT1, hT2⟩ := id hRT
  have hx := B.exec
  have hb := B.bytes
  have hr := B.returns
  have hts := atoms_spec (ws := (gw y_M_power_JI b_M_power_JI 5 (some .int))) B.pre
  have hown : s.vm.findClass "MotionLabModel" = some m.cls := findClass_of_methodNamed B.named
  have hlocks := B.notSynchronized
  have C0 : pu_C p s m _ meth c b_M_power_JI 5 "MotionLabModel" (some .int) (gw y_M_power_JI b_M_power_JI 5 (some .int)) := ⟨hx, hb, hml, hown, hts, hr, hlocks⟩
  have hl := lv_entry ([.long x0, .int x2]) (n := 5) (Nat.le_of_ble_eq_true rfl)
  rw [lg_entry_eq]
  generalize (lg_sl ([.long x0, .int x2]) ++ List.replicate (5 - (lg_sl ([.long x0, .int x2])).length) Slot.unset).toArray = ls at hl ⊢
  have hl : lv_has ls 5 [(0, .long x0), (2, .int x2)] := hl
  refine lv_lload_n hx hb d_M_power_JI_0 rfl (lv_at hl 0 rfl) ?_
  refine lv_iload_n hx hb d_M_power_JI_1 rfl (lv_at hl 1 rfl) ?_
  refine pu_l (As := [.long x0, .int x2]) (rest := []) ⟨hx, hb, hml, hown, hts⟩ (c_M_size_JI l _ x0 x2) pu_pre (gw_call (k := 2) hts tw_501 tw_502 tw_4 tw_503 (by decide +kernel) rfl rfl ⟨Nat.le_of_ble_eq_true rfl, Nat.le_of_ble_eq_true rfl⟩) rfl hl.1 rfl (Nat.le_of_ble_eq_true rfl) ⟨Nat.zero_le _, Nat.zero_le _⟩ d_M_power_JI_2 ?_
  refine va_gets hx hb hT0.1 va_S.rf hown (hts _ (gm tw_528)) (fun _ h9 => h9) d_M_power_JI_5 ?_
  refine lv_iload_n hx hb d_M_power_JI_8 rfl (lv_at hl 1 rfl) ?_
  refine va_ti hx hb hT0.2 va_S.rf hk_x2 (v := .int (tP_at x2)) rfl d_M_power_JI_9 ?_
  refine lv_iconst (v := 1) hx hb d_M_power_JI_10 (by decide) ?_
  refine lv_isub hx hb d_M_power_JI_11 ?_
  refine lv_lushr (v := j_ushr (f_M_size_JI x0 x2) ((tP_at x2) - (1 : Int32))) hx hb d_M_power_JI_12 rfl ?_
  refine lv_topl (fun v1 e1 => ?_)
  refine lv_lstore_n (lv' := [(3, .long v1), (0, .long x0), (2, .int x2)]) hx hb d_M_power_JI_13 rfl hl (by decide) rfl (fun ls hl => ?_)
  refine va_gets hx hb hT1.1 va_S.rf hown (hts _ (gm tw_533)) (fun _ h9 => h9) d_M_power_JI_14 ?_
  refine lv_iload_n hx hb d_M_power_JI_17 rfl (lv_at hl 2 rfl) ?_
  refine va_ti hx hb hT1.2 va_S.rf hk_x2 (v := .int (tL_at x2)) rfl d_M_power_JI_18 ?_
  refine lv_lload_n hx hb d_M_power_JI_19 rfl (lv_at hl 0 rfl) ?_
  refine lv_lconst (v := (1 : Int64)) hx hb d_M_power_JI_20 (by decide) ?_
  refine pu_l (As := [.long v1, .long (1 : Int64)]) (rest := [.int (tL_at x2)]) ⟨hx, hb, hml, hown, hts⟩ (c_jM_max_JJ l _ v1 (1 : Int64)) pu_pre (gw_call (k := 2) hts tw_535 tw_355 tw_6 tw_356 (by decide +kernel) rfl rfl ⟨Nat.le_of_ble_eq_true rfl, Nat.le_of_ble_eq_true rfl⟩) rfl hl.1 rfl (Nat.le_of_ble_eq_true rfl) ⟨Nat.zero_le _, Nat.zero_le _⟩ d_M_power_JI_21 ?_
  refine lv_l2i hx hb d_M_power_JI_24 rfl ?_
  refine lv_iadd hx hb d_M_power_JI_25 ?_
  refine lv_iconst (v := 1) hx hb d_M_power_JI_26 (by decide) ?_
  refine lv_isub hx hb d_M_power_JI_27 ?_
  exact pu_iret hx hb hr hlocks d_M_power_JI_28 (by have qe1 := e1.symm; subst qe1; exact Eq.symm rfl)
-- ===== MotionLabModel.rounded(ZJIZI)J
abbrev y_M_rounded_ZJIZI : MethodName := ⟨"MotionLabModel", "rounded", "(ZJIZI)J"⟩
abbrev b_M_rounded_ZJIZI : ByteArray := prog_6_method_13_code
theorem d_M_rounded_ZJIZI_0 : decode b_M_rounded_ZJIZI 0 = .ok (.lload_n 1, 1) := by decide +kernel
theorem d_M_rounded_ZJIZI_1 : decode b_M_rounded_ZJIZI 1 = .ok (.lconst 0, 1) := by decide +kernel
theorem d_M_rounded_ZJIZI_2 : decode b_M_rounded_ZJIZI 2 = .ok (.lcmp, 1) := by decide +kernel
theorem d_M_rounded_ZJIZI_3 : decode b_M_rounded_ZJIZI 3 = .ok (.ifCond .ne 11, 3) := by decide +kernel
theorem d_M_rounded_ZJIZI_6 : decode b_M_rounded_ZJIZI 6 = .ok (.lconst 0, 1) := by decide +kernel
theorem d_M_rounded_ZJIZI_7 : decode b_M_rounded_ZJIZI 7 = .ok (.iload_n 0, 1) := by decide +kernel
theorem d_M_rounded_ZJIZI_8 : decode b_M_rounded_ZJIZI 8 = .ok (.iload 5, 2) := by decide +kernel
theorem d_M_rounded_ZJIZI_10 : decode b_M_rounded_ZJIZI 10 = .ok (.invokestatic 36, 3) := by decide +kernel
theorem d_M_rounded_ZJIZI_13 : decode b_M_rounded_ZJIZI 13 = .ok (.lreturn, 1) := by decide +kernel
theorem d_M_rounded_ZJIZI_14 : decode b_M_rounded_ZJIZI 14 = .ok (.getstatic 23, 3) := by decide +kernel
theorem d_M_rounded_ZJIZI_17 : decode b_M_rounded_ZJIZI 17 = .ok (.iload 5, 2) := by decide +kernel
theorem d_M_rounded_ZJIZI_19 : decode b_M_rounded_ZJIZI 19 = .ok (.iaload, 1) := by decide +kernel
theorem d_M_rounded_ZJIZI_20 : decode b_M_rounded_ZJIZI 20 = .ok (.istore 6, 2) := by decide +kernel
theorem d_M_rounded_ZJIZI_22 : decode b_M_rounded_ZJIZI 22 = .ok (.bipush 64, 2) := by decide +kernel
theorem d_M_rounded_ZJIZI_24 : decode b_M_rounded_ZJIZI 24 = .ok (.lload_n 1, 1) := by decide +kernel
theorem d_M_rounded_ZJIZI_25 : decode b_M_rounded_ZJIZI 25 = .ok (.invokestatic 40, 3) := by decide +kernel
theorem d_M_rounded_ZJIZI_28 : decode b_M_rounded_ZJIZI 28 = .ok (.isub, 1) := by decide +kernel
theorem d_M_rounded_ZJIZI_29 : decode b_M_rounded_ZJIZI 29 = .ok (.istore 7, 2) := by decide +kernel
theorem d_M_rounded_ZJIZI_31 : decode b_M_rounded_ZJIZI 31 = .ok (.iload 7, 2) := by decide +kernel
theorem d_M_rounded_ZJIZI_33 : decode b_M_rounded_ZJIZI 33 = .ok (.iload 6, 2) := by decide +kernel
theorem d_M_rounded_ZJIZI_35 : decode b_M_rounded_ZJIZI 35 = .ok (.isub, 1) := by decide +kernel
theorem d_M_rounded_ZJIZI_36 : decode b_M_rounded_ZJIZI 36 = .ok (.getstatic 27, 3) := by decide +kernel
theorem d_M_rounded_ZJIZI_39 : decode b_M_rounded_ZJIZI 39 = .ok (.iload 5, 2) := by decide +kernel
theorem d_M_rounded_ZJIZI_41 : decode b_M_rounded_ZJIZI 41 = .ok (.iaload, 1) := by decide +kernel
theorem d_M_rounded_ZJIZI_42 : decode b_M_rounded_ZJIZI 42 = .ok (.iload_n 3, 1) := by decide +kernel
theorem d_M_rounded_ZJIZI_43 : decode b_M_rounded_ZJIZI 43 = .ok (.isub, 1) := by decide +kernel
theorem d_M_rounded_ZJIZI_44 : decode b_M_rounded_ZJIZI 44 = .ok (.invokestatic 46, 3) := by decide +kernel
theorem d_M_rounded_ZJIZI_47 : decode b_M_rounded_ZJIZI 47 = .ok (.istore 8, 2) := by decide +kernel
theorem d_M_rounded_ZJIZI_49 : decode b_M_rounded_ZJIZI 49 = .ok (.iload 8, 2) := by decide +kernel
theorem d_M_rounded_ZJIZI_51 : decode b_M_rounded_ZJIZI 51 = .ok (.ifCond .gt 13, 3) := by decide +kernel
theorem d_M_rounded_ZJIZI_54 : decode b_M_rounded_ZJIZI 54 = .ok (.lload_n 1, 1) := by decide +kernel
theorem d_M_rounded_ZJIZI_55 : decode b_M_rounded_ZJIZI 55 = .ok (.iload 8, 2) := by decide +kernel
theorem d_M_rounded_ZJIZI_57 : decode b_M_rounded_ZJIZI 57 = .ok (.ineg, 1) := by decide +kernel
theorem d_M_rounded_ZJIZI_58 : decode b_M_rounded_ZJIZI 58 = .ok (.lshl, 1) := by decide +kernel
theorem d_M_rounded_ZJIZI_59 : decode b_M_rounded_ZJIZI 59 = .ok (.lstore 9, 2) := by decide +kernel
theorem d_M_rounded_ZJIZI_61 : decode b_M_rounded_ZJIZI 61 = .ok (.goto 76, 3) := by decide +kernel
theorem d_M_rounded_ZJIZI_64 : decode b_M_rounded_ZJIZI 64 = .ok (.iload 8, 2) := by decide +kernel
theorem d_M_rounded_ZJIZI_66 : decode b_M_rounded_ZJIZI 66 = .ok (.bipush 63, 2) := by decide +kernel
theorem d_M_rounded_ZJIZI_68 : decode b_M_rounded_ZJIZI 68 = .ok (.if_icmp .le 9, 3) := by decide +kernel
theorem d_M_rounded_ZJIZI_71 : decode b_M_rounded_ZJIZI 71 = .ok (.lconst 0, 1) := by decide +kernel
theorem d_M_rounded_ZJIZI_72 : decode b_M_rounded_ZJIZI 72 = .ok (.lstore 9, 2) := by decide +kernel
theorem d_M_rounded_ZJIZI_74 : decode b_M_rounded_ZJIZI 74 = .ok (.goto 63, 3) := by decide +kernel
theorem d_M_rounded_ZJIZI_77 : decode b_M_rounded_ZJIZI 77 = .ok (.lload_n 1, 1) := by decide +kernel
theorem d_M_rounded_ZJIZI_78 : decode b_M_rounded_ZJIZI 78 = .ok (.iload 8, 2) := by decide +kernel
theorem d_M_rounded_ZJIZI_80 : decode b_M_rounded_ZJIZI 80 = .ok (.lshr, 1) := by decide +kernel
theorem d_M_rounded_ZJIZI_81 : decode b_M_rounded_ZJIZI 81 = .ok (.lstore 9, 2) := by decide +kernel
theorem d_M_rounded_ZJIZI_83 : decode b_M_rounded_ZJIZI 83 = .ok (.lload_n 1, 1) := by decide +kernel
theorem d_M_rounded_ZJIZI_84 : decode b_M_rounded_ZJIZI 84 = .ok (.lconst 1, 1) := by decide +kernel
theorem d_M_rounded_ZJIZI_85 : decode b_M_rounded_ZJIZI 85 = .ok (.iload 8, 2) := by decide +kernel
theorem d_M_rounded_ZJIZI_87 : decode b_M_rounded_ZJIZI 87 = .ok (.lshl, 1) := by decide +kernel
theorem d_M_rounded_ZJIZI_88 : decode b_M_rounded_ZJIZI 88 = .ok (.lconst 1, 1) := by decide +kernel
theorem d_M_rounded_ZJIZI_89 : decode b_M_rounded_ZJIZI 89 = .ok (.lsub, 1) := by decide +kernel
theorem d_M_rounded_ZJIZI_90 : decode b_M_rounded_ZJIZI 90 = .ok (.land, 1) := by decide +kernel
theorem d_M_rounded_ZJIZI_91 : decode b_M_rounded_ZJIZI 91 = .ok (.lstore 11, 2) := by decide +kernel
theorem d_M_rounded_ZJIZI_93 : decode b_M_rounded_ZJIZI 93 = .ok (.lconst 1, 1) := by decide +kernel
theorem d_M_rounded_ZJIZI_94 : decode b_M_rounded_ZJIZI 94 = .ok (.iload 8, 2) := by decide +kernel
theorem d_M_rounded_ZJIZI_96 : decode b_M_rounded_ZJIZI 96 = .ok (.iconst 1, 1) := by decide +kernel
theorem d_M_rounded_ZJIZI_97 : decode b_M_rounded_ZJIZI 97 = .ok (.isub, 1) := by decide +kernel
theorem d_M_rounded_ZJIZI_98 : decode b_M_rounded_ZJIZI 98 = .ok (.lshl, 1) := by decide +kernel
theorem d_M_rounded_ZJIZI_99 : decode b_M_rounded_ZJIZI 99 = .ok (.lstore 13, 2) := by decide +kernel
theorem d_M_rounded_ZJIZI_101 : decode b_M_rounded_ZJIZI 101 = .ok (.lload 11, 2) := by decide +kernel
theorem d_M_rounded_ZJIZI_103 : decode b_M_rounded_ZJIZI 103 = .ok (.lload 13, 2) := by decide +kernel
theorem d_M_rounded_ZJIZI_105 : decode b_M_rounded_ZJIZI 105 = .ok (.lcmp, 1) := by decide +kernel
theorem d_M_rounded_ZJIZI_106 : decode b_M_rounded_ZJIZI 106 = .ok (.ifCond .gt 25, 3) := by decide +kernel
theorem d_M_rounded_ZJIZI_109 : decode b_M_rounded_ZJIZI 109 = .ok (.lload 11, 2) := by decide +kernel
theorem d_M_rounded_ZJIZI_111 : decode b_M_rounded_ZJIZI 111 = .ok (.lload 13, 2) := by decide +kernel
theorem d_M_rounded_ZJIZI_113 : decode b_M_rounded_ZJIZI 113 = .ok (.lcmp, 1) := by decide +kernel
theorem d_M_rounded_ZJIZI_114 : decode b_M_rounded_ZJIZI 114 = .ok (.ifCond .ne 23, 3) := by decide +kernel
theorem d_M_rounded_ZJIZI_117 : decode b_M_rounded_ZJIZI 117 = .ok (.iload 4, 2) := by decide +kernel
theorem d_M_rounded_ZJIZI_119 : decode b_M_rounded_ZJIZI 119 = .ok (.ifCond .ne 12, 3) := by decide +kernel
theorem d_M_rounded_ZJIZI_122 : decode b_M_rounded_ZJIZI 122 = .ok (.lload 9, 2) := by decide +kernel
theorem d_M_rounded_ZJIZI_124 : decode b_M_rounded_ZJIZI 124 = .ok (.lconst 1, 1) := by decide +kernel
theorem d_M_rounded_ZJIZI_125 : decode b_M_rounded_ZJIZI 125 = .ok (.land, 1) := by decide +kernel
theorem d_M_rounded_ZJIZI_126 : decode b_M_rounded_ZJIZI 126 = .ok (.lconst 1, 1) := by decide +kernel
theorem d_M_rounded_ZJIZI_127 : decode b_M_rounded_ZJIZI 127 = .ok (.lcmp, 1) := by decide +kernel
theorem d_M_rounded_ZJIZI_128 : decode b_M_rounded_ZJIZI 128 = .ok (.ifCond .ne 9, 3) := by decide +kernel
theorem d_M_rounded_ZJIZI_131 : decode b_M_rounded_ZJIZI 131 = .ok (.lload 9, 2) := by decide +kernel
theorem d_M_rounded_ZJIZI_133 : decode b_M_rounded_ZJIZI 133 = .ok (.lconst 1, 1) := by decide +kernel
theorem d_M_rounded_ZJIZI_134 : decode b_M_rounded_ZJIZI 134 = .ok (.ladd, 1) := by decide +kernel
theorem d_M_rounded_ZJIZI_135 : decode b_M_rounded_ZJIZI 135 = .ok (.lstore 9, 2) := by decide +kernel
theorem d_M_rounded_ZJIZI_137 : decode b_M_rounded_ZJIZI 137 = .ok (.iload_n 3, 1) := by decide +kernel
theorem d_M_rounded_ZJIZI_138 : decode b_M_rounded_ZJIZI 138 = .ok (.iload 8, 2) := by decide +kernel
theorem d_M_rounded_ZJIZI_140 : decode b_M_rounded_ZJIZI 140 = .ok (.iadd, 1) := by decide +kernel
theorem d_M_rounded_ZJIZI_141 : decode b_M_rounded_ZJIZI 141 = .ok (.istore 11, 2) := by decide +kernel
theorem d_M_rounded_ZJIZI_143 : decode b_M_rounded_ZJIZI 143 = .ok (.lload 9, 2) := by decide +kernel
theorem d_M_rounded_ZJIZI_145 : decode b_M_rounded_ZJIZI 145 = .ok (.iload 6, 2) := by decide +kernel
theorem d_M_rounded_ZJIZI_147 : decode b_M_rounded_ZJIZI 147 = .ok (.lshr, 1) := by decide +kernel
theorem d_M_rounded_ZJIZI_148 : decode b_M_rounded_ZJIZI 148 = .ok (.lconst 0, 1) := by decide +kernel
theorem d_M_rounded_ZJIZI_149 : decode b_M_rounded_ZJIZI 149 = .ok (.lcmp, 1) := by decide +kernel
theorem d_M_rounded_ZJIZI_150 : decode b_M_rounded_ZJIZI 150 = .ok (.ifCond .eq 12, 3) := by decide +kernel
theorem d_M_rounded_ZJIZI_153 : decode b_M_rounded_ZJIZI 153 = .ok (.lload 9, 2) := by decide +kernel
theorem d_M_rounded_ZJIZI_155 : decode b_M_rounded_ZJIZI 155 = .ok (.iconst 1, 1) := by decide +kernel
theorem d_M_rounded_ZJIZI_156 : decode b_M_rounded_ZJIZI 156 = .ok (.lshr, 1) := by decide +kernel
theorem d_M_rounded_ZJIZI_157 : decode b_M_rounded_ZJIZI 157 = .ok (.lstore 9, 2) := by decide +kernel
theorem d_M_rounded_ZJIZI_159 : decode b_M_rounded_ZJIZI 159 = .ok (.iinc 11 1, 3) := by decide +kernel
theorem d_M_rounded_ZJIZI_162 : decode b_M_rounded_ZJIZI 162 = .ok (.iload 11, 2) := by decide +kernel
theorem d_M_rounded_ZJIZI_164 : decode b_M_rounded_ZJIZI 164 = .ok (.getstatic 49, 3) := by decide +kernel
theorem d_M_rounded_ZJIZI_167 : decode b_M_rounded_ZJIZI 167 = .ok (.iload 5, 2) := by decide +kernel
theorem d_M_rounded_ZJIZI_169 : decode b_M_rounded_ZJIZI 169 = .ok (.iaload, 1) := by decide +kernel
theorem d_M_rounded_ZJIZI_170 : decode b_M_rounded_ZJIZI 170 = .ok (.if_icmp .le 15, 3) := by decide +kernel
theorem d_M_rounded_ZJIZI_173 : decode b_M_rounded_ZJIZI 173 = .ok (.iload 5, 2) := by decide +kernel
theorem d_M_rounded_ZJIZI_175 : decode b_M_rounded_ZJIZI 175 = .ok (.invokestatic 19, 3) := by decide +kernel
theorem d_M_rounded_ZJIZI_178 : decode b_M_rounded_ZJIZI 178 = .ok (.iload_n 0, 1) := by decide +kernel
theorem d_M_rounded_ZJIZI_179 : decode b_M_rounded_ZJIZI 179 = .ok (.iload 5, 2) := by decide +kernel
theorem d_M_rounded_ZJIZI_181 : decode b_M_rounded_ZJIZI 181 = .ok (.invokestatic 36, 3) := by decide +kernel
theorem d_M_rounded_ZJIZI_184 : decode b_M_rounded_ZJIZI 184 = .ok (.lreturn, 1) := by decide +kernel
theorem d_M_rounded_ZJIZI_185 : decode b_M_rounded_ZJIZI 185 = .ok (.lload 9, 2) := by decide +kernel
theorem d_M_rounded_ZJIZI_187 : decode b_M_rounded_ZJIZI 187 = .ok (.iload 6, 2) := by decide +kernel
theorem d_M_rounded_ZJIZI_189 : decode b_M_rounded_ZJIZI 189 = .ok (.iconst 1, 1) := by decide +kernel
theorem d_M_rounded_ZJIZI_190 : decode b_M_rounded_ZJIZI 190 = .ok (.isub, 1) := by decide +kernel
theorem d_M_rounded_ZJIZI_191 : decode b_M_rounded_ZJIZI 191 = .ok (.lshr, 1) := by decide +kernel
theorem d_M_rounded_ZJIZI_192 : decode b_M_rounded_ZJIZI 192 = .ok (.lconst 0, 1) := by decide +kernel
theorem d_M_rounded_ZJIZI_193 : decode b_M_rounded_ZJIZI 193 = .ok (.lcmp, 1) := by decide +kernel
theorem d_M_rounded_ZJIZI_194 : decode b_M_rounded_ZJIZI 194 = .ok (.ifCond .ne 8, 3) := by decide +kernel
theorem d_M_rounded_ZJIZI_197 : decode b_M_rounded_ZJIZI 197 = .ok (.lload 9, 2) := by decide +kernel
theorem d_M_rounded_ZJIZI_199 : decode b_M_rounded_ZJIZI 199 = .ok (.goto 32, 3) := by decide +kernel
theorem d_M_rounded_ZJIZI_202 : decode b_M_rounded_ZJIZI 202 = .ok (.iload 11, 2) := by decide +kernel
theorem d_M_rounded_ZJIZI_204 : decode b_M_rounded_ZJIZI 204 = .ok (.getstatic 27, 3) := by decide +kernel
theorem d_M_rounded_ZJIZI_207 : decode b_M_rounded_ZJIZI 207 = .ok (.iload 5, 2) := by decide +kernel
theorem d_M_rounded_ZJIZI_209 : decode b_M_rounded_ZJIZI 209 = .ok (.iaload, 1) := by decide +kernel
theorem d_M_rounded_ZJIZI_210 : decode b_M_rounded_ZJIZI 210 = .ok (.isub, 1) := by decide +kernel
theorem d_M_rounded_ZJIZI_211 : decode b_M_rounded_ZJIZI 211 = .ok (.iconst 1, 1) := by decide +kernel
theorem d_M_rounded_ZJIZI_212 : decode b_M_rounded_ZJIZI 212 = .ok (.iadd, 1) := by decide +kernel
theorem d_M_rounded_ZJIZI_213 : decode b_M_rounded_ZJIZI 213 = .ok (.i2l, 1) := by decide +kernel
theorem d_M_rounded_ZJIZI_214 : decode b_M_rounded_ZJIZI 214 = .ok (.iload 6, 2) := by decide +kernel
theorem d_M_rounded_ZJIZI_216 : decode b_M_rounded_ZJIZI 216 = .ok (.iconst 1, 1) := by decide +kernel
theorem d_M_rounded_ZJIZI_217 : decode b_M_rounded_ZJIZI 217 = .ok (.isub, 1) := by decide +kernel
theorem d_M_rounded_ZJIZI_218 : decode b_M_rounded_ZJIZI 218 = .ok (.lshl, 1) := by decide +kernel
theorem d_M_rounded_ZJIZI_219 : decode b_M_rounded_ZJIZI 219 = .ok (.lload 9, 2) := by decide +kernel
theorem d_M_rounded_ZJIZI_221 : decode b_M_rounded_ZJIZI 221 = .ok (.lconst 1, 1) := by decide +kernel
theorem d_M_rounded_ZJIZI_222 : decode b_M_rounded_ZJIZI 222 = .ok (.iload 6, 2) := by decide +kernel
theorem d_M_rounded_ZJIZI_224 : decode b_M_rounded_ZJIZI 224 = .ok (.iconst 1, 1) := by decide +kernel
theorem d_M_rounded_ZJIZI_225 : decode b_M_rounded_ZJIZI 225 = .ok (.isub, 1) := by decide +kernel
theorem d_M_rounded_ZJIZI_226 : decode b_M_rounded_ZJIZI 226 = .ok (.lshl, 1) := by decide +kernel
theorem d_M_rounded_ZJIZI_227 : decode b_M_rounded_ZJIZI 227 = .ok (.lconst 1, 1) := by decide +kernel
theorem d_M_rounded_ZJIZI_228 : decode b_M_rounded_ZJIZI 228 = .ok (.lsub, 1) := by decide +kernel
theorem d_M_rounded_ZJIZI_229 : decode b_M_rounded_ZJIZI 229 = .ok (.land, 1) := by decide +kernel
theorem d_M_rounded_ZJIZI_230 : decode b_M_rounded_ZJIZI 230 = .ok (.lor, 1) := by decide +kernel
theorem d_M_rounded_ZJIZI_231 : decode b_M_rounded_ZJIZI 231 = .ok (.lstore 12, 2) := by decide +kernel
theorem d_M_rounded_ZJIZI_233 : decode b_M_rounded_ZJIZI 233 = .ok (.lload 12, 2) := by decide +kernel
theorem d_M_rounded_ZJIZI_235 : decode b_M_rounded_ZJIZI 235 = .ok (.iload_n 0, 1) := by decide +kernel
theorem d_M_rounded_ZJIZI_236 : decode b_M_rounded_ZJIZI 236 = .ok (.iload 5, 2) := by decide +kernel
theorem d_M_rounded_ZJIZI_238 : decode b_M_rounded_ZJIZI 238 = .ok (.invokestatic 36, 3) := by decide +kernel
theorem d_M_rounded_ZJIZI_241 : decode b_M_rounded_ZJIZI 241 = .ok (.lreturn, 1) := by decide +kernel
def f_M_rounded_ZJIZI_162 (x0 : Int32) (x5 : Int32) (x6 : Int32) (x9 : Int64) (x11 : Int32) : Int64 :=
  if x11 ≤ (tG_at x5) then
    if (lg_cmp (j_shr x9 (x6 - (1 : Int32))) (0 : Int64)) = 0 then
      f_M_signed_JZI x9 x0 x5
    else
      let v3 : Int64 := (j_shl (((x11 - (tL_at x5)) + (1 : Int32)).toInt64) (x6 - (1 : Int32))) ||| (x9 &&& ((j_shl (1 : Int64) (x6 - (1 : Int32))) - (1 : Int64)))
      f_M_signed_JZI v3 x0 x5
  else
    f_M_signed_JZI (f_M_infinite_I x5) x0 x5
set_option maxHeartbeats 4000000 in
set_option maxRecDepth 100000 in
theorem k_M_rounded_ZJIZI_162 {p : Program} {l : Launch} {e : Env} {s : State} {m : MethodId} {args : Array Value} {below : List Frame} {meth : Method} {c : Code} (C0 : pu_C p s m args meth c b_M_rounded_ZJIZI 15 "MotionLabModel" (some .long) (gw y_M_rounded_ZJIZI b_M_rounded_ZJIZI 15 (some .long))) {t0 t1 t2 : Nat} (hRT : RTH t0 t1 t2 s s.heap) (x0 : Int32) (x5 : Int32) (x6 : Int32) (x9 : Int64) (x11 : Int32) (hk_x5 : vp_in x5 2) (ls : Array Slot) (hl : lv_has ls 15 [(0, .int x0), (5, .int x5), (6, .int x6), (9, .long x9), (11, .int x11)]) {w : Int64} (hw : w = f_M_rounded_ZJIZI_162 x0 x5 x6 x9 x11) : W p l e (headSpec (gw y_M_rounded_ZJIZI b_M_rounded_ZJIZI 15 (some .long)) ({ frames := 2, cells := 0, slots := 0, locals := 43 } : Room)).room s m args below meth c s.heap [] 0 0 (pu_Ql w below args s) (F0 m 162 ls []) := by
  obtain ⟨hx, hb, hml, hown, hts, hr, hlocks⟩ := id C0
  obtain ⟨hT0, hT1, hT2⟩ := id hRT
  refine lv_iload hx hb d_M_rounded_ZJIZI_162 (lv_at hl 4 rfl) ?_
  refine va_gets hx hb hT2.1 va_S.rf hown (hts _ (gm tw_544)) (fun _ h9 => h9) d_M_rounded_ZJIZI_164 ?_
  refine lv_iload hx hb d_M_rounded_ZJIZI_167 (lv_at hl 1 rfl) ?_
  refine va_ti hx hb hT2.2 va_S.rf hk_x5 (v := .int (tG_at x5)) rfl d_M_rounded_ZJIZI_169 ?_
  refine lv_icmp_le (tgt := 185) hx hb d_M_rounded_ZJIZI_170 (by decide) (fun c1 => ?_) (fun c1 => ?_)
  · refine lv_lload hx hb d_M_rounded_ZJIZI_185 (lv_at hl 3 rfl) ?_
    refine lv_iload hx hb d_M_rounded_ZJIZI_187 (lv_at hl 2 rfl) ?_
    refine lv_iconst (v := 1) hx hb d_M_rounded_ZJIZI_189 (by decide) ?_
    refine lv_isub hx hb d_M_rounded_ZJIZI_190 ?_
    refine lv_lshr (v := j_shr x9 (x6 - (1 : Int32))) hx hb d_M_rounded_ZJIZI_191 rfl ?_
    refine lv_lconst (v := (0 : Int64)) hx hb d_M_rounded_ZJIZI_192 (by decide) ?_
    refine W.lcmp hx hb d_M_rounded_ZJIZI_193 ?_
    refine lv_if_ne (tgt := 202) hx hb d_M_rounded_ZJIZI_194 (by decide) (fun c2 => ?_) (fun c2 => ?_)
    · refine lv_iload hx hb d_M_rounded_ZJIZI_202 (lv_at hl 4 rfl) ?_
      refine va_gets hx hb hT1.1 va_S.rf hown (hts _ (gm tw_533)) (fun _ h9 => h9) d_M_rounded_ZJIZI_204 ?_
      refine lv_iload hx hb d_M_rounded_ZJIZI_207 (lv_at hl 1 rfl) ?_
      refine va_ti hx hb hT1.2 va_S.rf hk_x5 (v := .int (tL_at x5)) rfl d_M_rounded_ZJIZI_209 ?_
      refine lv_isub hx hb d_M_rounded_ZJIZI_210 ?_
      refine lv_iconst (v := 1) hx hb d_M_rounded_ZJIZI_211 (by decide) ?_
      refine lv_iadd hx hb d_M_rounded_ZJIZI_212 ?_
      refine lv_i2l hx hb d_M_rounded_ZJIZI_213 rfl ?_
      refine lv_iload hx hb d_M_rounded_ZJIZI_214 (lv_at hl 2 rfl) ?_
      refine lv_iconst (v := 1) hx hb d_M_rounded_ZJIZI_216 (by decide) ?_
      refine lv_isub hx hb d_M_rounded_ZJIZI_217 ?_
      refine lv_lshl (v := j_shl (((x11 - (tL_at x5)) + (1 : Int32)).toInt64) (x6 - (1 : Int32))) hx hb d_M_rounded_ZJIZI_218 rfl ?_
      refine lv_lload hx hb d_M_rounded_ZJIZI_219 (lv_at hl 3 rfl) ?_
      refine lv_lconst (v := (1 : Int64)) hx hb d_M_rounded_ZJIZI_221 (by decide) ?_
      refine lv_iload hx hb d_M_rounded_ZJIZI_222 (lv_at hl 2 rfl) ?_
      refine lv_iconst (v := 1) hx hb d_M_rounded_ZJIZI_224 (by decide) ?_
      refine lv_isub hx hb d_M_rounded_ZJIZI_225 ?_
      refine lv_lshl (v := j_shl (1 : Int64) (x6 - (1 : Int32))) hx hb d_M_rounded_ZJIZI_226 rfl ?_
      refine lv_lconst (v := (1 : Int64)) hx hb d_M_rounded_ZJIZI_227 (by decide) ?_
      refine lv_lsub hx hb d_M_rounded_ZJIZI_228 ?_
      refine lv_land hx hb d_M_rounded_ZJIZI_229 ?_
      refine lv_lor hx hb d_M_rounded_ZJIZI_230 ?_
      refine lv_topl (fun v3 e3 => ?_)
      refine lv_lstore (lv' := [(12, .long v3), (0, .int x0), (5, .int x5), (6, .int x6), (9, .long x9), (11, .int x11)]) hx hb d_M_rounded_ZJIZI_231 hl (by decide) rfl (fun ls hl => ?_)
      refine lv_lload hx hb d_M_rounded_ZJIZI_233 (lv_at hl 0 rfl) ?_
      refine lv_iload_n hx hb d_M_rounded_ZJIZI_235 rfl (lv_at hl 1 rfl) ?_
      refine lv_iload hx hb d_M_rounded_ZJIZI_236 (lv_at hl 2 rfl) ?_
      refine pu_l (As := [.long v3, .int x0, .int x5]) (rest := []) ⟨hx, hb, hml, hown, hts⟩ (c_M_signed_JZI l _ v3 x0 x5) pu_pre (gw_call (k := 3) hts tw_522 tw_523 tw_4 tw_524 (by decide +kernel) rfl rfl ⟨Nat.le_of_ble_eq_true rfl, Nat.le_of_ble_eq_true rfl⟩) rfl hl.1 rfl (Nat.le_of_ble_eq_true rfl) ⟨Nat.zero_le _, Nat.zero_le _⟩ d_M_rounded_ZJIZI_238 ?_
      exact pu_lret hx hb hr hlocks d_M_rounded_ZJIZI_241 (by have qe3 := e3.symm; subst qe3; exact Eq.symm (hw.trans (Eq.trans (if_pos c1) (if_neg c2))))
    · refine lv_lload hx hb d_M_rounded_ZJIZI_197 (lv_at hl 3 rfl) ?_
      refine lv_goto (tgt := 231) hx hb d_M_rounded_ZJIZI_199 (by decide) ?_
      refine lv_lstore (lv' := [(12, .long x9), (0, .int x0), (5, .int x5), (6, .int x6), (9, .long x9), (11, .int x11)]) hx hb d_M_rounded_ZJIZI_231 hl (by decide) rfl (fun ls hl => ?_)
      refine lv_lload hx hb d_M_rounded_ZJIZI_233 (lv_at hl 0 rfl) ?_
      refine lv_iload_n hx hb d_M_rounded_ZJIZI_235 rfl (lv_at hl 1 rfl) ?_
      refine lv_iload hx hb d_M_rounded_ZJIZI_236 (lv_at hl 2 rfl) ?_
      refine pu_l (As := [.long x9, .int x0, .int x5]) (rest := []) ⟨hx, hb, hml, hown, hts⟩ (c_M_signed_JZI l _ x9 x0 x5) pu_pre (gw_call (k := 3) hts tw_522 tw_523 tw_4 tw_524 (by decide +kernel) rfl rfl ⟨Nat.le_of_ble_eq_true rfl, Nat.le_of_ble_eq_true rfl⟩) rfl hl.1 rfl (Nat.le_of_ble_eq_true rfl) ⟨Nat.zero_le _, Nat.zero_le _⟩ d_M_rounded_ZJIZI_238 ?_
      exact pu_lret hx hb hr hlocks d_M_rounded_ZJIZI_241 (by exact Eq.symm (hw.trans (Eq.trans (if_pos c1) (if_pos c2))))
  · refine lv_iload hx hb d_M_rounded_ZJIZI_173 (lv_at hl 1 rfl) ?_
    refine pu_l (As := [.int x5]) (rest := []) ⟨hx, hb, hml, hown, hts⟩ (c_M_infinite_I l _ x5) pu_pre (gw_call (k := 1) hts tw_507 tw_508 tw_4 tw_509 (by decide +kernel) rfl rfl ⟨Nat.le_of_ble_eq_true rfl, Nat.le_of_ble_eq_true rfl⟩) rfl hl.1 rfl (Nat.le_of_ble_eq_true rfl) ⟨Nat.zero_le _, Nat.zero_le _⟩ d_M_rounded_ZJIZI_175 ?_
    refine lv_iload_n hx hb d_M_rounded_ZJIZI_178 rfl (lv_at hl 0 rfl) ?_
    refine lv_iload hx hb d_M_rounded_ZJIZI_179 (lv_at hl 1 rfl) ?_
    refine pu_l (As := [.long (f_M_infinite_I x5), .int x0, .int x5]) (rest := []) ⟨hx, hb, hml, hown, hts⟩ (c_M_signed_JZI l _ (f_M_infinite_I x5) x0 x5) pu_pre (gw_call (k := 3) hts tw_522 tw_523 tw_4 tw_524 (by decide +kernel) rfl rfl ⟨Nat.le_of_ble_eq_true rfl, Nat.le_of_ble_eq_true rfl⟩) rfl hl.1 rfl (Nat.le_of_ble_eq_true rfl) ⟨Nat.zero_le _, Nat.zero_le _⟩ d_M_rounded_ZJIZI_181 ?_
    exact pu_lret hx hb hr hlocks d_M_rounded_ZJIZI_184 (by exact Eq.symm (hw.trans (if_neg c1)))
def f_M_rounded_ZJIZI_137 (x0 : Int32) (x3 : Int32) (x5 : Int32) (x6 : Int32) (x8 : Int32) (x9 : Int64) : Int64 :=
  let v1 : Int32 := x3 + x8
  if (lg_cmp (j_shr x9 x6) (0 : Int64)) = 0 then
    f_M_rounded_ZJIZI_162 x0 x5 x6 x9 v1
  else
    let v3 : Int64 := j_shr x9 (1 : Int32)
    let v4 : Int32 := v1 + 1
    f_M_rounded_ZJIZI_162 x0 x5 x6 v3 v4
set_option maxHeartbeats 4000000 in
set_option maxRecDepth 100000 in
theorem k_M_rounded_ZJIZI_137 {p : Program} {l : Launch} {e : Env} {s : State} {m : MethodId} {args : Array Value} {below : List Frame} {meth : Method} {c : Code} (C0 : pu_C p s m args meth c b_M_rounded_ZJIZI 15 "MotionLabModel" (some .long) (gw y_M_rounded_ZJIZI b_M_rounded_ZJIZI 15 (some .long))) {t0 t1 t2 : Nat} (hRT : RTH t0 t1 t2 s s.heap) (x0 : Int32) (x3 : Int32) (x5 : Int32) (x6 : Int32) (x8 : Int32) (x9 : Int64) (hk_x5 : vp_in x5 2) (ls : Array Slot) (hl : lv_has ls 15 [(0, .int x0), (3, .int x3), (5, .int x5), (6, .int x6), (8, .int x8), (9, .long x9)]) {w : Int64} (hw : w = f_M_rounded_ZJIZI_137 x0 x3 x5 x6 x8 x9) : W p l e (headSpec (gw y_M_rounded_ZJIZI b_M_rounded_ZJIZI 15 (some .long)) ({ frames := 2, cells := 0, slots := 0, locals := 43 } : Room)).room s m args below meth c s.heap [] 0 0 (pu_Ql w below args s) (F0 m 137 ls []) := by
  obtain ⟨hx, hb, hml, hown, hts, hr, hlocks⟩ := id C0
  obtain ⟨hT0, hT1, hT2⟩ := id hRT
  refine lv_iload_n hx hb d_M_rounded_ZJIZI_137 rfl (lv_at hl 1 rfl) ?_
  refine lv_iload hx hb d_M_rounded_ZJIZI_138 (lv_at hl 4 rfl) ?_
  refine lv_iadd hx hb d_M_rounded_ZJIZI_140 ?_
  refine lv_topi (fun v1 e1 => ?_)
  refine lv_istore (lv' := [(11, .int v1), (0, .int x0), (3, .int x3), (5, .int x5), (6, .int x6), (8, .int x8), (9, .long x9)]) hx hb d_M_rounded_ZJIZI_141 hl (by decide) rfl (fun ls hl => ?_)
  refine lv_lload hx hb d_M_rounded_ZJIZI_143 (lv_at hl 6 rfl) ?_
  refine lv_iload hx hb d_M_rounded_ZJIZI_145 (lv_at hl 4 rfl) ?_
  refine lv_lshr (v := j_shr x9 x6) hx hb d_M_rounded_ZJIZI_147 rfl ?_
  refine lv_lconst (v := (0 : Int64)) hx hb d_M_rounded_ZJIZI_148 (by decide) ?_
  refine W.lcmp hx hb d_M_rounded_ZJIZI_149 ?_
  refine lv_if_eq (tgt := 162) hx hb d_M_rounded_ZJIZI_150 (by decide) (fun c2 => ?_) (fun c2 => ?_)
  · exact k_M_rounded_ZJIZI_162 C0 hRT x0 x5 x6 x9 v1 hk_x5 ls (lv_sub hl [1, 3, 4, 6, 0] rfl) (by have qe1 := e1.symm; subst qe1; exact (hw.trans (if_pos c2)))
  · refine lv_lload hx hb d_M_rounded_ZJIZI_153 (lv_at hl 6 rfl) ?_
    refine lv_iconst (v := 1) hx hb d_M_rounded_ZJIZI_155 (by decide) ?_
    refine lv_lshr (v := j_shr x9 (1 : Int32)) hx hb d_M_rounded_ZJIZI_156 rfl ?_
    refine lv_topl (fun v3 e3 => ?_)
    refine lv_lstore (lv' := [(9, .long v3), (11, .int v1), (0, .int x0), (3, .int x3), (5, .int x5), (6, .int x6), (8, .int x8)]) hx hb d_M_rounded_ZJIZI_157 hl (by decide) rfl (fun ls hl => ?_)
    obtain ⟨v4, e4⟩ : ∃ y : Int32, y = v1 + 1 := ⟨_, rfl⟩
    refine lv_iinc (v := v4) (lv' := [(11, .int v4), (9, .long v3), (0, .int x0), (3, .int x3), (5, .int x5), (6, .int x6), (8, .int x8)]) hx hb d_M_rounded_ZJIZI_159 hl (k := 1) rfl (by rw [e4]; rfl) (by decide) rfl (fun ls hl => ?_)
    exact k_M_rounded_ZJIZI_162 C0 hRT x0 x5 x6 v3 v4 hk_x5 ls (lv_sub hl [2, 4, 5, 1, 0] rfl) (by have qe1 := e1.symm; have qe3 := e3.symm; have qe4 := e4.symm; subst qe1 qe3 qe4; exact (hw.trans (if_neg c2)))
def f_M_rounded_ZJIZI_131 (x0 : Int32) (x3 : Int32) (x5 : Int32) (x6 : Int32) (x8 : Int32) (x9 : Int64) : Int64 :=
  let v1 : Int64 := x9 + (1 : Int64)
  f_M_rounded_ZJIZI_137 x0 x3 x5 x6 x8 v1
set_option maxHeartbeats 4000000 in
set_option maxRecDepth 100000 in
theorem k_M_rounded_ZJIZI_131 {p : Program} {l : Launch} {e : Env} {s : State} {m : MethodId} {args : Array Value} {below : List Frame} {meth : Method} {c : Code} (C0 : pu_C p s m args meth c b_M_rounded_ZJIZI 15 "MotionLabModel" (some .long) (gw y_M_rounded_ZJIZI b_M_rounded_ZJIZI 15 (some .long))) {t0 t1 t2 : Nat} (hRT : RTH t0 t1 t2 s s.heap) (x0 : Int32) (x3 : Int32) (x5 : Int32) (x6 : Int32) (x8 : Int32) (x9 : Int64) (hk_x5 : vp_in x5 2) (ls : Array Slot) (hl : lv_has ls 15 [(0, .int x0), (3, .int x3), (5, .int x5), (6, .int x6), (8, .int x8), (9, .long x9)]) {w : Int64} (hw : w = f_M_rounded_ZJIZI_131 x0 x3 x5 x6 x8 x9) : W p l e (headSpec (gw y_M_rounded_ZJIZI b_M_rounded_ZJIZI 15 (some .long)) ({ frames := 2, cells := 0, slots := 0, locals := 43 } : Room)).room s m args below meth c s.heap [] 0 0 (pu_Ql w below args s) (F0 m 131 ls []) := by
  obtain ⟨hx, hb, hml, hown, hts, hr, hlocks⟩ := id C0
  obtain ⟨hT0, hT1, hT2⟩ := id hRT
  refine lv_lload hx hb d_M_rounded_ZJIZI_131 (lv_at hl 5 rfl) ?_
  refine lv_lconst (v := (1 : Int64)) hx hb d_M_rounded_ZJIZI_133 (by decide) ?_
  refine lv_ladd hx hb d_M_rounded_ZJIZI_134 ?_
  refine lv_topl (fun v1 e1 => ?_)
  refine lv_lstore (lv' := [(9, .long v1), (0, .int x0), (3, .int x3), (5, .int x5), (6, .int x6), (8, .int x8)]) hx hb d_M_rounded_ZJIZI_135 hl (by decide) rfl (fun ls hl => ?_)
  exact k_M_rounded_ZJIZI_137 C0 hRT x0 x3 x5 x6 x8 v1 hk_x5 ls (lv_sub hl [1, 2, 3, 4, 5, 0] rfl) (by have qe1 := e1.symm; subst qe1; exact (hw.trans rfl))
def f_M_rounded_ZJIZI (x0 : Int32) (x1 : Int64) (x3 : Int32) (x4 : Int32) (x5 : Int32) : Int64 :=
  if (lg_cmp x1 (0 : Int64)) = 0 then
    f_M_signed_JZI (0 : Int64) x0 x5
  else
    let v2 : Int32 := tP_at x5
    let v3 : Int32 := (64 : Int32) - (f_jL_numberOfLeadingZeros_J x1)
    let v4 : Int32 := f_jM_max_II (v3 - v2) ((tL_at x5) - x3)
    if 0 < v4 then
      if v4 ≤ (63 : Int32) then
        let v7 : Int64 := j_shr x1 v4
        let v8 : Int64 := x1 &&& ((j_shl (1 : Int64) v4) - (1 : Int64))
        let v9 : Int64 := j_shl (1 : Int64) (v4 - (1 : Int32))
        if 0 < (lg_cmp v8 v9) then
          f_M_rounded_ZJIZI_131 x0 x3 x5 v2 v4 v7
        else
          if (lg_cmp v8 v9) = 0 then
            if x4 = 0 then
              if (lg_cmp (v7 &&& (1 : Int64)) (1 : Int64)) = 0 then
                f_M_rounded_ZJIZI_131 x0 x3 x5 v2 v4 v7
              else
                f_M_rounded_ZJIZI_137 x0 x3 x5 v2 v4 v7
            else
              f_M_rounded_ZJIZI_131 x0 x3 x5 v2 v4 v7
          else
            f_M_rounded_ZJIZI_137 x0 x3 x5 v2 v4 v7
      else
        f_M_rounded_ZJIZI_137 x0 x3 x5 v2 v4 (0 : Int64)
    else
      let v14 : Int64 := j_shl x1 (-v4)
      f_M_rounded_ZJIZI_137 x0 x3 x5 v2 v4 v14
set_option maxHeartbeats 4000000 in
set_option maxRecDepth 100000 in
theorem c_M_rounded_ZJIZI (l : Launch) (h : Heap) (t0 t1 t2 : Nat) (x0 : Int32) (x1 : Int64) (x3 : Int32) (x4 : Int32) (x5 : Int32) (hk_x5 : vp_in x5 2) : Met l y_M_rounded_ZJIZI (gw y_M_rounded_ZJIZI b_M_rounded_ZJIZI 15 (some .long)) { frames := 2, cells := 0, slots := 0, locals := 43 } (pr_Pc [.int x0, .long x1, .int x3, .int x4, .int x5] h t0 t1 t2) (pu_Ml (f_M_rounded_ZJIZI x0 x1 x3 x4 x5) h) 0 0 (fun _ => False) := by
  refine Met.ofW (cc := b_M_rounded_ZJIZI) (maxL := 15) (ret := (some .long)) (by decide) rfl ?_
  intro p e s m args below meth c s₁ B hml hv
  obtain ⟨rfl, hh, hRT⟩ := hv
  subst hh
  obtain ⟨hT0, hT1, hT2⟩ := id hRT
  have hx := B.exec
  have hb := B.bytes
  have hr := B.returns
  have hts := atoms_spec (ws := (gw y_M_rounded_ZJIZI b_M_rounded_ZJIZI 15 (some .long))) B.pre
  have hown : s.vm.findClass "MotionLabModel" = some m.cls := findClass_of_methodNamed B.named
  have hlocks := B.notSynchronized
  have C0 : pu_C p s m _ meth c b_M_rounded_ZJIZI 15 "MotionLabModel" (some .long) (gw y_M_rounded_ZJIZI b_M_rounded_ZJIZI 15 (some .long)) := ⟨hx, hb, hml, hown, hts, hr, hlocks⟩
  have hl := lv_entry ([.int x0, .long x1, .int x3, .int x4, .int x5]) (n := 15) (Nat.le_of_ble_eq_true rfl)
  rw [lg_entry_eq]
  generalize (lg_sl ([.int x0, .long x1, .int x3, .int x4, .int x5]) ++ List.replicate (15 - (lg_sl ([.int x0, .long x1, .int x3, .int x4, .int x5])).length) Slot.unset).toArray = ls at hl ⊢
  have hl : lv_has ls 15 [(0, .int x0), (1, .long x1), (3, .int x3), (4, .int x4), (5, .int x5)] := hl
  refine lv_lload_n hx hb d_M_rounded_ZJIZI_0 rfl (lv_at hl 1 rfl) ?_
  refine lv_lconst (v := (0 : Int64)) hx hb d_M_rounded_ZJIZI_1 (by decide) ?_
  refine W.lcmp hx hb d_M_rounded_ZJIZI_2 ?_
  refine lv_if_ne (tgt := 14) hx hb d_M_rounded_ZJIZI_3 (by decide) (fun c1 => ?_) (fun c1 => ?_)
  · refine va_gets hx hb hT0.1 va_S.rf hown (hts _ (gm tw_528)) (fun _ h9 => h9) d_M_rounded_ZJIZI_14 ?_
    refine lv_iload hx hb d_M_rounded_ZJIZI_17 (lv_at hl 4 rfl) ?_
    refine va_ti hx hb hT0.2 va_S.rf hk_x5 (v := .int (tP_at x5)) rfl d_M_rounded_ZJIZI_19 ?_
    refine lv_topi (fun v2 e2 => ?_)
    refine lv_istore (lv' := [(6, .int v2), (0, .int x0), (1, .long x1), (3, .int x3), (4, .int x4), (5, .int x5)]) hx hb d_M_rounded_ZJIZI_20 hl (by decide) rfl (fun ls hl => ?_)
    refine lv_bipush (v := (64 : Int32)) hx hb d_M_rounded_ZJIZI_22 (by decide) ?_
    refine lv_lload_n hx hb d_M_rounded_ZJIZI_24 rfl (lv_at hl 2 rfl) ?_
    refine pu_i (As := [.long x1]) (rest := [.int (64 : Int32)]) ⟨hx, hb, hml, hown, hts⟩ (c_jL_numberOfLeadingZeros_J l _ x1) pu_pre (gw_call (k := 1) hts tw_542 tw_109 tw_7 tw_110 (by decide +kernel) rfl rfl ⟨Nat.le_of_ble_eq_true rfl, Nat.le_of_ble_eq_true rfl⟩) rfl hl.1 rfl (Nat.le_of_ble_eq_true rfl) ⟨Nat.zero_le _, Nat.zero_le _⟩ d_M_rounded_ZJIZI_25 ?_
    refine lv_isub hx hb d_M_rounded_ZJIZI_28 ?_
    refine lv_topi (fun v3 e3 => ?_)
    refine lv_istore (lv' := [(7, .int v3), (6, .int v2), (0, .int x0), (1, .long x1), (3, .int x3), (4, .int x4), (5, .int x5)]) hx hb d_M_rounded_ZJIZI_29 hl (by decide) rfl (fun ls hl => ?_)
    refine lv_iload hx hb d_M_rounded_ZJIZI_31 (lv_at hl 0 rfl) ?_
    refine lv_iload hx hb d_M_rounded_ZJIZI_33 (lv_at hl 1 rfl) ?_
    refine lv_isub hx hb d_M_rounded_ZJIZI_35 ?_
    refine va_gets hx hb hT1.1 va_S.rf hown (hts _ (gm tw_533)) (fun _ h9 => h9) d_M_rounded_ZJIZI_36 ?_
    refine lv_iload hx hb d_M_rounded_ZJIZI_39 (lv_at hl 6 rfl) ?_
    refine va_ti hx hb hT1.2 va_S.rf hk_x5 (v := .int (tL_at x5)) rfl d_M_rounded_ZJIZI_41 ?_
    refine lv_iload_n hx hb d_M_rounded_ZJIZI_42 rfl (lv_at hl 4 rfl) ?_
    refine lv_isub hx hb d_M_rounded_ZJIZI_43 ?_
    refine pu_i (As := [.int (v3 - v2), .int ((tL_at x5) - x3)]) (rest := []) ⟨hx, hb, hml, hown, hts⟩ (c_jM_max_II l _ (v3 - v2) ((tL_at x5) - x3)) pu_pre (gw_call (k := 2) hts tw_543 tw_98 tw_6 tw_99 (by decide +kernel) rfl rfl ⟨Nat.le_of_ble_eq_true rfl, Nat.le_of_ble_eq_true rfl⟩) rfl hl.1 rfl (Nat.le_of_ble_eq_true rfl) ⟨Nat.zero_le _, Nat.zero_le _⟩ d_M_rounded_ZJIZI_44 ?_
    refine lv_topi (fun v4 e4 => ?_)
    refine lv_istore (lv' := [(8, .int v4), (7, .int v3), (6, .int v2), (0, .int x0), (1, .long x1), (3, .int x3), (4, .int x4), (5, .int x5)]) hx hb d_M_rounded_ZJIZI_47 hl (by decide) rfl (fun ls hl => ?_)
    refine lv_iload hx hb d_M_rounded_ZJIZI_49 (lv_at hl 0 rfl) ?_
    refine lv_if_gt (tgt := 64) hx hb d_M_rounded_ZJIZI_51 (by decide) (fun c5 => ?_) (fun c5 => ?_)
    · refine lv_iload hx hb d_M_rounded_ZJIZI_64 (lv_at hl 0 rfl) ?_
      refine lv_bipush (v := (63 : Int32)) hx hb d_M_rounded_ZJIZI_66 (by decide) ?_
      refine lv_icmp_le (tgt := 77) hx hb d_M_rounded_ZJIZI_68 (by decide) (fun c6 => ?_) (fun c6 => ?_)
      · refine lv_lload_n hx hb d_M_rounded_ZJIZI_77 rfl (lv_at hl 4 rfl) ?_
        refine lv_iload hx hb d_M_rounded_ZJIZI_78 (lv_at hl 0 rfl) ?_
        refine lv_lshr (v := j_shr x1 v4) hx hb d_M_rounded_ZJIZI_80 rfl ?_
        refine lv_topl (fun v7 e7 => ?_)
        refine lv_lstore (lv' := [(9, .long v7), (8, .int v4), (7, .int v3), (6, .int v2), (0, .int x0), (1, .long x1), (3, .int x3), (4, .int x4), (5, .int x5)]) hx hb d_M_rounded_ZJIZI_81 hl (by decide) rfl (fun ls hl => ?_)
        refine lv_lload_n hx hb d_M_rounded_ZJIZI_83 rfl (lv_at hl 5 rfl) ?_
        refine lv_lconst (v := (1 : Int64)) hx hb d_M_rounded_ZJIZI_84 (by decide) ?_
        refine lv_iload hx hb d_M_rounded_ZJIZI_85 (lv_at hl 1 rfl) ?_
        refine lv_lshl (v := j_shl (1 : Int64) v4) hx hb d_M_rounded_ZJIZI_87 rfl ?_
        refine lv_lconst (v := (1 : Int64)) hx hb d_M_rounded_ZJIZI_88 (by decide) ?_
        refine lv_lsub hx hb d_M_rounded_ZJIZI_89 ?_
        refine lv_land hx hb d_M_rounded_ZJIZI_90 ?_
        refine lv_topl (fun v8 e8 => ?_)
        refine lv_lstore (lv' := [(11, .long v8), (9, .long v7), (8, .int v4), (7, .int v3), (6, .int v2), (0, .int x0), (1, .long x1), (3, .int x3), (4, .int x4), (5, .int x5)]) hx hb d_M_rounded_ZJIZI_91 hl (by decide) rfl (fun ls hl => ?_)
        refine lv_lconst (v := (1 : Int64)) hx hb d_M_rounded_ZJIZI_93 (by decide) ?_
        refine lv_iload hx hb d_M_rounded_ZJIZI_94 (lv_at hl 2 rfl) ?_
        refine lv_iconst (v := 1) hx hb d_M_rounded_ZJIZI_96 (by decide) ?_
        refine lv_isub hx hb d_M_rounded_ZJIZI_97 ?_
        refine lv_lshl (v := j_shl (1 : Int64) (v4 - (1 : Int32))) hx hb d_M_rounded_ZJIZI_98 rfl ?_
        refine lv_topl (fun v9 e9 => ?_)
        refine lv_lstore (lv' := [(13, .long v9), (11, .long v8), (9, .long v7), (8, .int v4), (7, .int v3), (6, .int v2), (0, .int x0), (1, .long x1), (3, .int x3), (4, .int x4), (5, .int x5)]) hx hb d_M_rounded_ZJIZI_99 hl (by decide) rfl (fun ls hl => ?_)
        refine lv_lload hx hb d_M_rounded_ZJIZI_101 (lv_at hl 1 rfl) ?_
        refine lv_lload hx hb d_M_rounded_ZJIZI_103 (lv_at hl 0 rfl) ?_
        refine W.lcmp hx hb d_M_rounded_ZJIZI_105 ?_
        refine lv_if_gt (tgt := 131) hx hb d_M_rounded_ZJIZI_106 (by decide) (fun c10 => ?_) (fun c10 => ?_)
        · exact k_M_rounded_ZJIZI_131 C0 hRT x0 x3 x5 v2 v4 v7 hk_x5 ls (lv_sub hl [6, 8, 10, 5, 3, 2] rfl) (by have qe2 := e2.symm; have qe3 := e3.symm; have qe4 := e4.symm; have qe7 := e7.symm; have qe8 := e8.symm; have qe9 := e9.symm; subst qe2 qe3 qe4 qe7 qe8 qe9; exact (Eq.trans (if_neg c1) (Eq.trans (if_pos c5) (Eq.trans (if_pos c6) (if_pos c10)))))
        · refine lv_lload hx hb d_M_rounded_ZJIZI_109 (lv_at hl 1 rfl) ?_
          refine lv_lload hx hb d_M_rounded_ZJIZI_111 (lv_at hl 0 rfl) ?_
          refine W.lcmp hx hb d_M_rounded_ZJIZI_113 ?_
          refine lv_if_ne (tgt := 137) hx hb d_M_rounded_ZJIZI_114 (by decide) (fun c11 => ?_) (fun c11 => ?_)
          · exact k_M_rounded_ZJIZI_137 C0 hRT x0 x3 x5 v2 v4 v7 hk_x5 ls (lv_sub hl [6, 8, 10, 5, 3, 2] rfl) (by have qe2 := e2.symm; have qe3 := e3.symm; have qe4 := e4.symm; have qe7 := e7.symm; have qe8 := e8.symm; have qe9 := e9.symm; subst qe2 qe3 qe4 qe7 qe8 qe9; exact (Eq.trans (if_neg c1) (Eq.trans (if_pos c5) (Eq.trans (if_pos c6) (Eq.trans (if_neg c10) (if_neg c11))))))
          · refine lv_iload hx hb d_M_rounded_ZJIZI_117 (lv_at hl 9 rfl) ?_
            refine lv_if_ne (tgt := 131) hx hb d_M_rounded_ZJIZI_119 (by decide) (fun c12 => ?_) (fun c12 => ?_)
            · exact k_M_rounded_ZJIZI_131 C0 hRT x0 x3 x5 v2 v4 v7 hk_x5 ls (lv_sub hl [6, 8, 10, 5, 3, 2] rfl) (by have qe2 := e2.symm; have qe3 := e3.symm; have qe4 := e4.symm; have qe7 := e7.symm; have qe8 := e8.symm; have qe9 := e9.symm; subst qe2 qe3 qe4 qe7 qe8 qe9; exact (Eq.trans (if_neg c1) (Eq.trans (if_pos c5) (Eq.trans (if_pos c6) (Eq.trans (if_neg c10) (Eq.trans (if_pos c11) (if_neg c12)))))))
            · refine lv_lload hx hb d_M_rounded_ZJIZI_122 (lv_at hl 2 rfl) ?_
              refine lv_lconst (v := (1 : Int64)) hx hb d_M_rounded_ZJIZI_124 (by decide) ?_
              refine lv_land hx hb d_M_rounded_ZJIZI_125 ?_
              refine lv_lconst (v := (1 : Int64)) hx hb d_M_rounded_ZJIZI_126 (by decide) ?_
              refine W.lcmp hx hb d_M_rounded_ZJIZI_127 ?_
              refine lv_if_ne (tgt := 137) hx hb d_M_rounded_ZJIZI_128 (by decide) (fun c13 => ?_) (fun c13 => ?_)
              · exact k_M_rounded_ZJIZI_137 C0 hRT x0 x3 x5 v2 v4 v7 hk_x5 ls (lv_sub hl [6, 8, 10, 5, 3, 2] rfl) (by have qe2 := e2.symm; have qe3 := e3.symm; have qe4 := e4.symm; have qe7 := e7.symm; have qe8 := e8.symm; have qe9 := e9.symm; subst qe2 qe3 qe4 qe7 qe8 qe9; exact (Eq.trans (if_neg c1) (Eq.trans (if_pos c5) (Eq.trans (if_pos c6) (Eq.trans (if_neg c10) (Eq.trans (if_pos c11) (Eq.trans (if_pos c12) (if_neg c13))))))))
              · exact k_M_rounded_ZJIZI_131 C0 hRT x0 x3 x5 v2 v4 v7 hk_x5 ls (lv_sub hl [6, 8, 10, 5, 3, 2] rfl) (by have qe2 := e2.symm; have qe3 := e3.symm; have qe4 := e4.symm; have qe7 := e7.symm; have qe8 := e8.symm; have qe9 := e9.symm; subst qe2 qe3 qe4 qe7 qe8 qe9; exact (Eq.trans (if_neg c1) (Eq.trans (if_pos c5) (Eq.trans (if_pos c6) (Eq.trans (if_neg c10) (Eq.trans (if_pos c11) (Eq.trans (if_pos c12) (if_pos c13))))))))
      · refine lv_lconst (v := (0 : Int64)) hx hb d_M_rounded_ZJIZI_71 (by decide) ?_
        refine lv_lstore (lv' := [(9, .long (0 : Int64)), (8, .int v4), (7, .int v3), (6, .int v2), (0, .int x0), (1, .long x1), (3, .int x3), (4, .int x4), (5, .int x5)]) hx hb d_M_rounded_ZJIZI_72 hl (by decide) rfl (fun ls hl => ?_)
        refine lv_goto (tgt := 137) hx hb d_M_rounded_ZJIZI_74 (by decide) ?_
        exact k_M_rounded_ZJIZI_137 C0 hRT x0 x3 x5 v2 v4 (0 : Int64) hk_x5 ls (lv_sub hl [4, 6, 8, 3, 1, 0] rfl) (by have qe2 := e2.symm; have qe3 := e3.symm; have qe4 := e4.symm; subst qe2 qe3 qe4; exact (Eq.trans (if_neg c1) (Eq.trans (if_pos c5) (if_neg c6))))
    · refine lv_lload_n hx hb d_M_rounded_ZJIZI_54 rfl (lv_at hl 4 rfl) ?_
      refine lv_iload hx hb d_M_rounded_ZJIZI_55 (lv_at hl 0 rfl) ?_
      refine lv_ineg hx hb d_M_rounded_ZJIZI_57 ?_
      refine lv_lshl (v := j_shl x1 (-v4)) hx hb d_M_rounded_ZJIZI_58 rfl ?_
      refine lv_topl (fun v14 e14 => ?_)
      refine lv_lstore (lv' := [(9, .long v14), (8, .int v4), (7, .int v3), (6, .int v2), (0, .int x0), (1, .long x1), (3, .int x3), (4, .int x4), (5, .int x5)]) hx hb d_M_rounded_ZJIZI_59 hl (by decide) rfl (fun ls hl => ?_)
      refine lv_goto (tgt := 137) hx hb d_M_rounded_ZJIZI_61 (by decide) ?_
      exact k_M_rounded_ZJIZI_137 C0 hRT x0 x3 x5 v2 v4 v14 hk_x5 ls (lv_sub hl [4, 6, 8, 3, 1, 0] rfl) (by have qe2 := e2.symm; have qe3 := e3.symm; have qe4 := e4.symm; have qe14 := e14.symm; subst qe2 qe3 qe4 qe14; exact (Eq.trans (if_neg c1) (if_neg c5)))
  · refine lv_lconst (v := (0 : Int64)) hx hb d_M_rounded_ZJIZI_6 (by decide) ?_
    refine lv_iload_n hx hb d_M_rounded_ZJIZI_7 rfl (lv_at hl 0 rfl) ?_
    refine lv_iload hx hb d_M_rounded_ZJIZI_8 (lv_at hl 4 rfl) ?_
    refine pu_l (As := [.long (0 : Int64), .int x0, .int x5]) (rest := []) ⟨hx, hb, hml, hown, hts⟩ (c_M_signed_JZI l _ (0 : Int64) x0 x5) pu_pre (gw_call (k := 3) hts tw_522 tw_523 tw_4 tw_524 (by decide +kernel) rfl rfl ⟨Nat.le_of_ble_eq_true rfl, Nat.le_of_ble_eq_true rfl⟩) rfl hl.1 rfl (Nat.le_of_ble_eq_true rfl) ⟨Nat.zero_le _, Nat.zero_le _⟩ d_M_rounded_ZJIZI_10 ?_
    exact pu_lret hx hb hr hlocks d_M_rounded_ZJIZI_13 (by exact Eq.symm (if_pos c1))
-- ===== MotionLabModel.exact(ZJII)J
abbrev y_M_exact_ZJII : MethodName := ⟨"MotionLabModel", "exact", "(ZJII)J"⟩
abbrev b_M_exact_ZJII : ByteArray := prog_6_method_14_code
theorem d_M_exact_ZJII_0 : decode b_M_exact_ZJII 0 = .ok (.iload_n 0, 1) := by decide +kernel
theorem d_M_exact_ZJII_1 : decode b_M_exact_ZJII 1 = .ok (.lload_n 1, 1) := by decide +kernel
theorem d_M_exact_ZJII_2 : decode b_M_exact_ZJII 2 = .ok (.iload_n 3, 1) := by decide +kernel
theorem d_M_exact_ZJII_3 : decode b_M_exact_ZJII 3 = .ok (.iconst 0, 1) := by decide +kernel
theorem d_M_exact_ZJII_4 : decode b_M_exact_ZJII 4 = .ok (.iload 4, 2) := by decide +kernel
theorem d_M_exact_ZJII_6 : decode b_M_exact_ZJII 6 = .ok (.invokestatic 52, 3) := by decide +kernel
theorem d_M_exact_ZJII_9 : decode b_M_exact_ZJII 9 = .ok (.lreturn, 1) := by decide +kernel
def f_M_exact_ZJII (x0 : Int32) (x1 : Int64) (x3 : Int32) (x4 : Int32) : Int64 :=
  f_M_rounded_ZJIZI x0 x1 x3 (0 : Int32) x4
set_option maxHeartbeats 4000000 in
set_option maxRecDepth 100000 in
theorem c_M_exact_ZJII (l : Launch) (h : Heap) (t0 t1 t2 : Nat) (x0 : Int32) (x1 : Int64) (x3 : Int32) (x4 : Int32) (hk_x4 : vp_in x4 2) : Met l y_M_exact_ZJII (gw y_M_exact_ZJII b_M_exact_ZJII 5 (some .long)) { frames := 3, cells := 0, slots := 0, locals := 77 } (pr_Pc [.int x0, .long x1, .int x3, .int x4] h t0 t1 t2) (pu_Ml (f_M_exact_ZJII x0 x1 x3 x4) h) 0 0 (fun _ => False) := by
  refine Met.ofW (cc := b_M_exact_ZJII) (maxL := 5) (ret := (some .long)) (by decide) rfl ?_
  intro p e s m args below meth c s₁ B hml hv
  obtain ⟨rfl, hh, hRT⟩ := hv
  subst hh
  obtain ⟨hT0, hT1, hT2⟩ := id hRT
  have hx := B.exec
  have hb := B.bytes
  have hr := B.returns
  have hts := atoms_spec (ws := (gw y_M_exact_ZJII b_M_exact_ZJII 5 (some .long))) B.pre
  have hown : s.vm.findClass "MotionLabModel" = some m.cls := findClass_of_methodNamed B.named
  have hlocks := B.notSynchronized
  have C0 : pu_C p s m _ meth c b_M_exact_ZJII 5 "MotionLabModel" (some .long) (gw y_M_exact_ZJII b_M_exact_ZJII 5 (some .long)) := ⟨hx, hb, hml, hown, hts, hr, hlocks⟩
  have hl := lv_entry ([.int x0, .long x1, .int x3, .int x4]) (n := 5) (Nat.le_of_ble_eq_true rfl)
  rw [lg_entry_eq]
  generalize (lg_sl ([.int x0, .long x1, .int x3, .int x4]) ++ List.replicate (5 - (lg_sl ([.int x0, .long x1, .int x3, .int x4])).length) Slot.unset).toArray = ls at hl ⊢
  have hl : lv_has ls 5 [(0, .int x0), (1, .long x1), (3, .int x3), (4, .int x4)] := hl
  refine lv_iload_n hx hb d_M_exact_ZJII_0 rfl (lv_at hl 0 rfl) ?_
  refine lv_lload_n hx hb d_M_exact_ZJII_1 rfl (lv_at hl 1 rfl) ?_
  refine lv_iload_n hx hb d_M_exact_ZJII_2 rfl (lv_at hl 2 rfl) ?_
  refine lv_iconst (v := 0) hx hb d_M_exact_ZJII_3 (by decide) ?_
  refine lv_iload hx hb d_M_exact_ZJII_4 (lv_at hl 3 rfl) ?_
  refine pu_l (As := [.int x0, .long x1, .int x3, .int (0 : Int32), .int x4]) (rest := []) ⟨hx, hb, hml, hown, hts⟩ (c_M_rounded_ZJIZI l _ t0 t1 t2 x0 x1 x3 (0 : Int32) x4 hk_x4) (pr_pre hRT) (gw_call (k := 5) hts tw_539 tw_540 tw_4 tw_541 (by decide +kernel) rfl rfl ⟨Nat.le_of_ble_eq_true rfl, Nat.le_of_ble_eq_true rfl⟩) rfl hl.1 rfl (Nat.le_of_ble_eq_true rfl) ⟨Nat.zero_le _, Nat.zero_le _⟩ d_M_exact_ZJII_6 ?_
  exact pu_lret hx hb hr hlocks d_M_exact_ZJII_9 (by exact Eq.symm rfl)
-- ===== MotionLabModel.changed(JII)J
abbrev y_M_changed_JII : MethodName := ⟨"MotionLabModel", "changed", "(JII)J"⟩
abbrev b_M_changed_JII : ByteArray := prog_6_method_21_code
theorem d_M_changed_JII_0 : decode b_M_changed_JII 0 = .ok (.lload_n 0, 1) := by decide +kernel
theorem d_M_changed_JII_1 : decode b_M_changed_JII 1 = .ok (.iload_n 2, 1) := by decide +kernel
theorem d_M_changed_JII_2 : decode b_M_changed_JII 2 = .ok (.invokestatic 56, 3) := by decide +kernel
theorem d_M_changed_JII_5 : decode b_M_changed_JII 5 = .ok (.ifCond .eq 8, 3) := by decide +kernel
theorem d_M_changed_JII_8 : decode b_M_changed_JII 8 = .ok (.iload_n 3, 1) := by decide +kernel
theorem d_M_changed_JII_9 : decode b_M_changed_JII 9 = .ok (.invokestatic 60, 3) := by decide +kernel
theorem d_M_changed_JII_12 : decode b_M_changed_JII 12 = .ok (.lreturn, 1) := by decide +kernel
theorem d_M_changed_JII_13 : decode b_M_changed_JII 13 = .ok (.lload_n 0, 1) := by decide +kernel
theorem d_M_changed_JII_14 : decode b_M_changed_JII 14 = .ok (.iload_n 2, 1) := by decide +kernel
theorem d_M_changed_JII_15 : decode b_M_changed_JII 15 = .ok (.invokestatic 63, 3) := by decide +kernel
theorem d_M_changed_JII_18 : decode b_M_changed_JII 18 = .ok (.ifCond .eq 17, 3) := by decide +kernel
theorem d_M_changed_JII_21 : decode b_M_changed_JII 21 = .ok (.iload_n 3, 1) := by decide +kernel
theorem d_M_changed_JII_22 : decode b_M_changed_JII 22 = .ok (.invokestatic 19, 3) := by decide +kernel
theorem d_M_changed_JII_25 : decode b_M_changed_JII 25 = .ok (.lload_n 0, 1) := by decide +kernel
theorem d_M_changed_JII_26 : decode b_M_changed_JII 26 = .ok (.iload_n 2, 1) := by decide +kernel
theorem d_M_changed_JII_27 : decode b_M_changed_JII 27 = .ok (.invokestatic 76, 3) := by decide +kernel
theorem d_M_changed_JII_30 : decode b_M_changed_JII 30 = .ok (.iload_n 3, 1) := by decide +kernel
theorem d_M_changed_JII_31 : decode b_M_changed_JII 31 = .ok (.invokestatic 36, 3) := by decide +kernel
theorem d_M_changed_JII_34 : decode b_M_changed_JII 34 = .ok (.lreturn, 1) := by decide +kernel
theorem d_M_changed_JII_35 : decode b_M_changed_JII 35 = .ok (.lload_n 0, 1) := by decide +kernel
theorem d_M_changed_JII_36 : decode b_M_changed_JII 36 = .ok (.iload_n 2, 1) := by decide +kernel
theorem d_M_changed_JII_37 : decode b_M_changed_JII 37 = .ok (.invokestatic 76, 3) := by decide +kernel
theorem d_M_changed_JII_40 : decode b_M_changed_JII 40 = .ok (.lload_n 0, 1) := by decide +kernel
theorem d_M_changed_JII_41 : decode b_M_changed_JII 41 = .ok (.iload_n 2, 1) := by decide +kernel
theorem d_M_changed_JII_42 : decode b_M_changed_JII 42 = .ok (.invokestatic 73, 3) := by decide +kernel
theorem d_M_changed_JII_45 : decode b_M_changed_JII 45 = .ok (.lload_n 0, 1) := by decide +kernel
theorem d_M_changed_JII_46 : decode b_M_changed_JII 46 = .ok (.iload_n 2, 1) := by decide +kernel
theorem d_M_changed_JII_47 : decode b_M_changed_JII 47 = .ok (.invokestatic 69, 3) := by decide +kernel
theorem d_M_changed_JII_50 : decode b_M_changed_JII 50 = .ok (.iload_n 3, 1) := by decide +kernel
theorem d_M_changed_JII_51 : decode b_M_changed_JII 51 = .ok (.invokestatic 89, 3) := by decide +kernel
theorem d_M_changed_JII_54 : decode b_M_changed_JII 54 = .ok (.lreturn, 1) := by decide +kernel
def f_M_changed_JII (x0 : Int64) (x2 : Int32) (x3 : Int32) : Int64 :=
  if (f_M_isNone_JI x0 x2) = 0 then
    if (f_M_isInfinite_JI x0 x2) = 0 then
      f_M_exact_ZJII (f_M_minus_JI x0 x2) (f_M_whole_JI x0 x2) (f_M_power_JI x0 x2) x3
    else
      f_M_signed_JZI (f_M_infinite_I x3) (f_M_minus_JI x0 x2) x3
  else
    f_M_none_I x3
set_option maxHeartbeats 4000000 in
set_option maxRecDepth 100000 in
theorem c_M_changed_JII (l : Launch) (h : Heap) (t0 t1 t2 : Nat) (x0 : Int64) (x2 : Int32) (x3 : Int32) (hk_x2 : vp_in x2 2) (hk_x3 : vp_in x3 2) : Met l y_M_changed_JII (gw y_M_changed_JII b_M_changed_JII 4 (some .long)) { frames := 4, cells := 0, slots := 0, locals := 101 } (pr_Pc [.long x0, .int x2, .int x3] h t0 t1 t2) (pu_Ml (f_M_changed_JII x0 x2 x3) h) 0 0 (fun _ => False) := by
  refine Met.ofW (cc := b_M_changed_JII) (maxL := 4) (ret := (some .long)) (by decide) rfl ?_
  intro p e s m args below meth c s₁ B hml hv
  obtain ⟨rfl, hh, hRT⟩ := hv
  subst hh
  obtain ⟨hT0, hT1, hT2⟩ := id hRT
  have hx := B.exec
  have hb := B.bytes
  have hr := B.returns
  have hts := atoms_spec (ws := (gw y_M_changed_JII b_M_changed_JII 4 (some .long))) B.pre
  have hown : s.vm.findClass "MotionLabModel" = some m.cls := findClass_of_methodNamed B.named
  have hlocks := B.notSynchronized
  have C0 : pu_C p s m _ meth c b_M_changed_JII 4 "MotionLabModel" (some .long) (gw y_M_changed_JII b_M_changed_JII 4 (some .long)) := ⟨hx, hb, hml, hown, hts, hr, hlocks⟩
  have hl := lv_entry ([.long x0, .int x2, .int x3]) (n := 4) (Nat.le_of_ble_eq_true rfl)
  rw [lg_entry_eq]
  generalize (lg_sl ([.long x0, .int x2, .int x3]) ++ List.replicate (4 - (lg_sl ([.long x0, .int x2, .int x3])).length) Slot.unset).toArray = ls at hl ⊢
  have hl : lv_has ls 4 [(0, .long x0), (2, .int x2), (3, .int x3)] := hl
  refine lv_lload_n hx hb d_M_changed_JII_0 rfl (lv_at hl 0 rfl) ?_
  refine lv_iload_n hx hb d_M_changed_JII_1 rfl (lv_at hl 1 rfl) ?_
  refine pu_i (As := [.long x0, .int x2]) (rest := []) ⟨hx, hb, hml, hown, hts⟩ (c_M_isNone_JI l _ x0 x2) pu_pre (gw_call (k := 2) hts tw_498 tw_499 tw_4 tw_500 (by decide +kernel) rfl rfl ⟨Nat.le_of_ble_eq_true rfl, Nat.le_of_ble_eq_true rfl⟩) rfl hl.1 rfl (Nat.le_of_ble_eq_true rfl) ⟨Nat.zero_le _, Nat.zero_le _⟩ d_M_changed_JII_2 ?_
  refine lv_if_eq (tgt := 13) hx hb d_M_changed_JII_5 (by decide) (fun c1 => ?_) (fun c1 => ?_)
  · refine lv_lload_n hx hb d_M_changed_JII_13 rfl (lv_at hl 0 rfl) ?_
    refine lv_iload_n hx hb d_M_changed_JII_14 rfl (lv_at hl 1 rfl) ?_
    refine pu_i (As := [.long x0, .int x2]) (rest := []) ⟨hx, hb, hml, hown, hts⟩ (c_M_isInfinite_JI l _ x0 x2) pu_pre (gw_call (k := 2) hts tw_516 tw_517 tw_4 tw_518 (by decide +kernel) rfl rfl ⟨Nat.le_of_ble_eq_true rfl, Nat.le_of_ble_eq_true rfl⟩) rfl hl.1 rfl (Nat.le_of_ble_eq_true rfl) ⟨Nat.zero_le _, Nat.zero_le _⟩ d_M_changed_JII_15 ?_
    refine lv_if_eq (tgt := 35) hx hb d_M_changed_JII_18 (by decide) (fun c2 => ?_) (fun c2 => ?_)
    · refine lv_lload_n hx hb d_M_changed_JII_35 rfl (lv_at hl 0 rfl) ?_
      refine lv_iload_n hx hb d_M_changed_JII_36 rfl (lv_at hl 1 rfl) ?_
      refine pu_i (As := [.long x0, .int x2]) (rest := []) ⟨hx, hb, hml, hown, hts⟩ (c_M_minus_JI l _ x0 x2) pu_pre (gw_call (k := 2) hts tw_519 tw_520 tw_4 tw_521 (by decide +kernel) rfl rfl ⟨Nat.le_of_ble_eq_true rfl, Nat.le_of_ble_eq_true rfl⟩) rfl hl.1 rfl (Nat.le_of_ble_eq_true rfl) ⟨Nat.zero_le _, Nat.zero_le _⟩ d_M_changed_JII_37 ?_
      refine lv_lload_n hx hb d_M_changed_JII_40 rfl (lv_at hl 0 rfl) ?_
      refine lv_iload_n hx hb d_M_changed_JII_41 rfl (lv_at hl 1 rfl) ?_
      refine pu_l (As := [.long x0, .int x2]) (rest := [.int (f_M_minus_JI x0 x2)]) ⟨hx, hb, hml, hown, hts⟩ (c_M_whole_JI l _ t0 t1 t2 x0 x2 hk_x2) (pr_pre hRT) (gw_call (k := 2) hts tw_525 tw_526 tw_4 tw_527 (by decide +kernel) rfl rfl ⟨Nat.le_of_ble_eq_true rfl, Nat.le_of_ble_eq_true rfl⟩) rfl hl.1 rfl (Nat.le_of_ble_eq_true rfl) ⟨Nat.zero_le _, Nat.zero_le _⟩ d_M_changed_JII_42 ?_
      refine lv_lload_n hx hb d_M_changed_JII_45 rfl (lv_at hl 0 rfl) ?_
      refine lv_iload_n hx hb d_M_changed_JII_46 rfl (lv_at hl 1 rfl) ?_
      refine pu_i (As := [.long x0, .int x2]) (rest := [.long (f_M_whole_JI x0 x2), .int (f_M_minus_JI x0 x2)]) ⟨hx, hb, hml, hown, hts⟩ (c_M_power_JI l _ t0 t1 t2 x0 x2 hk_x2) (pr_pre hRT) (gw_call (k := 2) hts tw_530 tw_531 tw_4 tw_532 (by decide +kernel) rfl rfl ⟨Nat.le_of_ble_eq_true rfl, Nat.le_of_ble_eq_true rfl⟩) rfl hl.1 rfl (Nat.le_of_ble_eq_true rfl) ⟨Nat.zero_le _, Nat.zero_le _⟩ d_M_changed_JII_47 ?_
      refine lv_iload_n hx hb d_M_changed_JII_50 rfl (lv_at hl 2 rfl) ?_
      refine pu_l (As := [.int (f_M_minus_JI x0 x2), .long (f_M_whole_JI x0 x2), .int (f_M_power_JI x0 x2), .int x3]) (rest := []) ⟨hx, hb, hml, hown, hts⟩ (c_M_exact_ZJII l _ t0 t1 t2 (f_M_minus_JI x0 x2) (f_M_whole_JI x0 x2) (f_M_power_JI x0 x2) x3 hk_x3) (pr_pre hRT) (gw_call (k := 4) hts tw_536 tw_537 tw_4 tw_538 (by decide +kernel) rfl rfl ⟨Nat.le_of_ble_eq_true rfl, Nat.le_of_ble_eq_true rfl⟩) rfl hl.1 rfl (Nat.le_of_ble_eq_true rfl) ⟨Nat.zero_le _, Nat.zero_le _⟩ d_M_changed_JII_51 ?_
      exact pu_lret hx hb hr hlocks d_M_changed_JII_54 (by exact Eq.symm (Eq.trans (if_pos c1) (if_pos c2)))
    · refine lv_iload_n hx hb d_M_changed_JII_21 rfl (lv_at hl 2 rfl) ?_
      refine pu_l (As := [.int x3]) (rest := []) ⟨hx, hb, hml, hown, hts⟩ (c_M_infinite_I l _ x3) pu_pre (gw_call (k := 1) hts tw_507 tw_508 tw_4 tw_509 (by decide +kernel) rfl rfl ⟨Nat.le_of_ble_eq_true rfl, Nat.le_of_ble_eq_true rfl⟩) rfl hl.1 rfl (Nat.le_of_ble_eq_true rfl) ⟨Nat.zero_le _, Nat.zero_le _⟩ d_M_changed_JII_22 ?_
      refine lv_lload_n hx hb d_M_changed_JII_25 rfl (lv_at hl 0 rfl) ?_
      refine lv_iload_n hx hb d_M_changed_JII_26 rfl (lv_at hl 1 rfl) ?_
      refine pu_i (As := [.long x0, .int x2]) (rest := [.long (f_M_infinite_I x3)]) ⟨hx, hb, hml, hown, hts⟩ (c_M_minus_JI l _ x0 x2) pu_pre (gw_call (k := 2) hts tw_519 tw_520 tw_4 tw_521 (by decide +kernel) rfl rfl ⟨Nat.le_of_ble_eq_true rfl, Nat.le_of_ble_eq_true rfl⟩) rfl hl.1 rfl (Nat.le_of_ble_eq_true rfl) ⟨Nat.zero_le _, Nat.zero_le _⟩ d_M_changed_JII_27 ?_
      refine lv_iload_n hx hb d_M_changed_JII_30 rfl (lv_at hl 2 rfl) ?_
      refine pu_l (As := [.long (f_M_infinite_I x3), .int (f_M_minus_JI x0 x2), .int x3]) (rest := []) ⟨hx, hb, hml, hown, hts⟩ (c_M_signed_JZI l _ (f_M_infinite_I x3) (f_M_minus_JI x0 x2) x3) pu_pre (gw_call (k := 3) hts tw_522 tw_523 tw_4 tw_524 (by decide +kernel) rfl rfl ⟨Nat.le_of_ble_eq_true rfl, Nat.le_of_ble_eq_true rfl⟩) rfl hl.1 rfl (Nat.le_of_ble_eq_true rfl) ⟨Nat.zero_le _, Nat.zero_le _⟩ d_M_changed_JII_31 ?_
      exact pu_lret hx hb hr hlocks d_M_changed_JII_34 (by exact Eq.symm (Eq.trans (if_pos c1) (if_neg c2)))
  · refine lv_iload_n hx hb d_M_changed_JII_8 rfl (lv_at hl 2 rfl) ?_
    refine pu_l (As := [.int x3]) (rest := []) ⟨hx, hb, hml, hown, hts⟩ (c_M_none_I l _ x3) pu_pre (gw_call (k := 1) hts tw_511 tw_512 tw_4 tw_513 (by decide +kernel) rfl rfl ⟨Nat.le_of_ble_eq_true rfl, Nat.le_of_ble_eq_true rfl⟩) rfl hl.1 rfl (Nat.le_of_ble_eq_true rfl) ⟨Nat.zero_le _, Nat.zero_le _⟩ d_M_changed_JII_9 ?_
    exact pu_lret hx hb hr hlocks d_M_changed_JII_12 (by exact Eq.symm (if_neg c1))
-- ===== MotionLabModel.toFloat(J)J
abbrev y_M_toFloat_J : MethodName := ⟨"MotionLabModel", "toFloat", "(J)J"⟩
abbrev b_M_toFloat_J : ByteArray := prog_6_method_22_code
theorem d_M_toFloat_J_0 : decode b_M_toFloat_J 0 = .ok (.lload_n 0, 1) := by decide +kernel
theorem d_M_toFloat_J_1 : decode b_M_toFloat_J 1 = .ok (.iconst 0, 1) := by decide +kernel
theorem d_M_toFloat_J_2 : decode b_M_toFloat_J 2 = .ok (.iconst 1, 1) := by decide +kernel
theorem d_M_toFloat_J_3 : decode b_M_toFloat_J 3 = .ok (.invokestatic 99, 3) := by decide +kernel
theorem d_M_toFloat_J_6 : decode b_M_toFloat_J 6 = .ok (.lreturn, 1) := by decide +kernel
def f_M_toFloat_J (x0 : Int64) : Int64 :=
  f_M_changed_JII x0 (0 : Int32) (1 : Int32)
set_option maxHeartbeats 4000000 in
set_option maxRecDepth 100000 in
theorem c_M_toFloat_J (l : Launch) (h : Heap) (t0 t1 t2 : Nat) (x0 : Int64) : Met l y_M_toFloat_J (gw y_M_toFloat_J b_M_toFloat_J 2 (some .long)) { frames := 5, cells := 0, slots := 0, locals := 124 } (pr_Pc [.long x0] h t0 t1 t2) (pu_Ml (f_M_toFloat_J x0) h) 0 0 (fun _ => False) := by
  refine Met.ofW (cc := b_M_toFloat_J) (maxL := 2) (ret := (some .long)) (by decide) rfl ?_
  intro p e s m args below meth c s₁ B hml hv
  obtain ⟨rfl, hh, hRT⟩ := hv
  subst hh
  obtain ⟨hT0, hT1, hT2⟩ := id hRT
  have hx := B.exec
  have hb := B.bytes
  have hr := B.returns
  have hts := atoms_spec (ws := (gw y_M_toFloat_J b_M_toFloat_J 2 (some .long))) B.pre
  have hown : s.vm.findClass "MotionLabModel" = some m.cls := findClass_of_methodNamed B.named
  have hlocks := B.notSynchronized
  have C0 : pu_C p s m _ meth c b_M_toFloat_J 2 "MotionLabModel" (some .long) (gw y_M_toFloat_J b_M_toFloat_J 2 (some .long)) := ⟨hx, hb, hml, hown, hts, hr, hlocks⟩
  have hl := lv_entry ([.long x0]) (n := 2) (Nat.le_of_ble_eq_true rfl)
  rw [lg_entry_eq]
  generalize (lg_sl ([.long x0]) ++ List.replicate (2 - (lg_sl ([.long x0])).length) Slot.unset).toArray = ls at hl ⊢
  have hl : lv_has ls 2 [(0, .long x0)] := hl
  refine lv_lload_n hx hb d_M_toFloat_J_0 rfl (lv_at hl 0 rfl) ?_
  refine lv_iconst (v := 0) hx hb d_M_toFloat_J_1 (by decide) ?_
  refine lv_iconst (v := 1) hx hb d_M_toFloat_J_2 (by decide) ?_
  refine pu_l (As := [.long x0, .int (0 : Int32), .int (1 : Int32)]) (rest := []) ⟨hx, hb, hml, hown, hts⟩ (c_M_changed_JII l _ t0 t1 t2 x0 (0 : Int32) (1 : Int32) (in_of (by decide) (by decide)) (in_of (by decide) (by decide))) (pr_pre hRT) (gw_call (k := 3) hts tw_495 tw_496 tw_4 tw_497 (by decide +kernel) rfl rfl ⟨Nat.le_of_ble_eq_true rfl, Nat.le_of_ble_eq_true rfl⟩) rfl hl.1 rfl (Nat.le_of_ble_eq_true rfl) ⟨Nat.zero_le _, Nat.zero_le _⟩ d_M_toFloat_J_3 ?_
  exact pu_lret hx hb hr hlocks d_M_toFloat_J_6 (by exact Eq.symm rfl)
-- ===== MotionLabModel.floatOf(I)J
abbrev y_M_floatOf_I : MethodName := ⟨"MotionLabModel", "floatOf", "(I)J"⟩
abbrev b_M_floatOf_I : ByteArray := prog_6_method_35_code
theorem d_M_floatOf_I_0 : decode b_M_floatOf_I 0 = .ok (.iload_n 0, 1) := by decide +kernel
theorem d_M_floatOf_I_1 : decode b_M_floatOf_I 1 = .ok (.i2l, 1) := by decide +kernel
theorem d_M_floatOf_I_2 : decode b_M_floatOf_I 2 = .ok (.ldc2_w 207, 3) := by decide +kernel
theorem d_M_floatOf_I_5 : decode b_M_floatOf_I 5 = .ok (.land, 1) := by decide +kernel
theorem d_M_floatOf_I_6 : decode b_M_floatOf_I 6 = .ok (.lreturn, 1) := by decide +kernel
def f_M_floatOf_I (x0 : Int32) : Int64 :=
  (x0.toInt64) &&& (4294967295 : Int64)
set_option maxHeartbeats 4000000 in
set_option maxRecDepth 100000 in
theorem c_M_floatOf_I (l : Launch) (h : Heap) (x0 : Int32) : Met l y_M_floatOf_I (gw y_M_floatOf_I b_M_floatOf_I 1 (some .long)) { frames := 0, cells := 0, slots := 0, locals := 0 } (pu_Pc [.int x0] h) (pu_Ml (f_M_floatOf_I x0) h) 0 0 (fun _ => False) := by
  refine Met.ofW (cc := b_M_floatOf_I) (maxL := 1) (ret := (some .long)) (by decide) rfl ?_
  intro p e s m args below meth c s₁ B hml hv
  obtain ⟨rfl, hh⟩ := hv
  subst hh
  have hx := B.exec
  have hb := B.bytes
  have hr := B.returns
  have hts := atoms_spec (ws := (gw y_M_floatOf_I b_M_floatOf_I 1 (some .long))) B.pre
  have hown : s.vm.findClass "MotionLabModel" = some m.cls := findClass_of_methodNamed B.named
  have hlocks := B.notSynchronized
  have C0 : pu_C p s m _ meth c b_M_floatOf_I 1 "MotionLabModel" (some .long) (gw y_M_floatOf_I b_M_floatOf_I 1 (some .long)) := ⟨hx, hb, hml, hown, hts, hr, hlocks⟩
  have hl := lv_entry ([.int x0]) (n := 1) (Nat.le_of_ble_eq_true rfl)
  rw [lg_entry_eq]
  generalize (lg_sl ([.int x0]) ++ List.replicate (1 - (lg_sl ([.int x0])).length) Slot.unset).toArray = ls at hl ⊢
  have hl : lv_has ls 1 [(0, .int x0)] := hl
  refine lv_iload_n hx hb d_M_floatOf_I_0 rfl (lv_at hl 0 rfl) ?_
  refine lv_i2l hx hb d_M_floatOf_I_1 rfl ?_
  refine lv_ldc2 (v := (4294967295 : Int64)) hx hb hown (hts _ (gm tw_557)) d_M_floatOf_I_2 ?_
  refine lv_land hx hb d_M_floatOf_I_5 ?_
  exact pu_lret hx hb hr hlocks d_M_floatOf_I_6 (by exact Eq.symm rfl)
end
section
-- ===== MotionLabModel.toDouble(J)J
abbrev y_M_toDouble_J : MethodName := ⟨"MotionLabModel", "toDouble", "(J)J"⟩
abbrev b_M_toDouble_J : ByteArray := prog_6_method_23_code
theorem d_M_toDouble_J_0 : decode b_M_toDouble_J 0 = .ok (.lload_n 0, 1) := by decide +kernel
theorem d_M_toDouble_J_1 : decode b_M_toDouble_J 1 = .ok (.iconst 1, 1) := by decide +kernel
theorem d_M_toDouble_J_2 : decode b_M_toDouble_J 2 = .ok (.iconst 0, 1) := by decide +kernel
theorem d_M_toDouble_J_3 : decode b_M_toDouble_J 3 = .ok (.invokestatic 99, 3) := by decide +kernel
theorem d_M_toDouble_J_6 : decode b_M_toDouble_J 6 = .ok (.lreturn, 1) := by decide +kernel
def f_M_toDouble_J (x0 : Int64) : Int64 :=
  f_M_changed_JII x0 (1 : Int32) (0 : Int32)
set_option maxHeartbeats 4000000 in
set_option maxRecDepth 100000 in
theorem c_M_toDouble_J (l : Launch) (h : Heap) (t0 t1 t2 : Nat) (x0 : Int64) : Met l y_M_toDouble_J (gw y_M_toDouble_J b_M_toDouble_J 2 (some .long)) { frames := 5, cells := 0, slots := 0, locals := 124 } (pr_Pc [.long x0] h t0 t1 t2) (pu_Ml (f_M_toDouble_J x0) h) 0 0 (fun _ => False) := by
  refine Met.ofW (cc := b_M_toDouble_J) (maxL := 2) (ret := (some .long)) (by decide) rfl ?_
  intro p e s m args below meth c s₁ B hml hv
  obtain ⟨rfl, hh, hRT⟩ := hv
  subst hh
  obtain ⟨hT0, hT1, hT2⟩ := id hRT
  have hx := B.exec
  have hb := B.bytes
  have hr := B.returns
  have hts := atoms_spec (ws := (gw y_M_toDouble_J b_M_toDouble_J 2 (some .long))) B.pre
  have hown : s.vm.findClass "MotionLabModel" = some m.cls := findClass_of_methodNamed B.named
  have hlocks := B.notSynchronized
  have C0 : pu_C p s m _ meth c b_M_toDouble_J 2 "MotionLabModel" (some .long) (gw y_M_toDouble_J b_M_toDouble_J 2 (some .long)) := ⟨hx, hb, hml, hown, hts, hr, hlocks⟩
  have hl := lv_entry ([.long x0]) (n := 2) (Nat.le_of_ble_eq_true rfl)
  rw [lg_entry_eq]
  generalize (lg_sl ([.long x0]) ++ List.replicate (2 - (lg_sl ([.long x0])).length) Slot.unset).toArray = ls at hl ⊢
  have hl : lv_has ls 2 [(0, .long x0)] := hl
  refine lv_lload_n hx hb d_M_toDouble_J_0 rfl (lv_at hl 0 rfl) ?_
  refine lv_iconst (v := 1) hx hb d_M_toDouble_J_1 (by decide) ?_
  refine lv_iconst (v := 0) hx hb d_M_toDouble_J_2 (by decide) ?_
  refine pu_l (As := [.long x0, .int (1 : Int32), .int (0 : Int32)]) (rest := []) ⟨hx, hb, hml, hown, hts⟩ (c_M_changed_JII l _ t0 t1 t2 x0 (1 : Int32) (0 : Int32) (in_of (by decide) (by decide)) (in_of (by decide) (by decide))) (pr_pre hRT) (gw_call (k := 3) hts tw_495 tw_496 tw_4 tw_497 (by decide +kernel) rfl rfl ⟨Nat.le_of_ble_eq_true rfl, Nat.le_of_ble_eq_true rfl⟩) rfl hl.1 rfl (Nat.le_of_ble_eq_true rfl) ⟨Nat.zero_le _, Nat.zero_le _⟩ d_M_toDouble_J_3 ?_
  exact pu_lret hx hb hr hlocks d_M_toDouble_J_6 (by exact Eq.symm rfl)
-- ===== MotionLabModel.isZero(JI)Z
abbrev y_M_isZero_JI : MethodName := ⟨"MotionLabModel", "isZero", "(JI)Z"⟩
abbrev b_M_isZero_JI : ByteArray := prog_6_method_8_code
theorem d_M_isZero_JI_0 : decode b_M_isZero_JI 0 = .ok (.lload_n 0, 1) := by decide +kernel
theorem d_M_isZero_JI_1 : decode b_M_isZero_JI 1 = .ok (.iload_n 2, 1) := by decide +kernel
theorem d_M_isZero_JI_2 : decode b_M_isZero_JI 2 = .ok (.invokestatic 15, 3) := by decide +kernel
theorem d_M_isZero_JI_5 : decode b_M_isZero_JI 5 = .ok (.lconst 0, 1) := by decide +kernel
theorem d_M_isZero_JI_6 : decode b_M_isZero_JI 6 = .ok (.lcmp, 1) := by decide +kernel
theorem d_M_isZero_JI_7 : decode b_M_isZero_JI 7 = .ok (.ifCond .ne 7, 3) := by decide +kernel
theorem d_M_isZero_JI_10 : decode b_M_isZero_JI 10 = .ok (.iconst 1, 1) := by decide +kernel
theorem d_M_isZero_JI_11 : decode b_M_isZero_JI 11 = .ok (.goto 4, 3) := by decide +kernel
theorem d_M_isZero_JI_14 : decode b_M_isZero_JI 14 = .ok (.iconst 0, 1) := by decide +kernel
theorem d_M_isZero_JI_15 : decode b_M_isZero_JI 15 = .ok (.ireturn, 1) := by decide +kernel
def f_M_isZero_JI (x0 : Int64) (x2 : Int32) : Int32 :=
  if (lg_cmp (f_M_size_JI x0 x2) (0 : Int64)) = 0 then
    (1 : Int32)
  else
    (0 : Int32)
set_option maxHeartbeats 4000000 in
set_option maxRecDepth 100000 in
theorem c_M_isZero_JI (l : Launch) (h : Heap) (x0 : Int64) (x2 : Int32) : Met l y_M_isZero_JI (gw y_M_isZero_JI b_M_isZero_JI 3 (some .boolean)) { frames := 2, cells := 0, slots := 0, locals := 42 } (pu_Pc [.long x0, .int x2] h) (pu_Mi (f_M_isZero_JI x0 x2) h) 0 0 (fun _ => False) := by
  refine Met.ofW (cc := b_M_isZero_JI) (maxL := 3) (ret := (some .boolean)) (by decide) rfl ?_
  intro p e s m args below meth c s₁ B hml hv
  obtain ⟨rfl, hh⟩ := hv
  subst hh
  have hx := B.exec
  have hb := B.bytes
  have hr := B.returns
  have hts := atoms_spec (ws := (gw y_M_isZero_JI b_M_isZero_JI 3 (some .boolean))) B.pre
  have hown : s.vm.findClass "MotionLabModel" = some m.cls := findClass_of_methodNamed B.named
  have hlocks := B.notSynchronized
  have C0 : pu_C p s m _ meth c b_M_isZero_JI 3 "MotionLabModel" (some .boolean) (gw y_M_isZero_JI b_M_isZero_JI 3 (some .boolean)) := ⟨hx, hb, hml, hown, hts, hr, hlocks⟩
  have hl := lv_entry ([.long x0, .int x2]) (n := 3) (Nat.le_of_ble_eq_true rfl)
  rw [lg_entry_eq]
  generalize (lg_sl ([.long x0, .int x2]) ++ List.replicate (3 - (lg_sl ([.long x0, .int x2])).length) Slot.unset).toArray = ls at hl ⊢
  have hl : lv_has ls 3 [(0, .long x0), (2, .int x2)] := hl
  refine lv_lload_n hx hb d_M_isZero_JI_0 rfl (lv_at hl 0 rfl) ?_
  refine lv_iload_n hx hb d_M_isZero_JI_1 rfl (lv_at hl 1 rfl) ?_
  refine pu_l (As := [.long x0, .int x2]) (rest := []) ⟨hx, hb, hml, hown, hts⟩ (c_M_size_JI l _ x0 x2) pu_pre (gw_call (k := 2) hts tw_501 tw_502 tw_4 tw_503 (by decide +kernel) rfl rfl ⟨Nat.le_of_ble_eq_true rfl, Nat.le_of_ble_eq_true rfl⟩) rfl hl.1 rfl (Nat.le_of_ble_eq_true rfl) ⟨Nat.zero_le _, Nat.zero_le _⟩ d_M_isZero_JI_2 ?_
  refine lv_lconst (v := (0 : Int64)) hx hb d_M_isZero_JI_5 (by decide) ?_
  refine W.lcmp hx hb d_M_isZero_JI_6 ?_
  refine lv_if_ne (tgt := 14) hx hb d_M_isZero_JI_7 (by decide) (fun c1 => ?_) (fun c1 => ?_)
  · refine lv_iconst (v := 0) hx hb d_M_isZero_JI_14 (by decide) ?_
    exact pu_zret hx hb hr rfl hlocks d_M_isZero_JI_15 (by exact Eq.symm (if_neg c1))
  · refine lv_iconst (v := 1) hx hb d_M_isZero_JI_10 (by decide) ?_
    refine lv_goto (tgt := 15) hx hb d_M_isZero_JI_11 (by decide) ?_
    exact pu_zret hx hb hr rfl hlocks d_M_isZero_JI_15 (by exact Eq.symm (if_pos c1))
-- ===== MotionLabModel.moved(JI)I
abbrev y_M_moved_JI : MethodName := ⟨"MotionLabModel", "moved", "(JI)I"⟩
abbrev b_M_moved_JI : ByteArray := prog_6_method_17_code
theorem d_M_moved_JI_0 : decode b_M_moved_JI 0 = .ok (.lload_n 0, 1) := by decide +kernel
theorem d_M_moved_JI_1 : decode b_M_moved_JI 1 = .ok (.invokestatic 40, 3) := by decide +kernel
theorem d_M_moved_JI_4 : decode b_M_moved_JI 4 = .ok (.bipush 64, 2) := by decide +kernel
theorem d_M_moved_JI_6 : decode b_M_moved_JI 6 = .ok (.isub, 1) := by decide +kernel
theorem d_M_moved_JI_7 : decode b_M_moved_JI 7 = .ok (.getstatic 23, 3) := by decide +kernel
theorem d_M_moved_JI_10 : decode b_M_moved_JI 10 = .ok (.iload_n 2, 1) := by decide +kernel
theorem d_M_moved_JI_11 : decode b_M_moved_JI 11 = .ok (.iaload, 1) := by decide +kernel
theorem d_M_moved_JI_12 : decode b_M_moved_JI 12 = .ok (.iadd, 1) := by decide +kernel
theorem d_M_moved_JI_13 : decode b_M_moved_JI 13 = .ok (.ireturn, 1) := by decide +kernel
def f_M_moved_JI (x0 : Int64) (x2 : Int32) : Int32 :=
  ((f_jL_numberOfLeadingZeros_J x0) - (64 : Int32)) + (tP_at x2)
set_option maxHeartbeats 4000000 in
set_option maxRecDepth 100000 in
theorem c_M_moved_JI (l : Launch) (h : Heap) (t0 t1 t2 : Nat) (x0 : Int64) (x2 : Int32) (hk_x2 : vp_in x2 2) : Met l y_M_moved_JI (gw y_M_moved_JI b_M_moved_JI 3 (some .int)) { frames := 2, cells := 0, slots := 0, locals := 43 } (pr_Pc [.long x0, .int x2] h t0 t1 t2) (pu_Mi (f_M_moved_JI x0 x2) h) 0 0 (fun _ => False) := by
  refine Met.ofW (cc := b_M_moved_JI) (maxL := 3) (ret := (some .int)) (by decide) rfl ?_
  intro p e s m args below meth c s₁ B hml hv
  obtain ⟨rfl, hh, hRT⟩ := hv
  subst hh
  obtain ⟨hT0, hT1, hT2⟩ := id hRT
  have hx := B.exec
  have hb := B.bytes
  have hr := B.returns
  have hts := atoms_spec (ws := (gw y_M_moved_JI b_M_moved_JI 3 (some .int))) B.pre
  have hown : s.vm.findClass "MotionLabModel" = some m.cls := findClass_of_methodNamed B.named
  have hlocks := B.notSynchronized
  have C0 : pu_C p s m _ meth c b_M_moved_JI 3 "MotionLabModel" (some .int) (gw y_M_moved_JI b_M_moved_JI 3 (some .int)) := ⟨hx, hb, hml, hown, hts, hr, hlocks⟩
  have hl := lv_entry ([.long x0, .int x2]) (n := 3) (Nat.le_of_ble_eq_true rfl)
  rw [lg_entry_eq]
  generalize (lg_sl ([.long x0, .int x2]) ++ List.replicate (3 - (lg_sl ([.long x0, .int x2])).length) Slot.unset).toArray = ls at hl ⊢
  have hl : lv_has ls 3 [(0, .long x0), (2, .int x2)] := hl
  refine lv_lload_n hx hb d_M_moved_JI_0 rfl (lv_at hl 0 rfl) ?_
  refine pu_i (As := [.long x0]) (rest := []) ⟨hx, hb, hml, hown, hts⟩ (c_jL_numberOfLeadingZeros_J l _ x0) pu_pre (gw_call (k := 1) hts tw_542 tw_109 tw_7 tw_110 (by decide +kernel) rfl rfl ⟨Nat.le_of_ble_eq_true rfl, Nat.le_of_ble_eq_true rfl⟩) rfl hl.1 rfl (Nat.le_of_ble_eq_true rfl) ⟨Nat.zero_le _, Nat.zero_le _⟩ d_M_moved_JI_1 ?_
  refine lv_bipush (v := (64 : Int32)) hx hb d_M_moved_JI_4 (by decide) ?_
  refine lv_isub hx hb d_M_moved_JI_6 ?_
  refine va_gets hx hb hT0.1 va_S.rf hown (hts _ (gm tw_528)) (fun _ h9 => h9) d_M_moved_JI_7 ?_
  refine lv_iload_n hx hb d_M_moved_JI_10 rfl (lv_at hl 1 rfl) ?_
  refine va_ti hx hb hT0.2 va_S.rf hk_x2 (v := .int (tP_at x2)) rfl d_M_moved_JI_11 ?_
  refine lv_iadd hx hb d_M_moved_JI_12 ?_
  exact pu_iret hx hb hr hlocks d_M_moved_JI_13 (by exact Eq.symm rfl)
-- ===== MotionLabModel.multiply(JJI)J
abbrev y_M_multiply_JJI : MethodName := ⟨"MotionLabModel", "multiply", "(JJI)J"⟩
abbrev b_M_multiply_JJI : ByteArray := prog_6_method_18_code
theorem d_M_multiply_JJI_0 : decode b_M_multiply_JJI 0 = .ok (.lload_n 0, 1) := by decide +kernel
theorem d_M_multiply_JJI_1 : decode b_M_multiply_JJI 1 = .ok (.iload 4, 2) := by decide +kernel
theorem d_M_multiply_JJI_3 : decode b_M_multiply_JJI 3 = .ok (.invokestatic 76, 3) := by decide +kernel
theorem d_M_multiply_JJI_6 : decode b_M_multiply_JJI 6 = .ok (.lload_n 2, 1) := by decide +kernel
theorem d_M_multiply_JJI_7 : decode b_M_multiply_JJI 7 = .ok (.iload 4, 2) := by decide +kernel
theorem d_M_multiply_JJI_9 : decode b_M_multiply_JJI 9 = .ok (.invokestatic 76, 3) := by decide +kernel
theorem d_M_multiply_JJI_12 : decode b_M_multiply_JJI 12 = .ok (.if_icmp .eq 7, 3) := by decide +kernel
theorem d_M_multiply_JJI_15 : decode b_M_multiply_JJI 15 = .ok (.iconst 1, 1) := by decide +kernel
theorem d_M_multiply_JJI_16 : decode b_M_multiply_JJI 16 = .ok (.goto 4, 3) := by decide +kernel
theorem d_M_multiply_JJI_19 : decode b_M_multiply_JJI 19 = .ok (.iconst 0, 1) := by decide +kernel
theorem d_M_multiply_JJI_20 : decode b_M_multiply_JJI 20 = .ok (.istore 5, 2) := by decide +kernel
theorem d_M_multiply_JJI_22 : decode b_M_multiply_JJI 22 = .ok (.lload_n 0, 1) := by decide +kernel
theorem d_M_multiply_JJI_23 : decode b_M_multiply_JJI 23 = .ok (.iload 4, 2) := by decide +kernel
theorem d_M_multiply_JJI_25 : decode b_M_multiply_JJI 25 = .ok (.invokestatic 56, 3) := by decide +kernel
theorem d_M_multiply_JJI_28 : decode b_M_multiply_JJI 28 = .ok (.ifCond .ne 12, 3) := by decide +kernel
theorem d_M_multiply_JJI_31 : decode b_M_multiply_JJI 31 = .ok (.lload_n 2, 1) := by decide +kernel
theorem d_M_multiply_JJI_32 : decode b_M_multiply_JJI 32 = .ok (.iload 4, 2) := by decide +kernel
theorem d_M_multiply_JJI_34 : decode b_M_multiply_JJI 34 = .ok (.invokestatic 56, 3) := by decide +kernel
theorem d_M_multiply_JJI_37 : decode b_M_multiply_JJI 37 = .ok (.ifCond .eq 9, 3) := by decide +kernel
theorem d_M_multiply_JJI_40 : decode b_M_multiply_JJI 40 = .ok (.iload 4, 2) := by decide +kernel
theorem d_M_multiply_JJI_42 : decode b_M_multiply_JJI 42 = .ok (.invokestatic 60, 3) := by decide +kernel
theorem d_M_multiply_JJI_45 : decode b_M_multiply_JJI 45 = .ok (.lreturn, 1) := by decide +kernel
theorem d_M_multiply_JJI_46 : decode b_M_multiply_JJI 46 = .ok (.lload_n 0, 1) := by decide +kernel
theorem d_M_multiply_JJI_47 : decode b_M_multiply_JJI 47 = .ok (.iload 4, 2) := by decide +kernel
theorem d_M_multiply_JJI_49 : decode b_M_multiply_JJI 49 = .ok (.invokestatic 63, 3) := by decide +kernel
theorem d_M_multiply_JJI_52 : decode b_M_multiply_JJI 52 = .ok (.ifCond .ne 12, 3) := by decide +kernel
theorem d_M_multiply_JJI_55 : decode b_M_multiply_JJI 55 = .ok (.lload_n 2, 1) := by decide +kernel
theorem d_M_multiply_JJI_56 : decode b_M_multiply_JJI 56 = .ok (.iload 4, 2) := by decide +kernel
theorem d_M_multiply_JJI_58 : decode b_M_multiply_JJI 58 = .ok (.invokestatic 63, 3) := by decide +kernel
theorem d_M_multiply_JJI_61 : decode b_M_multiply_JJI 61 = .ok (.ifCond .eq 42, 3) := by decide +kernel
theorem d_M_multiply_JJI_64 : decode b_M_multiply_JJI 64 = .ok (.lload_n 0, 1) := by decide +kernel
theorem d_M_multiply_JJI_65 : decode b_M_multiply_JJI 65 = .ok (.iload 4, 2) := by decide +kernel
theorem d_M_multiply_JJI_67 : decode b_M_multiply_JJI 67 = .ok (.invokestatic 66, 3) := by decide +kernel
theorem d_M_multiply_JJI_70 : decode b_M_multiply_JJI 70 = .ok (.ifCond .ne 12, 3) := by decide +kernel
theorem d_M_multiply_JJI_73 : decode b_M_multiply_JJI 73 = .ok (.lload_n 2, 1) := by decide +kernel
theorem d_M_multiply_JJI_74 : decode b_M_multiply_JJI 74 = .ok (.iload 4, 2) := by decide +kernel
theorem d_M_multiply_JJI_76 : decode b_M_multiply_JJI 76 = .ok (.invokestatic 66, 3) := by decide +kernel
theorem d_M_multiply_JJI_79 : decode b_M_multiply_JJI 79 = .ok (.ifCond .eq 11, 3) := by decide +kernel
theorem d_M_multiply_JJI_82 : decode b_M_multiply_JJI 82 = .ok (.iload 4, 2) := by decide +kernel
theorem d_M_multiply_JJI_84 : decode b_M_multiply_JJI 84 = .ok (.invokestatic 60, 3) := by decide +kernel
theorem d_M_multiply_JJI_87 : decode b_M_multiply_JJI 87 = .ok (.goto 15, 3) := by decide +kernel
theorem d_M_multiply_JJI_90 : decode b_M_multiply_JJI 90 = .ok (.iload 4, 2) := by decide +kernel
theorem d_M_multiply_JJI_92 : decode b_M_multiply_JJI 92 = .ok (.invokestatic 19, 3) := by decide +kernel
theorem d_M_multiply_JJI_95 : decode b_M_multiply_JJI 95 = .ok (.iload 5, 2) := by decide +kernel
theorem d_M_multiply_JJI_97 : decode b_M_multiply_JJI 97 = .ok (.iload 4, 2) := by decide +kernel
theorem d_M_multiply_JJI_99 : decode b_M_multiply_JJI 99 = .ok (.invokestatic 36, 3) := by decide +kernel
theorem d_M_multiply_JJI_102 : decode b_M_multiply_JJI 102 = .ok (.lreturn, 1) := by decide +kernel
theorem d_M_multiply_JJI_103 : decode b_M_multiply_JJI 103 = .ok (.lload_n 0, 1) := by decide +kernel
theorem d_M_multiply_JJI_104 : decode b_M_multiply_JJI 104 = .ok (.iload 4, 2) := by decide +kernel
theorem d_M_multiply_JJI_106 : decode b_M_multiply_JJI 106 = .ok (.invokestatic 66, 3) := by decide +kernel
theorem d_M_multiply_JJI_109 : decode b_M_multiply_JJI 109 = .ok (.ifCond .ne 12, 3) := by decide +kernel
theorem d_M_multiply_JJI_112 : decode b_M_multiply_JJI 112 = .ok (.lload_n 2, 1) := by decide +kernel
theorem d_M_multiply_JJI_113 : decode b_M_multiply_JJI 113 = .ok (.iload 4, 2) := by decide +kernel
theorem d_M_multiply_JJI_115 : decode b_M_multiply_JJI 115 = .ok (.invokestatic 66, 3) := by decide +kernel
theorem d_M_multiply_JJI_118 : decode b_M_multiply_JJI 118 = .ok (.ifCond .eq 12, 3) := by decide +kernel
theorem d_M_multiply_JJI_121 : decode b_M_multiply_JJI 121 = .ok (.lconst 0, 1) := by decide +kernel
theorem d_M_multiply_JJI_122 : decode b_M_multiply_JJI 122 = .ok (.iload 5, 2) := by decide +kernel
theorem d_M_multiply_JJI_124 : decode b_M_multiply_JJI 124 = .ok (.iload 4, 2) := by decide +kernel
theorem d_M_multiply_JJI_126 : decode b_M_multiply_JJI 126 = .ok (.invokestatic 36, 3) := by decide +kernel
theorem d_M_multiply_JJI_129 : decode b_M_multiply_JJI 129 = .ok (.lreturn, 1) := by decide +kernel
theorem d_M_multiply_JJI_130 : decode b_M_multiply_JJI 130 = .ok (.lload_n 0, 1) := by decide +kernel
theorem d_M_multiply_JJI_131 : decode b_M_multiply_JJI 131 = .ok (.iload 4, 2) := by decide +kernel
theorem d_M_multiply_JJI_133 : decode b_M_multiply_JJI 133 = .ok (.invokestatic 73, 3) := by decide +kernel
theorem d_M_multiply_JJI_136 : decode b_M_multiply_JJI 136 = .ok (.lstore 6, 2) := by decide +kernel
theorem d_M_multiply_JJI_138 : decode b_M_multiply_JJI 138 = .ok (.lload_n 2, 1) := by decide +kernel
theorem d_M_multiply_JJI_139 : decode b_M_multiply_JJI 139 = .ok (.iload 4, 2) := by decide +kernel
theorem d_M_multiply_JJI_141 : decode b_M_multiply_JJI 141 = .ok (.invokestatic 73, 3) := by decide +kernel
theorem d_M_multiply_JJI_144 : decode b_M_multiply_JJI 144 = .ok (.lstore 8, 2) := by decide +kernel
theorem d_M_multiply_JJI_146 : decode b_M_multiply_JJI 146 = .ok (.lload_n 0, 1) := by decide +kernel
theorem d_M_multiply_JJI_147 : decode b_M_multiply_JJI 147 = .ok (.iload 4, 2) := by decide +kernel
theorem d_M_multiply_JJI_149 : decode b_M_multiply_JJI 149 = .ok (.invokestatic 69, 3) := by decide +kernel
theorem d_M_multiply_JJI_152 : decode b_M_multiply_JJI 152 = .ok (.lload_n 2, 1) := by decide +kernel
theorem d_M_multiply_JJI_153 : decode b_M_multiply_JJI 153 = .ok (.iload 4, 2) := by decide +kernel
theorem d_M_multiply_JJI_155 : decode b_M_multiply_JJI 155 = .ok (.invokestatic 69, 3) := by decide +kernel
theorem d_M_multiply_JJI_158 : decode b_M_multiply_JJI 158 = .ok (.iadd, 1) := by decide +kernel
theorem d_M_multiply_JJI_159 : decode b_M_multiply_JJI 159 = .ok (.lload 6, 2) := by decide +kernel
theorem d_M_multiply_JJI_161 : decode b_M_multiply_JJI 161 = .ok (.iload 4, 2) := by decide +kernel
theorem d_M_multiply_JJI_163 : decode b_M_multiply_JJI 163 = .ok (.invokestatic 86, 3) := by decide +kernel
theorem d_M_multiply_JJI_166 : decode b_M_multiply_JJI 166 = .ok (.isub, 1) := by decide +kernel
theorem d_M_multiply_JJI_167 : decode b_M_multiply_JJI 167 = .ok (.lload 8, 2) := by decide +kernel
theorem d_M_multiply_JJI_169 : decode b_M_multiply_JJI 169 = .ok (.iload 4, 2) := by decide +kernel
theorem d_M_multiply_JJI_171 : decode b_M_multiply_JJI 171 = .ok (.invokestatic 86, 3) := by decide +kernel
theorem d_M_multiply_JJI_174 : decode b_M_multiply_JJI 174 = .ok (.isub, 1) := by decide +kernel
theorem d_M_multiply_JJI_175 : decode b_M_multiply_JJI 175 = .ok (.istore 10, 2) := by decide +kernel
theorem d_M_multiply_JJI_177 : decode b_M_multiply_JJI 177 = .ok (.lload 6, 2) := by decide +kernel
theorem d_M_multiply_JJI_179 : decode b_M_multiply_JJI 179 = .ok (.lload 6, 2) := by decide +kernel
theorem d_M_multiply_JJI_181 : decode b_M_multiply_JJI 181 = .ok (.iload 4, 2) := by decide +kernel
theorem d_M_multiply_JJI_183 : decode b_M_multiply_JJI 183 = .ok (.invokestatic 86, 3) := by decide +kernel
theorem d_M_multiply_JJI_186 : decode b_M_multiply_JJI 186 = .ok (.lshl, 1) := by decide +kernel
theorem d_M_multiply_JJI_187 : decode b_M_multiply_JJI 187 = .ok (.lstore 6, 2) := by decide +kernel
theorem d_M_multiply_JJI_189 : decode b_M_multiply_JJI 189 = .ok (.lload 8, 2) := by decide +kernel
theorem d_M_multiply_JJI_191 : decode b_M_multiply_JJI 191 = .ok (.lload 8, 2) := by decide +kernel
theorem d_M_multiply_JJI_193 : decode b_M_multiply_JJI 193 = .ok (.iload 4, 2) := by decide +kernel
theorem d_M_multiply_JJI_195 : decode b_M_multiply_JJI 195 = .ok (.invokestatic 86, 3) := by decide +kernel
theorem d_M_multiply_JJI_198 : decode b_M_multiply_JJI 198 = .ok (.lshl, 1) := by decide +kernel
theorem d_M_multiply_JJI_199 : decode b_M_multiply_JJI 199 = .ok (.lstore 8, 2) := by decide +kernel
theorem d_M_multiply_JJI_201 : decode b_M_multiply_JJI 201 = .ok (.iload 4, 2) := by decide +kernel
theorem d_M_multiply_JJI_203 : decode b_M_multiply_JJI 203 = .ok (.iconst 1, 1) := by decide +kernel
theorem d_M_multiply_JJI_204 : decode b_M_multiply_JJI 204 = .ok (.if_icmp .ne 18, 3) := by decide +kernel
theorem d_M_multiply_JJI_207 : decode b_M_multiply_JJI 207 = .ok (.iload 5, 2) := by decide +kernel
theorem d_M_multiply_JJI_209 : decode b_M_multiply_JJI 209 = .ok (.lload 6, 2) := by decide +kernel
theorem d_M_multiply_JJI_211 : decode b_M_multiply_JJI 211 = .ok (.lload 8, 2) := by decide +kernel
theorem d_M_multiply_JJI_213 : decode b_M_multiply_JJI 213 = .ok (.lmul, 1) := by decide +kernel
theorem d_M_multiply_JJI_214 : decode b_M_multiply_JJI 214 = .ok (.iload 10, 2) := by decide +kernel
theorem d_M_multiply_JJI_216 : decode b_M_multiply_JJI 216 = .ok (.iload 4, 2) := by decide +kernel
theorem d_M_multiply_JJI_218 : decode b_M_multiply_JJI 218 = .ok (.invokestatic 89, 3) := by decide +kernel
theorem d_M_multiply_JJI_221 : decode b_M_multiply_JJI 221 = .ok (.lreturn, 1) := by decide +kernel
theorem d_M_multiply_JJI_222 : decode b_M_multiply_JJI 222 = .ok (.lload 6, 2) := by decide +kernel
theorem d_M_multiply_JJI_224 : decode b_M_multiply_JJI 224 = .ok (.bipush 27, 2) := by decide +kernel
theorem d_M_multiply_JJI_226 : decode b_M_multiply_JJI 226 = .ok (.lshr, 1) := by decide +kernel
theorem d_M_multiply_JJI_227 : decode b_M_multiply_JJI 227 = .ok (.lstore 11, 2) := by decide +kernel
theorem d_M_multiply_JJI_229 : decode b_M_multiply_JJI 229 = .ok (.lload 6, 2) := by decide +kernel
theorem d_M_multiply_JJI_231 : decode b_M_multiply_JJI 231 = .ok (.ldc2_w 93, 3) := by decide +kernel
theorem d_M_multiply_JJI_234 : decode b_M_multiply_JJI 234 = .ok (.land, 1) := by decide +kernel
theorem d_M_multiply_JJI_235 : decode b_M_multiply_JJI 235 = .ok (.lstore 13, 2) := by decide +kernel
theorem d_M_multiply_JJI_237 : decode b_M_multiply_JJI 237 = .ok (.lload 8, 2) := by decide +kernel
theorem d_M_multiply_JJI_239 : decode b_M_multiply_JJI 239 = .ok (.bipush 27, 2) := by decide +kernel
theorem d_M_multiply_JJI_241 : decode b_M_multiply_JJI 241 = .ok (.lshr, 1) := by decide +kernel
theorem d_M_multiply_JJI_242 : decode b_M_multiply_JJI 242 = .ok (.lstore 15, 2) := by decide +kernel
theorem d_M_multiply_JJI_244 : decode b_M_multiply_JJI 244 = .ok (.lload 8, 2) := by decide +kernel
theorem d_M_multiply_JJI_246 : decode b_M_multiply_JJI 246 = .ok (.ldc2_w 93, 3) := by decide +kernel
theorem d_M_multiply_JJI_249 : decode b_M_multiply_JJI 249 = .ok (.land, 1) := by decide +kernel
theorem d_M_multiply_JJI_250 : decode b_M_multiply_JJI 250 = .ok (.lstore 17, 2) := by decide +kernel
theorem d_M_multiply_JJI_252 : decode b_M_multiply_JJI 252 = .ok (.lload 11, 2) := by decide +kernel
theorem d_M_multiply_JJI_254 : decode b_M_multiply_JJI 254 = .ok (.lload 17, 2) := by decide +kernel
theorem d_M_multiply_JJI_256 : decode b_M_multiply_JJI 256 = .ok (.lmul, 1) := by decide +kernel
theorem d_M_multiply_JJI_257 : decode b_M_multiply_JJI 257 = .ok (.lload 13, 2) := by decide +kernel
theorem d_M_multiply_JJI_259 : decode b_M_multiply_JJI 259 = .ok (.lload 15, 2) := by decide +kernel
theorem d_M_multiply_JJI_261 : decode b_M_multiply_JJI 261 = .ok (.lmul, 1) := by decide +kernel
theorem d_M_multiply_JJI_262 : decode b_M_multiply_JJI 262 = .ok (.ladd, 1) := by decide +kernel
theorem d_M_multiply_JJI_263 : decode b_M_multiply_JJI 263 = .ok (.lstore 19, 2) := by decide +kernel
theorem d_M_multiply_JJI_265 : decode b_M_multiply_JJI 265 = .ok (.lload 13, 2) := by decide +kernel
theorem d_M_multiply_JJI_267 : decode b_M_multiply_JJI 267 = .ok (.lload 17, 2) := by decide +kernel
theorem d_M_multiply_JJI_269 : decode b_M_multiply_JJI 269 = .ok (.lmul, 1) := by decide +kernel
theorem d_M_multiply_JJI_270 : decode b_M_multiply_JJI 270 = .ok (.lload 19, 2) := by decide +kernel
theorem d_M_multiply_JJI_272 : decode b_M_multiply_JJI 272 = .ok (.ldc2_w 93, 3) := by decide +kernel
theorem d_M_multiply_JJI_275 : decode b_M_multiply_JJI 275 = .ok (.land, 1) := by decide +kernel
theorem d_M_multiply_JJI_276 : decode b_M_multiply_JJI 276 = .ok (.bipush 27, 2) := by decide +kernel
theorem d_M_multiply_JJI_278 : decode b_M_multiply_JJI 278 = .ok (.lshl, 1) := by decide +kernel
theorem d_M_multiply_JJI_279 : decode b_M_multiply_JJI 279 = .ok (.ladd, 1) := by decide +kernel
theorem d_M_multiply_JJI_280 : decode b_M_multiply_JJI 280 = .ok (.lstore 21, 2) := by decide +kernel
theorem d_M_multiply_JJI_282 : decode b_M_multiply_JJI 282 = .ok (.lload 11, 2) := by decide +kernel
theorem d_M_multiply_JJI_284 : decode b_M_multiply_JJI 284 = .ok (.lload 15, 2) := by decide +kernel
theorem d_M_multiply_JJI_286 : decode b_M_multiply_JJI 286 = .ok (.lmul, 1) := by decide +kernel
theorem d_M_multiply_JJI_287 : decode b_M_multiply_JJI 287 = .ok (.lload 19, 2) := by decide +kernel
theorem d_M_multiply_JJI_289 : decode b_M_multiply_JJI 289 = .ok (.bipush 27, 2) := by decide +kernel
theorem d_M_multiply_JJI_291 : decode b_M_multiply_JJI 291 = .ok (.lshr, 1) := by decide +kernel
theorem d_M_multiply_JJI_292 : decode b_M_multiply_JJI 292 = .ok (.ladd, 1) := by decide +kernel
theorem d_M_multiply_JJI_293 : decode b_M_multiply_JJI 293 = .ok (.lload 21, 2) := by decide +kernel
theorem d_M_multiply_JJI_295 : decode b_M_multiply_JJI 295 = .ok (.bipush 54, 2) := by decide +kernel
theorem d_M_multiply_JJI_297 : decode b_M_multiply_JJI 297 = .ok (.lshr, 1) := by decide +kernel
theorem d_M_multiply_JJI_298 : decode b_M_multiply_JJI 298 = .ok (.ladd, 1) := by decide +kernel
theorem d_M_multiply_JJI_299 : decode b_M_multiply_JJI 299 = .ok (.lstore 23, 2) := by decide +kernel
theorem d_M_multiply_JJI_301 : decode b_M_multiply_JJI 301 = .ok (.lload 21, 2) := by decide +kernel
theorem d_M_multiply_JJI_303 : decode b_M_multiply_JJI 303 = .ok (.ldc2_w 95, 3) := by decide +kernel
theorem d_M_multiply_JJI_306 : decode b_M_multiply_JJI 306 = .ok (.land, 1) := by decide +kernel
theorem d_M_multiply_JJI_307 : decode b_M_multiply_JJI 307 = .ok (.lstore 21, 2) := by decide +kernel
theorem d_M_multiply_JJI_309 : decode b_M_multiply_JJI 309 = .ok (.iload 5, 2) := by decide +kernel
theorem d_M_multiply_JJI_311 : decode b_M_multiply_JJI 311 = .ok (.lload 23, 2) := by decide +kernel
theorem d_M_multiply_JJI_313 : decode b_M_multiply_JJI 313 = .ok (.bipush 8, 2) := by decide +kernel
theorem d_M_multiply_JJI_315 : decode b_M_multiply_JJI 315 = .ok (.lshl, 1) := by decide +kernel
theorem d_M_multiply_JJI_316 : decode b_M_multiply_JJI 316 = .ok (.lload 21, 2) := by decide +kernel
theorem d_M_multiply_JJI_318 : decode b_M_multiply_JJI 318 = .ok (.bipush 46, 2) := by decide +kernel
theorem d_M_multiply_JJI_320 : decode b_M_multiply_JJI 320 = .ok (.lshr, 1) := by decide +kernel
theorem d_M_multiply_JJI_321 : decode b_M_multiply_JJI 321 = .ok (.lor, 1) := by decide +kernel
theorem d_M_multiply_JJI_322 : decode b_M_multiply_JJI 322 = .ok (.iload 10, 2) := by decide +kernel
theorem d_M_multiply_JJI_324 : decode b_M_multiply_JJI 324 = .ok (.bipush 46, 2) := by decide +kernel
theorem d_M_multiply_JJI_326 : decode b_M_multiply_JJI 326 = .ok (.iadd, 1) := by decide +kernel
theorem d_M_multiply_JJI_327 : decode b_M_multiply_JJI 327 = .ok (.lload 21, 2) := by decide +kernel
theorem d_M_multiply_JJI_329 : decode b_M_multiply_JJI 329 = .ok (.ldc2_w 97, 3) := by decide +kernel
theorem d_M_multiply_JJI_332 : decode b_M_multiply_JJI 332 = .ok (.land, 1) := by decide +kernel
theorem d_M_multiply_JJI_333 : decode b_M_multiply_JJI 333 = .ok (.lconst 0, 1) := by decide +kernel
theorem d_M_multiply_JJI_334 : decode b_M_multiply_JJI 334 = .ok (.lcmp, 1) := by decide +kernel
theorem d_M_multiply_JJI_335 : decode b_M_multiply_JJI 335 = .ok (.ifCond .eq 7, 3) := by decide +kernel
theorem d_M_multiply_JJI_338 : decode b_M_multiply_JJI 338 = .ok (.iconst 1, 1) := by decide +kernel
theorem d_M_multiply_JJI_339 : decode b_M_multiply_JJI 339 = .ok (.goto 4, 3) := by decide +kernel
theorem d_M_multiply_JJI_342 : decode b_M_multiply_JJI 342 = .ok (.iconst 0, 1) := by decide +kernel
theorem d_M_multiply_JJI_343 : decode b_M_multiply_JJI 343 = .ok (.iload 4, 2) := by decide +kernel
theorem d_M_multiply_JJI_345 : decode b_M_multiply_JJI 345 = .ok (.invokestatic 52, 3) := by decide +kernel
theorem d_M_multiply_JJI_348 : decode b_M_multiply_JJI 348 = .ok (.lreturn, 1) := by decide +kernel
def f_M_multiply_JJI_64 (x0 : Int64) (x2 : Int64) (x4 : Int32) (x5 : Int32) : Int64 :=
  if (f_M_isZero_JI x0 x4) = 0 then
    if (f_M_isZero_JI x2 x4) = 0 then
      f_M_signed_JZI (f_M_infinite_I x4) x5 x4
    else
      f_M_none_I x4
  else
    f_M_none_I x4
set_option maxHeartbeats 4000000 in
set_option maxRecDepth 100000 in
theorem k_M_multiply_JJI_64 {p : Program} {l : Launch} {e : Env} {s : State} {m : MethodId} {args : Array Value} {below : List Frame} {meth : Method} {c : Code} (C0 : pu_C p s m args meth c b_M_multiply_JJI 25 "MotionLabModel" (some .long) (gw y_M_multiply_JJI b_M_multiply_JJI 25 (some .long))) {t0 t1 t2 : Nat} (hRT : RTH t0 t1 t2 s s.heap) (x0 : Int64) (x2 : Int64) (x4 : Int32) (x5 : Int32) (hk_x4 : vp_in x4 2) (ls : Array Slot) (hl : lv_has ls 25 [(0, .long x0), (2, .long x2), (4, .int x4), (5, .int x5)]) {w : Int64} (hw : w = f_M_multiply_JJI_64 x0 x2 x4 x5) : W p l e (headSpec (gw y_M_multiply_JJI b_M_multiply_JJI 25 (some .long)) ({ frames := 4, cells := 0, slots := 0, locals := 101 } : Room)).room s m args below meth c s.heap [] 0 0 (pu_Ql w below args s) (F0 m 64 ls []) := by
  obtain ⟨hx, hb, hml, hown, hts, hr, hlocks⟩ := id C0
  obtain ⟨hT0, hT1, hT2⟩ := id hRT
  refine lv_lload_n hx hb d_M_multiply_JJI_64 rfl (lv_at hl 0 rfl) ?_
  refine lv_iload hx hb d_M_multiply_JJI_65 (lv_at hl 2 rfl) ?_
  refine pu_i (As := [.long x0, .int x4]) (rest := []) ⟨hx, hb, hml, hown, hts⟩ (c_M_isZero_JI l _ x0 x4) pu_pre (gw_call (k := 2) hts tw_579 tw_580 tw_4 tw_581 (by decide +kernel) rfl rfl ⟨Nat.le_of_ble_eq_true rfl, Nat.le_of_ble_eq_true rfl⟩) rfl hl.1 rfl (Nat.le_of_ble_eq_true rfl) ⟨Nat.zero_le _, Nat.zero_le _⟩ d_M_multiply_JJI_67 ?_
  refine lv_if_ne (tgt := 82) hx hb d_M_multiply_JJI_70 (by decide) (fun c1 => ?_) (fun c1 => ?_)
  · refine lv_iload hx hb d_M_multiply_JJI_82 (lv_at hl 2 rfl) ?_
    refine pu_l (As := [.int x4]) (rest := []) ⟨hx, hb, hml, hown, hts⟩ (c_M_none_I l _ x4) pu_pre (gw_call (k := 1) hts tw_511 tw_512 tw_4 tw_513 (by decide +kernel) rfl rfl ⟨Nat.le_of_ble_eq_true rfl, Nat.le_of_ble_eq_true rfl⟩) rfl hl.1 rfl (Nat.le_of_ble_eq_true rfl) ⟨Nat.zero_le _, Nat.zero_le _⟩ d_M_multiply_JJI_84 ?_
    refine lv_goto (tgt := 102) hx hb d_M_multiply_JJI_87 (by decide) ?_
    exact pu_lret hx hb hr hlocks d_M_multiply_JJI_102 (by exact Eq.symm (hw.trans (if_neg c1)))
  · refine lv_lload_n hx hb d_M_multiply_JJI_73 rfl (lv_at hl 1 rfl) ?_
    refine lv_iload hx hb d_M_multiply_JJI_74 (lv_at hl 2 rfl) ?_
    refine pu_i (As := [.long x2, .int x4]) (rest := []) ⟨hx, hb, hml, hown, hts⟩ (c_M_isZero_JI l _ x2 x4) pu_pre (gw_call (k := 2) hts tw_579 tw_580 tw_4 tw_581 (by decide +kernel) rfl rfl ⟨Nat.le_of_ble_eq_true rfl, Nat.le_of_ble_eq_true rfl⟩) rfl hl.1 rfl (Nat.le_of_ble_eq_true rfl) ⟨Nat.zero_le _, Nat.zero_le _⟩ d_M_multiply_JJI_76 ?_
    refine lv_if_eq (tgt := 90) hx hb d_M_multiply_JJI_79 (by decide) (fun c2 => ?_) (fun c2 => ?_)
    · refine lv_iload hx hb d_M_multiply_JJI_90 (lv_at hl 2 rfl) ?_
      refine pu_l (As := [.int x4]) (rest := []) ⟨hx, hb, hml, hown, hts⟩ (c_M_infinite_I l _ x4) pu_pre (gw_call (k := 1) hts tw_507 tw_508 tw_4 tw_509 (by decide +kernel) rfl rfl ⟨Nat.le_of_ble_eq_true rfl, Nat.le_of_ble_eq_true rfl⟩) rfl hl.1 rfl (Nat.le_of_ble_eq_true rfl) ⟨Nat.zero_le _, Nat.zero_le _⟩ d_M_multiply_JJI_92 ?_
      refine lv_iload hx hb d_M_multiply_JJI_95 (lv_at hl 3 rfl) ?_
      refine lv_iload hx hb d_M_multiply_JJI_97 (lv_at hl 2 rfl) ?_
      refine pu_l (As := [.long (f_M_infinite_I x4), .int x5, .int x4]) (rest := []) ⟨hx, hb, hml, hown, hts⟩ (c_M_signed_JZI l _ (f_M_infinite_I x4) x5 x4) pu_pre (gw_call (k := 3) hts tw_522 tw_523 tw_4 tw_524 (by decide +kernel) rfl rfl ⟨Nat.le_of_ble_eq_true rfl, Nat.le_of_ble_eq_true rfl⟩) rfl hl.1 rfl (Nat.le_of_ble_eq_true rfl) ⟨Nat.zero_le _, Nat.zero_le _⟩ d_M_multiply_JJI_99 ?_
      exact pu_lret hx hb hr hlocks d_M_multiply_JJI_102 (by exact Eq.symm (hw.trans (Eq.trans (if_pos c1) (if_pos c2))))
    · refine lv_iload hx hb d_M_multiply_JJI_82 (lv_at hl 2 rfl) ?_
      refine pu_l (As := [.int x4]) (rest := []) ⟨hx, hb, hml, hown, hts⟩ (c_M_none_I l _ x4) pu_pre (gw_call (k := 1) hts tw_511 tw_512 tw_4 tw_513 (by decide +kernel) rfl rfl ⟨Nat.le_of_ble_eq_true rfl, Nat.le_of_ble_eq_true rfl⟩) rfl hl.1 rfl (Nat.le_of_ble_eq_true rfl) ⟨Nat.zero_le _, Nat.zero_le _⟩ d_M_multiply_JJI_84 ?_
      refine lv_goto (tgt := 102) hx hb d_M_multiply_JJI_87 (by decide) ?_
      exact pu_lret hx hb hr hlocks d_M_multiply_JJI_102 (by exact Eq.symm (hw.trans (Eq.trans (if_pos c1) (if_neg c2))))
def f_M_multiply_JJI_20 (x0 : Int64) (x2 : Int64) (x4 : Int32) (s0 : Int32) : Int64 :=
  if (f_M_isNone_JI x0 x4) = 0 then
    if (f_M_isNone_JI x2 x4) = 0 then
      if (f_M_isInfinite_JI x0 x4) = 0 then
        if (f_M_isInfinite_JI x2 x4) = 0 then
          if (f_M_isZero_JI x0 x4) = 0 then
            if (f_M_isZero_JI x2 x4) = 0 then
              let v7 : Int64 := f_M_whole_JI x0 x4
              let v8 : Int64 := f_M_whole_JI x2 x4
              let v9 : Int32 := (((f_M_power_JI x0 x4) + (f_M_power_JI x2 x4)) - (f_M_moved_JI v7 x4)) - (f_M_moved_JI v8 x4)
              let v10 : Int64 := j_shl v7 (f_M_moved_JI v7 x4)
              let v11 : Int64 := j_shl v8 (f_M_moved_JI v8 x4)
              if x4 = (1 : Int32) then
                f_M_exact_ZJII s0 (v10 * v11) v9 x4
              else
                let v13 : Int64 := j_shr v10 (27 : Int32)
                let v14 : Int64 := v10 &&& (134217727 : Int64)
                let v15 : Int64 := j_shr v11 (27 : Int32)
                let v16 : Int64 := v11 &&& (134217727 : Int64)
                let v17 : Int64 := (v13 * v16) + (v14 * v15)
                let v18 : Int64 := (v14 * v16) + (j_shl (v17 &&& (134217727 : Int64)) (27 : Int32))
                let v19 : Int64 := ((v13 * v15) + (j_shr v17 (27 : Int32))) + (j_shr v18 (54 : Int32))
                let v20 : Int64 := v18 &&& (18014398509481983 : Int64)
                if (lg_cmp (v20 &&& (70368744177663 : Int64)) (0 : Int64)) = 0 then
                  f_M_rounded_ZJIZI s0 ((j_shl v19 (8 : Int32)) ||| (j_shr v20 (46 : Int32))) (v9 + (46 : Int32)) (0 : Int32) x4
                else
                  f_M_rounded_ZJIZI s0 ((j_shl v19 (8 : Int32)) ||| (j_shr v20 (46 : Int32))) (v9 + (46 : Int32)) (1 : Int32) x4
            else
              f_M_signed_JZI (0 : Int64) s0 x4
          else
            f_M_signed_JZI (0 : Int64) s0 x4
        else
          f_M_multiply_JJI_64 x0 x2 x4 s0
      else
        f_M_multiply_JJI_64 x0 x2 x4 s0
    else
      f_M_none_I x4
  else
    f_M_none_I x4
set_option maxHeartbeats 4000000 in
set_option maxRecDepth 100000 in
theorem k_M_multiply_JJI_20 {p : Program} {l : Launch} {e : Env} {s : State} {m : MethodId} {args : Array Value} {below : List Frame} {meth : Method} {c : Code} (C0 : pu_C p s m args meth c b_M_multiply_JJI 25 "MotionLabModel" (some .long) (gw y_M_multiply_JJI b_M_multiply_JJI 25 (some .long))) {t0 t1 t2 : Nat} (hRT : RTH t0 t1 t2 s s.heap) (x0 : Int64) (x2 : Int64) (x4 : Int32) (s0 : Int32) (hk_x4 : vp_in x4 2) (ls : Array Slot) (hl : lv_has ls 25 [(0, .long x0), (2, .long x2), (4, .int x4)]) {w : Int64} (hw : w = f_M_multiply_JJI_20 x0 x2 x4 s0) : W p l e (headSpec (gw y_M_multiply_JJI b_M_multiply_JJI 25 (some .long)) ({ frames := 4, cells := 0, slots := 0, locals := 101 } : Room)).room s m args below meth c s.heap [] 0 0 (pu_Ql w below args s) (F0 m 20 ls [.int s0]) := by
  obtain ⟨hx, hb, hml, hown, hts, hr, hlocks⟩ := id C0
  obtain ⟨hT0, hT1, hT2⟩ := id hRT
  refine lv_istore (lv' := [(5, .int s0), (0, .long x0), (2, .long x2), (4, .int x4)]) hx hb d_M_multiply_JJI_20 hl (by decide) rfl (fun ls hl => ?_)
  refine lv_lload_n hx hb d_M_multiply_JJI_22 rfl (lv_at hl 1 rfl) ?_
  refine lv_iload hx hb d_M_multiply_JJI_23 (lv_at hl 3 rfl) ?_
  refine pu_i (As := [.long x0, .int x4]) (rest := []) ⟨hx, hb, hml, hown, hts⟩ (c_M_isNone_JI l _ x0 x4) pu_pre (gw_call (k := 2) hts tw_498 tw_499 tw_4 tw_500 (by decide +kernel) rfl rfl ⟨Nat.le_of_ble_eq_true rfl, Nat.le_of_ble_eq_true rfl⟩) rfl hl.1 rfl (Nat.le_of_ble_eq_true rfl) ⟨Nat.zero_le _, Nat.zero_le _⟩ d_M_multiply_JJI_25 ?_
  refine lv_if_ne (tgt := 40) hx hb d_M_multiply_JJI_28 (by decide) (fun c1 => ?_) (fun c1 => ?_)
  · refine lv_iload hx hb d_M_multiply_JJI_40 (lv_at hl 3 rfl) ?_
    refine pu_l (As := [.int x4]) (rest := []) ⟨hx, hb, hml, hown, hts⟩ (c_M_none_I l _ x4) pu_pre (gw_call (k := 1) hts tw_511 tw_512 tw_4 tw_513 (by decide +kernel) rfl rfl ⟨Nat.le_of_ble_eq_true rfl, Nat.le_of_ble_eq_true rfl⟩) rfl hl.1 rfl (Nat.le_of_ble_eq_true rfl) ⟨Nat.zero_le _, Nat.zero_le _⟩ d_M_multiply_JJI_42 ?_
    exact pu_lret hx hb hr hlocks d_M_multiply_JJI_45 (by exact Eq.symm (hw.trans (if_neg c1)))
  · refine lv_lload_n hx hb d_M_multiply_JJI_31 rfl (lv_at hl 2 rfl) ?_
    refine lv_iload hx hb d_M_multiply_JJI_32 (lv_at hl 3 rfl) ?_
    refine pu_i (As := [.long x2, .int x4]) (rest := []) ⟨hx, hb, hml, hown, hts⟩ (c_M_isNone_JI l _ x2 x4) pu_pre (gw_call (k := 2) hts tw_498 tw_499 tw_4 tw_500 (by decide +kernel) rfl rfl ⟨Nat.le_of_ble_eq_true rfl, Nat.le_of_ble_eq_true rfl⟩) rfl hl.1 rfl (Nat.le_of_ble_eq_true rfl) ⟨Nat.zero_le _, Nat.zero_le _⟩ d_M_multiply_JJI_34 ?_
    refine lv_if_eq (tgt := 46) hx hb d_M_multiply_JJI_37 (by decide) (fun c2 => ?_) (fun c2 => ?_)
    · refine lv_lload_n hx hb d_M_multiply_JJI_46 rfl (lv_at hl 1 rfl) ?_
      refine lv_iload hx hb d_M_multiply_JJI_47 (lv_at hl 3 rfl) ?_
      refine pu_i (As := [.long x0, .int x4]) (rest := []) ⟨hx, hb, hml, hown, hts⟩ (c_M_isInfinite_JI l _ x0 x4) pu_pre (gw_call (k := 2) hts tw_516 tw_517 tw_4 tw_518 (by decide +kernel) rfl rfl ⟨Nat.le_of_ble_eq_true rfl, Nat.le_of_ble_eq_true rfl⟩) rfl hl.1 rfl (Nat.le_of_ble_eq_true rfl) ⟨Nat.zero_le _, Nat.zero_le _⟩ d_M_multiply_JJI_49 ?_
      refine lv_if_ne (tgt := 64) hx hb d_M_multiply_JJI_52 (by decide) (fun c3 => ?_) (fun c3 => ?_)
      · exact k_M_multiply_JJI_64 C0 hRT x0 x2 x4 s0 hk_x4 ls (lv_sub hl [1, 2, 3, 0] rfl) (by exact (hw.trans (Eq.trans (if_pos c1) (Eq.trans (if_pos c2) (if_neg c3)))))
      · refine lv_lload_n hx hb d_M_multiply_JJI_55 rfl (lv_at hl 2 rfl) ?_
        refine lv_iload hx hb d_M_multiply_JJI_56 (lv_at hl 3 rfl) ?_
        refine pu_i (As := [.long x2, .int x4]) (rest := []) ⟨hx, hb, hml, hown, hts⟩ (c_M_isInfinite_JI l _ x2 x4) pu_pre (gw_call (k := 2) hts tw_516 tw_517 tw_4 tw_518 (by decide +kernel) rfl rfl ⟨Nat.le_of_ble_eq_true rfl, Nat.le_of_ble_eq_true rfl⟩) rfl hl.1 rfl (Nat.le_of_ble_eq_true rfl) ⟨Nat.zero_le _, Nat.zero_le _⟩ d_M_multiply_JJI_58 ?_
        refine lv_if_eq (tgt := 103) hx hb d_M_multiply_JJI_61 (by decide) (fun c4 => ?_) (fun c4 => ?_)
        · refine lv_lload_n hx hb d_M_multiply_JJI_103 rfl (lv_at hl 1 rfl) ?_
          refine lv_iload hx hb d_M_multiply_JJI_104 (lv_at hl 3 rfl) ?_
          refine pu_i (As := [.long x0, .int x4]) (rest := []) ⟨hx, hb, hml, hown, hts⟩ (c_M_isZero_JI l _ x0 x4) pu_pre (gw_call (k := 2) hts tw_579 tw_580 tw_4 tw_581 (by decide +kernel) rfl rfl ⟨Nat.le_of_ble_eq_true rfl, Nat.le_of_ble_eq_true rfl⟩) rfl hl.1 rfl (Nat.le_of_ble_eq_true rfl) ⟨Nat.zero_le _, Nat.zero_le _⟩ d_M_multiply_JJI_106 ?_
          refine lv_if_ne (tgt := 121) hx hb d_M_multiply_JJI_109 (by decide) (fun c5 => ?_) (fun c5 => ?_)
          · refine lv_lconst (v := (0 : Int64)) hx hb d_M_multiply_JJI_121 (by decide) ?_
            refine lv_iload hx hb d_M_multiply_JJI_122 (lv_at hl 0 rfl) ?_
            refine lv_iload hx hb d_M_multiply_JJI_124 (lv_at hl 3 rfl) ?_
            refine pu_l (As := [.long (0 : Int64), .int s0, .int x4]) (rest := []) ⟨hx, hb, hml, hown, hts⟩ (c_M_signed_JZI l _ (0 : Int64) s0 x4) pu_pre (gw_call (k := 3) hts tw_522 tw_523 tw_4 tw_524 (by decide +kernel) rfl rfl ⟨Nat.le_of_ble_eq_true rfl, Nat.le_of_ble_eq_true rfl⟩) rfl hl.1 rfl (Nat.le_of_ble_eq_true rfl) ⟨Nat.zero_le _, Nat.zero_le _⟩ d_M_multiply_JJI_126 ?_
            exact pu_lret hx hb hr hlocks d_M_multiply_JJI_129 (by exact Eq.symm (hw.trans (Eq.trans (if_pos c1) (Eq.trans (if_pos c2) (Eq.trans (if_pos c3) (Eq.trans (if_pos c4) (if_neg c5)))))))
          · refine lv_lload_n hx hb d_M_multiply_JJI_112 rfl (lv_at hl 2 rfl) ?_
            refine lv_iload hx hb d_M_multiply_JJI_113 (lv_at hl 3 rfl) ?_
            refine pu_i (As := [.long x2, .int x4]) (rest := []) ⟨hx, hb, hml, hown, hts⟩ (c_M_isZero_JI l _ x2 x4) pu_pre (gw_call (k := 2) hts tw_579 tw_580 tw_4 tw_581 (by decide +kernel) rfl rfl ⟨Nat.le_of_ble_eq_true rfl, Nat.le_of_ble_eq_true rfl⟩) rfl hl.1 rfl (Nat.le_of_ble_eq_true rfl) ⟨Nat.zero_le _, Nat.zero_le _⟩ d_M_multiply_JJI_115 ?_
            refine lv_if_eq (tgt := 130) hx hb d_M_multiply_JJI_118 (by decide) (fun c6 => ?_) (fun c6 => ?_)
            · refine lv_lload_n hx hb d_M_multiply_JJI_130 rfl (lv_at hl 1 rfl) ?_
              refine lv_iload hx hb d_M_multiply_JJI_131 (lv_at hl 3 rfl) ?_
              refine pu_l (As := [.long x0, .int x4]) (rest := []) ⟨hx, hb, hml, hown, hts⟩ (c_M_whole_JI l _ t0 t1 t2 x0 x4 hk_x4) (pr_pre hRT) (gw_call (k := 2) hts tw_525 tw_526 tw_4 tw_527 (by decide +kernel) rfl rfl ⟨Nat.le_of_ble_eq_true rfl, Nat.le_of_ble_eq_true rfl⟩) rfl hl.1 rfl (Nat.le_of_ble_eq_true rfl) ⟨Nat.zero_le _, Nat.zero_le _⟩ d_M_multiply_JJI_133 ?_
              refine lv_topl (fun v7 e7 => ?_)
              refine lv_lstore (lv' := [(6, .long v7), (5, .int s0), (0, .long x0), (2, .long x2), (4, .int x4)]) hx hb d_M_multiply_JJI_136 hl (by decide) rfl (fun ls hl => ?_)
              refine lv_lload_n hx hb d_M_multiply_JJI_138 rfl (lv_at hl 3 rfl) ?_
              refine lv_iload hx hb d_M_multiply_JJI_139 (lv_at hl 4 rfl) ?_
              refine pu_l (As := [.long x2, .int x4]) (rest := []) ⟨hx, hb, hml, hown, hts⟩ (c_M_whole_JI l _ t0 t1 t2 x2 x4 hk_x4) (pr_pre hRT) (gw_call (k := 2) hts tw_525 tw_526 tw_4 tw_527 (by decide +kernel) rfl rfl ⟨Nat.le_of_ble_eq_true rfl, Nat.le_of_ble_eq_true rfl⟩) rfl hl.1 rfl (Nat.le_of_ble_eq_true rfl) ⟨Nat.zero_le _, Nat.zero_le _⟩ d_M_multiply_JJI_141 ?_
              refine lv_topl (fun v8 e8 => ?_)
              refine lv_lstore (lv' := [(8, .long v8), (6, .long v7), (5, .int s0), (0, .long x0), (2, .long x2), (4, .int x4)]) hx hb d_M_multiply_JJI_144 hl (by decide) rfl (fun ls hl => ?_)
              refine lv_lload_n hx hb d_M_multiply_JJI_146 rfl (lv_at hl 3 rfl) ?_
              refine lv_iload hx hb d_M_multiply_JJI_147 (lv_at hl 5 rfl) ?_
              refine pu_i (As := [.long x0, .int x4]) (rest := []) ⟨hx, hb, hml, hown, hts⟩ (c_M_power_JI l _ t0 t1 t2 x0 x4 hk_x4) (pr_pre hRT) (gw_call (k := 2) hts tw_530 tw_531 tw_4 tw_532 (by decide +kernel) rfl rfl ⟨Nat.le_of_ble_eq_true rfl, Nat.le_of_ble_eq_true rfl⟩) rfl hl.1 rfl (Nat.le_of_ble_eq_true rfl) ⟨Nat.zero_le _, Nat.zero_le _⟩ d_M_multiply_JJI_149 ?_
              refine lv_lload_n hx hb d_M_multiply_JJI_152 rfl (lv_at hl 4 rfl) ?_
              refine lv_iload hx hb d_M_multiply_JJI_153 (lv_at hl 5 rfl) ?_
              refine pu_i (As := [.long x2, .int x4]) (rest := [.int (f_M_power_JI x0 x4)]) ⟨hx, hb, hml, hown, hts⟩ (c_M_power_JI l _ t0 t1 t2 x2 x4 hk_x4) (pr_pre hRT) (gw_call (k := 2) hts tw_530 tw_531 tw_4 tw_532 (by decide +kernel) rfl rfl ⟨Nat.le_of_ble_eq_true rfl, Nat.le_of_ble_eq_true rfl⟩) rfl hl.1 rfl (Nat.le_of_ble_eq_true rfl) ⟨Nat.zero_le _, Nat.zero_le _⟩ d_M_multiply_JJI_155 ?_
              refine lv_iadd hx hb d_M_multiply_JJI_158 ?_
              refine lv_lload hx hb d_M_multiply_JJI_159 (lv_at hl 1 rfl) ?_
              refine lv_iload hx hb d_M_multiply_JJI_161 (lv_at hl 5 rfl) ?_
              refine pu_i (As := [.long v7, .int x4]) (rest := [.int ((f_M_power_JI x0 x4) + (f_M_power_JI x2 x4))]) ⟨hx, hb, hml, hown, hts⟩ (c_M_moved_JI l _ t0 t1 t2 v7 x4 hk_x4) (pr_pre hRT) (gw_call (k := 2) hts tw_582 tw_583 tw_4 tw_584 (by decide +kernel) rfl rfl ⟨Nat.le_of_ble_eq_true rfl, Nat.le_of_ble_eq_true rfl⟩) rfl hl.1 rfl (Nat.le_of_ble_eq_true rfl) ⟨Nat.zero_le _, Nat.zero_le _⟩ d_M_multiply_JJI_163 ?_
              refine lv_isub hx hb d_M_multiply_JJI_166 ?_
              refine lv_lload hx hb d_M_multiply_JJI_167 (lv_at hl 0 rfl) ?_
              refine lv_iload hx hb d_M_multiply_JJI_169 (lv_at hl 5 rfl) ?_
              refine pu_i (As := [.long v8, .int x4]) (rest := [.int (((f_M_power_JI x0 x4) + (f_M_power_JI x2 x4)) - (f_M_moved_JI v7 x4))]) ⟨hx, hb, hml, hown, hts⟩ (c_M_moved_JI l _ t0 t1 t2 v8 x4 hk_x4) (pr_pre hRT) (gw_call (k := 2) hts tw_582 tw_583 tw_4 tw_584 (by decide +kernel) rfl rfl ⟨Nat.le_of_ble_eq_true rfl, Nat.le_of_ble_eq_true rfl⟩) rfl hl.1 rfl (Nat.le_of_ble_eq_true rfl) ⟨Nat.zero_le _, Nat.zero_le _⟩ d_M_multiply_JJI_171 ?_
              refine lv_isub hx hb d_M_multiply_JJI_174 ?_
              refine lv_topi (fun v9 e9 => ?_)
              refine lv_istore (lv' := [(10, .int v9), (8, .long v8), (6, .long v7), (5, .int s0), (0, .long x0), (2, .long x2), (4, .int x4)]) hx hb d_M_multiply_JJI_175 hl (by decide) rfl (fun ls hl => ?_)
              refine lv_lload hx hb d_M_multiply_JJI_177 (lv_at hl 2 rfl) ?_
              refine lv_lload hx hb d_M_multiply_JJI_179 (lv_at hl 2 rfl) ?_
              refine lv_iload hx hb d_M_multiply_JJI_181 (lv_at hl 6 rfl) ?_
              refine pu_i (As := [.long v7, .int x4]) (rest := [.long v7]) ⟨hx, hb, hml, hown, hts⟩ (c_M_moved_JI l _ t0 t1 t2 v7 x4 hk_x4) (pr_pre hRT) (gw_call (k := 2) hts tw_582 tw_583 tw_4 tw_584 (by decide +kernel) rfl rfl ⟨Nat.le_of_ble_eq_true rfl, Nat.le_of_ble_eq_true rfl⟩) rfl hl.1 rfl (Nat.le_of_ble_eq_true rfl) ⟨Nat.zero_le _, Nat.zero_le _⟩ d_M_multiply_JJI_183 ?_
              refine lv_lshl (v := j_shl v7 (f_M_moved_JI v7 x4)) hx hb d_M_multiply_JJI_186 rfl ?_
              refine lv_topl (fun v10 e10 => ?_)
              refine lv_lstore (lv' := [(6, .long v10), (10, .int v9), (8, .long v8), (5, .int s0), (0, .long x0), (2, .long x2), (4, .int x4)]) hx hb d_M_multiply_JJI_187 hl (by decide) rfl (fun ls hl => ?_)
              refine lv_lload hx hb d_M_multiply_JJI_189 (lv_at hl 2 rfl) ?_
              refine lv_lload hx hb d_M_multiply_JJI_191 (lv_at hl 2 rfl) ?_
              refine lv_iload hx hb d_M_multiply_JJI_193 (lv_at hl 6 rfl) ?_
              refine pu_i (As := [.long v8, .int x4]) (rest := [.long v8]) ⟨hx, hb, hml, hown, hts⟩ (c_M_moved_JI l _ t0 t1 t2 v8 x4 hk_x4) (pr_pre hRT) (gw_call (k := 2) hts tw_582 tw_583 tw_4 tw_584 (by decide +kernel) rfl rfl ⟨Nat.le_of_ble_eq_true rfl, Nat.le_of_ble_eq_true rfl⟩) rfl hl.1 rfl (Nat.le_of_ble_eq_true rfl) ⟨Nat.zero_le _, Nat.zero_le _⟩ d_M_multiply_JJI_195 ?_
              refine lv_lshl (v := j_shl v8 (f_M_moved_JI v8 x4)) hx hb d_M_multiply_JJI_198 rfl ?_
              refine lv_topl (fun v11 e11 => ?_)
              refine lv_lstore (lv' := [(8, .long v11), (6, .long v10), (10, .int v9), (5, .int s0), (0, .long x0), (2, .long x2), (4, .int x4)]) hx hb d_M_multiply_JJI_199 hl (by decide) rfl (fun ls hl => ?_)
              refine lv_iload hx hb d_M_multiply_JJI_201 (lv_at hl 6 rfl) ?_
              refine lv_iconst (v := 1) hx hb d_M_multiply_JJI_203 (by decide) ?_
              refine lv_icmp_ne (tgt := 222) hx hb d_M_multiply_JJI_204 (by decide) (fun c12 => ?_) (fun c12 => ?_)
              · refine lv_lload hx hb d_M_multiply_JJI_222 (lv_at hl 1 rfl) ?_
                refine lv_bipush (v := (27 : Int32)) hx hb d_M_multiply_JJI_224 (by decide) ?_
                refine lv_lshr (v := j_shr v10 (27 : Int32)) hx hb d_M_multiply_JJI_226 rfl ?_
                refine lv_topl (fun v13 e13 => ?_)
                refine lv_lstore (lv' := [(11, .long v13), (8, .long v11), (6, .long v10), (10, .int v9), (5, .int s0), (0, .long x0), (2, .long x2), (4, .int x4)]) hx hb d_M_multiply_JJI_227 hl (by decide) rfl (fun ls hl => ?_)
                refine lv_lload hx hb d_M_multiply_JJI_229 (lv_at hl 2 rfl) ?_
                refine lv_ldc2 (v := (134217727 : Int64)) hx hb hown (hts _ (gm tw_585)) d_M_multiply_JJI_231 ?_
                refine lv_land hx hb d_M_multiply_JJI_234 ?_
                refine lv_topl (fun v14 e14 => ?_)
                refine lv_lstore (lv' := [(13, .long v14), (11, .long v13), (8, .long v11), (6, .long v10), (10, .int v9), (5, .int s0), (0, .long x0), (2, .long x2), (4, .int x4)]) hx hb d_M_multiply_JJI_235 hl (by decide) rfl (fun ls hl => ?_)
                refine lv_lload hx hb d_M_multiply_JJI_237 (lv_at hl 2 rfl) ?_
                refine lv_bipush (v := (27 : Int32)) hx hb d_M_multiply_JJI_239 (by decide) ?_
                refine lv_lshr (v := j_shr v11 (27 : Int32)) hx hb d_M_multiply_JJI_241 rfl ?_
                refine lv_topl (fun v15 e15 => ?_)
                refine lv_lstore (lv' := [(15, .long v15), (13, .long v14), (11, .long v13), (8, .long v11), (6, .long v10), (10, .int v9), (5, .int s0), (0, .long x0), (2, .long x2), (4, .int x4)]) hx hb d_M_multiply_JJI_242 hl (by decide) rfl (fun ls hl => ?_)
                refine lv_lload hx hb d_M_multiply_JJI_244 (lv_at hl 3 rfl) ?_
                refine lv_ldc2 (v := (134217727 : Int64)) hx hb hown (hts _ (gm tw_585)) d_M_multiply_JJI_246 ?_
                refine lv_land hx hb d_M_multiply_JJI_249 ?_
                refine lv_topl (fun v16 e16 => ?_)
                refine lv_lstore (lv' := [(17, .long v16), (15, .long v15), (13, .long v14), (11, .long v13), (8, .long v11), (6, .long v10), (10, .int v9), (5, .int s0), (0, .long x0), (2, .long x2), (4, .int x4)]) hx hb d_M_multiply_JJI_250 hl (by decide) rfl (fun ls hl => ?_)
                refine lv_lload hx hb d_M_multiply_JJI_252 (lv_at hl 3 rfl) ?_
                refine lv_lload hx hb d_M_multiply_JJI_254 (lv_at hl 0 rfl) ?_
                refine lv_lmul hx hb d_M_multiply_JJI_256 ?_
                refine lv_lload hx hb d_M_multiply_JJI_257 (lv_at hl 2 rfl) ?_
                refine lv_lload hx hb d_M_multiply_JJI_259 (lv_at hl 1 rfl) ?_
                refine lv_lmul hx hb d_M_multiply_JJI_261 ?_
                refine lv_ladd hx hb d_M_multiply_JJI_262 ?_
                refine lv_topl (fun v17 e17 => ?_)
                refine lv_lstore (lv' := [(19, .long v17), (17, .long v16), (15, .long v15), (13, .long v14), (11, .long v13), (8, .long v11), (6, .long v10), (10, .int v9), (5, .int s0), (0, .long x0), (2, .long x2), (4, .int x4)]) hx hb d_M_multiply_JJI_263 hl (by decide) rfl (fun ls hl => ?_)
                refine lv_lload hx hb d_M_multiply_JJI_265 (lv_at hl 3 rfl) ?_
                refine lv_lload hx hb d_M_multiply_JJI_267 (lv_at hl 1 rfl) ?_
                refine lv_lmul hx hb d_M_multiply_JJI_269 ?_
                refine lv_lload hx hb d_M_multiply_JJI_270 (lv_at hl 0 rfl) ?_
                refine lv_ldc2 (v := (134217727 : Int64)) hx hb hown (hts _ (gm tw_585)) d_M_multiply_JJI_272 ?_
                refine lv_land hx hb d_M_multiply_JJI_275 ?_
                refine lv_bipush (v := (27 : Int32)) hx hb d_M_multiply_JJI_276 (by decide) ?_
                refine lv_lshl (v := j_shl (v17 &&& (134217727 : Int64)) (27 : Int32)) hx hb d_M_multiply_JJI_278 rfl ?_
                refine lv_ladd hx hb d_M_multiply_JJI_279 ?_
                refine lv_topl (fun v18 e18 => ?_)
                refine lv_lstore (lv' := [(21, .long v18), (19, .long v17), (17, .long v16), (15, .long v15), (13, .long v14), (11, .long v13), (8, .long v11), (6, .long v10), (10, .int v9), (5, .int s0), (0, .long x0), (2, .long x2), (4, .int x4)]) hx hb d_M_multiply_JJI_280 hl (by decide) rfl (fun ls hl => ?_)
                refine lv_lload hx hb d_M_multiply_JJI_282 (lv_at hl 5 rfl) ?_
                refine lv_lload hx hb d_M_multiply_JJI_284 (lv_at hl 3 rfl) ?_
                refine lv_lmul hx hb d_M_multiply_JJI_286 ?_
                refine lv_lload hx hb d_M_multiply_JJI_287 (lv_at hl 1 rfl) ?_
                refine lv_bipush (v := (27 : Int32)) hx hb d_M_multiply_JJI_289 (by decide) ?_
                refine lv_lshr (v := j_shr v17 (27 : Int32)) hx hb d_M_multiply_JJI_291 rfl ?_
                refine lv_ladd hx hb d_M_multiply_JJI_292 ?_
                refine lv_lload hx hb d_M_multiply_JJI_293 (lv_at hl 0 rfl) ?_
                refine lv_bipush (v := (54 : Int32)) hx hb d_M_multiply_JJI_295 (by decide) ?_
                refine lv_lshr (v := j_shr v18 (54 : Int32)) hx hb d_M_multiply_JJI_297 rfl ?_
                refine lv_ladd hx hb d_M_multiply_JJI_298 ?_
                refine lv_topl (fun v19 e19 => ?_)
                refine lv_lstore (lv' := [(23, .long v19), (21, .long v18), (19, .long v17), (17, .long v16), (15, .long v15), (13, .long v14), (11, .long v13), (8, .long v11), (6, .long v10), (10, .int v9), (5, .int s0), (0, .long x0), (2, .long x2), (4, .int x4)]) hx hb d_M_multiply_JJI_299 hl (by decide) rfl (fun ls hl => ?_)
                refine lv_lload hx hb d_M_multiply_JJI_301 (lv_at hl 1 rfl) ?_
                refine lv_ldc2 (v := (18014398509481983 : Int64)) hx hb hown (hts _ (gm tw_586)) d_M_multiply_JJI_303 ?_
                refine lv_land hx hb d_M_multiply_JJI_306 ?_
                refine lv_topl (fun v20 e20 => ?_)
                refine lv_lstore (lv' := [(21, .long v20), (23, .long v19), (19, .long v17), (17, .long v16), (15, .long v15), (13, .long v14), (11, .long v13), (8, .long v11), (6, .long v10), (10, .int v9), (5, .int s0), (0, .long x0), (2, .long x2), (4, .int x4)]) hx hb d_M_multiply_JJI_307 hl (by decide) rfl (fun ls hl => ?_)
                refine lv_iload hx hb d_M_multiply_JJI_309 (lv_at hl 10 rfl) ?_
                refine lv_lload hx hb d_M_multiply_JJI_311 (lv_at hl 1 rfl) ?_
                refine lv_bipush (v := (8 : Int32)) hx hb d_M_multiply_JJI_313 (by decide) ?_
                refine lv_lshl (v := j_shl v19 (8 : Int32)) hx hb d_M_multiply_JJI_315 rfl ?_
                refine lv_lload hx hb d_M_multiply_JJI_316 (lv_at hl 0 rfl) ?_
                refine lv_bipush (v := (46 : Int32)) hx hb d_M_multiply_JJI_318 (by decide) ?_
                refine lv_lshr (v := j_shr v20 (46 : Int32)) hx hb d_M_multiply_JJI_320 rfl ?_
                refine lv_lor hx hb d_M_multiply_JJI_321 ?_
                refine lv_iload hx hb d_M_multiply_JJI_322 (lv_at hl 9 rfl) ?_
                refine lv_bipush (v := (46 : Int32)) hx hb d_M_multiply_JJI_324 (by decide) ?_
                refine lv_iadd hx hb d_M_multiply_JJI_326 ?_
                refine lv_lload hx hb d_M_multiply_JJI_327 (lv_at hl 0 rfl) ?_
                refine lv_ldc2 (v := (70368744177663 : Int64)) hx hb hown (hts _ (gm tw_587)) d_M_multiply_JJI_329 ?_
                refine lv_land hx hb d_M_multiply_JJI_332 ?_
                refine lv_lconst (v := (0 : Int64)) hx hb d_M_multiply_JJI_333 (by decide) ?_
                refine W.lcmp hx hb d_M_multiply_JJI_334 ?_
                refine lv_if_eq (tgt := 342) hx hb d_M_multiply_JJI_335 (by decide) (fun c21 => ?_) (fun c21 => ?_)
                · refine lv_iconst (v := 0) hx hb d_M_multiply_JJI_342 (by decide) ?_
                  refine lv_iload hx hb d_M_multiply_JJI_343 (lv_at hl 13 rfl) ?_
                  refine pu_l (As := [.int s0, .long ((j_shl v19 (8 : Int32)) ||| (j_shr v20 (46 : Int32))), .int (v9 + (46 : Int32)), .int (0 : Int32), .int x4]) (rest := []) ⟨hx, hb, hml, hown, hts⟩ (c_M_rounded_ZJIZI l _ t0 t1 t2 s0 ((j_shl v19 (8 : Int32)) ||| (j_shr v20 (46 : Int32))) (v9 + (46 : Int32)) (0 : Int32) x4 hk_x4) (pr_pre hRT) (gw_call (k := 5) hts tw_539 tw_540 tw_4 tw_541 (by decide +kernel) rfl rfl ⟨Nat.le_of_ble_eq_true rfl, Nat.le_of_ble_eq_true rfl⟩) rfl hl.1 rfl (Nat.le_of_ble_eq_true rfl) ⟨Nat.zero_le _, Nat.zero_le _⟩ d_M_multiply_JJI_345 ?_
                  exact pu_lret hx hb hr hlocks d_M_multiply_JJI_348 (by have qe7 := e7.symm; have qe8 := e8.symm; have qe9 := e9.symm; have qe10 := e10.symm; have qe11 := e11.symm; have qe13 := e13.symm; have qe14 := e14.symm; have qe15 := e15.symm; have qe16 := e16.symm; have qe17 := e17.symm; have qe18 := e18.symm; have qe19 := e19.symm; have qe20 := e20.symm; subst qe7 qe8 qe9 qe10 qe11 qe13 qe14 qe15 qe16 qe17 qe18 qe19 qe20; exact Eq.symm (hw.trans (Eq.trans (if_pos c1) (Eq.trans (if_pos c2) (Eq.trans (if_pos c3) (Eq.trans (if_pos c4) (Eq.trans (if_pos c5) (Eq.trans (if_pos c6) (Eq.trans (if_neg c12) (if_pos c21))))))))))
                · refine lv_iconst (v := 1) hx hb d_M_multiply_JJI_338 (by decide) ?_
                  refine lv_goto (tgt := 343) hx hb d_M_multiply_JJI_339 (by decide) ?_
                  refine lv_iload hx hb d_M_multiply_JJI_343 (lv_at hl 13 rfl) ?_
                  refine pu_l (As := [.int s0, .long ((j_shl v19 (8 : Int32)) ||| (j_shr v20 (46 : Int32))), .int (v9 + (46 : Int32)), .int (1 : Int32), .int x4]) (rest := []) ⟨hx, hb, hml, hown, hts⟩ (c_M_rounded_ZJIZI l _ t0 t1 t2 s0 ((j_shl v19 (8 : Int32)) ||| (j_shr v20 (46 : Int32))) (v9 + (46 : Int32)) (1 : Int32) x4 hk_x4) (pr_pre hRT) (gw_call (k := 5) hts tw_539 tw_540 tw_4 tw_541 (by decide +kernel) rfl rfl ⟨Nat.le_of_ble_eq_true rfl, Nat.le_of_ble_eq_true rfl⟩) rfl hl.1 rfl (Nat.le_of_ble_eq_true rfl) ⟨Nat.zero_le _, Nat.zero_le _⟩ d_M_multiply_JJI_345 ?_
                  exact pu_lret hx hb hr hlocks d_M_multiply_JJI_348 (by have qe7 := e7.symm; have qe8 := e8.symm; have qe9 := e9.symm; have qe10 := e10.symm; have qe11 := e11.symm; have qe13 := e13.symm; have qe14 := e14.symm; have qe15 := e15.symm; have qe16 := e16.symm; have qe17 := e17.symm; have qe18 := e18.symm; have qe19 := e19.symm; have qe20 := e20.symm; subst qe7 qe8 qe9 qe10 qe11 qe13 qe14 qe15 qe16 qe17 qe18 qe19 qe20; exact Eq.symm (hw.trans (Eq.trans (if_pos c1) (Eq.trans (if_pos c2) (Eq.trans (if_pos c3) (Eq.trans (if_pos c4) (Eq.trans (if_pos c5) (Eq.trans (if_pos c6) (Eq.trans (if_neg c12) (if_neg c21))))))))))
              · refine lv_iload hx hb d_M_multiply_JJI_207 (lv_at hl 3 rfl) ?_
                refine lv_lload hx hb d_M_multiply_JJI_209 (lv_at hl 1 rfl) ?_
                refine lv_lload hx hb d_M_multiply_JJI_211 (lv_at hl 0 rfl) ?_
                refine lv_lmul hx hb d_M_multiply_JJI_213 ?_
                refine lv_iload hx hb d_M_multiply_JJI_214 (lv_at hl 2 rfl) ?_
                refine lv_iload hx hb d_M_multiply_JJI_216 (lv_at hl 6 rfl) ?_
                refine pu_l (As := [.int s0, .long (v10 * v11), .int v9, .int x4]) (rest := []) ⟨hx, hb, hml, hown, hts⟩ (c_M_exact_ZJII l _ t0 t1 t2 s0 (v10 * v11) v9 x4 hk_x4) (pr_pre hRT) (gw_call (k := 4) hts tw_536 tw_537 tw_4 tw_538 (by decide +kernel) rfl rfl ⟨Nat.le_of_ble_eq_true rfl, Nat.le_of_ble_eq_true rfl⟩) rfl hl.1 rfl (Nat.le_of_ble_eq_true rfl) ⟨Nat.zero_le _, Nat.zero_le _⟩ d_M_multiply_JJI_218 ?_
                exact pu_lret hx hb hr hlocks d_M_multiply_JJI_221 (by have qe7 := e7.symm; have qe8 := e8.symm; have qe9 := e9.symm; have qe10 := e10.symm; have qe11 := e11.symm; subst qe7 qe8 qe9 qe10 qe11; exact Eq.symm (hw.trans (Eq.trans (if_pos c1) (Eq.trans (if_pos c2) (Eq.trans (if_pos c3) (Eq.trans (if_pos c4) (Eq.trans (if_pos c5) (Eq.trans (if_pos c6) (if_pos c12)))))))))
            · refine lv_lconst (v := (0 : Int64)) hx hb d_M_multiply_JJI_121 (by decide) ?_
              refine lv_iload hx hb d_M_multiply_JJI_122 (lv_at hl 0 rfl) ?_
              refine lv_iload hx hb d_M_multiply_JJI_124 (lv_at hl 3 rfl) ?_
              refine pu_l (As := [.long (0 : Int64), .int s0, .int x4]) (rest := []) ⟨hx, hb, hml, hown, hts⟩ (c_M_signed_JZI l _ (0 : Int64) s0 x4) pu_pre (gw_call (k := 3) hts tw_522 tw_523 tw_4 tw_524 (by decide +kernel) rfl rfl ⟨Nat.le_of_ble_eq_true rfl, Nat.le_of_ble_eq_true rfl⟩) rfl hl.1 rfl (Nat.le_of_ble_eq_true rfl) ⟨Nat.zero_le _, Nat.zero_le _⟩ d_M_multiply_JJI_126 ?_
              exact pu_lret hx hb hr hlocks d_M_multiply_JJI_129 (by exact Eq.symm (hw.trans (Eq.trans (if_pos c1) (Eq.trans (if_pos c2) (Eq.trans (if_pos c3) (Eq.trans (if_pos c4) (Eq.trans (if_pos c5) (if_neg c6))))))))
        · exact k_M_multiply_JJI_64 C0 hRT x0 x2 x4 s0 hk_x4 ls (lv_sub hl [1, 2, 3, 0] rfl) (by exact (hw.trans (Eq.trans (if_pos c1) (Eq.trans (if_pos c2) (Eq.trans (if_pos c3) (if_neg c4))))))
    · refine lv_iload hx hb d_M_multiply_JJI_40 (lv_at hl 3 rfl) ?_
      refine pu_l (As := [.int x4]) (rest := []) ⟨hx, hb, hml, hown, hts⟩ (c_M_none_I l _ x4) pu_pre (gw_call (k := 1) hts tw_511 tw_512 tw_4 tw_513 (by decide +kernel) rfl rfl ⟨Nat.le_of_ble_eq_true rfl, Nat.le_of_ble_eq_true rfl⟩) rfl hl.1 rfl (Nat.le_of_ble_eq_true rfl) ⟨Nat.zero_le _, Nat.zero_le _⟩ d_M_multiply_JJI_42 ?_
      exact pu_lret hx hb hr hlocks d_M_multiply_JJI_45 (by exact Eq.symm (hw.trans (Eq.trans (if_pos c1) (if_neg c2))))
def f_M_multiply_JJI (x0 : Int64) (x2 : Int64) (x4 : Int32) : Int64 :=
  if (f_M_minus_JI x0 x4) = (f_M_minus_JI x2 x4) then
    f_M_multiply_JJI_20 x0 x2 x4 (0 : Int32)
  else
    f_M_multiply_JJI_20 x0 x2 x4 (1 : Int32)
set_option maxHeartbeats 4000000 in
set_option maxRecDepth 100000 in
theorem c_M_multiply_JJI (l : Launch) (h : Heap) (t0 t1 t2 : Nat) (x0 : Int64) (x2 : Int64) (x4 : Int32) (hk_x4 : vp_in x4 2) : Met l y_M_multiply_JJI (gw y_M_multiply_JJI b_M_multiply_JJI 25 (some .long)) { frames := 4, cells := 0, slots := 0, locals := 101 } (pr_Pc [.long x0, .long x2, .int x4] h t0 t1 t2) (pu_Ml (f_M_multiply_JJI x0 x2 x4) h) 0 0 (fun _ => False) := by
  refine Met.ofW (cc := b_M_multiply_JJI) (maxL := 25) (ret := (some .long)) (by decide) rfl ?_
  intro p e s m args below meth c s₁ B hml hv
  obtain ⟨rfl, hh, hRT⟩ := hv
  subst hh
  obtain ⟨hT0, hT1, hT2⟩ := id hRT
  have hx := B.exec
  have hb := B.bytes
  have hr := B.returns
  have hts := atoms_spec (ws := (gw y_M_multiply_JJI b_M_multiply_JJI 25 (some .long))) B.pre
  have hown : s.vm.findClass "MotionLabModel" = some m.cls := findClass_of_methodNamed B.named
  have hlocks := B.notSynchronized
  have C0 : pu_C p s m _ meth c b_M_multiply_JJI 25 "MotionLabModel" (some .long) (gw y_M_multiply_JJI b_M_multiply_JJI 25 (some .long)) := ⟨hx, hb, hml, hown, hts, hr, hlocks⟩
  have hl := lv_entry ([.long x0, .long x2, .int x4]) (n := 25) (Nat.le_of_ble_eq_true rfl)
  rw [lg_entry_eq]
  generalize (lg_sl ([.long x0, .long x2, .int x4]) ++ List.replicate (25 - (lg_sl ([.long x0, .long x2, .int x4])).length) Slot.unset).toArray = ls at hl ⊢
  have hl : lv_has ls 25 [(0, .long x0), (2, .long x2), (4, .int x4)] := hl
  refine lv_lload_n hx hb d_M_multiply_JJI_0 rfl (lv_at hl 0 rfl) ?_
  refine lv_iload hx hb d_M_multiply_JJI_1 (lv_at hl 2 rfl) ?_
  refine pu_i (As := [.long x0, .int x4]) (rest := []) ⟨hx, hb, hml, hown, hts⟩ (c_M_minus_JI l _ x0 x4) pu_pre (gw_call (k := 2) hts tw_519 tw_520 tw_4 tw_521 (by decide +kernel) rfl rfl ⟨Nat.le_of_ble_eq_true rfl, Nat.le_of_ble_eq_true rfl⟩) rfl hl.1 rfl (Nat.le_of_ble_eq_true rfl) ⟨Nat.zero_le _, Nat.zero_le _⟩ d_M_multiply_JJI_3 ?_
  refine lv_lload_n hx hb d_M_multiply_JJI_6 rfl (lv_at hl 1 rfl) ?_
  refine lv_iload hx hb d_M_multiply_JJI_7 (lv_at hl 2 rfl) ?_
  refine pu_i (As := [.long x2, .int x4]) (rest := [.int (f_M_minus_JI x0 x4)]) ⟨hx, hb, hml, hown, hts⟩ (c_M_minus_JI l _ x2 x4) pu_pre (gw_call (k := 2) hts tw_519 tw_520 tw_4 tw_521 (by decide +kernel) rfl rfl ⟨Nat.le_of_ble_eq_true rfl, Nat.le_of_ble_eq_true rfl⟩) rfl hl.1 rfl (Nat.le_of_ble_eq_true rfl) ⟨Nat.zero_le _, Nat.zero_le _⟩ d_M_multiply_JJI_9 ?_
  refine lv_icmp_eq (tgt := 19) hx hb d_M_multiply_JJI_12 (by decide) (fun c1 => ?_) (fun c1 => ?_)
  · refine lv_iconst (v := 0) hx hb d_M_multiply_JJI_19 (by decide) ?_
    exact k_M_multiply_JJI_20 C0 hRT x0 x2 x4 (0 : Int32) hk_x4 ls (lv_sub hl [0, 1, 2] rfl) (by exact (if_pos c1))
  · refine lv_iconst (v := 1) hx hb d_M_multiply_JJI_15 (by decide) ?_
    refine lv_goto (tgt := 20) hx hb d_M_multiply_JJI_16 (by decide) ?_
    exact k_M_multiply_JJI_20 C0 hRT x0 x2 x4 (1 : Int32) hk_x4 ls (lv_sub hl [0, 1, 2] rfl) (by exact (if_neg c1))
-- ===== MotionLabModel.multiply(JJ)J
abbrev y_M_multiply_JJ : MethodName := ⟨"MotionLabModel", "multiply", "(JJ)J"⟩
abbrev b_M_multiply_JJ : ByteArray := prog_6_method_28_code
theorem d_M_multiply_JJ_0 : decode b_M_multiply_JJ 0 = .ok (.lload_n 0, 1) := by decide +kernel
theorem d_M_multiply_JJ_1 : decode b_M_multiply_JJ 1 = .ok (.lload_n 2, 1) := by decide +kernel
theorem d_M_multiply_JJ_2 : decode b_M_multiply_JJ 2 = .ok (.iconst 0, 1) := by decide +kernel
theorem d_M_multiply_JJ_3 : decode b_M_multiply_JJ 3 = .ok (.invokestatic 110, 3) := by decide +kernel
theorem d_M_multiply_JJ_6 : decode b_M_multiply_JJ 6 = .ok (.lreturn, 1) := by decide +kernel
def f_M_multiply_JJ (x0 : Int64) (x2 : Int64) : Int64 :=
  f_M_multiply_JJI x0 x2 (0 : Int32)
set_option maxHeartbeats 4000000 in
set_option maxRecDepth 100000 in
theorem c_M_multiply_JJ (l : Launch) (h : Heap) (t0 t1 t2 : Nat) (x0 : Int64) (x2 : Int64) : Met l y_M_multiply_JJ (gw y_M_multiply_JJ b_M_multiply_JJ 4 (some .long)) { frames := 5, cells := 0, slots := 0, locals := 145 } (pr_Pc [.long x0, .long x2] h t0 t1 t2) (pu_Ml (f_M_multiply_JJ x0 x2) h) 0 0 (fun _ => False) := by
  refine Met.ofW (cc := b_M_multiply_JJ) (maxL := 4) (ret := (some .long)) (by decide) rfl ?_
  intro p e s m args below meth c s₁ B hml hv
  obtain ⟨rfl, hh, hRT⟩ := hv
  subst hh
  obtain ⟨hT0, hT1, hT2⟩ := id hRT
  have hx := B.exec
  have hb := B.bytes
  have hr := B.returns
  have hts := atoms_spec (ws := (gw y_M_multiply_JJ b_M_multiply_JJ 4 (some .long))) B.pre
  have hown : s.vm.findClass "MotionLabModel" = some m.cls := findClass_of_methodNamed B.named
  have hlocks := B.notSynchronized
  have C0 : pu_C p s m _ meth c b_M_multiply_JJ 4 "MotionLabModel" (some .long) (gw y_M_multiply_JJ b_M_multiply_JJ 4 (some .long)) := ⟨hx, hb, hml, hown, hts, hr, hlocks⟩
  have hl := lv_entry ([.long x0, .long x2]) (n := 4) (Nat.le_of_ble_eq_true rfl)
  rw [lg_entry_eq]
  generalize (lg_sl ([.long x0, .long x2]) ++ List.replicate (4 - (lg_sl ([.long x0, .long x2])).length) Slot.unset).toArray = ls at hl ⊢
  have hl : lv_has ls 4 [(0, .long x0), (2, .long x2)] := hl
  refine lv_lload_n hx hb d_M_multiply_JJ_0 rfl (lv_at hl 0 rfl) ?_
  refine lv_lload_n hx hb d_M_multiply_JJ_1 rfl (lv_at hl 1 rfl) ?_
  refine lv_iconst (v := 0) hx hb d_M_multiply_JJ_2 (by decide) ?_
  refine pu_l (As := [.long x0, .long x2, .int (0 : Int32)]) (rest := []) ⟨hx, hb, hml, hown, hts⟩ (c_M_multiply_JJI l _ t0 t1 t2 x0 x2 (0 : Int32) (in_of (by decide) (by decide))) (pr_pre hRT) (gw_call (k := 3) hts tw_576 tw_577 tw_4 tw_578 (by decide +kernel) rfl rfl ⟨Nat.le_of_ble_eq_true rfl, Nat.le_of_ble_eq_true rfl⟩) rfl hl.1 rfl (Nat.le_of_ble_eq_true rfl) ⟨Nat.zero_le _, Nat.zero_le _⟩ d_M_multiply_JJ_3 ?_
  exact pu_lret hx hb hr hlocks d_M_multiply_JJ_6 (by exact Eq.symm rfl)
-- ===== MotionLabModel.turned(JI)J
abbrev y_M_turned_JI : MethodName := ⟨"MotionLabModel", "turned", "(JI)J"⟩
abbrev b_M_turned_JI : ByteArray := prog_6_method_10_code
theorem d_M_turned_JI_0 : decode b_M_turned_JI 0 = .ok (.lload_n 0, 1) := by decide +kernel
theorem d_M_turned_JI_1 : decode b_M_turned_JI 1 = .ok (.lconst 1, 1) := by decide +kernel
theorem d_M_turned_JI_2 : decode b_M_turned_JI 2 = .ok (.iload_n 2, 1) := by decide +kernel
theorem d_M_turned_JI_3 : decode b_M_turned_JI 3 = .ok (.invokestatic 1, 3) := by decide +kernel
theorem d_M_turned_JI_6 : decode b_M_turned_JI 6 = .ok (.iconst 1, 1) := by decide +kernel
theorem d_M_turned_JI_7 : decode b_M_turned_JI 7 = .ok (.isub, 1) := by decide +kernel
theorem d_M_turned_JI_8 : decode b_M_turned_JI 8 = .ok (.lshl, 1) := by decide +kernel
theorem d_M_turned_JI_9 : decode b_M_turned_JI 9 = .ok (.lxor, 1) := by decide +kernel
theorem d_M_turned_JI_10 : decode b_M_turned_JI 10 = .ok (.lreturn, 1) := by decide +kernel
def f_M_turned_JI (x0 : Int64) (x2 : Int32) : Int64 :=
  x0 ^^^ (j_shl (1 : Int64) ((f_M_wide_I x2) - (1 : Int32)))
set_option maxHeartbeats 4000000 in
set_option maxRecDepth 100000 in
theorem c_M_turned_JI (l : Launch) (h : Heap) (x0 : Int64) (x2 : Int32) : Met l y_M_turned_JI (gw y_M_turned_JI b_M_turned_JI 3 (some .long)) { frames := 1, cells := 0, slots := 0, locals := 20 } (pu_Pc [.long x0, .int x2] h) (pu_Ml (f_M_turned_JI x0 x2) h) 0 0 (fun _ => False) := by
  refine Met.ofW (cc := b_M_turned_JI) (maxL := 3) (ret := (some .long)) (by decide) rfl ?_
  intro p e s m args below meth c s₁ B hml hv
  obtain ⟨rfl, hh⟩ := hv
  subst hh
  have hx := B.exec
  have hb := B.bytes
  have hr := B.returns
  have hts := atoms_spec (ws := (gw y_M_turned_JI b_M_turned_JI 3 (some .long))) B.pre
  have hown : s.vm.findClass "MotionLabModel" = some m.cls := findClass_of_methodNamed B.named
  have hlocks := B.notSynchronized
  have C0 : pu_C p s m _ meth c b_M_turned_JI 3 "MotionLabModel" (some .long) (gw y_M_turned_JI b_M_turned_JI 3 (some .long)) := ⟨hx, hb, hml, hown, hts, hr, hlocks⟩
  have hl := lv_entry ([.long x0, .int x2]) (n := 3) (Nat.le_of_ble_eq_true rfl)
  rw [lg_entry_eq]
  generalize (lg_sl ([.long x0, .int x2]) ++ List.replicate (3 - (lg_sl ([.long x0, .int x2])).length) Slot.unset).toArray = ls at hl ⊢
  have hl : lv_has ls 3 [(0, .long x0), (2, .int x2)] := hl
  refine lv_lload_n hx hb d_M_turned_JI_0 rfl (lv_at hl 0 rfl) ?_
  refine lv_lconst (v := (1 : Int64)) hx hb d_M_turned_JI_1 (by decide) ?_
  refine lv_iload_n hx hb d_M_turned_JI_2 rfl (lv_at hl 1 rfl) ?_
  refine pu_i (As := [.int x2]) (rest := [.long (1 : Int64), .long x0]) ⟨hx, hb, hml, hown, hts⟩ (c_M_wide_I l _ x2) pu_pre (gw_call (k := 1) hts tw_504 tw_505 tw_4 tw_506 (by decide +kernel) rfl rfl ⟨Nat.le_of_ble_eq_true rfl, Nat.le_of_ble_eq_true rfl⟩) rfl hl.1 rfl (Nat.le_of_ble_eq_true rfl) ⟨Nat.zero_le _, Nat.zero_le _⟩ d_M_turned_JI_3 ?_
  refine lv_iconst (v := 1) hx hb d_M_turned_JI_6 (by decide) ?_
  refine lv_isub hx hb d_M_turned_JI_7 ?_
  refine lv_lshl (v := j_shl (1 : Int64) ((f_M_wide_I x2) - (1 : Int32))) hx hb d_M_turned_JI_8 rfl ?_
  refine lv_lxor hx hb d_M_turned_JI_9 ?_
  exact pu_lret hx hb hr hlocks d_M_turned_JI_10 (by exact Eq.symm rfl)
end
section
-- ===== MotionLabModel.add(JJI)J
abbrev y_M_add_JJI : MethodName := ⟨"MotionLabModel", "add", "(JJI)J"⟩
abbrev b_M_add_JJI : ByteArray := prog_6_method_15_code
theorem d_M_add_JJI_0 : decode b_M_add_JJI 0 = .ok (.lload_n 0, 1) := by decide +kernel
theorem d_M_add_JJI_1 : decode b_M_add_JJI 1 = .ok (.iload 4, 2) := by decide +kernel
theorem d_M_add_JJI_3 : decode b_M_add_JJI 3 = .ok (.invokestatic 56, 3) := by decide +kernel
theorem d_M_add_JJI_6 : decode b_M_add_JJI 6 = .ok (.ifCond .ne 12, 3) := by decide +kernel
theorem d_M_add_JJI_9 : decode b_M_add_JJI 9 = .ok (.lload_n 2, 1) := by decide +kernel
theorem d_M_add_JJI_10 : decode b_M_add_JJI 10 = .ok (.iload 4, 2) := by decide +kernel
theorem d_M_add_JJI_12 : decode b_M_add_JJI 12 = .ok (.invokestatic 56, 3) := by decide +kernel
theorem d_M_add_JJI_15 : decode b_M_add_JJI 15 = .ok (.ifCond .eq 9, 3) := by decide +kernel
theorem d_M_add_JJI_18 : decode b_M_add_JJI 18 = .ok (.iload 4, 2) := by decide +kernel
theorem d_M_add_JJI_20 : decode b_M_add_JJI 20 = .ok (.invokestatic 60, 3) := by decide +kernel
theorem d_M_add_JJI_23 : decode b_M_add_JJI 23 = .ok (.lreturn, 1) := by decide +kernel
theorem d_M_add_JJI_24 : decode b_M_add_JJI 24 = .ok (.lload_n 0, 1) := by decide +kernel
theorem d_M_add_JJI_25 : decode b_M_add_JJI 25 = .ok (.iload 4, 2) := by decide +kernel
theorem d_M_add_JJI_27 : decode b_M_add_JJI 27 = .ok (.invokestatic 63, 3) := by decide +kernel
theorem d_M_add_JJI_30 : decode b_M_add_JJI 30 = .ok (.ifCond .ne 12, 3) := by decide +kernel
theorem d_M_add_JJI_33 : decode b_M_add_JJI 33 = .ok (.lload_n 2, 1) := by decide +kernel
theorem d_M_add_JJI_34 : decode b_M_add_JJI 34 = .ok (.iload 4, 2) := by decide +kernel
theorem d_M_add_JJI_36 : decode b_M_add_JJI 36 = .ok (.invokestatic 63, 3) := by decide +kernel
theorem d_M_add_JJI_39 : decode b_M_add_JJI 39 = .ok (.ifCond .eq 48, 3) := by decide +kernel
theorem d_M_add_JJI_42 : decode b_M_add_JJI 42 = .ok (.lload_n 0, 1) := by decide +kernel
theorem d_M_add_JJI_43 : decode b_M_add_JJI 43 = .ok (.iload 4, 2) := by decide +kernel
theorem d_M_add_JJI_45 : decode b_M_add_JJI 45 = .ok (.invokestatic 63, 3) := by decide +kernel
theorem d_M_add_JJI_48 : decode b_M_add_JJI 48 = .ok (.ifCond .eq 24, 3) := by decide +kernel
theorem d_M_add_JJI_51 : decode b_M_add_JJI 51 = .ok (.lload_n 2, 1) := by decide +kernel
theorem d_M_add_JJI_52 : decode b_M_add_JJI 52 = .ok (.iload 4, 2) := by decide +kernel
theorem d_M_add_JJI_54 : decode b_M_add_JJI 54 = .ok (.invokestatic 63, 3) := by decide +kernel
theorem d_M_add_JJI_57 : decode b_M_add_JJI 57 = .ok (.ifCond .eq 15, 3) := by decide +kernel
theorem d_M_add_JJI_60 : decode b_M_add_JJI 60 = .ok (.lload_n 0, 1) := by decide +kernel
theorem d_M_add_JJI_61 : decode b_M_add_JJI 61 = .ok (.lload_n 2, 1) := by decide +kernel
theorem d_M_add_JJI_62 : decode b_M_add_JJI 62 = .ok (.lcmp, 1) := by decide +kernel
theorem d_M_add_JJI_63 : decode b_M_add_JJI 63 = .ok (.ifCond .eq 9, 3) := by decide +kernel
theorem d_M_add_JJI_66 : decode b_M_add_JJI 66 = .ok (.iload 4, 2) := by decide +kernel
theorem d_M_add_JJI_68 : decode b_M_add_JJI 68 = .ok (.invokestatic 60, 3) := by decide +kernel
theorem d_M_add_JJI_71 : decode b_M_add_JJI 71 = .ok (.lreturn, 1) := by decide +kernel
theorem d_M_add_JJI_72 : decode b_M_add_JJI 72 = .ok (.lload_n 0, 1) := by decide +kernel
theorem d_M_add_JJI_73 : decode b_M_add_JJI 73 = .ok (.iload 4, 2) := by decide +kernel
theorem d_M_add_JJI_75 : decode b_M_add_JJI 75 = .ok (.invokestatic 63, 3) := by decide +kernel
theorem d_M_add_JJI_78 : decode b_M_add_JJI 78 = .ok (.ifCond .eq 7, 3) := by decide +kernel
theorem d_M_add_JJI_81 : decode b_M_add_JJI 81 = .ok (.lload_n 0, 1) := by decide +kernel
theorem d_M_add_JJI_82 : decode b_M_add_JJI 82 = .ok (.goto 4, 3) := by decide +kernel
theorem d_M_add_JJI_85 : decode b_M_add_JJI 85 = .ok (.lload_n 2, 1) := by decide +kernel
theorem d_M_add_JJI_86 : decode b_M_add_JJI 86 = .ok (.lreturn, 1) := by decide +kernel
theorem d_M_add_JJI_87 : decode b_M_add_JJI 87 = .ok (.lload_n 0, 1) := by decide +kernel
theorem d_M_add_JJI_88 : decode b_M_add_JJI 88 = .ok (.iload 4, 2) := by decide +kernel
theorem d_M_add_JJI_90 : decode b_M_add_JJI 90 = .ok (.invokestatic 66, 3) := by decide +kernel
theorem d_M_add_JJI_93 : decode b_M_add_JJI 93 = .ok (.ifCond .eq 24, 3) := by decide +kernel
theorem d_M_add_JJI_96 : decode b_M_add_JJI 96 = .ok (.lload_n 2, 1) := by decide +kernel
theorem d_M_add_JJI_97 : decode b_M_add_JJI 97 = .ok (.iload 4, 2) := by decide +kernel
theorem d_M_add_JJI_99 : decode b_M_add_JJI 99 = .ok (.invokestatic 66, 3) := by decide +kernel
theorem d_M_add_JJI_102 : decode b_M_add_JJI 102 = .ok (.ifCond .eq 15, 3) := by decide +kernel
theorem d_M_add_JJI_105 : decode b_M_add_JJI 105 = .ok (.lload_n 0, 1) := by decide +kernel
theorem d_M_add_JJI_106 : decode b_M_add_JJI 106 = .ok (.lload_n 2, 1) := by decide +kernel
theorem d_M_add_JJI_107 : decode b_M_add_JJI 107 = .ok (.lcmp, 1) := by decide +kernel
theorem d_M_add_JJI_108 : decode b_M_add_JJI 108 = .ok (.ifCond .ne 7, 3) := by decide +kernel
theorem d_M_add_JJI_111 : decode b_M_add_JJI 111 = .ok (.lload_n 0, 1) := by decide +kernel
theorem d_M_add_JJI_112 : decode b_M_add_JJI 112 = .ok (.goto 4, 3) := by decide +kernel
theorem d_M_add_JJI_115 : decode b_M_add_JJI 115 = .ok (.lconst 0, 1) := by decide +kernel
theorem d_M_add_JJI_116 : decode b_M_add_JJI 116 = .ok (.lreturn, 1) := by decide +kernel
theorem d_M_add_JJI_117 : decode b_M_add_JJI 117 = .ok (.lload_n 0, 1) := by decide +kernel
theorem d_M_add_JJI_118 : decode b_M_add_JJI 118 = .ok (.iload 4, 2) := by decide +kernel
theorem d_M_add_JJI_120 : decode b_M_add_JJI 120 = .ok (.invokestatic 69, 3) := by decide +kernel
theorem d_M_add_JJI_123 : decode b_M_add_JJI 123 = .ok (.lload_n 2, 1) := by decide +kernel
theorem d_M_add_JJI_124 : decode b_M_add_JJI 124 = .ok (.iload 4, 2) := by decide +kernel
theorem d_M_add_JJI_126 : decode b_M_add_JJI 126 = .ok (.invokestatic 69, 3) := by decide +kernel
theorem d_M_add_JJI_129 : decode b_M_add_JJI 129 = .ok (.if_icmp .lt 7, 3) := by decide +kernel
theorem d_M_add_JJI_132 : decode b_M_add_JJI 132 = .ok (.iconst 1, 1) := by decide +kernel
theorem d_M_add_JJI_133 : decode b_M_add_JJI 133 = .ok (.goto 4, 3) := by decide +kernel
theorem d_M_add_JJI_136 : decode b_M_add_JJI 136 = .ok (.iconst 0, 1) := by decide +kernel
theorem d_M_add_JJI_137 : decode b_M_add_JJI 137 = .ok (.istore 5, 2) := by decide +kernel
theorem d_M_add_JJI_139 : decode b_M_add_JJI 139 = .ok (.iload 5, 2) := by decide +kernel
theorem d_M_add_JJI_141 : decode b_M_add_JJI 141 = .ok (.ifCond .eq 7, 3) := by decide +kernel
theorem d_M_add_JJI_144 : decode b_M_add_JJI 144 = .ok (.lload_n 0, 1) := by decide +kernel
theorem d_M_add_JJI_145 : decode b_M_add_JJI 145 = .ok (.goto 4, 3) := by decide +kernel
theorem d_M_add_JJI_148 : decode b_M_add_JJI 148 = .ok (.lload_n 2, 1) := by decide +kernel
theorem d_M_add_JJI_149 : decode b_M_add_JJI 149 = .ok (.lstore 6, 2) := by decide +kernel
theorem d_M_add_JJI_151 : decode b_M_add_JJI 151 = .ok (.iload 5, 2) := by decide +kernel
theorem d_M_add_JJI_153 : decode b_M_add_JJI 153 = .ok (.ifCond .eq 7, 3) := by decide +kernel
theorem d_M_add_JJI_156 : decode b_M_add_JJI 156 = .ok (.lload_n 2, 1) := by decide +kernel
theorem d_M_add_JJI_157 : decode b_M_add_JJI 157 = .ok (.goto 4, 3) := by decide +kernel
theorem d_M_add_JJI_160 : decode b_M_add_JJI 160 = .ok (.lload_n 0, 1) := by decide +kernel
theorem d_M_add_JJI_161 : decode b_M_add_JJI 161 = .ok (.lstore 8, 2) := by decide +kernel
theorem d_M_add_JJI_163 : decode b_M_add_JJI 163 = .ok (.lload 6, 2) := by decide +kernel
theorem d_M_add_JJI_165 : decode b_M_add_JJI 165 = .ok (.iload 4, 2) := by decide +kernel
theorem d_M_add_JJI_167 : decode b_M_add_JJI 167 = .ok (.invokestatic 69, 3) := by decide +kernel
theorem d_M_add_JJI_170 : decode b_M_add_JJI 170 = .ok (.lload 8, 2) := by decide +kernel
theorem d_M_add_JJI_172 : decode b_M_add_JJI 172 = .ok (.iload 4, 2) := by decide +kernel
theorem d_M_add_JJI_174 : decode b_M_add_JJI 174 = .ok (.invokestatic 69, 3) := by decide +kernel
theorem d_M_add_JJI_177 : decode b_M_add_JJI 177 = .ok (.isub, 1) := by decide +kernel
theorem d_M_add_JJI_178 : decode b_M_add_JJI 178 = .ok (.istore 10, 2) := by decide +kernel
theorem d_M_add_JJI_180 : decode b_M_add_JJI 180 = .ok (.lload 6, 2) := by decide +kernel
theorem d_M_add_JJI_182 : decode b_M_add_JJI 182 = .ok (.iload 4, 2) := by decide +kernel
theorem d_M_add_JJI_184 : decode b_M_add_JJI 184 = .ok (.invokestatic 73, 3) := by decide +kernel
theorem d_M_add_JJI_187 : decode b_M_add_JJI 187 = .ok (.lstore 11, 2) := by decide +kernel
theorem d_M_add_JJI_189 : decode b_M_add_JJI 189 = .ok (.lload 8, 2) := by decide +kernel
theorem d_M_add_JJI_191 : decode b_M_add_JJI 191 = .ok (.iload 4, 2) := by decide +kernel
theorem d_M_add_JJI_193 : decode b_M_add_JJI 193 = .ok (.invokestatic 73, 3) := by decide +kernel
theorem d_M_add_JJI_196 : decode b_M_add_JJI 196 = .ok (.lstore 13, 2) := by decide +kernel
theorem d_M_add_JJI_198 : decode b_M_add_JJI 198 = .ok (.lload 8, 2) := by decide +kernel
theorem d_M_add_JJI_200 : decode b_M_add_JJI 200 = .ok (.iload 4, 2) := by decide +kernel
theorem d_M_add_JJI_202 : decode b_M_add_JJI 202 = .ok (.invokestatic 69, 3) := by decide +kernel
theorem d_M_add_JJI_205 : decode b_M_add_JJI 205 = .ok (.istore 15, 2) := by decide +kernel
theorem d_M_add_JJI_207 : decode b_M_add_JJI 207 = .ok (.iconst 0, 1) := by decide +kernel
theorem d_M_add_JJI_208 : decode b_M_add_JJI 208 = .ok (.istore 16, 2) := by decide +kernel
theorem d_M_add_JJI_210 : decode b_M_add_JJI 210 = .ok (.iload 10, 2) := by decide +kernel
theorem d_M_add_JJI_212 : decode b_M_add_JJI 212 = .ok (.bipush 9, 2) := by decide +kernel
theorem d_M_add_JJI_214 : decode b_M_add_JJI 214 = .ok (.if_icmp .gt 13, 3) := by decide +kernel
theorem d_M_add_JJI_217 : decode b_M_add_JJI 217 = .ok (.lload 11, 2) := by decide +kernel
theorem d_M_add_JJI_219 : decode b_M_add_JJI 219 = .ok (.iload 10, 2) := by decide +kernel
theorem d_M_add_JJI_221 : decode b_M_add_JJI 221 = .ok (.lshl, 1) := by decide +kernel
theorem d_M_add_JJI_222 : decode b_M_add_JJI 222 = .ok (.lstore 11, 2) := by decide +kernel
theorem d_M_add_JJI_224 : decode b_M_add_JJI 224 = .ok (.goto 90, 3) := by decide +kernel
theorem d_M_add_JJI_227 : decode b_M_add_JJI 227 = .ok (.lload 11, 2) := by decide +kernel
theorem d_M_add_JJI_229 : decode b_M_add_JJI 229 = .ok (.bipush 9, 2) := by decide +kernel
theorem d_M_add_JJI_231 : decode b_M_add_JJI 231 = .ok (.lshl, 1) := by decide +kernel
theorem d_M_add_JJI_232 : decode b_M_add_JJI 232 = .ok (.lstore 11, 2) := by decide +kernel
theorem d_M_add_JJI_234 : decode b_M_add_JJI 234 = .ok (.lload 6, 2) := by decide +kernel
theorem d_M_add_JJI_236 : decode b_M_add_JJI 236 = .ok (.iload 4, 2) := by decide +kernel
theorem d_M_add_JJI_238 : decode b_M_add_JJI 238 = .ok (.invokestatic 69, 3) := by decide +kernel
theorem d_M_add_JJI_241 : decode b_M_add_JJI 241 = .ok (.bipush 9, 2) := by decide +kernel
theorem d_M_add_JJI_243 : decode b_M_add_JJI 243 = .ok (.isub, 1) := by decide +kernel
theorem d_M_add_JJI_244 : decode b_M_add_JJI 244 = .ok (.istore 15, 2) := by decide +kernel
theorem d_M_add_JJI_246 : decode b_M_add_JJI 246 = .ok (.iload 10, 2) := by decide +kernel
theorem d_M_add_JJI_248 : decode b_M_add_JJI 248 = .ok (.bipush 9, 2) := by decide +kernel
theorem d_M_add_JJI_250 : decode b_M_add_JJI 250 = .ok (.isub, 1) := by decide +kernel
theorem d_M_add_JJI_251 : decode b_M_add_JJI 251 = .ok (.istore 17, 2) := by decide +kernel
theorem d_M_add_JJI_253 : decode b_M_add_JJI 253 = .ok (.iload 17, 2) := by decide +kernel
theorem d_M_add_JJI_255 : decode b_M_add_JJI 255 = .ok (.bipush 62, 2) := by decide +kernel
theorem d_M_add_JJI_257 : decode b_M_add_JJI 257 = .ok (.if_icmp .le 18, 3) := by decide +kernel
theorem d_M_add_JJI_260 : decode b_M_add_JJI 260 = .ok (.lload 13, 2) := by decide +kernel
theorem d_M_add_JJI_262 : decode b_M_add_JJI 262 = .ok (.lconst 0, 1) := by decide +kernel
theorem d_M_add_JJI_263 : decode b_M_add_JJI 263 = .ok (.lcmp, 1) := by decide +kernel
theorem d_M_add_JJI_264 : decode b_M_add_JJI 264 = .ok (.ifCond .eq 7, 3) := by decide +kernel
theorem d_M_add_JJI_267 : decode b_M_add_JJI 267 = .ok (.iconst 1, 1) := by decide +kernel
theorem d_M_add_JJI_268 : decode b_M_add_JJI 268 = .ok (.goto 26, 3) := by decide +kernel
theorem d_M_add_JJI_271 : decode b_M_add_JJI 271 = .ok (.iconst 0, 1) := by decide +kernel
theorem d_M_add_JJI_272 : decode b_M_add_JJI 272 = .ok (.goto 22, 3) := by decide +kernel
theorem d_M_add_JJI_275 : decode b_M_add_JJI 275 = .ok (.lload 13, 2) := by decide +kernel
theorem d_M_add_JJI_277 : decode b_M_add_JJI 277 = .ok (.lconst 1, 1) := by decide +kernel
theorem d_M_add_JJI_278 : decode b_M_add_JJI 278 = .ok (.iload 17, 2) := by decide +kernel
theorem d_M_add_JJI_280 : decode b_M_add_JJI 280 = .ok (.lshl, 1) := by decide +kernel
theorem d_M_add_JJI_281 : decode b_M_add_JJI 281 = .ok (.lconst 1, 1) := by decide +kernel
theorem d_M_add_JJI_282 : decode b_M_add_JJI 282 = .ok (.lsub, 1) := by decide +kernel
theorem d_M_add_JJI_283 : decode b_M_add_JJI 283 = .ok (.land, 1) := by decide +kernel
theorem d_M_add_JJI_284 : decode b_M_add_JJI 284 = .ok (.lconst 0, 1) := by decide +kernel
theorem d_M_add_JJI_285 : decode b_M_add_JJI 285 = .ok (.lcmp, 1) := by decide +kernel
theorem d_M_add_JJI_286 : decode b_M_add_JJI 286 = .ok (.ifCond .eq 7, 3) := by decide +kernel
theorem d_M_add_JJI_289 : decode b_M_add_JJI 289 = .ok (.iconst 1, 1) := by decide +kernel
theorem d_M_add_JJI_290 : decode b_M_add_JJI 290 = .ok (.goto 4, 3) := by decide +kernel
theorem d_M_add_JJI_293 : decode b_M_add_JJI 293 = .ok (.iconst 0, 1) := by decide +kernel
theorem d_M_add_JJI_294 : decode b_M_add_JJI 294 = .ok (.istore 16, 2) := by decide +kernel
theorem d_M_add_JJI_296 : decode b_M_add_JJI 296 = .ok (.iload 17, 2) := by decide +kernel
theorem d_M_add_JJI_298 : decode b_M_add_JJI 298 = .ok (.bipush 62, 2) := by decide +kernel
theorem d_M_add_JJI_300 : decode b_M_add_JJI 300 = .ok (.if_icmp .le 7, 3) := by decide +kernel
theorem d_M_add_JJI_303 : decode b_M_add_JJI 303 = .ok (.lconst 0, 1) := by decide +kernel
theorem d_M_add_JJI_304 : decode b_M_add_JJI 304 = .ok (.goto 8, 3) := by decide +kernel
theorem d_M_add_JJI_307 : decode b_M_add_JJI 307 = .ok (.lload 13, 2) := by decide +kernel
theorem d_M_add_JJI_309 : decode b_M_add_JJI 309 = .ok (.iload 17, 2) := by decide +kernel
theorem d_M_add_JJI_311 : decode b_M_add_JJI 311 = .ok (.lshr, 1) := by decide +kernel
theorem d_M_add_JJI_312 : decode b_M_add_JJI 312 = .ok (.lstore 13, 2) := by decide +kernel
theorem d_M_add_JJI_314 : decode b_M_add_JJI 314 = .ok (.lload 6, 2) := by decide +kernel
theorem d_M_add_JJI_316 : decode b_M_add_JJI 316 = .ok (.iload 4, 2) := by decide +kernel
theorem d_M_add_JJI_318 : decode b_M_add_JJI 318 = .ok (.invokestatic 76, 3) := by decide +kernel
theorem d_M_add_JJI_321 : decode b_M_add_JJI 321 = .ok (.lload 8, 2) := by decide +kernel
theorem d_M_add_JJI_323 : decode b_M_add_JJI 323 = .ok (.iload 4, 2) := by decide +kernel
theorem d_M_add_JJI_325 : decode b_M_add_JJI 325 = .ok (.invokestatic 76, 3) := by decide +kernel
theorem d_M_add_JJI_328 : decode b_M_add_JJI 328 = .ok (.if_icmp .ne 25, 3) := by decide +kernel
theorem d_M_add_JJI_331 : decode b_M_add_JJI 331 = .ok (.lload 6, 2) := by decide +kernel
theorem d_M_add_JJI_333 : decode b_M_add_JJI 333 = .ok (.iload 4, 2) := by decide +kernel
theorem d_M_add_JJI_335 : decode b_M_add_JJI 335 = .ok (.invokestatic 76, 3) := by decide +kernel
theorem d_M_add_JJI_338 : decode b_M_add_JJI 338 = .ok (.lload 11, 2) := by decide +kernel
theorem d_M_add_JJI_340 : decode b_M_add_JJI 340 = .ok (.lload 13, 2) := by decide +kernel
theorem d_M_add_JJI_342 : decode b_M_add_JJI 342 = .ok (.ladd, 1) := by decide +kernel
theorem d_M_add_JJI_343 : decode b_M_add_JJI 343 = .ok (.iload 15, 2) := by decide +kernel
theorem d_M_add_JJI_345 : decode b_M_add_JJI 345 = .ok (.iload 16, 2) := by decide +kernel
theorem d_M_add_JJI_347 : decode b_M_add_JJI 347 = .ok (.iload 4, 2) := by decide +kernel
theorem d_M_add_JJI_349 : decode b_M_add_JJI 349 = .ok (.invokestatic 52, 3) := by decide +kernel
theorem d_M_add_JJI_352 : decode b_M_add_JJI 352 = .ok (.lreturn, 1) := by decide +kernel
theorem d_M_add_JJI_353 : decode b_M_add_JJI 353 = .ok (.lload 11, 2) := by decide +kernel
theorem d_M_add_JJI_355 : decode b_M_add_JJI 355 = .ok (.lload 13, 2) := by decide +kernel
theorem d_M_add_JJI_357 : decode b_M_add_JJI 357 = .ok (.lsub, 1) := by decide +kernel
theorem d_M_add_JJI_358 : decode b_M_add_JJI 358 = .ok (.iload 16, 2) := by decide +kernel
theorem d_M_add_JJI_360 : decode b_M_add_JJI 360 = .ok (.ifCond .eq 7, 3) := by decide +kernel
theorem d_M_add_JJI_363 : decode b_M_add_JJI 363 = .ok (.iconst 1, 1) := by decide +kernel
theorem d_M_add_JJI_364 : decode b_M_add_JJI 364 = .ok (.goto 4, 3) := by decide +kernel
theorem d_M_add_JJI_367 : decode b_M_add_JJI 367 = .ok (.iconst 0, 1) := by decide +kernel
theorem d_M_add_JJI_368 : decode b_M_add_JJI 368 = .ok (.i2l, 1) := by decide +kernel
theorem d_M_add_JJI_369 : decode b_M_add_JJI 369 = .ok (.lsub, 1) := by decide +kernel
theorem d_M_add_JJI_370 : decode b_M_add_JJI 370 = .ok (.lstore 17, 2) := by decide +kernel
theorem d_M_add_JJI_372 : decode b_M_add_JJI 372 = .ok (.lload 17, 2) := by decide +kernel
theorem d_M_add_JJI_374 : decode b_M_add_JJI 374 = .ok (.lconst 0, 1) := by decide +kernel
theorem d_M_add_JJI_375 : decode b_M_add_JJI 375 = .ok (.lcmp, 1) := by decide +kernel
theorem d_M_add_JJI_376 : decode b_M_add_JJI 376 = .ok (.ifCond .ne 10, 3) := by decide +kernel
theorem d_M_add_JJI_379 : decode b_M_add_JJI 379 = .ok (.iload 16, 2) := by decide +kernel
theorem d_M_add_JJI_381 : decode b_M_add_JJI 381 = .ok (.ifCond .ne 5, 3) := by decide +kernel
theorem d_M_add_JJI_384 : decode b_M_add_JJI 384 = .ok (.lconst 0, 1) := by decide +kernel
theorem d_M_add_JJI_385 : decode b_M_add_JJI 385 = .ok (.lreturn, 1) := by decide +kernel
theorem d_M_add_JJI_386 : decode b_M_add_JJI 386 = .ok (.lload 17, 2) := by decide +kernel
theorem d_M_add_JJI_388 : decode b_M_add_JJI 388 = .ok (.lconst 0, 1) := by decide +kernel
theorem d_M_add_JJI_389 : decode b_M_add_JJI 389 = .ok (.lcmp, 1) := by decide +kernel
theorem d_M_add_JJI_390 : decode b_M_add_JJI 390 = .ok (.ifCond .ge 24, 3) := by decide +kernel
theorem d_M_add_JJI_393 : decode b_M_add_JJI 393 = .ok (.lload 8, 2) := by decide +kernel
theorem d_M_add_JJI_395 : decode b_M_add_JJI 395 = .ok (.iload 4, 2) := by decide +kernel
theorem d_M_add_JJI_397 : decode b_M_add_JJI 397 = .ok (.invokestatic 76, 3) := by decide +kernel
theorem d_M_add_JJI_400 : decode b_M_add_JJI 400 = .ok (.lload 17, 2) := by decide +kernel
theorem d_M_add_JJI_402 : decode b_M_add_JJI 402 = .ok (.lneg, 1) := by decide +kernel
theorem d_M_add_JJI_403 : decode b_M_add_JJI 403 = .ok (.iload 15, 2) := by decide +kernel
theorem d_M_add_JJI_405 : decode b_M_add_JJI 405 = .ok (.iconst 0, 1) := by decide +kernel
theorem d_M_add_JJI_406 : decode b_M_add_JJI 406 = .ok (.iload 4, 2) := by decide +kernel
theorem d_M_add_JJI_408 : decode b_M_add_JJI 408 = .ok (.invokestatic 52, 3) := by decide +kernel
theorem d_M_add_JJI_411 : decode b_M_add_JJI 411 = .ok (.goto 21, 3) := by decide +kernel
theorem d_M_add_JJI_414 : decode b_M_add_JJI 414 = .ok (.lload 6, 2) := by decide +kernel
theorem d_M_add_JJI_416 : decode b_M_add_JJI 416 = .ok (.iload 4, 2) := by decide +kernel
theorem d_M_add_JJI_418 : decode b_M_add_JJI 418 = .ok (.invokestatic 76, 3) := by decide +kernel
theorem d_M_add_JJI_421 : decode b_M_add_JJI 421 = .ok (.lload 17, 2) := by decide +kernel
theorem d_M_add_JJI_423 : decode b_M_add_JJI 423 = .ok (.iload 15, 2) := by decide +kernel
theorem d_M_add_JJI_425 : decode b_M_add_JJI 425 = .ok (.iload 16, 2) := by decide +kernel
theorem d_M_add_JJI_427 : decode b_M_add_JJI 427 = .ok (.iload 4, 2) := by decide +kernel
theorem d_M_add_JJI_429 : decode b_M_add_JJI 429 = .ok (.invokestatic 52, 3) := by decide +kernel
theorem d_M_add_JJI_432 : decode b_M_add_JJI 432 = .ok (.lreturn, 1) := by decide +kernel
def f_M_add_JJI_386 (x4 : Int32) (x6 : Int64) (x8 : Int64) (x15 : Int32) (x16 : Int32) (x17 : Int64) : Int64 :=
  if 0 ≤ (lg_cmp x17 (0 : Int64)) then
    f_M_rounded_ZJIZI (f_M_minus_JI x6 x4) x17 x15 x16 x4
  else
    f_M_rounded_ZJIZI (f_M_minus_JI x8 x4) (-x17) x15 (0 : Int32) x4
set_option maxHeartbeats 4000000 in
set_option maxRecDepth 100000 in
theorem k_M_add_JJI_386 {p : Program} {l : Launch} {e : Env} {s : State} {m : MethodId} {args : Array Value} {below : List Frame} {meth : Method} {c : Code} (C0 : pu_C p s m args meth c b_M_add_JJI 19 "MotionLabModel" (some .long) (gw y_M_add_JJI b_M_add_JJI 19 (some .long))) {t0 t1 t2 : Nat} (hRT : RTH t0 t1 t2 s s.heap) (x4 : Int32) (x6 : Int64) (x8 : Int64) (x15 : Int32) (x16 : Int32) (x17 : Int64) (hk_x4 : vp_in x4 2) (ls : Array Slot) (hl : lv_has ls 19 [(4, .int x4), (6, .long x6), (8, .long x8), (15, .int x15), (16, .int x16), (17, .long x17)]) {w : Int64} (hw : w = f_M_add_JJI_386 x4 x6 x8 x15 x16 x17) : W p l e (headSpec (gw y_M_add_JJI b_M_add_JJI 19 (some .long)) ({ frames := 3, cells := 0, slots := 0, locals := 77 } : Room)).room s m args below meth c s.heap [] 0 0 (pu_Ql w below args s) (F0 m 386 ls []) := by
  obtain ⟨hx, hb, hml, hown, hts, hr, hlocks⟩ := id C0
  obtain ⟨hT0, hT1, hT2⟩ := id hRT
  refine lv_lload hx hb d_M_add_JJI_386 (lv_at hl 5 rfl) ?_
  refine lv_lconst (v := (0 : Int64)) hx hb d_M_add_JJI_388 (by decide) ?_
  refine W.lcmp hx hb d_M_add_JJI_389 ?_
  refine lv_if_ge (tgt := 414) hx hb d_M_add_JJI_390 (by decide) (fun c1 => ?_) (fun c1 => ?_)
  · refine lv_lload hx hb d_M_add_JJI_414 (lv_at hl 1 rfl) ?_
    refine lv_iload hx hb d_M_add_JJI_416 (lv_at hl 0 rfl) ?_
    refine pu_i (As := [.long x6, .int x4]) (rest := []) ⟨hx, hb, hml, hown, hts⟩ (c_M_minus_JI l _ x6 x4) pu_pre (gw_call (k := 2) hts tw_519 tw_520 tw_4 tw_521 (by decide +kernel) rfl rfl ⟨Nat.le_of_ble_eq_true rfl, Nat.le_of_ble_eq_true rfl⟩) rfl hl.1 rfl (Nat.le_of_ble_eq_true rfl) ⟨Nat.zero_le _, Nat.zero_le _⟩ d_M_add_JJI_418 ?_
    refine lv_lload hx hb d_M_add_JJI_421 (lv_at hl 5 rfl) ?_
    refine lv_iload hx hb d_M_add_JJI_423 (lv_at hl 3 rfl) ?_
    refine lv_iload hx hb d_M_add_JJI_425 (lv_at hl 4 rfl) ?_
    refine lv_iload hx hb d_M_add_JJI_427 (lv_at hl 0 rfl) ?_
    refine pu_l (As := [.int (f_M_minus_JI x6 x4), .long x17, .int x15, .int x16, .int x4]) (rest := []) ⟨hx, hb, hml, hown, hts⟩ (c_M_rounded_ZJIZI l _ t0 t1 t2 (f_M_minus_JI x6 x4) x17 x15 x16 x4 hk_x4) (pr_pre hRT) (gw_call (k := 5) hts tw_539 tw_540 tw_4 tw_541 (by decide +kernel) rfl rfl ⟨Nat.le_of_ble_eq_true rfl, Nat.le_of_ble_eq_true rfl⟩) rfl hl.1 rfl (Nat.le_of_ble_eq_true rfl) ⟨Nat.zero_le _, Nat.zero_le _⟩ d_M_add_JJI_429 ?_
    exact pu_lret hx hb hr hlocks d_M_add_JJI_432 (by exact Eq.symm (hw.trans (if_pos c1)))
  · refine lv_lload hx hb d_M_add_JJI_393 (lv_at hl 2 rfl) ?_
    refine lv_iload hx hb d_M_add_JJI_395 (lv_at hl 0 rfl) ?_
    refine pu_i (As := [.long x8, .int x4]) (rest := []) ⟨hx, hb, hml, hown, hts⟩ (c_M_minus_JI l _ x8 x4) pu_pre (gw_call (k := 2) hts tw_519 tw_520 tw_4 tw_521 (by decide +kernel) rfl rfl ⟨Nat.le_of_ble_eq_true rfl, Nat.le_of_ble_eq_true rfl⟩) rfl hl.1 rfl (Nat.le_of_ble_eq_true rfl) ⟨Nat.zero_le _, Nat.zero_le _⟩ d_M_add_JJI_397 ?_
    refine lv_lload hx hb d_M_add_JJI_400 (lv_at hl 5 rfl) ?_
    refine lv_lneg hx hb d_M_add_JJI_402 ?_
    refine lv_iload hx hb d_M_add_JJI_403 (lv_at hl 3 rfl) ?_
    refine lv_iconst (v := 0) hx hb d_M_add_JJI_405 (by decide) ?_
    refine lv_iload hx hb d_M_add_JJI_406 (lv_at hl 0 rfl) ?_
    refine pu_l (As := [.int (f_M_minus_JI x8 x4), .long (-x17), .int x15, .int (0 : Int32), .int x4]) (rest := []) ⟨hx, hb, hml, hown, hts⟩ (c_M_rounded_ZJIZI l _ t0 t1 t2 (f_M_minus_JI x8 x4) (-x17) x15 (0 : Int32) x4 hk_x4) (pr_pre hRT) (gw_call (k := 5) hts tw_539 tw_540 tw_4 tw_541 (by decide +kernel) rfl rfl ⟨Nat.le_of_ble_eq_true rfl, Nat.le_of_ble_eq_true rfl⟩) rfl hl.1 rfl (Nat.le_of_ble_eq_true rfl) ⟨Nat.zero_le _, Nat.zero_le _⟩ d_M_add_JJI_408 ?_
    refine lv_goto (tgt := 432) hx hb d_M_add_JJI_411 (by decide) ?_
    exact pu_lret hx hb hr hlocks d_M_add_JJI_432 (by exact Eq.symm (hw.trans (if_neg c1)))
def f_M_add_JJI_368 (x4 : Int32) (x6 : Int64) (x8 : Int64) (x15 : Int32) (x16 : Int32) (s0 : Int64) (s1 : Int32) : Int64 :=
  let v1 : Int64 := s0 - (s1.toInt64)
  if (lg_cmp v1 (0 : Int64)) = 0 then
    if x16 = 0 then
      (0 : Int64)
    else
      f_M_add_JJI_386 x4 x6 x8 x15 x16 v1
  else
    f_M_add_JJI_386 x4 x6 x8 x15 x16 v1
set_option maxHeartbeats 4000000 in
set_option maxRecDepth 100000 in
theorem k_M_add_JJI_368 {p : Program} {l : Launch} {e : Env} {s : State} {m : MethodId} {args : Array Value} {below : List Frame} {meth : Method} {c : Code} (C0 : pu_C p s m args meth c b_M_add_JJI 19 "MotionLabModel" (some .long) (gw y_M_add_JJI b_M_add_JJI 19 (some .long))) {t0 t1 t2 : Nat} (hRT : RTH t0 t1 t2 s s.heap) (x4 : Int32) (x6 : Int64) (x8 : Int64) (x15 : Int32) (x16 : Int32) (s0 : Int64) (s1 : Int32) (hk_x4 : vp_in x4 2) (ls : Array Slot) (hl : lv_has ls 19 [(4, .int x4), (6, .long x6), (8, .long x8), (15, .int x15), (16, .int x16)]) {w : Int64} (hw : w = f_M_add_JJI_368 x4 x6 x8 x15 x16 s0 s1) : W p l e (headSpec (gw y_M_add_JJI b_M_add_JJI 19 (some .long)) ({ frames := 3, cells := 0, slots := 0, locals := 77 } : Room)).room s m args below meth c s.heap [] 0 0 (pu_Ql w below args s) (F0 m 368 ls [.int s1, .long s0]) := by
  obtain ⟨hx, hb, hml, hown, hts, hr, hlocks⟩ := id C0
  obtain ⟨hT0, hT1, hT2⟩ := id hRT
  refine lv_i2l hx hb d_M_add_JJI_368 rfl ?_
  refine lv_lsub hx hb d_M_add_JJI_369 ?_
  refine lv_topl (fun v1 e1 => ?_)
  refine lv_lstore (lv' := [(17, .long v1), (4, .int x4), (6, .long x6), (8, .long x8), (15, .int x15), (16, .int x16)]) hx hb d_M_add_JJI_370 hl (by decide) rfl (fun ls hl => ?_)
  refine lv_lload hx hb d_M_add_JJI_372 (lv_at hl 0 rfl) ?_
  refine lv_lconst (v := (0 : Int64)) hx hb d_M_add_JJI_374 (by decide) ?_
  refine W.lcmp hx hb d_M_add_JJI_375 ?_
  refine lv_if_ne (tgt := 386) hx hb d_M_add_JJI_376 (by decide) (fun c2 => ?_) (fun c2 => ?_)
  · exact k_M_add_JJI_386 C0 hRT x4 x6 x8 x15 x16 v1 hk_x4 ls (lv_sub hl [1, 2, 3, 4, 5, 0] rfl) (by have qe1 := e1.symm; subst qe1; exact (hw.trans (if_neg c2)))
  · refine lv_iload hx hb d_M_add_JJI_379 (lv_at hl 5 rfl) ?_
    refine lv_if_ne (tgt := 386) hx hb d_M_add_JJI_381 (by decide) (fun c3 => ?_) (fun c3 => ?_)
    · exact k_M_add_JJI_386 C0 hRT x4 x6 x8 x15 x16 v1 hk_x4 ls (lv_sub hl [1, 2, 3, 4, 5, 0] rfl) (by have qe1 := e1.symm; subst qe1; exact (hw.trans (Eq.trans (if_pos c2) (if_neg c3))))
    · refine lv_lconst (v := (0 : Int64)) hx hb d_M_add_JJI_384 (by decide) ?_
      exact pu_lret hx hb hr hlocks d_M_add_JJI_385 (by have qe1 := e1.symm; subst qe1; exact Eq.symm (hw.trans (Eq.trans (if_pos c2) (if_pos c3))))
def f_M_add_JJI_314 (x4 : Int32) (x6 : Int64) (x8 : Int64) (x11 : Int64) (x13 : Int64) (x15 : Int32) (x16 : Int32) : Int64 :=
  if (f_M_minus_JI x6 x4) = (f_M_minus_JI x8 x4) then
    f_M_rounded_ZJIZI (f_M_minus_JI x6 x4) (x11 + x13) x15 x16 x4
  else
    if x16 = 0 then
      f_M_add_JJI_368 x4 x6 x8 x15 x16 (x11 - x13) (0 : Int32)
    else
      f_M_add_JJI_368 x4 x6 x8 x15 x16 (x11 - x13) (1 : Int32)
set_option maxHeartbeats 4000000 in
set_option maxRecDepth 100000 in
theorem k_M_add_JJI_314 {p : Program} {l : Launch} {e : Env} {s : State} {m : MethodId} {args : Array Value} {below : List Frame} {meth : Method} {c : Code} (C0 : pu_C p s m args meth c b_M_add_JJI 19 "MotionLabModel" (some .long) (gw y_M_add_JJI b_M_add_JJI 19 (some .long))) {t0 t1 t2 : Nat} (hRT : RTH t0 t1 t2 s s.heap) (x4 : Int32) (x6 : Int64) (x8 : Int64) (x11 : Int64) (x13 : Int64) (x15 : Int32) (x16 : Int32) (hk_x4 : vp_in x4 2) (ls : Array Slot) (hl : lv_has ls 19 [(4, .int x4), (6, .long x6), (8, .long x8), (11, .long x11), (13, .long x13), (15, .int x15), (16, .int x16)]) {w : Int64} (hw : w = f_M_add_JJI_314 x4 x6 x8 x11 x13 x15 x16) : W p l e (headSpec (gw y_M_add_JJI b_M_add_JJI 19 (some .long)) ({ frames := 3, cells := 0, slots := 0, locals := 77 } : Room)).room s m args below meth c s.heap [] 0 0 (pu_Ql w below args s) (F0 m 314 ls []) := by
  obtain ⟨hx, hb, hml, hown, hts, hr, hlocks⟩ := id C0
  obtain ⟨hT0, hT1, hT2⟩ := id hRT
  refine lv_lload hx hb d_M_add_JJI_314 (lv_at hl 1 rfl) ?_
  refine lv_iload hx hb d_M_add_JJI_316 (lv_at hl 0 rfl) ?_
  refine pu_i (As := [.long x6, .int x4]) (rest := []) ⟨hx, hb, hml, hown, hts⟩ (c_M_minus_JI l _ x6 x4) pu_pre (gw_call (k := 2) hts tw_519 tw_520 tw_4 tw_521 (by decide +kernel) rfl rfl ⟨Nat.le_of_ble_eq_true rfl, Nat.le_of_ble_eq_true rfl⟩) rfl hl.1 rfl (Nat.le_of_ble_eq_true rfl) ⟨Nat.zero_le _, Nat.zero_le _⟩ d_M_add_JJI_318 ?_
  refine lv_lload hx hb d_M_add_JJI_321 (lv_at hl 2 rfl) ?_
  refine lv_iload hx hb d_M_add_JJI_323 (lv_at hl 0 rfl) ?_
  refine pu_i (As := [.long x8, .int x4]) (rest := [.int (f_M_minus_JI x6 x4)]) ⟨hx, hb, hml, hown, hts⟩ (c_M_minus_JI l _ x8 x4) pu_pre (gw_call (k := 2) hts tw_519 tw_520 tw_4 tw_521 (by decide +kernel) rfl rfl ⟨Nat.le_of_ble_eq_true rfl, Nat.le_of_ble_eq_true rfl⟩) rfl hl.1 rfl (Nat.le_of_ble_eq_true rfl) ⟨Nat.zero_le _, Nat.zero_le _⟩ d_M_add_JJI_325 ?_
  refine lv_icmp_ne (tgt := 353) hx hb d_M_add_JJI_328 (by decide) (fun c1 => ?_) (fun c1 => ?_)
  · refine lv_lload hx hb d_M_add_JJI_353 (lv_at hl 3 rfl) ?_
    refine lv_lload hx hb d_M_add_JJI_355 (lv_at hl 4 rfl) ?_
    refine lv_lsub hx hb d_M_add_JJI_357 ?_
    refine lv_iload hx hb d_M_add_JJI_358 (lv_at hl 6 rfl) ?_
    refine lv_if_eq (tgt := 367) hx hb d_M_add_JJI_360 (by decide) (fun c2 => ?_) (fun c2 => ?_)
    · refine lv_iconst (v := 0) hx hb d_M_add_JJI_367 (by decide) ?_
      exact k_M_add_JJI_368 C0 hRT x4 x6 x8 x15 x16 (x11 - x13) (0 : Int32) hk_x4 ls (lv_sub hl [0, 1, 2, 5, 6] rfl) (by exact (hw.trans (Eq.trans (if_neg c1) (if_pos c2))))
    · refine lv_iconst (v := 1) hx hb d_M_add_JJI_363 (by decide) ?_
      refine lv_goto (tgt := 368) hx hb d_M_add_JJI_364 (by decide) ?_
      exact k_M_add_JJI_368 C0 hRT x4 x6 x8 x15 x16 (x11 - x13) (1 : Int32) hk_x4 ls (lv_sub hl [0, 1, 2, 5, 6] rfl) (by exact (hw.trans (Eq.trans (if_neg c1) (if_neg c2))))
  · refine lv_lload hx hb d_M_add_JJI_331 (lv_at hl 1 rfl) ?_
    refine lv_iload hx hb d_M_add_JJI_333 (lv_at hl 0 rfl) ?_
    refine pu_i (As := [.long x6, .int x4]) (rest := []) ⟨hx, hb, hml, hown, hts⟩ (c_M_minus_JI l _ x6 x4) pu_pre (gw_call (k := 2) hts tw_519 tw_520 tw_4 tw_521 (by decide +kernel) rfl rfl ⟨Nat.le_of_ble_eq_true rfl, Nat.le_of_ble_eq_true rfl⟩) rfl hl.1 rfl (Nat.le_of_ble_eq_true rfl) ⟨Nat.zero_le _, Nat.zero_le _⟩ d_M_add_JJI_335 ?_
    refine lv_lload hx hb d_M_add_JJI_338 (lv_at hl 3 rfl) ?_
    refine lv_lload hx hb d_M_add_JJI_340 (lv_at hl 4 rfl) ?_
    refine lv_ladd hx hb d_M_add_JJI_342 ?_
    refine lv_iload hx hb d_M_add_JJI_343 (lv_at hl 5 rfl) ?_
    refine lv_iload hx hb d_M_add_JJI_345 (lv_at hl 6 rfl) ?_
    refine lv_iload hx hb d_M_add_JJI_347 (lv_at hl 0 rfl) ?_
    refine pu_l (As := [.int (f_M_minus_JI x6 x4), .long (x11 + x13), .int x15, .int x16, .int x4]) (rest := []) ⟨hx, hb, hml, hown, hts⟩ (c_M_rounded_ZJIZI l _ t0 t1 t2 (f_M_minus_JI x6 x4) (x11 + x13) x15 x16 x4 hk_x4) (pr_pre hRT) (gw_call (k := 5) hts tw_539 tw_540 tw_4 tw_541 (by decide +kernel) rfl rfl ⟨Nat.le_of_ble_eq_true rfl, Nat.le_of_ble_eq_true rfl⟩) rfl hl.1 rfl (Nat.le_of_ble_eq_true rfl) ⟨Nat.zero_le _, Nat.zero_le _⟩ d_M_add_JJI_349 ?_
    exact pu_lret hx hb hr hlocks d_M_add_JJI_352 (by exact Eq.symm (hw.trans (if_pos c1)))
def f_M_add_JJI_312 (x4 : Int32) (x6 : Int64) (x8 : Int64) (x11 : Int64) (x15 : Int32) (x16 : Int32) (s0 : Int64) : Int64 :=
  f_M_add_JJI_314 x4 x6 x8 x11 s0 x15 x16
set_option maxHeartbeats 4000000 in
set_option maxRecDepth 100000 in
theorem k_M_add_JJI_312 {p : Program} {l : Launch} {e : Env} {s : State} {m : MethodId} {args : Array Value} {below : List Frame} {meth : Method} {c : Code} (C0 : pu_C p s m args meth c b_M_add_JJI 19 "MotionLabModel" (some .long) (gw y_M_add_JJI b_M_add_JJI 19 (some .long))) {t0 t1 t2 : Nat} (hRT : RTH t0 t1 t2 s s.heap) (x4 : Int32) (x6 : Int64) (x8 : Int64) (x11 : Int64) (x15 : Int32) (x16 : Int32) (s0 : Int64) (hk_x4 : vp_in x4 2) (ls : Array Slot) (hl : lv_has ls 19 [(4, .int x4), (6, .long x6), (8, .long x8), (11, .long x11), (15, .int x15), (16, .int x16)]) {w : Int64} (hw : w = f_M_add_JJI_312 x4 x6 x8 x11 x15 x16 s0) : W p l e (headSpec (gw y_M_add_JJI b_M_add_JJI 19 (some .long)) ({ frames := 3, cells := 0, slots := 0, locals := 77 } : Room)).room s m args below meth c s.heap [] 0 0 (pu_Ql w below args s) (F0 m 312 ls [.long s0]) := by
  obtain ⟨hx, hb, hml, hown, hts, hr, hlocks⟩ := id C0
  obtain ⟨hT0, hT1, hT2⟩ := id hRT
  refine lv_lstore (lv' := [(13, .long s0), (4, .int x4), (6, .long x6), (8, .long x8), (11, .long x11), (15, .int x15), (16, .int x16)]) hx hb d_M_add_JJI_312 hl (by decide) rfl (fun ls hl => ?_)
  exact k_M_add_JJI_314 C0 hRT x4 x6 x8 x11 s0 x15 x16 hk_x4 ls (lv_sub hl [1, 2, 3, 4, 0, 5, 6] rfl) (by exact (hw.trans rfl))
def f_M_add_JJI_294 (x4 : Int32) (x6 : Int64) (x8 : Int64) (x11 : Int64) (x13 : Int64) (x15 : Int32) (x17 : Int32) (s0 : Int32) : Int64 :=
  if x17 ≤ (62 : Int32) then
    f_M_add_JJI_312 x4 x6 x8 x11 x15 s0 (j_shr x13 x17)
  else
    f_M_add_JJI_312 x4 x6 x8 x11 x15 s0 (0 : Int64)
set_option maxHeartbeats 4000000 in
set_option maxRecDepth 100000 in
theorem k_M_add_JJI_294 {p : Program} {l : Launch} {e : Env} {s : State} {m : MethodId} {args : Array Value} {below : List Frame} {meth : Method} {c : Code} (C0 : pu_C p s m args meth c b_M_add_JJI 19 "MotionLabModel" (some .long) (gw y_M_add_JJI b_M_add_JJI 19 (some .long))) {t0 t1 t2 : Nat} (hRT : RTH t0 t1 t2 s s.heap) (x4 : Int32) (x6 : Int64) (x8 : Int64) (x11 : Int64) (x13 : Int64) (x15 : Int32) (x17 : Int32) (s0 : Int32) (hk_x4 : vp_in x4 2) (ls : Array Slot) (hl : lv_has ls 19 [(4, .int x4), (6, .long x6), (8, .long x8), (11, .long x11), (13, .long x13), (15, .int x15), (17, .int x17)]) {w : Int64} (hw : w = f_M_add_JJI_294 x4 x6 x8 x11 x13 x15 x17 s0) : W p l e (headSpec (gw y_M_add_JJI b_M_add_JJI 19 (some .long)) ({ frames := 3, cells := 0, slots := 0, locals := 77 } : Room)).room s m args below meth c s.heap [] 0 0 (pu_Ql w below args s) (F0 m 294 ls [.int s0]) := by
  obtain ⟨hx, hb, hml, hown, hts, hr, hlocks⟩ := id C0
  obtain ⟨hT0, hT1, hT2⟩ := id hRT
  refine lv_istore (lv' := [(16, .int s0), (4, .int x4), (6, .long x6), (8, .long x8), (11, .long x11), (13, .long x13), (15, .int x15), (17, .int x17)]) hx hb d_M_add_JJI_294 hl (by decide) rfl (fun ls hl => ?_)
  refine lv_iload hx hb d_M_add_JJI_296 (lv_at hl 7 rfl) ?_
  refine lv_bipush (v := (62 : Int32)) hx hb d_M_add_JJI_298 (by decide) ?_
  refine lv_icmp_le (tgt := 307) hx hb d_M_add_JJI_300 (by decide) (fun c1 => ?_) (fun c1 => ?_)
  · refine lv_lload hx hb d_M_add_JJI_307 (lv_at hl 5 rfl) ?_
    refine lv_iload hx hb d_M_add_JJI_309 (lv_at hl 7 rfl) ?_
    refine lv_lshr (v := j_shr x13 x17) hx hb d_M_add_JJI_311 rfl ?_
    exact k_M_add_JJI_312 C0 hRT x4 x6 x8 x11 x15 s0 (j_shr x13 x17) hk_x4 ls (lv_sub hl [1, 2, 3, 4, 6, 0] rfl) (by exact (hw.trans (if_pos c1)))
  · refine lv_lconst (v := (0 : Int64)) hx hb d_M_add_JJI_303 (by decide) ?_
    refine lv_goto (tgt := 312) hx hb d_M_add_JJI_304 (by decide) ?_
    exact k_M_add_JJI_312 C0 hRT x4 x6 x8 x11 x15 s0 (0 : Int64) hk_x4 ls (lv_sub hl [1, 2, 3, 4, 6, 0] rfl) (by exact (hw.trans (if_neg c1)))
def f_M_add_JJI_161 (x4 : Int32) (x6 : Int64) (s0 : Int64) : Int64 :=
  let v1 : Int32 := (f_M_power_JI x6 x4) - (f_M_power_JI s0 x4)
  let v2 : Int64 := f_M_whole_JI x6 x4
  let v3 : Int64 := f_M_whole_JI s0 x4
  let v4 : Int32 := f_M_power_JI s0 x4
  if (9 : Int32) < v1 then
    let v6 : Int64 := j_shl v2 (9 : Int32)
    let v7 : Int32 := (f_M_power_JI x6 x4) - (9 : Int32)
    let v8 : Int32 := v1 - (9 : Int32)
    if v8 ≤ (62 : Int32) then
      if (lg_cmp (v3 &&& ((j_shl (1 : Int64) v8) - (1 : Int64))) (0 : Int64)) = 0 then
        f_M_add_JJI_294 x4 x6 s0 v6 v3 v7 v8 (0 : Int32)
      else
        f_M_add_JJI_294 x4 x6 s0 v6 v3 v7 v8 (1 : Int32)
    else
      if (lg_cmp v3 (0 : Int64)) = 0 then
        f_M_add_JJI_294 x4 x6 s0 v6 v3 v7 v8 (0 : Int32)
      else
        f_M_add_JJI_294 x4 x6 s0 v6 v3 v7 v8 (1 : Int32)
  else
    let v12 : Int64 := j_shl v2 v1
    f_M_add_JJI_314 x4 x6 s0 v12 v3 v4 (0 : Int32)
set_option maxHeartbeats 4000000 in
set_option maxRecDepth 100000 in
theorem k_M_add_JJI_161 {p : Program} {l : Launch} {e : Env} {s : State} {m : MethodId} {args : Array Value} {below : List Frame} {meth : Method} {c : Code} (C0 : pu_C p s m args meth c b_M_add_JJI 19 "MotionLabModel" (some .long) (gw y_M_add_JJI b_M_add_JJI 19 (some .long))) {t0 t1 t2 : Nat} (hRT : RTH t0 t1 t2 s s.heap) (x4 : Int32) (x6 : Int64) (s0 : Int64) (hk_x4 : vp_in x4 2) (ls : Array Slot) (hl : lv_has ls 19 [(4, .int x4), (6, .long x6)]) {w : Int64} (hw : w = f_M_add_JJI_161 x4 x6 s0) : W p l e (headSpec (gw y_M_add_JJI b_M_add_JJI 19 (some .long)) ({ frames := 3, cells := 0, slots := 0, locals := 77 } : Room)).room s m args below meth c s.heap [] 0 0 (pu_Ql w below args s) (F0 m 161 ls [.long s0]) := by
  obtain ⟨hx, hb, hml, hown, hts, hr, hlocks⟩ := id C0
  obtain ⟨hT0, hT1, hT2⟩ := id hRT
  refine lv_lstore (lv' := [(8, .long s0), (4, .int x4), (6, .long x6)]) hx hb d_M_add_JJI_161 hl (by decide) rfl (fun ls hl => ?_)
  refine lv_lload hx hb d_M_add_JJI_163 (lv_at hl 2 rfl) ?_
  refine lv_iload hx hb d_M_add_JJI_165 (lv_at hl 1 rfl) ?_
  refine pu_i (As := [.long x6, .int x4]) (rest := []) ⟨hx, hb, hml, hown, hts⟩ (c_M_power_JI l _ t0 t1 t2 x6 x4 hk_x4) (pr_pre hRT) (gw_call (k := 2) hts tw_530 tw_531 tw_4 tw_532 (by decide +kernel) rfl rfl ⟨Nat.le_of_ble_eq_true rfl, Nat.le_of_ble_eq_true rfl⟩) rfl hl.1 rfl (Nat.le_of_ble_eq_true rfl) ⟨Nat.zero_le _, Nat.zero_le _⟩ d_M_add_JJI_167 ?_
  refine lv_lload hx hb d_M_add_JJI_170 (lv_at hl 0 rfl) ?_
  refine lv_iload hx hb d_M_add_JJI_172 (lv_at hl 1 rfl) ?_
  refine pu_i (As := [.long s0, .int x4]) (rest := [.int (f_M_power_JI x6 x4)]) ⟨hx, hb, hml, hown, hts⟩ (c_M_power_JI l _ t0 t1 t2 s0 x4 hk_x4) (pr_pre hRT) (gw_call (k := 2) hts tw_530 tw_531 tw_4 tw_532 (by decide +kernel) rfl rfl ⟨Nat.le_of_ble_eq_true rfl, Nat.le_of_ble_eq_true rfl⟩) rfl hl.1 rfl (Nat.le_of_ble_eq_true rfl) ⟨Nat.zero_le _, Nat.zero_le _⟩ d_M_add_JJI_174 ?_
  refine lv_isub hx hb d_M_add_JJI_177 ?_
  refine lv_topi (fun v1 e1 => ?_)
  refine lv_istore (lv' := [(10, .int v1), (8, .long s0), (4, .int x4), (6, .long x6)]) hx hb d_M_add_JJI_178 hl (by decide) rfl (fun ls hl => ?_)
  refine lv_lload hx hb d_M_add_JJI_180 (lv_at hl 3 rfl) ?_
  refine lv_iload hx hb d_M_add_JJI_182 (lv_at hl 2 rfl) ?_
  refine pu_l (As := [.long x6, .int x4]) (rest := []) ⟨hx, hb, hml, hown, hts⟩ (c_M_whole_JI l _ t0 t1 t2 x6 x4 hk_x4) (pr_pre hRT) (gw_call (k := 2) hts tw_525 tw_526 tw_4 tw_527 (by decide +kernel) rfl rfl ⟨Nat.le_of_ble_eq_true rfl, Nat.le_of_ble_eq_true rfl⟩) rfl hl.1 rfl (Nat.le_of_ble_eq_true rfl) ⟨Nat.zero_le _, Nat.zero_le _⟩ d_M_add_JJI_184 ?_
  refine lv_topl (fun v2 e2 => ?_)
  refine lv_lstore (lv' := [(11, .long v2), (10, .int v1), (8, .long s0), (4, .int x4), (6, .long x6)]) hx hb d_M_add_JJI_187 hl (by decide) rfl (fun ls hl => ?_)
  refine lv_lload hx hb d_M_add_JJI_189 (lv_at hl 2 rfl) ?_
  refine lv_iload hx hb d_M_add_JJI_191 (lv_at hl 3 rfl) ?_
  refine pu_l (As := [.long s0, .int x4]) (rest := []) ⟨hx, hb, hml, hown, hts⟩ (c_M_whole_JI l _ t0 t1 t2 s0 x4 hk_x4) (pr_pre hRT) (gw_call (k := 2) hts tw_525 tw_526 tw_4 tw_527 (by decide +kernel) rfl rfl ⟨Nat.le_of_ble_eq_true rfl, Nat.le_of_ble_eq_true rfl⟩) rfl hl.1 rfl (Nat.le_of_ble_eq_true rfl) ⟨Nat.zero_le _, Nat.zero_le _⟩ d_M_add_JJI_193 ?_
  refine lv_topl (fun v3 e3 => ?_)
  refine lv_lstore (lv' := [(13, .long v3), (11, .long v2), (10, .int v1), (8, .long s0), (4, .int x4), (6, .long x6)]) hx hb d_M_add_JJI_196 hl (by decide) rfl (fun ls hl => ?_)
  refine lv_lload hx hb d_M_add_JJI_198 (lv_at hl 3 rfl) ?_
  refine lv_iload hx hb d_M_add_JJI_200 (lv_at hl 4 rfl) ?_
  refine pu_i (As := [.long s0, .int x4]) (rest := []) ⟨hx, hb, hml, hown, hts⟩ (c_M_power_JI l _ t0 t1 t2 s0 x4 hk_x4) (pr_pre hRT) (gw_call (k := 2) hts tw_530 tw_531 tw_4 tw_532 (by decide +kernel) rfl rfl ⟨Nat.le_of_ble_eq_true rfl, Nat.le_of_ble_eq_true rfl⟩) rfl hl.1 rfl (Nat.le_of_ble_eq_true rfl) ⟨Nat.zero_le _, Nat.zero_le _⟩ d_M_add_JJI_202 ?_
  refine lv_topi (fun v4 e4 => ?_)
  refine lv_istore (lv' := [(15, .int v4), (13, .long v3), (11, .long v2), (10, .int v1), (8, .long s0), (4, .int x4), (6, .long x6)]) hx hb d_M_add_JJI_205 hl (by decide) rfl (fun ls hl => ?_)
  refine lv_iconst (v := 0) hx hb d_M_add_JJI_207 (by decide) ?_
  refine lv_istore (lv' := [(16, .int (0 : Int32)), (15, .int v4), (13, .long v3), (11, .long v2), (10, .int v1), (8, .long s0), (4, .int x4), (6, .long x6)]) hx hb d_M_add_JJI_208 hl (by decide) rfl (fun ls hl => ?_)
  refine lv_iload hx hb d_M_add_JJI_210 (lv_at hl 4 rfl) ?_
  refine lv_bipush (v := (9 : Int32)) hx hb d_M_add_JJI_212 (by decide) ?_
  refine lv_icmp_gt (tgt := 227) hx hb d_M_add_JJI_214 (by decide) (fun c5 => ?_) (fun c5 => ?_)
  · refine lv_lload hx hb d_M_add_JJI_227 (lv_at hl 3 rfl) ?_
    refine lv_bipush (v := (9 : Int32)) hx hb d_M_add_JJI_229 (by decide) ?_
    refine lv_lshl (v := j_shl v2 (9 : Int32)) hx hb d_M_add_JJI_231 rfl ?_
    refine lv_topl (fun v6 e6 => ?_)
    refine lv_lstore (lv' := [(11, .long v6), (16, .int (0 : Int32)), (15, .int v4), (13, .long v3), (10, .int v1), (8, .long s0), (4, .int x4), (6, .long x6)]) hx hb d_M_add_JJI_232 hl (by decide) rfl (fun ls hl => ?_)
    refine lv_lload hx hb d_M_add_JJI_234 (lv_at hl 7 rfl) ?_
    refine lv_iload hx hb d_M_add_JJI_236 (lv_at hl 6 rfl) ?_
    refine pu_i (As := [.long x6, .int x4]) (rest := []) ⟨hx, hb, hml, hown, hts⟩ (c_M_power_JI l _ t0 t1 t2 x6 x4 hk_x4) (pr_pre hRT) (gw_call (k := 2) hts tw_530 tw_531 tw_4 tw_532 (by decide +kernel) rfl rfl ⟨Nat.le_of_ble_eq_true rfl, Nat.le_of_ble_eq_true rfl⟩) rfl hl.1 rfl (Nat.le_of_ble_eq_true rfl) ⟨Nat.zero_le _, Nat.zero_le _⟩ d_M_add_JJI_238 ?_
    refine lv_bipush (v := (9 : Int32)) hx hb d_M_add_JJI_241 (by decide) ?_
    refine lv_isub hx hb d_M_add_JJI_243 ?_
    refine lv_topi (fun v7 e7 => ?_)
    refine lv_istore (lv' := [(15, .int v7), (11, .long v6), (16, .int (0 : Int32)), (13, .long v3), (10, .int v1), (8, .long s0), (4, .int x4), (6, .long x6)]) hx hb d_M_add_JJI_244 hl (by decide) rfl (fun ls hl => ?_)
    refine lv_iload hx hb d_M_add_JJI_246 (lv_at hl 4 rfl) ?_
    refine lv_bipush (v := (9 : Int32)) hx hb d_M_add_JJI_248 (by decide) ?_
    refine lv_isub hx hb d_M_add_JJI_250 ?_
    refine lv_topi (fun v8 e8 => ?_)
    refine lv_istore (lv' := [(17, .int v8), (15, .int v7), (11, .long v6), (16, .int (0 : Int32)), (13, .long v3), (10, .int v1), (8, .long s0), (4, .int x4), (6, .long x6)]) hx hb d_M_add_JJI_251 hl (by decide) rfl (fun ls hl => ?_)
    refine lv_iload hx hb d_M_add_JJI_253 (lv_at hl 0 rfl) ?_
    refine lv_bipush (v := (62 : Int32)) hx hb d_M_add_JJI_255 (by decide) ?_
    refine lv_icmp_le (tgt := 275) hx hb d_M_add_JJI_257 (by decide) (fun c9 => ?_) (fun c9 => ?_)
    · refine lv_lload hx hb d_M_add_JJI_275 (lv_at hl 4 rfl) ?_
      refine lv_lconst (v := (1 : Int64)) hx hb d_M_add_JJI_277 (by decide) ?_
      refine lv_iload hx hb d_M_add_JJI_278 (lv_at hl 0 rfl) ?_
      refine lv_lshl (v := j_shl (1 : Int64) v8) hx hb d_M_add_JJI_280 rfl ?_
      refine lv_lconst (v := (1 : Int64)) hx hb d_M_add_JJI_281 (by decide) ?_
      refine lv_lsub hx hb d_M_add_JJI_282 ?_
      refine lv_land hx hb d_M_add_JJI_283 ?_
      refine lv_lconst (v := (0 : Int64)) hx hb d_M_add_JJI_284 (by decide) ?_
      refine W.lcmp hx hb d_M_add_JJI_285 ?_
      refine lv_if_eq (tgt := 293) hx hb d_M_add_JJI_286 (by decide) (fun c10 => ?_) (fun c10 => ?_)
      · refine lv_iconst (v := 0) hx hb d_M_add_JJI_293 (by decide) ?_
        exact k_M_add_JJI_294 C0 hRT x4 x6 s0 v6 v3 v7 v8 (0 : Int32) hk_x4 ls (lv_sub hl [7, 8, 6, 2, 4, 1, 0] rfl) (by have qe1 := e1.symm; have qe2 := e2.symm; have qe3 := e3.symm; have qe4 := e4.symm; have qe6 := e6.symm; have qe7 := e7.symm; have qe8 := e8.symm; subst qe1 qe2 qe3 qe4 qe6 qe7 qe8; exact (hw.trans (Eq.trans (if_pos c5) (Eq.trans (if_pos c9) (if_pos c10)))))
      · refine lv_iconst (v := 1) hx hb d_M_add_JJI_289 (by decide) ?_
        refine lv_goto (tgt := 294) hx hb d_M_add_JJI_290 (by decide) ?_
        exact k_M_add_JJI_294 C0 hRT x4 x6 s0 v6 v3 v7 v8 (1 : Int32) hk_x4 ls (lv_sub hl [7, 8, 6, 2, 4, 1, 0] rfl) (by have qe1 := e1.symm; have qe2 := e2.symm; have qe3 := e3.symm; have qe4 := e4.symm; have qe6 := e6.symm; have qe7 := e7.symm; have qe8 := e8.symm; subst qe1 qe2 qe3 qe4 qe6 qe7 qe8; exact (hw.trans (Eq.trans (if_pos c5) (Eq.trans (if_pos c9) (if_neg c10)))))
    · refine lv_lload hx hb d_M_add_JJI_260 (lv_at hl 4 rfl) ?_
      refine lv_lconst (v := (0 : Int64)) hx hb d_M_add_JJI_262 (by decide) ?_
      refine W.lcmp hx hb d_M_add_JJI_263 ?_
      refine lv_if_eq (tgt := 271) hx hb d_M_add_JJI_264 (by decide) (fun c11 => ?_) (fun c11 => ?_)
      · refine lv_iconst (v := 0) hx hb d_M_add_JJI_271 (by decide) ?_
        refine lv_goto (tgt := 294) hx hb d_M_add_JJI_272 (by decide) ?_
        exact k_M_add_JJI_294 C0 hRT x4 x6 s0 v6 v3 v7 v8 (0 : Int32) hk_x4 ls (lv_sub hl [7, 8, 6, 2, 4, 1, 0] rfl) (by have qe1 := e1.symm; have qe2 := e2.symm; have qe3 := e3.symm; have qe4 := e4.symm; have qe6 := e6.symm; have qe7 := e7.symm; have qe8 := e8.symm; subst qe1 qe2 qe3 qe4 qe6 qe7 qe8; exact (hw.trans (Eq.trans (if_pos c5) (Eq.trans (if_neg c9) (if_pos c11)))))
      · refine lv_iconst (v := 1) hx hb d_M_add_JJI_267 (by decide) ?_
        refine lv_goto (tgt := 294) hx hb d_M_add_JJI_268 (by decide) ?_
        exact k_M_add_JJI_294 C0 hRT x4 x6 s0 v6 v3 v7 v8 (1 : Int32) hk_x4 ls (lv_sub hl [7, 8, 6, 2, 4, 1, 0] rfl) (by have qe1 := e1.symm; have qe2 := e2.symm; have qe3 := e3.symm; have qe4 := e4.symm; have qe6 := e6.symm; have qe7 := e7.symm; have qe8 := e8.symm; subst qe1 qe2 qe3 qe4 qe6 qe7 qe8; exact (hw.trans (Eq.trans (if_pos c5) (Eq.trans (if_neg c9) (if_neg c11)))))
  · refine lv_lload hx hb d_M_add_JJI_217 (lv_at hl 3 rfl) ?_
    refine lv_iload hx hb d_M_add_JJI_219 (lv_at hl 4 rfl) ?_
    refine lv_lshl (v := j_shl v2 v1) hx hb d_M_add_JJI_221 rfl ?_
    refine lv_topl (fun v12 e12 => ?_)
    refine lv_lstore (lv' := [(11, .long v12), (16, .int (0 : Int32)), (15, .int v4), (13, .long v3), (10, .int v1), (8, .long s0), (4, .int x4), (6, .long x6)]) hx hb d_M_add_JJI_222 hl (by decide) rfl (fun ls hl => ?_)
    refine lv_goto (tgt := 314) hx hb d_M_add_JJI_224 (by decide) ?_
    exact k_M_add_JJI_314 C0 hRT x4 x6 s0 v12 v3 v4 (0 : Int32) hk_x4 ls (lv_sub hl [6, 7, 5, 0, 3, 2, 1] rfl) (by have qe1 := e1.symm; have qe2 := e2.symm; have qe3 := e3.symm; have qe4 := e4.symm; have qe12 := e12.symm; subst qe1 qe2 qe3 qe4 qe12; exact (hw.trans (if_neg c5)))
def f_M_add_JJI_149 (x0 : Int64) (x2 : Int64) (x4 : Int32) (x5 : Int32) (s0 : Int64) : Int64 :=
  if x5 = 0 then
    f_M_add_JJI_161 x4 s0 x0
  else
    f_M_add_JJI_161 x4 s0 x2
set_option maxHeartbeats 4000000 in
set_option maxRecDepth 100000 in
theorem k_M_add_JJI_149 {p : Program} {l : Launch} {e : Env} {s : State} {m : MethodId} {args : Array Value} {below : List Frame} {meth : Method} {c : Code} (C0 : pu_C p s m args meth c b_M_add_JJI 19 "MotionLabModel" (some .long) (gw y_M_add_JJI b_M_add_JJI 19 (some .long))) {t0 t1 t2 : Nat} (hRT : RTH t0 t1 t2 s s.heap) (x0 : Int64) (x2 : Int64) (x4 : Int32) (x5 : Int32) (s0 : Int64) (hk_x4 : vp_in x4 2) (ls : Array Slot) (hl : lv_has ls 19 [(0, .long x0), (2, .long x2), (4, .int x4), (5, .int x5)]) {w : Int64} (hw : w = f_M_add_JJI_149 x0 x2 x4 x5 s0) : W p l e (headSpec (gw y_M_add_JJI b_M_add_JJI 19 (some .long)) ({ frames := 3, cells := 0, slots := 0, locals := 77 } : Room)).room s m args below meth c s.heap [] 0 0 (pu_Ql w below args s) (F0 m 149 ls [.long s0]) := by
  obtain ⟨hx, hb, hml, hown, hts, hr, hlocks⟩ := id C0
  obtain ⟨hT0, hT1, hT2⟩ := id hRT
  refine lv_lstore (lv' := [(6, .long s0), (0, .long x0), (2, .long x2), (4, .int x4), (5, .int x5)]) hx hb d_M_add_JJI_149 hl (by decide) rfl (fun ls hl => ?_)
  refine lv_iload hx hb d_M_add_JJI_151 (lv_at hl 4 rfl) ?_
  refine lv_if_eq (tgt := 160) hx hb d_M_add_JJI_153 (by decide) (fun c1 => ?_) (fun c1 => ?_)
  · refine lv_lload_n hx hb d_M_add_JJI_160 rfl (lv_at hl 1 rfl) ?_
    exact k_M_add_JJI_161 C0 hRT x4 s0 x0 hk_x4 ls (lv_sub hl [3, 0] rfl) (by exact (hw.trans (if_pos c1)))
  · refine lv_lload_n hx hb d_M_add_JJI_156 rfl (lv_at hl 2 rfl) ?_
    refine lv_goto (tgt := 161) hx hb d_M_add_JJI_157 (by decide) ?_
    exact k_M_add_JJI_161 C0 hRT x4 s0 x2 hk_x4 ls (lv_sub hl [3, 0] rfl) (by exact (hw.trans (if_neg c1)))
def f_M_add_JJI_137 (x0 : Int64) (x2 : Int64) (x4 : Int32) (s0 : Int32) : Int64 :=
  if s0 = 0 then
    f_M_add_JJI_149 x0 x2 x4 s0 x2
  else
    f_M_add_JJI_149 x0 x2 x4 s0 x0
set_option maxHeartbeats 4000000 in
set_option maxRecDepth 100000 in
theorem k_M_add_JJI_137 {p : Program} {l : Launch} {e : Env} {s : State} {m : MethodId} {args : Array Value} {below : List Frame} {meth : Method} {c : Code} (C0 : pu_C p s m args meth c b_M_add_JJI 19 "MotionLabModel" (some .long) (gw y_M_add_JJI b_M_add_JJI 19 (some .long))) {t0 t1 t2 : Nat} (hRT : RTH t0 t1 t2 s s.heap) (x0 : Int64) (x2 : Int64) (x4 : Int32) (s0 : Int32) (hk_x4 : vp_in x4 2) (ls : Array Slot) (hl : lv_has ls 19 [(0, .long x0), (2, .long x2), (4, .int x4)]) {w : Int64} (hw : w = f_M_add_JJI_137 x0 x2 x4 s0) : W p l e (headSpec (gw y_M_add_JJI b_M_add_JJI 19 (some .long)) ({ frames := 3, cells := 0, slots := 0, locals := 77 } : Room)).room s m args below meth c s.heap [] 0 0 (pu_Ql w below args s) (F0 m 137 ls [.int s0]) := by
  obtain ⟨hx, hb, hml, hown, hts, hr, hlocks⟩ := id C0
  obtain ⟨hT0, hT1, hT2⟩ := id hRT
  refine lv_istore (lv' := [(5, .int s0), (0, .long x0), (2, .long x2), (4, .int x4)]) hx hb d_M_add_JJI_137 hl (by decide) rfl (fun ls hl => ?_)
  refine lv_iload hx hb d_M_add_JJI_139 (lv_at hl 0 rfl) ?_
  refine lv_if_eq (tgt := 148) hx hb d_M_add_JJI_141 (by decide) (fun c1 => ?_) (fun c1 => ?_)
  · refine lv_lload_n hx hb d_M_add_JJI_148 rfl (lv_at hl 2 rfl) ?_
    exact k_M_add_JJI_149 C0 hRT x0 x2 x4 s0 x2 hk_x4 ls (lv_sub hl [1, 2, 3, 0] rfl) (by exact (hw.trans (if_pos c1)))
  · refine lv_lload_n hx hb d_M_add_JJI_144 rfl (lv_at hl 1 rfl) ?_
    refine lv_goto (tgt := 149) hx hb d_M_add_JJI_145 (by decide) ?_
    exact k_M_add_JJI_149 C0 hRT x0 x2 x4 s0 x0 hk_x4 ls (lv_sub hl [1, 2, 3, 0] rfl) (by exact (hw.trans (if_neg c1)))
def f_M_add_JJI_117 (x0 : Int64) (x2 : Int64) (x4 : Int32) : Int64 :=
  if (f_M_power_JI x0 x4) < (f_M_power_JI x2 x4) then
    f_M_add_JJI_137 x0 x2 x4 (0 : Int32)
  else
    f_M_add_JJI_137 x0 x2 x4 (1 : Int32)
set_option maxHeartbeats 4000000 in
set_option maxRecDepth 100000 in
theorem k_M_add_JJI_117 {p : Program} {l : Launch} {e : Env} {s : State} {m : MethodId} {args : Array Value} {below : List Frame} {meth : Method} {c : Code} (C0 : pu_C p s m args meth c b_M_add_JJI 19 "MotionLabModel" (some .long) (gw y_M_add_JJI b_M_add_JJI 19 (some .long))) {t0 t1 t2 : Nat} (hRT : RTH t0 t1 t2 s s.heap) (x0 : Int64) (x2 : Int64) (x4 : Int32) (hk_x4 : vp_in x4 2) (ls : Array Slot) (hl : lv_has ls 19 [(0, .long x0), (2, .long x2), (4, .int x4)]) {w : Int64} (hw : w = f_M_add_JJI_117 x0 x2 x4) : W p l e (headSpec (gw y_M_add_JJI b_M_add_JJI 19 (some .long)) ({ frames := 3, cells := 0, slots := 0, locals := 77 } : Room)).room s m args below meth c s.heap [] 0 0 (pu_Ql w below args s) (F0 m 117 ls []) := by
  obtain ⟨hx, hb, hml, hown, hts, hr, hlocks⟩ := id C0
  obtain ⟨hT0, hT1, hT2⟩ := id hRT
  refine lv_lload_n hx hb d_M_add_JJI_117 rfl (lv_at hl 0 rfl) ?_
  refine lv_iload hx hb d_M_add_JJI_118 (lv_at hl 2 rfl) ?_
  refine pu_i (As := [.long x0, .int x4]) (rest := []) ⟨hx, hb, hml, hown, hts⟩ (c_M_power_JI l _ t0 t1 t2 x0 x4 hk_x4) (pr_pre hRT) (gw_call (k := 2) hts tw_530 tw_531 tw_4 tw_532 (by decide +kernel) rfl rfl ⟨Nat.le_of_ble_eq_true rfl, Nat.le_of_ble_eq_true rfl⟩) rfl hl.1 rfl (Nat.le_of_ble_eq_true rfl) ⟨Nat.zero_le _, Nat.zero_le _⟩ d_M_add_JJI_120 ?_
  refine lv_lload_n hx hb d_M_add_JJI_123 rfl (lv_at hl 1 rfl) ?_
  refine lv_iload hx hb d_M_add_JJI_124 (lv_at hl 2 rfl) ?_
  refine pu_i (As := [.long x2, .int x4]) (rest := [.int (f_M_power_JI x0 x4)]) ⟨hx, hb, hml, hown, hts⟩ (c_M_power_JI l _ t0 t1 t2 x2 x4 hk_x4) (pr_pre hRT) (gw_call (k := 2) hts tw_530 tw_531 tw_4 tw_532 (by decide +kernel) rfl rfl ⟨Nat.le_of_ble_eq_true rfl, Nat.le_of_ble_eq_true rfl⟩) rfl hl.1 rfl (Nat.le_of_ble_eq_true rfl) ⟨Nat.zero_le _, Nat.zero_le _⟩ d_M_add_JJI_126 ?_
  refine lv_icmp_lt (tgt := 136) hx hb d_M_add_JJI_129 (by decide) (fun c1 => ?_) (fun c1 => ?_)
  · refine lv_iconst (v := 0) hx hb d_M_add_JJI_136 (by decide) ?_
    exact k_M_add_JJI_137 C0 hRT x0 x2 x4 (0 : Int32) hk_x4 ls (lv_sub hl [0, 1, 2] rfl) (by exact (hw.trans (if_pos c1)))
  · refine lv_iconst (v := 1) hx hb d_M_add_JJI_132 (by decide) ?_
    refine lv_goto (tgt := 137) hx hb d_M_add_JJI_133 (by decide) ?_
    exact k_M_add_JJI_137 C0 hRT x0 x2 x4 (1 : Int32) hk_x4 ls (lv_sub hl [0, 1, 2] rfl) (by exact (hw.trans (if_neg c1)))
def f_M_add_JJI_72 (x0 : Int64) (x2 : Int64) (x4 : Int32) : Int64 :=
  if (f_M_isInfinite_JI x0 x4) = 0 then
    x2
  else
    x0
set_option maxHeartbeats 4000000 in
set_option maxRecDepth 100000 in
theorem k_M_add_JJI_72 {p : Program} {l : Launch} {e : Env} {s : State} {m : MethodId} {args : Array Value} {below : List Frame} {meth : Method} {c : Code} (C0 : pu_C p s m args meth c b_M_add_JJI 19 "MotionLabModel" (some .long) (gw y_M_add_JJI b_M_add_JJI 19 (some .long))) {t0 t1 t2 : Nat} (hRT : RTH t0 t1 t2 s s.heap) (x0 : Int64) (x2 : Int64) (x4 : Int32) (hk_x4 : vp_in x4 2) (ls : Array Slot) (hl : lv_has ls 19 [(0, .long x0), (2, .long x2), (4, .int x4)]) {w : Int64} (hw : w = f_M_add_JJI_72 x0 x2 x4) : W p l e (headSpec (gw y_M_add_JJI b_M_add_JJI 19 (some .long)) ({ frames := 3, cells := 0, slots := 0, locals := 77 } : Room)).room s m args below meth c s.heap [] 0 0 (pu_Ql w below args s) (F0 m 72 ls []) := by
  obtain ⟨hx, hb, hml, hown, hts, hr, hlocks⟩ := id C0
  obtain ⟨hT0, hT1, hT2⟩ := id hRT
  refine lv_lload_n hx hb d_M_add_JJI_72 rfl (lv_at hl 0 rfl) ?_
  refine lv_iload hx hb d_M_add_JJI_73 (lv_at hl 2 rfl) ?_
  refine pu_i (As := [.long x0, .int x4]) (rest := []) ⟨hx, hb, hml, hown, hts⟩ (c_M_isInfinite_JI l _ x0 x4) pu_pre (gw_call (k := 2) hts tw_516 tw_517 tw_4 tw_518 (by decide +kernel) rfl rfl ⟨Nat.le_of_ble_eq_true rfl, Nat.le_of_ble_eq_true rfl⟩) rfl hl.1 rfl (Nat.le_of_ble_eq_true rfl) ⟨Nat.zero_le _, Nat.zero_le _⟩ d_M_add_JJI_75 ?_
  refine lv_if_eq (tgt := 85) hx hb d_M_add_JJI_78 (by decide) (fun c1 => ?_) (fun c1 => ?_)
  · refine lv_lload_n hx hb d_M_add_JJI_85 rfl (lv_at hl 1 rfl) ?_
    exact pu_lret hx hb hr hlocks d_M_add_JJI_86 (by exact Eq.symm (hw.trans (if_pos c1)))
  · refine lv_lload_n hx hb d_M_add_JJI_81 rfl (lv_at hl 0 rfl) ?_
    refine lv_goto (tgt := 86) hx hb d_M_add_JJI_82 (by decide) ?_
    exact pu_lret hx hb hr hlocks d_M_add_JJI_86 (by exact Eq.symm (hw.trans (if_neg c1)))
def f_M_add_JJI_42 (x0 : Int64) (x2 : Int64) (x4 : Int32) : Int64 :=
  if (f_M_isInfinite_JI x0 x4) = 0 then
    f_M_add_JJI_72 x0 x2 x4
  else
    if (f_M_isInfinite_JI x2 x4) = 0 then
      f_M_add_JJI_72 x0 x2 x4
    else
      if (lg_cmp x0 x2) = 0 then
        f_M_add_JJI_72 x0 x2 x4
      else
        f_M_none_I x4
set_option maxHeartbeats 4000000 in
set_option maxRecDepth 100000 in
theorem k_M_add_JJI_42 {p : Program} {l : Launch} {e : Env} {s : State} {m : MethodId} {args : Array Value} {below : List Frame} {meth : Method} {c : Code} (C0 : pu_C p s m args meth c b_M_add_JJI 19 "MotionLabModel" (some .long) (gw y_M_add_JJI b_M_add_JJI 19 (some .long))) {t0 t1 t2 : Nat} (hRT : RTH t0 t1 t2 s s.heap) (x0 : Int64) (x2 : Int64) (x4 : Int32) (hk_x4 : vp_in x4 2) (ls : Array Slot) (hl : lv_has ls 19 [(0, .long x0), (2, .long x2), (4, .int x4)]) {w : Int64} (hw : w = f_M_add_JJI_42 x0 x2 x4) : W p l e (headSpec (gw y_M_add_JJI b_M_add_JJI 19 (some .long)) ({ frames := 3, cells := 0, slots := 0, locals := 77 } : Room)).room s m args below meth c s.heap [] 0 0 (pu_Ql w below args s) (F0 m 42 ls []) := by
  obtain ⟨hx, hb, hml, hown, hts, hr, hlocks⟩ := id C0
  obtain ⟨hT0, hT1, hT2⟩ := id hRT
  refine lv_lload_n hx hb d_M_add_JJI_42 rfl (lv_at hl 0 rfl) ?_
  refine lv_iload hx hb d_M_add_JJI_43 (lv_at hl 2 rfl) ?_
  refine pu_i (As := [.long x0, .int x4]) (rest := []) ⟨hx, hb, hml, hown, hts⟩ (c_M_isInfinite_JI l _ x0 x4) pu_pre (gw_call (k := 2) hts tw_516 tw_517 tw_4 tw_518 (by decide +kernel) rfl rfl ⟨Nat.le_of_ble_eq_true rfl, Nat.le_of_ble_eq_true rfl⟩) rfl hl.1 rfl (Nat.le_of_ble_eq_true rfl) ⟨Nat.zero_le _, Nat.zero_le _⟩ d_M_add_JJI_45 ?_
  refine lv_if_eq (tgt := 72) hx hb d_M_add_JJI_48 (by decide) (fun c1 => ?_) (fun c1 => ?_)
  · exact k_M_add_JJI_72 C0 hRT x0 x2 x4 hk_x4 ls (lv_sub hl [0, 1, 2] rfl) (by exact (hw.trans (if_pos c1)))
  · refine lv_lload_n hx hb d_M_add_JJI_51 rfl (lv_at hl 1 rfl) ?_
    refine lv_iload hx hb d_M_add_JJI_52 (lv_at hl 2 rfl) ?_
    refine pu_i (As := [.long x2, .int x4]) (rest := []) ⟨hx, hb, hml, hown, hts⟩ (c_M_isInfinite_JI l _ x2 x4) pu_pre (gw_call (k := 2) hts tw_516 tw_517 tw_4 tw_518 (by decide +kernel) rfl rfl ⟨Nat.le_of_ble_eq_true rfl, Nat.le_of_ble_eq_true rfl⟩) rfl hl.1 rfl (Nat.le_of_ble_eq_true rfl) ⟨Nat.zero_le _, Nat.zero_le _⟩ d_M_add_JJI_54 ?_
    refine lv_if_eq (tgt := 72) hx hb d_M_add_JJI_57 (by decide) (fun c2 => ?_) (fun c2 => ?_)
    · exact k_M_add_JJI_72 C0 hRT x0 x2 x4 hk_x4 ls (lv_sub hl [0, 1, 2] rfl) (by exact (hw.trans (Eq.trans (if_neg c1) (if_pos c2))))
    · refine lv_lload_n hx hb d_M_add_JJI_60 rfl (lv_at hl 0 rfl) ?_
      refine lv_lload_n hx hb d_M_add_JJI_61 rfl (lv_at hl 1 rfl) ?_
      refine W.lcmp hx hb d_M_add_JJI_62 ?_
      refine lv_if_eq (tgt := 72) hx hb d_M_add_JJI_63 (by decide) (fun c3 => ?_) (fun c3 => ?_)
      · exact k_M_add_JJI_72 C0 hRT x0 x2 x4 hk_x4 ls (lv_sub hl [0, 1, 2] rfl) (by exact (hw.trans (Eq.trans (if_neg c1) (Eq.trans (if_neg c2) (if_pos c3)))))
      · refine lv_iload hx hb d_M_add_JJI_66 (lv_at hl 2 rfl) ?_
        refine pu_l (As := [.int x4]) (rest := []) ⟨hx, hb, hml, hown, hts⟩ (c_M_none_I l _ x4) pu_pre (gw_call (k := 1) hts tw_511 tw_512 tw_4 tw_513 (by decide +kernel) rfl rfl ⟨Nat.le_of_ble_eq_true rfl, Nat.le_of_ble_eq_true rfl⟩) rfl hl.1 rfl (Nat.le_of_ble_eq_true rfl) ⟨Nat.zero_le _, Nat.zero_le _⟩ d_M_add_JJI_68 ?_
        exact pu_lret hx hb hr hlocks d_M_add_JJI_71 (by exact Eq.symm (hw.trans (Eq.trans (if_neg c1) (Eq.trans (if_neg c2) (if_neg c3)))))
def f_M_add_JJI (x0 : Int64) (x2 : Int64) (x4 : Int32) : Int64 :=
  if (f_M_isNone_JI x0 x4) = 0 then
    if (f_M_isNone_JI x2 x4) = 0 then
      if (f_M_isInfinite_JI x0 x4) = 0 then
        if (f_M_isInfinite_JI x2 x4) = 0 then
          if (f_M_isZero_JI x0 x4) = 0 then
            f_M_add_JJI_117 x0 x2 x4
          else
            if (f_M_isZero_JI x2 x4) = 0 then
              f_M_add_JJI_117 x0 x2 x4
            else
              if (lg_cmp x0 x2) = 0 then
                x0
              else
                (0 : Int64)
        else
          f_M_add_JJI_42 x0 x2 x4
      else
        f_M_add_JJI_42 x0 x2 x4
    else
      f_M_none_I x4
  else
    f_M_none_I x4
set_option maxHeartbeats 4000000 in
set_option maxRecDepth 100000 in
theorem c_M_add_JJI (l : Launch) (h : Heap) (t0 t1 t2 : Nat) (x0 : Int64) (x2 : Int64) (x4 : Int32) (hk_x4 : vp_in x4 2) : Met l y_M_add_JJI (gw y_M_add_JJI b_M_add_JJI 19 (some .long)) { frames := 3, cells := 0, slots := 0, locals := 77 } (pr_Pc [.long x0, .long x2, .int x4] h t0 t1 t2) (pu_Ml (f_M_add_JJI x0 x2 x4) h) 0 0 (fun _ => False) := by
  refine Met.ofW (cc := b_M_add_JJI) (maxL := 19) (ret := (some .long)) (by decide) rfl ?_
  intro p e s m args below meth c s₁ B hml hv
  obtain ⟨rfl, hh, hRT⟩ := hv
  subst hh
  obtain ⟨hT0, hT1, hT2⟩ := id hRT
  have hx := B.exec
  have hb := B.bytes
  have hr := B.returns
  have hts := atoms_spec (ws := (gw y_M_add_JJI b_M_add_JJI 19 (some .long))) B.pre
  have hown : s.vm.findClass "MotionLabModel" = some m.cls := findClass_of_methodNamed B.named
  have hlocks := B.notSynchronized
  have C0 : pu_C p s m _ meth c b_M_add_JJI 19 "MotionLabModel" (some .long) (gw y_M_add_JJI b_M_add_JJI 19 (some .long)) := ⟨hx, hb, hml, hown, hts, hr, hlocks⟩
  have hl := lv_entry ([.long x0, .long x2, .int x4]) (n := 19) (Nat.le_of_ble_eq_true rfl)
  rw [lg_entry_eq]
  generalize (lg_sl ([.long x0, .long x2, .int x4]) ++ List.replicate (19 - (lg_sl ([.long x0, .long x2, .int x4])).length) Slot.unset).toArray = ls at hl ⊢
  have hl : lv_has ls 19 [(0, .long x0), (2, .long x2), (4, .int x4)] := hl
  refine lv_lload_n hx hb d_M_add_JJI_0 rfl (lv_at hl 0 rfl) ?_
  refine lv_iload hx hb d_M_add_JJI_1 (lv_at hl 2 rfl) ?_
  refine pu_i (As := [.long x0, .int x4]) (rest := []) ⟨hx, hb, hml, hown, hts⟩ (c_M_isNone_JI l _ x0 x4) pu_pre (gw_call (k := 2) hts tw_498 tw_499 tw_4 tw_500 (by decide +kernel) rfl rfl ⟨Nat.le_of_ble_eq_true rfl, Nat.le_of_ble_eq_true rfl⟩) rfl hl.1 rfl (Nat.le_of_ble_eq_true rfl) ⟨Nat.zero_le _, Nat.zero_le _⟩ d_M_add_JJI_3 ?_
  refine lv_if_ne (tgt := 18) hx hb d_M_add_JJI_6 (by decide) (fun c1 => ?_) (fun c1 => ?_)
  · refine lv_iload hx hb d_M_add_JJI_18 (lv_at hl 2 rfl) ?_
    refine pu_l (As := [.int x4]) (rest := []) ⟨hx, hb, hml, hown, hts⟩ (c_M_none_I l _ x4) pu_pre (gw_call (k := 1) hts tw_511 tw_512 tw_4 tw_513 (by decide +kernel) rfl rfl ⟨Nat.le_of_ble_eq_true rfl, Nat.le_of_ble_eq_true rfl⟩) rfl hl.1 rfl (Nat.le_of_ble_eq_true rfl) ⟨Nat.zero_le _, Nat.zero_le _⟩ d_M_add_JJI_20 ?_
    exact pu_lret hx hb hr hlocks d_M_add_JJI_23 (by exact Eq.symm (if_neg c1))
  · refine lv_lload_n hx hb d_M_add_JJI_9 rfl (lv_at hl 1 rfl) ?_
    refine lv_iload hx hb d_M_add_JJI_10 (lv_at hl 2 rfl) ?_
    refine pu_i (As := [.long x2, .int x4]) (rest := []) ⟨hx, hb, hml, hown, hts⟩ (c_M_isNone_JI l _ x2 x4) pu_pre (gw_call (k := 2) hts tw_498 tw_499 tw_4 tw_500 (by decide +kernel) rfl rfl ⟨Nat.le_of_ble_eq_true rfl, Nat.le_of_ble_eq_true rfl⟩) rfl hl.1 rfl (Nat.le_of_ble_eq_true rfl) ⟨Nat.zero_le _, Nat.zero_le _⟩ d_M_add_JJI_12 ?_
    refine lv_if_eq (tgt := 24) hx hb d_M_add_JJI_15 (by decide) (fun c2 => ?_) (fun c2 => ?_)
    · refine lv_lload_n hx hb d_M_add_JJI_24 rfl (lv_at hl 0 rfl) ?_
      refine lv_iload hx hb d_M_add_JJI_25 (lv_at hl 2 rfl) ?_
      refine pu_i (As := [.long x0, .int x4]) (rest := []) ⟨hx, hb, hml, hown, hts⟩ (c_M_isInfinite_JI l _ x0 x4) pu_pre (gw_call (k := 2) hts tw_516 tw_517 tw_4 tw_518 (by decide +kernel) rfl rfl ⟨Nat.le_of_ble_eq_true rfl, Nat.le_of_ble_eq_true rfl⟩) rfl hl.1 rfl (Nat.le_of_ble_eq_true rfl) ⟨Nat.zero_le _, Nat.zero_le _⟩ d_M_add_JJI_27 ?_
      refine lv_if_ne (tgt := 42) hx hb d_M_add_JJI_30 (by decide) (fun c3 => ?_) (fun c3 => ?_)
      · exact k_M_add_JJI_42 C0 hRT x0 x2 x4 hk_x4 ls (lv_sub hl [0, 1, 2] rfl) (by exact (Eq.trans (if_pos c1) (Eq.trans (if_pos c2) (if_neg c3))))
      · refine lv_lload_n hx hb d_M_add_JJI_33 rfl (lv_at hl 1 rfl) ?_
        refine lv_iload hx hb d_M_add_JJI_34 (lv_at hl 2 rfl) ?_
        refine pu_i (As := [.long x2, .int x4]) (rest := []) ⟨hx, hb, hml, hown, hts⟩ (c_M_isInfinite_JI l _ x2 x4) pu_pre (gw_call (k := 2) hts tw_516 tw_517 tw_4 tw_518 (by decide +kernel) rfl rfl ⟨Nat.le_of_ble_eq_true rfl, Nat.le_of_ble_eq_true rfl⟩) rfl hl.1 rfl (Nat.le_of_ble_eq_true rfl) ⟨Nat.zero_le _, Nat.zero_le _⟩ d_M_add_JJI_36 ?_
        refine lv_if_eq (tgt := 87) hx hb d_M_add_JJI_39 (by decide) (fun c4 => ?_) (fun c4 => ?_)
        · refine lv_lload_n hx hb d_M_add_JJI_87 rfl (lv_at hl 0 rfl) ?_
          refine lv_iload hx hb d_M_add_JJI_88 (lv_at hl 2 rfl) ?_
          refine pu_i (As := [.long x0, .int x4]) (rest := []) ⟨hx, hb, hml, hown, hts⟩ (c_M_isZero_JI l _ x0 x4) pu_pre (gw_call (k := 2) hts tw_579 tw_580 tw_4 tw_581 (by decide +kernel) rfl rfl ⟨Nat.le_of_ble_eq_true rfl, Nat.le_of_ble_eq_true rfl⟩) rfl hl.1 rfl (Nat.le_of_ble_eq_true rfl) ⟨Nat.zero_le _, Nat.zero_le _⟩ d_M_add_JJI_90 ?_
          refine lv_if_eq (tgt := 117) hx hb d_M_add_JJI_93 (by decide) (fun c5 => ?_) (fun c5 => ?_)
          · exact k_M_add_JJI_117 C0 hRT x0 x2 x4 hk_x4 ls (lv_sub hl [0, 1, 2] rfl) (by exact (Eq.trans (if_pos c1) (Eq.trans (if_pos c2) (Eq.trans (if_pos c3) (Eq.trans (if_pos c4) (if_pos c5))))))
          · refine lv_lload_n hx hb d_M_add_JJI_96 rfl (lv_at hl 1 rfl) ?_
            refine lv_iload hx hb d_M_add_JJI_97 (lv_at hl 2 rfl) ?_
            refine pu_i (As := [.long x2, .int x4]) (rest := []) ⟨hx, hb, hml, hown, hts⟩ (c_M_isZero_JI l _ x2 x4) pu_pre (gw_call (k := 2) hts tw_579 tw_580 tw_4 tw_581 (by decide +kernel) rfl rfl ⟨Nat.le_of_ble_eq_true rfl, Nat.le_of_ble_eq_true rfl⟩) rfl hl.1 rfl (Nat.le_of_ble_eq_true rfl) ⟨Nat.zero_le _, Nat.zero_le _⟩ d_M_add_JJI_99 ?_
            refine lv_if_eq (tgt := 117) hx hb d_M_add_JJI_102 (by decide) (fun c6 => ?_) (fun c6 => ?_)
            · exact k_M_add_JJI_117 C0 hRT x0 x2 x4 hk_x4 ls (lv_sub hl [0, 1, 2] rfl) (by exact (Eq.trans (if_pos c1) (Eq.trans (if_pos c2) (Eq.trans (if_pos c3) (Eq.trans (if_pos c4) (Eq.trans (if_neg c5) (if_pos c6)))))))
            · refine lv_lload_n hx hb d_M_add_JJI_105 rfl (lv_at hl 0 rfl) ?_
              refine lv_lload_n hx hb d_M_add_JJI_106 rfl (lv_at hl 1 rfl) ?_
              refine W.lcmp hx hb d_M_add_JJI_107 ?_
              refine lv_if_ne (tgt := 115) hx hb d_M_add_JJI_108 (by decide) (fun c7 => ?_) (fun c7 => ?_)
              · refine lv_lconst (v := (0 : Int64)) hx hb d_M_add_JJI_115 (by decide) ?_
                exact pu_lret hx hb hr hlocks d_M_add_JJI_116 (by exact Eq.symm (Eq.trans (if_pos c1) (Eq.trans (if_pos c2) (Eq.trans (if_pos c3) (Eq.trans (if_pos c4) (Eq.trans (if_neg c5) (Eq.trans (if_neg c6) (if_neg c7))))))))
              · refine lv_lload_n hx hb d_M_add_JJI_111 rfl (lv_at hl 0 rfl) ?_
                refine lv_goto (tgt := 116) hx hb d_M_add_JJI_112 (by decide) ?_
                exact pu_lret hx hb hr hlocks d_M_add_JJI_116 (by exact Eq.symm (Eq.trans (if_pos c1) (Eq.trans (if_pos c2) (Eq.trans (if_pos c3) (Eq.trans (if_pos c4) (Eq.trans (if_neg c5) (Eq.trans (if_neg c6) (if_pos c7))))))))
        · exact k_M_add_JJI_42 C0 hRT x0 x2 x4 hk_x4 ls (lv_sub hl [0, 1, 2] rfl) (by exact (Eq.trans (if_pos c1) (Eq.trans (if_pos c2) (Eq.trans (if_pos c3) (if_neg c4)))))
    · refine lv_iload hx hb d_M_add_JJI_18 (lv_at hl 2 rfl) ?_
      refine pu_l (As := [.int x4]) (rest := []) ⟨hx, hb, hml, hown, hts⟩ (c_M_none_I l _ x4) pu_pre (gw_call (k := 1) hts tw_511 tw_512 tw_4 tw_513 (by decide +kernel) rfl rfl ⟨Nat.le_of_ble_eq_true rfl, Nat.le_of_ble_eq_true rfl⟩) rfl hl.1 rfl (Nat.le_of_ble_eq_true rfl) ⟨Nat.zero_le _, Nat.zero_le _⟩ d_M_add_JJI_20 ?_
      exact pu_lret hx hb hr hlocks d_M_add_JJI_23 (by exact Eq.symm (Eq.trans (if_pos c1) (if_neg c2)))
end
section
-- ===== MotionLabModel.subtract(JJI)J
abbrev y_M_subtract_JJI : MethodName := ⟨"MotionLabModel", "subtract", "(JJI)J"⟩
abbrev b_M_subtract_JJI : ByteArray := prog_6_method_16_code
theorem d_M_subtract_JJI_0 : decode b_M_subtract_JJI 0 = .ok (.lload_n 2, 1) := by decide +kernel
theorem d_M_subtract_JJI_1 : decode b_M_subtract_JJI 1 = .ok (.iload 4, 2) := by decide +kernel
theorem d_M_subtract_JJI_3 : decode b_M_subtract_JJI 3 = .ok (.invokestatic 56, 3) := by decide +kernel
theorem d_M_subtract_JJI_6 : decode b_M_subtract_JJI 6 = .ok (.ifCond .eq 11, 3) := by decide +kernel
theorem d_M_subtract_JJI_9 : decode b_M_subtract_JJI 9 = .ok (.iload 4, 2) := by decide +kernel
theorem d_M_subtract_JJI_11 : decode b_M_subtract_JJI 11 = .ok (.invokestatic 60, 3) := by decide +kernel
theorem d_M_subtract_JJI_14 : decode b_M_subtract_JJI 14 = .ok (.goto 15, 3) := by decide +kernel
theorem d_M_subtract_JJI_17 : decode b_M_subtract_JJI 17 = .ok (.lload_n 0, 1) := by decide +kernel
theorem d_M_subtract_JJI_18 : decode b_M_subtract_JJI 18 = .ok (.lload_n 2, 1) := by decide +kernel
theorem d_M_subtract_JJI_19 : decode b_M_subtract_JJI 19 = .ok (.iload 4, 2) := by decide +kernel
theorem d_M_subtract_JJI_21 : decode b_M_subtract_JJI 21 = .ok (.invokestatic 79, 3) := by decide +kernel
theorem d_M_subtract_JJI_24 : decode b_M_subtract_JJI 24 = .ok (.iload 4, 2) := by decide +kernel
theorem d_M_subtract_JJI_26 : decode b_M_subtract_JJI 26 = .ok (.invokestatic 82, 3) := by decide +kernel
theorem d_M_subtract_JJI_29 : decode b_M_subtract_JJI 29 = .ok (.lreturn, 1) := by decide +kernel
def f_M_subtract_JJI (x0 : Int64) (x2 : Int64) (x4 : Int32) : Int64 :=
  if (f_M_isNone_JI x2 x4) = 0 then
    f_M_add_JJI x0 (f_M_turned_JI x2 x4) x4
  else
    f_M_none_I x4
set_option maxHeartbeats 4000000 in
set_option maxRecDepth 100000 in
theorem c_M_subtract_JJI (l : Launch) (h : Heap) (t0 t1 t2 : Nat) (x0 : Int64) (x2 : Int64) (x4 : Int32) (hk_x4 : vp_in x4 2) : Met l y_M_subtract_JJI (gw y_M_subtract_JJI b_M_subtract_JJI 5 (some .long)) { frames := 4, cells := 0, slots := 0, locals := 115 } (pr_Pc [.long x0, .long x2, .int x4] h t0 t1 t2) (pu_Ml (f_M_subtract_JJI x0 x2 x4) h) 0 0 (fun _ => False) := by
  refine Met.ofW (cc := b_M_subtract_JJI) (maxL := 5) (ret := (some .long)) (by decide) rfl ?_
  intro p e s m args below meth c s₁ B hml hv
  obtain ⟨rfl, hh, hRT⟩ := hv
  subst hh
  obtain ⟨hT0, hT1, hT2⟩ := id hRT
  have hx := B.exec
  have hb := B.bytes
  have hr := B.returns
  have hts := atoms_spec (ws := (gw y_M_subtract_JJI b_M_subtract_JJI 5 (some .long))) B.pre
  have hown : s.vm.findClass "MotionLabModel" = some m.cls := findClass_of_methodNamed B.named
  have hlocks := B.notSynchronized
  have C0 : pu_C p s m _ meth c b_M_subtract_JJI 5 "MotionLabModel" (some .long) (gw y_M_subtract_JJI b_M_subtract_JJI 5 (some .long)) := ⟨hx, hb, hml, hown, hts, hr, hlocks⟩
  have hl := lv_entry ([.long x0, .long x2, .int x4]) (n := 5) (Nat.le_of_ble_eq_true rfl)
  rw [lg_entry_eq]
  generalize (lg_sl ([.long x0, .long x2, .int x4]) ++ List.replicate (5 - (lg_sl ([.long x0, .long x2, .int x4])).length) Slot.unset).toArray = ls at hl ⊢
  have hl : lv_has ls 5 [(0, .long x0), (2, .long x2), (4, .int x4)] := hl
  refine lv_lload_n hx hb d_M_subtract_JJI_0 rfl (lv_at hl 1 rfl) ?_
  refine lv_iload hx hb d_M_subtract_JJI_1 (lv_at hl 2 rfl) ?_
  refine pu_i (As := [.long x2, .int x4]) (rest := []) ⟨hx, hb, hml, hown, hts⟩ (c_M_isNone_JI l _ x2 x4) pu_pre (gw_call (k := 2) hts tw_498 tw_499 tw_4 tw_500 (by decide +kernel) rfl rfl ⟨Nat.le_of_ble_eq_true rfl, Nat.le_of_ble_eq_true rfl⟩) rfl hl.1 rfl (Nat.le_of_ble_eq_true rfl) ⟨Nat.zero_le _, Nat.zero_le _⟩ d_M_subtract_JJI_3 ?_
  refine lv_if_eq (tgt := 17) hx hb d_M_subtract_JJI_6 (by decide) (fun c1 => ?_) (fun c1 => ?_)
  · refine lv_lload_n hx hb d_M_subtract_JJI_17 rfl (lv_at hl 0 rfl) ?_
    refine lv_lload_n hx hb d_M_subtract_JJI_18 rfl (lv_at hl 1 rfl) ?_
    refine lv_iload hx hb d_M_subtract_JJI_19 (lv_at hl 2 rfl) ?_
    refine pu_l (As := [.long x2, .int x4]) (rest := [.long x0]) ⟨hx, hb, hml, hown, hts⟩ (c_M_turned_JI l _ x2 x4) pu_pre (gw_call (k := 2) hts tw_594 tw_595 tw_4 tw_596 (by decide +kernel) rfl rfl ⟨Nat.le_of_ble_eq_true rfl, Nat.le_of_ble_eq_true rfl⟩) rfl hl.1 rfl (Nat.le_of_ble_eq_true rfl) ⟨Nat.zero_le _, Nat.zero_le _⟩ d_M_subtract_JJI_21 ?_
    refine lv_iload hx hb d_M_subtract_JJI_24 (lv_at hl 2 rfl) ?_
    refine pu_l (As := [.long x0, .long (f_M_turned_JI x2 x4), .int x4]) (rest := []) ⟨hx, hb, hml, hown, hts⟩ (c_M_add_JJI l _ t0 t1 t2 x0 (f_M_turned_JI x2 x4) x4 hk_x4) (pr_pre hRT) (gw_call (k := 3) hts tw_597 tw_598 tw_4 tw_599 (by decide +kernel) rfl rfl ⟨Nat.le_of_ble_eq_true rfl, Nat.le_of_ble_eq_true rfl⟩) rfl hl.1 rfl (Nat.le_of_ble_eq_true rfl) ⟨Nat.zero_le _, Nat.zero_le _⟩ d_M_subtract_JJI_26 ?_
    exact pu_lret hx hb hr hlocks d_M_subtract_JJI_29 (by exact Eq.symm (if_pos c1))
  · refine lv_iload hx hb d_M_subtract_JJI_9 (lv_at hl 2 rfl) ?_
    refine pu_l (As := [.int x4]) (rest := []) ⟨hx, hb, hml, hown, hts⟩ (c_M_none_I l _ x4) pu_pre (gw_call (k := 1) hts tw_511 tw_512 tw_4 tw_513 (by decide +kernel) rfl rfl ⟨Nat.le_of_ble_eq_true rfl, Nat.le_of_ble_eq_true rfl⟩) rfl hl.1 rfl (Nat.le_of_ble_eq_true rfl) ⟨Nat.zero_le _, Nat.zero_le _⟩ d_M_subtract_JJI_11 ?_
    refine lv_goto (tgt := 29) hx hb d_M_subtract_JJI_14 (by decide) ?_
    exact pu_lret hx hb hr hlocks d_M_subtract_JJI_29 (by exact Eq.symm (if_neg c1))
-- ===== MotionLabModel.subtract(JJ)J
abbrev y_M_subtract_JJ : MethodName := ⟨"MotionLabModel", "subtract", "(JJ)J"⟩
abbrev b_M_subtract_JJ : ByteArray := prog_6_method_27_code
theorem d_M_subtract_JJ_0 : decode b_M_subtract_JJ 0 = .ok (.lload_n 0, 1) := by decide +kernel
theorem d_M_subtract_JJ_1 : decode b_M_subtract_JJ 1 = .ok (.lload_n 2, 1) := by decide +kernel
theorem d_M_subtract_JJ_2 : decode b_M_subtract_JJ 2 = .ok (.iconst 0, 1) := by decide +kernel
theorem d_M_subtract_JJ_3 : decode b_M_subtract_JJ 3 = .ok (.invokestatic 107, 3) := by decide +kernel
theorem d_M_subtract_JJ_6 : decode b_M_subtract_JJ 6 = .ok (.lreturn, 1) := by decide +kernel
def f_M_subtract_JJ (x0 : Int64) (x2 : Int64) : Int64 :=
  f_M_subtract_JJI x0 x2 (0 : Int32)
set_option maxHeartbeats 4000000 in
set_option maxRecDepth 100000 in
theorem c_M_subtract_JJ (l : Launch) (h : Heap) (t0 t1 t2 : Nat) (x0 : Int64) (x2 : Int64) : Met l y_M_subtract_JJ (gw y_M_subtract_JJ b_M_subtract_JJ 4 (some .long)) { frames := 5, cells := 0, slots := 0, locals := 139 } (pr_Pc [.long x0, .long x2] h t0 t1 t2) (pu_Ml (f_M_subtract_JJ x0 x2) h) 0 0 (fun _ => False) := by
  refine Met.ofW (cc := b_M_subtract_JJ) (maxL := 4) (ret := (some .long)) (by decide) rfl ?_
  intro p e s m args below meth c s₁ B hml hv
  obtain ⟨rfl, hh, hRT⟩ := hv
  subst hh
  obtain ⟨hT0, hT1, hT2⟩ := id hRT
  have hx := B.exec
  have hb := B.bytes
  have hr := B.returns
  have hts := atoms_spec (ws := (gw y_M_subtract_JJ b_M_subtract_JJ 4 (some .long))) B.pre
  have hown : s.vm.findClass "MotionLabModel" = some m.cls := findClass_of_methodNamed B.named
  have hlocks := B.notSynchronized
  have C0 : pu_C p s m _ meth c b_M_subtract_JJ 4 "MotionLabModel" (some .long) (gw y_M_subtract_JJ b_M_subtract_JJ 4 (some .long)) := ⟨hx, hb, hml, hown, hts, hr, hlocks⟩
  have hl := lv_entry ([.long x0, .long x2]) (n := 4) (Nat.le_of_ble_eq_true rfl)
  rw [lg_entry_eq]
  generalize (lg_sl ([.long x0, .long x2]) ++ List.replicate (4 - (lg_sl ([.long x0, .long x2])).length) Slot.unset).toArray = ls at hl ⊢
  have hl : lv_has ls 4 [(0, .long x0), (2, .long x2)] := hl
  refine lv_lload_n hx hb d_M_subtract_JJ_0 rfl (lv_at hl 0 rfl) ?_
  refine lv_lload_n hx hb d_M_subtract_JJ_1 rfl (lv_at hl 1 rfl) ?_
  refine lv_iconst (v := 0) hx hb d_M_subtract_JJ_2 (by decide) ?_
  refine pu_l (As := [.long x0, .long x2, .int (0 : Int32)]) (rest := []) ⟨hx, hb, hml, hown, hts⟩ (c_M_subtract_JJI l _ t0 t1 t2 x0 x2 (0 : Int32) (in_of (by decide) (by decide))) (pr_pre hRT) (gw_call (k := 3) hts tw_591 tw_592 tw_4 tw_593 (by decide +kernel) rfl rfl ⟨Nat.le_of_ble_eq_true rfl, Nat.le_of_ble_eq_true rfl⟩) rfl hl.1 rfl (Nat.le_of_ble_eq_true rfl) ⟨Nat.zero_le _, Nat.zero_le _⟩ d_M_subtract_JJ_3 ?_
  exact pu_lret hx hb hr hlocks d_M_subtract_JJ_6 (by exact Eq.symm rfl)
-- ===== MotionLabModel.add(JJ)J
abbrev y_M_add_JJ : MethodName := ⟨"MotionLabModel", "add", "(JJ)J"⟩
abbrev b_M_add_JJ : ByteArray := prog_6_method_26_code
theorem d_M_add_JJ_0 : decode b_M_add_JJ 0 = .ok (.lload_n 0, 1) := by decide +kernel
theorem d_M_add_JJ_1 : decode b_M_add_JJ 1 = .ok (.lload_n 2, 1) := by decide +kernel
theorem d_M_add_JJ_2 : decode b_M_add_JJ 2 = .ok (.iconst 0, 1) := by decide +kernel
theorem d_M_add_JJ_3 : decode b_M_add_JJ 3 = .ok (.invokestatic 82, 3) := by decide +kernel
theorem d_M_add_JJ_6 : decode b_M_add_JJ 6 = .ok (.lreturn, 1) := by decide +kernel
def f_M_add_JJ (x0 : Int64) (x2 : Int64) : Int64 :=
  f_M_add_JJI x0 x2 (0 : Int32)
set_option maxHeartbeats 4000000 in
set_option maxRecDepth 100000 in
theorem c_M_add_JJ (l : Launch) (h : Heap) (t0 t1 t2 : Nat) (x0 : Int64) (x2 : Int64) : Met l y_M_add_JJ (gw y_M_add_JJ b_M_add_JJ 4 (some .long)) { frames := 4, cells := 0, slots := 0, locals := 115 } (pr_Pc [.long x0, .long x2] h t0 t1 t2) (pu_Ml (f_M_add_JJ x0 x2) h) 0 0 (fun _ => False) := by
  refine Met.ofW (cc := b_M_add_JJ) (maxL := 4) (ret := (some .long)) (by decide) rfl ?_
  intro p e s m args below meth c s₁ B hml hv
  obtain ⟨rfl, hh, hRT⟩ := hv
  subst hh
  obtain ⟨hT0, hT1, hT2⟩ := id hRT
  have hx := B.exec
  have hb := B.bytes
  have hr := B.returns
  have hts := atoms_spec (ws := (gw y_M_add_JJ b_M_add_JJ 4 (some .long))) B.pre
  have hown : s.vm.findClass "MotionLabModel" = some m.cls := findClass_of_methodNamed B.named
  have hlocks := B.notSynchronized
  have C0 : pu_C p s m _ meth c b_M_add_JJ 4 "MotionLabModel" (some .long) (gw y_M_add_JJ b_M_add_JJ 4 (some .long)) := ⟨hx, hb, hml, hown, hts, hr, hlocks⟩
  have hl := lv_entry ([.long x0, .long x2]) (n := 4) (Nat.le_of_ble_eq_true rfl)
  rw [lg_entry_eq]
  generalize (lg_sl ([.long x0, .long x2]) ++ List.replicate (4 - (lg_sl ([.long x0, .long x2])).length) Slot.unset).toArray = ls at hl ⊢
  have hl : lv_has ls 4 [(0, .long x0), (2, .long x2)] := hl
  refine lv_lload_n hx hb d_M_add_JJ_0 rfl (lv_at hl 0 rfl) ?_
  refine lv_lload_n hx hb d_M_add_JJ_1 rfl (lv_at hl 1 rfl) ?_
  refine lv_iconst (v := 0) hx hb d_M_add_JJ_2 (by decide) ?_
  refine pu_l (As := [.long x0, .long x2, .int (0 : Int32)]) (rest := []) ⟨hx, hb, hml, hown, hts⟩ (c_M_add_JJI l _ t0 t1 t2 x0 x2 (0 : Int32) (in_of (by decide) (by decide))) (pr_pre hRT) (gw_call (k := 3) hts tw_597 tw_598 tw_4 tw_599 (by decide +kernel) rfl rfl ⟨Nat.le_of_ble_eq_true rfl, Nat.le_of_ble_eq_true rfl⟩) rfl hl.1 rfl (Nat.le_of_ble_eq_true rfl) ⟨Nat.zero_le _, Nat.zero_le _⟩ d_M_add_JJ_3 ?_
  exact pu_lret hx hb hr hlocks d_M_add_JJ_6 (by exact Eq.symm rfl)
-- ===== MotionLabModel.square(JJ)J
abbrev y_M_square_JJ : MethodName := ⟨"MotionLabModel", "square", "(JJ)J"⟩
abbrev b_M_square_JJ : ByteArray := prog_6_method_38_code
theorem d_M_square_JJ_0 : decode b_M_square_JJ 0 = .ok (.lload_n 0, 1) := by decide +kernel
theorem d_M_square_JJ_1 : decode b_M_square_JJ 1 = .ok (.lload_n 0, 1) := by decide +kernel
theorem d_M_square_JJ_2 : decode b_M_square_JJ 2 = .ok (.invokestatic 216, 3) := by decide +kernel
theorem d_M_square_JJ_5 : decode b_M_square_JJ 5 = .ok (.lload_n 2, 1) := by decide +kernel
theorem d_M_square_JJ_6 : decode b_M_square_JJ 6 = .ok (.lload_n 2, 1) := by decide +kernel
theorem d_M_square_JJ_7 : decode b_M_square_JJ 7 = .ok (.invokestatic 216, 3) := by decide +kernel
theorem d_M_square_JJ_10 : decode b_M_square_JJ 10 = .ok (.invokestatic 123, 3) := by decide +kernel
theorem d_M_square_JJ_13 : decode b_M_square_JJ 13 = .ok (.lreturn, 1) := by decide +kernel
def f_M_square_JJ (x0 : Int64) (x2 : Int64) : Int64 :=
  f_M_add_JJ (f_M_multiply_JJ x0 x0) (f_M_multiply_JJ x2 x2)
set_option maxHeartbeats 4000000 in
set_option maxRecDepth 100000 in
theorem c_M_square_JJ (l : Launch) (h : Heap) (t0 t1 t2 : Nat) (x0 : Int64) (x2 : Int64) : Met l y_M_square_JJ (gw y_M_square_JJ b_M_square_JJ 4 (some .long)) { frames := 6, cells := 0, slots := 0, locals := 168 } (pr_Pc [.long x0, .long x2] h t0 t1 t2) (pu_Ml (f_M_square_JJ x0 x2) h) 0 0 (fun _ => False) := by
  refine Met.ofW (cc := b_M_square_JJ) (maxL := 4) (ret := (some .long)) (by decide) rfl ?_
  intro p e s m args below meth c s₁ B hml hv
  obtain ⟨rfl, hh, hRT⟩ := hv
  subst hh
  obtain ⟨hT0, hT1, hT2⟩ := id hRT
  have hx := B.exec
  have hb := B.bytes
  have hr := B.returns
  have hts := atoms_spec (ws := (gw y_M_square_JJ b_M_square_JJ 4 (some .long))) B.pre
  have hown : s.vm.findClass "MotionLabModel" = some m.cls := findClass_of_methodNamed B.named
  have hlocks := B.notSynchronized
  have C0 : pu_C p s m _ meth c b_M_square_JJ 4 "MotionLabModel" (some .long) (gw y_M_square_JJ b_M_square_JJ 4 (some .long)) := ⟨hx, hb, hml, hown, hts, hr, hlocks⟩
  have hl := lv_entry ([.long x0, .long x2]) (n := 4) (Nat.le_of_ble_eq_true rfl)
  rw [lg_entry_eq]
  generalize (lg_sl ([.long x0, .long x2]) ++ List.replicate (4 - (lg_sl ([.long x0, .long x2])).length) Slot.unset).toArray = ls at hl ⊢
  have hl : lv_has ls 4 [(0, .long x0), (2, .long x2)] := hl
  refine lv_lload_n hx hb d_M_square_JJ_0 rfl (lv_at hl 0 rfl) ?_
  refine lv_lload_n hx hb d_M_square_JJ_1 rfl (lv_at hl 0 rfl) ?_
  refine pu_l (As := [.long x0, .long x0]) (rest := []) ⟨hx, hb, hml, hown, hts⟩ (c_M_multiply_JJ l _ t0 t1 t2 x0 x0) (pr_pre hRT) (gw_call (k := 2) hts tw_573 tw_574 tw_4 tw_575 (by decide +kernel) rfl rfl ⟨Nat.le_of_ble_eq_true rfl, Nat.le_of_ble_eq_true rfl⟩) rfl hl.1 rfl (Nat.le_of_ble_eq_true rfl) ⟨Nat.zero_le _, Nat.zero_le _⟩ d_M_square_JJ_2 ?_
  refine lv_lload_n hx hb d_M_square_JJ_5 rfl (lv_at hl 1 rfl) ?_
  refine lv_lload_n hx hb d_M_square_JJ_6 rfl (lv_at hl 1 rfl) ?_
  refine pu_l (As := [.long x2, .long x2]) (rest := [.long (f_M_multiply_JJ x0 x0)]) ⟨hx, hb, hml, hown, hts⟩ (c_M_multiply_JJ l _ t0 t1 t2 x2 x2) (pr_pre hRT) (gw_call (k := 2) hts tw_573 tw_574 tw_4 tw_575 (by decide +kernel) rfl rfl ⟨Nat.le_of_ble_eq_true rfl, Nat.le_of_ble_eq_true rfl⟩) rfl hl.1 rfl (Nat.le_of_ble_eq_true rfl) ⟨Nat.zero_le _, Nat.zero_le _⟩ d_M_square_JJ_7 ?_
  refine pu_l (As := [.long (f_M_multiply_JJ x0 x0), .long (f_M_multiply_JJ x2 x2)]) (rest := []) ⟨hx, hb, hml, hown, hts⟩ (c_M_add_JJ l _ t0 t1 t2 (f_M_multiply_JJ x0 x0) (f_M_multiply_JJ x2 x2)) (pr_pre hRT) (gw_call (k := 2) hts tw_611 tw_612 tw_4 tw_613 (by decide +kernel) rfl rfl ⟨Nat.le_of_ble_eq_true rfl, Nat.le_of_ble_eq_true rfl⟩) rfl hl.1 rfl (Nat.le_of_ble_eq_true rfl) ⟨Nat.zero_le _, Nat.zero_le _⟩ d_M_square_JJ_10 ?_
  exact pu_lret hx hb hr hlocks d_M_square_JJ_13 (by exact Eq.symm rfl)
-- ===== java/lang/Long.compare(JJ)I
abbrev y_jL_compare_JJ : MethodName := ⟨"java/lang/Long", "compare", "(JJ)I"⟩
abbrev b_jL_compare_JJ : ByteArray := prog_8_method_42_code
theorem d_jL_compare_JJ_0 : decode b_jL_compare_JJ 0 = .ok (.lload_n 0, 1) := by decide +kernel
theorem d_jL_compare_JJ_1 : decode b_jL_compare_JJ 1 = .ok (.lload_n 2, 1) := by decide +kernel
theorem d_jL_compare_JJ_2 : decode b_jL_compare_JJ 2 = .ok (.lcmp, 1) := by decide +kernel
theorem d_jL_compare_JJ_3 : decode b_jL_compare_JJ 3 = .ok (.ifCond .ge 7, 3) := by decide +kernel
theorem d_jL_compare_JJ_6 : decode b_jL_compare_JJ 6 = .ok (.iconst (-1), 1) := by decide +kernel
theorem d_jL_compare_JJ_7 : decode b_jL_compare_JJ 7 = .ok (.goto 14, 3) := by decide +kernel
theorem d_jL_compare_JJ_10 : decode b_jL_compare_JJ 10 = .ok (.lload_n 0, 1) := by decide +kernel
theorem d_jL_compare_JJ_11 : decode b_jL_compare_JJ 11 = .ok (.lload_n 2, 1) := by decide +kernel
theorem d_jL_compare_JJ_12 : decode b_jL_compare_JJ 12 = .ok (.lcmp, 1) := by decide +kernel
theorem d_jL_compare_JJ_13 : decode b_jL_compare_JJ 13 = .ok (.ifCond .ne 7, 3) := by decide +kernel
theorem d_jL_compare_JJ_16 : decode b_jL_compare_JJ 16 = .ok (.iconst 0, 1) := by decide +kernel
theorem d_jL_compare_JJ_17 : decode b_jL_compare_JJ 17 = .ok (.goto 4, 3) := by decide +kernel
theorem d_jL_compare_JJ_20 : decode b_jL_compare_JJ 20 = .ok (.iconst 1, 1) := by decide +kernel
theorem d_jL_compare_JJ_21 : decode b_jL_compare_JJ 21 = .ok (.ireturn, 1) := by decide +kernel
def f_jL_compare_JJ (x0 : Int64) (x2 : Int64) : Int32 :=
  if 0 ≤ (lg_cmp x0 x2) then
    if (lg_cmp x0 x2) = 0 then
      (0 : Int32)
    else
      (1 : Int32)
  else
    (-1 : Int32)
set_option maxHeartbeats 4000000 in
set_option maxRecDepth 100000 in
theorem c_jL_compare_JJ (l : Launch) (h : Heap) (x0 : Int64) (x2 : Int64) : Met l y_jL_compare_JJ (gw y_jL_compare_JJ b_jL_compare_JJ 4 (some .int)) { frames := 0, cells := 0, slots := 0, locals := 0 } (pu_Pc [.long x0, .long x2] h) (pu_Mi (f_jL_compare_JJ x0 x2) h) 0 0 (fun _ => False) := by
  refine va_MetF (cc := b_jL_compare_JJ) (maxL := 4) (ret := (some .int)) (by decide +kernel) rfl ?_
  intro p e s m args below meth c s₁ B hml hv
  obtain ⟨rfl, hh⟩ := hv
  subst hh
  have hx := B.exec
  have hb := B.bytes
  have hr := B.returns
  have hts := atoms_spec (ws := (gw y_jL_compare_JJ b_jL_compare_JJ 4 (some .int))) B.pre
  have hown : s.vm.findClass "java/lang/Long" = some m.cls := findClass_of_methodNamed B.named
  have hlocks := B.notSynchronized
  have C0 : pu_C p s m _ meth c b_jL_compare_JJ 4 "java/lang/Long" (some .int) (gw y_jL_compare_JJ b_jL_compare_JJ 4 (some .int)) := ⟨hx, hb, hml, hown, hts, hr, hlocks⟩
  have hl := lv_entry ([.long x0, .long x2]) (n := 4) (Nat.le_of_ble_eq_true rfl)
  rw [lg_entry_eq]
  generalize (lg_sl ([.long x0, .long x2]) ++ List.replicate (4 - (lg_sl ([.long x0, .long x2])).length) Slot.unset).toArray = ls at hl ⊢
  have hl : lv_has ls 4 [(0, .long x0), (2, .long x2)] := hl
  refine lv_lload_n hx hb d_jL_compare_JJ_0 rfl (lv_at hl 0 rfl) ?_
  refine lv_lload_n hx hb d_jL_compare_JJ_1 rfl (lv_at hl 1 rfl) ?_
  refine W.lcmp hx hb d_jL_compare_JJ_2 ?_
  refine lv_if_ge (tgt := 10) hx hb d_jL_compare_JJ_3 (by decide) (fun c1 => ?_) (fun c1 => ?_)
  · refine lv_lload_n hx hb d_jL_compare_JJ_10 rfl (lv_at hl 0 rfl) ?_
    refine lv_lload_n hx hb d_jL_compare_JJ_11 rfl (lv_at hl 1 rfl) ?_
    refine W.lcmp hx hb d_jL_compare_JJ_12 ?_
    refine lv_if_ne (tgt := 20) hx hb d_jL_compare_JJ_13 (by decide) (fun c2 => ?_) (fun c2 => ?_)
    · refine lv_iconst (v := 1) hx hb d_jL_compare_JJ_20 (by decide) ?_
      exact pu_iret hx hb hr hlocks d_jL_compare_JJ_21 (by exact Eq.symm (Eq.trans (if_pos c1) (if_neg c2)))
    · refine lv_iconst (v := 0) hx hb d_jL_compare_JJ_16 (by decide) ?_
      refine lv_goto (tgt := 21) hx hb d_jL_compare_JJ_17 (by decide) ?_
      exact pu_iret hx hb hr hlocks d_jL_compare_JJ_21 (by exact Eq.symm (Eq.trans (if_pos c1) (if_pos c2)))
  · refine lv_iconst (v := (-1)) hx hb d_jL_compare_JJ_6 (by decide) ?_
    refine lv_goto (tgt := 21) hx hb d_jL_compare_JJ_7 (by decide) ?_
    exact pu_iret hx hb hr hlocks d_jL_compare_JJ_21 (by exact Eq.symm (if_neg c1))
-- ===== MotionLabModel.order(JJ)I
abbrev y_M_order_JJ : MethodName := ⟨"MotionLabModel", "order", "(JJ)I"⟩
abbrev b_M_order_JJ : ByteArray := prog_6_method_24_code
theorem d_M_order_JJ_0 : decode b_M_order_JJ 0 = .ok (.lload_n 0, 1) := by decide +kernel
theorem d_M_order_JJ_1 : decode b_M_order_JJ 1 = .ok (.iconst 0, 1) := by decide +kernel
theorem d_M_order_JJ_2 : decode b_M_order_JJ 2 = .ok (.invokestatic 56, 3) := by decide +kernel
theorem d_M_order_JJ_5 : decode b_M_order_JJ 5 = .ok (.ifCond .ne 11, 3) := by decide +kernel
theorem d_M_order_JJ_8 : decode b_M_order_JJ 8 = .ok (.lload_n 2, 1) := by decide +kernel
theorem d_M_order_JJ_9 : decode b_M_order_JJ 9 = .ok (.iconst 0, 1) := by decide +kernel
theorem d_M_order_JJ_10 : decode b_M_order_JJ 10 = .ok (.invokestatic 56, 3) := by decide +kernel
theorem d_M_order_JJ_13 : decode b_M_order_JJ 13 = .ok (.ifCond .eq 5, 3) := by decide +kernel
theorem d_M_order_JJ_16 : decode b_M_order_JJ 16 = .ok (.iconst 2, 1) := by decide +kernel
theorem d_M_order_JJ_17 : decode b_M_order_JJ 17 = .ok (.ireturn, 1) := by decide +kernel
theorem d_M_order_JJ_18 : decode b_M_order_JJ 18 = .ok (.lload_n 0, 1) := by decide +kernel
theorem d_M_order_JJ_19 : decode b_M_order_JJ 19 = .ok (.iconst 0, 1) := by decide +kernel
theorem d_M_order_JJ_20 : decode b_M_order_JJ 20 = .ok (.invokestatic 76, 3) := by decide +kernel
theorem d_M_order_JJ_23 : decode b_M_order_JJ 23 = .ok (.ifCond .eq 12, 3) := by decide +kernel
theorem d_M_order_JJ_26 : decode b_M_order_JJ 26 = .ok (.lload_n 0, 1) := by decide +kernel
theorem d_M_order_JJ_27 : decode b_M_order_JJ 27 = .ok (.iconst 0, 1) := by decide +kernel
theorem d_M_order_JJ_28 : decode b_M_order_JJ 28 = .ok (.invokestatic 15, 3) := by decide +kernel
theorem d_M_order_JJ_31 : decode b_M_order_JJ 31 = .ok (.lneg, 1) := by decide +kernel
theorem d_M_order_JJ_32 : decode b_M_order_JJ 32 = .ok (.goto 8, 3) := by decide +kernel
theorem d_M_order_JJ_35 : decode b_M_order_JJ 35 = .ok (.lload_n 0, 1) := by decide +kernel
theorem d_M_order_JJ_36 : decode b_M_order_JJ 36 = .ok (.iconst 0, 1) := by decide +kernel
theorem d_M_order_JJ_37 : decode b_M_order_JJ 37 = .ok (.invokestatic 15, 3) := by decide +kernel
theorem d_M_order_JJ_40 : decode b_M_order_JJ 40 = .ok (.lstore 4, 2) := by decide +kernel
theorem d_M_order_JJ_42 : decode b_M_order_JJ 42 = .ok (.lload_n 2, 1) := by decide +kernel
theorem d_M_order_JJ_43 : decode b_M_order_JJ 43 = .ok (.iconst 0, 1) := by decide +kernel
theorem d_M_order_JJ_44 : decode b_M_order_JJ 44 = .ok (.invokestatic 76, 3) := by decide +kernel
theorem d_M_order_JJ_47 : decode b_M_order_JJ 47 = .ok (.ifCond .eq 12, 3) := by decide +kernel
theorem d_M_order_JJ_50 : decode b_M_order_JJ 50 = .ok (.lload_n 2, 1) := by decide +kernel
theorem d_M_order_JJ_51 : decode b_M_order_JJ 51 = .ok (.iconst 0, 1) := by decide +kernel
theorem d_M_order_JJ_52 : decode b_M_order_JJ 52 = .ok (.invokestatic 15, 3) := by decide +kernel
theorem d_M_order_JJ_55 : decode b_M_order_JJ 55 = .ok (.lneg, 1) := by decide +kernel
theorem d_M_order_JJ_56 : decode b_M_order_JJ 56 = .ok (.goto 8, 3) := by decide +kernel
theorem d_M_order_JJ_59 : decode b_M_order_JJ 59 = .ok (.lload_n 2, 1) := by decide +kernel
theorem d_M_order_JJ_60 : decode b_M_order_JJ 60 = .ok (.iconst 0, 1) := by decide +kernel
theorem d_M_order_JJ_61 : decode b_M_order_JJ 61 = .ok (.invokestatic 15, 3) := by decide +kernel
theorem d_M_order_JJ_64 : decode b_M_order_JJ 64 = .ok (.lstore 6, 2) := by decide +kernel
theorem d_M_order_JJ_66 : decode b_M_order_JJ 66 = .ok (.lload 4, 2) := by decide +kernel
theorem d_M_order_JJ_68 : decode b_M_order_JJ 68 = .ok (.lload 6, 2) := by decide +kernel
theorem d_M_order_JJ_70 : decode b_M_order_JJ 70 = .ok (.invokestatic 103, 3) := by decide +kernel
theorem d_M_order_JJ_73 : decode b_M_order_JJ 73 = .ok (.ireturn, 1) := by decide +kernel
def f_M_order_JJ_40 (x2 : Int64) (s0 : Int64) : Int32 :=
  if (f_M_minus_JI x2 (0 : Int32)) = 0 then
    let v2 : Int64 := f_M_size_JI x2 (0 : Int32)
    f_jL_compare_JJ s0 v2
  else
    let v3 : Int64 := -(f_M_size_JI x2 (0 : Int32))
    f_jL_compare_JJ s0 v3
set_option maxHeartbeats 4000000 in
set_option maxRecDepth 100000 in
theorem k_M_order_JJ_40 {p : Program} {l : Launch} {e : Env} {s : State} {m : MethodId} {args : Array Value} {below : List Frame} {meth : Method} {c : Code} (C0 : pu_C p s m args meth c b_M_order_JJ 8 "MotionLabModel" (some .int) (gw y_M_order_JJ b_M_order_JJ 8 (some .int))) (x2 : Int64) (s0 : Int64) (ls : Array Slot) (hl : lv_has ls 8 [(2, .long x2)]) {w : Int32} (hw : w = f_M_order_JJ_40 x2 s0) : W p l e (headSpec (gw y_M_order_JJ b_M_order_JJ 8 (some .int)) ({ frames := 3, cells := 0, slots := 0, locals := 64 } : Room)).room s m args below meth c s.heap [] 0 0 (pu_Qi w below args s) (F0 m 40 ls [.long s0]) := by
  obtain ⟨hx, hb, hml, hown, hts, hr, hlocks⟩ := id C0
  refine lv_lstore (lv' := [(4, .long s0), (2, .long x2)]) hx hb d_M_order_JJ_40 hl (by decide) rfl (fun ls hl => ?_)
  refine lv_lload_n hx hb d_M_order_JJ_42 rfl (lv_at hl 1 rfl) ?_
  refine lv_iconst (v := 0) hx hb d_M_order_JJ_43 (by decide) ?_
  refine pu_i (As := [.long x2, .int (0 : Int32)]) (rest := []) ⟨hx, hb, hml, hown, hts⟩ (c_M_minus_JI l _ x2 (0 : Int32)) pu_pre (gw_call (k := 2) hts tw_519 tw_520 tw_4 tw_521 (by decide +kernel) rfl rfl ⟨Nat.le_of_ble_eq_true rfl, Nat.le_of_ble_eq_true rfl⟩) rfl hl.1 rfl (Nat.le_of_ble_eq_true rfl) ⟨Nat.zero_le _, Nat.zero_le _⟩ d_M_order_JJ_44 ?_
  refine lv_if_eq (tgt := 59) hx hb d_M_order_JJ_47 (by decide) (fun c1 => ?_) (fun c1 => ?_)
  · refine lv_lload_n hx hb d_M_order_JJ_59 rfl (lv_at hl 1 rfl) ?_
    refine lv_iconst (v := 0) hx hb d_M_order_JJ_60 (by decide) ?_
    refine pu_l (As := [.long x2, .int (0 : Int32)]) (rest := []) ⟨hx, hb, hml, hown, hts⟩ (c_M_size_JI l _ x2 (0 : Int32)) pu_pre (gw_call (k := 2) hts tw_501 tw_502 tw_4 tw_503 (by decide +kernel) rfl rfl ⟨Nat.le_of_ble_eq_true rfl, Nat.le_of_ble_eq_true rfl⟩) rfl hl.1 rfl (Nat.le_of_ble_eq_true rfl) ⟨Nat.zero_le _, Nat.zero_le _⟩ d_M_order_JJ_61 ?_
    refine lv_topl (fun v2 e2 => ?_)
    refine lv_lstore (lv' := [(6, .long v2), (4, .long s0), (2, .long x2)]) hx hb d_M_order_JJ_64 hl (by decide) rfl (fun ls hl => ?_)
    refine lv_lload hx hb d_M_order_JJ_66 (lv_at hl 1 rfl) ?_
    refine lv_lload hx hb d_M_order_JJ_68 (lv_at hl 0 rfl) ?_
    refine pu_i (As := [.long s0, .long v2]) (rest := []) ⟨hx, hb, hml, hown, hts⟩ (c_jL_compare_JJ l _ s0 v2) pu_pre (gw_call (k := 2) hts tw_620 tw_621 tw_7 tw_622 (by decide +kernel) rfl rfl ⟨Nat.le_of_ble_eq_true rfl, Nat.le_of_ble_eq_true rfl⟩) rfl hl.1 rfl (Nat.le_of_ble_eq_true rfl) ⟨Nat.zero_le _, Nat.zero_le _⟩ d_M_order_JJ_70 ?_
    exact pu_iret hx hb hr hlocks d_M_order_JJ_73 (by have qe2 := e2.symm; subst qe2; exact Eq.symm (hw.trans (if_pos c1)))
  · refine lv_lload_n hx hb d_M_order_JJ_50 rfl (lv_at hl 1 rfl) ?_
    refine lv_iconst (v := 0) hx hb d_M_order_JJ_51 (by decide) ?_
    refine pu_l (As := [.long x2, .int (0 : Int32)]) (rest := []) ⟨hx, hb, hml, hown, hts⟩ (c_M_size_JI l _ x2 (0 : Int32)) pu_pre (gw_call (k := 2) hts tw_501 tw_502 tw_4 tw_503 (by decide +kernel) rfl rfl ⟨Nat.le_of_ble_eq_true rfl, Nat.le_of_ble_eq_true rfl⟩) rfl hl.1 rfl (Nat.le_of_ble_eq_true rfl) ⟨Nat.zero_le _, Nat.zero_le _⟩ d_M_order_JJ_52 ?_
    refine lv_lneg hx hb d_M_order_JJ_55 ?_
    refine lv_goto (tgt := 64) hx hb d_M_order_JJ_56 (by decide) ?_
    refine lv_topl (fun v3 e3 => ?_)
    refine lv_lstore (lv' := [(6, .long v3), (4, .long s0), (2, .long x2)]) hx hb d_M_order_JJ_64 hl (by decide) rfl (fun ls hl => ?_)
    refine lv_lload hx hb d_M_order_JJ_66 (lv_at hl 1 rfl) ?_
    refine lv_lload hx hb d_M_order_JJ_68 (lv_at hl 0 rfl) ?_
    refine pu_i (As := [.long s0, .long v3]) (rest := []) ⟨hx, hb, hml, hown, hts⟩ (c_jL_compare_JJ l _ s0 v3) pu_pre (gw_call (k := 2) hts tw_620 tw_621 tw_7 tw_622 (by decide +kernel) rfl rfl ⟨Nat.le_of_ble_eq_true rfl, Nat.le_of_ble_eq_true rfl⟩) rfl hl.1 rfl (Nat.le_of_ble_eq_true rfl) ⟨Nat.zero_le _, Nat.zero_le _⟩ d_M_order_JJ_70 ?_
    exact pu_iret hx hb hr hlocks d_M_order_JJ_73 (by have qe3 := e3.symm; subst qe3; exact Eq.symm (hw.trans (if_neg c1)))
def f_M_order_JJ (x0 : Int64) (x2 : Int64) : Int32 :=
  if (f_M_isNone_JI x0 (0 : Int32)) = 0 then
    if (f_M_isNone_JI x2 (0 : Int32)) = 0 then
      if (f_M_minus_JI x0 (0 : Int32)) = 0 then
        f_M_order_JJ_40 x2 (f_M_size_JI x0 (0 : Int32))
      else
        f_M_order_JJ_40 x2 (-(f_M_size_JI x0 (0 : Int32)))
    else
      (2 : Int32)
  else
    (2 : Int32)
set_option maxHeartbeats 4000000 in
set_option maxRecDepth 100000 in
theorem c_M_order_JJ (l : Launch) (h : Heap) (x0 : Int64) (x2 : Int64) : Met l y_M_order_JJ (gw y_M_order_JJ b_M_order_JJ 8 (some .int)) { frames := 3, cells := 0, slots := 0, locals := 64 } (pu_Pc [.long x0, .long x2] h) (pu_Mi (f_M_order_JJ x0 x2) h) 0 0 (fun _ => False) := by
  refine Met.ofW (cc := b_M_order_JJ) (maxL := 8) (ret := (some .int)) (by decide) rfl ?_
  intro p e s m args below meth c s₁ B hml hv
  obtain ⟨rfl, hh⟩ := hv
  subst hh
  have hx := B.exec
  have hb := B.bytes
  have hr := B.returns
  have hts := atoms_spec (ws := (gw y_M_order_JJ b_M_order_JJ 8 (some .int))) B.pre
  have hown : s.vm.findClass "MotionLabModel" = some m.cls := findClass_of_methodNamed B.named
  have hlocks := B.notSynchronized
  have C0 : pu_C p s m _ meth c b_M_order_JJ 8 "MotionLabModel" (some .int) (gw y_M_order_JJ b_M_order_JJ 8 (some .int)) := ⟨hx, hb, hml, hown, hts, hr, hlocks⟩
  have hl := lv_entry ([.long x0, .long x2]) (n := 8) (Nat.le_of_ble_eq_true rfl)
  rw [lg_entry_eq]
  generalize (lg_sl ([.long x0, .long x2]) ++ List.replicate (8 - (lg_sl ([.long x0, .long x2])).length) Slot.unset).toArray = ls at hl ⊢
  have hl : lv_has ls 8 [(0, .long x0), (2, .long x2)] := hl
  refine lv_lload_n hx hb d_M_order_JJ_0 rfl (lv_at hl 0 rfl) ?_
  refine lv_iconst (v := 0) hx hb d_M_order_JJ_1 (by decide) ?_
  refine pu_i (As := [.long x0, .int (0 : Int32)]) (rest := []) ⟨hx, hb, hml, hown, hts⟩ (c_M_isNone_JI l _ x0 (0 : Int32)) pu_pre (gw_call (k := 2) hts tw_498 tw_499 tw_4 tw_500 (by decide +kernel) rfl rfl ⟨Nat.le_of_ble_eq_true rfl, Nat.le_of_ble_eq_true rfl⟩) rfl hl.1 rfl (Nat.le_of_ble_eq_true rfl) ⟨Nat.zero_le _, Nat.zero_le _⟩ d_M_order_JJ_2 ?_
  refine lv_if_ne (tgt := 16) hx hb d_M_order_JJ_5 (by decide) (fun c1 => ?_) (fun c1 => ?_)
  · refine lv_iconst (v := 2) hx hb d_M_order_JJ_16 (by decide) ?_
    exact pu_iret hx hb hr hlocks d_M_order_JJ_17 (by exact Eq.symm (if_neg c1))
  · refine lv_lload_n hx hb d_M_order_JJ_8 rfl (lv_at hl 1 rfl) ?_
    refine lv_iconst (v := 0) hx hb d_M_order_JJ_9 (by decide) ?_
    refine pu_i (As := [.long x2, .int (0 : Int32)]) (rest := []) ⟨hx, hb, hml, hown, hts⟩ (c_M_isNone_JI l _ x2 (0 : Int32)) pu_pre (gw_call (k := 2) hts tw_498 tw_499 tw_4 tw_500 (by decide +kernel) rfl rfl ⟨Nat.le_of_ble_eq_true rfl, Nat.le_of_ble_eq_true rfl⟩) rfl hl.1 rfl (Nat.le_of_ble_eq_true rfl) ⟨Nat.zero_le _, Nat.zero_le _⟩ d_M_order_JJ_10 ?_
    refine lv_if_eq (tgt := 18) hx hb d_M_order_JJ_13 (by decide) (fun c2 => ?_) (fun c2 => ?_)
    · refine lv_lload_n hx hb d_M_order_JJ_18 rfl (lv_at hl 0 rfl) ?_
      refine lv_iconst (v := 0) hx hb d_M_order_JJ_19 (by decide) ?_
      refine pu_i (As := [.long x0, .int (0 : Int32)]) (rest := []) ⟨hx, hb, hml, hown, hts⟩ (c_M_minus_JI l _ x0 (0 : Int32)) pu_pre (gw_call (k := 2) hts tw_519 tw_520 tw_4 tw_521 (by decide +kernel) rfl rfl ⟨Nat.le_of_ble_eq_true rfl, Nat.le_of_ble_eq_true rfl⟩) rfl hl.1 rfl (Nat.le_of_ble_eq_true rfl) ⟨Nat.zero_le _, Nat.zero_le _⟩ d_M_order_JJ_20 ?_
      refine lv_if_eq (tgt := 35) hx hb d_M_order_JJ_23 (by decide) (fun c3 => ?_) (fun c3 => ?_)
      · refine lv_lload_n hx hb d_M_order_JJ_35 rfl (lv_at hl 0 rfl) ?_
        refine lv_iconst (v := 0) hx hb d_M_order_JJ_36 (by decide) ?_
        refine pu_l (As := [.long x0, .int (0 : Int32)]) (rest := []) ⟨hx, hb, hml, hown, hts⟩ (c_M_size_JI l _ x0 (0 : Int32)) pu_pre (gw_call (k := 2) hts tw_501 tw_502 tw_4 tw_503 (by decide +kernel) rfl rfl ⟨Nat.le_of_ble_eq_true rfl, Nat.le_of_ble_eq_true rfl⟩) rfl hl.1 rfl (Nat.le_of_ble_eq_true rfl) ⟨Nat.zero_le _, Nat.zero_le _⟩ d_M_order_JJ_37 ?_
        exact k_M_order_JJ_40 C0 x2 (f_M_size_JI x0 (0 : Int32)) ls (lv_sub hl [1] rfl) (by exact (Eq.trans (if_pos c1) (Eq.trans (if_pos c2) (if_pos c3))))
      · refine lv_lload_n hx hb d_M_order_JJ_26 rfl (lv_at hl 0 rfl) ?_
        refine lv_iconst (v := 0) hx hb d_M_order_JJ_27 (by decide) ?_
        refine pu_l (As := [.long x0, .int (0 : Int32)]) (rest := []) ⟨hx, hb, hml, hown, hts⟩ (c_M_size_JI l _ x0 (0 : Int32)) pu_pre (gw_call (k := 2) hts tw_501 tw_502 tw_4 tw_503 (by decide +kernel) rfl rfl ⟨Nat.le_of_ble_eq_true rfl, Nat.le_of_ble_eq_true rfl⟩) rfl hl.1 rfl (Nat.le_of_ble_eq_true rfl) ⟨Nat.zero_le _, Nat.zero_le _⟩ d_M_order_JJ_28 ?_
        refine lv_lneg hx hb d_M_order_JJ_31 ?_
        refine lv_goto (tgt := 40) hx hb d_M_order_JJ_32 (by decide) ?_
        exact k_M_order_JJ_40 C0 x2 (-(f_M_size_JI x0 (0 : Int32))) ls (lv_sub hl [1] rfl) (by exact (Eq.trans (if_pos c1) (Eq.trans (if_pos c2) (if_neg c3))))
    · refine lv_iconst (v := 2) hx hb d_M_order_JJ_16 (by decide) ?_
      exact pu_iret hx hb hr hlocks d_M_order_JJ_17 (by exact Eq.symm (Eq.trans (if_pos c1) (if_neg c2)))
end
section
-- ===== MotionLabModel.divide(JJI)J
abbrev y_M_divide_JJI : MethodName := ⟨"MotionLabModel", "divide", "(JJI)J"⟩
abbrev b_M_divide_JJI : ByteArray := prog_6_method_19_code
theorem d_M_divide_JJI_0 : decode b_M_divide_JJI 0 = .ok (.lload_n 0, 1) := by decide +kernel
theorem d_M_divide_JJI_1 : decode b_M_divide_JJI 1 = .ok (.iload 4, 2) := by decide +kernel
theorem d_M_divide_JJI_3 : decode b_M_divide_JJI 3 = .ok (.invokestatic 76, 3) := by decide +kernel
theorem d_M_divide_JJI_6 : decode b_M_divide_JJI 6 = .ok (.lload_n 2, 1) := by decide +kernel
theorem d_M_divide_JJI_7 : decode b_M_divide_JJI 7 = .ok (.iload 4, 2) := by decide +kernel
theorem d_M_divide_JJI_9 : decode b_M_divide_JJI 9 = .ok (.invokestatic 76, 3) := by decide +kernel
theorem d_M_divide_JJI_12 : decode b_M_divide_JJI 12 = .ok (.if_icmp .eq 7, 3) := by decide +kernel
theorem d_M_divide_JJI_15 : decode b_M_divide_JJI 15 = .ok (.iconst 1, 1) := by decide +kernel
theorem d_M_divide_JJI_16 : decode b_M_divide_JJI 16 = .ok (.goto 4, 3) := by decide +kernel
theorem d_M_divide_JJI_19 : decode b_M_divide_JJI 19 = .ok (.iconst 0, 1) := by decide +kernel
theorem d_M_divide_JJI_20 : decode b_M_divide_JJI 20 = .ok (.istore 5, 2) := by decide +kernel
theorem d_M_divide_JJI_22 : decode b_M_divide_JJI 22 = .ok (.lload_n 0, 1) := by decide +kernel
theorem d_M_divide_JJI_23 : decode b_M_divide_JJI 23 = .ok (.iload 4, 2) := by decide +kernel
theorem d_M_divide_JJI_25 : decode b_M_divide_JJI 25 = .ok (.invokestatic 56, 3) := by decide +kernel
theorem d_M_divide_JJI_28 : decode b_M_divide_JJI 28 = .ok (.ifCond .ne 12, 3) := by decide +kernel
theorem d_M_divide_JJI_31 : decode b_M_divide_JJI 31 = .ok (.lload_n 2, 1) := by decide +kernel
theorem d_M_divide_JJI_32 : decode b_M_divide_JJI 32 = .ok (.iload 4, 2) := by decide +kernel
theorem d_M_divide_JJI_34 : decode b_M_divide_JJI 34 = .ok (.invokestatic 56, 3) := by decide +kernel
theorem d_M_divide_JJI_37 : decode b_M_divide_JJI 37 = .ok (.ifCond .eq 9, 3) := by decide +kernel
theorem d_M_divide_JJI_40 : decode b_M_divide_JJI 40 = .ok (.iload 4, 2) := by decide +kernel
theorem d_M_divide_JJI_42 : decode b_M_divide_JJI 42 = .ok (.invokestatic 60, 3) := by decide +kernel
theorem d_M_divide_JJI_45 : decode b_M_divide_JJI 45 = .ok (.lreturn, 1) := by decide +kernel
theorem d_M_divide_JJI_46 : decode b_M_divide_JJI 46 = .ok (.lload_n 0, 1) := by decide +kernel
theorem d_M_divide_JJI_47 : decode b_M_divide_JJI 47 = .ok (.iload 4, 2) := by decide +kernel
theorem d_M_divide_JJI_49 : decode b_M_divide_JJI 49 = .ok (.invokestatic 63, 3) := by decide +kernel
theorem d_M_divide_JJI_52 : decode b_M_divide_JJI 52 = .ok (.ifCond .eq 33, 3) := by decide +kernel
theorem d_M_divide_JJI_55 : decode b_M_divide_JJI 55 = .ok (.lload_n 2, 1) := by decide +kernel
theorem d_M_divide_JJI_56 : decode b_M_divide_JJI 56 = .ok (.iload 4, 2) := by decide +kernel
theorem d_M_divide_JJI_58 : decode b_M_divide_JJI 58 = .ok (.invokestatic 63, 3) := by decide +kernel
theorem d_M_divide_JJI_61 : decode b_M_divide_JJI 61 = .ok (.ifCond .eq 11, 3) := by decide +kernel
theorem d_M_divide_JJI_64 : decode b_M_divide_JJI 64 = .ok (.iload 4, 2) := by decide +kernel
theorem d_M_divide_JJI_66 : decode b_M_divide_JJI 66 = .ok (.invokestatic 60, 3) := by decide +kernel
theorem d_M_divide_JJI_69 : decode b_M_divide_JJI 69 = .ok (.goto 15, 3) := by decide +kernel
theorem d_M_divide_JJI_72 : decode b_M_divide_JJI 72 = .ok (.iload 4, 2) := by decide +kernel
theorem d_M_divide_JJI_74 : decode b_M_divide_JJI 74 = .ok (.invokestatic 19, 3) := by decide +kernel
theorem d_M_divide_JJI_77 : decode b_M_divide_JJI 77 = .ok (.iload 5, 2) := by decide +kernel
theorem d_M_divide_JJI_79 : decode b_M_divide_JJI 79 = .ok (.iload 4, 2) := by decide +kernel
theorem d_M_divide_JJI_81 : decode b_M_divide_JJI 81 = .ok (.invokestatic 36, 3) := by decide +kernel
theorem d_M_divide_JJI_84 : decode b_M_divide_JJI 84 = .ok (.lreturn, 1) := by decide +kernel
theorem d_M_divide_JJI_85 : decode b_M_divide_JJI 85 = .ok (.lload_n 2, 1) := by decide +kernel
theorem d_M_divide_JJI_86 : decode b_M_divide_JJI 86 = .ok (.iload 4, 2) := by decide +kernel
theorem d_M_divide_JJI_88 : decode b_M_divide_JJI 88 = .ok (.invokestatic 63, 3) := by decide +kernel
theorem d_M_divide_JJI_91 : decode b_M_divide_JJI 91 = .ok (.ifCond .eq 12, 3) := by decide +kernel
theorem d_M_divide_JJI_94 : decode b_M_divide_JJI 94 = .ok (.lconst 0, 1) := by decide +kernel
theorem d_M_divide_JJI_95 : decode b_M_divide_JJI 95 = .ok (.iload 5, 2) := by decide +kernel
theorem d_M_divide_JJI_97 : decode b_M_divide_JJI 97 = .ok (.iload 4, 2) := by decide +kernel
theorem d_M_divide_JJI_99 : decode b_M_divide_JJI 99 = .ok (.invokestatic 36, 3) := by decide +kernel
theorem d_M_divide_JJI_102 : decode b_M_divide_JJI 102 = .ok (.lreturn, 1) := by decide +kernel
theorem d_M_divide_JJI_103 : decode b_M_divide_JJI 103 = .ok (.lload_n 2, 1) := by decide +kernel
theorem d_M_divide_JJI_104 : decode b_M_divide_JJI 104 = .ok (.iload 4, 2) := by decide +kernel
theorem d_M_divide_JJI_106 : decode b_M_divide_JJI 106 = .ok (.invokestatic 66, 3) := by decide +kernel
theorem d_M_divide_JJI_109 : decode b_M_divide_JJI 109 = .ok (.ifCond .eq 33, 3) := by decide +kernel
theorem d_M_divide_JJI_112 : decode b_M_divide_JJI 112 = .ok (.lload_n 0, 1) := by decide +kernel
theorem d_M_divide_JJI_113 : decode b_M_divide_JJI 113 = .ok (.iload 4, 2) := by decide +kernel
theorem d_M_divide_JJI_115 : decode b_M_divide_JJI 115 = .ok (.invokestatic 66, 3) := by decide +kernel
theorem d_M_divide_JJI_118 : decode b_M_divide_JJI 118 = .ok (.ifCond .eq 11, 3) := by decide +kernel
theorem d_M_divide_JJI_121 : decode b_M_divide_JJI 121 = .ok (.iload 4, 2) := by decide +kernel
theorem d_M_divide_JJI_123 : decode b_M_divide_JJI 123 = .ok (.invokestatic 60, 3) := by decide +kernel
theorem d_M_divide_JJI_126 : decode b_M_divide_JJI 126 = .ok (.goto 15, 3) := by decide +kernel
theorem d_M_divide_JJI_129 : decode b_M_divide_JJI 129 = .ok (.iload 4, 2) := by decide +kernel
theorem d_M_divide_JJI_131 : decode b_M_divide_JJI 131 = .ok (.invokestatic 19, 3) := by decide +kernel
theorem d_M_divide_JJI_134 : decode b_M_divide_JJI 134 = .ok (.iload 5, 2) := by decide +kernel
theorem d_M_divide_JJI_136 : decode b_M_divide_JJI 136 = .ok (.iload 4, 2) := by decide +kernel
theorem d_M_divide_JJI_138 : decode b_M_divide_JJI 138 = .ok (.invokestatic 36, 3) := by decide +kernel
theorem d_M_divide_JJI_141 : decode b_M_divide_JJI 141 = .ok (.lreturn, 1) := by decide +kernel
theorem d_M_divide_JJI_142 : decode b_M_divide_JJI 142 = .ok (.lload_n 0, 1) := by decide +kernel
theorem d_M_divide_JJI_143 : decode b_M_divide_JJI 143 = .ok (.iload 4, 2) := by decide +kernel
theorem d_M_divide_JJI_145 : decode b_M_divide_JJI 145 = .ok (.invokestatic 66, 3) := by decide +kernel
theorem d_M_divide_JJI_148 : decode b_M_divide_JJI 148 = .ok (.ifCond .eq 12, 3) := by decide +kernel
theorem d_M_divide_JJI_151 : decode b_M_divide_JJI 151 = .ok (.lconst 0, 1) := by decide +kernel
theorem d_M_divide_JJI_152 : decode b_M_divide_JJI 152 = .ok (.iload 5, 2) := by decide +kernel
theorem d_M_divide_JJI_154 : decode b_M_divide_JJI 154 = .ok (.iload 4, 2) := by decide +kernel
theorem d_M_divide_JJI_156 : decode b_M_divide_JJI 156 = .ok (.invokestatic 36, 3) := by decide +kernel
theorem d_M_divide_JJI_159 : decode b_M_divide_JJI 159 = .ok (.lreturn, 1) := by decide +kernel
theorem d_M_divide_JJI_160 : decode b_M_divide_JJI 160 = .ok (.lload_n 0, 1) := by decide +kernel
theorem d_M_divide_JJI_161 : decode b_M_divide_JJI 161 = .ok (.iload 4, 2) := by decide +kernel
theorem d_M_divide_JJI_163 : decode b_M_divide_JJI 163 = .ok (.invokestatic 73, 3) := by decide +kernel
theorem d_M_divide_JJI_166 : decode b_M_divide_JJI 166 = .ok (.lstore 6, 2) := by decide +kernel
theorem d_M_divide_JJI_168 : decode b_M_divide_JJI 168 = .ok (.lload_n 2, 1) := by decide +kernel
theorem d_M_divide_JJI_169 : decode b_M_divide_JJI 169 = .ok (.iload 4, 2) := by decide +kernel
theorem d_M_divide_JJI_171 : decode b_M_divide_JJI 171 = .ok (.invokestatic 73, 3) := by decide +kernel
theorem d_M_divide_JJI_174 : decode b_M_divide_JJI 174 = .ok (.lstore 8, 2) := by decide +kernel
theorem d_M_divide_JJI_176 : decode b_M_divide_JJI 176 = .ok (.lload_n 0, 1) := by decide +kernel
theorem d_M_divide_JJI_177 : decode b_M_divide_JJI 177 = .ok (.iload 4, 2) := by decide +kernel
theorem d_M_divide_JJI_179 : decode b_M_divide_JJI 179 = .ok (.invokestatic 69, 3) := by decide +kernel
theorem d_M_divide_JJI_182 : decode b_M_divide_JJI 182 = .ok (.lload 6, 2) := by decide +kernel
theorem d_M_divide_JJI_184 : decode b_M_divide_JJI 184 = .ok (.iload 4, 2) := by decide +kernel
theorem d_M_divide_JJI_186 : decode b_M_divide_JJI 186 = .ok (.invokestatic 86, 3) := by decide +kernel
theorem d_M_divide_JJI_189 : decode b_M_divide_JJI 189 = .ok (.isub, 1) := by decide +kernel
theorem d_M_divide_JJI_190 : decode b_M_divide_JJI 190 = .ok (.lload_n 2, 1) := by decide +kernel
theorem d_M_divide_JJI_191 : decode b_M_divide_JJI 191 = .ok (.iload 4, 2) := by decide +kernel
theorem d_M_divide_JJI_193 : decode b_M_divide_JJI 193 = .ok (.invokestatic 69, 3) := by decide +kernel
theorem d_M_divide_JJI_196 : decode b_M_divide_JJI 196 = .ok (.isub, 1) := by decide +kernel
theorem d_M_divide_JJI_197 : decode b_M_divide_JJI 197 = .ok (.lload 8, 2) := by decide +kernel
theorem d_M_divide_JJI_199 : decode b_M_divide_JJI 199 = .ok (.iload 4, 2) := by decide +kernel
theorem d_M_divide_JJI_201 : decode b_M_divide_JJI 201 = .ok (.invokestatic 86, 3) := by decide +kernel
theorem d_M_divide_JJI_204 : decode b_M_divide_JJI 204 = .ok (.iadd, 1) := by decide +kernel
theorem d_M_divide_JJI_205 : decode b_M_divide_JJI 205 = .ok (.istore 10, 2) := by decide +kernel
theorem d_M_divide_JJI_207 : decode b_M_divide_JJI 207 = .ok (.lload 6, 2) := by decide +kernel
theorem d_M_divide_JJI_209 : decode b_M_divide_JJI 209 = .ok (.lload 6, 2) := by decide +kernel
theorem d_M_divide_JJI_211 : decode b_M_divide_JJI 211 = .ok (.iload 4, 2) := by decide +kernel
theorem d_M_divide_JJI_213 : decode b_M_divide_JJI 213 = .ok (.invokestatic 86, 3) := by decide +kernel
theorem d_M_divide_JJI_216 : decode b_M_divide_JJI 216 = .ok (.lshl, 1) := by decide +kernel
theorem d_M_divide_JJI_217 : decode b_M_divide_JJI 217 = .ok (.lstore 6, 2) := by decide +kernel
theorem d_M_divide_JJI_219 : decode b_M_divide_JJI 219 = .ok (.lload 8, 2) := by decide +kernel
theorem d_M_divide_JJI_221 : decode b_M_divide_JJI 221 = .ok (.lload 8, 2) := by decide +kernel
theorem d_M_divide_JJI_223 : decode b_M_divide_JJI 223 = .ok (.iload 4, 2) := by decide +kernel
theorem d_M_divide_JJI_225 : decode b_M_divide_JJI 225 = .ok (.invokestatic 86, 3) := by decide +kernel
theorem d_M_divide_JJI_228 : decode b_M_divide_JJI 228 = .ok (.lshl, 1) := by decide +kernel
theorem d_M_divide_JJI_229 : decode b_M_divide_JJI 229 = .ok (.lstore 8, 2) := by decide +kernel
theorem d_M_divide_JJI_231 : decode b_M_divide_JJI 231 = .ok (.lload 6, 2) := by decide +kernel
theorem d_M_divide_JJI_233 : decode b_M_divide_JJI 233 = .ok (.lload 8, 2) := by decide +kernel
theorem d_M_divide_JJI_235 : decode b_M_divide_JJI 235 = .ok (.lcmp, 1) := by decide +kernel
theorem d_M_divide_JJI_236 : decode b_M_divide_JJI 236 = .ok (.ifCond .lt 7, 3) := by decide +kernel
theorem d_M_divide_JJI_239 : decode b_M_divide_JJI 239 = .ok (.lconst 1, 1) := by decide +kernel
theorem d_M_divide_JJI_240 : decode b_M_divide_JJI 240 = .ok (.goto 4, 3) := by decide +kernel
theorem d_M_divide_JJI_243 : decode b_M_divide_JJI 243 = .ok (.lconst 0, 1) := by decide +kernel
theorem d_M_divide_JJI_244 : decode b_M_divide_JJI 244 = .ok (.lstore 11, 2) := by decide +kernel
theorem d_M_divide_JJI_246 : decode b_M_divide_JJI 246 = .ok (.lload 11, 2) := by decide +kernel
theorem d_M_divide_JJI_248 : decode b_M_divide_JJI 248 = .ok (.lconst 1, 1) := by decide +kernel
theorem d_M_divide_JJI_249 : decode b_M_divide_JJI 249 = .ok (.lcmp, 1) := by decide +kernel
theorem d_M_divide_JJI_250 : decode b_M_divide_JJI 250 = .ok (.ifCond .ne 11, 3) := by decide +kernel
theorem d_M_divide_JJI_253 : decode b_M_divide_JJI 253 = .ok (.lload 6, 2) := by decide +kernel
theorem d_M_divide_JJI_255 : decode b_M_divide_JJI 255 = .ok (.lload 8, 2) := by decide +kernel
theorem d_M_divide_JJI_257 : decode b_M_divide_JJI 257 = .ok (.lsub, 1) := by decide +kernel
theorem d_M_divide_JJI_258 : decode b_M_divide_JJI 258 = .ok (.goto 5, 3) := by decide +kernel
theorem d_M_divide_JJI_261 : decode b_M_divide_JJI 261 = .ok (.lload 6, 2) := by decide +kernel
theorem d_M_divide_JJI_263 : decode b_M_divide_JJI 263 = .ok (.lstore 13, 2) := by decide +kernel
theorem d_M_divide_JJI_265 : decode b_M_divide_JJI 265 = .ok (.iconst 0, 1) := by decide +kernel
theorem d_M_divide_JJI_266 : decode b_M_divide_JJI 266 = .ok (.istore 15, 2) := by decide +kernel
theorem d_M_divide_JJI_268 : decode b_M_divide_JJI 268 = .ok (.iload 15, 2) := by decide +kernel
theorem d_M_divide_JJI_270 : decode b_M_divide_JJI 270 = .ok (.bipush 60, 2) := by decide +kernel
theorem d_M_divide_JJI_272 : decode b_M_divide_JJI 272 = .ok (.if_icmp .ge 45, 3) := by decide +kernel
theorem d_M_divide_JJI_275 : decode b_M_divide_JJI 275 = .ok (.lload 13, 2) := by decide +kernel
theorem d_M_divide_JJI_277 : decode b_M_divide_JJI 277 = .ok (.iconst 1, 1) := by decide +kernel
theorem d_M_divide_JJI_278 : decode b_M_divide_JJI 278 = .ok (.lshl, 1) := by decide +kernel
theorem d_M_divide_JJI_279 : decode b_M_divide_JJI 279 = .ok (.lstore 13, 2) := by decide +kernel
theorem d_M_divide_JJI_281 : decode b_M_divide_JJI 281 = .ok (.lload 11, 2) := by decide +kernel
theorem d_M_divide_JJI_283 : decode b_M_divide_JJI 283 = .ok (.iconst 1, 1) := by decide +kernel
theorem d_M_divide_JJI_284 : decode b_M_divide_JJI 284 = .ok (.lshl, 1) := by decide +kernel
theorem d_M_divide_JJI_285 : decode b_M_divide_JJI 285 = .ok (.lstore 11, 2) := by decide +kernel
theorem d_M_divide_JJI_287 : decode b_M_divide_JJI 287 = .ok (.lload 13, 2) := by decide +kernel
theorem d_M_divide_JJI_289 : decode b_M_divide_JJI 289 = .ok (.lload 8, 2) := by decide +kernel
theorem d_M_divide_JJI_291 : decode b_M_divide_JJI 291 = .ok (.lcmp, 1) := by decide +kernel
theorem d_M_divide_JJI_292 : decode b_M_divide_JJI 292 = .ok (.ifCond .ge 6, 3) := by decide +kernel
theorem d_M_divide_JJI_295 : decode b_M_divide_JJI 295 = .ok (.goto 16, 3) := by decide +kernel
theorem d_M_divide_JJI_298 : decode b_M_divide_JJI 298 = .ok (.lload 13, 2) := by decide +kernel
theorem d_M_divide_JJI_300 : decode b_M_divide_JJI 300 = .ok (.lload 8, 2) := by decide +kernel
theorem d_M_divide_JJI_302 : decode b_M_divide_JJI 302 = .ok (.lsub, 1) := by decide +kernel
theorem d_M_divide_JJI_303 : decode b_M_divide_JJI 303 = .ok (.lstore 13, 2) := by decide +kernel
theorem d_M_divide_JJI_305 : decode b_M_divide_JJI 305 = .ok (.lload 11, 2) := by decide +kernel
theorem d_M_divide_JJI_307 : decode b_M_divide_JJI 307 = .ok (.lconst 1, 1) := by decide +kernel
theorem d_M_divide_JJI_308 : decode b_M_divide_JJI 308 = .ok (.lor, 1) := by decide +kernel
theorem d_M_divide_JJI_309 : decode b_M_divide_JJI 309 = .ok (.lstore 11, 2) := by decide +kernel
theorem d_M_divide_JJI_311 : decode b_M_divide_JJI 311 = .ok (.iinc 15 1, 3) := by decide +kernel
theorem d_M_divide_JJI_314 : decode b_M_divide_JJI 314 = .ok (.goto (-46), 3) := by decide +kernel
theorem d_M_divide_JJI_317 : decode b_M_divide_JJI 317 = .ok (.iload 5, 2) := by decide +kernel
theorem d_M_divide_JJI_319 : decode b_M_divide_JJI 319 = .ok (.lload 11, 2) := by decide +kernel
theorem d_M_divide_JJI_321 : decode b_M_divide_JJI 321 = .ok (.iload 10, 2) := by decide +kernel
theorem d_M_divide_JJI_323 : decode b_M_divide_JJI 323 = .ok (.bipush 60, 2) := by decide +kernel
theorem d_M_divide_JJI_325 : decode b_M_divide_JJI 325 = .ok (.isub, 1) := by decide +kernel
theorem d_M_divide_JJI_326 : decode b_M_divide_JJI 326 = .ok (.lload 13, 2) := by decide +kernel
theorem d_M_divide_JJI_328 : decode b_M_divide_JJI 328 = .ok (.lconst 0, 1) := by decide +kernel
theorem d_M_divide_JJI_329 : decode b_M_divide_JJI 329 = .ok (.lcmp, 1) := by decide +kernel
theorem d_M_divide_JJI_330 : decode b_M_divide_JJI 330 = .ok (.ifCond .eq 7, 3) := by decide +kernel
theorem d_M_divide_JJI_333 : decode b_M_divide_JJI 333 = .ok (.iconst 1, 1) := by decide +kernel
theorem d_M_divide_JJI_334 : decode b_M_divide_JJI 334 = .ok (.goto 4, 3) := by decide +kernel
theorem d_M_divide_JJI_337 : decode b_M_divide_JJI 337 = .ok (.iconst 0, 1) := by decide +kernel
theorem d_M_divide_JJI_338 : decode b_M_divide_JJI 338 = .ok (.iload 4, 2) := by decide +kernel
theorem d_M_divide_JJI_340 : decode b_M_divide_JJI 340 = .ok (.invokestatic 52, 3) := by decide +kernel
theorem d_M_divide_JJI_343 : decode b_M_divide_JJI 343 = .ok (.lreturn, 1) := by decide +kernel
def f_M_divide_JJI_268 : Nat → Int32 → Int32 → Int64 → Int32 → Int64 → Int64 → Int32 → Int64
  | 0, _, _, _, _, _, _, _ => 0
  | n + 1, x4, x5, x8, x10, x11, x13, x15 =>
    if (60 : Int32) ≤ x15 then
      if (lg_cmp x13 (0 : Int64)) = 0 then
        f_M_rounded_ZJIZI x5 x11 (x10 - (60 : Int32)) (0 : Int32) x4
      else
        f_M_rounded_ZJIZI x5 x11 (x10 - (60 : Int32)) (1 : Int32) x4
    else
      let v3 : Int64 := j_shl x13 (1 : Int32)
      let v4 : Int64 := j_shl x11 (1 : Int32)
      if 0 ≤ (lg_cmp v3 x8) then
        let v6 : Int64 := v3 - x8
        let v7 : Int64 := v4 ||| (1 : Int64)
        let v8 : Int32 := x15 + 1
        f_M_divide_JJI_268 n x4 x5 x8 x10 v7 v6 v8
      else
        let v9 : Int32 := x15 + 1
        f_M_divide_JJI_268 n x4 x5 x8 x10 v4 v3 v9
set_option maxHeartbeats 4000000 in
set_option maxRecDepth 100000 in
theorem k_M_divide_JJI_268 {p : Program} {l : Launch} {e : Env} {s : State} {m : MethodId} {args : Array Value} {below : List Frame} {meth : Method} {c : Code} (C0 : pu_C p s m args meth c b_M_divide_JJI 16 "MotionLabModel" (some .long) (gw y_M_divide_JJI b_M_divide_JJI 16 (some .long))) {t0 t1 t2 : Nat} (hRT : RTH t0 t1 t2 s s.heap) (n : Nat) : ∀ (x4 : Int32) (x5 : Int32) (x8 : Int64) (x10 : Int32) (x11 : Int64) (x13 : Int64) (x15 : Int32) (hk_x4 : vp_in x4 2) (hinv : ∃ j : Nat, x15 = nI j ∧ j ≤ (60 : Int32).toNatClampNeg ∧ (60 : Int32).toNatClampNeg - j < n) (ls : Array Slot) (hl : lv_has ls 16 [(4, .int x4), (5, .int x5), (8, .long x8), (10, .int x10), (11, .long x11), (13, .long x13), (15, .int x15)]) {w : Int64} (hw : w = f_M_divide_JJI_268 n x4 x5 x8 x10 x11 x13 x15), W p l e (headSpec (gw y_M_divide_JJI b_M_divide_JJI 16 (some .long)) ({ frames := 3, cells := 0, slots := 0, locals := 77 } : Room)).room s m args below meth c s.heap [] 0 0 (pu_Ql w below args s) (F0 m 268 ls []) := by
  obtain ⟨hx, hb, hml, hown, hts, hr, hlocks⟩ := id C0
  obtain ⟨hT0, hT1, hT2⟩ := id hRT
  induction n with
  | zero => intro x4 x5 x8 x10 x11 x13 x15 hk_x4 hinv ls hl w hw; exact (fl_zero hinv).elim
  | succ n ih =>
    intro x4 x5 x8 x10 x11 x13 x15 hk_x4 hinv ls hl w hw
    refine lv_iload hx hb d_M_divide_JJI_268 (lv_at hl 6 rfl) ?_
    refine lv_bipush (v := (60 : Int32)) hx hb d_M_divide_JJI_270 (by decide) ?_
    refine lv_icmp_ge (tgt := 317) hx hb d_M_divide_JJI_272 (by decide) (fun c1 => ?_) (fun c1 => ?_)
    · refine lv_iload hx hb d_M_divide_JJI_317 (lv_at hl 1 rfl) ?_
      refine lv_lload hx hb d_M_divide_JJI_319 (lv_at hl 4 rfl) ?_
      refine lv_iload hx hb d_M_divide_JJI_321 (lv_at hl 3 rfl) ?_
      refine lv_bipush (v := (60 : Int32)) hx hb d_M_divide_JJI_323 (by decide) ?_
      refine lv_isub hx hb d_M_divide_JJI_325 ?_
      refine lv_lload hx hb d_M_divide_JJI_326 (lv_at hl 5 rfl) ?_
      refine lv_lconst (v := (0 : Int64)) hx hb d_M_divide_JJI_328 (by decide) ?_
      refine W.lcmp hx hb d_M_divide_JJI_329 ?_
      refine lv_if_eq (tgt := 337) hx hb d_M_divide_JJI_330 (by decide) (fun c2 => ?_) (fun c2 => ?_)
      · refine lv_iconst (v := 0) hx hb d_M_divide_JJI_337 (by decide) ?_
        refine lv_iload hx hb d_M_divide_JJI_338 (lv_at hl 0 rfl) ?_
        refine pu_l (As := [.int x5, .long x11, .int (x10 - (60 : Int32)), .int (0 : Int32), .int x4]) (rest := []) ⟨hx, hb, hml, hown, hts⟩ (c_M_rounded_ZJIZI l _ t0 t1 t2 x5 x11 (x10 - (60 : Int32)) (0 : Int32) x4 hk_x4) (pr_pre hRT) (gw_call (k := 5) hts tw_539 tw_540 tw_4 tw_541 (by decide +kernel) rfl rfl ⟨Nat.le_of_ble_eq_true rfl, Nat.le_of_ble_eq_true rfl⟩) rfl hl.1 rfl (Nat.le_of_ble_eq_true rfl) ⟨Nat.zero_le _, Nat.zero_le _⟩ d_M_divide_JJI_340 ?_
        exact pu_lret hx hb hr hlocks d_M_divide_JJI_343 (by exact Eq.symm (hw.trans (Eq.trans (if_pos c1) (if_pos c2))))
      · refine lv_iconst (v := 1) hx hb d_M_divide_JJI_333 (by decide) ?_
        refine lv_goto (tgt := 338) hx hb d_M_divide_JJI_334 (by decide) ?_
        refine lv_iload hx hb d_M_divide_JJI_338 (lv_at hl 0 rfl) ?_
        refine pu_l (As := [.int x5, .long x11, .int (x10 - (60 : Int32)), .int (1 : Int32), .int x4]) (rest := []) ⟨hx, hb, hml, hown, hts⟩ (c_M_rounded_ZJIZI l _ t0 t1 t2 x5 x11 (x10 - (60 : Int32)) (1 : Int32) x4 hk_x4) (pr_pre hRT) (gw_call (k := 5) hts tw_539 tw_540 tw_4 tw_541 (by decide +kernel) rfl rfl ⟨Nat.le_of_ble_eq_true rfl, Nat.le_of_ble_eq_true rfl⟩) rfl hl.1 rfl (Nat.le_of_ble_eq_true rfl) ⟨Nat.zero_le _, Nat.zero_le _⟩ d_M_divide_JJI_340 ?_
        exact pu_lret hx hb hr hlocks d_M_divide_JJI_343 (by exact Eq.symm (hw.trans (Eq.trans (if_pos c1) (if_neg c2))))
    · refine lv_lload hx hb d_M_divide_JJI_275 (lv_at hl 5 rfl) ?_
      refine lv_iconst (v := 1) hx hb d_M_divide_JJI_277 (by decide) ?_
      refine lv_lshl (v := j_shl x13 (1 : Int32)) hx hb d_M_divide_JJI_278 rfl ?_
      refine lv_topl (fun v3 e3 => ?_)
      refine lv_lstore (lv' := [(13, .long v3), (4, .int x4), (5, .int x5), (8, .long x8), (10, .int x10), (11, .long x11), (15, .int x15)]) hx hb d_M_divide_JJI_279 hl (by decide) rfl (fun ls hl => ?_)
      refine lv_lload hx hb d_M_divide_JJI_281 (lv_at hl 5 rfl) ?_
      refine lv_iconst (v := 1) hx hb d_M_divide_JJI_283 (by decide) ?_
      refine lv_lshl (v := j_shl x11 (1 : Int32)) hx hb d_M_divide_JJI_284 rfl ?_
      refine lv_topl (fun v4 e4 => ?_)
      refine lv_lstore (lv' := [(11, .long v4), (13, .long v3), (4, .int x4), (5, .int x5), (8, .long x8), (10, .int x10), (15, .int x15)]) hx hb d_M_divide_JJI_285 hl (by decide) rfl (fun ls hl => ?_)
      refine lv_lload hx hb d_M_divide_JJI_287 (lv_at hl 1 rfl) ?_
      refine lv_lload hx hb d_M_divide_JJI_289 (lv_at hl 4 rfl) ?_
      refine W.lcmp hx hb d_M_divide_JJI_291 ?_
      refine lv_if_ge (tgt := 298) hx hb d_M_divide_JJI_292 (by decide) (fun c5 => ?_) (fun c5 => ?_)
      · refine lv_lload hx hb d_M_divide_JJI_298 (lv_at hl 1 rfl) ?_
        refine lv_lload hx hb d_M_divide_JJI_300 (lv_at hl 4 rfl) ?_
        refine lv_lsub hx hb d_M_divide_JJI_302 ?_
        refine lv_topl (fun v6 e6 => ?_)
        refine lv_lstore (lv' := [(13, .long v6), (11, .long v4), (4, .int x4), (5, .int x5), (8, .long x8), (10, .int x10), (15, .int x15)]) hx hb d_M_divide_JJI_303 hl (by decide) rfl (fun ls hl => ?_)
        refine lv_lload hx hb d_M_divide_JJI_305 (lv_at hl 1 rfl) ?_
        refine lv_lconst (v := (1 : Int64)) hx hb d_M_divide_JJI_307 (by decide) ?_
        refine lv_lor hx hb d_M_divide_JJI_308 ?_
        refine lv_topl (fun v7 e7 => ?_)
        refine lv_lstore (lv' := [(11, .long v7), (13, .long v6), (4, .int x4), (5, .int x5), (8, .long x8), (10, .int x10), (15, .int x15)]) hx hb d_M_divide_JJI_309 hl (by decide) rfl (fun ls hl => ?_)
        obtain ⟨v8, e8⟩ : ∃ y : Int32, y = x15 + 1 := ⟨_, rfl⟩
        refine lv_iinc (v := v8) (lv' := [(15, .int v8), (11, .long v7), (13, .long v6), (4, .int x4), (5, .int x5), (8, .long x8), (10, .int x10)]) hx hb d_M_divide_JJI_311 hl (k := 6) rfl (by rw [e8]; rfl) (by decide) rfl (fun ls hl => ?_)
        refine lv_goto (tgt := 268) hx hb d_M_divide_JJI_314 (by decide) ?_
        exact ih x4 x5 x8 x10 v7 v6 v8 hk_x4 (by rw [e8]; exact fl_up hinv c1) ls (lv_sub hl [3, 4, 5, 6, 1, 2, 0] rfl) (by have qe3 := e3.symm; have qe4 := e4.symm; have qe6 := e6.symm; have qe7 := e7.symm; have qe8 := e8.symm; subst qe3 qe4 qe6 qe7 qe8; exact (hw.trans (Eq.trans (if_neg c1) (if_pos c5))))
      · refine lv_goto (tgt := 311) hx hb d_M_divide_JJI_295 (by decide) ?_
        obtain ⟨v9, e9⟩ : ∃ y : Int32, y = x15 + 1 := ⟨_, rfl⟩
        refine lv_iinc (v := v9) (lv' := [(15, .int v9), (11, .long v4), (13, .long v3), (4, .int x4), (5, .int x5), (8, .long x8), (10, .int x10)]) hx hb d_M_divide_JJI_311 hl (k := 6) rfl (by rw [e9]; rfl) (by decide) rfl (fun ls hl => ?_)
        refine lv_goto (tgt := 268) hx hb d_M_divide_JJI_314 (by decide) ?_
        exact ih x4 x5 x8 x10 v4 v3 v9 hk_x4 (by rw [e9]; exact fl_up hinv c1) ls (lv_sub hl [3, 4, 5, 6, 1, 2, 0] rfl) (by have qe3 := e3.symm; have qe4 := e4.symm; have qe9 := e9.symm; subst qe3 qe4 qe9; exact (hw.trans (Eq.trans (if_neg c1) (if_neg c5))))
def f_M_divide_JJI_263 (x4 : Int32) (x5 : Int32) (x8 : Int64) (x10 : Int32) (x11 : Int64) (s0 : Int64) : Int64 :=
  f_M_divide_JJI_268 ((60 : Int32).toNatClampNeg + 1) x4 x5 x8 x10 x11 s0 (0 : Int32)
set_option maxHeartbeats 4000000 in
set_option maxRecDepth 100000 in
theorem k_M_divide_JJI_263 {p : Program} {l : Launch} {e : Env} {s : State} {m : MethodId} {args : Array Value} {below : List Frame} {meth : Method} {c : Code} (C0 : pu_C p s m args meth c b_M_divide_JJI 16 "MotionLabModel" (some .long) (gw y_M_divide_JJI b_M_divide_JJI 16 (some .long))) {t0 t1 t2 : Nat} (hRT : RTH t0 t1 t2 s s.heap) (x4 : Int32) (x5 : Int32) (x8 : Int64) (x10 : Int32) (x11 : Int64) (s0 : Int64) (hk_x4 : vp_in x4 2) (ls : Array Slot) (hl : lv_has ls 16 [(4, .int x4), (5, .int x5), (8, .long x8), (10, .int x10), (11, .long x11)]) {w : Int64} (hw : w = f_M_divide_JJI_263 x4 x5 x8 x10 x11 s0) : W p l e (headSpec (gw y_M_divide_JJI b_M_divide_JJI 16 (some .long)) ({ frames := 3, cells := 0, slots := 0, locals := 77 } : Room)).room s m args below meth c s.heap [] 0 0 (pu_Ql w below args s) (F0 m 263 ls [.long s0]) := by
  obtain ⟨hx, hb, hml, hown, hts, hr, hlocks⟩ := id C0
  obtain ⟨hT0, hT1, hT2⟩ := id hRT
  refine lv_lstore (lv' := [(13, .long s0), (4, .int x4), (5, .int x5), (8, .long x8), (10, .int x10), (11, .long x11)]) hx hb d_M_divide_JJI_263 hl (by decide) rfl (fun ls hl => ?_)
  refine lv_iconst (v := 0) hx hb d_M_divide_JJI_265 (by decide) ?_
  refine lv_istore (lv' := [(15, .int (0 : Int32)), (13, .long s0), (4, .int x4), (5, .int x5), (8, .long x8), (10, .int x10), (11, .long x11)]) hx hb d_M_divide_JJI_266 hl (by decide) rfl (fun ls hl => ?_)
  exact k_M_divide_JJI_268 C0 hRT ((60 : Int32).toNatClampNeg + 1) x4 x5 x8 x10 x11 s0 (0 : Int32) hk_x4 fl_first ls (lv_sub hl [2, 3, 4, 5, 6, 1, 0] rfl) (by exact (hw.trans rfl))
def f_M_divide_JJI_244 (x4 : Int32) (x5 : Int32) (x6 : Int64) (x8 : Int64) (x10 : Int32) (s0 : Int64) : Int64 :=
  if (lg_cmp s0 (1 : Int64)) = 0 then
    f_M_divide_JJI_263 x4 x5 x8 x10 s0 (x6 - x8)
  else
    f_M_divide_JJI_263 x4 x5 x8 x10 s0 x6
set_option maxHeartbeats 4000000 in
set_option maxRecDepth 100000 in
theorem k_M_divide_JJI_244 {p : Program} {l : Launch} {e : Env} {s : State} {m : MethodId} {args : Array Value} {below : List Frame} {meth : Method} {c : Code} (C0 : pu_C p s m args meth c b_M_divide_JJI 16 "MotionLabModel" (some .long) (gw y_M_divide_JJI b_M_divide_JJI 16 (some .long))) {t0 t1 t2 : Nat} (hRT : RTH t0 t1 t2 s s.heap) (x4 : Int32) (x5 : Int32) (x6 : Int64) (x8 : Int64) (x10 : Int32) (s0 : Int64) (hk_x4 : vp_in x4 2) (ls : Array Slot) (hl : lv_has ls 16 [(4, .int x4), (5, .int x5), (6, .long x6), (8, .long x8), (10, .int x10)]) {w : Int64} (hw : w = f_M_divide_JJI_244 x4 x5 x6 x8 x10 s0) : W p l e (headSpec (gw y_M_divide_JJI b_M_divide_JJI 16 (some .long)) ({ frames := 3, cells := 0, slots := 0, locals := 77 } : Room)).room s m args below meth c s.heap [] 0 0 (pu_Ql w below args s) (F0 m 244 ls [.long s0]) := by
  obtain ⟨hx, hb, hml, hown, hts, hr, hlocks⟩ := id C0
  obtain ⟨hT0, hT1, hT2⟩ := id hRT
  refine lv_lstore (lv' := [(11, .long s0), (4, .int x4), (5, .int x5), (6, .long x6), (8, .long x8), (10, .int x10)]) hx hb d_M_divide_JJI_244 hl (by decide) rfl (fun ls hl => ?_)
  refine lv_lload hx hb d_M_divide_JJI_246 (lv_at hl 0 rfl) ?_
  refine lv_lconst (v := (1 : Int64)) hx hb d_M_divide_JJI_248 (by decide) ?_
  refine W.lcmp hx hb d_M_divide_JJI_249 ?_
  refine lv_if_ne (tgt := 261) hx hb d_M_divide_JJI_250 (by decide) (fun c1 => ?_) (fun c1 => ?_)
  · refine lv_lload hx hb d_M_divide_JJI_261 (lv_at hl 3 rfl) ?_
    exact k_M_divide_JJI_263 C0 hRT x4 x5 x8 x10 s0 x6 hk_x4 ls (lv_sub hl [1, 2, 4, 5, 0] rfl) (by exact (hw.trans (if_neg c1)))
  · refine lv_lload hx hb d_M_divide_JJI_253 (lv_at hl 3 rfl) ?_
    refine lv_lload hx hb d_M_divide_JJI_255 (lv_at hl 4 rfl) ?_
    refine lv_lsub hx hb d_M_divide_JJI_257 ?_
    refine lv_goto (tgt := 263) hx hb d_M_divide_JJI_258 (by decide) ?_
    exact k_M_divide_JJI_263 C0 hRT x4 x5 x8 x10 s0 (x6 - x8) hk_x4 ls (lv_sub hl [1, 2, 4, 5, 0] rfl) (by exact (hw.trans (if_pos c1)))
def f_M_divide_JJI_20 (x0 : Int64) (x2 : Int64) (x4 : Int32) (s0 : Int32) : Int64 :=
  if (f_M_isNone_JI x0 x4) = 0 then
    if (f_M_isNone_JI x2 x4) = 0 then
      if (f_M_isInfinite_JI x0 x4) = 0 then
        if (f_M_isInfinite_JI x2 x4) = 0 then
          if (f_M_isZero_JI x2 x4) = 0 then
            if (f_M_isZero_JI x0 x4) = 0 then
              let v7 : Int64 := f_M_whole_JI x0 x4
              let v8 : Int64 := f_M_whole_JI x2 x4
              let v9 : Int32 := (((f_M_power_JI x0 x4) - (f_M_moved_JI v7 x4)) - (f_M_power_JI x2 x4)) + (f_M_moved_JI v8 x4)
              let v10 : Int64 := j_shl v7 (f_M_moved_JI v7 x4)
              let v11 : Int64 := j_shl v8 (f_M_moved_JI v8 x4)
              if (lg_cmp v10 v11) < 0 then
                f_M_divide_JJI_244 x4 s0 v10 v11 v9 (0 : Int64)
              else
                f_M_divide_JJI_244 x4 s0 v10 v11 v9 (1 : Int64)
            else
              f_M_signed_JZI (0 : Int64) s0 x4
          else
            if (f_M_isZero_JI x0 x4) = 0 then
              f_M_signed_JZI (f_M_infinite_I x4) s0 x4
            else
              f_M_none_I x4
        else
          f_M_signed_JZI (0 : Int64) s0 x4
      else
        if (f_M_isInfinite_JI x2 x4) = 0 then
          f_M_signed_JZI (f_M_infinite_I x4) s0 x4
        else
          f_M_none_I x4
    else
      f_M_none_I x4
  else
    f_M_none_I x4
set_option maxHeartbeats 4000000 in
set_option maxRecDepth 100000 in
theorem k_M_divide_JJI_20 {p : Program} {l : Launch} {e : Env} {s : State} {m : MethodId} {args : Array Value} {below : List Frame} {meth : Method} {c : Code} (C0 : pu_C p s m args meth c b_M_divide_JJI 16 "MotionLabModel" (some .long) (gw y_M_divide_JJI b_M_divide_JJI 16 (some .long))) {t0 t1 t2 : Nat} (hRT : RTH t0 t1 t2 s s.heap) (x0 : Int64) (x2 : Int64) (x4 : Int32) (s0 : Int32) (hk_x4 : vp_in x4 2) (ls : Array Slot) (hl : lv_has ls 16 [(0, .long x0), (2, .long x2), (4, .int x4)]) {w : Int64} (hw : w = f_M_divide_JJI_20 x0 x2 x4 s0) : W p l e (headSpec (gw y_M_divide_JJI b_M_divide_JJI 16 (some .long)) ({ frames := 3, cells := 0, slots := 0, locals := 77 } : Room)).room s m args below meth c s.heap [] 0 0 (pu_Ql w below args s) (F0 m 20 ls [.int s0]) := by
  obtain ⟨hx, hb, hml, hown, hts, hr, hlocks⟩ := id C0
  obtain ⟨hT0, hT1, hT2⟩ := id hRT
  refine lv_istore (lv' := [(5, .int s0), (0, .long x0), (2, .long x2), (4, .int x4)]) hx hb d_M_divide_JJI_20 hl (by decide) rfl (fun ls hl => ?_)
  refine lv_lload_n hx hb d_M_divide_JJI_22 rfl (lv_at hl 1 rfl) ?_
  refine lv_iload hx hb d_M_divide_JJI_23 (lv_at hl 3 rfl) ?_
  refine pu_i (As := [.long x0, .int x4]) (rest := []) ⟨hx, hb, hml, hown, hts⟩ (c_M_isNone_JI l _ x0 x4) pu_pre (gw_call (k := 2) hts tw_498 tw_499 tw_4 tw_500 (by decide +kernel) rfl rfl ⟨Nat.le_of_ble_eq_true rfl, Nat.le_of_ble_eq_true rfl⟩) rfl hl.1 rfl (Nat.le_of_ble_eq_true rfl) ⟨Nat.zero_le _, Nat.zero_le _⟩ d_M_divide_JJI_25 ?_
  refine lv_if_ne (tgt := 40) hx hb d_M_divide_JJI_28 (by decide) (fun c1 => ?_) (fun c1 => ?_)
  · refine lv_iload hx hb d_M_divide_JJI_40 (lv_at hl 3 rfl) ?_
    refine pu_l (As := [.int x4]) (rest := []) ⟨hx, hb, hml, hown, hts⟩ (c_M_none_I l _ x4) pu_pre (gw_call (k := 1) hts tw_511 tw_512 tw_4 tw_513 (by decide +kernel) rfl rfl ⟨Nat.le_of_ble_eq_true rfl, Nat.le_of_ble_eq_true rfl⟩) rfl hl.1 rfl (Nat.le_of_ble_eq_true rfl) ⟨Nat.zero_le _, Nat.zero_le _⟩ d_M_divide_JJI_42 ?_
    exact pu_lret hx hb hr hlocks d_M_divide_JJI_45 (by exact Eq.symm (hw.trans (if_neg c1)))
  · refine lv_lload_n hx hb d_M_divide_JJI_31 rfl (lv_at hl 2 rfl) ?_
    refine lv_iload hx hb d_M_divide_JJI_32 (lv_at hl 3 rfl) ?_
    refine pu_i (As := [.long x2, .int x4]) (rest := []) ⟨hx, hb, hml, hown, hts⟩ (c_M_isNone_JI l _ x2 x4) pu_pre (gw_call (k := 2) hts tw_498 tw_499 tw_4 tw_500 (by decide +kernel) rfl rfl ⟨Nat.le_of_ble_eq_true rfl, Nat.le_of_ble_eq_true rfl⟩) rfl hl.1 rfl (Nat.le_of_ble_eq_true rfl) ⟨Nat.zero_le _, Nat.zero_le _⟩ d_M_divide_JJI_34 ?_
    refine lv_if_eq (tgt := 46) hx hb d_M_divide_JJI_37 (by decide) (fun c2 => ?_) (fun c2 => ?_)
    · refine lv_lload_n hx hb d_M_divide_JJI_46 rfl (lv_at hl 1 rfl) ?_
      refine lv_iload hx hb d_M_divide_JJI_47 (lv_at hl 3 rfl) ?_
      refine pu_i (As := [.long x0, .int x4]) (rest := []) ⟨hx, hb, hml, hown, hts⟩ (c_M_isInfinite_JI l _ x0 x4) pu_pre (gw_call (k := 2) hts tw_516 tw_517 tw_4 tw_518 (by decide +kernel) rfl rfl ⟨Nat.le_of_ble_eq_true rfl, Nat.le_of_ble_eq_true rfl⟩) rfl hl.1 rfl (Nat.le_of_ble_eq_true rfl) ⟨Nat.zero_le _, Nat.zero_le _⟩ d_M_divide_JJI_49 ?_
      refine lv_if_eq (tgt := 85) hx hb d_M_divide_JJI_52 (by decide) (fun c3 => ?_) (fun c3 => ?_)
      · refine lv_lload_n hx hb d_M_divide_JJI_85 rfl (lv_at hl 2 rfl) ?_
        refine lv_iload hx hb d_M_divide_JJI_86 (lv_at hl 3 rfl) ?_
        refine pu_i (As := [.long x2, .int x4]) (rest := []) ⟨hx, hb, hml, hown, hts⟩ (c_M_isInfinite_JI l _ x2 x4) pu_pre (gw_call (k := 2) hts tw_516 tw_517 tw_4 tw_518 (by decide +kernel) rfl rfl ⟨Nat.le_of_ble_eq_true rfl, Nat.le_of_ble_eq_true rfl⟩) rfl hl.1 rfl (Nat.le_of_ble_eq_true rfl) ⟨Nat.zero_le _, Nat.zero_le _⟩ d_M_divide_JJI_88 ?_
        refine lv_if_eq (tgt := 103) hx hb d_M_divide_JJI_91 (by decide) (fun c4 => ?_) (fun c4 => ?_)
        · refine lv_lload_n hx hb d_M_divide_JJI_103 rfl (lv_at hl 2 rfl) ?_
          refine lv_iload hx hb d_M_divide_JJI_104 (lv_at hl 3 rfl) ?_
          refine pu_i (As := [.long x2, .int x4]) (rest := []) ⟨hx, hb, hml, hown, hts⟩ (c_M_isZero_JI l _ x2 x4) pu_pre (gw_call (k := 2) hts tw_579 tw_580 tw_4 tw_581 (by decide +kernel) rfl rfl ⟨Nat.le_of_ble_eq_true rfl, Nat.le_of_ble_eq_true rfl⟩) rfl hl.1 rfl (Nat.le_of_ble_eq_true rfl) ⟨Nat.zero_le _, Nat.zero_le _⟩ d_M_divide_JJI_106 ?_
          refine lv_if_eq (tgt := 142) hx hb d_M_divide_JJI_109 (by decide) (fun c5 => ?_) (fun c5 => ?_)
          · refine lv_lload_n hx hb d_M_divide_JJI_142 rfl (lv_at hl 1 rfl) ?_
            refine lv_iload hx hb d_M_divide_JJI_143 (lv_at hl 3 rfl) ?_
            refine pu_i (As := [.long x0, .int x4]) (rest := []) ⟨hx, hb, hml, hown, hts⟩ (c_M_isZero_JI l _ x0 x4) pu_pre (gw_call (k := 2) hts tw_579 tw_580 tw_4 tw_581 (by decide +kernel) rfl rfl ⟨Nat.le_of_ble_eq_true rfl, Nat.le_of_ble_eq_true rfl⟩) rfl hl.1 rfl (Nat.le_of_ble_eq_true rfl) ⟨Nat.zero_le _, Nat.zero_le _⟩ d_M_divide_JJI_145 ?_
            refine lv_if_eq (tgt := 160) hx hb d_M_divide_JJI_148 (by decide) (fun c6 => ?_) (fun c6 => ?_)
            · refine lv_lload_n hx hb d_M_divide_JJI_160 rfl (lv_at hl 1 rfl) ?_
              refine lv_iload hx hb d_M_divide_JJI_161 (lv_at hl 3 rfl) ?_
              refine pu_l (As := [.long x0, .int x4]) (rest := []) ⟨hx, hb, hml, hown, hts⟩ (c_M_whole_JI l _ t0 t1 t2 x0 x4 hk_x4) (pr_pre hRT) (gw_call (k := 2) hts tw_525 tw_526 tw_4 tw_527 (by decide +kernel) rfl rfl ⟨Nat.le_of_ble_eq_true rfl, Nat.le_of_ble_eq_true rfl⟩) rfl hl.1 rfl (Nat.le_of_ble_eq_true rfl) ⟨Nat.zero_le _, Nat.zero_le _⟩ d_M_divide_JJI_163 ?_
              refine lv_topl (fun v7 e7 => ?_)
              refine lv_lstore (lv' := [(6, .long v7), (5, .int s0), (0, .long x0), (2, .long x2), (4, .int x4)]) hx hb d_M_divide_JJI_166 hl (by decide) rfl (fun ls hl => ?_)
              refine lv_lload_n hx hb d_M_divide_JJI_168 rfl (lv_at hl 3 rfl) ?_
              refine lv_iload hx hb d_M_divide_JJI_169 (lv_at hl 4 rfl) ?_
              refine pu_l (As := [.long x2, .int x4]) (rest := []) ⟨hx, hb, hml, hown, hts⟩ (c_M_whole_JI l _ t0 t1 t2 x2 x4 hk_x4) (pr_pre hRT) (gw_call (k := 2) hts tw_525 tw_526 tw_4 tw_527 (by decide +kernel) rfl rfl ⟨Nat.le_of_ble_eq_true rfl, Nat.le_of_ble_eq_true rfl⟩) rfl hl.1 rfl (Nat.le_of_ble_eq_true rfl) ⟨Nat.zero_le _, Nat.zero_le _⟩ d_M_divide_JJI_171 ?_
              refine lv_topl (fun v8 e8 => ?_)
              refine lv_lstore (lv' := [(8, .long v8), (6, .long v7), (5, .int s0), (0, .long x0), (2, .long x2), (4, .int x4)]) hx hb d_M_divide_JJI_174 hl (by decide) rfl (fun ls hl => ?_)
              refine lv_lload_n hx hb d_M_divide_JJI_176 rfl (lv_at hl 3 rfl) ?_
              refine lv_iload hx hb d_M_divide_JJI_177 (lv_at hl 5 rfl) ?_
              refine pu_i (As := [.long x0, .int x4]) (rest := []) ⟨hx, hb, hml, hown, hts⟩ (c_M_power_JI l _ t0 t1 t2 x0 x4 hk_x4) (pr_pre hRT) (gw_call (k := 2) hts tw_530 tw_531 tw_4 tw_532 (by decide +kernel) rfl rfl ⟨Nat.le_of_ble_eq_true rfl, Nat.le_of_ble_eq_true rfl⟩) rfl hl.1 rfl (Nat.le_of_ble_eq_true rfl) ⟨Nat.zero_le _, Nat.zero_le _⟩ d_M_divide_JJI_179 ?_
              refine lv_lload hx hb d_M_divide_JJI_182 (lv_at hl 1 rfl) ?_
              refine lv_iload hx hb d_M_divide_JJI_184 (lv_at hl 5 rfl) ?_
              refine pu_i (As := [.long v7, .int x4]) (rest := [.int (f_M_power_JI x0 x4)]) ⟨hx, hb, hml, hown, hts⟩ (c_M_moved_JI l _ t0 t1 t2 v7 x4 hk_x4) (pr_pre hRT) (gw_call (k := 2) hts tw_582 tw_583 tw_4 tw_584 (by decide +kernel) rfl rfl ⟨Nat.le_of_ble_eq_true rfl, Nat.le_of_ble_eq_true rfl⟩) rfl hl.1 rfl (Nat.le_of_ble_eq_true rfl) ⟨Nat.zero_le _, Nat.zero_le _⟩ d_M_divide_JJI_186 ?_
              refine lv_isub hx hb d_M_divide_JJI_189 ?_
              refine lv_lload_n hx hb d_M_divide_JJI_190 rfl (lv_at hl 4 rfl) ?_
              refine lv_iload hx hb d_M_divide_JJI_191 (lv_at hl 5 rfl) ?_
              refine pu_i (As := [.long x2, .int x4]) (rest := [.int ((f_M_power_JI x0 x4) - (f_M_moved_JI v7 x4))]) ⟨hx, hb, hml, hown, hts⟩ (c_M_power_JI l _ t0 t1 t2 x2 x4 hk_x4) (pr_pre hRT) (gw_call (k := 2) hts tw_530 tw_531 tw_4 tw_532 (by decide +kernel) rfl rfl ⟨Nat.le_of_ble_eq_true rfl, Nat.le_of_ble_eq_true rfl⟩) rfl hl.1 rfl (Nat.le_of_ble_eq_true rfl) ⟨Nat.zero_le _, Nat.zero_le _⟩ d_M_divide_JJI_193 ?_
              refine lv_isub hx hb d_M_divide_JJI_196 ?_
              refine lv_lload hx hb d_M_divide_JJI_197 (lv_at hl 0 rfl) ?_
              refine lv_iload hx hb d_M_divide_JJI_199 (lv_at hl 5 rfl) ?_
              refine pu_i (As := [.long v8, .int x4]) (rest := [.int (((f_M_power_JI x0 x4) - (f_M_moved_JI v7 x4)) - (f_M_power_JI x2 x4))]) ⟨hx, hb, hml, hown, hts⟩ (c_M_moved_JI l _ t0 t1 t2 v8 x4 hk_x4) (pr_pre hRT) (gw_call (k := 2) hts tw_582 tw_583 tw_4 tw_584 (by decide +kernel) rfl rfl ⟨Nat.le_of_ble_eq_true rfl, Nat.le_of_ble_eq_true rfl⟩) rfl hl.1 rfl (Nat.le_of_ble_eq_true rfl) ⟨Nat.zero_le _, Nat.zero_le _⟩ d_M_divide_JJI_201 ?_
              refine lv_iadd hx hb d_M_divide_JJI_204 ?_
              refine lv_topi (fun v9 e9 => ?_)
              refine lv_istore (lv' := [(10, .int v9), (8, .long v8), (6, .long v7), (5, .int s0), (0, .long x0), (2, .long x2), (4, .int x4)]) hx hb d_M_divide_JJI_205 hl (by decide) rfl (fun ls hl => ?_)
              refine lv_lload hx hb d_M_divide_JJI_207 (lv_at hl 2 rfl) ?_
              refine lv_lload hx hb d_M_divide_JJI_209 (lv_at hl 2 rfl) ?_
              refine lv_iload hx hb d_M_divide_JJI_211 (lv_at hl 6 rfl) ?_
              refine pu_i (As := [.long v7, .int x4]) (rest := [.long v7]) ⟨hx, hb, hml, hown, hts⟩ (c_M_moved_JI l _ t0 t1 t2 v7 x4 hk_x4) (pr_pre hRT) (gw_call (k := 2) hts tw_582 tw_583 tw_4 tw_584 (by decide +kernel) rfl rfl ⟨Nat.le_of_ble_eq_true rfl, Nat.le_of_ble_eq_true rfl⟩) rfl hl.1 rfl (Nat.le_of_ble_eq_true rfl) ⟨Nat.zero_le _, Nat.zero_le _⟩ d_M_divide_JJI_213 ?_
              refine lv_lshl (v := j_shl v7 (f_M_moved_JI v7 x4)) hx hb d_M_divide_JJI_216 rfl ?_
              refine lv_topl (fun v10 e10 => ?_)
              refine lv_lstore (lv' := [(6, .long v10), (10, .int v9), (8, .long v8), (5, .int s0), (0, .long x0), (2, .long x2), (4, .int x4)]) hx hb d_M_divide_JJI_217 hl (by decide) rfl (fun ls hl => ?_)
              refine lv_lload hx hb d_M_divide_JJI_219 (lv_at hl 2 rfl) ?_
              refine lv_lload hx hb d_M_divide_JJI_221 (lv_at hl 2 rfl) ?_
              refine lv_iload hx hb d_M_divide_JJI_223 (lv_at hl 6 rfl) ?_
              refine pu_i (As := [.long v8, .int x4]) (rest := [.long v8]) ⟨hx, hb, hml, hown, hts⟩ (c_M_moved_JI l _ t0 t1 t2 v8 x4 hk_x4) (pr_pre hRT) (gw_call (k := 2) hts tw_582 tw_583 tw_4 tw_584 (by decide +kernel) rfl rfl ⟨Nat.le_of_ble_eq_true rfl, Nat.le_of_ble_eq_true rfl⟩) rfl hl.1 rfl (Nat.le_of_ble_eq_true rfl) ⟨Nat.zero_le _, Nat.zero_le _⟩ d_M_divide_JJI_225 ?_
              refine lv_lshl (v := j_shl v8 (f_M_moved_JI v8 x4)) hx hb d_M_divide_JJI_228 rfl ?_
              refine lv_topl (fun v11 e11 => ?_)
              refine lv_lstore (lv' := [(8, .long v11), (6, .long v10), (10, .int v9), (5, .int s0), (0, .long x0), (2, .long x2), (4, .int x4)]) hx hb d_M_divide_JJI_229 hl (by decide) rfl (fun ls hl => ?_)
              refine lv_lload hx hb d_M_divide_JJI_231 (lv_at hl 1 rfl) ?_
              refine lv_lload hx hb d_M_divide_JJI_233 (lv_at hl 0 rfl) ?_
              refine W.lcmp hx hb d_M_divide_JJI_235 ?_
              refine lv_if_lt (tgt := 243) hx hb d_M_divide_JJI_236 (by decide) (fun c12 => ?_) (fun c12 => ?_)
              · refine lv_lconst (v := (0 : Int64)) hx hb d_M_divide_JJI_243 (by decide) ?_
                exact k_M_divide_JJI_244 C0 hRT x4 s0 v10 v11 v9 (0 : Int64) hk_x4 ls (lv_sub hl [6, 3, 1, 0, 2] rfl) (by have qe7 := e7.symm; have qe8 := e8.symm; have qe9 := e9.symm; have qe10 := e10.symm; have qe11 := e11.symm; subst qe7 qe8 qe9 qe10 qe11; exact (hw.trans (Eq.trans (if_pos c1) (Eq.trans (if_pos c2) (Eq.trans (if_pos c3) (Eq.trans (if_pos c4) (Eq.trans (if_pos c5) (Eq.trans (if_pos c6) (if_pos c12)))))))))
              · refine lv_lconst (v := (1 : Int64)) hx hb d_M_divide_JJI_239 (by decide) ?_
                refine lv_goto (tgt := 244) hx hb d_M_divide_JJI_240 (by decide) ?_
                exact k_M_divide_JJI_244 C0 hRT x4 s0 v10 v11 v9 (1 : Int64) hk_x4 ls (lv_sub hl [6, 3, 1, 0, 2] rfl) (by have qe7 := e7.symm; have qe8 := e8.symm; have qe9 := e9.symm; have qe10 := e10.symm; have qe11 := e11.symm; subst qe7 qe8 qe9 qe10 qe11; exact (hw.trans (Eq.trans (if_pos c1) (Eq.trans (if_pos c2) (Eq.trans (if_pos c3) (Eq.trans (if_pos c4) (Eq.trans (if_pos c5) (Eq.trans (if_pos c6) (if_neg c12)))))))))
            · refine lv_lconst (v := (0 : Int64)) hx hb d_M_divide_JJI_151 (by decide) ?_
              refine lv_iload hx hb d_M_divide_JJI_152 (lv_at hl 0 rfl) ?_
              refine lv_iload hx hb d_M_divide_JJI_154 (lv_at hl 3 rfl) ?_
              refine pu_l (As := [.long (0 : Int64), .int s0, .int x4]) (rest := []) ⟨hx, hb, hml, hown, hts⟩ (c_M_signed_JZI l _ (0 : Int64) s0 x4) pu_pre (gw_call (k := 3) hts tw_522 tw_523 tw_4 tw_524 (by decide +kernel) rfl rfl ⟨Nat.le_of_ble_eq_true rfl, Nat.le_of_ble_eq_true rfl⟩) rfl hl.1 rfl (Nat.le_of_ble_eq_true rfl) ⟨Nat.zero_le _, Nat.zero_le _⟩ d_M_divide_JJI_156 ?_
              exact pu_lret hx hb hr hlocks d_M_divide_JJI_159 (by exact Eq.symm (hw.trans (Eq.trans (if_pos c1) (Eq.trans (if_pos c2) (Eq.trans (if_pos c3) (Eq.trans (if_pos c4) (Eq.trans (if_pos c5) (if_neg c6))))))))
          · refine lv_lload_n hx hb d_M_divide_JJI_112 rfl (lv_at hl 1 rfl) ?_
            refine lv_iload hx hb d_M_divide_JJI_113 (lv_at hl 3 rfl) ?_
            refine pu_i (As := [.long x0, .int x4]) (rest := []) ⟨hx, hb, hml, hown, hts⟩ (c_M_isZero_JI l _ x0 x4) pu_pre (gw_call (k := 2) hts tw_579 tw_580 tw_4 tw_581 (by decide +kernel) rfl rfl ⟨Nat.le_of_ble_eq_true rfl, Nat.le_of_ble_eq_true rfl⟩) rfl hl.1 rfl (Nat.le_of_ble_eq_true rfl) ⟨Nat.zero_le _, Nat.zero_le _⟩ d_M_divide_JJI_115 ?_
            refine lv_if_eq (tgt := 129) hx hb d_M_divide_JJI_118 (by decide) (fun c13 => ?_) (fun c13 => ?_)
            · refine lv_iload hx hb d_M_divide_JJI_129 (lv_at hl 3 rfl) ?_
              refine pu_l (As := [.int x4]) (rest := []) ⟨hx, hb, hml, hown, hts⟩ (c_M_infinite_I l _ x4) pu_pre (gw_call (k := 1) hts tw_507 tw_508 tw_4 tw_509 (by decide +kernel) rfl rfl ⟨Nat.le_of_ble_eq_true rfl, Nat.le_of_ble_eq_true rfl⟩) rfl hl.1 rfl (Nat.le_of_ble_eq_true rfl) ⟨Nat.zero_le _, Nat.zero_le _⟩ d_M_divide_JJI_131 ?_
              refine lv_iload hx hb d_M_divide_JJI_134 (lv_at hl 0 rfl) ?_
              refine lv_iload hx hb d_M_divide_JJI_136 (lv_at hl 3 rfl) ?_
              refine pu_l (As := [.long (f_M_infinite_I x4), .int s0, .int x4]) (rest := []) ⟨hx, hb, hml, hown, hts⟩ (c_M_signed_JZI l _ (f_M_infinite_I x4) s0 x4) pu_pre (gw_call (k := 3) hts tw_522 tw_523 tw_4 tw_524 (by decide +kernel) rfl rfl ⟨Nat.le_of_ble_eq_true rfl, Nat.le_of_ble_eq_true rfl⟩) rfl hl.1 rfl (Nat.le_of_ble_eq_true rfl) ⟨Nat.zero_le _, Nat.zero_le _⟩ d_M_divide_JJI_138 ?_
              exact pu_lret hx hb hr hlocks d_M_divide_JJI_141 (by exact Eq.symm (hw.trans (Eq.trans (if_pos c1) (Eq.trans (if_pos c2) (Eq.trans (if_pos c3) (Eq.trans (if_pos c4) (Eq.trans (if_neg c5) (if_pos c13))))))))
            · refine lv_iload hx hb d_M_divide_JJI_121 (lv_at hl 3 rfl) ?_
              refine pu_l (As := [.int x4]) (rest := []) ⟨hx, hb, hml, hown, hts⟩ (c_M_none_I l _ x4) pu_pre (gw_call (k := 1) hts tw_511 tw_512 tw_4 tw_513 (by decide +kernel) rfl rfl ⟨Nat.le_of_ble_eq_true rfl, Nat.le_of_ble_eq_true rfl⟩) rfl hl.1 rfl (Nat.le_of_ble_eq_true rfl) ⟨Nat.zero_le _, Nat.zero_le _⟩ d_M_divide_JJI_123 ?_
              refine lv_goto (tgt := 141) hx hb d_M_divide_JJI_126 (by decide) ?_
              exact pu_lret hx hb hr hlocks d_M_divide_JJI_141 (by exact Eq.symm (hw.trans (Eq.trans (if_pos c1) (Eq.trans (if_pos c2) (Eq.trans (if_pos c3) (Eq.trans (if_pos c4) (Eq.trans (if_neg c5) (if_neg c13))))))))
        · refine lv_lconst (v := (0 : Int64)) hx hb d_M_divide_JJI_94 (by decide) ?_
          refine lv_iload hx hb d_M_divide_JJI_95 (lv_at hl 0 rfl) ?_
          refine lv_iload hx hb d_M_divide_JJI_97 (lv_at hl 3 rfl) ?_
          refine pu_l (As := [.long (0 : Int64), .int s0, .int x4]) (rest := []) ⟨hx, hb, hml, hown, hts⟩ (c_M_signed_JZI l _ (0 : Int64) s0 x4) pu_pre (gw_call (k := 3) hts tw_522 tw_523 tw_4 tw_524 (by decide +kernel) rfl rfl ⟨Nat.le_of_ble_eq_true rfl, Nat.le_of_ble_eq_true rfl⟩) rfl hl.1 rfl (Nat.le_of_ble_eq_true rfl) ⟨Nat.zero_le _, Nat.zero_le _⟩ d_M_divide_JJI_99 ?_
          exact pu_lret hx hb hr hlocks d_M_divide_JJI_102 (by exact Eq.symm (hw.trans (Eq.trans (if_pos c1) (Eq.trans (if_pos c2) (Eq.trans (if_pos c3) (if_neg c4))))))
      · refine lv_lload_n hx hb d_M_divide_JJI_55 rfl (lv_at hl 2 rfl) ?_
        refine lv_iload hx hb d_M_divide_JJI_56 (lv_at hl 3 rfl) ?_
        refine pu_i (As := [.long x2, .int x4]) (rest := []) ⟨hx, hb, hml, hown, hts⟩ (c_M_isInfinite_JI l _ x2 x4) pu_pre (gw_call (k := 2) hts tw_516 tw_517 tw_4 tw_518 (by decide +kernel) rfl rfl ⟨Nat.le_of_ble_eq_true rfl, Nat.le_of_ble_eq_true rfl⟩) rfl hl.1 rfl (Nat.le_of_ble_eq_true rfl) ⟨Nat.zero_le _, Nat.zero_le _⟩ d_M_divide_JJI_58 ?_
        refine lv_if_eq (tgt := 72) hx hb d_M_divide_JJI_61 (by decide) (fun c14 => ?_) (fun c14 => ?_)
        · refine lv_iload hx hb d_M_divide_JJI_72 (lv_at hl 3 rfl) ?_
          refine pu_l (As := [.int x4]) (rest := []) ⟨hx, hb, hml, hown, hts⟩ (c_M_infinite_I l _ x4) pu_pre (gw_call (k := 1) hts tw_507 tw_508 tw_4 tw_509 (by decide +kernel) rfl rfl ⟨Nat.le_of_ble_eq_true rfl, Nat.le_of_ble_eq_true rfl⟩) rfl hl.1 rfl (Nat.le_of_ble_eq_true rfl) ⟨Nat.zero_le _, Nat.zero_le _⟩ d_M_divide_JJI_74 ?_
          refine lv_iload hx hb d_M_divide_JJI_77 (lv_at hl 0 rfl) ?_
          refine lv_iload hx hb d_M_divide_JJI_79 (lv_at hl 3 rfl) ?_
          refine pu_l (As := [.long (f_M_infinite_I x4), .int s0, .int x4]) (rest := []) ⟨hx, hb, hml, hown, hts⟩ (c_M_signed_JZI l _ (f_M_infinite_I x4) s0 x4) pu_pre (gw_call (k := 3) hts tw_522 tw_523 tw_4 tw_524 (by decide +kernel) rfl rfl ⟨Nat.le_of_ble_eq_true rfl, Nat.le_of_ble_eq_true rfl⟩) rfl hl.1 rfl (Nat.le_of_ble_eq_true rfl) ⟨Nat.zero_le _, Nat.zero_le _⟩ d_M_divide_JJI_81 ?_
          exact pu_lret hx hb hr hlocks d_M_divide_JJI_84 (by exact Eq.symm (hw.trans (Eq.trans (if_pos c1) (Eq.trans (if_pos c2) (Eq.trans (if_neg c3) (if_pos c14))))))
        · refine lv_iload hx hb d_M_divide_JJI_64 (lv_at hl 3 rfl) ?_
          refine pu_l (As := [.int x4]) (rest := []) ⟨hx, hb, hml, hown, hts⟩ (c_M_none_I l _ x4) pu_pre (gw_call (k := 1) hts tw_511 tw_512 tw_4 tw_513 (by decide +kernel) rfl rfl ⟨Nat.le_of_ble_eq_true rfl, Nat.le_of_ble_eq_true rfl⟩) rfl hl.1 rfl (Nat.le_of_ble_eq_true rfl) ⟨Nat.zero_le _, Nat.zero_le _⟩ d_M_divide_JJI_66 ?_
          refine lv_goto (tgt := 84) hx hb d_M_divide_JJI_69 (by decide) ?_
          exact pu_lret hx hb hr hlocks d_M_divide_JJI_84 (by exact Eq.symm (hw.trans (Eq.trans (if_pos c1) (Eq.trans (if_pos c2) (Eq.trans (if_neg c3) (if_neg c14))))))
    · refine lv_iload hx hb d_M_divide_JJI_40 (lv_at hl 3 rfl) ?_
      refine pu_l (As := [.int x4]) (rest := []) ⟨hx, hb, hml, hown, hts⟩ (c_M_none_I l _ x4) pu_pre (gw_call (k := 1) hts tw_511 tw_512 tw_4 tw_513 (by decide +kernel) rfl rfl ⟨Nat.le_of_ble_eq_true rfl, Nat.le_of_ble_eq_true rfl⟩) rfl hl.1 rfl (Nat.le_of_ble_eq_true rfl) ⟨Nat.zero_le _, Nat.zero_le _⟩ d_M_divide_JJI_42 ?_
      exact pu_lret hx hb hr hlocks d_M_divide_JJI_45 (by exact Eq.symm (hw.trans (Eq.trans (if_pos c1) (if_neg c2))))
def f_M_divide_JJI (x0 : Int64) (x2 : Int64) (x4 : Int32) : Int64 :=
  if (f_M_minus_JI x0 x4) = (f_M_minus_JI x2 x4) then
    f_M_divide_JJI_20 x0 x2 x4 (0 : Int32)
  else
    f_M_divide_JJI_20 x0 x2 x4 (1 : Int32)
set_option maxHeartbeats 4000000 in
set_option maxRecDepth 100000 in
theorem c_M_divide_JJI (l : Launch) (h : Heap) (t0 t1 t2 : Nat) (x0 : Int64) (x2 : Int64) (x4 : Int32) (hk_x4 : vp_in x4 2) : Met l y_M_divide_JJI (gw y_M_divide_JJI b_M_divide_JJI 16 (some .long)) { frames := 3, cells := 0, slots := 0, locals := 77 } (pr_Pc [.long x0, .long x2, .int x4] h t0 t1 t2) (pu_Ml (f_M_divide_JJI x0 x2 x4) h) 0 0 (fun _ => False) := by
  refine Met.ofW (cc := b_M_divide_JJI) (maxL := 16) (ret := (some .long)) (by decide) rfl ?_
  intro p e s m args below meth c s₁ B hml hv
  obtain ⟨rfl, hh, hRT⟩ := hv
  subst hh
  obtain ⟨hT0, hT1, hT2⟩ := id hRT
  have hx := B.exec
  have hb := B.bytes
  have hr := B.returns
  have hts := atoms_spec (ws := (gw y_M_divide_JJI b_M_divide_JJI 16 (some .long))) B.pre
  have hown : s.vm.findClass "MotionLabModel" = some m.cls := findClass_of_methodNamed B.named
  have hlocks := B.notSynchronized
  have C0 : pu_C p s m _ meth c b_M_divide_JJI 16 "MotionLabModel" (some .long) (gw y_M_divide_JJI b_M_divide_JJI 16 (some .long)) := ⟨hx, hb, hml, hown, hts, hr, hlocks⟩
  have hl := lv_entry ([.long x0, .long x2, .int x4]) (n := 16) (Nat.le_of_ble_eq_true rfl)
  rw [lg_entry_eq]
  generalize (lg_sl ([.long x0, .long x2, .int x4]) ++ List.replicate (16 - (lg_sl ([.long x0, .long x2, .int x4])).length) Slot.unset).toArray = ls at hl ⊢
  have hl : lv_has ls 16 [(0, .long x0), (2, .long x2), (4, .int x4)] := hl
  refine lv_lload_n hx hb d_M_divide_JJI_0 rfl (lv_at hl 0 rfl) ?_
  refine lv_iload hx hb d_M_divide_JJI_1 (lv_at hl 2 rfl) ?_
  refine pu_i (As := [.long x0, .int x4]) (rest := []) ⟨hx, hb, hml, hown, hts⟩ (c_M_minus_JI l _ x0 x4) pu_pre (gw_call (k := 2) hts tw_519 tw_520 tw_4 tw_521 (by decide +kernel) rfl rfl ⟨Nat.le_of_ble_eq_true rfl, Nat.le_of_ble_eq_true rfl⟩) rfl hl.1 rfl (Nat.le_of_ble_eq_true rfl) ⟨Nat.zero_le _, Nat.zero_le _⟩ d_M_divide_JJI_3 ?_
  refine lv_lload_n hx hb d_M_divide_JJI_6 rfl (lv_at hl 1 rfl) ?_
  refine lv_iload hx hb d_M_divide_JJI_7 (lv_at hl 2 rfl) ?_
  refine pu_i (As := [.long x2, .int x4]) (rest := [.int (f_M_minus_JI x0 x4)]) ⟨hx, hb, hml, hown, hts⟩ (c_M_minus_JI l _ x2 x4) pu_pre (gw_call (k := 2) hts tw_519 tw_520 tw_4 tw_521 (by decide +kernel) rfl rfl ⟨Nat.le_of_ble_eq_true rfl, Nat.le_of_ble_eq_true rfl⟩) rfl hl.1 rfl (Nat.le_of_ble_eq_true rfl) ⟨Nat.zero_le _, Nat.zero_le _⟩ d_M_divide_JJI_9 ?_
  refine lv_icmp_eq (tgt := 19) hx hb d_M_divide_JJI_12 (by decide) (fun c1 => ?_) (fun c1 => ?_)
  · refine lv_iconst (v := 0) hx hb d_M_divide_JJI_19 (by decide) ?_
    exact k_M_divide_JJI_20 C0 hRT x0 x2 x4 (0 : Int32) hk_x4 ls (lv_sub hl [0, 1, 2] rfl) (by exact (if_pos c1))
  · refine lv_iconst (v := 1) hx hb d_M_divide_JJI_15 (by decide) ?_
    refine lv_goto (tgt := 20) hx hb d_M_divide_JJI_16 (by decide) ?_
    exact k_M_divide_JJI_20 C0 hRT x0 x2 x4 (1 : Int32) hk_x4 ls (lv_sub hl [0, 1, 2] rfl) (by exact (if_neg c1))
-- ===== MotionLabModel.divide(JJ)J
abbrev y_M_divide_JJ : MethodName := ⟨"MotionLabModel", "divide", "(JJ)J"⟩
abbrev b_M_divide_JJ : ByteArray := prog_6_method_29_code
theorem d_M_divide_JJ_0 : decode b_M_divide_JJ 0 = .ok (.lload_n 0, 1) := by decide +kernel
theorem d_M_divide_JJ_1 : decode b_M_divide_JJ 1 = .ok (.lload_n 2, 1) := by decide +kernel
theorem d_M_divide_JJ_2 : decode b_M_divide_JJ 2 = .ok (.iconst 0, 1) := by decide +kernel
theorem d_M_divide_JJ_3 : decode b_M_divide_JJ 3 = .ok (.invokestatic 113, 3) := by decide +kernel
theorem d_M_divide_JJ_6 : decode b_M_divide_JJ 6 = .ok (.lreturn, 1) := by decide +kernel
def f_M_divide_JJ (x0 : Int64) (x2 : Int64) : Int64 :=
  f_M_divide_JJI x0 x2 (0 : Int32)
set_option maxHeartbeats 4000000 in
set_option maxRecDepth 100000 in
theorem c_M_divide_JJ (l : Launch) (h : Heap) (t0 t1 t2 : Nat) (x0 : Int64) (x2 : Int64) : Met l y_M_divide_JJ (gw y_M_divide_JJ b_M_divide_JJ 4 (some .long)) { frames := 4, cells := 0, slots := 0, locals := 112 } (pr_Pc [.long x0, .long x2] h t0 t1 t2) (pu_Ml (f_M_divide_JJ x0 x2) h) 0 0 (fun _ => False) := by
  refine Met.ofW (cc := b_M_divide_JJ) (maxL := 4) (ret := (some .long)) (by decide) rfl ?_
  intro p e s m args below meth c s₁ B hml hv
  obtain ⟨rfl, hh, hRT⟩ := hv
  subst hh
  obtain ⟨hT0, hT1, hT2⟩ := id hRT
  have hx := B.exec
  have hb := B.bytes
  have hr := B.returns
  have hts := atoms_spec (ws := (gw y_M_divide_JJ b_M_divide_JJ 4 (some .long))) B.pre
  have hown : s.vm.findClass "MotionLabModel" = some m.cls := findClass_of_methodNamed B.named
  have hlocks := B.notSynchronized
  have C0 : pu_C p s m _ meth c b_M_divide_JJ 4 "MotionLabModel" (some .long) (gw y_M_divide_JJ b_M_divide_JJ 4 (some .long)) := ⟨hx, hb, hml, hown, hts, hr, hlocks⟩
  have hl := lv_entry ([.long x0, .long x2]) (n := 4) (Nat.le_of_ble_eq_true rfl)
  rw [lg_entry_eq]
  generalize (lg_sl ([.long x0, .long x2]) ++ List.replicate (4 - (lg_sl ([.long x0, .long x2])).length) Slot.unset).toArray = ls at hl ⊢
  have hl : lv_has ls 4 [(0, .long x0), (2, .long x2)] := hl
  refine lv_lload_n hx hb d_M_divide_JJ_0 rfl (lv_at hl 0 rfl) ?_
  refine lv_lload_n hx hb d_M_divide_JJ_1 rfl (lv_at hl 1 rfl) ?_
  refine lv_iconst (v := 0) hx hb d_M_divide_JJ_2 (by decide) ?_
  refine pu_l (As := [.long x0, .long x2, .int (0 : Int32)]) (rest := []) ⟨hx, hb, hml, hown, hts⟩ (c_M_divide_JJI l _ t0 t1 t2 x0 x2 (0 : Int32) (in_of (by decide) (by decide))) (pr_pre hRT) (gw_call (k := 3) hts tw_627 tw_628 tw_4 tw_629 (by decide +kernel) rfl rfl ⟨Nat.le_of_ble_eq_true rfl, Nat.le_of_ble_eq_true rfl⟩) rfl hl.1 rfl (Nat.le_of_ble_eq_true rfl) ⟨Nat.zero_le _, Nat.zero_le _⟩ d_M_divide_JJ_3 ?_
  exact pu_lret hx hb hr hlocks d_M_divide_JJ_6 (by exact Eq.symm rfl)
-- ===== MotionLabModel.root(J)J
abbrev y_M_root_J : MethodName := ⟨"MotionLabModel", "root", "(J)J"⟩
abbrev b_M_root_J : ByteArray := prog_6_method_30_code
theorem d_M_root_J_0 : decode b_M_root_J 0 = .ok (.lload_n 0, 1) := by decide +kernel
theorem d_M_root_J_1 : decode b_M_root_J 1 = .ok (.lconst 0, 1) := by decide +kernel
theorem d_M_root_J_2 : decode b_M_root_J 2 = .ok (.invokestatic 116, 3) := by decide +kernel
theorem d_M_root_J_5 : decode b_M_root_J 5 = .ok (.iconst 1, 1) := by decide +kernel
theorem d_M_root_J_6 : decode b_M_root_J 6 = .ok (.if_icmp .ne 11, 3) := by decide +kernel
theorem d_M_root_J_9 : decode b_M_root_J 9 = .ok (.lload_n 0, 1) := by decide +kernel
theorem d_M_root_J_10 : decode b_M_root_J 10 = .ok (.iconst 0, 1) := by decide +kernel
theorem d_M_root_J_11 : decode b_M_root_J 11 = .ok (.invokestatic 63, 3) := by decide +kernel
theorem d_M_root_J_14 : decode b_M_root_J 14 = .ok (.ifCond .eq 5, 3) := by decide +kernel
theorem d_M_root_J_17 : decode b_M_root_J 17 = .ok (.lload_n 0, 1) := by decide +kernel
theorem d_M_root_J_18 : decode b_M_root_J 18 = .ok (.lreturn, 1) := by decide +kernel
theorem d_M_root_J_19 : decode b_M_root_J 19 = .ok (.lload_n 0, 1) := by decide +kernel
theorem d_M_root_J_20 : decode b_M_root_J 20 = .ok (.iconst 1, 1) := by decide +kernel
theorem d_M_root_J_21 : decode b_M_root_J 21 = .ok (.lshr, 1) := by decide +kernel
theorem d_M_root_J_22 : decode b_M_root_J 22 = .ok (.ldc2_w 119, 3) := by decide +kernel
theorem d_M_root_J_25 : decode b_M_root_J 25 = .ok (.ladd, 1) := by decide +kernel
theorem d_M_root_J_26 : decode b_M_root_J 26 = .ok (.lstore_n 2, 1) := by decide +kernel
theorem d_M_root_J_27 : decode b_M_root_J 27 = .ok (.iconst 0, 1) := by decide +kernel
theorem d_M_root_J_28 : decode b_M_root_J 28 = .ok (.istore 4, 2) := by decide +kernel
theorem d_M_root_J_30 : decode b_M_root_J 30 = .ok (.iload 4, 2) := by decide +kernel
theorem d_M_root_J_32 : decode b_M_root_J 32 = .ok (.iconst 5, 1) := by decide +kernel
theorem d_M_root_J_33 : decode b_M_root_J 33 = .ok (.if_icmp .ge 25, 3) := by decide +kernel
theorem d_M_root_J_36 : decode b_M_root_J 36 = .ok (.lload_n 2, 1) := by decide +kernel
theorem d_M_root_J_37 : decode b_M_root_J 37 = .ok (.lload_n 0, 1) := by decide +kernel
theorem d_M_root_J_38 : decode b_M_root_J 38 = .ok (.lload_n 2, 1) := by decide +kernel
theorem d_M_root_J_39 : decode b_M_root_J 39 = .ok (.invokestatic 121, 3) := by decide +kernel
theorem d_M_root_J_42 : decode b_M_root_J 42 = .ok (.invokestatic 123, 3) := by decide +kernel
theorem d_M_root_J_45 : decode b_M_root_J 45 = .ok (.ldc2_w 125, 3) := by decide +kernel
theorem d_M_root_J_48 : decode b_M_root_J 48 = .ok (.invokestatic 121, 3) := by decide +kernel
theorem d_M_root_J_51 : decode b_M_root_J 51 = .ok (.lstore_n 2, 1) := by decide +kernel
theorem d_M_root_J_52 : decode b_M_root_J 52 = .ok (.iinc 4 1, 3) := by decide +kernel
theorem d_M_root_J_55 : decode b_M_root_J 55 = .ok (.goto (-25), 3) := by decide +kernel
theorem d_M_root_J_58 : decode b_M_root_J 58 = .ok (.lload_n 2, 1) := by decide +kernel
theorem d_M_root_J_59 : decode b_M_root_J 59 = .ok (.lreturn, 1) := by decide +kernel
def f_M_root_J (x0 : Int64) : Int64 :=
  if (f_M_order_JJ x0 (0 : Int64)) = (1 : Int32) then
    if (f_M_isInfinite_JI x0 (0 : Int32)) = 0 then
      let v3 : Int64 := (j_shr x0 (1 : Int32)) + (2303591209400008704 : Int64)
      let v4 : Int64 := f_M_divide_JJ (f_M_add_JJ v3 (f_M_divide_JJ x0 v3)) (4611686018427387904 : Int64)
      let v5 : Int64 := f_M_divide_JJ (f_M_add_JJ v4 (f_M_divide_JJ x0 v4)) (4611686018427387904 : Int64)
      let v6 : Int64 := f_M_divide_JJ (f_M_add_JJ v5 (f_M_divide_JJ x0 v5)) (4611686018427387904 : Int64)
      let v7 : Int64 := f_M_divide_JJ (f_M_add_JJ v6 (f_M_divide_JJ x0 v6)) (4611686018427387904 : Int64)
      let v8 : Int64 := f_M_divide_JJ (f_M_add_JJ v7 (f_M_divide_JJ x0 v7)) (4611686018427387904 : Int64)
      v8
    else
      x0
  else
    x0
set_option maxHeartbeats 4000000 in
set_option maxRecDepth 100000 in
theorem c_M_root_J (l : Launch) (h : Heap) (t0 t1 t2 : Nat) (x0 : Int64) : Met l y_M_root_J (gw y_M_root_J b_M_root_J 5 (some .long)) { frames := 5, cells := 0, slots := 0, locals := 138 } (pr_Pc [.long x0] h t0 t1 t2) (pu_Ml (f_M_root_J x0) h) 0 0 (fun _ => False) := by
  refine Met.ofW (cc := b_M_root_J) (maxL := 5) (ret := (some .long)) (by decide) rfl ?_
  intro p e s m args below meth c s₁ B hml hv
  obtain ⟨rfl, hh, hRT⟩ := hv
  subst hh
  obtain ⟨hT0, hT1, hT2⟩ := id hRT
  have hx := B.exec
  have hb := B.bytes
  have hr := B.returns
  have hts := atoms_spec (ws := (gw y_M_root_J b_M_root_J 5 (some .long))) B.pre
  have hown : s.vm.findClass "MotionLabModel" = some m.cls := findClass_of_methodNamed B.named
  have hlocks := B.notSynchronized
  have C0 : pu_C p s m _ meth c b_M_root_J 5 "MotionLabModel" (some .long) (gw y_M_root_J b_M_root_J 5 (some .long)) := ⟨hx, hb, hml, hown, hts, hr, hlocks⟩
  have hl := lv_entry ([.long x0]) (n := 5) (Nat.le_of_ble_eq_true rfl)
  rw [lg_entry_eq]
  generalize (lg_sl ([.long x0]) ++ List.replicate (5 - (lg_sl ([.long x0])).length) Slot.unset).toArray = ls at hl ⊢
  have hl : lv_has ls 5 [(0, .long x0)] := hl
  refine lv_lload_n hx hb d_M_root_J_0 rfl (lv_at hl 0 rfl) ?_
  refine lv_lconst (v := (0 : Int64)) hx hb d_M_root_J_1 (by decide) ?_
  refine pu_i (As := [.long x0, .long (0 : Int64)]) (rest := []) ⟨hx, hb, hml, hown, hts⟩ (c_M_order_JJ l _ x0 (0 : Int64)) pu_pre (gw_call (k := 2) hts tw_617 tw_618 tw_4 tw_619 (by decide +kernel) rfl rfl ⟨Nat.le_of_ble_eq_true rfl, Nat.le_of_ble_eq_true rfl⟩) rfl hl.1 rfl (Nat.le_of_ble_eq_true rfl) ⟨Nat.zero_le _, Nat.zero_le _⟩ d_M_root_J_2 ?_
  refine lv_iconst (v := 1) hx hb d_M_root_J_5 (by decide) ?_
  refine lv_icmp_ne (tgt := 17) hx hb d_M_root_J_6 (by decide) (fun c1 => ?_) (fun c1 => ?_)
  · refine lv_lload_n hx hb d_M_root_J_17 rfl (lv_at hl 0 rfl) ?_
    exact pu_lret hx hb hr hlocks d_M_root_J_18 (by exact Eq.symm (if_neg c1))
  · refine lv_lload_n hx hb d_M_root_J_9 rfl (lv_at hl 0 rfl) ?_
    refine lv_iconst (v := 0) hx hb d_M_root_J_10 (by decide) ?_
    refine pu_i (As := [.long x0, .int (0 : Int32)]) (rest := []) ⟨hx, hb, hml, hown, hts⟩ (c_M_isInfinite_JI l _ x0 (0 : Int32)) pu_pre (gw_call (k := 2) hts tw_516 tw_517 tw_4 tw_518 (by decide +kernel) rfl rfl ⟨Nat.le_of_ble_eq_true rfl, Nat.le_of_ble_eq_true rfl⟩) rfl hl.1 rfl (Nat.le_of_ble_eq_true rfl) ⟨Nat.zero_le _, Nat.zero_le _⟩ d_M_root_J_11 ?_
    refine lv_if_eq (tgt := 19) hx hb d_M_root_J_14 (by decide) (fun c2 => ?_) (fun c2 => ?_)
    · refine lv_lload_n hx hb d_M_root_J_19 rfl (lv_at hl 0 rfl) ?_
      refine lv_iconst (v := 1) hx hb d_M_root_J_20 (by decide) ?_
      refine lv_lshr (v := j_shr x0 (1 : Int32)) hx hb d_M_root_J_21 rfl ?_
      refine lv_ldc2 (v := (2303591209400008704 : Int64)) hx hb hown (hts _ (gm tw_623)) d_M_root_J_22 ?_
      refine lv_ladd hx hb d_M_root_J_25 ?_
      refine lv_topl (fun v3 e3 => ?_)
      refine lv_lstore_n (lv' := [(2, .long v3), (0, .long x0)]) hx hb d_M_root_J_26 rfl hl (by decide) rfl (fun ls hl => ?_)
      refine lv_iconst (v := 0) hx hb d_M_root_J_27 (by decide) ?_
      refine lv_istore (lv' := [(4, .int (0 : Int32)), (2, .long v3), (0, .long x0)]) hx hb d_M_root_J_28 hl (by decide) rfl (fun ls hl => ?_)
      refine lv_iload hx hb d_M_root_J_30 (lv_at hl 0 rfl) ?_
      refine lv_iconst (v := 5) hx hb d_M_root_J_32 (by decide) ?_
      refine lv_icmp_ge (tgt := 58) hx hb d_M_root_J_33 (by decide) (fun c0 => absurd c0 (by decide)) (fun _ => ?_)
      refine lv_lload_n hx hb d_M_root_J_36 rfl (lv_at hl 1 rfl) ?_
      refine lv_lload_n hx hb d_M_root_J_37 rfl (lv_at hl 2 rfl) ?_
      refine lv_lload_n hx hb d_M_root_J_38 rfl (lv_at hl 1 rfl) ?_
      refine pu_l (As := [.long x0, .long v3]) (rest := [.long v3]) ⟨hx, hb, hml, hown, hts⟩ (c_M_divide_JJ l _ t0 t1 t2 x0 v3) (pr_pre hRT) (gw_call (k := 2) hts tw_624 tw_625 tw_4 tw_626 (by decide +kernel) rfl rfl ⟨Nat.le_of_ble_eq_true rfl, Nat.le_of_ble_eq_true rfl⟩) rfl hl.1 rfl (Nat.le_of_ble_eq_true rfl) ⟨Nat.zero_le _, Nat.zero_le _⟩ d_M_root_J_39 ?_
      refine pu_l (As := [.long v3, .long (f_M_divide_JJ x0 v3)]) (rest := []) ⟨hx, hb, hml, hown, hts⟩ (c_M_add_JJ l _ t0 t1 t2 v3 (f_M_divide_JJ x0 v3)) (pr_pre hRT) (gw_call (k := 2) hts tw_611 tw_612 tw_4 tw_613 (by decide +kernel) rfl rfl ⟨Nat.le_of_ble_eq_true rfl, Nat.le_of_ble_eq_true rfl⟩) rfl hl.1 rfl (Nat.le_of_ble_eq_true rfl) ⟨Nat.zero_le _, Nat.zero_le _⟩ d_M_root_J_42 ?_
      refine lv_ldc2 (v := (4611686018427387904 : Int64)) hx hb hown (hts _ (gm tw_630)) d_M_root_J_45 ?_
      refine pu_l (As := [.long (f_M_add_JJ v3 (f_M_divide_JJ x0 v3)), .long (4611686018427387904 : Int64)]) (rest := []) ⟨hx, hb, hml, hown, hts⟩ (c_M_divide_JJ l _ t0 t1 t2 (f_M_add_JJ v3 (f_M_divide_JJ x0 v3)) (4611686018427387904 : Int64)) (pr_pre hRT) (gw_call (k := 2) hts tw_624 tw_625 tw_4 tw_626 (by decide +kernel) rfl rfl ⟨Nat.le_of_ble_eq_true rfl, Nat.le_of_ble_eq_true rfl⟩) rfl hl.1 rfl (Nat.le_of_ble_eq_true rfl) ⟨Nat.zero_le _, Nat.zero_le _⟩ d_M_root_J_48 ?_
      refine lv_topl (fun v4 e4 => ?_)
      refine lv_lstore_n (lv' := [(2, .long v4), (4, .int (0 : Int32)), (0, .long x0)]) hx hb d_M_root_J_51 rfl hl (by decide) rfl (fun ls hl => ?_)
      refine lv_iinc (v := (1 : Int32)) (lv' := [(4, .int (1 : Int32)), (2, .long v4), (0, .long x0)]) hx hb d_M_root_J_52 hl (k := 1) rfl (by decide) (by decide) rfl (fun ls hl => ?_)
      refine lv_goto (tgt := 30) hx hb d_M_root_J_55 (by decide) ?_
      refine lv_iload hx hb d_M_root_J_30 (lv_at hl 0 rfl) ?_
      refine lv_iconst (v := 5) hx hb d_M_root_J_32 (by decide) ?_
      refine lv_icmp_ge (tgt := 58) hx hb d_M_root_J_33 (by decide) (fun c0 => absurd c0 (by decide)) (fun _ => ?_)
      refine lv_lload_n hx hb d_M_root_J_36 rfl (lv_at hl 1 rfl) ?_
      refine lv_lload_n hx hb d_M_root_J_37 rfl (lv_at hl 2 rfl) ?_
      refine lv_lload_n hx hb d_M_root_J_38 rfl (lv_at hl 1 rfl) ?_
      refine pu_l (As := [.long x0, .long v4]) (rest := [.long v4]) ⟨hx, hb, hml, hown, hts⟩ (c_M_divide_JJ l _ t0 t1 t2 x0 v4) (pr_pre hRT) (gw_call (k := 2) hts tw_624 tw_625 tw_4 tw_626 (by decide +kernel) rfl rfl ⟨Nat.le_of_ble_eq_true rfl, Nat.le_of_ble_eq_true rfl⟩) rfl hl.1 rfl (Nat.le_of_ble_eq_true rfl) ⟨Nat.zero_le _, Nat.zero_le _⟩ d_M_root_J_39 ?_
      refine pu_l (As := [.long v4, .long (f_M_divide_JJ x0 v4)]) (rest := []) ⟨hx, hb, hml, hown, hts⟩ (c_M_add_JJ l _ t0 t1 t2 v4 (f_M_divide_JJ x0 v4)) (pr_pre hRT) (gw_call (k := 2) hts tw_611 tw_612 tw_4 tw_613 (by decide +kernel) rfl rfl ⟨Nat.le_of_ble_eq_true rfl, Nat.le_of_ble_eq_true rfl⟩) rfl hl.1 rfl (Nat.le_of_ble_eq_true rfl) ⟨Nat.zero_le _, Nat.zero_le _⟩ d_M_root_J_42 ?_
      refine lv_ldc2 (v := (4611686018427387904 : Int64)) hx hb hown (hts _ (gm tw_630)) d_M_root_J_45 ?_
      refine pu_l (As := [.long (f_M_add_JJ v4 (f_M_divide_JJ x0 v4)), .long (4611686018427387904 : Int64)]) (rest := []) ⟨hx, hb, hml, hown, hts⟩ (c_M_divide_JJ l _ t0 t1 t2 (f_M_add_JJ v4 (f_M_divide_JJ x0 v4)) (4611686018427387904 : Int64)) (pr_pre hRT) (gw_call (k := 2) hts tw_624 tw_625 tw_4 tw_626 (by decide +kernel) rfl rfl ⟨Nat.le_of_ble_eq_true rfl, Nat.le_of_ble_eq_true rfl⟩) rfl hl.1 rfl (Nat.le_of_ble_eq_true rfl) ⟨Nat.zero_le _, Nat.zero_le _⟩ d_M_root_J_48 ?_
      refine lv_topl (fun v5 e5 => ?_)
      refine lv_lstore_n (lv' := [(2, .long v5), (4, .int (1 : Int32)), (0, .long x0)]) hx hb d_M_root_J_51 rfl hl (by decide) rfl (fun ls hl => ?_)
      refine lv_iinc (v := (2 : Int32)) (lv' := [(4, .int (2 : Int32)), (2, .long v5), (0, .long x0)]) hx hb d_M_root_J_52 hl (k := 1) rfl (by decide) (by decide) rfl (fun ls hl => ?_)
      refine lv_goto (tgt := 30) hx hb d_M_root_J_55 (by decide) ?_
      refine lv_iload hx hb d_M_root_J_30 (lv_at hl 0 rfl) ?_
      refine lv_iconst (v := 5) hx hb d_M_root_J_32 (by decide) ?_
      refine lv_icmp_ge (tgt := 58) hx hb d_M_root_J_33 (by decide) (fun c0 => absurd c0 (by decide)) (fun _ => ?_)
      refine lv_lload_n hx hb d_M_root_J_36 rfl (lv_at hl 1 rfl) ?_
      refine lv_lload_n hx hb d_M_root_J_37 rfl (lv_at hl 2 rfl) ?_
      refine lv_lload_n hx hb d_M_root_J_38 rfl (lv_at hl 1 rfl) ?_
      refine pu_l (As := [.long x0, .long v5]) (rest := [.long v5]) ⟨hx, hb, hml, hown, hts⟩ (c_M_divide_JJ l _ t0 t1 t2 x0 v5) (pr_pre hRT) (gw_call (k := 2) hts tw_624 tw_625 tw_4 tw_626 (by decide +kernel) rfl rfl ⟨Nat.le_of_ble_eq_true rfl, Nat.le_of_ble_eq_true rfl⟩) rfl hl.1 rfl (Nat.le_of_ble_eq_true rfl) ⟨Nat.zero_le _, Nat.zero_le _⟩ d_M_root_J_39 ?_
      refine pu_l (As := [.long v5, .long (f_M_divide_JJ x0 v5)]) (rest := []) ⟨hx, hb, hml, hown, hts⟩ (c_M_add_JJ l _ t0 t1 t2 v5 (f_M_divide_JJ x0 v5)) (pr_pre hRT) (gw_call (k := 2) hts tw_611 tw_612 tw_4 tw_613 (by decide +kernel) rfl rfl ⟨Nat.le_of_ble_eq_true rfl, Nat.le_of_ble_eq_true rfl⟩) rfl hl.1 rfl (Nat.le_of_ble_eq_true rfl) ⟨Nat.zero_le _, Nat.zero_le _⟩ d_M_root_J_42 ?_
      refine lv_ldc2 (v := (4611686018427387904 : Int64)) hx hb hown (hts _ (gm tw_630)) d_M_root_J_45 ?_
      refine pu_l (As := [.long (f_M_add_JJ v5 (f_M_divide_JJ x0 v5)), .long (4611686018427387904 : Int64)]) (rest := []) ⟨hx, hb, hml, hown, hts⟩ (c_M_divide_JJ l _ t0 t1 t2 (f_M_add_JJ v5 (f_M_divide_JJ x0 v5)) (4611686018427387904 : Int64)) (pr_pre hRT) (gw_call (k := 2) hts tw_624 tw_625 tw_4 tw_626 (by decide +kernel) rfl rfl ⟨Nat.le_of_ble_eq_true rfl, Nat.le_of_ble_eq_true rfl⟩) rfl hl.1 rfl (Nat.le_of_ble_eq_true rfl) ⟨Nat.zero_le _, Nat.zero_le _⟩ d_M_root_J_48 ?_
      refine lv_topl (fun v6 e6 => ?_)
      refine lv_lstore_n (lv' := [(2, .long v6), (4, .int (2 : Int32)), (0, .long x0)]) hx hb d_M_root_J_51 rfl hl (by decide) rfl (fun ls hl => ?_)
      refine lv_iinc (v := (3 : Int32)) (lv' := [(4, .int (3 : Int32)), (2, .long v6), (0, .long x0)]) hx hb d_M_root_J_52 hl (k := 1) rfl (by decide) (by decide) rfl (fun ls hl => ?_)
      refine lv_goto (tgt := 30) hx hb d_M_root_J_55 (by decide) ?_
      refine lv_iload hx hb d_M_root_J_30 (lv_at hl 0 rfl) ?_
      refine lv_iconst (v := 5) hx hb d_M_root_J_32 (by decide) ?_
      refine lv_icmp_ge (tgt := 58) hx hb d_M_root_J_33 (by decide) (fun c0 => absurd c0 (by decide)) (fun _ => ?_)
      refine lv_lload_n hx hb d_M_root_J_36 rfl (lv_at hl 1 rfl) ?_
      refine lv_lload_n hx hb d_M_root_J_37 rfl (lv_at hl 2 rfl) ?_
      refine lv_lload_n hx hb d_M_root_J_38 rfl (lv_at hl 1 rfl) ?_
      refine pu_l (As := [.long x0, .long v6]) (rest := [.long v6]) ⟨hx, hb, hml, hown, hts⟩ (c_M_divide_JJ l _ t0 t1 t2 x0 v6) (pr_pre hRT) (gw_call (k := 2) hts tw_624 tw_625 tw_4 tw_626 (by decide +kernel) rfl rfl ⟨Nat.le_of_ble_eq_true rfl, Nat.le_of_ble_eq_true rfl⟩) rfl hl.1 rfl (Nat.le_of_ble_eq_true rfl) ⟨Nat.zero_le _, Nat.zero_le _⟩ d_M_root_J_39 ?_
      refine pu_l (As := [.long v6, .long (f_M_divide_JJ x0 v6)]) (rest := []) ⟨hx, hb, hml, hown, hts⟩ (c_M_add_JJ l _ t0 t1 t2 v6 (f_M_divide_JJ x0 v6)) (pr_pre hRT) (gw_call (k := 2) hts tw_611 tw_612 tw_4 tw_613 (by decide +kernel) rfl rfl ⟨Nat.le_of_ble_eq_true rfl, Nat.le_of_ble_eq_true rfl⟩) rfl hl.1 rfl (Nat.le_of_ble_eq_true rfl) ⟨Nat.zero_le _, Nat.zero_le _⟩ d_M_root_J_42 ?_
      refine lv_ldc2 (v := (4611686018427387904 : Int64)) hx hb hown (hts _ (gm tw_630)) d_M_root_J_45 ?_
      refine pu_l (As := [.long (f_M_add_JJ v6 (f_M_divide_JJ x0 v6)), .long (4611686018427387904 : Int64)]) (rest := []) ⟨hx, hb, hml, hown, hts⟩ (c_M_divide_JJ l _ t0 t1 t2 (f_M_add_JJ v6 (f_M_divide_JJ x0 v6)) (4611686018427387904 : Int64)) (pr_pre hRT) (gw_call (k := 2) hts tw_624 tw_625 tw_4 tw_626 (by decide +kernel) rfl rfl ⟨Nat.le_of_ble_eq_true rfl, Nat.le_of_ble_eq_true rfl⟩) rfl hl.1 rfl (Nat.le_of_ble_eq_true rfl) ⟨Nat.zero_le _, Nat.zero_le _⟩ d_M_root_J_48 ?_
      refine lv_topl (fun v7 e7 => ?_)
      refine lv_lstore_n (lv' := [(2, .long v7), (4, .int (3 : Int32)), (0, .long x0)]) hx hb d_M_root_J_51 rfl hl (by decide) rfl (fun ls hl => ?_)
      refine lv_iinc (v := (4 : Int32)) (lv' := [(4, .int (4 : Int32)), (2, .long v7), (0, .long x0)]) hx hb d_M_root_J_52 hl (k := 1) rfl (by decide) (by decide) rfl (fun ls hl => ?_)
      refine lv_goto (tgt := 30) hx hb d_M_root_J_55 (by decide) ?_
      refine lv_iload hx hb d_M_root_J_30 (lv_at hl 0 rfl) ?_
      refine lv_iconst (v := 5) hx hb d_M_root_J_32 (by decide) ?_
      refine lv_icmp_ge (tgt := 58) hx hb d_M_root_J_33 (by decide) (fun c0 => absurd c0 (by decide)) (fun _ => ?_)
      refine lv_lload_n hx hb d_M_root_J_36 rfl (lv_at hl 1 rfl) ?_
      refine lv_lload_n hx hb d_M_root_J_37 rfl (lv_at hl 2 rfl) ?_
      refine lv_lload_n hx hb d_M_root_J_38 rfl (lv_at hl 1 rfl) ?_
      refine pu_l (As := [.long x0, .long v7]) (rest := [.long v7]) ⟨hx, hb, hml, hown, hts⟩ (c_M_divide_JJ l _ t0 t1 t2 x0 v7) (pr_pre hRT) (gw_call (k := 2) hts tw_624 tw_625 tw_4 tw_626 (by decide +kernel) rfl rfl ⟨Nat.le_of_ble_eq_true rfl, Nat.le_of_ble_eq_true rfl⟩) rfl hl.1 rfl (Nat.le_of_ble_eq_true rfl) ⟨Nat.zero_le _, Nat.zero_le _⟩ d_M_root_J_39 ?_
      refine pu_l (As := [.long v7, .long (f_M_divide_JJ x0 v7)]) (rest := []) ⟨hx, hb, hml, hown, hts⟩ (c_M_add_JJ l _ t0 t1 t2 v7 (f_M_divide_JJ x0 v7)) (pr_pre hRT) (gw_call (k := 2) hts tw_611 tw_612 tw_4 tw_613 (by decide +kernel) rfl rfl ⟨Nat.le_of_ble_eq_true rfl, Nat.le_of_ble_eq_true rfl⟩) rfl hl.1 rfl (Nat.le_of_ble_eq_true rfl) ⟨Nat.zero_le _, Nat.zero_le _⟩ d_M_root_J_42 ?_
      refine lv_ldc2 (v := (4611686018427387904 : Int64)) hx hb hown (hts _ (gm tw_630)) d_M_root_J_45 ?_
      refine pu_l (As := [.long (f_M_add_JJ v7 (f_M_divide_JJ x0 v7)), .long (4611686018427387904 : Int64)]) (rest := []) ⟨hx, hb, hml, hown, hts⟩ (c_M_divide_JJ l _ t0 t1 t2 (f_M_add_JJ v7 (f_M_divide_JJ x0 v7)) (4611686018427387904 : Int64)) (pr_pre hRT) (gw_call (k := 2) hts tw_624 tw_625 tw_4 tw_626 (by decide +kernel) rfl rfl ⟨Nat.le_of_ble_eq_true rfl, Nat.le_of_ble_eq_true rfl⟩) rfl hl.1 rfl (Nat.le_of_ble_eq_true rfl) ⟨Nat.zero_le _, Nat.zero_le _⟩ d_M_root_J_48 ?_
      refine lv_topl (fun v8 e8 => ?_)
      refine lv_lstore_n (lv' := [(2, .long v8), (4, .int (4 : Int32)), (0, .long x0)]) hx hb d_M_root_J_51 rfl hl (by decide) rfl (fun ls hl => ?_)
      refine lv_iinc (v := (5 : Int32)) (lv' := [(4, .int (5 : Int32)), (2, .long v8), (0, .long x0)]) hx hb d_M_root_J_52 hl (k := 1) rfl (by decide) (by decide) rfl (fun ls hl => ?_)
      refine lv_goto (tgt := 30) hx hb d_M_root_J_55 (by decide) ?_
      refine lv_iload hx hb d_M_root_J_30 (lv_at hl 0 rfl) ?_
      refine lv_iconst (v := 5) hx hb d_M_root_J_32 (by decide) ?_
      refine lv_icmp_ge (tgt := 58) hx hb d_M_root_J_33 (by decide) (fun _ => ?_) (fun c0 => absurd c0 (by decide))
      refine lv_lload_n hx hb d_M_root_J_58 rfl (lv_at hl 1 rfl) ?_
      exact pu_lret hx hb hr hlocks d_M_root_J_59 (by have qe3 := e3.symm; have qe4 := e4.symm; have qe5 := e5.symm; have qe6 := e6.symm; have qe7 := e7.symm; have qe8 := e8.symm; subst qe3 qe4 qe5 qe6 qe7 qe8; exact Eq.symm (Eq.trans (if_pos c1) (if_pos c2)))
    · refine lv_lload_n hx hb d_M_root_J_17 rfl (lv_at hl 0 rfl) ?_
      exact pu_lret hx hb hr hlocks d_M_root_J_18 (by exact Eq.symm (Eq.trans (if_pos c1) (if_neg c2)))
end
section
-- ===== MotionLabModel.told(J)J
abbrev y_M_told_J : MethodName := ⟨"MotionLabModel", "told", "(J)J"⟩
abbrev b_M_told_J : ByteArray := prog_6_method_25_code
theorem d_M_told_J_0 : decode b_M_told_J 0 = .ok (.lload_n 0, 1) := by decide +kernel
theorem d_M_told_J_1 : decode b_M_told_J 1 = .ok (.iconst 0, 1) := by decide +kernel
theorem d_M_told_J_2 : decode b_M_told_J 2 = .ok (.invokestatic 56, 3) := by decide +kernel
theorem d_M_told_J_5 : decode b_M_told_J 5 = .ok (.ifCond .eq 9, 3) := by decide +kernel
theorem d_M_told_J_8 : decode b_M_told_J 8 = .ok (.ldc2_w 11, 3) := by decide +kernel
theorem d_M_told_J_11 : decode b_M_told_J 11 = .ok (.goto 4, 3) := by decide +kernel
theorem d_M_told_J_14 : decode b_M_told_J 14 = .ok (.lload_n 0, 1) := by decide +kernel
theorem d_M_told_J_15 : decode b_M_told_J 15 = .ok (.lreturn, 1) := by decide +kernel
def f_M_told_J (x0 : Int64) : Int64 :=
  if (f_M_isNone_JI x0 (0 : Int32)) = 0 then
    x0
  else
    (9221120237041090560 : Int64)
set_option maxHeartbeats 4000000 in
set_option maxRecDepth 100000 in
theorem c_M_told_J (l : Launch) (h : Heap) (x0 : Int64) : Met l y_M_told_J (gw y_M_told_J b_M_told_J 2 (some .long)) { frames := 3, cells := 0, slots := 0, locals := 64 } (pu_Pc [.long x0] h) (pu_Ml (f_M_told_J x0) h) 0 0 (fun _ => False) := by
  refine Met.ofW (cc := b_M_told_J) (maxL := 2) (ret := (some .long)) (by decide) rfl ?_
  intro p e s m args below meth c s₁ B hml hv
  obtain ⟨rfl, hh⟩ := hv
  subst hh
  have hx := B.exec
  have hb := B.bytes
  have hr := B.returns
  have hts := atoms_spec (ws := (gw y_M_told_J b_M_told_J 2 (some .long))) B.pre
  have hown : s.vm.findClass "MotionLabModel" = some m.cls := findClass_of_methodNamed B.named
  have hlocks := B.notSynchronized
  have C0 : pu_C p s m _ meth c b_M_told_J 2 "MotionLabModel" (some .long) (gw y_M_told_J b_M_told_J 2 (some .long)) := ⟨hx, hb, hml, hown, hts, hr, hlocks⟩
  have hl := lv_entry ([.long x0]) (n := 2) (Nat.le_of_ble_eq_true rfl)
  rw [lg_entry_eq]
  generalize (lg_sl ([.long x0]) ++ List.replicate (2 - (lg_sl ([.long x0])).length) Slot.unset).toArray = ls at hl ⊢
  have hl : lv_has ls 2 [(0, .long x0)] := hl
  refine lv_lload_n hx hb d_M_told_J_0 rfl (lv_at hl 0 rfl) ?_
  refine lv_iconst (v := 0) hx hb d_M_told_J_1 (by decide) ?_
  refine pu_i (As := [.long x0, .int (0 : Int32)]) (rest := []) ⟨hx, hb, hml, hown, hts⟩ (c_M_isNone_JI l _ x0 (0 : Int32)) pu_pre (gw_call (k := 2) hts tw_498 tw_499 tw_4 tw_500 (by decide +kernel) rfl rfl ⟨Nat.le_of_ble_eq_true rfl, Nat.le_of_ble_eq_true rfl⟩) rfl hl.1 rfl (Nat.le_of_ble_eq_true rfl) ⟨Nat.zero_le _, Nat.zero_le _⟩ d_M_told_J_2 ?_
  refine lv_if_eq (tgt := 14) hx hb d_M_told_J_5 (by decide) (fun c1 => ?_) (fun c1 => ?_)
  · refine lv_lload_n hx hb d_M_told_J_14 rfl (lv_at hl 0 rfl) ?_
    exact pu_lret hx hb hr hlocks d_M_told_J_15 (by exact Eq.symm (if_pos c1))
  · refine lv_ldc2 (v := (9221120237041090560 : Int64)) hx hb hown (hts _ (gm tw_514)) d_M_told_J_8 ?_
    refine lv_goto (tgt := 15) hx hb d_M_told_J_11 (by decide) ?_
    exact pu_lret hx hb hr hlocks d_M_told_J_15 (by exact Eq.symm (if_neg c1))
-- ===== MotionLabModel.end(JJZ)J
abbrev y_M_end_JJZ : MethodName := ⟨"MotionLabModel", "end", "(JJZ)J"⟩
abbrev b_M_end_JJZ : ByteArray := prog_6_method_49_code
theorem d_M_end_JJZ_0 : decode b_M_end_JJZ 0 = .ok (.lload_n 0, 1) := by decide +kernel
theorem d_M_end_JJZ_1 : decode b_M_end_JJZ 1 = .ok (.lload_n 2, 1) := by decide +kernel
theorem d_M_end_JJZ_2 : decode b_M_end_JJZ 2 = .ok (.invokestatic 116, 3) := by decide +kernel
theorem d_M_end_JJZ_5 : decode b_M_end_JJZ 5 = .ok (.istore 5, 2) := by decide +kernel
theorem d_M_end_JJZ_7 : decode b_M_end_JJZ 7 = .ok (.iload 5, 2) := by decide +kernel
theorem d_M_end_JJZ_9 : decode b_M_end_JJZ 9 = .ok (.iconst 2, 1) := by decide +kernel
theorem d_M_end_JJZ_10 : decode b_M_end_JJZ 10 = .ok (.if_icmp .ne 7, 3) := by decide +kernel
theorem d_M_end_JJZ_13 : decode b_M_end_JJZ 13 = .ok (.ldc2_w 11, 3) := by decide +kernel
theorem d_M_end_JJZ_16 : decode b_M_end_JJZ 16 = .ok (.lreturn, 1) := by decide +kernel
theorem d_M_end_JJZ_17 : decode b_M_end_JJZ 17 = .ok (.iload 5, 2) := by decide +kernel
theorem d_M_end_JJZ_19 : decode b_M_end_JJZ 19 = .ok (.ifCond .ne 19, 3) := by decide +kernel
theorem d_M_end_JJZ_22 : decode b_M_end_JJZ 22 = .ok (.lload_n 0, 1) := by decide +kernel
theorem d_M_end_JJZ_23 : decode b_M_end_JJZ 23 = .ok (.iconst 0, 1) := by decide +kernel
theorem d_M_end_JJZ_24 : decode b_M_end_JJZ 24 = .ok (.invokestatic 76, 3) := by decide +kernel
theorem d_M_end_JJZ_27 : decode b_M_end_JJZ 27 = .ok (.iload 4, 2) := by decide +kernel
theorem d_M_end_JJZ_29 : decode b_M_end_JJZ 29 = .ok (.if_icmp .eq 7, 3) := by decide +kernel
theorem d_M_end_JJZ_32 : decode b_M_end_JJZ 32 = .ok (.lload_n 0, 1) := by decide +kernel
theorem d_M_end_JJZ_33 : decode b_M_end_JJZ 33 = .ok (.goto 4, 3) := by decide +kernel
theorem d_M_end_JJZ_36 : decode b_M_end_JJZ 36 = .ok (.lload_n 2, 1) := by decide +kernel
theorem d_M_end_JJZ_37 : decode b_M_end_JJZ 37 = .ok (.lreturn, 1) := by decide +kernel
theorem d_M_end_JJZ_38 : decode b_M_end_JJZ 38 = .ok (.iload 5, 2) := by decide +kernel
theorem d_M_end_JJZ_40 : decode b_M_end_JJZ 40 = .ok (.ifCond .ge 7, 3) := by decide +kernel
theorem d_M_end_JJZ_43 : decode b_M_end_JJZ 43 = .ok (.iconst 1, 1) := by decide +kernel
theorem d_M_end_JJZ_44 : decode b_M_end_JJZ 44 = .ok (.goto 4, 3) := by decide +kernel
theorem d_M_end_JJZ_47 : decode b_M_end_JJZ 47 = .ok (.iconst 0, 1) := by decide +kernel
theorem d_M_end_JJZ_48 : decode b_M_end_JJZ 48 = .ok (.iload 4, 2) := by decide +kernel
theorem d_M_end_JJZ_50 : decode b_M_end_JJZ 50 = .ok (.if_icmp .eq 7, 3) := by decide +kernel
theorem d_M_end_JJZ_53 : decode b_M_end_JJZ 53 = .ok (.lload_n 0, 1) := by decide +kernel
theorem d_M_end_JJZ_54 : decode b_M_end_JJZ 54 = .ok (.goto 4, 3) := by decide +kernel
theorem d_M_end_JJZ_57 : decode b_M_end_JJZ 57 = .ok (.lload_n 2, 1) := by decide +kernel
theorem d_M_end_JJZ_58 : decode b_M_end_JJZ 58 = .ok (.lreturn, 1) := by decide +kernel
def f_M_end_JJZ (x0 : Int64) (x2 : Int64) (x4 : Int32) : Int64 :=
  let v1 : Int32 := f_M_order_JJ x0 x2
  if v1 = (2 : Int32) then
    (9221120237041090560 : Int64)
  else
    if v1 = 0 then
      if (f_M_minus_JI x0 (0 : Int32)) = x4 then
        x2
      else
        x0
    else
      if 0 ≤ v1 then
        if (0 : Int32) = x4 then
          x2
        else
          x0
      else
        if (1 : Int32) = x4 then
          x2
        else
          x0
set_option maxHeartbeats 4000000 in
set_option maxRecDepth 100000 in
theorem c_M_end_JJZ (l : Launch) (h : Heap) (x0 : Int64) (x2 : Int64) (x4 : Int32) : Met l y_M_end_JJZ (gw y_M_end_JJZ b_M_end_JJZ 6 (some .long)) { frames := 4, cells := 0, slots := 0, locals := 91 } (pu_Pc [.long x0, .long x2, .int x4] h) (pu_Ml (f_M_end_JJZ x0 x2 x4) h) 0 0 (fun _ => False) := by
  refine Met.ofW (cc := b_M_end_JJZ) (maxL := 6) (ret := (some .long)) (by decide) rfl ?_
  intro p e s m args below meth c s₁ B hml hv
  obtain ⟨rfl, hh⟩ := hv
  subst hh
  have hx := B.exec
  have hb := B.bytes
  have hr := B.returns
  have hts := atoms_spec (ws := (gw y_M_end_JJZ b_M_end_JJZ 6 (some .long))) B.pre
  have hown : s.vm.findClass "MotionLabModel" = some m.cls := findClass_of_methodNamed B.named
  have hlocks := B.notSynchronized
  have C0 : pu_C p s m _ meth c b_M_end_JJZ 6 "MotionLabModel" (some .long) (gw y_M_end_JJZ b_M_end_JJZ 6 (some .long)) := ⟨hx, hb, hml, hown, hts, hr, hlocks⟩
  have hl := lv_entry ([.long x0, .long x2, .int x4]) (n := 6) (Nat.le_of_ble_eq_true rfl)
  rw [lg_entry_eq]
  generalize (lg_sl ([.long x0, .long x2, .int x4]) ++ List.replicate (6 - (lg_sl ([.long x0, .long x2, .int x4])).length) Slot.unset).toArray = ls at hl ⊢
  have hl : lv_has ls 6 [(0, .long x0), (2, .long x2), (4, .int x4)] := hl
  refine lv_lload_n hx hb d_M_end_JJZ_0 rfl (lv_at hl 0 rfl) ?_
  refine lv_lload_n hx hb d_M_end_JJZ_1 rfl (lv_at hl 1 rfl) ?_
  refine pu_i (As := [.long x0, .long x2]) (rest := []) ⟨hx, hb, hml, hown, hts⟩ (c_M_order_JJ l _ x0 x2) pu_pre (gw_call (k := 2) hts tw_617 tw_618 tw_4 tw_619 (by decide +kernel) rfl rfl ⟨Nat.le_of_ble_eq_true rfl, Nat.le_of_ble_eq_true rfl⟩) rfl hl.1 rfl (Nat.le_of_ble_eq_true rfl) ⟨Nat.zero_le _, Nat.zero_le _⟩ d_M_end_JJZ_2 ?_
  refine lv_topi (fun v1 e1 => ?_)
  refine lv_istore (lv' := [(5, .int v1), (0, .long x0), (2, .long x2), (4, .int x4)]) hx hb d_M_end_JJZ_5 hl (by decide) rfl (fun ls hl => ?_)
  refine lv_iload hx hb d_M_end_JJZ_7 (lv_at hl 0 rfl) ?_
  refine lv_iconst (v := 2) hx hb d_M_end_JJZ_9 (by decide) ?_
  refine lv_icmp_ne (tgt := 17) hx hb d_M_end_JJZ_10 (by decide) (fun c2 => ?_) (fun c2 => ?_)
  · refine lv_iload hx hb d_M_end_JJZ_17 (lv_at hl 0 rfl) ?_
    refine lv_if_ne (tgt := 38) hx hb d_M_end_JJZ_19 (by decide) (fun c3 => ?_) (fun c3 => ?_)
    · refine lv_iload hx hb d_M_end_JJZ_38 (lv_at hl 0 rfl) ?_
      refine lv_if_ge (tgt := 47) hx hb d_M_end_JJZ_40 (by decide) (fun c4 => ?_) (fun c4 => ?_)
      · refine lv_iconst (v := 0) hx hb d_M_end_JJZ_47 (by decide) ?_
        refine lv_iload hx hb d_M_end_JJZ_48 (lv_at hl 3 rfl) ?_
        refine lv_icmp_eq (tgt := 57) hx hb d_M_end_JJZ_50 (by decide) (fun c5 => ?_) (fun c5 => ?_)
        · refine lv_lload_n hx hb d_M_end_JJZ_57 rfl (lv_at hl 2 rfl) ?_
          exact pu_lret hx hb hr hlocks d_M_end_JJZ_58 (by have qe1 := e1.symm; subst qe1; exact Eq.symm (Eq.trans (if_neg c2) (Eq.trans (if_neg c3) (Eq.trans (if_pos c4) (if_pos c5)))))
        · refine lv_lload_n hx hb d_M_end_JJZ_53 rfl (lv_at hl 1 rfl) ?_
          refine lv_goto (tgt := 58) hx hb d_M_end_JJZ_54 (by decide) ?_
          exact pu_lret hx hb hr hlocks d_M_end_JJZ_58 (by have qe1 := e1.symm; subst qe1; exact Eq.symm (Eq.trans (if_neg c2) (Eq.trans (if_neg c3) (Eq.trans (if_pos c4) (if_neg c5)))))
      · refine lv_iconst (v := 1) hx hb d_M_end_JJZ_43 (by decide) ?_
        refine lv_goto (tgt := 48) hx hb d_M_end_JJZ_44 (by decide) ?_
        refine lv_iload hx hb d_M_end_JJZ_48 (lv_at hl 3 rfl) ?_
        refine lv_icmp_eq (tgt := 57) hx hb d_M_end_JJZ_50 (by decide) (fun c6 => ?_) (fun c6 => ?_)
        · refine lv_lload_n hx hb d_M_end_JJZ_57 rfl (lv_at hl 2 rfl) ?_
          exact pu_lret hx hb hr hlocks d_M_end_JJZ_58 (by have qe1 := e1.symm; subst qe1; exact Eq.symm (Eq.trans (if_neg c2) (Eq.trans (if_neg c3) (Eq.trans (if_neg c4) (if_pos c6)))))
        · refine lv_lload_n hx hb d_M_end_JJZ_53 rfl (lv_at hl 1 rfl) ?_
          refine lv_goto (tgt := 58) hx hb d_M_end_JJZ_54 (by decide) ?_
          exact pu_lret hx hb hr hlocks d_M_end_JJZ_58 (by have qe1 := e1.symm; subst qe1; exact Eq.symm (Eq.trans (if_neg c2) (Eq.trans (if_neg c3) (Eq.trans (if_neg c4) (if_neg c6)))))
    · refine lv_lload_n hx hb d_M_end_JJZ_22 rfl (lv_at hl 1 rfl) ?_
      refine lv_iconst (v := 0) hx hb d_M_end_JJZ_23 (by decide) ?_
      refine pu_i (As := [.long x0, .int (0 : Int32)]) (rest := []) ⟨hx, hb, hml, hown, hts⟩ (c_M_minus_JI l _ x0 (0 : Int32)) pu_pre (gw_call (k := 2) hts tw_519 tw_520 tw_4 tw_521 (by decide +kernel) rfl rfl ⟨Nat.le_of_ble_eq_true rfl, Nat.le_of_ble_eq_true rfl⟩) rfl hl.1 rfl (Nat.le_of_ble_eq_true rfl) ⟨Nat.zero_le _, Nat.zero_le _⟩ d_M_end_JJZ_24 ?_
      refine lv_iload hx hb d_M_end_JJZ_27 (lv_at hl 3 rfl) ?_
      refine lv_icmp_eq (tgt := 36) hx hb d_M_end_JJZ_29 (by decide) (fun c7 => ?_) (fun c7 => ?_)
      · refine lv_lload_n hx hb d_M_end_JJZ_36 rfl (lv_at hl 2 rfl) ?_
        exact pu_lret hx hb hr hlocks d_M_end_JJZ_37 (by have qe1 := e1.symm; subst qe1; exact Eq.symm (Eq.trans (if_neg c2) (Eq.trans (if_pos c3) (if_pos c7))))
      · refine lv_lload_n hx hb d_M_end_JJZ_32 rfl (lv_at hl 1 rfl) ?_
        refine lv_goto (tgt := 37) hx hb d_M_end_JJZ_33 (by decide) ?_
        exact pu_lret hx hb hr hlocks d_M_end_JJZ_37 (by have qe1 := e1.symm; subst qe1; exact Eq.symm (Eq.trans (if_neg c2) (Eq.trans (if_pos c3) (if_neg c7))))
  · refine lv_ldc2 (v := (9221120237041090560 : Int64)) hx hb hown (hts _ (gm tw_514)) d_M_end_JJZ_13 ?_
    exact pu_lret hx hb hr hlocks d_M_end_JJZ_16 (by have qe1 := e1.symm; subst qe1; exact Eq.symm (if_pos c2))
-- ===== MotionLabModel.cutTo(JJJ)J
abbrev y_M_cutTo_JJJ : MethodName := ⟨"MotionLabModel", "cutTo", "(JJJ)J"⟩
abbrev b_M_cutTo_JJJ : ByteArray := prog_6_method_53_code
theorem d_M_cutTo_JJJ_0 : decode b_M_cutTo_JJJ 0 = .ok (.lload_n 0, 1) := by decide +kernel
theorem d_M_cutTo_JJJ_1 : decode b_M_cutTo_JJJ 1 = .ok (.iconst 0, 1) := by decide +kernel
theorem d_M_cutTo_JJJ_2 : decode b_M_cutTo_JJJ 2 = .ok (.invokestatic 56, 3) := by decide +kernel
theorem d_M_cutTo_JJJ_5 : decode b_M_cutTo_JJJ 5 = .ok (.ifCond .eq 5, 3) := by decide +kernel
theorem d_M_cutTo_JJJ_8 : decode b_M_cutTo_JJJ 8 = .ok (.lconst 0, 1) := by decide +kernel
theorem d_M_cutTo_JJJ_9 : decode b_M_cutTo_JJJ 9 = .ok (.lreturn, 1) := by decide +kernel
theorem d_M_cutTo_JJJ_10 : decode b_M_cutTo_JJJ 10 = .ok (.lload_n 0, 1) := by decide +kernel
theorem d_M_cutTo_JJJ_11 : decode b_M_cutTo_JJJ 11 = .ok (.iconst 0, 1) := by decide +kernel
theorem d_M_cutTo_JJJ_12 : decode b_M_cutTo_JJJ 12 = .ok (.invokestatic 76, 3) := by decide +kernel
theorem d_M_cutTo_JJJ_15 : decode b_M_cutTo_JJJ 15 = .ok (.istore 6, 2) := by decide +kernel
theorem d_M_cutTo_JJJ_17 : decode b_M_cutTo_JJJ 17 = .ok (.iload 6, 2) := by decide +kernel
theorem d_M_cutTo_JJJ_19 : decode b_M_cutTo_JJJ 19 = .ok (.ifCond .eq 7, 3) := by decide +kernel
theorem d_M_cutTo_JJJ_22 : decode b_M_cutTo_JJJ 22 = .ok (.lload_n 2, 1) := by decide +kernel
theorem d_M_cutTo_JJJ_23 : decode b_M_cutTo_JJJ 23 = .ok (.goto 5, 3) := by decide +kernel
theorem d_M_cutTo_JJJ_26 : decode b_M_cutTo_JJJ 26 = .ok (.lload 4, 2) := by decide +kernel
theorem d_M_cutTo_JJJ_28 : decode b_M_cutTo_JJJ 28 = .ok (.lstore 7, 2) := by decide +kernel
theorem d_M_cutTo_JJJ_30 : decode b_M_cutTo_JJJ 30 = .ok (.lload_n 0, 1) := by decide +kernel
theorem d_M_cutTo_JJJ_31 : decode b_M_cutTo_JJJ 31 = .ok (.iconst 0, 1) := by decide +kernel
theorem d_M_cutTo_JJJ_32 : decode b_M_cutTo_JJJ 32 = .ok (.invokestatic 63, 3) := by decide +kernel
theorem d_M_cutTo_JJJ_35 : decode b_M_cutTo_JJJ 35 = .ok (.ifCond .eq 6, 3) := by decide +kernel
theorem d_M_cutTo_JJJ_38 : decode b_M_cutTo_JJJ 38 = .ok (.lload 7, 2) := by decide +kernel
theorem d_M_cutTo_JJJ_40 : decode b_M_cutTo_JJJ 40 = .ok (.lreturn, 1) := by decide +kernel
theorem d_M_cutTo_JJJ_41 : decode b_M_cutTo_JJJ 41 = .ok (.lload_n 0, 1) := by decide +kernel
theorem d_M_cutTo_JJJ_42 : decode b_M_cutTo_JJJ 42 = .ok (.iconst 0, 1) := by decide +kernel
theorem d_M_cutTo_JJJ_43 : decode b_M_cutTo_JJJ 43 = .ok (.invokestatic 73, 3) := by decide +kernel
theorem d_M_cutTo_JJJ_46 : decode b_M_cutTo_JJJ 46 = .ok (.lstore 9, 2) := by decide +kernel
theorem d_M_cutTo_JJJ_48 : decode b_M_cutTo_JJJ 48 = .ok (.lload_n 0, 1) := by decide +kernel
theorem d_M_cutTo_JJJ_49 : decode b_M_cutTo_JJJ 49 = .ok (.iconst 0, 1) := by decide +kernel
theorem d_M_cutTo_JJJ_50 : decode b_M_cutTo_JJJ 50 = .ok (.invokestatic 69, 3) := by decide +kernel
theorem d_M_cutTo_JJJ_53 : decode b_M_cutTo_JJJ 53 = .ok (.istore 11, 2) := by decide +kernel
theorem d_M_cutTo_JJJ_55 : decode b_M_cutTo_JJJ 55 = .ok (.iload 11, 2) := by decide +kernel
theorem d_M_cutTo_JJJ_57 : decode b_M_cutTo_JJJ 57 = .ok (.bipush 10, 2) := by decide +kernel
theorem d_M_cutTo_JJJ_59 : decode b_M_cutTo_JJJ 59 = .ok (.if_icmp .le 13, 3) := by decide +kernel
theorem d_M_cutTo_JJJ_62 : decode b_M_cutTo_JJJ 62 = .ok (.lload 9, 2) := by decide +kernel
theorem d_M_cutTo_JJJ_64 : decode b_M_cutTo_JJJ 64 = .ok (.lconst 0, 1) := by decide +kernel
theorem d_M_cutTo_JJJ_65 : decode b_M_cutTo_JJJ 65 = .ok (.lcmp, 1) := by decide +kernel
theorem d_M_cutTo_JJJ_66 : decode b_M_cutTo_JJJ 66 = .ok (.ifCond .eq 6, 3) := by decide +kernel
theorem d_M_cutTo_JJJ_69 : decode b_M_cutTo_JJJ 69 = .ok (.lload 7, 2) := by decide +kernel
theorem d_M_cutTo_JJJ_71 : decode b_M_cutTo_JJJ 71 = .ok (.lreturn, 1) := by decide +kernel
theorem d_M_cutTo_JJJ_72 : decode b_M_cutTo_JJJ 72 = .ok (.iload 11, 2) := by decide +kernel
theorem d_M_cutTo_JJJ_74 : decode b_M_cutTo_JJJ 74 = .ok (.ifCond .lt 11, 3) := by decide +kernel
theorem d_M_cutTo_JJJ_77 : decode b_M_cutTo_JJJ 77 = .ok (.lload 9, 2) := by decide +kernel
theorem d_M_cutTo_JJJ_79 : decode b_M_cutTo_JJJ 79 = .ok (.iload 11, 2) := by decide +kernel
theorem d_M_cutTo_JJJ_81 : decode b_M_cutTo_JJJ 81 = .ok (.lshl, 1) := by decide +kernel
theorem d_M_cutTo_JJJ_82 : decode b_M_cutTo_JJJ 82 = .ok (.goto 20, 3) := by decide +kernel
theorem d_M_cutTo_JJJ_85 : decode b_M_cutTo_JJJ 85 = .ok (.iload 11, 2) := by decide +kernel
theorem d_M_cutTo_JJJ_87 : decode b_M_cutTo_JJJ 87 = .ok (.bipush (-62), 2) := by decide +kernel
theorem d_M_cutTo_JJJ_89 : decode b_M_cutTo_JJJ 89 = .ok (.if_icmp .ge 7, 3) := by decide +kernel
theorem d_M_cutTo_JJJ_92 : decode b_M_cutTo_JJJ 92 = .ok (.lconst 0, 1) := by decide +kernel
theorem d_M_cutTo_JJJ_93 : decode b_M_cutTo_JJJ 93 = .ok (.goto 9, 3) := by decide +kernel
theorem d_M_cutTo_JJJ_96 : decode b_M_cutTo_JJJ 96 = .ok (.lload 9, 2) := by decide +kernel
theorem d_M_cutTo_JJJ_98 : decode b_M_cutTo_JJJ 98 = .ok (.iload 11, 2) := by decide +kernel
theorem d_M_cutTo_JJJ_100 : decode b_M_cutTo_JJJ 100 = .ok (.ineg, 1) := by decide +kernel
theorem d_M_cutTo_JJJ_101 : decode b_M_cutTo_JJJ 101 = .ok (.lshr, 1) := by decide +kernel
theorem d_M_cutTo_JJJ_102 : decode b_M_cutTo_JJJ 102 = .ok (.lstore 12, 2) := by decide +kernel
theorem d_M_cutTo_JJJ_104 : decode b_M_cutTo_JJJ 104 = .ok (.iload 6, 2) := by decide +kernel
theorem d_M_cutTo_JJJ_106 : decode b_M_cutTo_JJJ 106 = .ok (.ifCond .eq 19, 3) := by decide +kernel
theorem d_M_cutTo_JJJ_109 : decode b_M_cutTo_JJJ 109 = .ok (.lload 12, 2) := by decide +kernel
theorem d_M_cutTo_JJJ_111 : decode b_M_cutTo_JJJ 111 = .ok (.lneg, 1) := by decide +kernel
theorem d_M_cutTo_JJJ_112 : decode b_M_cutTo_JJJ 112 = .ok (.lload_n 2, 1) := by decide +kernel
theorem d_M_cutTo_JJJ_113 : decode b_M_cutTo_JJJ 113 = .ok (.lcmp, 1) := by decide +kernel
theorem d_M_cutTo_JJJ_114 : decode b_M_cutTo_JJJ 114 = .ok (.ifCond .ge 7, 3) := by decide +kernel
theorem d_M_cutTo_JJJ_117 : decode b_M_cutTo_JJJ 117 = .ok (.lload_n 2, 1) := by decide +kernel
theorem d_M_cutTo_JJJ_118 : decode b_M_cutTo_JJJ 118 = .ok (.goto 6, 3) := by decide +kernel
theorem d_M_cutTo_JJJ_121 : decode b_M_cutTo_JJJ 121 = .ok (.lload 12, 2) := by decide +kernel
theorem d_M_cutTo_JJJ_123 : decode b_M_cutTo_JJJ 123 = .ok (.lneg, 1) := by decide +kernel
theorem d_M_cutTo_JJJ_124 : decode b_M_cutTo_JJJ 124 = .ok (.lreturn, 1) := by decide +kernel
theorem d_M_cutTo_JJJ_125 : decode b_M_cutTo_JJJ 125 = .ok (.lload 12, 2) := by decide +kernel
theorem d_M_cutTo_JJJ_127 : decode b_M_cutTo_JJJ 127 = .ok (.lload 4, 2) := by decide +kernel
theorem d_M_cutTo_JJJ_129 : decode b_M_cutTo_JJJ 129 = .ok (.lcmp, 1) := by decide +kernel
theorem d_M_cutTo_JJJ_130 : decode b_M_cutTo_JJJ 130 = .ok (.ifCond .le 8, 3) := by decide +kernel
theorem d_M_cutTo_JJJ_133 : decode b_M_cutTo_JJJ 133 = .ok (.lload 4, 2) := by decide +kernel
theorem d_M_cutTo_JJJ_135 : decode b_M_cutTo_JJJ 135 = .ok (.goto 5, 3) := by decide +kernel
theorem d_M_cutTo_JJJ_138 : decode b_M_cutTo_JJJ 138 = .ok (.lload 12, 2) := by decide +kernel
theorem d_M_cutTo_JJJ_140 : decode b_M_cutTo_JJJ 140 = .ok (.lreturn, 1) := by decide +kernel
def f_M_cutTo_JJJ_102 (x2 : Int64) (x4 : Int64) (x6 : Int32) (s0 : Int64) : Int64 :=
  if x6 = 0 then
    if (lg_cmp s0 x4) ≤ 0 then
      s0
    else
      x4
  else
    if 0 ≤ (lg_cmp (-s0) x2) then
      -s0
    else
      x2
set_option maxHeartbeats 4000000 in
set_option maxRecDepth 100000 in
theorem k_M_cutTo_JJJ_102 {p : Program} {l : Launch} {e : Env} {s : State} {m : MethodId} {args : Array Value} {below : List Frame} {meth : Method} {c : Code} (C0 : pu_C p s m args meth c b_M_cutTo_JJJ 14 "MotionLabModel" (some .long) (gw y_M_cutTo_JJJ b_M_cutTo_JJJ 14 (some .long))) {t0 t1 t2 : Nat} (hRT : RTH t0 t1 t2 s s.heap) (x2 : Int64) (x4 : Int64) (x6 : Int32) (s0 : Int64) (ls : Array Slot) (hl : lv_has ls 14 [(2, .long x2), (4, .long x4), (6, .int x6)]) {w : Int64} (hw : w = f_M_cutTo_JJJ_102 x2 x4 x6 s0) : W p l e (headSpec (gw y_M_cutTo_JJJ b_M_cutTo_JJJ 14 (some .long)) ({ frames := 3, cells := 0, slots := 0, locals := 69 } : Room)).room s m args below meth c s.heap [] 0 0 (pu_Ql w below args s) (F0 m 102 ls [.long s0]) := by
  obtain ⟨hx, hb, hml, hown, hts, hr, hlocks⟩ := id C0
  obtain ⟨hT0, hT1, hT2⟩ := id hRT
  refine lv_lstore (lv' := [(12, .long s0), (2, .long x2), (4, .long x4), (6, .int x6)]) hx hb d_M_cutTo_JJJ_102 hl (by decide) rfl (fun ls hl => ?_)
  refine lv_iload hx hb d_M_cutTo_JJJ_104 (lv_at hl 3 rfl) ?_
  refine lv_if_eq (tgt := 125) hx hb d_M_cutTo_JJJ_106 (by decide) (fun c1 => ?_) (fun c1 => ?_)
  · refine lv_lload hx hb d_M_cutTo_JJJ_125 (lv_at hl 0 rfl) ?_
    refine lv_lload hx hb d_M_cutTo_JJJ_127 (lv_at hl 2 rfl) ?_
    refine W.lcmp hx hb d_M_cutTo_JJJ_129 ?_
    refine lv_if_le (tgt := 138) hx hb d_M_cutTo_JJJ_130 (by decide) (fun c2 => ?_) (fun c2 => ?_)
    · refine lv_lload hx hb d_M_cutTo_JJJ_138 (lv_at hl 0 rfl) ?_
      exact pu_lret hx hb hr hlocks d_M_cutTo_JJJ_140 (by exact Eq.symm (hw.trans (Eq.trans (if_pos c1) (if_pos c2))))
    · refine lv_lload hx hb d_M_cutTo_JJJ_133 (lv_at hl 2 rfl) ?_
      refine lv_goto (tgt := 140) hx hb d_M_cutTo_JJJ_135 (by decide) ?_
      exact pu_lret hx hb hr hlocks d_M_cutTo_JJJ_140 (by exact Eq.symm (hw.trans (Eq.trans (if_pos c1) (if_neg c2))))
  · refine lv_lload hx hb d_M_cutTo_JJJ_109 (lv_at hl 0 rfl) ?_
    refine lv_lneg hx hb d_M_cutTo_JJJ_111 ?_
    refine lv_lload_n hx hb d_M_cutTo_JJJ_112 rfl (lv_at hl 1 rfl) ?_
    refine W.lcmp hx hb d_M_cutTo_JJJ_113 ?_
    refine lv_if_ge (tgt := 121) hx hb d_M_cutTo_JJJ_114 (by decide) (fun c3 => ?_) (fun c3 => ?_)
    · refine lv_lload hx hb d_M_cutTo_JJJ_121 (lv_at hl 0 rfl) ?_
      refine lv_lneg hx hb d_M_cutTo_JJJ_123 ?_
      exact pu_lret hx hb hr hlocks d_M_cutTo_JJJ_124 (by exact Eq.symm (hw.trans (Eq.trans (if_neg c1) (if_pos c3))))
    · refine lv_lload_n hx hb d_M_cutTo_JJJ_117 rfl (lv_at hl 1 rfl) ?_
      refine lv_goto (tgt := 124) hx hb d_M_cutTo_JJJ_118 (by decide) ?_
      exact pu_lret hx hb hr hlocks d_M_cutTo_JJJ_124 (by exact Eq.symm (hw.trans (Eq.trans (if_neg c1) (if_neg c3))))
def f_M_cutTo_JJJ_72 (x2 : Int64) (x4 : Int64) (x6 : Int32) (x9 : Int64) (x11 : Int32) : Int64 :=
  if x11 < 0 then
    if (-62 : Int32) ≤ x11 then
      f_M_cutTo_JJJ_102 x2 x4 x6 (j_shr x9 (-x11))
    else
      f_M_cutTo_JJJ_102 x2 x4 x6 (0 : Int64)
  else
    f_M_cutTo_JJJ_102 x2 x4 x6 (j_shl x9 x11)
set_option maxHeartbeats 4000000 in
set_option maxRecDepth 100000 in
theorem k_M_cutTo_JJJ_72 {p : Program} {l : Launch} {e : Env} {s : State} {m : MethodId} {args : Array Value} {below : List Frame} {meth : Method} {c : Code} (C0 : pu_C p s m args meth c b_M_cutTo_JJJ 14 "MotionLabModel" (some .long) (gw y_M_cutTo_JJJ b_M_cutTo_JJJ 14 (some .long))) {t0 t1 t2 : Nat} (hRT : RTH t0 t1 t2 s s.heap) (x2 : Int64) (x4 : Int64) (x6 : Int32) (x9 : Int64) (x11 : Int32) (ls : Array Slot) (hl : lv_has ls 14 [(2, .long x2), (4, .long x4), (6, .int x6), (9, .long x9), (11, .int x11)]) {w : Int64} (hw : w = f_M_cutTo_JJJ_72 x2 x4 x6 x9 x11) : W p l e (headSpec (gw y_M_cutTo_JJJ b_M_cutTo_JJJ 14 (some .long)) ({ frames := 3, cells := 0, slots := 0, locals := 69 } : Room)).room s m args below meth c s.heap [] 0 0 (pu_Ql w below args s) (F0 m 72 ls []) := by
  obtain ⟨hx, hb, hml, hown, hts, hr, hlocks⟩ := id C0
  obtain ⟨hT0, hT1, hT2⟩ := id hRT
  refine lv_iload hx hb d_M_cutTo_JJJ_72 (lv_at hl 4 rfl) ?_
  refine lv_if_lt (tgt := 85) hx hb d_M_cutTo_JJJ_74 (by decide) (fun c1 => ?_) (fun c1 => ?_)
  · refine lv_iload hx hb d_M_cutTo_JJJ_85 (lv_at hl 4 rfl) ?_
    refine lv_bipush (v := (-62 : Int32)) hx hb d_M_cutTo_JJJ_87 (by decide) ?_
    refine lv_icmp_ge (tgt := 96) hx hb d_M_cutTo_JJJ_89 (by decide) (fun c2 => ?_) (fun c2 => ?_)
    · refine lv_lload hx hb d_M_cutTo_JJJ_96 (lv_at hl 3 rfl) ?_
      refine lv_iload hx hb d_M_cutTo_JJJ_98 (lv_at hl 4 rfl) ?_
      refine lv_ineg hx hb d_M_cutTo_JJJ_100 ?_
      refine lv_lshr (v := j_shr x9 (-x11)) hx hb d_M_cutTo_JJJ_101 rfl ?_
      exact k_M_cutTo_JJJ_102 C0 hRT x2 x4 x6 (j_shr x9 (-x11)) ls (lv_sub hl [0, 1, 2] rfl) (by exact (hw.trans (Eq.trans (if_pos c1) (if_pos c2))))
    · refine lv_lconst (v := (0 : Int64)) hx hb d_M_cutTo_JJJ_92 (by decide) ?_
      refine lv_goto (tgt := 102) hx hb d_M_cutTo_JJJ_93 (by decide) ?_
      exact k_M_cutTo_JJJ_102 C0 hRT x2 x4 x6 (0 : Int64) ls (lv_sub hl [0, 1, 2] rfl) (by exact (hw.trans (Eq.trans (if_pos c1) (if_neg c2))))
  · refine lv_lload hx hb d_M_cutTo_JJJ_77 (lv_at hl 3 rfl) ?_
    refine lv_iload hx hb d_M_cutTo_JJJ_79 (lv_at hl 4 rfl) ?_
    refine lv_lshl (v := j_shl x9 x11) hx hb d_M_cutTo_JJJ_81 rfl ?_
    refine lv_goto (tgt := 102) hx hb d_M_cutTo_JJJ_82 (by decide) ?_
    exact k_M_cutTo_JJJ_102 C0 hRT x2 x4 x6 (j_shl x9 x11) ls (lv_sub hl [0, 1, 2] rfl) (by exact (hw.trans (if_neg c1)))
def f_M_cutTo_JJJ_28 (x0 : Int64) (x2 : Int64) (x4 : Int64) (x6 : Int32) (s0 : Int64) : Int64 :=
  if (f_M_isInfinite_JI x0 (0 : Int32)) = 0 then
    let v2 : Int64 := f_M_whole_JI x0 (0 : Int32)
    let v3 : Int32 := f_M_power_JI x0 (0 : Int32)
    if v3 ≤ (10 : Int32) then
      f_M_cutTo_JJJ_72 x2 x4 x6 v2 v3
    else
      if (lg_cmp v2 (0 : Int64)) = 0 then
        f_M_cutTo_JJJ_72 x2 x4 x6 v2 v3
      else
        s0
  else
    s0
set_option maxHeartbeats 4000000 in
set_option maxRecDepth 100000 in
theorem k_M_cutTo_JJJ_28 {p : Program} {l : Launch} {e : Env} {s : State} {m : MethodId} {args : Array Value} {below : List Frame} {meth : Method} {c : Code} (C0 : pu_C p s m args meth c b_M_cutTo_JJJ 14 "MotionLabModel" (some .long) (gw y_M_cutTo_JJJ b_M_cutTo_JJJ 14 (some .long))) {t0 t1 t2 : Nat} (hRT : RTH t0 t1 t2 s s.heap) (x0 : Int64) (x2 : Int64) (x4 : Int64) (x6 : Int32) (s0 : Int64) (ls : Array Slot) (hl : lv_has ls 14 [(0, .long x0), (2, .long x2), (4, .long x4), (6, .int x6)]) {w : Int64} (hw : w = f_M_cutTo_JJJ_28 x0 x2 x4 x6 s0) : W p l e (headSpec (gw y_M_cutTo_JJJ b_M_cutTo_JJJ 14 (some .long)) ({ frames := 3, cells := 0, slots := 0, locals := 69 } : Room)).room s m args below meth c s.heap [] 0 0 (pu_Ql w below args s) (F0 m 28 ls [.long s0]) := by
  obtain ⟨hx, hb, hml, hown, hts, hr, hlocks⟩ := id C0
  obtain ⟨hT0, hT1, hT2⟩ := id hRT
  refine lv_lstore (lv' := [(7, .long s0), (0, .long x0), (2, .long x2), (4, .long x4), (6, .int x6)]) hx hb d_M_cutTo_JJJ_28 hl (by decide) rfl (fun ls hl => ?_)
  refine lv_lload_n hx hb d_M_cutTo_JJJ_30 rfl (lv_at hl 1 rfl) ?_
  refine lv_iconst (v := 0) hx hb d_M_cutTo_JJJ_31 (by decide) ?_
  refine pu_i (As := [.long x0, .int (0 : Int32)]) (rest := []) ⟨hx, hb, hml, hown, hts⟩ (c_M_isInfinite_JI l _ x0 (0 : Int32)) pu_pre (gw_call (k := 2) hts tw_516 tw_517 tw_4 tw_518 (by decide +kernel) rfl rfl ⟨Nat.le_of_ble_eq_true rfl, Nat.le_of_ble_eq_true rfl⟩) rfl hl.1 rfl (Nat.le_of_ble_eq_true rfl) ⟨Nat.zero_le _, Nat.zero_le _⟩ d_M_cutTo_JJJ_32 ?_
  refine lv_if_eq (tgt := 41) hx hb d_M_cutTo_JJJ_35 (by decide) (fun c1 => ?_) (fun c1 => ?_)
  · refine lv_lload_n hx hb d_M_cutTo_JJJ_41 rfl (lv_at hl 1 rfl) ?_
    refine lv_iconst (v := 0) hx hb d_M_cutTo_JJJ_42 (by decide) ?_
    refine pu_l (As := [.long x0, .int (0 : Int32)]) (rest := []) ⟨hx, hb, hml, hown, hts⟩ (c_M_whole_JI l _ t0 t1 t2 x0 (0 : Int32) (in_of (by decide) (by decide))) (pr_pre hRT) (gw_call (k := 2) hts tw_525 tw_526 tw_4 tw_527 (by decide +kernel) rfl rfl ⟨Nat.le_of_ble_eq_true rfl, Nat.le_of_ble_eq_true rfl⟩) rfl hl.1 rfl (Nat.le_of_ble_eq_true rfl) ⟨Nat.zero_le _, Nat.zero_le _⟩ d_M_cutTo_JJJ_43 ?_
    refine lv_topl (fun v2 e2 => ?_)
    refine lv_lstore (lv' := [(9, .long v2), (7, .long s0), (0, .long x0), (2, .long x2), (4, .long x4), (6, .int x6)]) hx hb d_M_cutTo_JJJ_46 hl (by decide) rfl (fun ls hl => ?_)
    refine lv_lload_n hx hb d_M_cutTo_JJJ_48 rfl (lv_at hl 2 rfl) ?_
    refine lv_iconst (v := 0) hx hb d_M_cutTo_JJJ_49 (by decide) ?_
    refine pu_i (As := [.long x0, .int (0 : Int32)]) (rest := []) ⟨hx, hb, hml, hown, hts⟩ (c_M_power_JI l _ t0 t1 t2 x0 (0 : Int32) (in_of (by decide) (by decide))) (pr_pre hRT) (gw_call (k := 2) hts tw_530 tw_531 tw_4 tw_532 (by decide +kernel) rfl rfl ⟨Nat.le_of_ble_eq_true rfl, Nat.le_of_ble_eq_true rfl⟩) rfl hl.1 rfl (Nat.le_of_ble_eq_true rfl) ⟨Nat.zero_le _, Nat.zero_le _⟩ d_M_cutTo_JJJ_50 ?_
    refine lv_topi (fun v3 e3 => ?_)
    refine lv_istore (lv' := [(11, .int v3), (9, .long v2), (7, .long s0), (0, .long x0), (2, .long x2), (4, .long x4), (6, .int x6)]) hx hb d_M_cutTo_JJJ_53 hl (by decide) rfl (fun ls hl => ?_)
    refine lv_iload hx hb d_M_cutTo_JJJ_55 (lv_at hl 0 rfl) ?_
    refine lv_bipush (v := (10 : Int32)) hx hb d_M_cutTo_JJJ_57 (by decide) ?_
    refine lv_icmp_le (tgt := 72) hx hb d_M_cutTo_JJJ_59 (by decide) (fun c4 => ?_) (fun c4 => ?_)
    · exact k_M_cutTo_JJJ_72 C0 hRT x2 x4 x6 v2 v3 ls (lv_sub hl [4, 5, 6, 1, 0] rfl) (by have qe2 := e2.symm; have qe3 := e3.symm; subst qe2 qe3; exact (hw.trans (Eq.trans (if_pos c1) (if_pos c4))))
    · refine lv_lload hx hb d_M_cutTo_JJJ_62 (lv_at hl 1 rfl) ?_
      refine lv_lconst (v := (0 : Int64)) hx hb d_M_cutTo_JJJ_64 (by decide) ?_
      refine W.lcmp hx hb d_M_cutTo_JJJ_65 ?_
      refine lv_if_eq (tgt := 72) hx hb d_M_cutTo_JJJ_66 (by decide) (fun c5 => ?_) (fun c5 => ?_)
      · exact k_M_cutTo_JJJ_72 C0 hRT x2 x4 x6 v2 v3 ls (lv_sub hl [4, 5, 6, 1, 0] rfl) (by have qe2 := e2.symm; have qe3 := e3.symm; subst qe2 qe3; exact (hw.trans (Eq.trans (if_pos c1) (Eq.trans (if_neg c4) (if_pos c5)))))
      · refine lv_lload hx hb d_M_cutTo_JJJ_69 (lv_at hl 2 rfl) ?_
        exact pu_lret hx hb hr hlocks d_M_cutTo_JJJ_71 (by have qe2 := e2.symm; have qe3 := e3.symm; subst qe2 qe3; exact Eq.symm (hw.trans (Eq.trans (if_pos c1) (Eq.trans (if_neg c4) (if_neg c5)))))
  · refine lv_lload hx hb d_M_cutTo_JJJ_38 (lv_at hl 0 rfl) ?_
    exact pu_lret hx hb hr hlocks d_M_cutTo_JJJ_40 (by exact Eq.symm (hw.trans (if_neg c1)))
def f_M_cutTo_JJJ (x0 : Int64) (x2 : Int64) (x4 : Int64) : Int64 :=
  if (f_M_isNone_JI x0 (0 : Int32)) = 0 then
    let v2 : Int32 := f_M_minus_JI x0 (0 : Int32)
    if v2 = 0 then
      f_M_cutTo_JJJ_28 x0 x2 x4 v2 x4
    else
      f_M_cutTo_JJJ_28 x0 x2 x4 v2 x2
  else
    (0 : Int64)
set_option maxHeartbeats 4000000 in
set_option maxRecDepth 100000 in
theorem c_M_cutTo_JJJ (l : Launch) (h : Heap) (t0 t1 t2 : Nat) (x0 : Int64) (x2 : Int64) (x4 : Int64) : Met l y_M_cutTo_JJJ (gw y_M_cutTo_JJJ b_M_cutTo_JJJ 14 (some .long)) { frames := 3, cells := 0, slots := 0, locals := 69 } (pr_Pc [.long x0, .long x2, .long x4] h t0 t1 t2) (pu_Ml (f_M_cutTo_JJJ x0 x2 x4) h) 0 0 (fun _ => False) := by
  refine Met.ofW (cc := b_M_cutTo_JJJ) (maxL := 14) (ret := (some .long)) (by decide) rfl ?_
  intro p e s m args below meth c s₁ B hml hv
  obtain ⟨rfl, hh, hRT⟩ := hv
  subst hh
  obtain ⟨hT0, hT1, hT2⟩ := id hRT
  have hx := B.exec
  have hb := B.bytes
  have hr := B.returns
  have hts := atoms_spec (ws := (gw y_M_cutTo_JJJ b_M_cutTo_JJJ 14 (some .long))) B.pre
  have hown : s.vm.findClass "MotionLabModel" = some m.cls := findClass_of_methodNamed B.named
  have hlocks := B.notSynchronized
  have C0 : pu_C p s m _ meth c b_M_cutTo_JJJ 14 "MotionLabModel" (some .long) (gw y_M_cutTo_JJJ b_M_cutTo_JJJ 14 (some .long)) := ⟨hx, hb, hml, hown, hts, hr, hlocks⟩
  have hl := lv_entry ([.long x0, .long x2, .long x4]) (n := 14) (Nat.le_of_ble_eq_true rfl)
  rw [lg_entry_eq]
  generalize (lg_sl ([.long x0, .long x2, .long x4]) ++ List.replicate (14 - (lg_sl ([.long x0, .long x2, .long x4])).length) Slot.unset).toArray = ls at hl ⊢
  have hl : lv_has ls 14 [(0, .long x0), (2, .long x2), (4, .long x4)] := hl
  refine lv_lload_n hx hb d_M_cutTo_JJJ_0 rfl (lv_at hl 0 rfl) ?_
  refine lv_iconst (v := 0) hx hb d_M_cutTo_JJJ_1 (by decide) ?_
  refine pu_i (As := [.long x0, .int (0 : Int32)]) (rest := []) ⟨hx, hb, hml, hown, hts⟩ (c_M_isNone_JI l _ x0 (0 : Int32)) pu_pre (gw_call (k := 2) hts tw_498 tw_499 tw_4 tw_500 (by decide +kernel) rfl rfl ⟨Nat.le_of_ble_eq_true rfl, Nat.le_of_ble_eq_true rfl⟩) rfl hl.1 rfl (Nat.le_of_ble_eq_true rfl) ⟨Nat.zero_le _, Nat.zero_le _⟩ d_M_cutTo_JJJ_2 ?_
  refine lv_if_eq (tgt := 10) hx hb d_M_cutTo_JJJ_5 (by decide) (fun c1 => ?_) (fun c1 => ?_)
  · refine lv_lload_n hx hb d_M_cutTo_JJJ_10 rfl (lv_at hl 0 rfl) ?_
    refine lv_iconst (v := 0) hx hb d_M_cutTo_JJJ_11 (by decide) ?_
    refine pu_i (As := [.long x0, .int (0 : Int32)]) (rest := []) ⟨hx, hb, hml, hown, hts⟩ (c_M_minus_JI l _ x0 (0 : Int32)) pu_pre (gw_call (k := 2) hts tw_519 tw_520 tw_4 tw_521 (by decide +kernel) rfl rfl ⟨Nat.le_of_ble_eq_true rfl, Nat.le_of_ble_eq_true rfl⟩) rfl hl.1 rfl (Nat.le_of_ble_eq_true rfl) ⟨Nat.zero_le _, Nat.zero_le _⟩ d_M_cutTo_JJJ_12 ?_
    refine lv_topi (fun v2 e2 => ?_)
    refine lv_istore (lv' := [(6, .int v2), (0, .long x0), (2, .long x2), (4, .long x4)]) hx hb d_M_cutTo_JJJ_15 hl (by decide) rfl (fun ls hl => ?_)
    refine lv_iload hx hb d_M_cutTo_JJJ_17 (lv_at hl 0 rfl) ?_
    refine lv_if_eq (tgt := 26) hx hb d_M_cutTo_JJJ_19 (by decide) (fun c3 => ?_) (fun c3 => ?_)
    · refine lv_lload hx hb d_M_cutTo_JJJ_26 (lv_at hl 3 rfl) ?_
      exact k_M_cutTo_JJJ_28 C0 hRT x0 x2 x4 v2 x4 ls (lv_sub hl [1, 2, 3, 0] rfl) (by have qe2 := e2.symm; subst qe2; exact (Eq.trans (if_pos c1) (if_pos c3)))
    · refine lv_lload_n hx hb d_M_cutTo_JJJ_22 rfl (lv_at hl 2 rfl) ?_
      refine lv_goto (tgt := 28) hx hb d_M_cutTo_JJJ_23 (by decide) ?_
      exact k_M_cutTo_JJJ_28 C0 hRT x0 x2 x4 v2 x2 ls (lv_sub hl [1, 2, 3, 0] rfl) (by have qe2 := e2.symm; subst qe2; exact (Eq.trans (if_pos c1) (if_neg c3)))
  · refine lv_lconst (v := (0 : Int64)) hx hb d_M_cutTo_JJJ_8 (by decide) ?_
    exact pu_lret hx hb hr hlocks d_M_cutTo_JJJ_9 (by exact Eq.symm (if_neg c1))
end
section
/-! OUR OWN ROWS: rounding to nearest, ties to even, of a natural number of smallest units; codes of floating numbers as naturals -/
def rD (V D : Nat) : Nat := V / D + (if D < 2 * (V % D) ∨ (2 * (V % D) = D ∧ V / D % 2 = 1) then 1 else 0)
def rsh (p L V : Nat) : Nat := max (V.log2 + 1 - p) L
def rnd (p L V : Nat) : Nat := (rsh p L V - L) * 2 ^ (p - 1) + rD V (2 ^ rsh p L V)
def enc (p L I V : Nat) : Nat := min I (rnd p L V)
def vsig (p b : Nat) : Nat := if b / 2 ^ (p - 1) = 0 then b else b % 2 ^ (p - 1) + 2 ^ (p - 1)
def vexp (p L b : Nat) : Nat := b / 2 ^ (p - 1) - 1 + L
def val (p L b : Nat) : Nat := vsig p b * 2 ^ vexp p L b
theorem q_pos (n : Nat) : 0 < 2 ^ n := Nat.two_pow_pos n
theorem q_pw {a b : Nat} (h : a ≤ b) : 2 ^ b = 2 ^ (b - a) * 2 ^ a := by rw [← Nat.pow_add]; congr 1; omega
theorem q_pw1 (n : Nat) : 2 ^ (n + 1) = 2 * 2 ^ n := by rw [Nat.pow_succ, Nat.mul_comm]
theorem q_div {V D q r : Nat} (h : V = q * D + r) (hr : r < D) : V / D = q ∧ V % D = r := by
  have hD : 0 < D := by omega
  subst h
  constructor
  · rw [Nat.add_comm, Nat.add_mul_div_right _ _ hD, Nat.div_eq_of_lt hr, Nat.zero_add]
  · rw [Nat.add_comm, Nat.add_mul_mod_self_right, Nat.mod_eq_of_lt hr]
theorem rD_eq {V D q r : Nat} (h : V = q * D + r) (hr : r < D) : rD V D = q + (if D < 2 * r ∨ (2 * r = D ∧ q % 2 = 1) then 1 else 0) := by
  obtain ⟨h1, h2⟩ := q_div h hr
  unfold rD; rw [h1, h2]
theorem q_mk {D : Nat} (V : Nat) (hD : 0 < D) : ∃ q r, V = q * D + r ∧ r < D := ⟨V / D, V % D, by rw [Nat.mul_comm]; exact (Nat.div_add_mod V D).symm, Nat.mod_lt V hD⟩
theorem rD_mul {q D : Nat} (hD : 0 < D) : rD (q * D) D = q := by
  rw [rD_eq (q := q) (r := 0) (by omega) hD, if_neg (by omega), Nat.add_zero]
theorem rD_zero {D : Nat} (hD : 0 < D) : rD 0 D = 0 := by
  have := rD_mul (q := 0) hD; rwa [Nat.zero_mul] at this
theorem rD_scale {V D c : Nat} (hD : 0 < D) (hc : 0 < c) : rD (V * c) (D * c) = rD V D := by
  obtain ⟨q, r, h, hr⟩ := q_mk V hD
  have e1 : V * c = q * (D * c) + r * c := by rw [h, Nat.add_mul, Nat.mul_assoc]
  have e2 : r * c < D * c := Nat.mul_lt_mul_of_pos_right hr hc
  rw [rD_eq e1 e2, rD_eq h hr]
  have e3 : (D * c < 2 * (r * c)) ↔ D < 2 * r := by
    rw [← Nat.mul_assoc]; exact Nat.mul_lt_mul_right hc
  have e4 : (2 * (r * c) = D * c) ↔ 2 * r = D := by
    rw [← Nat.mul_assoc]; exact ⟨fun h => Nat.eq_of_mul_eq_mul_right hc h, fun h => by rw [h]⟩
  simp only [e3, e4]
theorem rD_le {V D t : Nat} (hD : 0 < D) (h : V ≤ t * D) : rD V D ≤ t := by
  obtain ⟨q, r, e, hr⟩ := q_mk V hD
  rw [rD_eq e hr]
  rcases Nat.lt_or_ge q t with h1 | h1
  · split <;> omega
  · have h2 : t * D ≤ q * D := Nat.mul_le_mul_right D h1
    have h3 : r = 0 := by omega
    have h4 : q * D = t * D := by omega
    have h5 : q = t := Nat.eq_of_mul_eq_mul_right hD h4
    rw [if_neg (by omega)]; omega
theorem rD_ge {V D t : Nat} (hD : 0 < D) (h : t * D ≤ V) : t ≤ rD V D := by
  have h1 : t ≤ V / D := (Nat.le_div_iff_mul_le hD).mpr h
  unfold rD; omega
theorem rD_lo {V D q : Nat} (hD : 0 < D) (h : q * D ≤ V) (h2 : 2 * V < (2 * q + 1) * D) : rD V D = q := by
  have e0 : (2 * q + 1) * D = 2 * (q * D) + D := by rw [Nat.add_mul, Nat.one_mul, Nat.mul_assoc]
  have e : V = q * D + (V - q * D) := by omega
  rw [rD_eq e (by omega), if_neg (by omega), Nat.add_zero]
theorem rD_hi {V D q : Nat} (hD : 0 < D) (h : V ≤ (q + 1) * D) (h2 : (2 * q + 1) * D < 2 * V) : rD V D = q + 1 := by
  have e0 : (2 * q + 1) * D = 2 * (q * D) + D := by rw [Nat.add_mul, Nat.one_mul, Nat.mul_assoc]
  have e1 : (q + 1) * D = q * D + D := by rw [Nat.add_mul, Nat.one_mul]
  rcases Nat.lt_or_ge V ((q + 1) * D) with h3 | h3
  · have e : V = q * D + (V - q * D) := by omega
    rw [rD_eq e (by omega), if_pos (by omega)]
  · have : V = (q + 1) * D := by omega
    rw [this, rD_mul hD]
theorem rD_stick {q h r B t : Nat} (ht : 0 < t) (htB : t < B) (hr : r < 2 * h) : rD ((q * (2 * h) + r) * B + t) (2 * h * B) = if h ≤ r then q + 1 else q := by
  have e : (q * (2 * h) + r) * B + t = q * (2 * h * B) + (r * B + t) := by
    rw [Nat.add_mul, Nat.mul_assoc q (2 * h) B]; omega
  have e1 : (r + 1) * B = r * B + B := by rw [Nat.add_mul, Nat.one_mul]
  have e2 : (r + 1) * B ≤ 2 * h * B := Nat.mul_le_mul_right B hr
  have e3 : 2 * h * B = 2 * (h * B) := Nat.mul_assoc 2 h B
  rw [rD_eq e (by omega)]
  rcases Nat.lt_or_ge r h with h1 | h1
  · have e4 : (r + 1) * B ≤ h * B := Nat.mul_le_mul_right B h1
    rw [if_neg (by omega), if_neg (by omega), Nat.add_zero]
  · have e4 : h * B ≤ r * B := Nat.mul_le_mul_right B h1
    rw [if_pos (by omega), if_pos h1]
-- the place of the last digit
theorem q_log {n V : Nat} (h1 : 2 ^ n ≤ V) (h2 : V < 2 ^ (n + 1)) : V.log2 = n := by
  have h0 : V ≠ 0 := by have := q_pos n; omega
  have a := (Nat.log2_lt h0 (k := n + 1)).mpr h2
  have b : ¬ V.log2 < n := fun c => by have := (Nat.log2_lt h0).mp c; omega
  omega
theorem q_loglo {V : Nat} (h : V ≠ 0) : 2 ^ V.log2 ≤ V := by
  rcases Nat.lt_or_ge V (2 ^ V.log2) with c | c
  · have := (Nat.log2_lt h).mpr c; omega
  · exact c
theorem q_loghi (V : Nat) : V < 2 ^ (V.log2 + 1) := Nat.lt_log2_self
theorem rsh_ge (p L V : Nat) : L ≤ rsh p L V := Nat.le_max_right _ _
theorem rsh_hi {p L V : Nat} : V < 2 ^ (rsh p L V + p) := by
  have h : V.log2 + 1 ≤ rsh p L V + p := by unfold rsh; omega
  exact Nat.lt_of_lt_of_le (q_loghi V) (Nat.pow_le_pow_right (by decide) h)
theorem rsh_lo {p L V : Nat} (hp : 0 < p) : rsh p L V = L ∨ 2 ^ (rsh p L V + p - 1) ≤ V := by
  rcases Nat.lt_or_ge L (V.log2 + 1 - p) with h | h
  · right
    have e : rsh p L V + p - 1 = V.log2 := by unfold rsh; omega
    rw [e]
    by_cases h0 : V = 0
    · subst h0; simp at h; omega
    · exact q_loglo h0
  · left; unfold rsh; omega
theorem rnd_at {p L V sh : Nat} (hp : 0 < p) (hL : L ≤ sh) (h1 : V ≤ 2 ^ (sh + p)) (h2 : sh = L ∨ 2 ^ (sh + p - 1) ≤ V) : rnd p L V = (sh - L) * 2 ^ (p - 1) + rD V (2 ^ sh) := by
  rcases Nat.lt_or_ge V (2 ^ (sh + p)) with h3 | h3
  · have e : rsh p L V = sh := by
      by_cases h0 : V = 0
      · subst h0
        rcases h2 with h2 | h2
        · unfold rsh; simp; omega
        · have := q_pos (sh + p - 1); omega
      · have a := (Nat.log2_lt h0).mpr h3
        rcases h2 with h2 | h2
        · unfold rsh; omega
        · have b : ¬ V.log2 < sh + p - 1 := fun c => by have := (Nat.log2_lt h0).mp c; omega
          unfold rsh; omega
    unfold rnd; rw [e]
  · have hV : V = 2 ^ (sh + p) := by omega
    have el : V.log2 = sh + p := q_log (by omega) (by rw [hV, q_pw1]; have := q_pos (sh + p); omega)
    have e : rsh p L V = sh + 1 := by unfold rsh; omega
    have a1 : rD V (2 ^ sh) = 2 ^ p := by rw [hV, Nat.add_comm, Nat.pow_add]; exact rD_mul (q_pos sh)
    have a2 : rD V (2 ^ (sh + 1)) = 2 ^ (p - 1) := by
      have : sh + p = (p - 1) + (sh + 1) := by omega
      rw [hV, this, Nat.pow_add]; exact rD_mul (q_pos _)
    unfold rnd; rw [e, a1, a2]
    have a3 : 2 ^ p = 2 * 2 ^ (p - 1) := by rw [← q_pw1]; congr 1; omega
    have a4 : sh + 1 - L = (sh - L) + 1 := by omega
    rw [a3, a4, Nat.add_mul]; omega
theorem val_code {p L c sh : Nat} (hp : 0 < p) (hL : L ≤ sh) (h1 : c ≤ 2 ^ p) (h2 : sh = L ∨ 2 ^ (p - 1) ≤ c) : val p L ((sh - L) * 2 ^ (p - 1) + c) = c * 2 ^ sh := by
  have hP := q_pos (p - 1)
  have a3 : 2 ^ p = 2 * 2 ^ (p - 1) := by rw [← q_pw1]; congr 1; omega
  rcases Nat.lt_or_ge c (2 ^ (p - 1)) with h3 | h3
  · have hs : sh = L := by omega
    subst hs
    have e0 : (sh - sh) * 2 ^ (p - 1) + c = c := by rw [Nat.sub_self, Nat.zero_mul, Nat.zero_add]
    rw [e0]
    have e1 : c / 2 ^ (p - 1) = 0 := Nat.div_eq_of_lt h3
    unfold val vsig vexp; rw [e1, if_pos rfl, Nat.zero_sub, Nat.zero_add]
  · rcases Nat.lt_or_ge c (2 ^ p) with h4 | h4
    · have e0 : (sh - L) * 2 ^ (p - 1) + c = (sh - L + 1) * 2 ^ (p - 1) + (c - 2 ^ (p - 1)) := by rw [Nat.add_mul (sh - L) 1]; omega
      obtain ⟨d1, d2⟩ := q_div e0 (by omega)
      have e2 : vsig p ((sh - L) * 2 ^ (p - 1) + c) = c := by unfold vsig; rw [d1, d2, if_neg (by omega)]; omega
      have e3 : vexp p L ((sh - L) * 2 ^ (p - 1) + c) = sh := by unfold vexp; rw [d1]; omega
      unfold val; rw [e2, e3]
    · have hc : c = 2 * 2 ^ (p - 1) := by omega
      have e0 : (sh - L) * 2 ^ (p - 1) + c = (sh - L + 2) * 2 ^ (p - 1) + 0 := by rw [Nat.add_mul (sh - L) 2]; omega
      obtain ⟨d1, d2⟩ := q_div e0 hP
      have e2 : vsig p ((sh - L) * 2 ^ (p - 1) + c) = 2 ^ (p - 1) := by unfold vsig; rw [d1, d2, if_neg (by omega)]; omega
      have e3 : vexp p L ((sh - L) * 2 ^ (p - 1) + c) = sh + 1 := by unfold vexp; rw [d1]; omega
      unfold val; rw [e2, e3, hc, q_pw1]
      rw [Nat.mul_left_comm, Nat.mul_assoc]
theorem vsig_lt {p b : Nat} (hp : 0 < p) : vsig p b < 2 ^ p := by
  have hP := q_pos (p - 1)
  have a3 : 2 ^ p = 2 * 2 ^ (p - 1) := by rw [← q_pw1]; congr 1; omega
  unfold vsig; split
  · next h => have := Nat.lt_of_div_eq_zero hP h; omega
  · have := Nat.mod_lt b hP; omega
theorem vexp_ge (p L b : Nat) : L ≤ vexp p L b := by unfold vexp; omega
theorem vsig_norm {p L b : Nat} : vexp p L b = L ∨ 2 ^ (p - 1) ≤ vsig p b := by
  unfold vexp vsig
  rcases Nat.eq_zero_or_pos (b / 2 ^ (p - 1)) with h | h
  · left; omega
  · right; rw [if_neg (by omega)]; omega
theorem vcode (p L b : Nat) : (vexp p L b - L) * 2 ^ (p - 1) + vsig p b = b := by
  have hd := Nat.div_add_mod b (2 ^ (p - 1))
  have e : vexp p L b - L = b / 2 ^ (p - 1) - 1 := by unfold vexp; omega
  rw [e]; unfold vsig
  rcases Nat.eq_zero_or_pos (b / 2 ^ (p - 1)) with h | h
  · rw [if_pos h, h]; omega
  · rw [if_neg (by omega)]
    obtain ⟨k, hk⟩ : ∃ k, b / 2 ^ (p - 1) = k + 1 := ⟨b / 2 ^ (p - 1) - 1, by omega⟩
    rw [hk] at hd ⊢
    rw [Nat.mul_add, Nat.mul_one, Nat.mul_comm] at hd
    rw [Nat.add_sub_cancel]; omega
/-- what is a number already is rounded to itself -/
theorem rnd_val {p L b : Nat} (hp : 0 < p) : rnd p L (val p L b) = b := by
  have h1 := vsig_lt (p := p) (b := b) hp
  have hx : val p L b ≤ 2 ^ (vexp p L b + p) := by
    unfold val; rw [Nat.add_comm, Nat.pow_add]; exact Nat.mul_le_mul_right _ (Nat.le_of_lt h1)
  have hy : vexp p L b = L ∨ 2 ^ (vexp p L b + p - 1) ≤ val p L b := by
    rcases vsig_norm (p := p) (L := L) (b := b) with h | h
    · exact Or.inl h
    · right
      have : vexp p L b + p - 1 = (p - 1) + vexp p L b := by omega
      rw [this, Nat.pow_add]; unfold val; exact Nat.mul_le_mul_right _ h
  rw [rnd_at hp (vexp_ge p L b) hx hy]
  have : rD (val p L b) (2 ^ vexp p L b) = vsig p b := by unfold val; exact rD_mul (q_pos _)
  rw [this, vcode]
theorem rD_rsh_le {p L V : Nat} : rD V (2 ^ rsh p L V) ≤ 2 ^ p := by
  refine rD_le (q_pos _) ?_
  rw [← Nat.pow_add, Nat.add_comm]; exact Nat.le_of_lt rsh_hi
theorem rD_rsh_norm {p L V : Nat} (hp : 0 < p) : rsh p L V = L ∨ 2 ^ (p - 1) ≤ rD V (2 ^ rsh p L V) := by
  rcases rsh_lo (p := p) (L := L) (V := V) hp with h | h
  · exact Or.inl h
  · right
    refine rD_ge (q_pos _) ?_
    rw [← Nat.pow_add]
    have : p - 1 + rsh p L V = rsh p L V + p - 1 := by omega
    rw [this]; exact h
/-- the value of a rounded number -/
theorem val_rnd {p L V : Nat} (hp : 0 < p) : val p L (rnd p L V) = rD V (2 ^ rsh p L V) * 2 ^ rsh p L V :=
  val_code hp (rsh_ge p L V) rD_rsh_le (rD_rsh_norm hp)
theorem rnd_zero (p L : Nat) (hp : 0 < p) : rnd p L 0 = 0 := by
  have : rsh p L 0 = L := by unfold rsh; simp; omega
  unfold rnd; rw [this, rD_zero (q_pos _), Nat.sub_self, Nat.zero_mul]
/-- all that lies between two neighbours of more digits is rounded alike -/
theorem rnd_stick {p L m k V V' : Nat} (hm : 2 ^ p ≤ m) (h1 : m * 2 ^ k < V) (h2 : V < (m + 1) * 2 ^ k) (h1' : m * 2 ^ k < V') (h2' : V' < (m + 1) * 2 ^ k) : rnd p L V = rnd p L V' := by
  have hm0 : m ≠ 0 := by have := q_pos p; omega
  have hlo := q_loglo hm0
  have hhi := q_loghi m
  have hn : p ≤ m.log2 := by
    rcases Nat.lt_or_ge m.log2 p with c | c
    · have := (Nat.log2_lt hm0).mp c; omega
    · exact c
  have aux : ∀ U, m * 2 ^ k < U → U < (m + 1) * 2 ^ k → U.log2 = m.log2 + k := by
    intro U g1 g2
    refine q_log ?_ ?_
    · rw [Nat.pow_add]; exact Nat.le_trans (Nat.mul_le_mul_right _ hlo) (Nat.le_of_lt g1)
    · have : m.log2 + k + 1 = (m.log2 + 1) + k := by omega
      rw [this, Nat.pow_add]; exact Nat.lt_of_lt_of_le g2 (Nat.mul_le_mul_right _ hhi)
  have es : rsh p L V = rsh p L V' := by unfold rsh; rw [aux V h1 h2, aux V' h1' h2']
  have hs : k + 1 ≤ rsh p L V := by unfold rsh; rw [aux V h1 h2]; omega
  unfold rnd; rw [← es]
  congr 1
  generalize rsh p L V = sh at hs
  have e1 : 2 ^ sh = 2 * 2 ^ (sh - k - 1) * 2 ^ k := by
    rw [← q_pw1, ← Nat.pow_add]; congr 1; omega
  have hh := q_pos (sh - k - 1)
  obtain ⟨q, r, e, hr⟩ := q_mk m (D := 2 * 2 ^ (sh - k - 1)) (by omega)
  have em : (m + 1) * 2 ^ k = m * 2 ^ k + 2 ^ k := by rw [Nat.add_mul, Nat.one_mul]
  have key : ∀ U, m * 2 ^ k < U → U < (m + 1) * 2 ^ k → rD U (2 ^ sh) = if 2 ^ (sh - k - 1) ≤ r then q + 1 else q := by
    intro U g1 g2
    obtain ⟨t, ht⟩ : ∃ t, U = m * 2 ^ k + t := ⟨U - m * 2 ^ k, by omega⟩
    subst ht
    rw [e1]
    have t0 : 0 < t := by omega
    have t1 : t < 2 ^ k := by omega
    have := rD_stick (q := q) (h := 2 ^ (sh - k - 1)) (r := r) t0 t1 hr
    rw [← e] at this
    exact this
  rw [key V h1 h2, key V' h1' h2']
/-- rounding twice -/
theorem rnd_twice {p L p2 L2 V : Nat} (hp2 : 0 < p2) (hs : rsh p L V < rsh p2 L2 V)
    (hm : ∀ j, rD V (2 ^ rsh p L V) * 2 ^ rsh p L V = (2 * j + 1) * 2 ^ (rsh p2 L2 V - 1) → rD V (2 ^ rsh p L V) * 2 ^ rsh p L V = V) :
    rnd p2 L2 (rD V (2 ^ rsh p L V) * 2 ^ rsh p L V) = rnd p2 L2 V := by
  generalize hW : rD V (2 ^ rsh p L V) * 2 ^ rsh p L V = W at hm ⊢
  generalize hs1 : rsh p L V = s1 at hs hW hm
  have hlo := rsh_lo (p := p2) (L := L2) (V := V) hp2
  have hhi := rsh_hi (p := p2) (L := L2) (V := V)
  have hge := rsh_ge p2 L2 V
  generalize hs2 : rsh p2 L2 V = s2 at hs hm hlo hhi hge
  have hD1 := q_pos s1
  -- monotone at the points of the finer grid
  have up : ∀ t, V ≤ t * 2 ^ s1 → W ≤ t * 2 ^ s1 := fun t h => by rw [← hW]; exact Nat.mul_le_mul_right _ (rD_le hD1 h)
  have dn : ∀ t, t * 2 ^ s1 ≤ V → t * 2 ^ s1 ≤ W := fun t h => by rw [← hW]; exact Nat.mul_le_mul_right _ (rD_ge hD1 h)
  have g : ∀ n, s1 ≤ n → 2 ^ n = 2 ^ (n - s1) * 2 ^ s1 := fun n h => q_pw h
  have w1 : W ≤ 2 ^ (s2 + p2) := by rw [g _ (by omega)]; refine up _ ?_; rw [← g _ (by omega)]; exact Nat.le_of_lt hhi
  have w2 : s2 = L2 ∨ 2 ^ (s2 + p2 - 1) ≤ W := by
    rcases hlo with h | h
    · exact Or.inl h
    · right; rw [g _ (by omega)]; refine dn _ ?_; rw [← g _ (by omega)]; exact h
  rw [rnd_at hp2 hge w1 w2, rnd_at hp2 hge (Nat.le_of_lt hhi) hlo]
  congr 1
  obtain ⟨q, r, e, hr⟩ := q_mk V (q_pos s2)
  have hh : 2 ^ s2 = 2 * 2 ^ (s2 - 1) := by rw [← q_pw1]; congr 1; omega
  have hz : 2 ^ (s2 - 1) = 2 ^ (s2 - 1 - s1) * 2 ^ s1 := g _ (by omega)
  have hmid : (2 * q + 1) * 2 ^ (s2 - 1) = q * 2 ^ s2 + 2 ^ (s2 - 1) := by rw [Nat.add_mul, Nat.one_mul, hh, Nat.mul_left_comm, ← Nat.mul_assoc]
  have hmid2 : (2 * q + 1) * 2 ^ s2 = 2 * (q * 2 ^ s2 + 2 ^ (s2 - 1)) := by rw [Nat.add_mul, Nat.one_mul, Nat.mul_assoc]; omega
  have hq : q * 2 ^ s2 = (q * 2 ^ (s2 - s1)) * 2 ^ s1 := by rw [Nat.mul_assoc, ← g _ (by omega)]
  have hq1 : (q + 1) * 2 ^ s2 = ((q + 1) * 2 ^ (s2 - s1)) * 2 ^ s1 := by rw [Nat.mul_assoc, ← g _ (by omega)]
  have hq2 : (q + 1) * 2 ^ s2 = q * 2 ^ s2 + 2 ^ s2 := by rw [Nat.add_mul, Nat.one_mul]
  have hm2 : q * 2 ^ s2 + 2 ^ (s2 - 1) = ((2 * q + 1) * 2 ^ (s2 - 1 - s1)) * 2 ^ s1 := by rw [← hmid, Nat.mul_assoc, ← g _ (by omega)]
  have k1 : q * 2 ^ s2 ≤ W := by rw [hq]; refine dn _ ?_; rw [← hq]; omega
  have k2 : W ≤ (q + 1) * 2 ^ s2 := by rw [hq1]; refine up _ ?_; rw [← hq1]; omega
  rcases Nat.lt_trichotomy r (2 ^ (s2 - 1)) with c | c | c
  · have k3 : W ≤ q * 2 ^ s2 + 2 ^ (s2 - 1) := by rw [hm2]; refine up _ ?_; rw [← hm2]; omega
    have k4 : W ≠ q * 2 ^ s2 + 2 ^ (s2 - 1) := by
      intro h
      have := hm q (by rw [hmid]; exact h)
      omega
    rw [rD_lo (q_pos s2) k1 (by rw [hmid2]; omega), rD_lo (V := V) (q := q) (q_pos s2) (by omega) (by rw [hmid2]; omega)]
  · have : W = V := by
      rw [← hW, e, c, hm2, rD_mul hD1]
    rw [this]
  · have k3 : q * 2 ^ s2 + 2 ^ (s2 - 1) ≤ W := by rw [hm2]; refine dn _ ?_; rw [← hm2]; omega
    have k4 : W ≠ q * 2 ^ s2 + 2 ^ (s2 - 1) := by
      intro h
      have := hm q (by rw [hmid]; exact h)
      omega
    rw [rD_hi (q_pos s2) k2 (by rw [hmid2]; omega), rD_hi (V := V) (q := q) (q_pos s2) (by omega) (by rw [hmid2]; omega)]
end
section
/-! OUR OWN ROWS: exact numbers, order of codes, the lost last digits of sum, product, quotient -/
theorem rnd_exact {p L c k : Nat} (hp : 0 < p) (hc : c < 2 ^ p) (hk : L ≤ k) : val p L (rnd p L (c * 2 ^ k)) = c * 2 ^ k := by
  rw [val_rnd hp]
  have hs : rsh p L (c * 2 ^ k) ≤ k := by
    by_cases h0 : c * 2 ^ k = 0
    · rw [h0]; unfold rsh; simp; omega
    · have : c * 2 ^ k < 2 ^ (p + k) := by rw [Nat.pow_add]; exact Nat.mul_lt_mul_of_pos_right hc (q_pos k)
      have := (Nat.log2_lt h0).mpr this
      unfold rsh; omega
  have e : c * 2 ^ k = (c * 2 ^ (k - rsh p L (c * 2 ^ k))) * 2 ^ rsh p L (c * 2 ^ k) := by rw [Nat.mul_assoc, ← q_pw hs]
  generalize rsh p L (c * 2 ^ k) = s at hs e ⊢
  rw [e, rD_mul (q_pos s)]
theorem val_step {p L b : Nat} (hp : 0 < p) : val p L (b + 1) = val p L b + 2 ^ vexp p L b := by
  have h1 := vsig_lt (p := p) (b := b) hp
  have h2 : vexp p L b = L ∨ 2 ^ (p - 1) ≤ vsig p b + 1 := by
    rcases vsig_norm (p := p) (L := L) (b := b) with h | h
    · exact Or.inl h
    · right; omega
  have h3 := val_code hp (vexp_ge p L b) (c := vsig p b + 1) (by omega) h2
  rw [← Nat.add_assoc, vcode] at h3
  rw [h3, Nat.add_mul, Nat.one_mul]; rfl
theorem val_mono1 {p L b : Nat} (hp : 0 < p) (n : Nat) : val p L b ≤ val p L (b + n) := by
  induction n with
  | zero => exact Nat.le_refl _
  | succ n ih => rw [← Nat.add_assoc, val_step hp]; exact Nat.le_trans ih (Nat.le_add_right _ _)
theorem val_le {p L a b : Nat} (hp : 0 < p) (h : a ≤ b) : val p L a ≤ val p L b := by
  have := val_mono1 (p := p) (L := L) (b := a) hp (b - a)
  rwa [Nat.add_sub_cancel' h] at this
theorem val_lt {p L a b : Nat} (hp : 0 < p) (h : a < b) : val p L a < val p L b := by
  have h1 := val_le (p := p) (L := L) hp (show a + 1 ≤ b from h)
  rw [val_step hp] at h1
  have := q_pos (vexp p L a)
  omega
theorem val_lt_iff {p L a b : Nat} (hp : 0 < p) : val p L a < val p L b ↔ a < b :=
  ⟨fun h => by rcases Nat.lt_or_ge a b with c | c; exact c; have := val_le (p := p) (L := L) hp c; omega, val_lt hp⟩
theorem val_le_iff {p L a b : Nat} (hp : 0 < p) : val p L a ≤ val p L b ↔ a ≤ b :=
  ⟨fun h => by rcases Nat.lt_or_ge b a with c | c; have := val_lt (p := p) (L := L) hp c; omega; exact c, val_le hp⟩
theorem val_inj {p L a b : Nat} (hp : 0 < p) (h : val p L a = val p L b) : a = b := by
  have h1 := (val_le_iff (p := p) (L := L) (a := a) (b := b) hp).mp (by omega)
  have h2 := (val_le_iff (p := p) (L := L) (a := b) (b := a) hp).mp (by omega)
  omega
theorem val_zero {p L : Nat} : val p L 0 = 0 := by unfold val vsig; simp
theorem val_eq_zero {p L b : Nat} (hp : 0 < p) (h : val p L b = 0) : b = 0 := val_inj (L := L) hp (by rw [h, val_zero])
theorem rnd_mono {p L V V' : Nat} (hp : 0 < p) (h : V ≤ V') : rnd p L V ≤ rnd p L V' := by
  have hs : rsh p L V ≤ rsh p L V' := by
    have : V.log2 ≤ V'.log2 := by
      by_cases h0 : V = 0
      · subst h0; simp
      · rcases Nat.lt_or_ge V'.log2 V.log2 with c | c
        · have h1 := q_loglo h0
          have h2 := (Nat.log2_lt (show V' ≠ 0 by omega)).mp c
          omega
        · exact c
    unfold rsh; omega
  refine (val_le_iff (L := L) hp).mp ?_
  rw [val_rnd hp, val_rnd hp]
  -- the point of the coarser grid between them
  rcases Nat.eq_or_lt_of_le hs with e | hs
  · rw [← e]
    refine Nat.mul_le_mul_right _ ?_
    have hD := q_pos (rsh p L V)
    obtain ⟨q, r, e1, hr⟩ := q_mk V hD
    obtain ⟨q', r', e1', hr'⟩ := q_mk V' hD
    rw [rD_eq e1 hr, rD_eq e1' hr']
    rcases Nat.lt_trichotomy q q' with c | c | c
    · split <;> split <;> omega
    · subst c
      split <;> split <;> omega
    · have : (q' + 1) * 2 ^ rsh p L V ≤ q * 2 ^ rsh p L V := Nat.mul_le_mul_right _ c
      rw [Nat.add_mul, Nat.one_mul] at this
      omega
  · have a1 : V < 2 ^ (rsh p L V + p) := rsh_hi
    have a2 : 2 ^ (rsh p L V' + p - 1) ≤ V' := by
      rcases rsh_lo (p := p) (L := L) (V := V') hp with c | c
      · have := rsh_ge p L V; omega
      · exact c
    have b1 : rD V (2 ^ rsh p L V) * 2 ^ rsh p L V ≤ 2 ^ (rsh p L V + p) := by
      rw [Nat.add_comm, Nat.pow_add]; exact Nat.mul_le_mul_right _ rD_rsh_le
    have b2 : 2 ^ (rsh p L V' + p - 1) ≤ rD V' (2 ^ rsh p L V') * 2 ^ rsh p L V' := by
      have : rsh p L V' + p - 1 = (p - 1) + rsh p L V' := by omega
      rw [this, Nat.pow_add] at a2 ⊢
      exact Nat.mul_le_mul_right _ (rD_ge (q_pos _) a2)
    have b3 : 2 ^ (rsh p L V + p) ≤ 2 ^ (rsh p L V' + p - 1) := Nat.pow_le_pow_right (by decide) (by omega)
    omega
/-- a last digit that is set for all that is lost below it -/
theorem rnd_or1 {p L M k ε : Nat} (hM : 2 ^ (p + 1) ≤ M) (h0 : 0 < ε) (h1 : ε < 2 ^ k) : rnd p L (M * 2 ^ k + ε) = rnd p L ((M + (1 - M % 2)) * 2 ^ k) := by
  have hB := q_pos k
  have e2 : 2 ^ (k + 1) = 2 * 2 ^ k := q_pw1 k
  have e3 : 2 ^ (p + 1) = 2 * 2 ^ p := q_pw1 p
  obtain ⟨m, c, hm, hc⟩ : ∃ m c, M = m * 2 + c ∧ c < 2 := q_mk M (by decide)
  have x1 : m * 2 ^ (k + 1) = 2 * (m * 2 ^ k) := by rw [e2, Nat.mul_left_comm]
  have x2 : (m + 1) * 2 ^ (k + 1) = 2 * (m * 2 ^ k) + 2 * 2 ^ k := by rw [e2, Nat.add_mul, Nat.one_mul, Nat.mul_left_comm]
  have x3 : M * 2 ^ k = 2 * (m * 2 ^ k) + c * 2 ^ k := by rw [hm, Nat.add_mul, Nat.mul_right_comm, Nat.mul_comm (m * 2 ^ k) 2]
  have x4 : (M + (1 - M % 2)) * 2 ^ k = 2 * (m * 2 ^ k) + 2 ^ k := by
    have : M + (1 - M % 2) = m * 2 + 1 := by omega
    rw [this, Nat.add_mul, Nat.one_mul, Nat.mul_right_comm, Nat.mul_comm (m * 2 ^ k) 2]
  have x5 : c * 2 ^ k ≤ 2 ^ k := by
    have : c ≤ 1 := by omega
    have := Nat.mul_le_mul_right (2 ^ k) this
    omega
  exact rnd_stick (m := m) (k := k + 1) (by omega) (by omega) (by omega) (by omega) (by omega)
/-- a number and what is far below its last digit -/
theorem rnd_near_add {p L X k t : Nat} (hp : 0 < p) (hL : L ≤ k) (hX : X < 2 ^ p) (hX2 : 2 ^ (p - 1) ≤ X) (ht : 2 * t < 2 ^ k) : rnd p L (X * 2 ^ k + t) = rnd p L (X * 2 ^ k) := by
  have e0 : 2 ^ (k + p) = 2 ^ p * 2 ^ k := by rw [Nat.add_comm, Nat.pow_add]
  have e1 : 2 ^ (k + p - 1) = 2 ^ (p - 1) * 2 ^ k := by rw [← Nat.pow_add]; congr 1; omega
  have h1 : (X + 1) * 2 ^ k ≤ 2 ^ p * 2 ^ k := Nat.mul_le_mul_right _ hX
  have h2 : 2 ^ (p - 1) * 2 ^ k ≤ X * 2 ^ k := Nat.mul_le_mul_right _ hX2
  rw [Nat.add_mul, Nat.one_mul] at h1
  rw [rnd_at hp hL (by omega) (by omega), rnd_at (V := X * 2 ^ k) hp hL (by omega) (by omega), rD_mul (q_pos k)]
  rw [rD_lo (q := X) (q_pos k) (by omega) (by rw [Nat.add_mul, Nat.one_mul, Nat.mul_assoc]; omega)]
theorem rnd_near_sub {p L X k t : Nat} (hp : 1 < p) (hL : L < k) (hX : X < 2 ^ p) (hX2 : 2 ^ (p - 1) ≤ X) (ht : 4 * t < 2 ^ k) : rnd p L (X * 2 ^ k - t) = rnd p L (X * 2 ^ k) := by
  have e0 : 2 ^ (k + p) = 2 ^ p * 2 ^ k := by rw [Nat.add_comm, Nat.pow_add]
  have e1 : 2 ^ (k + p - 1) = 2 ^ (p - 1) * 2 ^ k := by rw [← Nat.pow_add]; congr 1; omega
  have h1 : (X + 1) * 2 ^ k ≤ 2 ^ p * 2 ^ k := Nat.mul_le_mul_right _ hX
  have h2 : 2 ^ (p - 1) * 2 ^ k ≤ X * 2 ^ k := Nat.mul_le_mul_right _ hX2
  have hB := q_pos k
  have hP := q_pos (p - 1)
  rw [Nat.add_mul, Nat.one_mul] at h1
  rw [rnd_at (V := X * 2 ^ k) (by omega) (Nat.le_of_lt hL) (by omega) (by omega), rD_mul hB]
  have hx1 : 1 * 2 ^ k ≤ X * 2 ^ k := Nat.mul_le_mul_right _ (by omega)
  rcases Nat.eq_or_lt_of_le hX2 with c | c
  · -- the least of its row: the digits below are half as wide
    have f1 : 2 ^ k = 2 * 2 ^ (k - 1) := by rw [← q_pw1]; congr 1; omega
    have f2 : k - 1 + p = (p - 1) + k := by omega
    have f3 : k - 1 + p - 1 = (p - 2) + k := by omega
    have f4 : 2 ^ (p - 1) = 2 * 2 ^ (p - 2) := by rw [← q_pw1]; congr 1; omega
    have f5 : 2 ^ p = 2 * 2 ^ (p - 1) := by rw [← q_pw1]; congr 1; omega
    have hQ := q_pos (p - 2)
    have g1 : 2 ^ (k - 1 + p) = X * 2 ^ k := by rw [f2, Nat.pow_add, c]
    have g2 : 2 ^ (k - 1 + p - 1) = 2 ^ (p - 2) * 2 ^ k := by rw [f3, Nat.pow_add]
    have g3 : X * 2 ^ k = 2 * (2 ^ (p - 2) * 2 ^ k) := by rw [← c, f4, Nat.mul_assoc]
    have g4 : 1 * 2 ^ k ≤ 2 ^ (p - 2) * 2 ^ k := Nat.mul_le_mul_right _ (by omega)
    rw [rnd_at (sh := k - 1) (by omega) (by omega) (by omega) (by omega)]
    have g5 : X * 2 ^ k = 2 ^ p * 2 ^ (k - 1) := by rw [f5, ← c, f1, Nat.mul_left_comm, Nat.mul_assoc]
    have g6 : 2 ^ p - 1 + 1 = 2 ^ p := by omega
    rw [rD_hi (q := 2 ^ p - 1) (q_pos _) (by rw [g6]; omega) (by
      have : (2 * (2 ^ p - 1) + 1) * 2 ^ (k - 1) + 2 ^ (k - 1) = 2 * (2 ^ p * 2 ^ (k - 1)) := by
        rw [← Nat.mul_assoc, ← Nat.succ_mul]; congr 1; omega
      omega), g6]
    have g7 : k - L = (k - 1 - L) + 1 := by omega
    rw [g7, Nat.add_mul, ← c]; omega
  · have hx2 : (2 ^ (p - 1) + 1) * 2 ^ k ≤ X * 2 ^ k := Nat.mul_le_mul_right _ c
    rw [Nat.add_mul, Nat.one_mul] at hx2
    rw [rnd_at (sh := k) (by omega) (Nat.le_of_lt hL) (by omega) (by omega)]
    obtain ⟨Y, hY⟩ : ∃ Y, X = Y + 1 := ⟨X - 1, by omega⟩
    subst hY
    rw [rD_hi (q := Y) hB (by omega) (by
      have : (2 * Y + 1) * 2 ^ k + 2 ^ k = 2 * ((Y + 1) * 2 ^ k) := by rw [← Nat.mul_assoc, ← Nat.succ_mul]; congr 1
      omega)]
-- the smaller summand, moved down
def lowN (s d : Nat) : Nat := if 62 < d then 0 else if s % 2 ^ d = 0 then s / 2 ^ d else s / 2 ^ d + (1 - s / 2 ^ d % 2)
theorem lowN_ex {Y kl d : Nat} (hk : d + 9 ≤ kl) (h : Y * 512 % 2 ^ d = 0) : Y * 512 / 2 ^ d * 2 ^ (kl - 9) = Y * 2 ^ (kl - d) := by
  have e1 : 2 ^ (kl - 9) = 2 ^ d * 2 ^ (kl - d - 9) := by rw [← Nat.pow_add]; congr 1; omega
  have e2 : 2 ^ (kl - d) = 512 * 2 ^ (kl - d - 9) := by rw [show 512 = 2 ^ 9 from rfl, ← Nat.pow_add]; congr 1; omega
  have e3 := Nat.div_add_mod (Y * 512) (2 ^ d)
  rw [h, Nat.add_zero, Nat.mul_comm] at e3
  rw [e1, e2, ← Nat.mul_assoc, e3, Nat.mul_assoc]
theorem lowN_in {Y kl d : Nat} (hk : d + 9 ≤ kl) (h : Y * 512 % 2 ^ d ≠ 0) : ∃ ε, 0 < ε ∧ ε < 2 ^ (kl - 9) ∧ Y * 2 ^ (kl - d) = Y * 512 / 2 ^ d * 2 ^ (kl - 9) + ε := by
  have e1 : 2 ^ (kl - 9) = 2 ^ d * 2 ^ (kl - d - 9) := by rw [← Nat.pow_add]; congr 1; omega
  have e2 : 2 ^ (kl - d) = 512 * 2 ^ (kl - d - 9) := by rw [show 512 = 2 ^ 9 from rfl, ← Nat.pow_add]; congr 1; omega
  have e3 := Nat.div_add_mod (Y * 512) (2 ^ d)
  refine ⟨Y * 512 % 2 ^ d * 2 ^ (kl - d - 9), Nat.mul_pos (by omega) (q_pos _), ?_, ?_⟩
  · rw [e1]; exact Nat.mul_lt_mul_of_pos_right (Nat.mod_lt _ (q_pos d)) (q_pos _)
  · rw [e1, e2, ← Nat.mul_assoc, ← Nat.mul_assoc, ← Nat.add_mul, Nat.mul_comm (Y * 512 / 2 ^ d), e3]
theorem lowN_d {Y d : Nat} (h : Y * 512 % 2 ^ d ≠ 0) : 9 < d := by
  rcases Nat.lt_or_ge 9 d with c | c
  · exact c
  · exact absurd (Nat.mod_eq_zero_of_dvd (Nat.dvd_mul_left_of_dvd (by rw [show 512 = 2 ^ 9 from rfl]; exact Nat.pow_dvd_pow 2 c) Y)) h
theorem cs_add {L X Y kl d : Nat} (hL : L + d ≤ kl) (hk : d + 9 ≤ kl) (hX : X < 2 ^ 53) (hY : Y < 2 ^ 53) (hn : d = 0 ∨ 2 ^ 52 ≤ X) :
    rnd 53 L ((X * 512 + lowN (Y * 512) d) * 2 ^ (kl - 9)) = rnd 53 L (X * 2 ^ kl + Y * 2 ^ (kl - d)) := by
  have e0 : X * 512 * 2 ^ (kl - 9) = X * 2 ^ kl := by rw [Nat.mul_assoc, show 512 = 2 ^ 9 from rfl, ← Nat.pow_add]; congr 2; omega
  unfold lowN
  split
  · next h62 =>
    rw [Nat.add_zero, e0]
    refine (rnd_near_add (by decide) (by omega) hX (by omega) ?_).symm
    have a1 : Y * 2 ^ (kl - d) < 2 ^ 53 * 2 ^ (kl - d) := Nat.mul_lt_mul_of_pos_right hY (q_pos _)
    have a2 : 2 ^ 53 * 2 ^ (kl - d) ≤ 2 ^ (kl - 10) := by rw [← Nat.pow_add]; exact Nat.pow_le_pow_right (by decide) (by omega)
    have a3 : 2 ^ kl = 1024 * 2 ^ (kl - 10) := by rw [show 1024 = 2 ^ 10 from rfl, ← Nat.pow_add]; congr 1; omega
    omega
  · split
    · next h => rw [Nat.add_mul, e0, lowN_ex hk h]
    · next h =>
      obtain ⟨ε, h1, h2, h3⟩ := lowN_in hk h
      have hd := lowN_d h
      have hx : 2 ^ 52 ≤ X := by omega
      have e5 : X * 512 * 2 ^ (kl - 9) + (Y * 512 / 2 ^ d * 2 ^ (kl - 9) + ε) = (X * 512 + Y * 512 / 2 ^ d) * 2 ^ (kl - 9) + ε := by rw [Nat.add_mul, Nat.add_assoc]
      rw [h3, ← e0, e5]
      generalize Y * 512 / 2 ^ d = q
      rw [rnd_or1 (by omega) h1 h2]
      have e6 : X * 512 + (q + (1 - q % 2)) = X * 512 + q + (1 - (X * 512 + q) % 2) := by omega
      rw [e6]
theorem cs_sub {L X Y kl d : Nat} (hL : L + d ≤ kl) (hk : d + 9 ≤ kl) (hX : X < 2 ^ 53) (hY : Y < 2 ^ 53) (hn : d = 0 ∨ 2 ^ 52 ≤ X) (hle : Y * 2 ^ (kl - d) ≤ X * 2 ^ kl) :
    lowN (Y * 512) d ≤ X * 512 ∧ rnd 53 L ((X * 512 - lowN (Y * 512) d) * 2 ^ (kl - 9)) = rnd 53 L (X * 2 ^ kl - Y * 2 ^ (kl - d)) := by
  have e0 : X * 512 * 2 ^ (kl - 9) = X * 2 ^ kl := by rw [Nat.mul_assoc, show 512 = 2 ^ 9 from rfl, ← Nat.pow_add]; congr 2; omega
  unfold lowN
  split
  · next h62 =>
    refine ⟨Nat.zero_le _, ?_⟩
    rw [Nat.sub_zero, e0]
    refine (rnd_near_sub (by decide) (by omega) hX (by omega) ?_).symm
    have a1 : Y * 2 ^ (kl - d) < 2 ^ 53 * 2 ^ (kl - d) := Nat.mul_lt_mul_of_pos_right hY (q_pos _)
    have a2 : 2 ^ 53 * 2 ^ (kl - d) ≤ 2 ^ (kl - 10) := by rw [← Nat.pow_add]; exact Nat.pow_le_pow_right (by decide) (by omega)
    have a3 : 2 ^ kl = 1024 * 2 ^ (kl - 10) := by rw [show 1024 = 2 ^ 10 from rfl, ← Nat.pow_add]; congr 1; omega
    omega
  · split
    · next h =>
      have e1 := lowN_ex hk h
      refine ⟨?_, by rw [Nat.sub_mul, e0, e1]⟩
      rw [← e1, ← e0] at hle
      exact Nat.le_of_mul_le_mul_right hle (q_pos _)
    · next h =>
      obtain ⟨ε, h1, h2, h3⟩ := lowN_in hk h
      have hd := lowN_d h
      have hx : 2 ^ 52 ≤ X := by omega
      have hl : Y * 512 / 2 ^ d < 2 ^ 52 := by
        refine Nat.div_lt_of_lt_mul ?_
        have : 2 ^ 10 ≤ 2 ^ d := Nat.pow_le_pow_right (by decide) hd
        have := Nat.mul_le_mul_right (2 ^ 52) this
        omega
      refine ⟨by generalize Y * 512 / 2 ^ d = q at hl; omega, ?_⟩
      have e4 : X * 2 ^ kl - Y * 2 ^ (kl - d) = (X * 512 - Y * 512 / 2 ^ d - 1) * 2 ^ (kl - 9) + (2 ^ (kl - 9) - ε) := by
        rw [h3, ← e0]
        have : X * 512 * 2 ^ (kl - 9) = (X * 512 - Y * 512 / 2 ^ d - 1) * 2 ^ (kl - 9) + Y * 512 / 2 ^ d * 2 ^ (kl - 9) + 2 ^ (kl - 9) := by
          rw [← Nat.add_mul, ← Nat.succ_mul]
          generalize Y * 512 / 2 ^ d = q at hl
          have e7 : X * 512 = (X * 512 - q - 1 + q).succ := by omega
          rw [← e7]
        omega
      rw [e4]
      generalize Y * 512 / 2 ^ d = q at hl
      rw [rnd_or1 (by omega) (by omega) (by omega)]
      have e6 : X * 512 - (q + (1 - q % 2)) = X * 512 - q - 1 + (1 - (X * 512 - q - 1) % 2) := by omega
      rw [e6]
/-- the product without its low digits -/
theorem cs_mul {L P k : Nat} (hP : P = 0 ∨ 2 ^ 104 ≤ P) : rnd 53 L ((if P % 2 ^ 44 = 0 then P / 2 ^ 44 else P / 2 ^ 44 + (1 - P / 2 ^ 44 % 2)) * 2 ^ (k + 44)) = rnd 53 L (P * 2 ^ k) := by
  have e3 := Nat.div_add_mod P (2 ^ 44)
  have e1 : 2 ^ (k + 44) = 2 ^ 44 * 2 ^ k := by rw [Nat.add_comm, Nat.pow_add]
  split
  · next h =>
    rw [h, Nat.add_zero, Nat.mul_comm] at e3
    rw [e1, ← Nat.mul_assoc, e3]
  · next h =>
    have : P * 2 ^ k = P / 2 ^ 44 * 2 ^ (k + 44) + P % 2 ^ 44 * 2 ^ k := by
      rw [e1, ← Nat.mul_assoc, ← Nat.add_mul, Nat.mul_comm (P / 2 ^ 44), e3]
    rw [this]
    refine (rnd_or1 ?_ (Nat.mul_pos (by omega) (q_pos k)) ?_).symm
    · omega
    · rw [e1]; exact Nat.mul_lt_mul_of_pos_right (Nat.mod_lt _ (by decide)) (q_pos k)
end
section
/-! OUR OWN ROWS: rounding of m times 2 to the k by a shift of m -/
theorem q_log_mul {m : Nat} (k : Nat) (hm : m ≠ 0) : (m * 2 ^ k).log2 = m.log2 + k := by
  have h1 := q_loglo hm
  have h2 := q_loghi m
  refine q_log ?_ ?_
  · rw [Nat.pow_add]; exact Nat.mul_le_mul_right _ h1
  · have : m.log2 + k + 1 = (m.log2 + 1) + k := by omega
    rw [this, Nat.pow_add]; exact Nat.mul_lt_mul_of_pos_right h2 (q_pos k)
theorem rs_sh {p L m k : Nat} (hm : m ≠ 0) : rsh p L (m * 2 ^ k) = max (m.log2 + k + 1 - p) L := by unfold rsh; rw [q_log_mul k hm]
theorem rs_lo {m k d : Nat} (hd : d ≤ k) : rD (m * 2 ^ k) (2 ^ (k - d)) = m * 2 ^ d := by
  have e : m * 2 ^ k = (m * 2 ^ d) * 2 ^ (k - d) := by rw [Nat.mul_assoc, ← Nat.pow_add]; congr 2; omega
  rw [e, rD_mul (q_pos _)]
theorem rs_mid {m k d : Nat} : rD (m * 2 ^ k) (2 ^ (k + d)) = rD m (2 ^ d) := by
  rw [Nat.add_comm, Nat.pow_add]; exact rD_scale (q_pos d) (q_pos k)
theorem rs_far {m k d : Nat} (hm : m ≤ 2 ^ 63) (hd : 64 ≤ d) : rD (m * 2 ^ k) (2 ^ (k + d)) = 0 := by
  rw [rs_mid]
  have h : 2 ^ 64 ≤ 2 ^ d := Nat.pow_le_pow_right (by decide) hd
  rw [rD_eq (q := 0) (r := m) (by omega) (by omega), if_neg (by omega)]
theorem rs_mlog {m k : Nat} (hk : 0 < k) (hm : m ≠ 0) : ((2 * m + 1) * 2 ^ (k - 1)).log2 = m.log2 + k := by
  have h1 := q_loglo hm
  have h2 := q_loghi m
  have hB := q_pos (k - 1)
  refine q_log ?_ ?_
  · have : 2 ^ (m.log2 + k) = (2 * 2 ^ m.log2) * 2 ^ (k - 1) := by rw [← q_pw1, ← Nat.pow_add]; congr 1; omega
    rw [this]; exact Nat.mul_le_mul_right _ (by omega)
  · have : 2 ^ (m.log2 + k + 1) = (2 * 2 ^ (m.log2 + 1)) * 2 ^ (k - 1) := by rw [← q_pw1, ← Nat.pow_add]; congr 1; omega
    rw [this]; exact Nat.mul_lt_mul_of_pos_right (by omega) hB
theorem rs_msh {p L m k : Nat} (hk : 0 < k) (hm : m ≠ 0) : rsh p L ((2 * m + 1) * 2 ^ (k - 1)) = max (m.log2 + k + 1 - p) L := by unfold rsh; rw [rs_mlog hk hm]
theorem rs_more {m k d : Nat} (hk : 0 < k) (hd : 0 < d) : rD ((2 * m + 1) * 2 ^ (k - 1)) (2 ^ (k + d)) = m / 2 ^ d + (if 2 ^ (d - 1) ≤ m % 2 ^ d then 1 else 0) := by
  have hk1 : 2 ^ k = 2 * 2 ^ (k - 1) := by rw [← q_pw1]; congr 1; omega
  have hd1 : 2 ^ d = 2 * 2 ^ (d - 1) := by rw [← q_pw1]; congr 1; omega
  have hB := q_pos (k - 1)
  have e0 := Nat.div_add_mod m (2 ^ d)
  have hr := Nat.mod_lt m (q_pos d)
  have e1 : (2 * m + 1) * 2 ^ (k - 1) = (m / 2 ^ d * (2 * 2 ^ (d - 1)) + m % 2 ^ d) * 2 ^ k + 2 ^ (k - 1) := by
    rw [← hd1, Nat.mul_comm (m / 2 ^ d), e0, hk1, Nat.add_mul, Nat.one_mul]
    congr 1
    rw [Nat.mul_comm 2 m, Nat.mul_assoc]
  have e2 : 2 ^ (k + d) = 2 * 2 ^ (d - 1) * 2 ^ k := by rw [Nat.add_comm, Nat.pow_add, hd1]
  rw [e1, e2, rD_stick hB (by omega) (by omega)]
  split <;> rfl
theorem rs_most {p L m k : Nat} (hm : 2 ^ p ≤ m) (hk : 0 < k) {V : Nat} (h1 : m * 2 ^ k < V) (h2 : V < (m + 1) * 2 ^ k) : rnd p L V = rnd p L ((2 * m + 1) * 2 ^ (k - 1)) := by
  have hk1 : 2 ^ k = 2 * 2 ^ (k - 1) := by rw [← q_pw1]; congr 1; omega
  have hB := q_pos (k - 1)
  have e1 : m * 2 ^ k = 2 * (m * 2 ^ (k - 1)) := by rw [hk1, Nat.mul_left_comm]
  have e2 : (m + 1) * 2 ^ k = 2 * (m * 2 ^ (k - 1)) + 2 * 2 ^ (k - 1) := by rw [hk1, Nat.add_mul, Nat.one_mul, Nat.mul_left_comm]
  have e3 : (2 * m + 1) * 2 ^ (k - 1) = 2 * (m * 2 ^ (k - 1)) + 2 ^ (k - 1) := by rw [Nat.add_mul, Nat.one_mul, Nat.mul_assoc]
  exact rnd_stick hm h1 h2 (by omega) (by omega)
end
section
/-! OUR OWN ROWS: float results by way of doubles -/
theorem q_pm {a b c : Nat} (h : a + b = c) : 2 ^ c = 2 ^ a * 2 ^ b := by rw [← h, Nat.pow_add]
theorem q_half {k : Nat} (h : 0 < k) : 2 ^ k = 2 * 2 ^ (k - 1) := by
  have e : 2 ^ k = 2 ^ 1 * 2 ^ (k - 1) := q_pm (by omega)
  rw [e, Nat.pow_one]
theorem q_x32 {X k : Nat} (h : 5 ≤ k) : 32 * X * 2 ^ (k - 5) = X * 2 ^ k := by
  have e : 2 ^ k = 2 ^ 5 * 2 ^ (k - 5) := q_pm (by omega)
  rw [e, Nat.mul_comm 32 X, Nat.mul_assoc]
theorem rsh_two (V : Nat) : rsh 53 1926 V < rsh 24 2851 V := by unfold rsh; omega
theorem fl_of {V : Nat} (hm : ∀ j, val 53 1926 (rnd 53 1926 V) = (2 * j + 1) * 2 ^ (rsh 24 2851 V - 1) → val 53 1926 (rnd 53 1926 V) = V) :
    rnd 24 2851 (val 53 1926 (rnd 53 1926 V)) = rnd 24 2851 V := by
  rw [val_rnd (by decide)] at hm ⊢
  exact rnd_twice (by decide) (rsh_two V) hm
theorem fl_exact {c k : Nat} (hc : c < 2 ^ 53) (hk : 1926 ≤ k) : rnd 24 2851 (val 53 1926 (rnd 53 1926 (c * 2 ^ k))) = rnd 24 2851 (c * 2 ^ k) := by
  rw [rnd_exact (by decide) hc hk]
/-- between points of a grid that a double can tell -/
theorem val_rnd_up {V t k : Nat} (hV : V < 2 ^ (k + 53)) (hk : 1926 ≤ k) (h : V ≤ t * 2 ^ k) : val 53 1926 (rnd 53 1926 V) ≤ t * 2 ^ k := by
  rw [val_rnd (by decide)]
  have hs : rsh 53 1926 V ≤ k := by
    by_cases h0 : V = 0
    · subst h0; unfold rsh; simp; omega
    · have := (Nat.log2_lt h0).mpr hV
      unfold rsh; omega
  generalize rsh 53 1926 V = s at hs ⊢
  rw [q_pw hs, ← Nat.mul_assoc] at h ⊢
  exact Nat.mul_le_mul_right _ (rD_le (q_pos s) h)
theorem val_rnd_dn {V t k : Nat} (hV : V < 2 ^ (k + 53)) (hk : 1926 ≤ k) (h : t * 2 ^ k ≤ V) : t * 2 ^ k ≤ val 53 1926 (rnd 53 1926 V) := by
  rw [val_rnd (by decide)]
  have hs : rsh 53 1926 V ≤ k := by
    by_cases h0 : V = 0
    · subst h0; unfold rsh; simp; omega
    · have := (Nat.log2_lt h0).mpr hV
      unfold rsh; omega
  generalize rsh 53 1926 V = s at hs ⊢
  rw [q_pw hs, ← Nat.mul_assoc] at h ⊢
  exact Nat.mul_le_mul_right _ (rD_ge (q_pos s) h)
/-- a float and something far below its last digit: no double of it is a middle of two floats -/
theorem fl_far {V X k : Nat} (hk : 2851 < k) (hX : X < 2 ^ 24) (hX2 : 2 ^ 23 ≤ X) (h1 : (32 * X - 1) * 2 ^ (k - 5) ≤ V) (h2 : V ≤ (32 * X + 1) * 2 ^ (k - 5)) :
    rnd 24 2851 (val 53 1926 (rnd 53 1926 V)) = rnd 24 2851 V := by
  refine fl_of (fun j hj => ?_)
  exfalso
  have hB := q_pos (k - 5)
  have e24 : 2 ^ (k + 24) = 2 ^ 29 * 2 ^ (k - 5) := q_pm (by omega)
  have e22 : 2 ^ (k + 22) = 2 ^ 27 * 2 ^ (k - 5) := q_pm (by omega)
  have a1 : (32 * X + 1) * 2 ^ (k - 5) < 2 ^ 29 * 2 ^ (k - 5) := Nat.mul_lt_mul_of_pos_right (by omega) hB
  have a2 : 2 ^ 27 * 2 ^ (k - 5) ≤ (32 * X - 1) * 2 ^ (k - 5) := Nat.mul_le_mul_right _ (by omega)
  have v1 : V < 2 ^ (k + 24) := by omega
  have v2 : 2 ^ (k + 22) ≤ V := by omega
  have v3 : V < 2 ^ (k - 5 + 53) := Nat.lt_of_lt_of_le v1 (Nat.pow_le_pow_right (by decide) (by omega))
  have h0 : V ≠ 0 := by have := q_pos (k + 22); omega
  have l1 := (Nat.log2_lt h0).mpr v1
  have l2 : ¬ V.log2 < k + 22 := fun c => by have := (Nat.log2_lt h0).mp c; omega
  have hs : rsh 24 2851 V - 1 = k - 1 ∨ rsh 24 2851 V - 1 = k - 2 := by unfold rsh; omega
  have w1 := val_rnd_dn v3 (by omega) h1
  have w2 := val_rnd_up v3 (by omega) h2
  rw [hj] at w1 w2
  rcases hs with hs | hs
  · have e : 2 ^ (k - 1) = 2 ^ 4 * 2 ^ (k - 5) := q_pm (by omega)
    rw [hs, e, ← Nat.mul_assoc] at w1 w2
    have := Nat.le_of_mul_le_mul_right w1 hB
    have := Nat.le_of_mul_le_mul_right w2 hB
    omega
  · have e : 2 ^ (k - 2) = 2 ^ 3 * 2 ^ (k - 5) := q_pm (by omega)
    rw [hs, e, ← Nat.mul_assoc] at w1 w2
    have := Nat.le_of_mul_le_mul_right w1 hB
    have := Nat.le_of_mul_le_mul_right w2 hB
    omega
theorem fl_add {X Y k l : Nat} (hl : 2851 ≤ l) (hkl : l ≤ k) (hX : X < 2 ^ 24) (hY : Y < 2 ^ 24) (hn : k = 2851 ∨ 2 ^ 23 ≤ X) :
    rnd 24 2851 (val 53 1926 (rnd 53 1926 (X * 2 ^ k + Y * 2 ^ l))) = rnd 24 2851 (X * 2 ^ k + Y * 2 ^ l) := by
  rcases Nat.lt_or_ge 28 (k - l) with c | c
  · refine fl_far (X := X) (k := k) (by omega) hX (by omega) ?_ ?_
    · have e : 32 * X * 2 ^ (k - 5) = X * 2 ^ k := q_x32 (by omega)
      have : (32 * X - 1) * 2 ^ (k - 5) ≤ 32 * X * 2 ^ (k - 5) := Nat.mul_le_mul_right _ (by omega)
      omega
    · have e : 32 * X * 2 ^ (k - 5) = X * 2 ^ k := q_x32 (by omega)
      have a1 : Y * 2 ^ l ≤ 2 ^ 24 * 2 ^ l := Nat.mul_le_mul_right _ (Nat.le_of_lt hY)
      have a2 : 2 ^ 24 * 2 ^ l ≤ 2 ^ (k - 5) := by rw [← Nat.pow_add]; exact Nat.pow_le_pow_right (by decide) (by omega)
      rw [Nat.add_mul, Nat.one_mul, e]; omega
  · have e : X * 2 ^ k + Y * 2 ^ l = (X * 2 ^ (k - l) + Y) * 2 ^ l := by rw [Nat.add_mul, Nat.mul_assoc, ← q_pw hkl]
    rw [e]
    refine fl_exact ?_ (by omega)
    have a1 : X * 2 ^ (k - l) ≤ X * 2 ^ 28 := Nat.mul_le_mul_left _ (Nat.pow_le_pow_right (by decide) c)
    omega
theorem fl_sub {X Y k l : Nat} (hl : 2851 ≤ l) (hkl : l ≤ k) (hX : X < 2 ^ 24) (hY : Y < 2 ^ 24) (hn : k = 2851 ∨ 2 ^ 23 ≤ X) :
    rnd 24 2851 (val 53 1926 (rnd 53 1926 (X * 2 ^ k - Y * 2 ^ l))) = rnd 24 2851 (X * 2 ^ k - Y * 2 ^ l) := by
  rcases Nat.lt_or_ge 28 (k - l) with c | c
  · have e : 32 * X * 2 ^ (k - 5) = X * 2 ^ k := q_x32 (by omega)
    refine fl_far (X := X) (k := k) (by omega) hX (by omega) ?_ ?_
    · have a1 : Y * 2 ^ l ≤ 2 ^ 24 * 2 ^ l := Nat.mul_le_mul_right _ (Nat.le_of_lt hY)
      have a2 : 2 ^ 24 * 2 ^ l ≤ 2 ^ (k - 5) := by rw [← Nat.pow_add]; exact Nat.pow_le_pow_right (by decide) (by omega)
      rw [Nat.sub_mul, Nat.one_mul, e]; omega
    · have : 32 * X * 2 ^ (k - 5) ≤ (32 * X + 1) * 2 ^ (k - 5) := Nat.mul_le_mul_right _ (by omega)
      omega
  · have e : X * 2 ^ k - Y * 2 ^ l = (X * 2 ^ (k - l) - Y) * 2 ^ l := by rw [Nat.sub_mul, Nat.mul_assoc, ← q_pw hkl]
    rw [e]
    refine fl_exact ?_ (by omega)
    have a1 : X * 2 ^ (k - l) ≤ X * 2 ^ 28 := Nat.mul_le_mul_left _ (Nat.pow_le_pow_right (by decide) c)
    omega
-- a smaller number less a larger one of the same last place, both small
theorem fl_sub' {X Y k l : Nat} (hl : 2851 ≤ l) (hkl : l ≤ k) (hX : X < 2 ^ 24) (hY : Y < 2 ^ 24) (hn : k = 2851 ∨ 2 ^ 23 ≤ X) :
    rnd 24 2851 (val 53 1926 (rnd 53 1926 (Y * 2 ^ l - X * 2 ^ k))) = rnd 24 2851 (Y * 2 ^ l - X * 2 ^ k) := by
  have e : Y * 2 ^ l - X * 2 ^ k = (Y - X * 2 ^ (k - l)) * 2 ^ l := by rw [Nat.sub_mul, Nat.mul_assoc, ← q_pw hkl]
  rw [e]; exact fl_exact (by omega) (by omega)
-- the quotient of two full significands, with sixty digits and a sign that there is more
def quoV (x y k : Nat) : Nat := if x * 2 ^ 60 % y = 0 then x * 2 ^ 60 / y * 2 ^ k else (2 * (x * 2 ^ 60 / y) + 1) * 2 ^ (k - 1)
theorem quo_rng {x y P : Nat} (hP : 0 < P) (hx1 : P ≤ x) (hx2 : x < 2 * P) (hy1 : P ≤ y) (hy2 : y < 2 * P) : 2 ^ 59 ≤ x * 2 ^ 60 / y ∧ x * 2 ^ 60 / y < 2 ^ 61 := by
  constructor
  · rw [Nat.le_div_iff_mul_le (by omega)]; omega
  · refine Nat.div_lt_of_lt_mul ?_; omega
theorem quo_mid {x y Q r M : Nat} (hd : y * Q + r = x * 2 ^ 60) (hr : r < y) (hy : y < 2 ^ 24) (m1 : M * 2 ^ 35 ≤ Q + 256) (m2 : Q ≤ M * 2 ^ 35 + 256) : x * 2 ^ 60 = M * 2 ^ 35 * y := by
  have n1 : y * (M * 2 ^ 35) ≤ y * (Q + 256) := Nat.mul_le_mul_left y m1
  have n2 : y * Q ≤ y * (M * 2 ^ 35 + 256) := Nat.mul_le_mul_left y m2
  rw [Nat.mul_add] at n1 n2
  have n3 : y * (M * 2 ^ 35) = y * M * 2 ^ 35 := (Nat.mul_assoc y M (2 ^ 35)).symm
  have n4 : M * 2 ^ 35 * y = y * M * 2 ^ 35 := by rw [Nat.mul_comm, n3]
  rw [n3] at n1 n2
  rw [n4]
  generalize y * M = A at n1 n2
  generalize y * Q = P at hd n1 n2
  clear n3 n4 m1 m2
  have p1 : (2 : Nat) ^ 60 = 1152921504606846976 := by decide
  have p2 : (2 : Nat) ^ 35 = 34359738368 := by decide
  rw [p1] at hd ⊢
  rw [p2] at n1 n2 ⊢
  omega
theorem quo_b {Q A : Nat} (m1 : Q / 256 * 2 ^ 8 ≤ A) (m2 : A ≤ (Q / 256 + 1) * 2 ^ 8) : A ≤ Q + 256 ∧ Q ≤ A + 256 := by omega
theorem fl_quo {x y k : Nat} (hx1 : 2 ^ 23 ≤ x) (hx2 : x < 2 ^ 24) (hy1 : 2 ^ 23 ≤ y) (hy2 : y < 2 ^ 24) (hk : 2000 ≤ k) :
    rnd 24 2851 (val 53 1926 (rnd 53 1926 (quoV x y k))) = rnd 24 2851 (quoV x y k) := by
  obtain ⟨r1, r2⟩ := quo_rng (P := 2 ^ 23) (by decide) hx1 (by omega) hy1 (by omega)
  have hd := Nat.div_add_mod (x * 2 ^ 60) y
  have hm := Nat.mod_lt (x * 2 ^ 60) (show 0 < y by omega)
  refine fl_of (fun j hj => ?_)
  generalize hV : quoV x y k = V at hj ⊢
  have hk1 : 2 ^ k = 2 * 2 ^ (k - 1) := q_half (by omega)
  have hB := q_pos (k - 1)
  -- V lies in [Q, Q + 1) of 2 ^ k
  have b1 : x * 2 ^ 60 / y * 2 ^ k ≤ V := by
    rw [← hV]; unfold quoV; split
    · exact Nat.le_refl _
    · rw [hk1, Nat.add_mul, Nat.mul_left_comm, Nat.mul_assoc]; omega
  have b2 : V < (x * 2 ^ 60 / y + 1) * 2 ^ k := by
    rw [← hV]; unfold quoV; split
    · exact Nat.mul_lt_mul_of_pos_right (by omega) (q_pos k)
    · rw [hk1, Nat.mul_left_comm, ← Nat.mul_assoc]; exact Nat.mul_lt_mul_of_pos_right (by omega) hB
  generalize hQ : x * 2 ^ 60 / y = Q at r1 r2 hd b1 b2
  have v1 : V < 2 ^ (k + 61) := by
    rw [Nat.add_comm, Nat.pow_add]; exact Nat.lt_of_lt_of_le b2 (Nat.mul_le_mul_right _ r2)
  have v2 : 2 ^ (k + 59) ≤ V := by
    rw [Nat.add_comm, Nat.pow_add]; exact Nat.le_trans (Nat.mul_le_mul_right _ r1) b1
  have h0 : V ≠ 0 := by have := q_pos (k + 59); omega
  have l1 := (Nat.log2_lt h0).mpr v1
  have l2 : ¬ V.log2 < k + 59 := fun c => by have := (Nat.log2_lt h0).mp c; omega
  have s2 : k + 36 ≤ rsh 24 2851 V := by unfold rsh; omega
  -- the middle is a multiple of 2 ^ (k + 35)
  have eM : (2 * j + 1) * 2 ^ (rsh 24 2851 V - 1) = ((2 * j + 1) * 2 ^ (rsh 24 2851 V - k - 36) * 2 ^ 35) * 2 ^ k := by
    have h1 : 2 ^ (rsh 24 2851 V - 1) = 2 ^ (rsh 24 2851 V - k - 36) * 2 ^ (35 + k) := q_pm (by omega)
    have h2 : 2 ^ (35 + k) = 2 ^ 35 * 2 ^ k := q_pm rfl
    rw [h1, h2, ← Nat.mul_assoc, ← Nat.mul_assoc]
  rw [eM] at hj
  generalize (2 * j + 1) * 2 ^ (rsh 24 2851 V - k - 36) = M at hj
  -- a double in between is off by at most 2 ^ (k + 8)
  have w1 : (Q / 256) * 2 ^ (k + 8) ≤ val 53 1926 (rnd 53 1926 V) := by
    refine val_rnd_dn (by rw [show k + 8 + 53 = k + 61 from by omega]; exact v1) (by omega) ?_
    refine Nat.le_trans ?_ b1
    rw [Nat.add_comm k 8, Nat.pow_add, ← Nat.mul_assoc]; exact Nat.mul_le_mul_right _ (by omega)
  have w2 : val 53 1926 (rnd 53 1926 V) ≤ (Q / 256 + 1) * 2 ^ (k + 8) := by
    refine val_rnd_up (by rw [show k + 8 + 53 = k + 61 from by omega]; exact v1) (by omega) ?_
    refine Nat.le_trans (Nat.le_of_lt b2) ?_
    rw [Nat.add_comm k 8, Nat.pow_add, ← Nat.mul_assoc]; exact Nat.mul_le_mul_right _ (by omega)
  rw [hj, Nat.add_comm k 8, Nat.pow_add, ← Nat.mul_assoc] at w1 w2
  have m1 := Nat.le_of_mul_le_mul_right w1 (q_pos k)
  have m2 := Nat.le_of_mul_le_mul_right w2 (q_pos k)
  have n5 : x * 2 ^ 60 = M * 2 ^ 35 * y + 0 := by rw [Nat.add_zero]; exact quo_mid (x := x) (y := y) (Q := Q) (M := M) hd hm hy2 (quo_b m1 m2).1 (quo_b m1 m2).2
  obtain ⟨c1, c2⟩ := q_div n5 (by omega)
  rw [hj, ← hV]; unfold quoV; rw [c2, if_pos rfl, c1]
/-- the remainder -/
theorem rem_scale {X Y d kb : Nat} : (X * 2 ^ (d + kb)) % (Y * 2 ^ kb) = (X * 2 ^ d % Y) * 2 ^ kb := by
  rw [Nat.pow_add, ← Nat.mul_assoc, Nat.mul_mod_mul_right]
end
section
/-! OUR OWN ROWS: what the operations answer, on codes as naturals; floats by way of doubles -/
abbrev I64 : Nat := 9218868437227405312
abbrev N64 : Nat := 9221120237041090560
abbrev I32 : Nat := 2139095040
abbrev N32 : Nat := 2143289344
abbrev W64 : Nat := 9223372036854775808
abbrev W32 : Nat := 2147483648
def addF (p L I N w a b : Nat) : Nat :=
  if I < a % w ∨ I < b % w then N
  else if a % w = I ∨ b % w = I then (if a % w = I ∧ b % w = I ∧ a ≠ b then N else if a % w = I then a else b)
  else if a / w = b / w then a / w * w + enc p L I (val p L (a % w) + val p L (b % w))
  else if val p L (a % w) = val p L (b % w) then 0
  else if val p L (b % w) < val p L (a % w) then a / w * w + enc p L I (val p L (a % w) - val p L (b % w))
  else b / w * w + enc p L I (val p L (b % w) - val p L (a % w))
def sgF (w a b : Nat) : Nat := (a / w + b / w) % 2 * w
def mulV (p L a b : Nat) : Nat := vsig p a * vsig p b * 2 ^ (vexp p L a + vexp p L b - 3000)
def mulF (p L I N w a b : Nat) : Nat :=
  if I < a % w ∨ I < b % w then N
  else if a % w = I ∨ b % w = I then (if a % w = 0 ∨ b % w = 0 then N else sgF w a b + I)
  else sgF w a b + enc p L I (mulV p L (a % w) (b % w))
def nrm (p c : Nat) : Nat := c * 2 ^ (p - 1 - c.log2)
def divV (p L a b : Nat) : Nat := quoV (nrm p (vsig p a)) (nrm p (vsig p b)) (vexp p L a + 2940 + (p - 1 - (vsig p b).log2) - vexp p L b - (p - 1 - (vsig p a).log2))
def divF (p L I N w a b : Nat) : Nat :=
  if I < a % w ∨ I < b % w then N
  else if a % w = I then (if b % w = I then N else sgF w a b + I)
  else if b % w = I then sgF w a b
  else if b % w = 0 then (if a % w = 0 then N else sgF w a b + I)
  else if a % w = 0 then sgF w a b
  else sgF w a b + enc p L I (divV p L (a % w) (b % w))
def remF (p L I N w a b : Nat) : Nat :=
  if I < a % w ∨ I < b % w ∨ a % w = I ∨ b % w = 0 then N
  else if a % w < b % w then a
  else a / w * w + enc p L I (val p L (a % w) % val p L (b % w))
def told (a : Nat) : Nat := if I64 < a % W64 then N64 else a
-- from a float's code to the double's
def cvt (m : Nat) : Nat := if m < I32 then rnd 53 1926 (val 24 2851 m) else if m = I32 then I64 else N64
def tD (a : Nat) : Nat := if I32 < a % W32 then N64 else a / W32 * W64 + cvt (a % W32)
-- from a double's code to the double's code of the nearest float
def toF (a : Nat) : Nat := if I64 < a % W64 then N64 else if a % W64 = I64 then a else a / W64 * W64 + cvt (enc 24 2851 I32 (val 53 1926 (a % W64)))
theorem i64_lt : I64 < W64 := by decide
theorem i32_lt : I32 < W32 := by decide
theorem val_I64 : val 53 1926 I64 = 2 ^ 4024 := by
  have h1 : I64 / 2 ^ (53 - 1) = 2047 := by decide
  have h2 : vsig 53 I64 = 2 ^ 52 := by decide
  have h3 : vexp 53 1926 I64 = 3972 := by unfold vexp; rw [h1]
  unfold val; rw [h2, h3, ← Nat.pow_add]
theorem val_I32 : val 24 2851 I32 = 2 ^ 3128 := by
  have h1 : I32 / 2 ^ (24 - 1) = 255 := by decide
  have h2 : vsig 24 I32 = 2 ^ 23 := by decide
  have h3 : vexp 24 2851 I32 = 3105 := by unfold vexp; rw [h1]
  unfold val; rw [h2, h3, ← Nat.pow_add]
theorem val_f_lt {m : Nat} (h : m < I32) : val 24 2851 m < 2 ^ 3128 := by
  rw [← val_I32]; exact val_lt (by decide) h
/-- a sum of doubles below the greatest: rounded it isn't infinite -/
theorem rnd_fin {V n : Nat} (h : V < 2 ^ n) (hn : n ≤ 4023) : rnd 53 1926 V < I64 := by
  refine (val_lt_iff (L := 1926) (p := 53) (by decide)).mp ?_
  rw [val_I64]
  have h1 : V ≤ 2 ^ 4023 := Nat.le_trans (Nat.le_of_lt h) (Nat.pow_le_pow_right (by decide) hn)
  have h2 : rnd 53 1926 V ≤ rnd 53 1926 (2 ^ 4023) := rnd_mono (by decide) h1
  have h3 := val_le (p := 53) (L := 1926) (by decide) h2
  have h4 : val 53 1926 (rnd 53 1926 (2 ^ 4023)) = 2 ^ 4023 := by
    have := rnd_exact (p := 53) (L := 1926) (c := 1) (k := 4023) (by decide) (by decide) (by decide)
    rwa [Nat.one_mul] at this
  have h5 : 2 ^ 4023 < 2 ^ 4024 := Nat.pow_lt_pow_right (by decide) (by decide)
  omega
theorem val_cvt {m : Nat} (h : m < I32) : val 53 1926 (rnd 53 1926 (val 24 2851 m)) = val 24 2851 m := by
  have h1 := vsig_lt (p := 24) (b := m) (by decide)
  have h2 := vexp_ge 24 2851 m
  unfold val
  exact rnd_exact (by decide) (by omega) (by omega)
theorem cvt_lt {m : Nat} (h : m < I32) : cvt m < I64 := by
  unfold cvt; rw [if_pos h]; exact rnd_fin (val_f_lt h) (by decide)
theorem cvt_I : cvt I32 = I64 := rfl
theorem cvt_zero : cvt 0 = 0 := by
  unfold cvt; rw [if_pos (by decide), val_zero, rnd_zero _ _ (by decide)]
theorem cvt_val {m : Nat} (h : m < I32) : val 53 1926 (cvt m) = val 24 2851 m := by
  unfold cvt; rw [if_pos h]; exact val_cvt h
theorem cvt_pos {m : Nat} (h : m < I32) (h0 : cvt m = 0) : m = 0 := by
  have := cvt_val h
  rw [h0, val_zero] at this
  exact val_eq_zero (by decide) this.symm
theorem q_split {s m w : Nat} (h : m < w) : (s * w + m) / w = s ∧ (s * w + m) % w = m := q_div rfl h
theorem enc_le (p L I V : Nat) : enc p L I V ≤ I := Nat.min_le_left _ _
theorem enc_zero (p L I : Nat) (hp : 0 < p) : enc p L I 0 = 0 := by unfold enc; rw [rnd_zero p L hp]; omega
/-- what a float's code is as a double -/
theorem tD_fin {a : Nat} (h : a % W32 < I32) : tD a / W64 = a / W32 ∧ tD a % W64 = cvt (a % W32) := by
  unfold tD; rw [if_neg (by omega)]
  exact q_split (Nat.lt_trans (cvt_lt h) i64_lt)
theorem tD_inf {a : Nat} (h : a % W32 = I32) : tD a / W64 = a / W32 ∧ tD a % W64 = I64 := by
  unfold tD; rw [if_neg (by omega), h, cvt_I]
  exact q_split (by decide)
theorem tD_nan {a : Nat} (h : I32 < a % W32) : tD a = N64 := by unfold tD; rw [if_pos h]
theorem toF_of {s V : Nat} (h : rnd 53 1926 V < I64) (h2 : rnd 24 2851 (val 53 1926 (rnd 53 1926 V)) = rnd 24 2851 V) : toF (s * W64 + enc 53 1926 I64 V) = s * W64 + cvt (enc 24 2851 I32 V) := by
  have he : enc 53 1926 I64 V = rnd 53 1926 V := by unfold enc; omega
  rw [he]
  obtain ⟨q1, q2⟩ := q_split (s := s) (m := rnd 53 1926 V) (w := W64) (Nat.lt_trans h i64_lt)
  unfold toF; rw [q1, q2, if_neg (by omega), if_neg (by omega)]
  unfold enc; rw [h2]
theorem tD_of {s V : Nat} : tD (s * W32 + enc 24 2851 I32 V) = s * W64 + cvt (enc 24 2851 I32 V) := by
  have := enc_le 24 2851 I32 V
  obtain ⟨q1, q2⟩ := q_split (s := s) (m := enc 24 2851 I32 V) (w := W32) (Nat.lt_of_le_of_lt this i32_lt)
  unfold tD; rw [q1, q2, if_neg (by omega)]
theorem tD_I {s : Nat} : tD (s * W32 + I32) = s * W64 + I64 := by
  obtain ⟨q1, q2⟩ := q_split (s := s) (m := I32) (w := W32) (by decide)
  unfold tD; rw [q1, q2, if_neg (by omega), cvt_I]
theorem tD_Z {s : Nat} : tD (s * W32) = s * W64 := by
  obtain ⟨q1, q2⟩ := q_split (s := s) (m := 0) (w := W32) (by decide)
  rw [Nat.add_zero] at q1 q2
  unfold tD; rw [q1, q2, if_neg (by omega), cvt_zero, Nat.add_zero]
theorem tD_N : tD N32 = N64 := tD_nan (by decide)
theorem toF_N : toF N64 = N64 := by unfold toF; rw [if_pos (by decide)]
theorem toF_I {s : Nat} : toF (s * W64 + I64) = s * W64 + I64 := by
  obtain ⟨q1, q2⟩ := q_split (s := s) (m := I64) (w := W64) (by decide)
  unfold toF; rw [q2, if_neg (by omega), if_pos rfl]
theorem toF_Z {s : Nat} : toF (s * W64) = s * W64 := by
  obtain ⟨q1, q2⟩ := q_split (s := s) (m := 0) (w := W64) (by decide)
  rw [Nat.add_zero] at q1 q2
  unfold toF; rw [q1, q2, if_neg (by decide), if_neg (by decide), val_zero, enc_zero _ _ _ (by decide), cvt_zero, Nat.add_zero]
theorem N64_m : N64 % W64 = N64 := rfl
theorem toF_inf {a : Nat} (h : a % W64 = I64) : toF a = a := by unfold toF; rw [if_neg (by omega), if_pos h]
theorem tD_eq_inf {a : Nat} (h : a % W32 = I32) : tD a = a / W32 * W64 + I64 := by unfold tD; rw [if_neg (by omega), h, cvt_I]
-- the sum of two floats' values, either way round
theorem fl_add2 {a b : Nat} : rnd 24 2851 (val 53 1926 (rnd 53 1926 (val 24 2851 a + val 24 2851 b))) = rnd 24 2851 (val 24 2851 a + val 24 2851 b) := by
  rcases Nat.le_total (vexp 24 2851 b) (vexp 24 2851 a) with h | h
  · exact fl_add (vexp_ge _ _ _) h (vsig_lt (by decide)) (vsig_lt (by decide)) vsig_norm
  · rw [Nat.add_comm]; exact fl_add (vexp_ge _ _ _) h (vsig_lt (by decide)) (vsig_lt (by decide)) vsig_norm
theorem fl_sub2 {a b : Nat} : rnd 24 2851 (val 53 1926 (rnd 53 1926 (val 24 2851 a - val 24 2851 b))) = rnd 24 2851 (val 24 2851 a - val 24 2851 b) := by
  rcases Nat.le_total (vexp 24 2851 b) (vexp 24 2851 a) with h | h
  · exact fl_sub (vexp_ge _ _ _) h (vsig_lt (by decide)) (vsig_lt (by decide)) vsig_norm
  · exact fl_sub' (vexp_ge _ _ _) h (vsig_lt (by decide)) (vsig_lt (by decide)) vsig_norm
theorem sum_fin {a b : Nat} (ha : a < I32) (hb : b < I32) : val 24 2851 a + val 24 2851 b < 2 ^ 3129 := by
  have h1 := val_f_lt ha
  have h2 := val_f_lt hb
  have h3 : 2 ^ 3129 = 2 * 2 ^ 3128 := q_pw1 3128
  omega
theorem flt_add {a b : Nat} : toF (addF 53 1926 I64 N64 W64 (tD a) (tD b)) = tD (addF 24 2851 I32 N32 W32 a b) := by
  unfold addF
  by_cases hn : I32 < a % W32 ∨ I32 < b % W32
  · rw [if_pos hn, tD_N]
    rw [if_pos (by
      rcases hn with h | h
      · left; rw [tD_nan h]; decide
      · right; rw [tD_nan h]; decide), toF_N]
  rw [if_neg hn]
  have ha : a % W32 ≤ I32 := by omega
  have hb : b % W32 ≤ I32 := by omega
  have hA : tD a % W64 ≤ I64 ∧ (tD a % W64 = I64 ↔ a % W32 = I32) ∧ tD a / W64 = a / W32 := by
    rcases Nat.lt_or_ge (a % W32) I32 with h | h
    · obtain ⟨q1, q2⟩ := tD_fin h
      have := cvt_lt h
      exact ⟨by omega, by omega, q1⟩
    · obtain ⟨q1, q2⟩ := tD_inf (a := a) (by omega)
      exact ⟨by omega, by omega, q1⟩
  have hB : tD b % W64 ≤ I64 ∧ (tD b % W64 = I64 ↔ b % W32 = I32) ∧ tD b / W64 = b / W32 := by
    rcases Nat.lt_or_ge (b % W32) I32 with h | h
    · obtain ⟨q1, q2⟩ := tD_fin h
      have := cvt_lt h
      exact ⟨by omega, by omega, q1⟩
    · obtain ⟨q1, q2⟩ := tD_inf (a := b) (by omega)
      exact ⟨by omega, by omega, q1⟩
  rw [if_neg (by omega)]
  by_cases hi : a % W32 = I32 ∨ b % W32 = I32
  · rw [if_pos hi, if_pos (by omega)]
    have hd : ∀ x, x = x / W64 * W64 + x % W64 := fun x => by rw [Nat.mul_comm]; exact (Nat.div_add_mod x W64).symm
    have hf : ∀ x, x = x / W32 * W32 + x % W32 := fun x => by rw [Nat.mul_comm]; exact (Nat.div_add_mod x W32).symm
    by_cases hab : a % W32 = I32 ∧ b % W32 = I32 ∧ a ≠ b
    · rw [if_pos hab, if_pos ⟨by omega, by omega, fun e => hab.2.2 (by rw [hf a, hf b, ← hA.2.2, ← hB.2.2, e]; omega)⟩, toF_N, tD_N]
    · rw [if_neg hab]
      rw [if_neg (fun c => hab ⟨by omega, by omega, fun e => c.2.2 (by rw [e])⟩)]
      by_cases h1 : a % W32 = I32
      · rw [if_pos h1, if_pos (by omega), toF_inf (by omega)]
      · rw [if_neg h1, if_neg (by omega), toF_inf (by omega)]
  · rw [if_neg hi, if_neg (by omega)]
    have fa : a % W32 < I32 := by omega
    have fb : b % W32 < I32 := by omega
    have va : val 53 1926 (tD a % W64) = val 24 2851 (a % W32) := by rw [(tD_fin fa).2, cvt_val fa]
    have vb : val 53 1926 (tD b % W64) = val 24 2851 (b % W32) := by rw [(tD_fin fb).2, cvt_val fb]
    rw [va, vb, hA.2.2, hB.2.2]
    have sf := sum_fin fa fb
    by_cases hs : a / W32 = b / W32
    · rw [if_pos hs, if_pos hs, toF_of (rnd_fin sf (by decide)) fl_add2, tD_of]
    · rw [if_neg hs, if_neg hs]
      by_cases h0 : val 24 2851 (a % W32) = val 24 2851 (b % W32)
      · rw [if_pos h0, if_pos h0]
        have h1 := toF_Z (s := 0)
        have h2 := tD_Z (s := 0)
        rw [Nat.zero_mul] at h1 h2
        rw [Nat.zero_mul] at h2
        rw [h1, h2]
      · rw [if_neg h0, if_neg h0]
        by_cases h1 : val 24 2851 (b % W32) < val 24 2851 (a % W32)
        · rw [if_pos h1, if_pos h1, toF_of (rnd_fin (n := 3129) (by omega) (by decide)) fl_sub2, tD_of]
        · rw [if_neg h1, if_neg h1, toF_of (rnd_fin (n := 3129) (by omega) (by decide)) fl_sub2, tD_of]
end
section
/-! OUR OWN ROWS: product, quotient, remainder of floats by way of doubles; half and two -/
theorem enc_of {p L I V : Nat} (h : rnd p L V < I) : enc p L I V = rnd p L V := Nat.min_eq_right (Nat.le_of_lt h)
theorem mulV_val {p L a b : Nat} (hL : 1500 ≤ L) : mulV p L a b * 2 ^ 3000 = val p L a * val p L b := by
  have h1 := vexp_ge p L a
  have h2 := vexp_ge p L b
  unfold mulV val
  rw [Nat.mul_assoc, ← Nat.pow_add, Nat.mul_mul_mul_comm, ← Nat.pow_add]
  have e : vexp p L a + vexp p L b - 3000 + 3000 = vexp p L a + vexp p L b := by omega
  rw [e]
theorem mulV_cvt {a b : Nat} (ha : a < I32) (hb : b < I32) : mulV 53 1926 (cvt a) (cvt b) = mulV 24 2851 a b := by
  have h1 := mulV_val (p := 53) (L := 1926) (a := cvt a) (b := cvt b) (by decide)
  have h2 := mulV_val (p := 24) (L := 2851) (a := a) (b := b) (by decide)
  rw [cvt_val ha, cvt_val hb, ← h2] at h1
  exact Nat.eq_of_mul_eq_mul_right (q_pos 3000) h1
theorem fl_mul2 {a b : Nat} : rnd 24 2851 (val 53 1926 (rnd 53 1926 (mulV 24 2851 a b))) = rnd 24 2851 (mulV 24 2851 a b) := by
  have h1 := vexp_ge 24 2851 a
  have h2 := vexp_ge 24 2851 b
  have h3 := vsig_lt (p := 24) (b := a) (by decide)
  have h4 := vsig_lt (p := 24) (b := b) (by decide)
  unfold mulV
  refine fl_exact ?_ (by omega)
  have : vsig 24 a * vsig 24 b < 2 ^ 24 * 2 ^ 24 := Nat.mul_lt_mul'' h3 h4
  omega
theorem mul_fin {a b : Nat} (ha : a < I32) (hb : b < I32) : mulV 24 2851 a b < 2 ^ 3256 := by
  have h2 := mulV_val (p := 24) (L := 2851) (a := a) (b := b) (by decide)
  have h3 := Nat.mul_lt_mul'' (val_f_lt ha) (val_f_lt hb)
  rw [← h2] at h3
  have e : 2 ^ 3128 * 2 ^ 3128 = 2 ^ 3256 * 2 ^ 3000 := by rw [← Nat.pow_add, ← Nat.pow_add]
  rw [e] at h3
  exact Nat.lt_of_mul_lt_mul_right h3
theorem tD_sort {a : Nat} (h : ¬ I32 < a % W32) : tD a % W64 ≤ I64 ∧ (tD a % W64 = I64 ↔ a % W32 = I32) ∧ tD a / W64 = a / W32 ∧ (tD a % W64 = 0 ↔ a % W32 = 0) ∧ tD a % W64 = cvt (a % W32) := by
  have i1 : I64 = 9218868437227405312 := rfl
  have i2 : I32 = 2139095040 := rfl
  rcases Nat.lt_or_ge (a % W32) I32 with h | h
  · obtain ⟨q1, q2⟩ := tD_fin h
    have := cvt_lt h
    refine ⟨by omega, by omega, q1, ⟨fun c => cvt_pos h (by omega), fun c => by rw [q2, c, cvt_zero]⟩, q2⟩
  · have e : a % W32 = I32 := by omega
    obtain ⟨q1, q2⟩ := tD_inf (a := a) e
    exact ⟨by omega, by omega, q1, by omega, by rw [q2, e, cvt_I]⟩
theorem sg_tD {a b : Nat} (ha : ¬ I32 < a % W32) (hb : ¬ I32 < b % W32) : ∃ s, sgF W64 (tD a) (tD b) = s * W64 ∧ sgF W32 a b = s * W32 := by
  refine ⟨(a / W32 + b / W32) % 2, ?_, rfl⟩
  unfold sgF; rw [(tD_sort ha).2.2.1, (tD_sort hb).2.2.1]
theorem tD_nan2 {a b : Nat} (hn : I32 < a % W32 ∨ I32 < b % W32) : I64 < tD a % W64 ∨ I64 < tD b % W64 := by
  rcases hn with h | h
  · left; rw [tD_nan h]; decide
  · right; rw [tD_nan h]; decide
theorem flt_mul {a b : Nat} : toF (mulF 53 1926 I64 N64 W64 (tD a) (tD b)) = tD (mulF 24 2851 I32 N32 W32 a b) := by
  unfold mulF
  by_cases hn : I32 < a % W32 ∨ I32 < b % W32
  · rw [if_pos hn, tD_N, if_pos (tD_nan2 hn), toF_N]
  rw [if_neg hn]
  have hA := tD_sort (a := a) (by omega)
  have hB := tD_sort (a := b) (by omega)
  obtain ⟨s, e1, e2⟩ := sg_tD (a := a) (b := b) (by omega) (by omega)
  rw [if_neg (by omega), e1, e2]
  by_cases hi : a % W32 = I32 ∨ b % W32 = I32
  · rw [if_pos hi, if_pos (by omega)]
    by_cases hz : a % W32 = 0 ∨ b % W32 = 0
    · rw [if_pos hz, if_pos (by omega), toF_N, tD_N]
    · rw [if_neg hz, if_neg (by omega), toF_I, tD_I]
  · rw [if_neg hi, if_neg (by omega)]
    have fa : a % W32 < I32 := by omega
    have fb : b % W32 < I32 := by omega
    rw [hA.2.2.2.2, hB.2.2.2.2, mulV_cvt fa fb, toF_of (rnd_fin (mul_fin fa fb) (by decide)) fl_mul2, tD_of]
-- quotient
theorem nrm_rng {p c : Nat} (hp : 0 < p) (h : c < 2 ^ p) (h0 : c ≠ 0) : 2 ^ (p - 1) ≤ nrm p c ∧ nrm p c < 2 ^ p := by
  have h1 := (Nat.log2_lt h0).mpr h
  have h2 := q_loglo h0
  have h3 := q_loghi c
  unfold nrm
  constructor
  · have : 2 ^ (p - 1) = 2 ^ c.log2 * 2 ^ (p - 1 - c.log2) := by rw [← Nat.pow_add]; congr 1; omega
    rw [this]; exact Nat.mul_le_mul_right _ h2
  · have : 2 ^ p = 2 ^ (c.log2 + 1) * 2 ^ (p - 1 - c.log2) := by rw [← Nat.pow_add]; congr 1; omega
    rw [this]; exact Nat.mul_lt_mul_of_pos_right h3 (q_pos _)
theorem nrm_val {p c k : Nat} (hk : p - 1 ≤ k) : nrm p c * 2 ^ (k - (p - 1 - c.log2)) = c * 2 ^ k := by
  unfold nrm; rw [Nat.mul_assoc, ← Nat.pow_add]; congr 2; omega
theorem nrm_uni {x e x' e' : Nat} (h1 : 2 ^ 52 ≤ x) (h2 : x < 2 ^ 53) (h1' : 2 ^ 23 ≤ x') (h2' : x' < 2 ^ 24) (h : x * 2 ^ e = x' * 2 ^ e') : e' = e + 29 ∧ x = x' * 2 ^ 29 := by
  have l1 : (x * 2 ^ e).log2 = 52 + e := q_log (by rw [Nat.pow_add]; exact Nat.mul_le_mul_right _ h1) (by
    have : 52 + e + 1 = 53 + e := by omega
    rw [this, Nat.pow_add]; exact Nat.mul_lt_mul_of_pos_right h2 (q_pos e))
  have l2 : (x' * 2 ^ e').log2 = 23 + e' := q_log (by rw [Nat.pow_add]; exact Nat.mul_le_mul_right _ h1') (by
    have : 23 + e' + 1 = 24 + e' := by omega
    rw [this, Nat.pow_add]; exact Nat.mul_lt_mul_of_pos_right h2' (q_pos e'))
  have e1 : e' = e + 29 := by rw [h] at l1; omega
  refine ⟨e1, ?_⟩
  rw [e1, Nat.add_comm e 29, Nat.pow_add, ← Nat.mul_assoc] at h
  exact Nat.eq_of_mul_eq_mul_right (q_pos e) h
theorem quo_scale {x y k : Nat} : quoV (x * 2 ^ 29) (y * 2 ^ 29) k = quoV x y k := by
  unfold quoV
  have e : x * 2 ^ 29 * 2 ^ 60 = x * 2 ^ 60 * 2 ^ 29 := Nat.mul_right_comm _ _ _
  rw [e, Nat.mul_div_mul_right _ _ (by decide), Nat.mul_mod_mul_right]
  by_cases h : x * 2 ^ 60 % y = 0
  · rw [if_pos h, if_pos (by rw [h, Nat.zero_mul])]
  · rw [if_neg h, if_neg (by omega)]
theorem quo_lt {x y k P : Nat} (hP : 0 < P) (hx1 : P ≤ x) (hx2 : x < 2 * P) (hy1 : P ≤ y) (hy2 : y < 2 * P) (hk : 0 < k) : quoV x y k < 2 ^ (k + 61) := by
  obtain ⟨r1, r2⟩ := quo_rng hP hx1 hx2 hy1 hy2
  have hk1 : 2 ^ k = 2 * 2 ^ (k - 1) := by rw [← q_pw1]; congr 1; omega
  have b2 : quoV x y k < (x * 2 ^ 60 / y + 1) * 2 ^ k := by
    unfold quoV; split
    · exact Nat.mul_lt_mul_of_pos_right (by omega) (q_pos k)
    · rw [hk1, Nat.mul_left_comm, ← Nat.mul_assoc]; exact Nat.mul_lt_mul_of_pos_right (by omega) (q_pos _)
  rw [Nat.add_comm, Nat.pow_add]
  exact Nat.lt_of_lt_of_le b2 (Nat.mul_le_mul_right _ r2)
theorem vexp_f {m : Nat} (h : m < I32) : vexp 24 2851 m ≤ 3104 := by
  have : m / 2 ^ (24 - 1) < 255 := Nat.div_lt_of_lt_mul (by omega)
  unfold vexp; omega
theorem vsig_0 {p L b : Nat} (hp : 0 < p) (h : vsig p b = 0) : b = 0 := by
  refine val_eq_zero (p := p) (L := L) hp ?_
  unfold val; rw [h, Nat.zero_mul]
theorem fq_parts {a : Nat} (ha : a < I32) (h0 : a ≠ 0) : ∃ x e, 2 ^ 23 ≤ x ∧ x < 2 ^ 24 ∧ 2828 ≤ e ∧ e ≤ 3104 ∧ nrm 24 (vsig 24 a) = x ∧ vexp 24 2851 a = e + (24 - 1 - (vsig 24 a).log2) ∧ nrm 53 (vsig 53 (cvt a)) = x * 2 ^ 29 ∧ vexp 53 1926 (cvt a) = e - 29 + (53 - 1 - (vsig 53 (cvt a)).log2) := by
  have z1 : vsig 24 a ≠ 0 := fun c => h0 (vsig_0 (L := 2851) (by decide) c)
  have z2 : vsig 53 (cvt a) ≠ 0 := fun c => h0 (cvt_pos ha (vsig_0 (L := 1926) (by decide) c))
  have s1 := vsig_lt (p := 24) (b := a) (by decide)
  have s2 := vsig_lt (p := 53) (b := cvt a) (by decide)
  obtain ⟨n1, n2⟩ := nrm_rng (p := 24) (by decide) s1 z1
  obtain ⟨m1, m2⟩ := nrm_rng (p := 53) (by decide) s2 z2
  have k1 := vexp_ge 24 2851 a
  have k2 := vexp_ge 53 1926 (cvt a)
  have k3 := vexp_f ha
  have l1 := (Nat.log2_lt z1).mpr s1
  have l2 := (Nat.log2_lt z2).mpr s2
  have v1 := nrm_val (p := 24) (c := vsig 24 a) (k := vexp 24 2851 a) (by omega)
  have v2 := nrm_val (p := 53) (c := vsig 53 (cvt a)) (k := vexp 53 1926 (cvt a)) (by omega)
  have v3 := cvt_val ha
  unfold val at v3
  rw [← v1, ← v2] at v3
  obtain ⟨u1, u2⟩ := nrm_uni m1 m2 n1 n2 v3
  exact ⟨nrm 24 (vsig 24 a), vexp 24 2851 a - (24 - 1 - (vsig 24 a).log2), n1, n2, by omega, by omega, rfl, by omega, u2, by omega⟩
theorem flt_div {a b : Nat} : toF (divF 53 1926 I64 N64 W64 (tD a) (tD b)) = tD (divF 24 2851 I32 N32 W32 a b) := by
  unfold divF
  by_cases hn : I32 < a % W32 ∨ I32 < b % W32
  · rw [if_pos hn, tD_N, if_pos (tD_nan2 hn), toF_N]
  rw [if_neg hn]
  have hA := tD_sort (a := a) (by omega)
  have hB := tD_sort (a := b) (by omega)
  obtain ⟨s, e1, e2⟩ := sg_tD (a := a) (b := b) (by omega) (by omega)
  rw [if_neg (by omega), e1, e2]
  by_cases hi : a % W32 = I32
  · rw [if_pos hi, if_pos (by omega)]
    by_cases hj : b % W32 = I32
    · rw [if_pos hj, if_pos (by omega), toF_N, tD_N]
    · rw [if_neg hj, if_neg (by omega), toF_I, tD_I]
  rw [if_neg hi, if_neg (by omega)]
  by_cases hj : b % W32 = I32
  · rw [if_pos hj, if_pos (by omega), toF_Z, tD_Z]
  rw [if_neg hj, if_neg (by omega)]
  by_cases hz : b % W32 = 0
  · rw [if_pos hz, if_pos (by omega)]
    by_cases hy : a % W32 = 0
    · rw [if_pos hy, if_pos (by omega), toF_N, tD_N]
    · rw [if_neg hy, if_neg (by omega), toF_I, tD_I]
  rw [if_neg hz, if_neg (by omega)]
  by_cases hy : a % W32 = 0
  · rw [if_pos hy, if_pos (by omega), toF_Z, tD_Z]
  rw [if_neg hy, if_neg (by omega)]
  have fa : a % W32 < I32 := by omega
  have fb : b % W32 < I32 := by omega
  obtain ⟨x, e, x1, x2, x3, x4, x5, x6, x7, x8⟩ := fq_parts fa hy
  obtain ⟨y, f, y1, y2, y3, y4, y5, y6, y7, y8⟩ := fq_parts fb hz
  have d1 : divV 53 1926 (tD a % W64) (tD b % W64) = quoV x y (e + 2940 - f) := by
    rw [hA.2.2.2.2, hB.2.2.2.2]
    unfold divV; rw [x7, y7, quo_scale]; refine congrArg (quoV x y) ?_; omega
  have d2 : divV 24 2851 (a % W32) (b % W32) = quoV x y (e + 2940 - f) := by
    unfold divV; rw [x5, y5]; refine congrArg (quoV x y) ?_; omega
  rw [d1, d2]
  have q := quo_lt (P := 2 ^ 23) (k := e + 2940 - f) (by decide) x1 (by omega) y1 (by omega) (by omega)
  rw [toF_of (rnd_fin q (by omega)) (fl_quo x1 x2 y1 y2 (by omega)), tD_of]
theorem flt_rem {a b : Nat} : remF 53 1926 I64 N64 W64 (tD a) (tD b) = tD (remF 24 2851 I32 N32 W32 a b) := by
  unfold remF
  by_cases hn : I32 < a % W32 ∨ I32 < b % W32
  · have h1 := tD_nan2 hn
    rw [if_pos (show I64 < tD a % W64 ∨ I64 < tD b % W64 ∨ tD a % W64 = I64 ∨ tD b % W64 = 0 by omega), if_pos (show I32 < a % W32 ∨ I32 < b % W32 ∨ a % W32 = I32 ∨ b % W32 = 0 by omega), tD_N]
  have hA := tD_sort (a := a) (by omega)
  have hB := tD_sort (a := b) (by omega)
  by_cases hi : a % W32 = I32 ∨ b % W32 = 0
  · rw [if_pos (show I64 < tD a % W64 ∨ I64 < tD b % W64 ∨ tD a % W64 = I64 ∨ tD b % W64 = 0 by omega), if_pos (show I32 < a % W32 ∨ I32 < b % W32 ∨ a % W32 = I32 ∨ b % W32 = 0 by omega), tD_N]
  rw [if_neg (show ¬ (I64 < tD a % W64 ∨ I64 < tD b % W64 ∨ tD a % W64 = I64 ∨ tD b % W64 = 0) by omega), if_neg (show ¬ (I32 < a % W32 ∨ I32 < b % W32 ∨ a % W32 = I32 ∨ b % W32 = 0) by omega)]
  have fa : a % W32 < I32 := by omega
  have hlt : tD a % W64 < tD b % W64 ↔ a % W32 < b % W32 := by
    rcases Nat.lt_or_ge (b % W32) I32 with h | h
    · rw [← val_lt_iff (p := 53) (L := 1926) (by decide), hA.2.2.2.2, hB.2.2.2.2, cvt_val fa, cvt_val h, val_lt_iff (by decide)]
    · have := cvt_lt fa; omega
  by_cases hl : a % W32 < b % W32
  · rw [if_pos hl, if_pos (hlt.mpr hl)]
  rw [if_neg hl, if_neg (fun c => hl (hlt.mp c))]
  have fb : b % W32 < I32 := by omega
  rw [hA.2.2.2.2, hB.2.2.2.2, cvt_val fa, cvt_val fb]
  have hV : ∃ r, r < 2 ^ 24 ∧ val 24 2851 (a % W32) % val 24 2851 (b % W32) = r * 2 ^ vexp 24 2851 (b % W32) := by
    have hx : vexp 24 2851 (b % W32) ≤ vexp 24 2851 (a % W32) := by
      unfold vexp
      have := Nat.div_le_div_right (c := 2 ^ (24 - 1)) (show b % W32 ≤ a % W32 by omega)
      omega
    have e : vexp 24 2851 (a % W32) = (vexp 24 2851 (a % W32) - vexp 24 2851 (b % W32)) + vexp 24 2851 (b % W32) := by omega
    have hs := vsig_lt (p := 24) (b := b % W32) (by decide)
    have hp : 0 < vsig 24 (b % W32) := Nat.pos_of_ne_zero (fun c => by have := vsig_0 (L := 2851) (by decide) c; omega)
    refine ⟨vsig 24 (a % W32) * 2 ^ (vexp 24 2851 (a % W32) - vexp 24 2851 (b % W32)) % vsig 24 (b % W32), Nat.lt_trans (Nat.mod_lt _ hp) hs, ?_⟩
    unfold val; rw [e, rem_scale, Nat.add_sub_cancel]
  have hv : val 24 2851 (a % W32) % val 24 2851 (b % W32) < 2 ^ 3128 := Nat.lt_of_le_of_lt (Nat.mod_le _ _) (val_f_lt fa)
  obtain ⟨r, r1, r2⟩ := hV
  generalize val 24 2851 (a % W32) % val 24 2851 (b % W32) = V at hv r2
  have g1 : val 24 2851 (rnd 24 2851 V) = V := by rw [r2]; exact rnd_exact (by decide) r1 (vexp_ge _ _ _)
  have g2 : rnd 24 2851 V < I32 := by
    refine (val_lt_iff (p := 24) (L := 2851) (by decide)).mp ?_
    rw [g1, val_I32]; exact hv
  have g3 := rnd_fin hv (by decide)
  rw [tD_of, hA.2.2.1]
  have g4 : enc 24 2851 I32 V = rnd 24 2851 V := enc_of g2
  have g5 : enc 53 1926 I64 V = rnd 53 1926 V := enc_of g3
  rw [g4, g5]
  unfold cvt; rw [if_pos g2, g1]
-- half of a double
theorem half_two {a : Nat} (h0 : a % W64 ≠ 0) (hf : a % W64 < I64) : mulV 53 1926 (a % W64) 4602678819172646912 = divV 53 1926 (a % W64) 4611686018427387904 := by
  have z1 : vsig 53 (a % W64) ≠ 0 := fun c => h0 (vsig_0 (L := 1926) (by decide) c)
  have s1 := vsig_lt (p := 53) (b := a % W64) (by decide)
  have l1 := (Nat.log2_lt z1).mpr s1
  have k1 := vexp_ge 53 1926 (a % W64)
  have v1 : vsig 53 4602678819172646912 = 2 ^ 52 := by decide
  have v2 : vexp 53 1926 4602678819172646912 = 2947 := by decide
  have v3 : vsig 53 4611686018427387904 = 2 ^ 52 := by decide
  have v4 : vexp 53 1926 4611686018427387904 = 2949 := by decide
  have v5 : (2 ^ 52 : Nat).log2 = 52 := by decide
  unfold mulV divV
  rw [v1, v2, v3, v4]
  have n2 : nrm 53 (2 ^ 52) = 2 ^ 52 := by unfold nrm; rw [v5]
  rw [n2, v5]
  unfold quoV
  have e1 : nrm 53 (vsig 53 (a % W64)) * 2 ^ 60 = (nrm 53 (vsig 53 (a % W64)) * 2 ^ 8) * 2 ^ 52 := by rw [Nat.mul_assoc]
  rw [e1, Nat.mul_mod_left, if_pos rfl, Nat.mul_div_cancel _ (by decide)]
  unfold nrm
  rw [Nat.mul_assoc, Nat.mul_assoc, Nat.mul_assoc, ← Nat.pow_add, ← Nat.pow_add, ← Nat.pow_add]
  refine congrArg (fun z => vsig 53 (a % W64) * 2 ^ z) ?_
  omega
theorem flt_half {a : Nat} : mulF 53 1926 I64 N64 W64 a 4602678819172646912 = divF 53 1926 I64 N64 W64 a 4611686018427387904 := by
  have m1 : 4602678819172646912 % W64 = 4602678819172646912 := by decide
  have m2 : 4611686018427387904 % W64 = 4611686018427387904 := by decide
  have i1 : I64 = 9218868437227405312 := rfl
  unfold mulF divF
  rw [m1, m2]
  have d : sgF W64 a 4602678819172646912 = sgF W64 a 4611686018427387904 := rfl
  rw [d]
  by_cases hn : I64 < a % W64
  · rw [if_pos (Or.inl hn), if_pos (Or.inl hn)]
  rw [if_neg (show ¬ (I64 < a % W64 ∨ I64 < 4602678819172646912) by omega), if_neg (show ¬ (I64 < a % W64 ∨ I64 < 4611686018427387904) by omega)]
  by_cases hi : a % W64 = I64
  · rw [if_pos (show a % W64 = I64 ∨ 4602678819172646912 = I64 from Or.inl hi), if_pos hi, if_neg (show ¬ (a % W64 = 0 ∨ 4602678819172646912 = 0) by omega), if_neg (show ¬ 4611686018427387904 = I64 by omega)]
  rw [if_neg (show ¬ (a % W64 = I64 ∨ 4602678819172646912 = I64) by omega), if_neg hi, if_neg (show ¬ 4611686018427387904 = I64 by omega), if_neg (show ¬ (4611686018427387904 = 0) by omega)]
  by_cases h0 : a % W64 = 0
  · rw [if_pos h0, h0]
    have : mulV 53 1926 0 4602678819172646912 = 0 := by unfold mulV vsig; simp
    rw [this, enc_zero _ _ _ (by decide), Nat.add_zero]
  · rw [if_neg h0, half_two h0 (by omega)]
end
section
/-! OUR OWN ROWS: one code for all that is no number: what goes in and what comes out -/
theorem told_num {a : Nat} (h : ¬ I64 < a % W64) : told a = a := by unfold told; rw [if_neg h]
theorem told_nan {a : Nat} (h : I64 < a % W64) : told a = N64 := by unfold told; rw [if_pos h]
theorem told_sort (a : Nat) : (I64 < a % W64 ∧ told a = N64) ∨ (¬ I64 < a % W64 ∧ told a = a) := by
  by_cases h : I64 < a % W64
  · exact Or.inl ⟨h, told_nan h⟩
  · exact Or.inr ⟨h, told_num h⟩
theorem told_fix {s m : Nat} (h : m ≤ I64) : told (s * W64 + m) = s * W64 + m := by
  obtain ⟨q1, q2⟩ := q_split (s := s) (m := m) (w := W64) (Nat.lt_of_le_of_lt h i64_lt)
  exact told_num (by rw [q2]; omega)
theorem told_fixZ {s : Nat} : told (s * W64) = s * W64 := by
  have := told_fix (s := s) (m := 0) (Nat.zero_le _)
  rwa [Nat.add_zero] at this
theorem told_N : told N64 = N64 := by decide
theorem told_0 : told 0 = 0 := by decide
theorem told_told (a : Nat) : told (told a) = told a := by
  rcases told_sort a with ⟨h, e⟩ | ⟨h, e⟩
  · rw [e, told_N]
  · rw [e, e]
theorem N64_gt : I64 < N64 % W64 := by decide
theorem addF_td (a b : Nat) : addF 53 1926 I64 N64 W64 (told a) (told b) = addF 53 1926 I64 N64 W64 a b := by
  rcases told_sort a with ⟨h, e⟩ | ⟨h, e⟩ <;> rcases told_sort b with ⟨g, f⟩ | ⟨g, f⟩ <;> rw [e, f]
  · unfold addF; rw [if_pos (Or.inl N64_gt), if_pos (Or.inl h)]
  · unfold addF; rw [if_pos (Or.inl N64_gt), if_pos (Or.inl h)]
  · unfold addF; rw [if_pos (Or.inr N64_gt), if_pos (Or.inr g)]
theorem mulF_td (a b : Nat) : mulF 53 1926 I64 N64 W64 (told a) (told b) = mulF 53 1926 I64 N64 W64 a b := by
  rcases told_sort a with ⟨h, e⟩ | ⟨h, e⟩ <;> rcases told_sort b with ⟨g, f⟩ | ⟨g, f⟩ <;> rw [e, f]
  · unfold mulF; rw [if_pos (Or.inl N64_gt), if_pos (Or.inl h)]
  · unfold mulF; rw [if_pos (Or.inl N64_gt), if_pos (Or.inl h)]
  · unfold mulF; rw [if_pos (Or.inr N64_gt), if_pos (Or.inr g)]
theorem divF_td (a b : Nat) : divF 53 1926 I64 N64 W64 (told a) (told b) = divF 53 1926 I64 N64 W64 a b := by
  rcases told_sort a with ⟨h, e⟩ | ⟨h, e⟩ <;> rcases told_sort b with ⟨g, f⟩ | ⟨g, f⟩ <;> rw [e, f]
  · unfold divF; rw [if_pos (Or.inl N64_gt), if_pos (Or.inl h)]
  · unfold divF; rw [if_pos (Or.inl N64_gt), if_pos (Or.inl h)]
  · unfold divF; rw [if_pos (Or.inr N64_gt), if_pos (Or.inr g)]
theorem remF_td (a b : Nat) : remF 53 1926 I64 N64 W64 (told a) (told b) = told (remF 53 1926 I64 N64 W64 a b) := by
  rcases told_sort a with ⟨h, e⟩ | ⟨h, e⟩ <;> rcases told_sort b with ⟨g, f⟩ | ⟨g, f⟩ <;> rw [e, f]
  · unfold remF; rw [if_pos (Or.inl N64_gt), if_pos (Or.inl h), told_N]
  · unfold remF; rw [if_pos (Or.inl N64_gt), if_pos (Or.inl h), told_N]
  · unfold remF; rw [if_pos (Or.inr (Or.inl N64_gt)), if_pos (Or.inr (Or.inl g)), told_N]
  · unfold remF; split
    · exact told_N.symm
    · split
      · exact e.symm
      · exact (told_fix (enc_le _ _ _ _)).symm
theorem addF_to (a b : Nat) : told (addF 53 1926 I64 N64 W64 a b) = addF 53 1926 I64 N64 W64 a b := by
  unfold addF; split
  · exact told_N
  · next hn =>
    split
    · split
      · exact told_N
      · split
        · exact told_num (by omega)
        · exact told_num (by omega)
    · split
      · exact told_fix (enc_le _ _ _ _)
      · split
        · exact told_0
        · split
          · exact told_fix (enc_le _ _ _ _)
          · exact told_fix (enc_le _ _ _ _)
theorem mulF_to (a b : Nat) : told (mulF 53 1926 I64 N64 W64 a b) = mulF 53 1926 I64 N64 W64 a b := by
  unfold mulF sgF; split
  · exact told_N
  · split
    · split
      · exact told_N
      · exact told_fix (Nat.le_refl _)
    · exact told_fix (enc_le _ _ _ _)
theorem divF_to (a b : Nat) : told (divF 53 1926 I64 N64 W64 a b) = divF 53 1926 I64 N64 W64 a b := by
  unfold divF sgF; split
  · exact told_N
  · split
    · split
      · exact told_N
      · exact told_fix (Nat.le_refl _)
    · split
      · exact told_fixZ
      · split
        · split
          · exact told_N
          · exact told_fix (Nat.le_refl _)
        · split
          · exact told_fixZ
          · exact told_fix (enc_le _ _ _ _)
theorem cvt_le {m : Nat} (h : m ≤ I32) : cvt m ≤ I64 := by
  rcases Nat.lt_or_ge m I32 with c | c
  · exact Nat.le_of_lt (cvt_lt c)
  · have : m = I32 := by omega
    rw [this, cvt_I]; exact Nat.le_refl _
theorem tD_to (a : Nat) : told (tD a) = tD a := by
  unfold tD; split
  · exact told_N
  · exact told_fix (cvt_le (by omega))
-- from a double to the float's code
def tF (a : Nat) : Nat := if I64 < a % W64 then N32 else if a % W64 = I64 then a / W64 * W32 + I32 else a / W64 * W32 + enc 24 2851 I32 (val 53 1926 (a % W64))
theorem toF_tD (a : Nat) : toF a = tD (tF a) := by
  unfold toF tF; split
  · exact tD_N.symm
  · split
    · next h =>
      rw [tD_I]
      have := Nat.div_add_mod a W64
      rw [h, Nat.mul_comm] at this
      exact this.symm
    · exact tD_of.symm
theorem toF_td (a : Nat) : toF (told a) = toF a := by
  rcases told_sort a with ⟨h, e⟩ | ⟨h, e⟩
  · rw [e, toF_N]; unfold toF; rw [if_pos h]
  · rw [e]
theorem tF_lt {a : Nat} (h : a < 2 ^ 64) : tF a < 2 ^ 32 := by
  have h1 : a / W64 < 2 := Nat.div_lt_of_lt_mul (by omega)
  have h2 := enc_le 24 2851 I32 (val 53 1926 (a % W64))
  have i2 : I32 = 2139095040 := rfl
  have w2 : W32 = 2147483648 := rfl
  unfold tF; split
  · decide
  · split
    · have := Nat.mul_le_mul_right W32 (show a / W64 ≤ 1 by omega)
      omega
    · have := Nat.mul_le_mul_right W32 (show a / W64 ≤ 1 by omega)
      omega
end
section
/-! OUR OWN ROWS: bits of doubles in longs; leading zeros -/
theorem k_inf : (9218868437227405312 : Int64) = lN I64 := rfl
theorem k_nan : (9221120237041090560 : Int64) = lN N64 := rfl
theorem k_sgn : (-9223372036854775808 : Int64) = lN W64 := by decide
theorem k_zero : (0 : Int64) = lN 0 := rfl
theorem k_one : (1 : Int64) = lN 1 := rfl
theorem mg_lt (n : Nat) : n % W64 < 2 ^ 63 := Nat.mod_lt _ (by decide)
theorem mg_lt4 (n : Nat) : n % W64 < 2 ^ 64 := Nat.lt_trans (mg_lt n) (by decide)
theorem sg_lt {n : Nat} (h : n < 2 ^ 64) : n / W64 < 2 := Nat.div_lt_of_lt_mul (by have : W64 = 9223372036854775808 := rfl; omega)
theorem I64_lt : I64 < 2 ^ 63 := by decide
theorem a_mag {n : Nat} (h : n < 2 ^ 64) : lN n &&& (9223372036854775807 : Int64) = lN (n % W64) := wb_mask (k := 63) h (by decide)
theorem a_sgn {n : Nat} (h : n < 2 ^ 64) : lN n &&& (-9223372036854775808 : Int64) = lN (n / W64 * W64) := by
  rw [k_sgn, wb_and h (by decide)]
  exact congrArg lN (n_and_hi h)
theorem z_isNo {n : Nat} (h : n < 2 ^ 64) : f_I_isNoNumber_J (lN n) = 0 ↔ ¬ I64 < n % W64 := by
  unfold f_I_isNoNumber_J
  rw [a_mag h, k_inf]
  have c := c_le (a := n % W64) (b := I64) (mg_lt n) I64_lt
  by_cases h1 : n % W64 ≤ I64
  · rw [if_pos (c.mpr h1)]; exact ⟨fun _ => Nat.not_lt.mpr h1, fun _ => rfl⟩
  · rw [if_neg (fun q => h1 (c.mp q))]; exact ⟨fun q => absurd q (by decide), fun q => absurd (Nat.not_lt.mp q) h1⟩
theorem z_isFin {n : Nat} (h : n < 2 ^ 64) : f_I_isFinite_J (lN n) = 0 ↔ I64 ≤ n % W64 := by
  unfold f_I_isFinite_J
  rw [a_mag h, k_inf]
  have c := c_ge (a := n % W64) (b := I64) (mg_lt n) I64_lt
  by_cases h1 : I64 ≤ n % W64
  · rw [if_pos (c.mpr h1)]; exact ⟨fun _ => h1, fun _ => rfl⟩
  · rw [if_neg (fun q => h1 (c.mp q))]; exact ⟨fun q => absurd q (by decide), fun q => absurd q h1⟩
theorem z_isInf {n : Nat} (h : n < 2 ^ 64) : f_I_isInfinite_J (lN n) = 0 ↔ ¬ n % W64 = I64 := by
  unfold f_I_isInfinite_J
  rw [a_mag h, k_inf]
  have c := c_eq (a := n % W64) (b := I64) (mg_lt4 n) (by decide)
  by_cases h1 : n % W64 = I64
  · rw [if_pos (c.mpr h1)]; exact ⟨fun q => absurd q (by decide), fun q => absurd h1 q⟩
  · rw [if_neg (fun q => h1 (c.mp q))]; exact ⟨fun _ => h1, fun _ => rfl⟩
theorem z_isZero {n : Nat} (h : n < 2 ^ 64) : f_I_isZero_J (lN n) = 0 ↔ ¬ n % W64 = 0 := by
  unfold f_I_isZero_J
  rw [a_mag h, k_zero]
  have c := c_eq (a := n % W64) (b := 0) (mg_lt4 n) (by decide)
  by_cases h1 : n % W64 = 0
  · rw [if_pos (c.mpr h1)]; exact ⟨fun q => absurd q (by decide), fun q => absurd h1 q⟩
  · rw [if_neg (fun q => h1 (c.mp q))]; exact ⟨fun _ => h1, fun _ => rfl⟩
theorem t_told {n : Nat} (h : n < 2 ^ 64) : f_I_told_J (lN n) = lN (told n) := by
  unfold f_I_told_J told
  by_cases h1 : I64 < n % W64
  · rw [if_neg (fun q => (z_isNo h).mp q h1), if_pos h1, k_nan]
  · rw [if_pos ((z_isNo h).mpr h1), if_neg h1]
-- significand and power
theorem n_and_inf (n : Nat) : n &&& I64 = n % W64 / 2 ^ 52 * 2 ^ 52 := by
  have e : I64 = (2 ^ 11 - 1) * 2 ^ 52 := by decide
  have e2 : W64 = 2 ^ 63 := by decide
  rw [e, e2]
  apply Nat.eq_of_testBit_eq
  intro i
  rw [Nat.testBit_and, Nat.testBit_mul_two_pow, Nat.testBit_two_pow_sub_one, Nat.testBit_mul_two_pow, Nat.testBit_div_two_pow, Nat.testBit_mod_two_pow]
  by_cases h : 52 ≤ i
  · have e3 : i - 52 + 52 = i := by omega
    rw [e3]
    by_cases h2 : i < 63
    · simp [h, h2, show i - 52 < 11 by omega]
    · simp [h, h2, show ¬ i - 52 < 11 by omega]
  · simp [h]
theorem a_inf {n : Nat} (h : n < 2 ^ 64) : lN n &&& (9218868437227405312 : Int64) = lN (n % W64 / 2 ^ 52 * 2 ^ 52) := by
  rw [k_inf, wb_and h (by decide), n_and_inf]
theorem ef_lt (n : Nat) : n % W64 / 2 ^ 52 < 2 ^ 11 := Nat.div_lt_of_lt_mul (by have := mg_lt n; omega)
theorem t_sig {n : Nat} (h : n < 2 ^ 64) : f_I_significand_J (lN n) = lN (vsig 53 (n % W64)) := by
  have m1 : lN n &&& (4503599627370495 : Int64) = lN (n % 2 ^ 52) := wb_mask (k := 52) h (by decide)
  have m2 : n % 2 ^ 52 = n % W64 % 2 ^ 52 := (Nat.mod_mod_of_dvd n (by decide)).symm
  have hf := ef_lt n
  unfold f_I_significand_J vsig
  rw [a_inf h, m1, k_zero]
  have c := c_eq (a := n % W64 / 2 ^ 52 * 2 ^ 52) (b := 0) (by omega) (by decide)
  by_cases h1 : n % W64 / 2 ^ (53 - 1) = 0
  · rw [if_pos (c.mpr (by show n % W64 / 2 ^ (53 - 1) * 2 ^ 52 = 0; rw [h1, Nat.zero_mul])), if_pos h1, m2, Nat.mod_eq_of_lt (Nat.lt_of_div_eq_zero (by decide) h1)]
  · rw [if_neg (fun q => h1 (by have := c.mp q; show n % W64 / 2 ^ 52 = 0; omega)), if_neg h1, m2]
    have hm : n % W64 % 2 ^ 52 < 2 ^ 52 := Nat.mod_lt _ (by decide)
    show lN _ ||| lN (2 ^ 52) = _
    rw [wb_or (by omega) (by decide)]
    have := n_or (k := 52) (a := n % W64 % 2 ^ 52) (b := 1) hm
    rw [Nat.one_mul] at this
    rw [Nat.or_comm, this, Nat.add_comm]
theorem t_max {a b : Int} (h1 : -2147483648 ≤ a) (h2 : a < 2147483648) (h3 : -2147483648 ≤ b) (h4 : b < 2147483648) : f_jM_max_II (iZ a) (iZ b) = iZ (max a b) := by
  unfold f_jM_max_II
  have c := iZ_lt h1 h2 h3 h4
  by_cases h : a < b
  · rw [if_pos (c.mpr h), Int.max_eq_right (by omega)]
  · rw [if_neg (fun q => h (c.mp q)), Int.max_eq_left (by omega)]
theorem t_pow {n : Nat} (h : n < 2 ^ 64) : f_I_power_J (lN n) = iZ ((vexp 53 1926 (n % W64) : Int) - 3000) := by
  have hf := ef_lt n
  have e1 : j_ushr (lN (n % W64 / 2 ^ 52 * 2 ^ 52)) (52 : Int32) = lN (n % W64 / 2 ^ 52) := by
    rw [show (52 : Int32) = nI 52 from rfl, w_ushr (by omega) (by decide), Nat.mul_div_cancel _ (by decide)]
  unfold f_I_power_J
  rw [a_inf h]
  simp only [e1, lN_i]
  have e2 : nI (n % W64 / 2 ^ 52) = iZ ((n % W64 / 2 ^ 52 : Nat) : Int) := (iZ_nI _).symm
  have hv : vexp 53 1926 (n % W64) = n % W64 / 2 ^ 52 - 1 + 1926 := rfl
  rw [hv, e2, show (1 : Int32) = iZ 1 from rfl, show (-1074 : Int32) = iZ (-1074) from rfl]
  generalize n % W64 / 2 ^ 52 = E at hf
  rw [t_max (by omega) (by omega) (by omega) (by omega), iZ_sub, iZ_add]
  exact congrArg iZ (by omega)
-- leading zeros
theorem w_ic : ∀ k, k < 32 → ((nI k).toUInt32 &&& Int32.toUInt32 31) = UInt32.ofNat k := by decide +kernel
theorem nI_tn {n : Nat} (h : n < 2 ^ 32) : (nI n).toBitVec.toNat = n := by
  show (BitVec.ofNat 32 n).toNat = n
  rw [BitVec.toNat_ofNat, Nat.mod_eq_of_lt h]
theorem w_iushr {n k : Nat} (hn : n < 2 ^ 32) (hk : k < 32) : j_iushr (nI n) (nI k) = nI (n / 2 ^ k) := by
  unfold j_iushr
  rw [w_ic k hk]
  apply Int32.toBitVec_inj.mp
  apply BitVec.eq_of_toNat_eq
  show ((nI n).toUInt32 >>> UInt32.ofNat k).toNat = (BitVec.ofNat 32 _).toNat
  have h1 : (UInt32.ofNat k).toNat = k := by
    show (BitVec.ofNat 32 k).toNat = k
    rw [BitVec.toNat_ofNat, Nat.mod_eq_of_lt (by omega)]
  have h2 : (nI n).toUInt32.toNat = n := nI_tn hn
  rw [UInt32.toNat_shiftRight, h1, h2, Nat.mod_eq_of_lt hk, Nat.shiftRight_eq_div_pow, BitVec.toNat_ofNat, Nat.mod_eq_of_lt (Nat.lt_of_le_of_lt (Nat.div_le_self _ _) hn)]
theorem nI_ti {m : Nat} (h : m < 2 ^ 32) : (nI m).toInt = if m < 2 ^ 31 then (m : Int) else (m : Int) - 2 ^ 32 := by
  have e : (nI m).toInt = (nI m).toBitVec.toInt := rfl
  rw [e, BitVec.toInt_eq_toNat_cond, nI_tn h]
  split <;> split <;> omega
theorem nI_zero {m : Nat} (h : m < 2 ^ 32) : nI m = 0 ↔ m = 0 := by
  refine ⟨fun e => ?_, fun e => by rw [e]; rfl⟩
  have := congrArg (fun x : Int32 => x.toBitVec.toNat) e
  simp only [nI_tn h] at this
  exact this
theorem q_log_div {x k : Nat} (h : 2 ^ k ≤ x) : (x / 2 ^ k).log2 = x.log2 - k := by
  have h0 : x ≠ 0 := by have := q_pos k; omega
  have h1 := q_loglo h0
  have h2 := q_loghi x
  have hk : k ≤ x.log2 := by
    rcases Nat.lt_or_ge x.log2 k with c | c
    · have := (Nat.log2_lt h0).mp c; omega
    · exact c
  refine q_log ?_ ?_
  · rw [Nat.le_div_iff_mul_le (q_pos k), ← Nat.pow_add, Nat.sub_add_cancel hk]; exact h1
  · refine Nat.div_lt_of_lt_mul ?_
    have : 2 ^ k * 2 ^ (x.log2 - k + 1) = 2 ^ (x.log2 + 1) := by rw [← Nat.pow_add]; congr 1; omega
    rw [this]; exact h2
theorem lg16 : ∀ x, x < 16 → 0 < x → (x < 4 → x / 2 ^ 1 = x.log2) ∧ (4 ≤ x → x / 2 ^ 2 / 2 ^ 1 + 2 = x.log2) := by decide +kernel
theorem z61 {x : Nat} {c : Int} (h0 : 0 < x) (h : x < 16) : f_jI_numberOfLeadingZeros_I_61 (nI x) (iZ c) = iZ (c - x.log2) := by
  have hl := lg16 x h h0
  have hc : nI x < (4 : Int32) ↔ x < 4 := nI_ltI (a := x) (b := 4) (by omega) (by decide)
  have e1 : j_iushr (nI x) (1 : Int32) = nI (x / 2 ^ 1) := w_iushr (k := 1) (by omega) (by decide)
  have e2 : j_iushr (nI x) (2 : Int32) = nI (x / 2 ^ 2) := w_iushr (k := 2) (by omega) (by decide)
  have e3 : j_iushr (nI (x / 2 ^ 2)) (1 : Int32) = nI (x / 2 ^ 2 / 2 ^ 1) := w_iushr (k := 1) (by omega) (by decide)
  unfold f_jI_numberOfLeadingZeros_I_61
  by_cases h4 : x < 4
  · rw [if_pos (hc.mpr h4), e1, hl.1 h4, ← iZ_nI, iZ_sub]
  · rw [if_neg (fun q => h4 (hc.mp q))]
    simp only [e2, e3]
    rw [show (-2 : Int32) = iZ (-2) from rfl, iZ_add, ← iZ_nI, iZ_sub]
    have := hl.2 (by omega)
    exact congrArg iZ (by omega)
theorem z48 {x : Nat} {c : Int} (h0 : 0 < x) (h : x < 256) : f_jI_numberOfLeadingZeros_I_48 (nI x) (iZ c) = iZ (c - x.log2) := by
  have hc : nI x < (16 : Int32) ↔ x < 16 := nI_ltI (a := x) (b := 16) (by omega) (by decide)
  have e2 : j_iushr (nI x) (4 : Int32) = nI (x / 2 ^ 4) := w_iushr (k := 4) (by omega) (by decide)
  unfold f_jI_numberOfLeadingZeros_I_48
  by_cases h4 : x < 16
  · rw [if_pos (hc.mpr h4), z61 h0 h4]
  · rw [if_neg (fun q => h4 (hc.mp q))]
    simp only [e2]
    have hd := q_log_div (x := x) (k := 4) (by omega)
    have hg : 4 ≤ x.log2 := by
      rcases Nat.lt_or_ge x.log2 4 with q | q
      · have := (Nat.log2_lt (show x ≠ 0 by omega)).mp q; omega
      · exact q
    rw [show (-4 : Int32) = iZ (-4) from rfl, iZ_add, z61 (by omega) (by omega), hd]
    exact congrArg iZ (by omega)
theorem z33 {x : Nat} {c : Int} (h0 : 0 < x) (h : x < 65536) : f_jI_numberOfLeadingZeros_I_33 (nI x) (iZ c) = iZ (c - x.log2) := by
  have hc : nI x < (256 : Int32) ↔ x < 256 := nI_ltI (a := x) (b := 256) (by omega) (by decide)
  have e2 : j_iushr (nI x) (8 : Int32) = nI (x / 2 ^ 8) := w_iushr (k := 8) (by omega) (by decide)
  unfold f_jI_numberOfLeadingZeros_I_33
  by_cases h4 : x < 256
  · rw [if_pos (hc.mpr h4), z48 h0 h4]
  · rw [if_neg (fun q => h4 (hc.mp q))]
    simp only [e2]
    have hd := q_log_div (x := x) (k := 8) (by omega)
    have hg : 8 ≤ x.log2 := by
      rcases Nat.lt_or_ge x.log2 8 with q | q
      · have := (Nat.log2_lt (show x ≠ 0 by omega)).mp q; omega
      · exact q
    rw [show (-8 : Int32) = iZ (-8) from rfl, iZ_add, z48 (by omega) (by omega), hd]
    exact congrArg iZ (by omega)
theorem z_nlz {x : Nat} (h0 : 0 < x) (h : x < 2 ^ 32) : f_jI_numberOfLeadingZeros_I (nI x) = iZ (31 - x.log2) := by
  unfold f_jI_numberOfLeadingZeros_I
  have hp : 0 < nI x ↔ x < 2 ^ 31 := by
    rw [Int32.lt_iff_toInt_lt, nI_ti h]
    have : (0 : Int32).toInt = 0 := rfl
    rw [this]; split <;> omega
  by_cases h1 : x < 2 ^ 31
  · rw [if_pos (hp.mpr h1)]
    have hc : nI x < (65536 : Int32) ↔ x < 65536 := nI_ltI (a := x) (b := 65536) (by omega) (by decide)
    have e2 : j_iushr (nI x) (16 : Int32) = nI (x / 2 ^ 16) := w_iushr (k := 16) (by omega) (by decide)
    by_cases h4 : x < 65536
    · rw [if_pos (hc.mpr h4), show (31 : Int32) = iZ 31 from rfl, z33 h0 h4]
    · rw [if_neg (fun q => h4 (hc.mp q))]
      simp only [e2]
      have hd := q_log_div (x := x) (k := 16) (by omega)
      have hg : 16 ≤ x.log2 := by
        rcases Nat.lt_or_ge x.log2 16 with q | q
        · have := (Nat.log2_lt (show x ≠ 0 by omega)).mp q; omega
        · exact q
      rw [show (15 : Int32) = iZ 15 from rfl, z33 (by omega) (by omega), hd]
      exact congrArg iZ (by omega)
  · rw [if_neg (fun q => h1 (hp.mp q)), if_neg (fun q => by have := (nI_zero h).mp q; omega)]
    have : x.log2 = 31 := q_log (by omega) (by omega)
    rw [this]; rfl
theorem z_clz {n : Nat} (h0 : n ≠ 0) (h : n < 2 ^ 64) : f_jL_numberOfLeadingZeros_J (lN n) = iZ (63 - n.log2) := by
  have e1 : (j_ushr (lN n) (32 : Int32)).toInt32 = nI (n / 2 ^ 32) := by
    rw [show (32 : Int32) = nI 32 from rfl, w_ushr h (by decide), lN_i]
  unfold f_jL_numberOfLeadingZeros_J
  simp only [e1]
  have hq : n / 2 ^ 32 < 2 ^ 32 := Nat.div_lt_of_lt_mul (by omega)
  by_cases h1 : n / 2 ^ 32 = 0
  · rw [if_pos ((nI_zero hq).mpr h1), lN_i, z_nlz (by omega) (by omega), show (32 : Int32) = iZ 32 from rfl, iZ_add]
    exact congrArg iZ (by omega)
  · rw [if_neg (fun q => h1 ((nI_zero hq).mp q)), z_nlz (by omega) hq]
    have hn : 2 ^ 32 ≤ n := by omega
    have hd := q_log_div (x := n) (k := 32) hn
    have hg : 32 ≤ n.log2 := by
      rcases Nat.lt_or_ge n.log2 32 with q | q
      · have := (Nat.log2_lt h0).mp q; omega
      · exact q
    rw [hd]
    exact congrArg iZ (by omega)
end
section
/-! OUR OWN ROWS: the class's rounding is the specification's -/
theorem iZ_n (n : Nat) : iZ (n : Int) = nI n := iZ_nI n
theorem l_pw {k : Nat} (hk : k < 64) : j_shl (1 : Int64) (nI k) = lN (2 ^ k) := by
  rw [k_one, w_shl 1 hk, Nat.one_mul]
theorem l_msk {k : Nat} (hk : k < 64) : j_shl (1 : Int64) (nI k) - (1 : Int64) = lN (2 ^ k - 1) := by
  rw [l_pw hk, k_one, lN_sub (q_pos k)]
theorem l_msk1 {k : Nat} (h0 : 0 < k) : nI k - (1 : Int32) = nI (k - 1) := by
  obtain ⟨j, hj⟩ : ∃ j, k = j + 1 := ⟨k - 1, by omega⟩
  subst hj; exact nI_pred j
theorem t_rlo {m d : Nat} (hd : d < 64) : f_I_rounded_JI (lN m) (iZ (-(d : Int))) = lN (m * 2 ^ d) := by
  unfold f_I_rounded_JI
  have h0 : ¬ 0 < iZ (-(d : Int)) := by
    rw [show (0 : Int32) = iZ 0 from rfl, iZ_lt (by omega) (by omega) (by omega) (by omega)]; omega
  rw [if_neg h0, iZ_neg, Int.neg_neg, iZ_n, w_shl m hd]
theorem t_rmid {m d : Nat} (hm : m < 2 ^ 64) (h1 : 0 < d) (h2 : d ≤ 63) : f_I_rounded_JI (lN m) (nI d) = lN (rD m (2 ^ d)) := by
  have hd : d < 64 := by omega
  have p1 : 2 ^ d ≤ 2 ^ 63 := Nat.pow_le_pow_right (by decide) h2
  have p2 : 2 ^ (d - 1) ≤ 2 ^ 62 := Nat.pow_le_pow_right (by decide) (by omega)
  have pp := q_pos (d - 1)
  have hh : 2 ^ d = 2 * 2 ^ (d - 1) := q_half h1
  have hr := Nat.mod_lt m (q_pos d)
  have hq : m / 2 ^ d < 2 ^ 63 := by
    refine Nat.div_lt_of_lt_mul ?_
    have : 2 ^ 1 ≤ 2 ^ d := Nat.pow_le_pow_right (by decide) h1
    have := Nat.mul_le_mul_right (2 ^ 63) this
    omega
  have e1 : j_ushr (lN m) (nI d) = lN (m / 2 ^ d) := w_ushr hm hd
  have e2 : lN m &&& (j_shl (1 : Int64) (nI d) - (1 : Int64)) = lN (m % 2 ^ d) := by rw [l_msk hd, wb_mask hm hd]
  have e3 : j_shl (1 : Int64) (nI d - (1 : Int32)) = lN (2 ^ (d - 1)) := by rw [l_msk1 h1, l_pw (by omega)]
  have e4 : lN (m / 2 ^ d) &&& (1 : Int64) = lN (m / 2 ^ d % 2) := wb_a1 (by omega)
  have c0 : 0 < nI d := nI_lt (a := 0) h1 (by omega)
  have c1 : nI d ≤ (63 : Int32) := nI_le (b := 63) h2 (by decide)
  have cg := c_gt (a := m % 2 ^ d) (b := 2 ^ (d - 1)) (by omega) (by omega)
  have ce := c_eq (a := m % 2 ^ d) (b := 2 ^ (d - 1)) (by omega) (by omega)
  have c2 : lg_cmp (lN (m / 2 ^ d % 2)) (1 : Int64) = 0 ↔ m / 2 ^ d % 2 = 1 := c_eq (b := 1) (by omega) (by decide)
  have r1 : ∀ x : Int64, f_I_rounded_JI_61 x = x + 1 := fun x => by unfold f_I_rounded_JI_61 f_I_rounded_JI_66; exact if_neg (by decide)
  have r2 : ∀ x : Int64, f_I_rounded_JI_65 x = x := fun x => by unfold f_I_rounded_JI_65 f_I_rounded_JI_66; exact if_pos rfl
  unfold f_I_rounded_JI
  rw [if_pos c0, if_pos c1]
  simp only [e1, e2, e3, e4, r1, r2]
  rw [rD_eq (V := m) (D := 2 ^ d) (q := m / 2 ^ d) (r := m % 2 ^ d) (by rw [Nat.mul_comm]; exact (Nat.div_add_mod m _).symm) hr]
  by_cases g1 : 2 ^ (d - 1) < m % 2 ^ d
  · rw [if_pos (cg.mpr g1), if_pos (by omega), lN_1]
  · rw [if_neg (fun q => g1 (cg.mp q))]
    by_cases g2 : m % 2 ^ d = 2 ^ (d - 1)
    · rw [if_pos (ce.mpr g2)]
      by_cases g3 : m / 2 ^ d % 2 = 1
      · rw [if_pos (c2.mpr g3), if_pos (by omega), lN_1]
      · rw [if_neg (fun q => g3 (c2.mp q)), if_neg (by omega), Nat.add_zero]
    · rw [if_neg (fun q => g2 (ce.mp q)), if_neg (by omega), Nat.add_zero]
theorem t_rfar {m d : Nat} (h1 : 64 ≤ d) (h2 : d < 2 ^ 31) : f_I_rounded_JI (lN m) (nI d) = lN 0 := by
  unfold f_I_rounded_JI
  have c0 : 0 < nI d := nI_lt (a := 0) (by omega) h2
  have c1 : ¬ nI d ≤ (63 : Int32) := nI_ge (a := 63) (by omega) h2
  rw [if_pos c0, if_neg c1]
  rfl
/-- m times 2 to the k, rounded by the shift d that the class reckons -/
theorem t_round {p L m k : Nat} {d : Int} (hm : m ≠ 0) (hm2 : m ≤ 2 ^ 63) (hp : 0 < p) (hp2 : p ≤ 64) (hk : k < 1000000) (hL : L < 1000000) (hd : d = max ((m.log2 : Int) + 1 - p) ((L : Int) - k)) :
    f_I_rounded_JI (lN m) (iZ d) = lN (rD (m * 2 ^ k) (2 ^ rsh p L (m * 2 ^ k))) ∧ (rsh p L (m * 2 ^ k) : Int) = k + d := by
  have hl : m.log2 < 64 := (Nat.log2_lt hm).mpr (by omega)
  have es : (rsh p L (m * 2 ^ k) : Int) = k + d := by rw [rs_sh hm, hd]; omega
  refine ⟨?_, es⟩
  have hs := rsh_ge p L (m * 2 ^ k)
  generalize rsh p L (m * 2 ^ k) = s at es hs
  rcases Int.lt_or_le 0 d with c | c
  · obtain ⟨e, he⟩ : ∃ e : Nat, d = e := ⟨d.toNat, by omega⟩
    subst he
    have e1 : s = k + e := by omega
    rw [iZ_n, e1]
    rcases Nat.lt_or_ge 63 e with g | g
    · rw [t_rfar (by omega) (by omega), rs_far hm2 (by omega)]
    · rw [t_rmid (by omega) (by omega) g, rs_mid]
  · obtain ⟨e, he⟩ : ∃ e : Nat, d = -(e : Int) := ⟨(-d).toNat, by omega⟩
    subst he
    have e1 : s = k - e := by omega
    rw [t_rlo (by omega), e1, rs_lo (by omega)]
theorem or_sg {s r : Nat} (hs : s < 2) (hr : r < 2 ^ 63) : lN (s * W64) ||| lN r = lN (s * W64 + r) := by
  have h1 : s * W64 ≤ 1 * W64 := Nat.mul_le_mul_right _ (by omega)
  have h2 : W64 = 9223372036854775808 := rfl
  rw [wb_or (by omega) (by omega)]
  exact congrArg lN (n_or (k := 63) hr)
theorem p52 : (2 : Nat) ^ (53 - 1) = 4503599627370496 := by decide
theorem rnd_fit {V : Nat} (h : rsh 53 1926 V - 1926 ≤ 2045) : rnd 53 1926 V ≤ I64 := by
  have h1 := rD_rsh_le (p := 53) (L := 1926) (V := V)
  have h3 : I64 = 9218868437227405312 := rfl
  unfold rnd
  rw [p52]
  generalize rD V (2 ^ rsh 53 1926 V) = q at h1 ⊢
  generalize rsh 53 1926 V - 1926 = y at h ⊢
  omega
theorem rnd_big {V : Nat} (h : 2045 < rsh 53 1926 V - 1926) : I64 ≤ rnd 53 1926 V := by
  have h1 : 2 ^ (53 - 1) ≤ rD V (2 ^ rsh 53 1926 V) := by
    rcases rD_rsh_norm (p := 53) (L := 1926) (V := V) (by decide) with c | c
    · omega
    · exact c
  have h3 : I64 = 9218868437227405312 := rfl
  unfold rnd
  rw [p52] at h1 ⊢
  generalize rD V (2 ^ rsh 53 1926 V) = q at h1 ⊢
  generalize rsh 53 1926 V - 1926 = y at h ⊢
  omega
theorem t_nearest {s m k : Nat} (hs : s < 2) (hm : m ≤ 2 ^ 63) (hk : k < 1000000) : f_I_nearest_JIJ (lN (s * W64)) (iZ ((k : Int) - 3000)) (lN m) = lN (s * W64 + enc 53 1926 I64 (m * 2 ^ k)) := by
  unfold f_I_nearest_JIJ
  have c := c_eq (a := m) (b := 0) (by omega) (by decide)
  by_cases h0 : m = 0
  · rw [if_pos (by rw [k_zero]; exact c.mpr h0), h0, Nat.zero_mul, enc_zero _ _ _ (by decide), Nat.add_zero]
  · rw [if_neg (fun q => h0 (by rw [k_zero] at q; exact c.mp q))]
    have hl : m.log2 < 64 := (Nat.log2_lt h0).mpr (by omega)
    have e1 : f_jM_max_II ((11 : Int32) - f_jL_numberOfLeadingZeros_J (lN m)) ((-1074 : Int32) - iZ ((k : Int) - 3000)) = iZ (max ((m.log2 : Int) + 1 - (53 : Nat)) (((1926 : Nat) : Int) - k)) := by
      rw [z_clz h0 (by omega), show (11 : Int32) = iZ 11 from rfl, show (-1074 : Int32) = iZ (-1074) from rfl, iZ_sub, iZ_sub, t_max (by omega) (by omega) (by omega) (by omega)]
      exact congrArg iZ (by omega)
    obtain ⟨d, hd⟩ : ∃ d : Int, d = max ((m.log2 : Int) + 1 - (53 : Nat)) (((1926 : Nat) : Int) - k) := ⟨_, rfl⟩
    rw [← hd] at e1
    obtain ⟨r1, r2⟩ := t_round (p := 53) (L := 1926) h0 hm (by decide) (by decide) hk (by decide) hd
    have hge := rsh_ge 53 1926 (m * 2 ^ k)
    have e2 : iZ ((k : Int) - 3000) + iZ d - (-1074 : Int32) = nI (rsh 53 1926 (m * 2 ^ k) - 1926) := by
      rw [show (-1074 : Int32) = iZ (-1074) from rfl, iZ_add, iZ_sub, ← iZ_n]
      exact congrArg iZ (by omega)
    simp only [e1, e2, r1]
    have hsh : rsh 53 1926 (m * 2 ^ k) < 2000000 := by omega
    have c2 : nI (rsh 53 1926 (m * 2 ^ k) - 1926) ≤ (2045 : Int32) ↔ rsh 53 1926 (m * 2 ^ k) - 1926 ≤ 2045 := nI_leI (b := 2045) (by omega) (by decide)
    by_cases h1 : rsh 53 1926 (m * 2 ^ k) - 1926 ≤ 2045
    · have hf := rnd_fit h1
      have he : enc 53 1926 I64 (m * 2 ^ k) = rnd 53 1926 (m * 2 ^ k) := Nat.min_eq_right hf
      rw [if_pos (c2.mpr h1), nI_l (by omega), show (52 : Int32) = nI 52 from rfl, w_shl _ (by decide), lN_add, he]
      exact or_sg hs (Nat.lt_of_le_of_lt hf I64_lt)
    · have hf := rnd_big (Nat.not_le.mp h1)
      have he : enc 53 1926 I64 (m * 2 ^ k) = I64 := Nat.min_eq_left hf
      rw [if_neg (fun q => h1 (c2.mp q)), k_inf, he]
      exact or_sg hs I64_lt
end
