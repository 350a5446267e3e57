-- ===== PART A: goes FIRST, ahead of the names: the tables' words, and 'selects' of the private methods out of them =====
/-- a private method of a class that the tables say can be made, by its rows of tables_1 -/
def lw_okq (q : MethodName × Nat) : Prop := (q.1.cls ≠ "java/lang/invoke/MethodHandle" ∧ q.1.cls ≠ "java/lang/invoke/VarHandle") ∧ Cond.instantiable q.1.cls q.2 ∈ tables_1 ∧ Cond.privateMethod q.1 ∈ tables_1 ∧ Cond.instanceMethod q.1 ∈ tables_1
theorem lw_p0 : lw_okq (⟨"MotionLab$Plane", "pullByField", "(I)V"⟩, 3) := ⟨⟨by decide +kernel, by decide +kernel⟩, List.mem_of_getElem? (i := 18) (by decide +kernel), List.mem_of_getElem? (i := 171) (by decide +kernel), List.mem_of_getElem? (i := 172) (by decide +kernel)⟩
theorem lw_p1 : lw_okq (⟨"MotionLab$Plane", "pullBySpring", "(I)V"⟩, 3) := ⟨⟨by decide +kernel, by decide +kernel⟩, List.mem_of_getElem? (i := 18) (by decide +kernel), List.mem_of_getElem? (i := 204) (by decide +kernel), List.mem_of_getElem? (i := 205) (by decide +kernel)⟩
theorem lw_p2 : lw_okq (⟨"MotionLab$Plane", "move", "(I)V"⟩, 3) := ⟨⟨by decide +kernel, by decide +kernel⟩, List.mem_of_getElem? (i := 18) (by decide +kernel), List.mem_of_getElem? (i := 251) (by decide +kernel), List.mem_of_getElem? (i := 252) (by decide +kernel)⟩
theorem lw_p3 : lw_okq (⟨"MotionLab$Plane", "afterDt", "(JJ)J"⟩, 3) := ⟨⟨by decide +kernel, by decide +kernel⟩, List.mem_of_getElem? (i := 18) (by decide +kernel), List.mem_of_getElem? (i := 255) (by decide +kernel), List.mem_of_getElem? (i := 256) (by decide +kernel)⟩
theorem lw_p4 : lw_okq (⟨"MotionLab$Plane", "keepInside", "(II)V"⟩, 3) := ⟨⟨by decide +kernel, by decide +kernel⟩, List.mem_of_getElem? (i := 18) (by decide +kernel), List.mem_of_getElem? (i := 259) (by decide +kernel), List.mem_of_getElem? (i := 260) (by decide +kernel)⟩
theorem lw_p5 : lw_okq (⟨"MotionLab$Plane", "collide", "(II)V"⟩, 3) := ⟨⟨by decide +kernel, by decide +kernel⟩, List.mem_of_getElem? (i := 18) (by decide +kernel), List.mem_of_getElem? (i := 266) (by decide +kernel), List.mem_of_getElem? (i := 267) (by decide +kernel)⟩
theorem lw_p6 : lw_okq (⟨"MotionLab$Plane", "energyOfMotion", "(I)J"⟩, 3) := ⟨⟨by decide +kernel, by decide +kernel⟩, List.mem_of_getElem? (i := 18) (by decide +kernel), List.mem_of_getElem? (i := 373) (by decide +kernel), List.mem_of_getElem? (i := 374) (by decide +kernel)⟩
theorem lw_p7 : lw_okq (⟨"MotionLab$Plane", "energyOfPlace", "(I)J"⟩, 3) := ⟨⟨by decide +kernel, by decide +kernel⟩, List.mem_of_getElem? (i := 18) (by decide +kernel), List.mem_of_getElem? (i := 378) (by decide +kernel), List.mem_of_getElem? (i := 379) (by decide +kernel)⟩
theorem lw_p8 : lw_okq (⟨"MotionLab$Plane", "energyOfSpring", "(I)J"⟩, 3) := ⟨⟨by decide +kernel, by decide +kernel⟩, List.mem_of_getElem? (i := 18) (by decide +kernel), List.mem_of_getElem? (i := 382) (by decide +kernel), List.mem_of_getElem? (i := 383) (by decide +kernel)⟩
theorem lw_p9 : lw_okq (⟨"MotionLabModel", "once", "()V"⟩, 21) := ⟨⟨by decide +kernel, by decide +kernel⟩, List.mem_of_getElem? (i := 413) (by decide +kernel), List.mem_of_getElem? (i := 567) (by decide +kernel), List.mem_of_getElem? (i := 568) (by decide +kernel)⟩
theorem lw_p10 : lw_okq (⟨"MotionLabModel", "pull", "(I)V"⟩, 21) := ⟨⟨by decide +kernel, by decide +kernel⟩, List.mem_of_getElem? (i := 413) (by decide +kernel), List.mem_of_getElem? (i := 601) (by decide +kernel), List.mem_of_getElem? (i := 602) (by decide +kernel)⟩
theorem lw_p11 : lw_okq (⟨"MotionLabModel", "distance", "(I)J"⟩, 21) := ⟨⟨by decide +kernel, by decide +kernel⟩, List.mem_of_getElem? (i := 413) (by decide +kernel), List.mem_of_getElem? (i := 605) (by decide +kernel), List.mem_of_getElem? (i := 606) (by decide +kernel)⟩
theorem lw_p12 : lw_okq (⟨"MotionLabModel", "go", "([J[J[JI)V"⟩, 21) := ⟨⟨by decide +kernel, by decide +kernel⟩, List.mem_of_getElem? (i := 413) (by decide +kernel), List.mem_of_getElem? (i := 632) (by decide +kernel), List.mem_of_getElem? (i := 633) (by decide +kernel)⟩
theorem lw_p13 : lw_okq (⟨"MotionLabModel", "hit", "(II)V"⟩, 21) := ⟨⟨by decide +kernel, by decide +kernel⟩, List.mem_of_getElem? (i := 413) (by decide +kernel), List.mem_of_getElem? (i := 636) (by decide +kernel), List.mem_of_getElem? (i := 637) (by decide +kernel)⟩
theorem lw_p14 : lw_okq (⟨"MotionLabModel", "number", "(II)J"⟩, 21) := ⟨⟨by decide +kernel, by decide +kernel⟩, List.mem_of_getElem? (i := 413) (by decide +kernel), List.mem_of_getElem? (i := 644) (by decide +kernel), List.mem_of_getElem? (i := 645) (by decide +kernel)⟩
def lw_privs_1 : List (MethodName × Nat) := [(⟨"MotionLab$Plane", "pullByField", "(I)V"⟩, 3), (⟨"MotionLab$Plane", "pullBySpring", "(I)V"⟩, 3), (⟨"MotionLab$Plane", "move", "(I)V"⟩, 3), (⟨"MotionLab$Plane", "afterDt", "(JJ)J"⟩, 3), (⟨"MotionLab$Plane", "keepInside", "(II)V"⟩, 3), (⟨"MotionLab$Plane", "collide", "(II)V"⟩, 3), (⟨"MotionLab$Plane", "energyOfMotion", "(I)J"⟩, 3), (⟨"MotionLab$Plane", "energyOfPlace", "(I)J"⟩, 3), (⟨"MotionLab$Plane", "energyOfSpring", "(I)J"⟩, 3), (⟨"MotionLabModel", "once", "()V"⟩, 21), (⟨"MotionLabModel", "pull", "(I)V"⟩, 21), (⟨"MotionLabModel", "distance", "(I)J"⟩, 21), (⟨"MotionLabModel", "go", "([J[J[JI)V"⟩, 21), (⟨"MotionLabModel", "hit", "(II)V"⟩, 21), (⟨"MotionLabModel", "number", "(II)J"⟩, 21)]
theorem lw_r1 : ∀ q ∈ lw_privs_1, lw_okq q := List.forall_mem_cons.mpr ⟨lw_p0, List.forall_mem_cons.mpr ⟨lw_p1, List.forall_mem_cons.mpr ⟨lw_p2, List.forall_mem_cons.mpr ⟨lw_p3, List.forall_mem_cons.mpr ⟨lw_p4, List.forall_mem_cons.mpr ⟨lw_p5, List.forall_mem_cons.mpr ⟨lw_p6, List.forall_mem_cons.mpr ⟨lw_p7, List.forall_mem_cons.mpr ⟨lw_p8, List.forall_mem_cons.mpr ⟨lw_p9, List.forall_mem_cons.mpr ⟨lw_p10, List.forall_mem_cons.mpr ⟨lw_p11, List.forall_mem_cons.mpr ⟨lw_p12, List.forall_mem_cons.mpr ⟨lw_p13, List.forall_mem_cons.mpr ⟨lw_p14, fun _ h => absurd h List.not_mem_nil⟩⟩⟩⟩⟩⟩⟩⟩⟩⟩⟩⟩⟩⟩⟩
def lw_privs : List (MethodName × Nat) := lw_privs_1
def lw_tbl : List Cond := k2_sels lw_privs ++ tables_1
theorem lw_privs_ok : ∀ q ∈ lw_privs, lw_okq q := lw_r1
/-! OUR OWN ROWS: words of any method (its own code, then all that the tables say), pure methods (no cell is touched), the reference's three tables -/
def lw_g : List Cond := lw_tbl.filter goodWord
def gw (y : MethodName) (b : ByteArray) (n : Nat) (r : Option FieldType) : List Cond := .code y b n r :: lw_g
theorem gm {w : Cond} {y : MethodName} {b : ByteArray} {n : Nat} {r : Option FieldType} (h : w ∈ lw_g) : w ∈ gw y b n r := List.mem_cons_of_mem _ h
theorem gw_good {w : Cond} (h : w ∈ lw_g) : (w.onTables && w.keeps) = true ∨ ∃ ty, w = .arrayClass ty := good_of_word (List.mem_filter.mp h).2
theorem gw_in {y y2 : MethodName} {b b2 : ByteArray} {n n2 : Nat} {r r2 : Option FieldType} (h : Cond.code y b n r ∈ lw_g) : GoodIn (gw y2 b2 n2 r2) (gw y b n r) := by
  intro w hw
  rcases List.mem_cons.mp hw with e | hw
  · rw [e]; exact ⟨gm h, gw_good h⟩
  · exact ⟨gm hw, gw_good hw⟩
theorem gw_call {R : Room} {s : State} {args : Array Value} {own : String} {index k : Nat} {y y2 : MethodName} {b b2 : ByteArray} {n n2 : Nat} {r r2 : Option FieldType} {rm : Room}
    (hts : ∀ w ∈ gw y2 b2 n2 r2, w.before args s = true) (h1 : Cond.methodLink own index y ∈ lw_g) (h2 : Cond.static y ∈ lw_g) (h3 : Cond.initialized y.cls ∈ lw_g) (h4 : Cond.code y b n r ∈ lw_g)
    (hd : y.cls ≠ "java/lang/invoke/MethodHandle" ∧ y.cls ≠ "java/lang/invoke/VarHandle" ∧ (parseMethodDescriptor y.desc).map (fun d => d.parameters.length) = some k) (hc : rm.cells = 0) (hs : rm.slots = 0) (hR : rm.frames + 1 ≤ R.frames ∧ 8 + (n + 11) + rm.locals ≤ R.locals) :
    CallB R s args own index y b n r (gw y b n r) rm 0 0 k ∧ (Cond.static y).before args s = true := by
  refine va_cwS k hts (fun w hw => ?_) rfl hc hs hd hR
  unfold va_wsS at hw
  rcases List.mem_append.mp hw with hw | hw
  · rcases List.mem_cons.mp hw with e | hw
    · rw [e]; exact ⟨gm h1, gw_good h1⟩
    · rcases List.mem_cons.mp hw with e | hw
      · rw [e]; exact ⟨gm h2, gw_good h2⟩
      · rcases List.mem_cons.mp hw with e | hw
        · rw [e]; exact ⟨gm h3, gw_good h3⟩
        · cases hw
  · exact gw_in h4 w hw
theorem gw_callV {R : Room} {s : State} {args : Array Value} {own : String} {index k : Nat} {y y2 : MethodName} {b b2 : ByteArray} {n n2 : Nat} {r r2 : Option FieldType} {rm : Room}
    (hts : ∀ w ∈ gw y2 b2 n2 r2, w.before args s = true) (h1 : Cond.methodLink own index y ∈ lw_g) (h2 : Cond.instanceMethod y ∈ lw_g) (h3 : Cond.selects y.cls y y ∈ lw_g) (h5 : Cond.initialized y.cls ∈ lw_g) (h4 : Cond.code y b n r ∈ lw_g)
    (hd : y.cls ≠ "java/lang/invoke/MethodHandle" ∧ y.cls ≠ "java/lang/invoke/VarHandle" ∧ (parseMethodDescriptor y.desc).map (fun d => d.parameters.length) = some k) (hc : rm.cells = 0) (hs : rm.slots = 0) (hR : rm.frames + 1 ≤ R.frames ∧ 8 + (n + 11) + rm.locals ≤ R.locals) :
    CallW R s args own y.cls index y b n r (gw y b n r) rm 0 0 k := by
  refine cwV k hts (fun w hw => ?_) rfl hc hs ⟨rfl, hd⟩ hR
  unfold wsV at hw
  rcases List.mem_append.mp hw with hw | hw
  · rcases List.mem_cons.mp hw with e | hw
    · rw [e]; exact ⟨gm h1, gw_good h1⟩
    · rcases List.mem_cons.mp hw with e | hw
      · rw [e]; exact ⟨gm h2, gw_good h2⟩
      · rcases List.mem_cons.mp hw with e | hw
        · rw [e]; exact ⟨gm h3, gw_good h3⟩
        · rcases List.mem_cons.mp hw with e | hw
          · rw [e]; exact ⟨gm h5, gw_good h5⟩
          · cases hw
  · exact gw_in h4 w hw
/-- what a walk of a method holds all the way -/
def pu_C (p : Program) (s : State) (m : MethodId) (args : Array Value) (meth : Method) (c : Code) (cc : ByteArray) (n : Nat) (own : String) (ret : Option FieldType) (ws : List Cond) : Prop :=
  p.tables.exec = Jvm.exec ∧ c.code = cc ∧ c.maxLocals = n ∧ s.vm.findClass own = some m.cls ∧ (∀ w ∈ ws, w.before args s = true) ∧ meth.sig.returnType = ret ∧ meth.locks = false
def pu_Pc (av : List Value) (h : Heap) : Array Value → State → Prop := va_Pc av (fun U => U.heap = h)
def pu_Ml (w : Int64) (h : Heap) : Array Value → State → Outcome → State → Prop := va_Ql (fun r (_ : Unit) => r = w) (fun _ t => t.heap = h) (fun _ => False)
def pu_Mi (w : Int32) (h : Heap) : Array Value → State → Outcome → State → Prop := va_Qi (fun r (_ : Unit) => r = w) (fun _ t => t.heap = h) (fun _ => False)
abbrev pu_Ql (w : Int64) (below : List Frame) (args : Array Value) (s : State) : State → Prop := MQ below (pu_Ml w s.heap) args s 0 0 (fun _ => False)
abbrev pu_Qi (w : Int32) (below : List Frame) (args : Array Value) (s : State) : State → Prop := MQ below (pu_Mi w s.heap) args s 0 0 (fun _ => False)
def RTH (t0 t1 t2 : Nat) (U : State) (H : Heap) : Prop :=
  (va_Z "MotionLabModel" "PLACES" "[I" (.ref t0) (fun _ => False) U H ∧ va_T .int t0 2 (fun j => .int (if j = 0 then 53 else 24)) (fun _ => False) U H) ∧
  (va_Z "MotionLabModel" "LEAST" "[I" (.ref t1) (fun _ => False) U H ∧ va_T .int t1 2 (fun j => .int (if j = 0 then (-1074) else (-149))) (fun _ => False) U H) ∧
  (va_Z "MotionLabModel" "GREATEST" "[I" (.ref t2) (fun _ => False) U H ∧ va_T .int t2 2 (fun j => .int (if j = 0 then 971 else 104)) (fun _ => False) U H)
theorem RTH.moved {t0 t1 t2 : Nat} {u U : State} {H : Heap} (hvm : u.vm.Alike U.vm) (h : RTH t0 t1 t2 u H) : RTH t0 t1 t2 U H :=
  ⟨⟨va_Z.moved hvm h.1.1, va_T.moved hvm h.1.2⟩, ⟨va_Z.moved hvm h.2.1.1, va_T.moved hvm h.2.1.2⟩, ⟨va_Z.moved hvm h.2.2.1, va_T.moved hvm h.2.2.2⟩⟩
def tP_at (k : Int32) : Int32 := if k.toNatClampNeg = 0 then 53 else 24
def tL_at (k : Int32) : Int32 := if k.toNatClampNeg = 0 then (-1074) else (-149)
def tG_at (k : Int32) : Int32 := if k.toNatClampNeg = 0 then 971 else 104
def pr_Pc (av : List Value) (h : Heap) (t0 t1 t2 : Nat) : Array Value → State → Prop := va_Pc av (fun U => U.heap = h ∧ RTH t0 t1 t2 U U.heap)
theorem pu_pre {s : State} {H : Heap} {As : List Value} : PreS s H (pu_Pc As H) As := ⟨fun _ _ _ _ q => ⟨q.1, q.2⟩, fun _ hU _ => ⟨rfl, hU⟩⟩
theorem pr_pre {s : State} {H : Heap} {As : List Value} {t0 t1 t2 : Nat} (h : RTH t0 t1 t2 s H) : PreS s H (pr_Pc As H t0 t1 t2) As :=
  ⟨fun a U g mk q => ⟨q.1, q.2.1, RTH.moved (u := U) (U := U.calling g mk a) (Vm.Alike.refl U.vm) q.2.2⟩, fun U hU hW => ⟨rfl, hU, by rw [hU]; exact RTH.moved hW.alike h⟩⟩
def j_shl (x : Int64) (y : Int32) : Int64 := x <<< (y.toInt64 &&& 63)
def j_shr (x : Int64) (y : Int32) : Int64 := x >>> (y.toInt64 &&& 63)
def j_ushr (x : Int64) (y : Int32) : Int64 := (x.toUInt64 >>> (y.toInt64.toUInt64 &&& Int64.toUInt64 63)).toInt64
def j_iushr (x y : Int32) : Int32 := (x.toUInt32 >>> (y.toUInt32 &&& Int32.toUInt32 31)).toInt32
theorem sw_out {x : Int32} {lo hi : Int} (h : ∀ j : Int, lo ≤ j → j ≤ hi → ¬ x.toInt = j) : x.toInt < lo ∨ hi < x.toInt := by
  rcases Int.lt_or_le x.toInt lo with h1 | h1
  · exact Or.inl h1
  · rcases Int.lt_or_le hi x.toInt with h2 | h2
    · exact Or.inr h2
    · exact absurd rfl (h _ h1 h2)
section PU
variable {p : Program} {l : Launch} {e : Env} {R : Room} {s : State} {m : MethodId} {args : Array Value} {below : List Frame} {meth : Method} {c : Code}
variable {cc : ByteArray} {pc : Nat} {ls : Array Slot}
theorem pu_lret (hx : p.tables.exec = Jvm.exec) (hb : c.code = cc) (hr : meth.sig.returnType = some .long) (hlocks : meth.locks = false) (hdg : decode cc pc = .ok (.lreturn, 1)) {v w : Int64} (hv : v = w) :
    W p l e R s m args below meth c s.heap [] 0 0 (pu_Ql w below args s) (F0 m pc ls [.long v]) := by
  subst hv
  exact W.lret hx hb hr (fun t ht _ => ⟨⟨v, (), rfl, rfl, ht⟩, ⟨by rw [ht]; exact Nat.le_refl _, fun q _ _ => by rw [ht]⟩⟩) (fun q h => by cases h) hdg hlocks
theorem pu_iret (hx : p.tables.exec = Jvm.exec) (hb : c.code = cc) (hr : meth.sig.returnType = some .int) (hlocks : meth.locks = false) (hdg : decode cc pc = .ok (.ireturn, 1)) {v w : Int32} (hv : v = w) :
    W p l e R s m args below meth c s.heap [] 0 0 (pu_Qi w below args s) (F0 m pc ls [.int v]) := by
  subst hv
  exact W.iret hx hb hr (fun t ht _ => ⟨⟨v, (), rfl, rfl, ht⟩, ⟨by rw [ht]; exact Nat.le_refl _, fun q _ _ => by rw [ht]⟩⟩) (fun q h => by cases h) hdg hlocks
theorem pu_zret (hx : p.tables.exec = Jvm.exec) (hb : c.code = cc) (hr : meth.sig.returnType = some .boolean) {v w : Int32} (hn : narrow .boolean (.int v) = .int v) (hlocks : meth.locks = false) (hdg : decode cc pc = .ok (.ireturn, 1)) (hv : v = w) :
    W p l e R s m args below meth c s.heap [] 0 0 (pu_Qi w below args s) (F0 m pc ls [.int v]) := by
  subst hv
  exact W.zret hx hb hr hn (fun t ht _ => ⟨⟨v, (), rfl, rfl, ht⟩, ⟨by rw [ht]; exact Nat.le_refl _, fun q _ _ => by rw [ht]⟩⟩) (fun q h => by cases h) hdg hlocks
variable {H : Heap} {locs : List Loc} {cells slots : Nat} {Q : State → Prop} {Ts ws : List Cond} {own : String} {y : MethodName} {bytes : ByteArray} {maxL nL n index : Nat} {ret : Option FieldType} {rm : Room} {Pc : Array Value → State → Prop} {As rest st0 : List Value}
/-- a pure method is called: nothing but the stack changes -/
theorem pu_l {v : Int64} (S0 : CallFix p m c cc nL s args Ts own) (hM : Met l y ws rm Pc (pu_Ml v H) 0 0 (fun _ => False)) (hp : PreS s H Pc As) (cw : CallB R s args own index y bytes maxL ret ws rm 0 0 n ∧ (Cond.static y).before args s = true)
    (hn : As.length = n) (hsize : ls.size = nL) (hstack : st0 = As.reverse ++ rest) (hW : (rest.map fun v => v.category).sum ≤ 8) (hf : cells ≤ R.cells ∧ slots ≤ R.slots) (hdg : decode cc pc = .ok (.invokestatic index, 3))
    (k : W p l e R s m args below meth c H locs cells slots Q (F0 m (pc + 3) ls (.long v :: rest))) : W p l e R s m args below meth c H locs cells slots Q (F0 m pc ls st0) := by
  intro T hT X
  obtain ⟨w, st₀, t, T', L, h0, X', hL, e1, e2, ⟨⟨r, u, hv, hp1, hb1⟩, hz, hk⟩, st⟩ := va_runS (g := F0 m pc ls st0) S0 hM cw hp rfl hn hsize hstack (lv_room hW) hdg hf T hT X
  cases hv
  subst hp1
  have hLn : L = [] := by
    cases L with
    | nil => rfl
    | cons q L => exact (hL q List.mem_cons_self).elim
  subst hLn
  rw [List.append_nil] at X'
  obtain ⟨t2, a1, b1⟩ := k T' (by rw [e1]; exact hb1) X'
  exact ⟨t2, st t2 a1, b1⟩
theorem pu_i {v : Int32} (S0 : CallFix p m c cc nL s args Ts own) (hM : Met l y ws rm Pc (pu_Mi v H) 0 0 (fun _ => False)) (hp : PreS s H Pc As) (cw : CallB R s args own index y bytes maxL ret ws rm 0 0 n ∧ (Cond.static y).before args s = true)
    (hn : As.length = n) (hsize : ls.size = nL) (hstack : st0 = As.reverse ++ rest) (hW : (rest.map fun v => v.category).sum ≤ 8) (hf : cells ≤ R.cells ∧ slots ≤ R.slots) (hdg : decode cc pc = .ok (.invokestatic index, 3))
    (k : W p l e R s m args below meth c H locs cells slots Q (F0 m (pc + 3) ls (.int v :: rest))) : W p l e R s m args below meth c H locs cells slots Q (F0 m pc ls st0) := by
  intro T hT X
  obtain ⟨w, st₀, t, T', L, h0, X', hL, e1, e2, ⟨⟨r, u, hv, hp1, hb1⟩, hz, hk⟩, st⟩ := va_runS (g := F0 m pc ls st0) S0 hM cw hp rfl hn hsize hstack (lv_room hW) hdg hf T hT X
  cases hv
  subst hp1
  have hLn : L = [] := by
    cases L with
    | nil => rfl
    | cons q L => exact (hL q List.mem_cons_self).elim
  subst hLn
  rw [List.append_nil] at X'
  obtain ⟨t2, a1, b1⟩ := k T' (by rw [e1]; exact hb1) X'
  exact ⟨t2, st t2 a1, b1⟩
end PU
