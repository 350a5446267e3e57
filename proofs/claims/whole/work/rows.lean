section
-- ===== PART A: goes FIRST, ahead of the names: the tables' words, and 'selects' of the private methods out of them =====
/-- a private method of a class that the tables say can be made, by its rows of tables_1 -/
def lw_okq (q : MethodName × Nat) : Prop := (q.1.cls ≠ "java/lang/invoke/MethodHandle" ∧ q.1.cls ≠ "java/lang/invoke/VarHandle") ∧ Cond.instantiable q.1.cls q.2 ∈ tables_1 ∧ Cond.privateMethod q.1 ∈ tables_1 ∧ Cond.instanceMethod q.1 ∈ tables_1
theorem lw_p0 : lw_okq (⟨"MotionLab$Plane", "pullByField", "(I)V"⟩, 3) := ⟨⟨by decide +kernel, by decide +kernel⟩, List.mem_of_getElem? (i := 18) (by decide +kernel), List.mem_of_getElem? (i := 171) (by decide +kernel), List.mem_of_getElem? (i := 172) (by decide +kernel)⟩
theorem lw_p1 : lw_okq (⟨"MotionLab$Plane", "pullBySpring", "(I)V"⟩, 3) := ⟨⟨by decide +kernel, by decide +kernel⟩, List.mem_of_getElem? (i := 18) (by decide +kernel), List.mem_of_getElem? (i := 204) (by decide +kernel), List.mem_of_getElem? (i := 205) (by decide +kernel)⟩
theorem lw_p2 : lw_okq (⟨"MotionLab$Plane", "move", "(I)V"⟩, 3) := ⟨⟨by decide +kernel, by decide +kernel⟩, List.mem_of_getElem? (i := 18) (by decide +kernel), List.mem_of_getElem? (i := 251) (by decide +kernel), List.mem_of_getElem? (i := 252) (by decide +kernel)⟩
theorem lw_p3 : lw_okq (⟨"MotionLab$Plane", "afterDt", "(JJ)J"⟩, 3) := ⟨⟨by decide +kernel, by decide +kernel⟩, List.mem_of_getElem? (i := 18) (by decide +kernel), List.mem_of_getElem? (i := 255) (by decide +kernel), List.mem_of_getElem? (i := 256) (by decide +kernel)⟩
theorem lw_p4 : lw_okq (⟨"MotionLab$Plane", "keepInside", "(II)V"⟩, 3) := ⟨⟨by decide +kernel, by decide +kernel⟩, List.mem_of_getElem? (i := 18) (by decide +kernel), List.mem_of_getElem? (i := 259) (by decide +kernel), List.mem_of_getElem? (i := 260) (by decide +kernel)⟩
theorem lw_p5 : lw_okq (⟨"MotionLab$Plane", "collide", "(II)V"⟩, 3) := ⟨⟨by decide +kernel, by decide +kernel⟩, List.mem_of_getElem? (i := 18) (by decide +kernel), List.mem_of_getElem? (i := 266) (by decide +kernel), List.mem_of_getElem? (i := 267) (by decide +kernel)⟩
theorem lw_p6 : lw_okq (⟨"MotionLab$Plane", "energyOfMotion", "(I)J"⟩, 3) := ⟨⟨by decide +kernel, by decide +kernel⟩, List.mem_of_getElem? (i := 18) (by decide +kernel), List.mem_of_getElem? (i := 373) (by decide +kernel), List.mem_of_getElem? (i := 374) (by decide +kernel)⟩
theorem lw_p7 : lw_okq (⟨"MotionLab$Plane", "energyOfPlace", "(I)J"⟩, 3) := ⟨⟨by decide +kernel, by decide +kernel⟩, List.mem_of_getElem? (i := 18) (by decide +kernel), List.mem_of_getElem? (i := 378) (by decide +kernel), List.mem_of_getElem? (i := 379) (by decide +kernel)⟩
theorem lw_p8 : lw_okq (⟨"MotionLab$Plane", "energyOfSpring", "(I)J"⟩, 3) := ⟨⟨by decide +kernel, by decide +kernel⟩, List.mem_of_getElem? (i := 18) (by decide +kernel), List.mem_of_getElem? (i := 382) (by decide +kernel), List.mem_of_getElem? (i := 383) (by decide +kernel)⟩
theorem lw_p9 : lw_okq (⟨"MotionLabModel", "once", "()V"⟩, 21) := ⟨⟨by decide +kernel, by decide +kernel⟩, List.mem_of_getElem? (i := 413) (by decide +kernel), List.mem_of_getElem? (i := 567) (by decide +kernel), List.mem_of_getElem? (i := 568) (by decide +kernel)⟩
theorem lw_p10 : lw_okq (⟨"MotionLabModel", "pull", "(I)V"⟩, 21) := ⟨⟨by decide +kernel, by decide +kernel⟩, List.mem_of_getElem? (i := 413) (by decide +kernel), List.mem_of_getElem? (i := 601) (by decide +kernel), List.mem_of_getElem? (i := 602) (by decide +kernel)⟩
theorem lw_p11 : lw_okq (⟨"MotionLabModel", "distance", "(I)J"⟩, 21) := ⟨⟨by decide +kernel, by decide +kernel⟩, List.mem_of_getElem? (i := 413) (by decide +kernel), List.mem_of_getElem? (i := 605) (by decide +kernel), List.mem_of_getElem? (i := 606) (by decide +kernel)⟩
theorem lw_p12 : lw_okq (⟨"MotionLabModel", "go", "([J[J[JI)V"⟩, 21) := ⟨⟨by decide +kernel, by decide +kernel⟩, List.mem_of_getElem? (i := 413) (by decide +kernel), List.mem_of_getElem? (i := 632) (by decide +kernel), List.mem_of_getElem? (i := 633) (by decide +kernel)⟩
theorem lw_p13 : lw_okq (⟨"MotionLabModel", "hit", "(II)V"⟩, 21) := ⟨⟨by decide +kernel, by decide +kernel⟩, List.mem_of_getElem? (i := 413) (by decide +kernel), List.mem_of_getElem? (i := 636) (by decide +kernel), List.mem_of_getElem? (i := 637) (by decide +kernel)⟩
theorem lw_p14 : lw_okq (⟨"MotionLabModel", "number", "(II)J"⟩, 21) := ⟨⟨by decide +kernel, by decide +kernel⟩, List.mem_of_getElem? (i := 413) (by decide +kernel), List.mem_of_getElem? (i := 644) (by decide +kernel), List.mem_of_getElem? (i := 645) (by decide +kernel)⟩
def lw_privs_1 : List (MethodName × Nat) := [(⟨"MotionLab$Plane", "pullByField", "(I)V"⟩, 3), (⟨"MotionLab$Plane", "pullBySpring", "(I)V"⟩, 3), (⟨"MotionLab$Plane", "move", "(I)V"⟩, 3), (⟨"MotionLab$Plane", "afterDt", "(JJ)J"⟩, 3), (⟨"MotionLab$Plane", "keepInside", "(II)V"⟩, 3), (⟨"MotionLab$Plane", "collide", "(II)V"⟩, 3), (⟨"MotionLab$Plane", "energyOfMotion", "(I)J"⟩, 3), (⟨"MotionLab$Plane", "energyOfPlace", "(I)J"⟩, 3), (⟨"MotionLab$Plane", "energyOfSpring", "(I)J"⟩, 3), (⟨"MotionLabModel", "once", "()V"⟩, 21), (⟨"MotionLabModel", "pull", "(I)V"⟩, 21), (⟨"MotionLabModel", "distance", "(I)J"⟩, 21), (⟨"MotionLabModel", "go", "([J[J[JI)V"⟩, 21), (⟨"MotionLabModel", "hit", "(II)V"⟩, 21), (⟨"MotionLabModel", "number", "(II)J"⟩, 21)]
theorem lw_r1 : ∀ q ∈ lw_privs_1, lw_okq q := List.forall_mem_cons.mpr ⟨lw_p0, List.forall_mem_cons.mpr ⟨lw_p1, List.forall_mem_cons.mpr ⟨lw_p2, List.forall_mem_cons.mpr ⟨lw_p3, List.forall_mem_cons.mpr ⟨lw_p4, List.forall_mem_cons.mpr ⟨lw_p5, List.forall_mem_cons.mpr ⟨lw_p6, List.forall_mem_cons.mpr ⟨lw_p7, List.forall_mem_cons.mpr ⟨lw_p8, List.forall_mem_cons.mpr ⟨lw_p9, List.forall_mem_cons.mpr ⟨lw_p10, List.forall_mem_cons.mpr ⟨lw_p11, List.forall_mem_cons.mpr ⟨lw_p12, List.forall_mem_cons.mpr ⟨lw_p13, List.forall_mem_cons.mpr ⟨lw_p14, fun _ h => absurd h List.not_mem_nil⟩⟩⟩⟩⟩⟩⟩⟩⟩⟩⟩⟩⟩⟩⟩
def lw_privs : List (MethodName × Nat) := lw_privs_1
def lw_tbl : List Cond := k2_sels lw_privs ++ tables_1
theorem lw_privs_ok : ∀ q ∈ lw_privs, lw_okq q := lw_r1
/-! OUR OWN ROWS: words of any method (its own code, then all that the tables say), pure methods (no cell is touched), the reference's three tables -/
def lw_g : List Cond := lw_tbl.filter goodWord
def gw (y : MethodName) (b : ByteArray) (n : Nat) (r : Option FieldType) : List Cond := .code y b n r :: lw_g
theorem gm {w : Cond} {y : MethodName} {b : ByteArray} {n : Nat} {r : Option FieldType} (h : w ∈ lw_g) : w ∈ gw y b n r := List.mem_cons_of_mem _ h
theorem gw_good {w : Cond} (h : w ∈ lw_g) : (w.onTables && w.keeps) = true ∨ ∃ ty, w = .arrayClass ty := good_of_word (List.mem_filter.mp h).2
theorem gw_in {y y2 : MethodName} {b b2 : ByteArray} {n n2 : Nat} {r r2 : Option FieldType} (h : Cond.code y b n r ∈ lw_g) : GoodIn (gw y2 b2 n2 r2) (gw y b n r) := by
  intro w hw
  rcases List.mem_cons.mp hw with e | hw
  · rw [e]; exact ⟨gm h, gw_good h⟩
  · exact ⟨gm hw, gw_good hw⟩
theorem gw_call {R : Room} {s : State} {args : Array Value} {own : String} {index k : Nat} {y y2 : MethodName} {b b2 : ByteArray} {n n2 : Nat} {r r2 : Option FieldType} {rm : Room}
    (hts : ∀ w ∈ gw y2 b2 n2 r2, w.before args s = true) (h1 : Cond.methodLink own index y ∈ lw_g) (h2 : Cond.static y ∈ lw_g) (h3 : Cond.initialized y.cls ∈ lw_g) (h4 : Cond.code y b n r ∈ lw_g)
    (hd : y.cls ≠ "java/lang/invoke/MethodHandle" ∧ y.cls ≠ "java/lang/invoke/VarHandle" ∧ (parseMethodDescriptor y.desc).map (fun d => d.parameters.length) = some k) (hc : rm.cells = 0) (hs : rm.slots = 0) (hR : rm.frames + 1 ≤ R.frames ∧ 8 + (n + 11) + rm.locals ≤ R.locals) :
    CallB R s args own index y b n r (gw y b n r) rm 0 0 k ∧ (Cond.static y).before args s = true := by
  refine va_cwS k hts (fun w hw => ?_) rfl hc hs hd hR
  unfold va_wsS at hw
  rcases List.mem_append.mp hw with hw | hw
  · rcases List.mem_cons.mp hw with e | hw
    · rw [e]; exact ⟨gm h1, gw_good h1⟩
    · rcases List.mem_cons.mp hw with e | hw
      · rw [e]; exact ⟨gm h2, gw_good h2⟩
      · rcases List.mem_cons.mp hw with e | hw
        · rw [e]; exact ⟨gm h3, gw_good h3⟩
        · cases hw
  · exact gw_in h4 w hw
theorem gw_callV {R : Room} {s : State} {args : Array Value} {own : String} {index k : Nat} {y y2 : MethodName} {b b2 : ByteArray} {n n2 : Nat} {r r2 : Option FieldType} {rm : Room}
    (hts : ∀ w ∈ gw y2 b2 n2 r2, w.before args s = true) (h1 : Cond.methodLink own index y ∈ lw_g) (h2 : Cond.instanceMethod y ∈ lw_g) (h3 : Cond.selects y.cls y y ∈ lw_g) (h5 : Cond.initialized y.cls ∈ lw_g) (h4 : Cond.code y b n r ∈ lw_g)
    (hd : y.cls ≠ "java/lang/invoke/MethodHandle" ∧ y.cls ≠ "java/lang/invoke/VarHandle" ∧ (parseMethodDescriptor y.desc).map (fun d => d.parameters.length) = some k) (hc : rm.cells = 0) (hs : rm.slots = 0) (hR : rm.frames + 1 ≤ R.frames ∧ 8 + (n + 11) + rm.locals ≤ R.locals) :
    CallW R s args own y.cls index y b n r (gw y b n r) rm 0 0 k := by
  refine cwV k hts (fun w hw => ?_) rfl hc hs ⟨rfl, hd⟩ hR
  unfold wsV at hw
  rcases List.mem_append.mp hw with hw | hw
  · rcases List.mem_cons.mp hw with e | hw
    · rw [e]; exact ⟨gm h1, gw_good h1⟩
    · rcases List.mem_cons.mp hw with e | hw
      · rw [e]; exact ⟨gm h2, gw_good h2⟩
      · rcases List.mem_cons.mp hw with e | hw
        · rw [e]; exact ⟨gm h3, gw_good h3⟩
        · rcases List.mem_cons.mp hw with e | hw
          · rw [e]; exact ⟨gm h5, gw_good h5⟩
          · cases hw
  · exact gw_in h4 w hw
/-- what a walk of a method holds all the way -/
def pu_C (p : Program) (s : State) (m : MethodId) (args : Array Value) (meth : Method) (c : Code) (cc : ByteArray) (n : Nat) (own : String) (ret : Option FieldType) (ws : List Cond) : Prop :=
  p.tables.exec = Jvm.exec ∧ c.code = cc ∧ c.maxLocals = n ∧ s.vm.findClass own = some m.cls ∧ (∀ w ∈ ws, w.before args s = true) ∧ meth.sig.returnType = ret ∧ meth.locks = false
def pu_Pc (av : List Value) (h : Heap) : Array Value → State → Prop := va_Pc av (fun U => U.heap = h)
def pu_Ml (w : Int64) (h : Heap) : Array Value → State → Outcome → State → Prop := va_Ql (fun r (_ : Unit) => r = w) (fun _ t => t.heap = h) (fun _ => False)
def pu_Mi (w : Int32) (h : Heap) : Array Value → State → Outcome → State → Prop := va_Qi (fun r (_ : Unit) => r = w) (fun _ t => t.heap = h) (fun _ => False)
abbrev pu_Ql (w : Int64) (below : List Frame) (args : Array Value) (s : State) : State → Prop := MQ below (pu_Ml w s.heap) args s 0 0 (fun _ => False)
abbrev pu_Qi (w : Int32) (below : List Frame) (args : Array Value) (s : State) : State → Prop := MQ below (pu_Mi w s.heap) args s 0 0 (fun _ => False)
def RTH (t0 t1 t2 : Nat) (U : State) (H : Heap) : Prop :=
  (va_Z "MotionLabModel" "PLACES" "[I" (.ref t0) (fun _ => False) U H ∧ va_T .int t0 2 (fun j => .int (if j = 0 then 53 else 24)) (fun _ => False) U H) ∧
  (va_Z "MotionLabModel" "LEAST" "[I" (.ref t1) (fun _ => False) U H ∧ va_T .int t1 2 (fun j => .int (if j = 0 then (-1074) else (-149))) (fun _ => False) U H) ∧
  (va_Z "MotionLabModel" "GREATEST" "[I" (.ref t2) (fun _ => False) U H ∧ va_T .int t2 2 (fun j => .int (if j = 0 then 971 else 104)) (fun _ => False) U H)
theorem RTH.moved {t0 t1 t2 : Nat} {u U : State} {H : Heap} (hvm : u.vm.Alike U.vm) (h : RTH t0 t1 t2 u H) : RTH t0 t1 t2 U H :=
  ⟨⟨va_Z.moved hvm h.1.1, va_T.moved hvm h.1.2⟩, ⟨va_Z.moved hvm h.2.1.1, va_T.moved hvm h.2.1.2⟩, ⟨va_Z.moved hvm h.2.2.1, va_T.moved hvm h.2.2.2⟩⟩
def tP_at (k : Int32) : Int32 := if k.toNatClampNeg = 0 then 53 else 24
def tL_at (k : Int32) : Int32 := if k.toNatClampNeg = 0 then (-1074) else (-149)
def tG_at (k : Int32) : Int32 := if k.toNatClampNeg = 0 then 971 else 104
def pr_Pc (av : List Value) (h : Heap) (t0 t1 t2 : Nat) : Array Value → State → Prop := va_Pc av (fun U => U.heap = h ∧ RTH t0 t1 t2 U U.heap)
theorem pu_pre {s : State} {H : Heap} {As : List Value} : PreS s H (pu_Pc As H) As := ⟨fun _ _ _ _ q => ⟨q.1, q.2⟩, fun _ hU _ => ⟨rfl, hU⟩⟩
theorem pr_pre {s : State} {H : Heap} {As : List Value} {t0 t1 t2 : Nat} (h : RTH t0 t1 t2 s H) : PreS s H (pr_Pc As H t0 t1 t2) As :=
  ⟨fun a U g mk q => ⟨q.1, q.2.1, RTH.moved (u := U) (U := U.calling g mk a) (Vm.Alike.refl U.vm) q.2.2⟩, fun U hU hW => ⟨rfl, hU, by rw [hU]; exact RTH.moved hW.alike h⟩⟩
def j_shl (x : Int64) (y : Int32) : Int64 := x <<< (y.toInt64 &&& 63)
def j_shr (x : Int64) (y : Int32) : Int64 := x >>> (y.toInt64 &&& 63)
def j_ushr (x : Int64) (y : Int32) : Int64 := (x.toUInt64 >>> (y.toInt64.toUInt64 &&& Int64.toUInt64 63)).toInt64
def j_iushr (x y : Int32) : Int32 := (x.toUInt32 >>> (y.toUInt32 &&& Int32.toUInt32 31)).toInt32
theorem sw_out {x : Int32} {lo hi : Int} (h : ∀ j : Int, lo ≤ j → j ≤ hi → ¬ x.toInt = j) : x.toInt < lo ∨ hi < x.toInt := by
  rcases Int.lt_or_le x.toInt lo with h1 | h1
  · exact Or.inl h1
  · rcases Int.lt_or_le hi x.toInt with h2 | h2
    · exact Or.inr h2
    · exact absurd rfl (h _ h1 h2)
section PU
variable {p : Program} {l : Launch} {e : Env} {R : Room} {s : State} {m : MethodId} {args : Array Value} {below : List Frame} {meth : Method} {c : Code}
variable {cc : ByteArray} {pc : Nat} {ls : Array Slot}
theorem pu_lret (hx : p.tables.exec = Jvm.exec) (hb : c.code = cc) (hr : meth.sig.returnType = some .long) (hlocks : meth.locks = false) (hdg : decode cc pc = .ok (.lreturn, 1)) {v w : Int64} (hv : v = w) :
    W p l e R s m args below meth c s.heap [] 0 0 (pu_Ql w below args s) (F0 m pc ls [.long v]) := by
  subst hv
  exact W.lret hx hb hr (fun t ht _ => ⟨⟨v, (), rfl, rfl, ht⟩, ⟨by rw [ht]; exact Nat.le_refl _, fun q _ _ => by rw [ht]⟩⟩) (fun q h => by cases h) hdg hlocks
theorem pu_iret (hx : p.tables.exec = Jvm.exec) (hb : c.code = cc) (hr : meth.sig.returnType = some .int) (hlocks : meth.locks = false) (hdg : decode cc pc = .ok (.ireturn, 1)) {v w : Int32} (hv : v = w) :
    W p l e R s m args below meth c s.heap [] 0 0 (pu_Qi w below args s) (F0 m pc ls [.int v]) := by
  subst hv
  exact W.iret hx hb hr (fun t ht _ => ⟨⟨v, (), rfl, rfl, ht⟩, ⟨by rw [ht]; exact Nat.le_refl _, fun q _ _ => by rw [ht]⟩⟩) (fun q h => by cases h) hdg hlocks
theorem pu_zret (hx : p.tables.exec = Jvm.exec) (hb : c.code = cc) (hr : meth.sig.returnType = some .boolean) {v w : Int32} (hn : narrow .boolean (.int v) = .int v) (hlocks : meth.locks = false) (hdg : decode cc pc = .ok (.ireturn, 1)) (hv : v = w) :
    W p l e R s m args below meth c s.heap [] 0 0 (pu_Qi w below args s) (F0 m pc ls [.int v]) := by
  subst hv
  exact W.zret hx hb hr hn (fun t ht _ => ⟨⟨v, (), rfl, rfl, ht⟩, ⟨by rw [ht]; exact Nat.le_refl _, fun q _ _ => by rw [ht]⟩⟩) (fun q h => by cases h) hdg hlocks
variable {H : Heap} {locs : List Loc} {cells slots : Nat} {Q : State → Prop} {Ts ws : List Cond} {own : String} {y : MethodName} {bytes : ByteArray} {maxL nL n index : Nat} {ret : Option FieldType} {rm : Room} {Pc : Array Value → State → Prop} {As rest st0 : List Value}
/-- a pure method is called: nothing but the stack changes -/
theorem pu_l {v : Int64} (S0 : CallFix p m c cc nL s args Ts own) (hM : Met l y ws rm Pc (pu_Ml v H) 0 0 (fun _ => False)) (hp : PreS s H Pc As) (cw : CallB R s args own index y bytes maxL ret ws rm 0 0 n ∧ (Cond.static y).before args s = true)
    (hn : As.length = n) (hsize : ls.size = nL) (hstack : st0 = As.reverse ++ rest) (hW : (rest.map fun v => v.category).sum ≤ 8) (hf : cells ≤ R.cells ∧ slots ≤ R.slots) (hdg : decode cc pc = .ok (.invokestatic index, 3))
    (k : W p l e R s m args below meth c H locs cells slots Q (F0 m (pc + 3) ls (.long v :: rest))) : W p l e R s m args below meth c H locs cells slots Q (F0 m pc ls st0) := by
  intro T hT X
  obtain ⟨w, st₀, t, T', L, h0, X', hL, e1, e2, ⟨⟨r, u, hv, hp1, hb1⟩, hz, hk⟩, st⟩ := va_runS (g := F0 m pc ls st0) S0 hM cw hp rfl hn hsize hstack (lv_room hW) hdg hf T hT X
  cases hv
  subst hp1
  have hLn : L = [] := by
    cases L with
    | nil => rfl
    | cons q L => exact (hL q List.mem_cons_self).elim
  subst hLn
  rw [List.append_nil] at X'
  obtain ⟨t2, a1, b1⟩ := k T' (by rw [e1]; exact hb1) X'
  exact ⟨t2, st t2 a1, b1⟩
theorem pu_i {v : Int32} (S0 : CallFix p m c cc nL s args Ts own) (hM : Met l y ws rm Pc (pu_Mi v H) 0 0 (fun _ => False)) (hp : PreS s H Pc As) (cw : CallB R s args own index y bytes maxL ret ws rm 0 0 n ∧ (Cond.static y).before args s = true)
    (hn : As.length = n) (hsize : ls.size = nL) (hstack : st0 = As.reverse ++ rest) (hW : (rest.map fun v => v.category).sum ≤ 8) (hf : cells ≤ R.cells ∧ slots ≤ R.slots) (hdg : decode cc pc = .ok (.invokestatic index, 3))
    (k : W p l e R s m args below meth c H locs cells slots Q (F0 m (pc + 3) ls (.int v :: rest))) : W p l e R s m args below meth c H locs cells slots Q (F0 m pc ls st0) := by
  intro T hT X
  obtain ⟨w, st₀, t, T', L, h0, X', hL, e1, e2, ⟨⟨r, u, hv, hp1, hb1⟩, hz, hk⟩, st⟩ := va_runS (g := F0 m pc ls st0) S0 hM cw hp rfl hn hsize hstack (lv_room hW) hdg hf T hT X
  cases hv
  subst hp1
  have hLn : L = [] := by
    cases L with
    | nil => rfl
    | cons q L => exact (hL q List.mem_cons_self).elim
  subst hLn
  rw [List.append_nil] at X'
  obtain ⟨t2, a1, b1⟩ := k T' (by rw [e1]; exact hb1) X'
  exact ⟨t2, st t2 a1, b1⟩
end PU
end
section
theorem tw_1 : (Jvm.Cond.initialized "MotionLab") ∈ lw_g := List.mem_filter.mpr ⟨List.mem_append_right _ (List.mem_of_getElem? (i := 1) (by decide +kernel)), by decide +kernel⟩
theorem tw_4 : (Jvm.Cond.initialized "MotionLabModel") ∈ lw_g := List.mem_filter.mpr ⟨List.mem_append_right _ (List.mem_of_getElem? (i := 4) (by decide +kernel)), by decide +kernel⟩
theorem tw_5 : (Jvm.Cond.initialized "MotionLab$Ieee") ∈ lw_g := List.mem_filter.mpr ⟨List.mem_append_right _ (List.mem_of_getElem? (i := 5) (by decide +kernel)), by decide +kernel⟩
theorem tw_6 : (Jvm.Cond.initialized "java/lang/Math") ∈ lw_g := List.mem_filter.mpr ⟨List.mem_append_right _ (List.mem_of_getElem? (i := 6) (by decide +kernel)), by decide +kernel⟩
theorem tw_7 : (Jvm.Cond.initialized "java/lang/Long") ∈ lw_g := List.mem_filter.mpr ⟨List.mem_append_right _ (List.mem_of_getElem? (i := 7) (by decide +kernel)), by decide +kernel⟩
theorem tw_8 : (Jvm.Cond.initialized "java/lang/Integer") ∈ lw_g := List.mem_filter.mpr ⟨List.mem_append_right _ (List.mem_of_getElem? (i := 8) (by decide +kernel)), by decide +kernel⟩
theorem tw_79 : (Jvm.Cond.static ({ cls := "MotionLab$Ieee", name := "toFloat", desc := "(J)J" } : Jvm.MethodName)) ∈ lw_g := List.mem_filter.mpr ⟨List.mem_append_right _ (List.mem_of_getElem? (i := 79) (by decide +kernel)), by decide +kernel⟩
theorem tw_80 : (Jvm.Cond.code ({ cls := "MotionLab$Ieee", name := "toFloat", desc := "(J)J" } : Jvm.MethodName) prog_2_method_23_code (2 : Nat) (Option.some Jvm.ClassFile.FieldType.long)) ∈ lw_g := List.mem_filter.mpr ⟨List.mem_append_right _ (List.mem_of_getElem? (i := 80) (by decide +kernel)), by decide +kernel⟩
theorem tw_81 : (Jvm.Cond.methodLink "MotionLab$Ieee" (35 : Nat) ({ cls := "MotionLab$Ieee", name := "isFinite", desc := "(J)Z" } : Jvm.MethodName)) ∈ lw_g := List.mem_filter.mpr ⟨List.mem_append_right _ (List.mem_of_getElem? (i := 81) (by decide +kernel)), by decide +kernel⟩
theorem tw_82 : (Jvm.Cond.static ({ cls := "MotionLab$Ieee", name := "isFinite", desc := "(J)Z" } : Jvm.MethodName)) ∈ lw_g := List.mem_filter.mpr ⟨List.mem_append_right _ (List.mem_of_getElem? (i := 82) (by decide +kernel)), by decide +kernel⟩
theorem tw_83 : (Jvm.Cond.code ({ cls := "MotionLab$Ieee", name := "isFinite", desc := "(J)Z" } : Jvm.MethodName) prog_2_method_5_code (2 : Nat) (Option.some Jvm.ClassFile.FieldType.boolean)) ∈ lw_g := List.mem_filter.mpr ⟨List.mem_append_right _ (List.mem_of_getElem? (i := 83) (by decide +kernel)), by decide +kernel⟩
theorem tw_84 : (Jvm.Cond.constantLong "MotionLab$Ieee" (9 : Nat) (9223372036854775807 : Int64)) ∈ lw_g := List.mem_filter.mpr ⟨List.mem_append_right _ (List.mem_of_getElem? (i := 84) (by decide +kernel)), by decide +kernel⟩
theorem tw_85 : (Jvm.Cond.constantLong "MotionLab$Ieee" (11 : Nat) (9218868437227405312 : Int64)) ∈ lw_g := List.mem_filter.mpr ⟨List.mem_append_right _ (List.mem_of_getElem? (i := 85) (by decide +kernel)), by decide +kernel⟩
theorem tw_86 : (Jvm.Cond.methodLink "MotionLab$Ieee" (21 : Nat) ({ cls := "MotionLab$Ieee", name := "told", desc := "(J)J" } : Jvm.MethodName)) ∈ lw_g := List.mem_filter.mpr ⟨List.mem_append_right _ (List.mem_of_getElem? (i := 86) (by decide +kernel)), by decide +kernel⟩
theorem tw_87 : (Jvm.Cond.static ({ cls := "MotionLab$Ieee", name := "told", desc := "(J)J" } : Jvm.MethodName)) ∈ lw_g := List.mem_filter.mpr ⟨List.mem_append_right _ (List.mem_of_getElem? (i := 87) (by decide +kernel)), by decide +kernel⟩
theorem tw_88 : (Jvm.Cond.code ({ cls := "MotionLab$Ieee", name := "told", desc := "(J)J" } : Jvm.MethodName) prog_2_method_6_code (2 : Nat) (Option.some Jvm.ClassFile.FieldType.long)) ∈ lw_g := List.mem_filter.mpr ⟨List.mem_append_right _ (List.mem_of_getElem? (i := 88) (by decide +kernel)), by decide +kernel⟩
theorem tw_89 : (Jvm.Cond.methodLink "MotionLab$Ieee" (13 : Nat) ({ cls := "MotionLab$Ieee", name := "isNoNumber", desc := "(J)Z" } : Jvm.MethodName)) ∈ lw_g := List.mem_filter.mpr ⟨List.mem_append_right _ (List.mem_of_getElem? (i := 89) (by decide +kernel)), by decide +kernel⟩
theorem tw_90 : (Jvm.Cond.static ({ cls := "MotionLab$Ieee", name := "isNoNumber", desc := "(J)Z" } : Jvm.MethodName)) ∈ lw_g := List.mem_filter.mpr ⟨List.mem_append_right _ (List.mem_of_getElem? (i := 90) (by decide +kernel)), by decide +kernel⟩
theorem tw_91 : (Jvm.Cond.code ({ cls := "MotionLab$Ieee", name := "isNoNumber", desc := "(J)Z" } : Jvm.MethodName) prog_2_method_2_code (2 : Nat) (Option.some Jvm.ClassFile.FieldType.boolean)) ∈ lw_g := List.mem_filter.mpr ⟨List.mem_append_right _ (List.mem_of_getElem? (i := 91) (by decide +kernel)), by decide +kernel⟩
theorem tw_92 : (Jvm.Cond.constantLong "MotionLab$Ieee" (17 : Nat) (9221120237041090560 : Int64)) ∈ lw_g := List.mem_filter.mpr ⟨List.mem_append_right _ (List.mem_of_getElem? (i := 92) (by decide +kernel)), by decide +kernel⟩
theorem tw_93 : (Jvm.Cond.constantLong "MotionLab$Ieee" (19 : Nat) (-9223372036854775808 : Int64)) ∈ lw_g := List.mem_filter.mpr ⟨List.mem_append_right _ (List.mem_of_getElem? (i := 93) (by decide +kernel)), by decide +kernel⟩
theorem tw_94 : (Jvm.Cond.methodLink "MotionLab$Ieee" (41 : Nat) ({ cls := "MotionLab$Ieee", name := "power", desc := "(J)I" } : Jvm.MethodName)) ∈ lw_g := List.mem_filter.mpr ⟨List.mem_append_right _ (List.mem_of_getElem? (i := 94) (by decide +kernel)), by decide +kernel⟩
theorem tw_95 : (Jvm.Cond.static ({ cls := "MotionLab$Ieee", name := "power", desc := "(J)I" } : Jvm.MethodName)) ∈ lw_g := List.mem_filter.mpr ⟨List.mem_append_right _ (List.mem_of_getElem? (i := 95) (by decide +kernel)), by decide +kernel⟩
theorem tw_96 : (Jvm.Cond.code ({ cls := "MotionLab$Ieee", name := "power", desc := "(J)I" } : Jvm.MethodName) prog_2_method_31_code (3 : Nat) (Option.some Jvm.ClassFile.FieldType.int)) ∈ lw_g := List.mem_filter.mpr ⟨List.mem_append_right _ (List.mem_of_getElem? (i := 96) (by decide +kernel)), by decide +kernel⟩
theorem tw_97 : (Jvm.Cond.methodLink "MotionLab$Ieee" (124 : Nat) ({ cls := "java/lang/Math", name := "max", desc := "(II)I" } : Jvm.MethodName)) ∈ lw_g := List.mem_filter.mpr ⟨List.mem_append_right _ (List.mem_of_getElem? (i := 97) (by decide +kernel)), by decide +kernel⟩
theorem tw_98 : (Jvm.Cond.static ({ cls := "java/lang/Math", name := "max", desc := "(II)I" } : Jvm.MethodName)) ∈ lw_g := List.mem_filter.mpr ⟨List.mem_append_right _ (List.mem_of_getElem? (i := 98) (by decide +kernel)), by decide +kernel⟩
theorem tw_99 : (Jvm.Cond.code ({ cls := "java/lang/Math", name := "max", desc := "(II)I" } : Jvm.MethodName) prog_9_method_65_code (2 : Nat) (Option.some Jvm.ClassFile.FieldType.int)) ∈ lw_g := List.mem_filter.mpr ⟨List.mem_append_right _ (List.mem_of_getElem? (i := 99) (by decide +kernel)), by decide +kernel⟩
theorem tw_100 : (Jvm.Cond.methodLink "MotionLab$Ieee" (45 : Nat) ({ cls := "MotionLab$Ieee", name := "significand", desc := "(J)J" } : Jvm.MethodName)) ∈ lw_g := List.mem_filter.mpr ⟨List.mem_append_right _ (List.mem_of_getElem? (i := 100) (by decide +kernel)), by decide +kernel⟩
theorem tw_101 : (Jvm.Cond.static ({ cls := "MotionLab$Ieee", name := "significand", desc := "(J)J" } : Jvm.MethodName)) ∈ lw_g := List.mem_filter.mpr ⟨List.mem_append_right _ (List.mem_of_getElem? (i := 101) (by decide +kernel)), by decide +kernel⟩
theorem tw_102 : (Jvm.Cond.code ({ cls := "MotionLab$Ieee", name := "significand", desc := "(J)J" } : Jvm.MethodName) prog_2_method_30_code (4 : Nat) (Option.some Jvm.ClassFile.FieldType.long)) ∈ lw_g := List.mem_filter.mpr ⟨List.mem_append_right _ (List.mem_of_getElem? (i := 102) (by decide +kernel)), by decide +kernel⟩
theorem tw_103 : (Jvm.Cond.constantLong "MotionLab$Ieee" (120 : Nat) (4503599627370495 : Int64)) ∈ lw_g := List.mem_filter.mpr ⟨List.mem_append_right _ (List.mem_of_getElem? (i := 103) (by decide +kernel)), by decide +kernel⟩
theorem tw_104 : (Jvm.Cond.constantLong "MotionLab$Ieee" (122 : Nat) (4503599627370496 : Int64)) ∈ lw_g := List.mem_filter.mpr ⟨List.mem_append_right _ (List.mem_of_getElem? (i := 104) (by decide +kernel)), by decide +kernel⟩
theorem tw_105 : (Jvm.Cond.methodLink "MotionLab$Ieee" (94 : Nat) ({ cls := "MotionLab$Ieee", name := "nearestFloat", desc := "(JIJ)J" } : Jvm.MethodName)) ∈ lw_g := List.mem_filter.mpr ⟨List.mem_append_right _ (List.mem_of_getElem? (i := 105) (by decide +kernel)), by decide +kernel⟩
theorem tw_106 : (Jvm.Cond.static ({ cls := "MotionLab$Ieee", name := "nearestFloat", desc := "(JIJ)J" } : Jvm.MethodName)) ∈ lw_g := List.mem_filter.mpr ⟨List.mem_append_right _ (List.mem_of_getElem? (i := 106) (by decide +kernel)), by decide +kernel⟩
theorem tw_107 : (Jvm.Cond.code ({ cls := "MotionLab$Ieee", name := "nearestFloat", desc := "(JIJ)J" } : Jvm.MethodName) prog_2_method_34_code (8 : Nat) (Option.some Jvm.ClassFile.FieldType.long)) ∈ lw_g := List.mem_filter.mpr ⟨List.mem_append_right _ (List.mem_of_getElem? (i := 107) (by decide +kernel)), by decide +kernel⟩
theorem tw_108 : (Jvm.Cond.methodLink "MotionLab$Ieee" (126 : Nat) ({ cls := "java/lang/Long", name := "numberOfLeadingZeros", desc := "(J)I" } : Jvm.MethodName)) ∈ lw_g := List.mem_filter.mpr ⟨List.mem_append_right _ (List.mem_of_getElem? (i := 108) (by decide +kernel)), by decide +kernel⟩
theorem tw_109 : (Jvm.Cond.static ({ cls := "java/lang/Long", name := "numberOfLeadingZeros", desc := "(J)I" } : Jvm.MethodName)) ∈ lw_g := List.mem_filter.mpr ⟨List.mem_append_right _ (List.mem_of_getElem? (i := 109) (by decide +kernel)), by decide +kernel⟩
theorem tw_110 : (Jvm.Cond.code ({ cls := "java/lang/Long", name := "numberOfLeadingZeros", desc := "(J)I" } : Jvm.MethodName) prog_8_method_48_code (3 : Nat) (Option.some Jvm.ClassFile.FieldType.int)) ∈ lw_g := List.mem_filter.mpr ⟨List.mem_append_right _ (List.mem_of_getElem? (i := 110) (by decide +kernel)), by decide +kernel⟩
theorem tw_111 : (Jvm.Cond.methodLink "java/lang/Long" (308 : Nat) ({ cls := "java/lang/Integer", name := "numberOfLeadingZeros", desc := "(I)I" } : Jvm.MethodName)) ∈ lw_g := List.mem_filter.mpr ⟨List.mem_append_right _ (List.mem_of_getElem? (i := 111) (by decide +kernel)), by decide +kernel⟩
theorem tw_112 : (Jvm.Cond.static ({ cls := "java/lang/Integer", name := "numberOfLeadingZeros", desc := "(I)I" } : Jvm.MethodName)) ∈ lw_g := List.mem_filter.mpr ⟨List.mem_append_right _ (List.mem_of_getElem? (i := 112) (by decide +kernel)), by decide +kernel⟩
theorem tw_113 : (Jvm.Cond.code ({ cls := "java/lang/Integer", name := "numberOfLeadingZeros", desc := "(I)I" } : Jvm.MethodName) prog_7_method_47_code (2 : Nat) (Option.some Jvm.ClassFile.FieldType.int)) ∈ lw_g := List.mem_filter.mpr ⟨List.mem_append_right _ (List.mem_of_getElem? (i := 113) (by decide +kernel)), by decide +kernel⟩
theorem tw_114 : (Jvm.Cond.constant "java/lang/Integer" (264 : Nat) (65536 : Int32)) ∈ lw_g := List.mem_filter.mpr ⟨List.mem_append_right _ (List.mem_of_getElem? (i := 114) (by decide +kernel)), by decide +kernel⟩
theorem tw_115 : (Jvm.Cond.methodLink "MotionLab$Ieee" (52 : Nat) ({ cls := "MotionLab$Ieee", name := "nearest", desc := "(JIJ)J" } : Jvm.MethodName)) ∈ lw_g := List.mem_filter.mpr ⟨List.mem_append_right _ (List.mem_of_getElem? (i := 115) (by decide +kernel)), by decide +kernel⟩
theorem tw_116 : (Jvm.Cond.static ({ cls := "MotionLab$Ieee", name := "nearest", desc := "(JIJ)J" } : Jvm.MethodName)) ∈ lw_g := List.mem_filter.mpr ⟨List.mem_append_right _ (List.mem_of_getElem? (i := 116) (by decide +kernel)), by decide +kernel⟩
theorem tw_117 : (Jvm.Cond.code ({ cls := "MotionLab$Ieee", name := "nearest", desc := "(JIJ)J" } : Jvm.MethodName) prog_2_method_33_code (7 : Nat) (Option.some Jvm.ClassFile.FieldType.long)) ∈ lw_g := List.mem_filter.mpr ⟨List.mem_append_right _ (List.mem_of_getElem? (i := 117) (by decide +kernel)), by decide +kernel⟩
theorem tw_118 : (Jvm.Cond.methodLink "MotionLab$Ieee" (131 : Nat) ({ cls := "MotionLab$Ieee", name := "rounded", desc := "(JI)J" } : Jvm.MethodName)) ∈ lw_g := List.mem_filter.mpr ⟨List.mem_append_right _ (List.mem_of_getElem? (i := 118) (by decide +kernel)), by decide +kernel⟩
theorem tw_119 : (Jvm.Cond.static ({ cls := "MotionLab$Ieee", name := "rounded", desc := "(JI)J" } : Jvm.MethodName)) ∈ lw_g := List.mem_filter.mpr ⟨List.mem_append_right _ (List.mem_of_getElem? (i := 119) (by decide +kernel)), by decide +kernel⟩
theorem tw_120 : (Jvm.Cond.code ({ cls := "MotionLab$Ieee", name := "rounded", desc := "(JI)J" } : Jvm.MethodName) prog_2_method_35_code (10 : Nat) (Option.some Jvm.ClassFile.FieldType.long)) ∈ lw_g := List.mem_filter.mpr ⟨List.mem_append_right _ (List.mem_of_getElem? (i := 120) (by decide +kernel)), by decide +kernel⟩
theorem tw_121 : (Jvm.Cond.constantLong "MotionLab$Ieee" (134 : Nat) (5183643171103440896 : Int64)) ∈ lw_g := List.mem_filter.mpr ⟨List.mem_append_right _ (List.mem_of_getElem? (i := 121) (by decide +kernel)), by decide +kernel⟩
theorem tw_145 : (Jvm.Cond.constant "MotionLab$Ieee" (97 : Nat) (-2147483648 : Int32)) ∈ lw_g := List.mem_filter.mpr ⟨List.mem_append_right _ (List.mem_of_getElem? (i := 145) (by decide +kernel)), by decide +kernel⟩
theorem tw_146 : (Jvm.Cond.constant "MotionLab$Ieee" (98 : Nat) (2147483647 : Int32)) ∈ lw_g := List.mem_filter.mpr ⟨List.mem_append_right _ (List.mem_of_getElem? (i := 146) (by decide +kernel)), by decide +kernel⟩
theorem tw_147 : (Jvm.Cond.constant "MotionLab$Ieee" (99 : Nat) (2139095040 : Int32)) ∈ lw_g := List.mem_filter.mpr ⟨List.mem_append_right _ (List.mem_of_getElem? (i := 147) (by decide +kernel)), by decide +kernel⟩
theorem tw_148 : (Jvm.Cond.constant "MotionLab$Ieee" (100 : Nat) (8388607 : Int32)) ∈ lw_g := List.mem_filter.mpr ⟨List.mem_append_right _ (List.mem_of_getElem? (i := 148) (by decide +kernel)), by decide +kernel⟩
theorem tw_149 : (Jvm.Cond.constant "MotionLab$Ieee" (101 : Nat) (8388608 : Int32)) ∈ lw_g := List.mem_filter.mpr ⟨List.mem_append_right _ (List.mem_of_getElem? (i := 149) (by decide +kernel)), by decide +kernel⟩
theorem tw_175 : (Jvm.Cond.static ({ cls := "MotionLab$Ieee", name := "product", desc := "(JJ)J" } : Jvm.MethodName)) ∈ lw_g := List.mem_filter.mpr ⟨List.mem_append_right _ (List.mem_of_getElem? (i := 175) (by decide +kernel)), by decide +kernel⟩
theorem tw_176 : (Jvm.Cond.code ({ cls := "MotionLab$Ieee", name := "product", desc := "(JJ)J" } : Jvm.MethodName) prog_2_method_16_code (9 : Nat) (Option.some Jvm.ClassFile.FieldType.long)) ∈ lw_g := List.mem_filter.mpr ⟨List.mem_append_right _ (List.mem_of_getElem? (i := 176) (by decide +kernel)), by decide +kernel⟩
theorem tw_177 : (Jvm.Cond.methodLink "MotionLab$Ieee" (62 : Nat) ({ cls := "MotionLab$Ieee", name := "isZero", desc := "(J)Z" } : Jvm.MethodName)) ∈ lw_g := List.mem_filter.mpr ⟨List.mem_append_right _ (List.mem_of_getElem? (i := 177) (by decide +kernel)), by decide +kernel⟩
theorem tw_178 : (Jvm.Cond.static ({ cls := "MotionLab$Ieee", name := "isZero", desc := "(J)Z" } : Jvm.MethodName)) ∈ lw_g := List.mem_filter.mpr ⟨List.mem_append_right _ (List.mem_of_getElem? (i := 178) (by decide +kernel)), by decide +kernel⟩
theorem tw_179 : (Jvm.Cond.code ({ cls := "MotionLab$Ieee", name := "isZero", desc := "(J)Z" } : Jvm.MethodName) prog_2_method_4_code (2 : Nat) (Option.some Jvm.ClassFile.FieldType.boolean)) ∈ lw_g := List.mem_filter.mpr ⟨List.mem_append_right _ (List.mem_of_getElem? (i := 179) (by decide +kernel)), by decide +kernel⟩
theorem tw_180 : (Jvm.Cond.methodLink "MotionLab$Ieee" (65 : Nat) ({ cls := "MotionLab$Ieee", name := "rise", desc := "(J)I" } : Jvm.MethodName)) ∈ lw_g := List.mem_filter.mpr ⟨List.mem_append_right _ (List.mem_of_getElem? (i := 180) (by decide +kernel)), by decide +kernel⟩
theorem tw_181 : (Jvm.Cond.static ({ cls := "MotionLab$Ieee", name := "rise", desc := "(J)I" } : Jvm.MethodName)) ∈ lw_g := List.mem_filter.mpr ⟨List.mem_append_right _ (List.mem_of_getElem? (i := 181) (by decide +kernel)), by decide +kernel⟩
theorem tw_182 : (Jvm.Cond.code ({ cls := "MotionLab$Ieee", name := "rise", desc := "(J)I" } : Jvm.MethodName) prog_2_method_32_code (2 : Nat) (Option.some Jvm.ClassFile.FieldType.int)) ∈ lw_g := List.mem_filter.mpr ⟨List.mem_append_right _ (List.mem_of_getElem? (i := 182) (by decide +kernel)), by decide +kernel⟩
theorem tw_183 : (Jvm.Cond.methodLink "MotionLab$Ieee" (68 : Nat) ({ cls := "MotionLab$Ieee", name := "highProduct", desc := "(JJ)J" } : Jvm.MethodName)) ∈ lw_g := List.mem_filter.mpr ⟨List.mem_append_right _ (List.mem_of_getElem? (i := 183) (by decide +kernel)), by decide +kernel⟩
theorem tw_184 : (Jvm.Cond.static ({ cls := "MotionLab$Ieee", name := "highProduct", desc := "(JJ)J" } : Jvm.MethodName)) ∈ lw_g := List.mem_filter.mpr ⟨List.mem_append_right _ (List.mem_of_getElem? (i := 184) (by decide +kernel)), by decide +kernel⟩
theorem tw_185 : (Jvm.Cond.code ({ cls := "MotionLab$Ieee", name := "highProduct", desc := "(JJ)J" } : Jvm.MethodName) prog_2_method_17_code (22 : Nat) (Option.some Jvm.ClassFile.FieldType.long)) ∈ lw_g := List.mem_filter.mpr ⟨List.mem_append_right _ (List.mem_of_getElem? (i := 185) (by decide +kernel)), by decide +kernel⟩
theorem tw_186 : (Jvm.Cond.constantLong "MotionLab$Ieee" (71 : Nat) (134217727 : Int64)) ∈ lw_g := List.mem_filter.mpr ⟨List.mem_append_right _ (List.mem_of_getElem? (i := 186) (by decide +kernel)), by decide +kernel⟩
theorem tw_187 : (Jvm.Cond.constantLong "MotionLab$Ieee" (73 : Nat) (131071 : Int64)) ∈ lw_g := List.mem_filter.mpr ⟨List.mem_append_right _ (List.mem_of_getElem? (i := 187) (by decide +kernel)), by decide +kernel⟩
theorem tw_189 : (Jvm.Cond.static ({ cls := "MotionLab$Ieee", name := "difference", desc := "(JJ)J" } : Jvm.MethodName)) ∈ lw_g := List.mem_filter.mpr ⟨List.mem_append_right _ (List.mem_of_getElem? (i := 189) (by decide +kernel)), by decide +kernel⟩
theorem tw_190 : (Jvm.Cond.code ({ cls := "MotionLab$Ieee", name := "difference", desc := "(JJ)J" } : Jvm.MethodName) prog_2_method_15_code (4 : Nat) (Option.some Jvm.ClassFile.FieldType.long)) ∈ lw_g := List.mem_filter.mpr ⟨List.mem_append_right _ (List.mem_of_getElem? (i := 190) (by decide +kernel)), by decide +kernel⟩
theorem tw_191 : (Jvm.Cond.methodLink "MotionLab$Ieee" (59 : Nat) ({ cls := "MotionLab$Ieee", name := "sum", desc := "(JJ)J" } : Jvm.MethodName)) ∈ lw_g := List.mem_filter.mpr ⟨List.mem_append_right _ (List.mem_of_getElem? (i := 191) (by decide +kernel)), by decide +kernel⟩
theorem tw_192 : (Jvm.Cond.static ({ cls := "MotionLab$Ieee", name := "sum", desc := "(JJ)J" } : Jvm.MethodName)) ∈ lw_g := List.mem_filter.mpr ⟨List.mem_append_right _ (List.mem_of_getElem? (i := 192) (by decide +kernel)), by decide +kernel⟩
theorem tw_193 : (Jvm.Cond.code ({ cls := "MotionLab$Ieee", name := "sum", desc := "(JJ)J" } : Jvm.MethodName) prog_2_method_12_code (16 : Nat) (Option.some Jvm.ClassFile.FieldType.long)) ∈ lw_g := List.mem_filter.mpr ⟨List.mem_append_right _ (List.mem_of_getElem? (i := 193) (by decide +kernel)), by decide +kernel⟩
theorem tw_194 : (Jvm.Cond.methodLink "MotionLab$Ieee" (38 : Nat) ({ cls := "MotionLab$Ieee", name := "unendingSum", desc := "(JJ)J" } : Jvm.MethodName)) ∈ lw_g := List.mem_filter.mpr ⟨List.mem_append_right _ (List.mem_of_getElem? (i := 194) (by decide +kernel)), by decide +kernel⟩
theorem tw_195 : (Jvm.Cond.static ({ cls := "MotionLab$Ieee", name := "unendingSum", desc := "(JJ)J" } : Jvm.MethodName)) ∈ lw_g := List.mem_filter.mpr ⟨List.mem_append_right _ (List.mem_of_getElem? (i := 195) (by decide +kernel)), by decide +kernel⟩
theorem tw_196 : (Jvm.Cond.code ({ cls := "MotionLab$Ieee", name := "unendingSum", desc := "(JJ)J" } : Jvm.MethodName) prog_2_method_13_code (4 : Nat) (Option.some Jvm.ClassFile.FieldType.long)) ∈ lw_g := List.mem_filter.mpr ⟨List.mem_append_right _ (List.mem_of_getElem? (i := 196) (by decide +kernel)), by decide +kernel⟩
theorem tw_197 : (Jvm.Cond.methodLink "MotionLab$Ieee" (56 : Nat) ({ cls := "MotionLab$Ieee", name := "isInfinite", desc := "(J)Z" } : Jvm.MethodName)) ∈ lw_g := List.mem_filter.mpr ⟨List.mem_append_right _ (List.mem_of_getElem? (i := 197) (by decide +kernel)), by decide +kernel⟩
theorem tw_198 : (Jvm.Cond.static ({ cls := "MotionLab$Ieee", name := "isInfinite", desc := "(J)Z" } : Jvm.MethodName)) ∈ lw_g := List.mem_filter.mpr ⟨List.mem_append_right _ (List.mem_of_getElem? (i := 198) (by decide +kernel)), by decide +kernel⟩
theorem tw_199 : (Jvm.Cond.code ({ cls := "MotionLab$Ieee", name := "isInfinite", desc := "(J)Z" } : Jvm.MethodName) prog_2_method_3_code (2 : Nat) (Option.some Jvm.ClassFile.FieldType.boolean)) ∈ lw_g := List.mem_filter.mpr ⟨List.mem_append_right _ (List.mem_of_getElem? (i := 199) (by decide +kernel)), by decide +kernel⟩
theorem tw_200 : (Jvm.Cond.methodLink "MotionLab$Ieee" (48 : Nat) ({ cls := "MotionLab$Ieee", name := "lowered", desc := "(JI)J" } : Jvm.MethodName)) ∈ lw_g := List.mem_filter.mpr ⟨List.mem_append_right _ (List.mem_of_getElem? (i := 200) (by decide +kernel)), by decide +kernel⟩
theorem tw_201 : (Jvm.Cond.static ({ cls := "MotionLab$Ieee", name := "lowered", desc := "(JI)J" } : Jvm.MethodName)) ∈ lw_g := List.mem_filter.mpr ⟨List.mem_append_right _ (List.mem_of_getElem? (i := 201) (by decide +kernel)), by decide +kernel⟩
theorem tw_202 : (Jvm.Cond.code ({ cls := "MotionLab$Ieee", name := "lowered", desc := "(JI)J" } : Jvm.MethodName) prog_2_method_14_code (5 : Nat) (Option.some Jvm.ClassFile.FieldType.long)) ∈ lw_g := List.mem_filter.mpr ⟨List.mem_append_right _ (List.mem_of_getElem? (i := 202) (by decide +kernel)), by decide +kernel⟩
theorem tw_218 : (Jvm.Cond.methodLink "MotionLab$Ieee" (75 : Nat) ({ cls := "MotionLab$Ieee", name := "product", desc := "(JJ)J" } : Jvm.MethodName)) ∈ lw_g := List.mem_filter.mpr ⟨List.mem_append_right _ (List.mem_of_getElem? (i := 218) (by decide +kernel)), by decide +kernel⟩
theorem tw_220 : (Jvm.Cond.static ({ cls := "MotionLab$Ieee", name := "root", desc := "(J)J" } : Jvm.MethodName)) ∈ lw_g := List.mem_filter.mpr ⟨List.mem_append_right _ (List.mem_of_getElem? (i := 220) (by decide +kernel)), by decide +kernel⟩
theorem tw_221 : (Jvm.Cond.code ({ cls := "MotionLab$Ieee", name := "root", desc := "(J)J" } : Jvm.MethodName) prog_2_method_22_code (5 : Nat) (Option.some Jvm.ClassFile.FieldType.long)) ∈ lw_g := List.mem_filter.mpr ⟨List.mem_append_right _ (List.mem_of_getElem? (i := 221) (by decide +kernel)), by decide +kernel⟩
theorem tw_222 : (Jvm.Cond.constantLong "MotionLab$Ieee" (87 : Nat) (2303591209400008704 : Int64)) ∈ lw_g := List.mem_filter.mpr ⟨List.mem_append_right _ (List.mem_of_getElem? (i := 222) (by decide +kernel)), by decide +kernel⟩
theorem tw_223 : (Jvm.Cond.methodLink "MotionLab$Ieee" (89 : Nat) ({ cls := "MotionLab$Ieee", name := "quotient", desc := "(JJ)J" } : Jvm.MethodName)) ∈ lw_g := List.mem_filter.mpr ⟨List.mem_append_right _ (List.mem_of_getElem? (i := 223) (by decide +kernel)), by decide +kernel⟩
theorem tw_224 : (Jvm.Cond.static ({ cls := "MotionLab$Ieee", name := "quotient", desc := "(JJ)J" } : Jvm.MethodName)) ∈ lw_g := List.mem_filter.mpr ⟨List.mem_append_right _ (List.mem_of_getElem? (i := 224) (by decide +kernel)), by decide +kernel⟩
theorem tw_225 : (Jvm.Cond.code ({ cls := "MotionLab$Ieee", name := "quotient", desc := "(JJ)J" } : Jvm.MethodName) prog_2_method_19_code (21 : Nat) (Option.some Jvm.ClassFile.FieldType.long)) ∈ lw_g := List.mem_filter.mpr ⟨List.mem_append_right _ (List.mem_of_getElem? (i := 225) (by decide +kernel)), by decide +kernel⟩
theorem tw_226 : (Jvm.Cond.methodLink "MotionLab$Ieee" (78 : Nat) ({ cls := "MotionLab$Ieee", name := "unendingQuotient", desc := "(JJ)J" } : Jvm.MethodName)) ∈ lw_g := List.mem_filter.mpr ⟨List.mem_append_right _ (List.mem_of_getElem? (i := 226) (by decide +kernel)), by decide +kernel⟩
theorem tw_227 : (Jvm.Cond.static ({ cls := "MotionLab$Ieee", name := "unendingQuotient", desc := "(JJ)J" } : Jvm.MethodName)) ∈ lw_g := List.mem_filter.mpr ⟨List.mem_append_right _ (List.mem_of_getElem? (i := 227) (by decide +kernel)), by decide +kernel⟩
theorem tw_228 : (Jvm.Cond.code ({ cls := "MotionLab$Ieee", name := "unendingQuotient", desc := "(JJ)J" } : Jvm.MethodName) prog_2_method_20_code (6 : Nat) (Option.some Jvm.ClassFile.FieldType.long)) ∈ lw_g := List.mem_filter.mpr ⟨List.mem_append_right _ (List.mem_of_getElem? (i := 228) (by decide +kernel)), by decide +kernel⟩
theorem tw_229 : (Jvm.Cond.constantLong "MotionLab$Ieee" (92 : Nat) (4602678819172646912 : Int64)) ∈ lw_g := List.mem_filter.mpr ⟨List.mem_append_right _ (List.mem_of_getElem? (i := 229) (by decide +kernel)), by decide +kernel⟩
theorem tw_233 : (Jvm.Cond.methodLink "MotionLab$Ieee" (25 : Nat) ({ cls := "MotionLab$Ieee", name := "order", desc := "(J)J" } : Jvm.MethodName)) ∈ lw_g := List.mem_filter.mpr ⟨List.mem_append_right _ (List.mem_of_getElem? (i := 233) (by decide +kernel)), by decide +kernel⟩
theorem tw_234 : (Jvm.Cond.static ({ cls := "MotionLab$Ieee", name := "order", desc := "(J)J" } : Jvm.MethodName)) ∈ lw_g := List.mem_filter.mpr ⟨List.mem_append_right _ (List.mem_of_getElem? (i := 234) (by decide +kernel)), by decide +kernel⟩
theorem tw_235 : (Jvm.Cond.code ({ cls := "MotionLab$Ieee", name := "order", desc := "(J)J" } : Jvm.MethodName) prog_2_method_11_code (2 : Nat) (Option.some Jvm.ClassFile.FieldType.long)) ∈ lw_g := List.mem_filter.mpr ⟨List.mem_append_right _ (List.mem_of_getElem? (i := 235) (by decide +kernel)), by decide +kernel⟩
theorem tw_263 : (Jvm.Cond.static ({ cls := "MotionLab$Ieee", name := "negated", desc := "(J)J" } : Jvm.MethodName)) ∈ lw_g := List.mem_filter.mpr ⟨List.mem_append_right _ (List.mem_of_getElem? (i := 263) (by decide +kernel)), by decide +kernel⟩
theorem tw_264 : (Jvm.Cond.code ({ cls := "MotionLab$Ieee", name := "negated", desc := "(J)J" } : Jvm.MethodName) prog_2_method_7_code (2 : Nat) (Option.some Jvm.ClassFile.FieldType.long)) ∈ lw_g := List.mem_filter.mpr ⟨List.mem_append_right _ (List.mem_of_getElem? (i := 264) (by decide +kernel)), by decide +kernel⟩
theorem tw_301 : (Jvm.Cond.methodLink "MotionLab" (122 : Nat) ({ cls := "MotionLab$Ieee", name := "sum", desc := "(JJ)J" } : Jvm.MethodName)) ∈ lw_g := List.mem_filter.mpr ⟨List.mem_append_right _ (List.mem_of_getElem? (i := 301) (by decide +kernel)), by decide +kernel⟩
theorem tw_302 : (Jvm.Cond.methodLink "MotionLab" (131 : Nat) ({ cls := "MotionLab$Ieee", name := "difference", desc := "(JJ)J" } : Jvm.MethodName)) ∈ lw_g := List.mem_filter.mpr ⟨List.mem_append_right _ (List.mem_of_getElem? (i := 302) (by decide +kernel)), by decide +kernel⟩
theorem tw_303 : (Jvm.Cond.methodLink "MotionLab" (118 : Nat) ({ cls := "MotionLab$Ieee", name := "product", desc := "(JJ)J" } : Jvm.MethodName)) ∈ lw_g := List.mem_filter.mpr ⟨List.mem_append_right _ (List.mem_of_getElem? (i := 303) (by decide +kernel)), by decide +kernel⟩
theorem tw_304 : (Jvm.Cond.methodLink "MotionLab" (134 : Nat) ({ cls := "MotionLab$Ieee", name := "quotient", desc := "(JJ)J" } : Jvm.MethodName)) ∈ lw_g := List.mem_filter.mpr ⟨List.mem_append_right _ (List.mem_of_getElem? (i := 304) (by decide +kernel)), by decide +kernel⟩
theorem tw_305 : (Jvm.Cond.methodLink "MotionLab" (137 : Nat) ({ cls := "MotionLab$Ieee", name := "remainder", desc := "(JJ)J" } : Jvm.MethodName)) ∈ lw_g := List.mem_filter.mpr ⟨List.mem_append_right _ (List.mem_of_getElem? (i := 305) (by decide +kernel)), by decide +kernel⟩
theorem tw_306 : (Jvm.Cond.static ({ cls := "MotionLab$Ieee", name := "remainder", desc := "(JJ)J" } : Jvm.MethodName)) ∈ lw_g := List.mem_filter.mpr ⟨List.mem_append_right _ (List.mem_of_getElem? (i := 306) (by decide +kernel)), by decide +kernel⟩
theorem tw_307 : (Jvm.Cond.code ({ cls := "MotionLab$Ieee", name := "remainder", desc := "(JJ)J" } : Jvm.MethodName) prog_2_method_21_code (9 : Nat) (Option.some Jvm.ClassFile.FieldType.long)) ∈ lw_g := List.mem_filter.mpr ⟨List.mem_append_right _ (List.mem_of_getElem? (i := 307) (by decide +kernel)), by decide +kernel⟩
theorem tw_308 : (Jvm.Cond.methodLink "MotionLab$Ieee" (81 : Nat) ({ cls := "java/lang/Math", name := "min", desc := "(II)I" } : Jvm.MethodName)) ∈ lw_g := List.mem_filter.mpr ⟨List.mem_append_right _ (List.mem_of_getElem? (i := 308) (by decide +kernel)), by decide +kernel⟩
theorem tw_309 : (Jvm.Cond.static ({ cls := "java/lang/Math", name := "min", desc := "(II)I" } : Jvm.MethodName)) ∈ lw_g := List.mem_filter.mpr ⟨List.mem_append_right _ (List.mem_of_getElem? (i := 309) (by decide +kernel)), by decide +kernel⟩
theorem tw_310 : (Jvm.Cond.code ({ cls := "java/lang/Math", name := "min", desc := "(II)I" } : Jvm.MethodName) prog_9_method_69_code (2 : Nat) (Option.some Jvm.ClassFile.FieldType.int)) ∈ lw_g := List.mem_filter.mpr ⟨List.mem_append_right _ (List.mem_of_getElem? (i := 310) (by decide +kernel)), by decide +kernel⟩
theorem tw_311 : (Jvm.Cond.methodLink "MotionLab" (140 : Nat) ({ cls := "MotionLab$Ieee", name := "root", desc := "(J)J" } : Jvm.MethodName)) ∈ lw_g := List.mem_filter.mpr ⟨List.mem_append_right _ (List.mem_of_getElem? (i := 311) (by decide +kernel)), by decide +kernel⟩
theorem tw_312 : (Jvm.Cond.methodLink "MotionLab" (143 : Nat) ({ cls := "MotionLab$Ieee", name := "negated", desc := "(J)J" } : Jvm.MethodName)) ∈ lw_g := List.mem_filter.mpr ⟨List.mem_append_right _ (List.mem_of_getElem? (i := 312) (by decide +kernel)), by decide +kernel⟩
theorem tw_313 : (Jvm.Cond.methodLink "MotionLab" (125 : Nat) ({ cls := "MotionLab$Ieee", name := "toFloat", desc := "(J)J" } : Jvm.MethodName)) ∈ lw_g := List.mem_filter.mpr ⟨List.mem_append_right _ (List.mem_of_getElem? (i := 313) (by decide +kernel)), by decide +kernel⟩
theorem tw_314 : (Jvm.Cond.methodLink "MotionLab" (146 : Nat) ({ cls := "MotionLab$Ieee", name := "lesser", desc := "(JJ)J" } : Jvm.MethodName)) ∈ lw_g := List.mem_filter.mpr ⟨List.mem_append_right _ (List.mem_of_getElem? (i := 314) (by decide +kernel)), by decide +kernel⟩
theorem tw_315 : (Jvm.Cond.static ({ cls := "MotionLab$Ieee", name := "lesser", desc := "(JJ)J" } : Jvm.MethodName)) ∈ lw_g := List.mem_filter.mpr ⟨List.mem_append_right _ (List.mem_of_getElem? (i := 315) (by decide +kernel)), by decide +kernel⟩
theorem tw_316 : (Jvm.Cond.code ({ cls := "MotionLab$Ieee", name := "lesser", desc := "(JJ)J" } : Jvm.MethodName) prog_2_method_9_code (4 : Nat) (Option.some Jvm.ClassFile.FieldType.long)) ∈ lw_g := List.mem_filter.mpr ⟨List.mem_append_right _ (List.mem_of_getElem? (i := 316) (by decide +kernel)), by decide +kernel⟩
theorem tw_317 : (Jvm.Cond.methodLink "MotionLab" (149 : Nat) ({ cls := "MotionLab$Ieee", name := "greater", desc := "(JJ)J" } : Jvm.MethodName)) ∈ lw_g := List.mem_filter.mpr ⟨List.mem_append_right _ (List.mem_of_getElem? (i := 317) (by decide +kernel)), by decide +kernel⟩
theorem tw_318 : (Jvm.Cond.static ({ cls := "MotionLab$Ieee", name := "greater", desc := "(JJ)J" } : Jvm.MethodName)) ∈ lw_g := List.mem_filter.mpr ⟨List.mem_append_right _ (List.mem_of_getElem? (i := 318) (by decide +kernel)), by decide +kernel⟩
theorem tw_319 : (Jvm.Cond.code ({ cls := "MotionLab$Ieee", name := "greater", desc := "(JJ)J" } : Jvm.MethodName) prog_2_method_10_code (4 : Nat) (Option.some Jvm.ClassFile.FieldType.long)) ∈ lw_g := List.mem_filter.mpr ⟨List.mem_append_right _ (List.mem_of_getElem? (i := 319) (by decide +kernel)), by decide +kernel⟩
theorem tw_320 : (Jvm.Cond.methodLink "MotionLab$Ieee" (28 : Nat) ({ cls := "MotionLab$Ieee", name := "negated", desc := "(J)J" } : Jvm.MethodName)) ∈ lw_g := List.mem_filter.mpr ⟨List.mem_append_right _ (List.mem_of_getElem? (i := 320) (by decide +kernel)), by decide +kernel⟩
theorem tw_321 : (Jvm.Cond.methodLink "MotionLab$Ieee" (31 : Nat) ({ cls := "MotionLab$Ieee", name := "lesser", desc := "(JJ)J" } : Jvm.MethodName)) ∈ lw_g := List.mem_filter.mpr ⟨List.mem_append_right _ (List.mem_of_getElem? (i := 321) (by decide +kernel)), by decide +kernel⟩
theorem tw_322 : (Jvm.Cond.methodLink "MotionLab" (152 : Nat) ({ cls := "MotionLab", name := "floatResult", desc := "(IJJ)J" } : Jvm.MethodName)) ∈ lw_g := List.mem_filter.mpr ⟨List.mem_append_right _ (List.mem_of_getElem? (i := 322) (by decide +kernel)), by decide +kernel⟩
theorem tw_323 : (Jvm.Cond.static ({ cls := "MotionLab", name := "floatResult", desc := "(IJJ)J" } : Jvm.MethodName)) ∈ lw_g := List.mem_filter.mpr ⟨List.mem_append_right _ (List.mem_of_getElem? (i := 323) (by decide +kernel)), by decide +kernel⟩
theorem tw_324 : (Jvm.Cond.code ({ cls := "MotionLab", name := "floatResult", desc := "(IJJ)J" } : Jvm.MethodName) prog_1_method_21_code (5 : Nat) (Option.some Jvm.ClassFile.FieldType.long)) ∈ lw_g := List.mem_filter.mpr ⟨List.mem_append_right _ (List.mem_of_getElem? (i := 324) (by decide +kernel)), by decide +kernel⟩
theorem tw_332 : (Jvm.Cond.methodLink "MotionLab$Ieee" (105 : Nat) ({ cls := "java/lang/Math", name := "abs", desc := "(J)J" } : Jvm.MethodName)) ∈ lw_g := List.mem_filter.mpr ⟨List.mem_append_right _ (List.mem_of_getElem? (i := 332) (by decide +kernel)), by decide +kernel⟩
theorem tw_333 : (Jvm.Cond.static ({ cls := "java/lang/Math", name := "abs", desc := "(J)J" } : Jvm.MethodName)) ∈ lw_g := List.mem_filter.mpr ⟨List.mem_append_right _ (List.mem_of_getElem? (i := 333) (by decide +kernel)), by decide +kernel⟩
theorem tw_334 : (Jvm.Cond.code ({ cls := "java/lang/Math", name := "abs", desc := "(J)J" } : Jvm.MethodName) prog_9_method_61_code (2 : Nat) (Option.some Jvm.ClassFile.FieldType.long)) ∈ lw_g := List.mem_filter.mpr ⟨List.mem_append_right _ (List.mem_of_getElem? (i := 334) (by decide +kernel)), by decide +kernel⟩
theorem tw_346 : (Jvm.Cond.constantLong "MotionLab$Ieee" (108 : Nat) (-2147483648 : Int64)) ∈ lw_g := List.mem_filter.mpr ⟨List.mem_append_right _ (List.mem_of_getElem? (i := 346) (by decide +kernel)), by decide +kernel⟩
theorem tw_347 : (Jvm.Cond.constantLong "MotionLab$Ieee" (110 : Nat) (2147483647 : Int64)) ∈ lw_g := List.mem_filter.mpr ⟨List.mem_append_right _ (List.mem_of_getElem? (i := 347) (by decide +kernel)), by decide +kernel⟩
theorem tw_348 : (Jvm.Cond.methodLink "MotionLab$Ieee" (112 : Nat) ({ cls := "MotionLab$Ieee", name := "toLong", desc := "(J)J" } : Jvm.MethodName)) ∈ lw_g := List.mem_filter.mpr ⟨List.mem_append_right _ (List.mem_of_getElem? (i := 348) (by decide +kernel)), by decide +kernel⟩
theorem tw_349 : (Jvm.Cond.static ({ cls := "MotionLab$Ieee", name := "toLong", desc := "(J)J" } : Jvm.MethodName)) ∈ lw_g := List.mem_filter.mpr ⟨List.mem_append_right _ (List.mem_of_getElem? (i := 349) (by decide +kernel)), by decide +kernel⟩
theorem tw_350 : (Jvm.Cond.code ({ cls := "MotionLab$Ieee", name := "toLong", desc := "(J)J" } : Jvm.MethodName) prog_2_method_29_code (5 : Nat) (Option.some Jvm.ClassFile.FieldType.long)) ∈ lw_g := List.mem_filter.mpr ⟨List.mem_append_right _ (List.mem_of_getElem? (i := 350) (by decide +kernel)), by decide +kernel⟩
theorem tw_351 : (Jvm.Cond.methodLink "MotionLab$Ieee" (115 : Nat) ({ cls := "java/lang/Math", name := "min", desc := "(JJ)J" } : Jvm.MethodName)) ∈ lw_g := List.mem_filter.mpr ⟨List.mem_append_right _ (List.mem_of_getElem? (i := 351) (by decide +kernel)), by decide +kernel⟩
theorem tw_352 : (Jvm.Cond.static ({ cls := "java/lang/Math", name := "min", desc := "(JJ)J" } : Jvm.MethodName)) ∈ lw_g := List.mem_filter.mpr ⟨List.mem_append_right _ (List.mem_of_getElem? (i := 352) (by decide +kernel)), by decide +kernel⟩
theorem tw_353 : (Jvm.Cond.code ({ cls := "java/lang/Math", name := "min", desc := "(JJ)J" } : Jvm.MethodName) prog_9_method_70_code (4 : Nat) (Option.some Jvm.ClassFile.FieldType.long)) ∈ lw_g := List.mem_filter.mpr ⟨List.mem_append_right _ (List.mem_of_getElem? (i := 353) (by decide +kernel)), by decide +kernel⟩
theorem tw_354 : (Jvm.Cond.methodLink "MotionLab$Ieee" (117 : Nat) ({ cls := "java/lang/Math", name := "max", desc := "(JJ)J" } : Jvm.MethodName)) ∈ lw_g := List.mem_filter.mpr ⟨List.mem_append_right _ (List.mem_of_getElem? (i := 354) (by decide +kernel)), by decide +kernel⟩
theorem tw_355 : (Jvm.Cond.static ({ cls := "java/lang/Math", name := "max", desc := "(JJ)J" } : Jvm.MethodName)) ∈ lw_g := List.mem_filter.mpr ⟨List.mem_append_right _ (List.mem_of_getElem? (i := 355) (by decide +kernel)), by decide +kernel⟩
theorem tw_356 : (Jvm.Cond.code ({ cls := "java/lang/Math", name := "max", desc := "(JJ)J" } : Jvm.MethodName) prog_9_method_66_code (4 : Nat) (Option.some Jvm.ClassFile.FieldType.long)) ∈ lw_g := List.mem_filter.mpr ⟨List.mem_append_right _ (List.mem_of_getElem? (i := 356) (by decide +kernel)), by decide +kernel⟩
theorem tw_406 : (Jvm.Cond.constant "MotionLab$Ieee" (102 : Nat) (2143289344 : Int32)) ∈ lw_g := List.mem_filter.mpr ⟨List.mem_append_right _ (List.mem_of_getElem? (i := 406) (by decide +kernel)), by decide +kernel⟩
theorem tw_407 : (Jvm.Cond.constantLong "MotionLab$Ieee" (103 : Nat) (4039728865751334912 : Int64)) ∈ lw_g := List.mem_filter.mpr ⟨List.mem_append_right _ (List.mem_of_getElem? (i := 407) (by decide +kernel)), by decide +kernel⟩
theorem tw_419 : (Jvm.Cond.constantLong "MotionLabModel" (7 : Nat) (9218868437227405312 : Int64)) ∈ lw_g := List.mem_filter.mpr ⟨List.mem_append_right _ (List.mem_of_getElem? (i := 419) (by decide +kernel)), by decide +kernel⟩
theorem tw_492 : (Jvm.Cond.methodLink "MotionLabModel" (194 : Nat) ({ cls := "MotionLabModel", name := "toFloat", desc := "(J)J" } : Jvm.MethodName)) ∈ lw_g := List.mem_filter.mpr ⟨List.mem_append_right _ (List.mem_of_getElem? (i := 492) (by decide +kernel)), by decide +kernel⟩
theorem tw_493 : (Jvm.Cond.static ({ cls := "MotionLabModel", name := "toFloat", desc := "(J)J" } : Jvm.MethodName)) ∈ lw_g := List.mem_filter.mpr ⟨List.mem_append_right _ (List.mem_of_getElem? (i := 493) (by decide +kernel)), by decide +kernel⟩
theorem tw_494 : (Jvm.Cond.code ({ cls := "MotionLabModel", name := "toFloat", desc := "(J)J" } : Jvm.MethodName) prog_6_method_22_code (2 : Nat) (Option.some Jvm.ClassFile.FieldType.long)) ∈ lw_g := List.mem_filter.mpr ⟨List.mem_append_right _ (List.mem_of_getElem? (i := 494) (by decide +kernel)), by decide +kernel⟩
theorem tw_495 : (Jvm.Cond.methodLink "MotionLabModel" (99 : Nat) ({ cls := "MotionLabModel", name := "changed", desc := "(JII)J" } : Jvm.MethodName)) ∈ lw_g := List.mem_filter.mpr ⟨List.mem_append_right _ (List.mem_of_getElem? (i := 495) (by decide +kernel)), by decide +kernel⟩
theorem tw_496 : (Jvm.Cond.static ({ cls := "MotionLabModel", name := "changed", desc := "(JII)J" } : Jvm.MethodName)) ∈ lw_g := List.mem_filter.mpr ⟨List.mem_append_right _ (List.mem_of_getElem? (i := 496) (by decide +kernel)), by decide +kernel⟩
theorem tw_497 : (Jvm.Cond.code ({ cls := "MotionLabModel", name := "changed", desc := "(JII)J" } : Jvm.MethodName) prog_6_method_21_code (4 : Nat) (Option.some Jvm.ClassFile.FieldType.long)) ∈ lw_g := List.mem_filter.mpr ⟨List.mem_append_right _ (List.mem_of_getElem? (i := 497) (by decide +kernel)), by decide +kernel⟩
theorem tw_498 : (Jvm.Cond.methodLink "MotionLabModel" (56 : Nat) ({ cls := "MotionLabModel", name := "isNone", desc := "(JI)Z" } : Jvm.MethodName)) ∈ lw_g := List.mem_filter.mpr ⟨List.mem_append_right _ (List.mem_of_getElem? (i := 498) (by decide +kernel)), by decide +kernel⟩
theorem tw_499 : (Jvm.Cond.static ({ cls := "MotionLabModel", name := "isNone", desc := "(JI)Z" } : Jvm.MethodName)) ∈ lw_g := List.mem_filter.mpr ⟨List.mem_append_right _ (List.mem_of_getElem? (i := 499) (by decide +kernel)), by decide +kernel⟩
theorem tw_500 : (Jvm.Cond.code ({ cls := "MotionLabModel", name := "isNone", desc := "(JI)Z" } : Jvm.MethodName) prog_6_method_6_code (3 : Nat) (Option.some Jvm.ClassFile.FieldType.boolean)) ∈ lw_g := List.mem_filter.mpr ⟨List.mem_append_right _ (List.mem_of_getElem? (i := 500) (by decide +kernel)), by decide +kernel⟩
theorem tw_501 : (Jvm.Cond.methodLink "MotionLabModel" (15 : Nat) ({ cls := "MotionLabModel", name := "size", desc := "(JI)J" } : Jvm.MethodName)) ∈ lw_g := List.mem_filter.mpr ⟨List.mem_append_right _ (List.mem_of_getElem? (i := 501) (by decide +kernel)), by decide +kernel⟩
theorem tw_502 : (Jvm.Cond.static ({ cls := "MotionLabModel", name := "size", desc := "(JI)J" } : Jvm.MethodName)) ∈ lw_g := List.mem_filter.mpr ⟨List.mem_append_right _ (List.mem_of_getElem? (i := 502) (by decide +kernel)), by decide +kernel⟩
theorem tw_503 : (Jvm.Cond.code ({ cls := "MotionLabModel", name := "size", desc := "(JI)J" } : Jvm.MethodName) prog_6_method_3_code (3 : Nat) (Option.some Jvm.ClassFile.FieldType.long)) ∈ lw_g := List.mem_filter.mpr ⟨List.mem_append_right _ (List.mem_of_getElem? (i := 503) (by decide +kernel)), by decide +kernel⟩
theorem tw_504 : (Jvm.Cond.methodLink "MotionLabModel" (1 : Nat) ({ cls := "MotionLabModel", name := "wide", desc := "(I)I" } : Jvm.MethodName)) ∈ lw_g := List.mem_filter.mpr ⟨List.mem_append_right _ (List.mem_of_getElem? (i := 504) (by decide +kernel)), by decide +kernel⟩
theorem tw_505 : (Jvm.Cond.static ({ cls := "MotionLabModel", name := "wide", desc := "(I)I" } : Jvm.MethodName)) ∈ lw_g := List.mem_filter.mpr ⟨List.mem_append_right _ (List.mem_of_getElem? (i := 505) (by decide +kernel)), by decide +kernel⟩
theorem tw_506 : (Jvm.Cond.code ({ cls := "MotionLabModel", name := "wide", desc := "(I)I" } : Jvm.MethodName) prog_6_method_1_code (1 : Nat) (Option.some Jvm.ClassFile.FieldType.int)) ∈ lw_g := List.mem_filter.mpr ⟨List.mem_append_right _ (List.mem_of_getElem? (i := 506) (by decide +kernel)), by decide +kernel⟩
theorem tw_507 : (Jvm.Cond.methodLink "MotionLabModel" (19 : Nat) ({ cls := "MotionLabModel", name := "infinite", desc := "(I)J" } : Jvm.MethodName)) ∈ lw_g := List.mem_filter.mpr ⟨List.mem_append_right _ (List.mem_of_getElem? (i := 507) (by decide +kernel)), by decide +kernel⟩
theorem tw_508 : (Jvm.Cond.static ({ cls := "MotionLabModel", name := "infinite", desc := "(I)J" } : Jvm.MethodName)) ∈ lw_g := List.mem_filter.mpr ⟨List.mem_append_right _ (List.mem_of_getElem? (i := 508) (by decide +kernel)), by decide +kernel⟩
theorem tw_509 : (Jvm.Cond.code ({ cls := "MotionLabModel", name := "infinite", desc := "(I)J" } : Jvm.MethodName) prog_6_method_4_code (1 : Nat) (Option.some Jvm.ClassFile.FieldType.long)) ∈ lw_g := List.mem_filter.mpr ⟨List.mem_append_right _ (List.mem_of_getElem? (i := 509) (by decide +kernel)), by decide +kernel⟩
theorem tw_510 : (Jvm.Cond.constantLong "MotionLabModel" (9 : Nat) (2139095040 : Int64)) ∈ lw_g := List.mem_filter.mpr ⟨List.mem_append_right _ (List.mem_of_getElem? (i := 510) (by decide +kernel)), by decide +kernel⟩
theorem tw_511 : (Jvm.Cond.methodLink "MotionLabModel" (60 : Nat) ({ cls := "MotionLabModel", name := "none", desc := "(I)J" } : Jvm.MethodName)) ∈ lw_g := List.mem_filter.mpr ⟨List.mem_append_right _ (List.mem_of_getElem? (i := 511) (by decide +kernel)), by decide +kernel⟩
theorem tw_512 : (Jvm.Cond.static ({ cls := "MotionLabModel", name := "none", desc := "(I)J" } : Jvm.MethodName)) ∈ lw_g := List.mem_filter.mpr ⟨List.mem_append_right _ (List.mem_of_getElem? (i := 512) (by decide +kernel)), by decide +kernel⟩
theorem tw_513 : (Jvm.Cond.code ({ cls := "MotionLabModel", name := "none", desc := "(I)J" } : Jvm.MethodName) prog_6_method_5_code (1 : Nat) (Option.some Jvm.ClassFile.FieldType.long)) ∈ lw_g := List.mem_filter.mpr ⟨List.mem_append_right _ (List.mem_of_getElem? (i := 513) (by decide +kernel)), by decide +kernel⟩
theorem tw_514 : (Jvm.Cond.constantLong "MotionLabModel" (11 : Nat) (9221120237041090560 : Int64)) ∈ lw_g := List.mem_filter.mpr ⟨List.mem_append_right _ (List.mem_of_getElem? (i := 514) (by decide +kernel)), by decide +kernel⟩
theorem tw_515 : (Jvm.Cond.constantLong "MotionLabModel" (13 : Nat) (2143289344 : Int64)) ∈ lw_g := List.mem_filter.mpr ⟨List.mem_append_right _ (List.mem_of_getElem? (i := 515) (by decide +kernel)), by decide +kernel⟩
theorem tw_516 : (Jvm.Cond.methodLink "MotionLabModel" (63 : Nat) ({ cls := "MotionLabModel", name := "isInfinite", desc := "(JI)Z" } : Jvm.MethodName)) ∈ lw_g := List.mem_filter.mpr ⟨List.mem_append_right _ (List.mem_of_getElem? (i := 516) (by decide +kernel)), by decide +kernel⟩
theorem tw_517 : (Jvm.Cond.static ({ cls := "MotionLabModel", name := "isInfinite", desc := "(JI)Z" } : Jvm.MethodName)) ∈ lw_g := List.mem_filter.mpr ⟨List.mem_append_right _ (List.mem_of_getElem? (i := 517) (by decide +kernel)), by decide +kernel⟩
theorem tw_518 : (Jvm.Cond.code ({ cls := "MotionLabModel", name := "isInfinite", desc := "(JI)Z" } : Jvm.MethodName) prog_6_method_7_code (3 : Nat) (Option.some Jvm.ClassFile.FieldType.boolean)) ∈ lw_g := List.mem_filter.mpr ⟨List.mem_append_right _ (List.mem_of_getElem? (i := 518) (by decide +kernel)), by decide +kernel⟩
theorem tw_519 : (Jvm.Cond.methodLink "MotionLabModel" (76 : Nat) ({ cls := "MotionLabModel", name := "minus", desc := "(JI)Z" } : Jvm.MethodName)) ∈ lw_g := List.mem_filter.mpr ⟨List.mem_append_right _ (List.mem_of_getElem? (i := 519) (by decide +kernel)), by decide +kernel⟩
theorem tw_520 : (Jvm.Cond.static ({ cls := "MotionLabModel", name := "minus", desc := "(JI)Z" } : Jvm.MethodName)) ∈ lw_g := List.mem_filter.mpr ⟨List.mem_append_right _ (List.mem_of_getElem? (i := 520) (by decide +kernel)), by decide +kernel⟩
theorem tw_521 : (Jvm.Cond.code ({ cls := "MotionLabModel", name := "minus", desc := "(JI)Z" } : Jvm.MethodName) prog_6_method_2_code (3 : Nat) (Option.some Jvm.ClassFile.FieldType.boolean)) ∈ lw_g := List.mem_filter.mpr ⟨List.mem_append_right _ (List.mem_of_getElem? (i := 521) (by decide +kernel)), by decide +kernel⟩
theorem tw_522 : (Jvm.Cond.methodLink "MotionLabModel" (36 : Nat) ({ cls := "MotionLabModel", name := "signed", desc := "(JZI)J" } : Jvm.MethodName)) ∈ lw_g := List.mem_filter.mpr ⟨List.mem_append_right _ (List.mem_of_getElem? (i := 522) (by decide +kernel)), by decide +kernel⟩
theorem tw_523 : (Jvm.Cond.static ({ cls := "MotionLabModel", name := "signed", desc := "(JZI)J" } : Jvm.MethodName)) ∈ lw_g := List.mem_filter.mpr ⟨List.mem_append_right _ (List.mem_of_getElem? (i := 523) (by decide +kernel)), by decide +kernel⟩
theorem tw_524 : (Jvm.Cond.code ({ cls := "MotionLabModel", name := "signed", desc := "(JZI)J" } : Jvm.MethodName) prog_6_method_9_code (4 : Nat) (Option.some Jvm.ClassFile.FieldType.long)) ∈ lw_g := List.mem_filter.mpr ⟨List.mem_append_right _ (List.mem_of_getElem? (i := 524) (by decide +kernel)), by decide +kernel⟩
theorem tw_525 : (Jvm.Cond.methodLink "MotionLabModel" (73 : Nat) ({ cls := "MotionLabModel", name := "whole", desc := "(JI)J" } : Jvm.MethodName)) ∈ lw_g := List.mem_filter.mpr ⟨List.mem_append_right _ (List.mem_of_getElem? (i := 525) (by decide +kernel)), by decide +kernel⟩
theorem tw_526 : (Jvm.Cond.static ({ cls := "MotionLabModel", name := "whole", desc := "(JI)J" } : Jvm.MethodName)) ∈ lw_g := List.mem_filter.mpr ⟨List.mem_append_right _ (List.mem_of_getElem? (i := 526) (by decide +kernel)), by decide +kernel⟩
theorem tw_527 : (Jvm.Cond.code ({ cls := "MotionLabModel", name := "whole", desc := "(JI)J" } : Jvm.MethodName) prog_6_method_11_code (8 : Nat) (Option.some Jvm.ClassFile.FieldType.long)) ∈ lw_g := List.mem_filter.mpr ⟨List.mem_append_right _ (List.mem_of_getElem? (i := 527) (by decide +kernel)), by decide +kernel⟩
theorem tw_528 : (Jvm.Cond.fieldLink "MotionLabModel" (23 : Nat) "MotionLabModel" "PLACES" "[I") ∈ lw_g := List.mem_filter.mpr ⟨List.mem_append_right _ (List.mem_of_getElem? (i := 528) (by decide +kernel)), by decide +kernel⟩
theorem tw_530 : (Jvm.Cond.methodLink "MotionLabModel" (69 : Nat) ({ cls := "MotionLabModel", name := "power", desc := "(JI)I" } : Jvm.MethodName)) ∈ lw_g := List.mem_filter.mpr ⟨List.mem_append_right _ (List.mem_of_getElem? (i := 530) (by decide +kernel)), by decide +kernel⟩
theorem tw_531 : (Jvm.Cond.static ({ cls := "MotionLabModel", name := "power", desc := "(JI)I" } : Jvm.MethodName)) ∈ lw_g := List.mem_filter.mpr ⟨List.mem_append_right _ (List.mem_of_getElem? (i := 531) (by decide +kernel)), by decide +kernel⟩
theorem tw_532 : (Jvm.Cond.code ({ cls := "MotionLabModel", name := "power", desc := "(JI)I" } : Jvm.MethodName) prog_6_method_12_code (5 : Nat) (Option.some Jvm.ClassFile.FieldType.int)) ∈ lw_g := List.mem_filter.mpr ⟨List.mem_append_right _ (List.mem_of_getElem? (i := 532) (by decide +kernel)), by decide +kernel⟩
theorem tw_533 : (Jvm.Cond.fieldLink "MotionLabModel" (27 : Nat) "MotionLabModel" "LEAST" "[I") ∈ lw_g := List.mem_filter.mpr ⟨List.mem_append_right _ (List.mem_of_getElem? (i := 533) (by decide +kernel)), by decide +kernel⟩
theorem tw_535 : (Jvm.Cond.methodLink "MotionLabModel" (30 : Nat) ({ cls := "java/lang/Math", name := "max", desc := "(JJ)J" } : Jvm.MethodName)) ∈ lw_g := List.mem_filter.mpr ⟨List.mem_append_right _ (List.mem_of_getElem? (i := 535) (by decide +kernel)), by decide +kernel⟩
theorem tw_536 : (Jvm.Cond.methodLink "MotionLabModel" (89 : Nat) ({ cls := "MotionLabModel", name := "exact", desc := "(ZJII)J" } : Jvm.MethodName)) ∈ lw_g := List.mem_filter.mpr ⟨List.mem_append_right _ (List.mem_of_getElem? (i := 536) (by decide +kernel)), by decide +kernel⟩
theorem tw_537 : (Jvm.Cond.static ({ cls := "MotionLabModel", name := "exact", desc := "(ZJII)J" } : Jvm.MethodName)) ∈ lw_g := List.mem_filter.mpr ⟨List.mem_append_right _ (List.mem_of_getElem? (i := 537) (by decide +kernel)), by decide +kernel⟩
theorem tw_538 : (Jvm.Cond.code ({ cls := "MotionLabModel", name := "exact", desc := "(ZJII)J" } : Jvm.MethodName) prog_6_method_14_code (5 : Nat) (Option.some Jvm.ClassFile.FieldType.long)) ∈ lw_g := List.mem_filter.mpr ⟨List.mem_append_right _ (List.mem_of_getElem? (i := 538) (by decide +kernel)), by decide +kernel⟩
theorem tw_539 : (Jvm.Cond.methodLink "MotionLabModel" (52 : Nat) ({ cls := "MotionLabModel", name := "rounded", desc := "(ZJIZI)J" } : Jvm.MethodName)) ∈ lw_g := List.mem_filter.mpr ⟨List.mem_append_right _ (List.mem_of_getElem? (i := 539) (by decide +kernel)), by decide +kernel⟩
theorem tw_540 : (Jvm.Cond.static ({ cls := "MotionLabModel", name := "rounded", desc := "(ZJIZI)J" } : Jvm.MethodName)) ∈ lw_g := List.mem_filter.mpr ⟨List.mem_append_right _ (List.mem_of_getElem? (i := 540) (by decide +kernel)), by decide +kernel⟩
theorem tw_541 : (Jvm.Cond.code ({ cls := "MotionLabModel", name := "rounded", desc := "(ZJIZI)J" } : Jvm.MethodName) prog_6_method_13_code (15 : Nat) (Option.some Jvm.ClassFile.FieldType.long)) ∈ lw_g := List.mem_filter.mpr ⟨List.mem_append_right _ (List.mem_of_getElem? (i := 541) (by decide +kernel)), by decide +kernel⟩
theorem tw_542 : (Jvm.Cond.methodLink "MotionLabModel" (40 : Nat) ({ cls := "java/lang/Long", name := "numberOfLeadingZeros", desc := "(J)I" } : Jvm.MethodName)) ∈ lw_g := List.mem_filter.mpr ⟨List.mem_append_right _ (List.mem_of_getElem? (i := 542) (by decide +kernel)), by decide +kernel⟩
theorem tw_543 : (Jvm.Cond.methodLink "MotionLabModel" (46 : Nat) ({ cls := "java/lang/Math", name := "max", desc := "(II)I" } : Jvm.MethodName)) ∈ lw_g := List.mem_filter.mpr ⟨List.mem_append_right _ (List.mem_of_getElem? (i := 543) (by decide +kernel)), by decide +kernel⟩
theorem tw_544 : (Jvm.Cond.fieldLink "MotionLabModel" (49 : Nat) "MotionLabModel" "GREATEST" "[I") ∈ lw_g := List.mem_filter.mpr ⟨List.mem_append_right _ (List.mem_of_getElem? (i := 544) (by decide +kernel)), by decide +kernel⟩
theorem tw_557 : (Jvm.Cond.constantLong "MotionLabModel" (207 : Nat) (4294967295 : Int64)) ∈ lw_g := List.mem_filter.mpr ⟨List.mem_append_right _ (List.mem_of_getElem? (i := 557) (by decide +kernel)), by decide +kernel⟩
theorem tw_570 : (Jvm.Cond.methodLink "MotionLabModel" (229 : Nat) ({ cls := "MotionLabModel", name := "toDouble", desc := "(J)J" } : Jvm.MethodName)) ∈ lw_g := List.mem_filter.mpr ⟨List.mem_append_right _ (List.mem_of_getElem? (i := 570) (by decide +kernel)), by decide +kernel⟩
theorem tw_571 : (Jvm.Cond.static ({ cls := "MotionLabModel", name := "toDouble", desc := "(J)J" } : Jvm.MethodName)) ∈ lw_g := List.mem_filter.mpr ⟨List.mem_append_right _ (List.mem_of_getElem? (i := 571) (by decide +kernel)), by decide +kernel⟩
theorem tw_572 : (Jvm.Cond.code ({ cls := "MotionLabModel", name := "toDouble", desc := "(J)J" } : Jvm.MethodName) prog_6_method_23_code (2 : Nat) (Option.some Jvm.ClassFile.FieldType.long)) ∈ lw_g := List.mem_filter.mpr ⟨List.mem_append_right _ (List.mem_of_getElem? (i := 572) (by decide +kernel)), by decide +kernel⟩
theorem tw_573 : (Jvm.Cond.methodLink "MotionLabModel" (216 : Nat) ({ cls := "MotionLabModel", name := "multiply", desc := "(JJ)J" } : Jvm.MethodName)) ∈ lw_g := List.mem_filter.mpr ⟨List.mem_append_right _ (List.mem_of_getElem? (i := 573) (by decide +kernel)), by decide +kernel⟩
theorem tw_574 : (Jvm.Cond.static ({ cls := "MotionLabModel", name := "multiply", desc := "(JJ)J" } : Jvm.MethodName)) ∈ lw_g := List.mem_filter.mpr ⟨List.mem_append_right _ (List.mem_of_getElem? (i := 574) (by decide +kernel)), by decide +kernel⟩
theorem tw_575 : (Jvm.Cond.code ({ cls := "MotionLabModel", name := "multiply", desc := "(JJ)J" } : Jvm.MethodName) prog_6_method_28_code (4 : Nat) (Option.some Jvm.ClassFile.FieldType.long)) ∈ lw_g := List.mem_filter.mpr ⟨List.mem_append_right _ (List.mem_of_getElem? (i := 575) (by decide +kernel)), by decide +kernel⟩
theorem tw_576 : (Jvm.Cond.methodLink "MotionLabModel" (110 : Nat) ({ cls := "MotionLabModel", name := "multiply", desc := "(JJI)J" } : Jvm.MethodName)) ∈ lw_g := List.mem_filter.mpr ⟨List.mem_append_right _ (List.mem_of_getElem? (i := 576) (by decide +kernel)), by decide +kernel⟩
theorem tw_577 : (Jvm.Cond.static ({ cls := "MotionLabModel", name := "multiply", desc := "(JJI)J" } : Jvm.MethodName)) ∈ lw_g := List.mem_filter.mpr ⟨List.mem_append_right _ (List.mem_of_getElem? (i := 577) (by decide +kernel)), by decide +kernel⟩
theorem tw_578 : (Jvm.Cond.code ({ cls := "MotionLabModel", name := "multiply", desc := "(JJI)J" } : Jvm.MethodName) prog_6_method_18_code (25 : Nat) (Option.some Jvm.ClassFile.FieldType.long)) ∈ lw_g := List.mem_filter.mpr ⟨List.mem_append_right _ (List.mem_of_getElem? (i := 578) (by decide +kernel)), by decide +kernel⟩
theorem tw_579 : (Jvm.Cond.methodLink "MotionLabModel" (66 : Nat) ({ cls := "MotionLabModel", name := "isZero", desc := "(JI)Z" } : Jvm.MethodName)) ∈ lw_g := List.mem_filter.mpr ⟨List.mem_append_right _ (List.mem_of_getElem? (i := 579) (by decide +kernel)), by decide +kernel⟩
theorem tw_580 : (Jvm.Cond.static ({ cls := "MotionLabModel", name := "isZero", desc := "(JI)Z" } : Jvm.MethodName)) ∈ lw_g := List.mem_filter.mpr ⟨List.mem_append_right _ (List.mem_of_getElem? (i := 580) (by decide +kernel)), by decide +kernel⟩
theorem tw_581 : (Jvm.Cond.code ({ cls := "MotionLabModel", name := "isZero", desc := "(JI)Z" } : Jvm.MethodName) prog_6_method_8_code (3 : Nat) (Option.some Jvm.ClassFile.FieldType.boolean)) ∈ lw_g := List.mem_filter.mpr ⟨List.mem_append_right _ (List.mem_of_getElem? (i := 581) (by decide +kernel)), by decide +kernel⟩
theorem tw_582 : (Jvm.Cond.methodLink "MotionLabModel" (86 : Nat) ({ cls := "MotionLabModel", name := "moved", desc := "(JI)I" } : Jvm.MethodName)) ∈ lw_g := List.mem_filter.mpr ⟨List.mem_append_right _ (List.mem_of_getElem? (i := 582) (by decide +kernel)), by decide +kernel⟩
theorem tw_583 : (Jvm.Cond.static ({ cls := "MotionLabModel", name := "moved", desc := "(JI)I" } : Jvm.MethodName)) ∈ lw_g := List.mem_filter.mpr ⟨List.mem_append_right _ (List.mem_of_getElem? (i := 583) (by decide +kernel)), by decide +kernel⟩
theorem tw_584 : (Jvm.Cond.code ({ cls := "MotionLabModel", name := "moved", desc := "(JI)I" } : Jvm.MethodName) prog_6_method_17_code (3 : Nat) (Option.some Jvm.ClassFile.FieldType.int)) ∈ lw_g := List.mem_filter.mpr ⟨List.mem_append_right _ (List.mem_of_getElem? (i := 584) (by decide +kernel)), by decide +kernel⟩
theorem tw_585 : (Jvm.Cond.constantLong "MotionLabModel" (93 : Nat) (134217727 : Int64)) ∈ lw_g := List.mem_filter.mpr ⟨List.mem_append_right _ (List.mem_of_getElem? (i := 585) (by decide +kernel)), by decide +kernel⟩
theorem tw_586 : (Jvm.Cond.constantLong "MotionLabModel" (95 : Nat) (18014398509481983 : Int64)) ∈ lw_g := List.mem_filter.mpr ⟨List.mem_append_right _ (List.mem_of_getElem? (i := 586) (by decide +kernel)), by decide +kernel⟩
theorem tw_587 : (Jvm.Cond.constantLong "MotionLabModel" (97 : Nat) (70368744177663 : Int64)) ∈ lw_g := List.mem_filter.mpr ⟨List.mem_append_right _ (List.mem_of_getElem? (i := 587) (by decide +kernel)), by decide +kernel⟩
theorem tw_591 : (Jvm.Cond.methodLink "MotionLabModel" (107 : Nat) ({ cls := "MotionLabModel", name := "subtract", desc := "(JJI)J" } : Jvm.MethodName)) ∈ lw_g := List.mem_filter.mpr ⟨List.mem_append_right _ (List.mem_of_getElem? (i := 591) (by decide +kernel)), by decide +kernel⟩
theorem tw_592 : (Jvm.Cond.static ({ cls := "MotionLabModel", name := "subtract", desc := "(JJI)J" } : Jvm.MethodName)) ∈ lw_g := List.mem_filter.mpr ⟨List.mem_append_right _ (List.mem_of_getElem? (i := 592) (by decide +kernel)), by decide +kernel⟩
theorem tw_593 : (Jvm.Cond.code ({ cls := "MotionLabModel", name := "subtract", desc := "(JJI)J" } : Jvm.MethodName) prog_6_method_16_code (5 : Nat) (Option.some Jvm.ClassFile.FieldType.long)) ∈ lw_g := List.mem_filter.mpr ⟨List.mem_append_right _ (List.mem_of_getElem? (i := 593) (by decide +kernel)), by decide +kernel⟩
theorem tw_594 : (Jvm.Cond.methodLink "MotionLabModel" (79 : Nat) ({ cls := "MotionLabModel", name := "turned", desc := "(JI)J" } : Jvm.MethodName)) ∈ lw_g := List.mem_filter.mpr ⟨List.mem_append_right _ (List.mem_of_getElem? (i := 594) (by decide +kernel)), by decide +kernel⟩
theorem tw_595 : (Jvm.Cond.static ({ cls := "MotionLabModel", name := "turned", desc := "(JI)J" } : Jvm.MethodName)) ∈ lw_g := List.mem_filter.mpr ⟨List.mem_append_right _ (List.mem_of_getElem? (i := 595) (by decide +kernel)), by decide +kernel⟩
theorem tw_596 : (Jvm.Cond.code ({ cls := "MotionLabModel", name := "turned", desc := "(JI)J" } : Jvm.MethodName) prog_6_method_10_code (3 : Nat) (Option.some Jvm.ClassFile.FieldType.long)) ∈ lw_g := List.mem_filter.mpr ⟨List.mem_append_right _ (List.mem_of_getElem? (i := 596) (by decide +kernel)), by decide +kernel⟩
theorem tw_597 : (Jvm.Cond.methodLink "MotionLabModel" (82 : Nat) ({ cls := "MotionLabModel", name := "add", desc := "(JJI)J" } : Jvm.MethodName)) ∈ lw_g := List.mem_filter.mpr ⟨List.mem_append_right _ (List.mem_of_getElem? (i := 597) (by decide +kernel)), by decide +kernel⟩
theorem tw_598 : (Jvm.Cond.static ({ cls := "MotionLabModel", name := "add", desc := "(JJI)J" } : Jvm.MethodName)) ∈ lw_g := List.mem_filter.mpr ⟨List.mem_append_right _ (List.mem_of_getElem? (i := 598) (by decide +kernel)), by decide +kernel⟩
theorem tw_599 : (Jvm.Cond.code ({ cls := "MotionLabModel", name := "add", desc := "(JJI)J" } : Jvm.MethodName) prog_6_method_15_code (19 : Nat) (Option.some Jvm.ClassFile.FieldType.long)) ∈ lw_g := List.mem_filter.mpr ⟨List.mem_append_right _ (List.mem_of_getElem? (i := 599) (by decide +kernel)), by decide +kernel⟩
theorem tw_611 : (Jvm.Cond.methodLink "MotionLabModel" (123 : Nat) ({ cls := "MotionLabModel", name := "add", desc := "(JJ)J" } : Jvm.MethodName)) ∈ lw_g := List.mem_filter.mpr ⟨List.mem_append_right _ (List.mem_of_getElem? (i := 611) (by decide +kernel)), by decide +kernel⟩
theorem tw_612 : (Jvm.Cond.static ({ cls := "MotionLabModel", name := "add", desc := "(JJ)J" } : Jvm.MethodName)) ∈ lw_g := List.mem_filter.mpr ⟨List.mem_append_right _ (List.mem_of_getElem? (i := 612) (by decide +kernel)), by decide +kernel⟩
theorem tw_613 : (Jvm.Cond.code ({ cls := "MotionLabModel", name := "add", desc := "(JJ)J" } : Jvm.MethodName) prog_6_method_26_code (4 : Nat) (Option.some Jvm.ClassFile.FieldType.long)) ∈ lw_g := List.mem_filter.mpr ⟨List.mem_append_right _ (List.mem_of_getElem? (i := 613) (by decide +kernel)), by decide +kernel⟩
theorem tw_614 : (Jvm.Cond.methodLink "MotionLabModel" (223 : Nat) ({ cls := "MotionLabModel", name := "root", desc := "(J)J" } : Jvm.MethodName)) ∈ lw_g := List.mem_filter.mpr ⟨List.mem_append_right _ (List.mem_of_getElem? (i := 614) (by decide +kernel)), by decide +kernel⟩
theorem tw_615 : (Jvm.Cond.static ({ cls := "MotionLabModel", name := "root", desc := "(J)J" } : Jvm.MethodName)) ∈ lw_g := List.mem_filter.mpr ⟨List.mem_append_right _ (List.mem_of_getElem? (i := 615) (by decide +kernel)), by decide +kernel⟩
theorem tw_616 : (Jvm.Cond.code ({ cls := "MotionLabModel", name := "root", desc := "(J)J" } : Jvm.MethodName) prog_6_method_30_code (5 : Nat) (Option.some Jvm.ClassFile.FieldType.long)) ∈ lw_g := List.mem_filter.mpr ⟨List.mem_append_right _ (List.mem_of_getElem? (i := 616) (by decide +kernel)), by decide +kernel⟩
theorem tw_617 : (Jvm.Cond.methodLink "MotionLabModel" (116 : Nat) ({ cls := "MotionLabModel", name := "order", desc := "(JJ)I" } : Jvm.MethodName)) ∈ lw_g := List.mem_filter.mpr ⟨List.mem_append_right _ (List.mem_of_getElem? (i := 617) (by decide +kernel)), by decide +kernel⟩
theorem tw_618 : (Jvm.Cond.static ({ cls := "MotionLabModel", name := "order", desc := "(JJ)I" } : Jvm.MethodName)) ∈ lw_g := List.mem_filter.mpr ⟨List.mem_append_right _ (List.mem_of_getElem? (i := 618) (by decide +kernel)), by decide +kernel⟩
theorem tw_619 : (Jvm.Cond.code ({ cls := "MotionLabModel", name := "order", desc := "(JJ)I" } : Jvm.MethodName) prog_6_method_24_code (8 : Nat) (Option.some Jvm.ClassFile.FieldType.int)) ∈ lw_g := List.mem_filter.mpr ⟨List.mem_append_right _ (List.mem_of_getElem? (i := 619) (by decide +kernel)), by decide +kernel⟩
theorem tw_620 : (Jvm.Cond.methodLink "MotionLabModel" (103 : Nat) ({ cls := "java/lang/Long", name := "compare", desc := "(JJ)I" } : Jvm.MethodName)) ∈ lw_g := List.mem_filter.mpr ⟨List.mem_append_right _ (List.mem_of_getElem? (i := 620) (by decide +kernel)), by decide +kernel⟩
theorem tw_621 : (Jvm.Cond.static ({ cls := "java/lang/Long", name := "compare", desc := "(JJ)I" } : Jvm.MethodName)) ∈ lw_g := List.mem_filter.mpr ⟨List.mem_append_right _ (List.mem_of_getElem? (i := 621) (by decide +kernel)), by decide +kernel⟩
theorem tw_622 : (Jvm.Cond.code ({ cls := "java/lang/Long", name := "compare", desc := "(JJ)I" } : Jvm.MethodName) prog_8_method_42_code (4 : Nat) (Option.some Jvm.ClassFile.FieldType.int)) ∈ lw_g := List.mem_filter.mpr ⟨List.mem_append_right _ (List.mem_of_getElem? (i := 622) (by decide +kernel)), by decide +kernel⟩
theorem tw_623 : (Jvm.Cond.constantLong "MotionLabModel" (119 : Nat) (2303591209400008704 : Int64)) ∈ lw_g := List.mem_filter.mpr ⟨List.mem_append_right _ (List.mem_of_getElem? (i := 623) (by decide +kernel)), by decide +kernel⟩
theorem tw_624 : (Jvm.Cond.methodLink "MotionLabModel" (121 : Nat) ({ cls := "MotionLabModel", name := "divide", desc := "(JJ)J" } : Jvm.MethodName)) ∈ lw_g := List.mem_filter.mpr ⟨List.mem_append_right _ (List.mem_of_getElem? (i := 624) (by decide +kernel)), by decide +kernel⟩
theorem tw_625 : (Jvm.Cond.static ({ cls := "MotionLabModel", name := "divide", desc := "(JJ)J" } : Jvm.MethodName)) ∈ lw_g := List.mem_filter.mpr ⟨List.mem_append_right _ (List.mem_of_getElem? (i := 625) (by decide +kernel)), by decide +kernel⟩
theorem tw_626 : (Jvm.Cond.code ({ cls := "MotionLabModel", name := "divide", desc := "(JJ)J" } : Jvm.MethodName) prog_6_method_29_code (4 : Nat) (Option.some Jvm.ClassFile.FieldType.long)) ∈ lw_g := List.mem_filter.mpr ⟨List.mem_append_right _ (List.mem_of_getElem? (i := 626) (by decide +kernel)), by decide +kernel⟩
theorem tw_627 : (Jvm.Cond.methodLink "MotionLabModel" (113 : Nat) ({ cls := "MotionLabModel", name := "divide", desc := "(JJI)J" } : Jvm.MethodName)) ∈ lw_g := List.mem_filter.mpr ⟨List.mem_append_right _ (List.mem_of_getElem? (i := 627) (by decide +kernel)), by decide +kernel⟩
theorem tw_628 : (Jvm.Cond.static ({ cls := "MotionLabModel", name := "divide", desc := "(JJI)J" } : Jvm.MethodName)) ∈ lw_g := List.mem_filter.mpr ⟨List.mem_append_right _ (List.mem_of_getElem? (i := 628) (by decide +kernel)), by decide +kernel⟩
theorem tw_629 : (Jvm.Cond.code ({ cls := "MotionLabModel", name := "divide", desc := "(JJI)J" } : Jvm.MethodName) prog_6_method_19_code (16 : Nat) (Option.some Jvm.ClassFile.FieldType.long)) ∈ lw_g := List.mem_filter.mpr ⟨List.mem_append_right _ (List.mem_of_getElem? (i := 629) (by decide +kernel)), by decide +kernel⟩
theorem tw_630 : (Jvm.Cond.constantLong "MotionLabModel" (125 : Nat) (4611686018427387904 : Int64)) ∈ lw_g := List.mem_filter.mpr ⟨List.mem_append_right _ (List.mem_of_getElem? (i := 630) (by decide +kernel)), by decide +kernel⟩
theorem tw_665 : (Jvm.Cond.methodLink "MotionLabModel" (254 : Nat) ({ cls := "MotionLabModel", name := "rest", desc := "(JJI)J" } : Jvm.MethodName)) ∈ lw_g := List.mem_filter.mpr ⟨List.mem_append_right _ (List.mem_of_getElem? (i := 665) (by decide +kernel)), by decide +kernel⟩
theorem tw_666 : (Jvm.Cond.static ({ cls := "MotionLabModel", name := "rest", desc := "(JJI)J" } : Jvm.MethodName)) ∈ lw_g := List.mem_filter.mpr ⟨List.mem_append_right _ (List.mem_of_getElem? (i := 666) (by decide +kernel)), by decide +kernel⟩
theorem tw_667 : (Jvm.Cond.code ({ cls := "MotionLabModel", name := "rest", desc := "(JJI)J" } : Jvm.MethodName) prog_6_method_20_code (13 : Nat) (Option.some Jvm.ClassFile.FieldType.long)) ∈ lw_g := List.mem_filter.mpr ⟨List.mem_append_right _ (List.mem_of_getElem? (i := 667) (by decide +kernel)), by decide +kernel⟩
theorem tw_668 : (Jvm.Cond.methodLink "MotionLabModel" (257 : Nat) ({ cls := "MotionLabModel", name := "end", desc := "(JJZ)J" } : Jvm.MethodName)) ∈ lw_g := List.mem_filter.mpr ⟨List.mem_append_right _ (List.mem_of_getElem? (i := 668) (by decide +kernel)), by decide +kernel⟩
theorem tw_669 : (Jvm.Cond.static ({ cls := "MotionLabModel", name := "end", desc := "(JJZ)J" } : Jvm.MethodName)) ∈ lw_g := List.mem_filter.mpr ⟨List.mem_append_right _ (List.mem_of_getElem? (i := 669) (by decide +kernel)), by decide +kernel⟩
theorem tw_670 : (Jvm.Cond.code ({ cls := "MotionLabModel", name := "end", desc := "(JJZ)J" } : Jvm.MethodName) prog_6_method_49_code (6 : Nat) (Option.some Jvm.ClassFile.FieldType.long)) ∈ lw_g := List.mem_filter.mpr ⟨List.mem_append_right _ (List.mem_of_getElem? (i := 670) (by decide +kernel)), by decide +kernel⟩
end
section
theorem wb_tb (n : Nat) : (lN n).toBitVec = BitVec.ofNat 64 n := rfl
theorem wb_inj {a b : Int64} (h : a.toBitVec = b.toBitVec) : a = b := Int64.toBitVec_inj.mp h
theorem wb_tn {n : Nat} (h : n < 2 ^ 64) : (lN n).toBitVec.toNat = n := by rw [wb_tb, BitVec.toNat_ofNat, Nat.mod_eq_of_lt h]
theorem wb_of (x : Int64) : ∃ n, n < 2 ^ 64 ∧ x = lN n := ⟨x.toBitVec.toNat, x.toBitVec.isLt, wb_inj (by rw [wb_tb]; simp)⟩
theorem wb_of32 (x : Int32) : ∃ n, n < 2 ^ 32 ∧ x = nI n := ⟨x.toBitVec.toNat, x.toBitVec.isLt, Int32.toBitVec_inj.mp (by show _ = BitVec.ofNat 32 _; simp)⟩
theorem wb_c : ∀ k, k < 64 → ((nI k).toInt64 &&& 63) = lN k := by decide +kernel
theorem wb_cu : ∀ k, k < 64 → ((nI k).toInt64.toUInt64 &&& Int64.toUInt64 63) = UInt64.ofNat k := by decide +kernel
theorem wb_sm : ∀ k, k < 64 → (BitVec.ofNat 64 k).smod 64 = BitVec.ofNat 64 k := by decide +kernel
theorem wb_pw {a b : Nat} (h : a ≤ b) : 2 ^ b = 2 ^ a * 2 ^ (b - a) := by rw [← Nat.pow_add]; congr 1; omega
theorem wb_lt2 {a b : Nat} (h : a < b) : 2 ^ a < 2 ^ b := Nat.pow_lt_pow_right (by decide) h
theorem wb_mod (n : Nat) : lN n = lN (n % 2 ^ 64) := wb_inj (by rw [wb_tb, wb_tb]; apply BitVec.eq_of_toNat_eq; rw [BitVec.toNat_ofNat, BitVec.toNat_ofNat, Nat.mod_mod])
theorem wb_shr {n k : Nat} (hn : n < 2 ^ 64) (hk : k < 64) : ((lN n).toUInt64 >>> ((nI k).toInt64.toUInt64 &&& Int64.toUInt64 63)).toInt64 = lN (n / 2 ^ k) := by
  rw [wb_cu k hk]
  apply wb_inj
  apply BitVec.eq_of_toNat_eq
  show ((lN n).toUInt64 >>> UInt64.ofNat k).toNat = (BitVec.ofNat 64 _).toNat
  have h1 : (UInt64.ofNat k).toNat = k := by
    show (BitVec.ofNat 64 k).toNat = k
    rw [BitVec.toNat_ofNat, Nat.mod_eq_of_lt (by omega)]
  have h2 : (lN n).toUInt64.toNat = n := wb_tn hn
  rw [UInt64.toNat_shiftRight, h1, h2, Nat.mod_eq_of_lt hk, Nat.shiftRight_eq_div_pow, BitVec.toNat_ofNat, Nat.mod_eq_of_lt (Nat.lt_of_le_of_lt (Nat.div_le_self _ _) hn)]
theorem wb_shl (n : Nat) {k : Nat} (hk : k < 64) : lN n <<< ((nI k).toInt64 &&& 63) = lN (n * 2 ^ k) := by
  rw [wb_c k hk]
  apply wb_inj
  rw [Int64.toBitVec_shiftLeft, wb_tb, wb_tb, wb_tb, wb_sm k hk]
  apply BitVec.eq_of_toNat_eq
  rw [BitVec.shiftLeft_eq', BitVec.toNat_shiftLeft, BitVec.toNat_ofNat, BitVec.toNat_ofNat, BitVec.toNat_ofNat, Nat.mod_eq_of_lt (show k < 2 ^ 64 by omega), Nat.shiftLeft_eq, Nat.mul_mod, Nat.mod_mod, ← Nat.mul_mod]
theorem wb_and {a b : Nat} (ha : a < 2 ^ 64) (hb : b < 2 ^ 64) : lN a &&& lN b = lN (a &&& b) := by
  apply wb_inj
  rw [Int64.toBitVec_and, wb_tb, wb_tb, wb_tb]
  apply BitVec.eq_of_toNat_eq
  rw [BitVec.toNat_and, BitVec.toNat_ofNat, BitVec.toNat_ofNat, BitVec.toNat_ofNat, Nat.mod_eq_of_lt ha, Nat.mod_eq_of_lt hb, Nat.mod_eq_of_lt (Nat.and_lt_two_pow _ hb)]
theorem wb_or {a b : Nat} (ha : a < 2 ^ 64) (hb : b < 2 ^ 64) : lN a ||| lN b = lN (a ||| b) := by
  apply wb_inj
  rw [Int64.toBitVec_or, wb_tb, wb_tb, wb_tb]
  apply BitVec.eq_of_toNat_eq
  rw [BitVec.toNat_or, BitVec.toNat_ofNat, BitVec.toNat_ofNat, BitVec.toNat_ofNat, Nat.mod_eq_of_lt ha, Nat.mod_eq_of_lt hb, Nat.mod_eq_of_lt (Nat.or_lt_two_pow ha hb)]
theorem wb_mask {n k : Nat} (hn : n < 2 ^ 64) (hk : k < 64) : lN n &&& lN (2 ^ k - 1) = lN (n % 2 ^ k) := by
  rw [wb_and hn (by have := wb_lt2 hk; omega), Nat.and_two_pow_sub_one_eq_mod]
theorem wb_a1 {n : Nat} (hn : n < 2 ^ 64) : lN n &&& 1 = lN (n % 2) := wb_mask (k := 1) hn (by decide)
theorem wb_bit {n k : Nat} (hn : n < 2 ^ 64) (hk : k < 64) : ((lN n).toUInt64 >>> ((nI k).toInt64.toUInt64 &&& Int64.toUInt64 63)).toInt64 &&& 1 = lN (n / 2 ^ k % 2) := by
  rw [wb_shr hn hk, wb_a1 (Nat.lt_of_le_of_lt (Nat.div_le_self _ _) hn)]
theorem wb_xor {q k : Nat} (hk : k < 63) (h : 2 ^ k ≤ q) (h2 : q < 2 ^ (k + 1)) : lN q ^^^ lN (2 ^ k) = lN (q - 2 ^ k) := by
  obtain ⟨r, rfl⟩ : ∃ r, q = 2 ^ k + r := ⟨q - 2 ^ k, by omega⟩
  have hr : r < 2 ^ k := by rw [Nat.pow_succ] at h2; omega
  have hx : (2 ^ k + r) ^^^ 2 ^ k = r := by
    apply Nat.eq_of_testBit_eq
    intro i
    rw [Nat.testBit_xor, Nat.testBit_two_pow]
    rcases Nat.lt_trichotomy i k with h | h | h
    · rw [Nat.testBit_two_pow_add_gt h]
      simp [show ¬ k = i by omega]
    · subst h
      rw [Nat.testBit_two_pow_add_eq]
      simp
    · have a1 : 2 ^ (k + 1) ≤ 2 ^ i := Nat.pow_le_pow_right (by decide) h
      rw [Nat.testBit_lt_two_pow (show 2 ^ k + r < 2 ^ i by omega), Nat.testBit_lt_two_pow (show r < 2 ^ i by omega)]
      simp [show ¬ k = i by omega]
  have b1 := wb_lt2 (show k + 1 < 64 by omega)
  have b2 := wb_lt2 (show k < 64 by omega)
  apply wb_inj
  rw [Int64.toBitVec_xor, wb_tb, wb_tb, wb_tb]
  apply BitVec.eq_of_toNat_eq
  rw [BitVec.toNat_xor, BitVec.toNat_ofNat, BitVec.toNat_ofNat, BitVec.toNat_ofNat, Nat.mod_eq_of_lt (by omega : 2 ^ k + r < 2 ^ 64), Nat.mod_eq_of_lt b2, hx, Nat.add_sub_cancel_left, Nat.mod_eq_of_lt (by omega)]
/-! OUR OWN ROWS: ints and longs as whole numbers -/
def iZ (z : Int) : Int32 := Int32.ofInt z
theorem iZ_nI (n : Nat) : iZ n = nI n := Int32.ofInt_eq_ofNat
theorem iZ_add (a b : Int) : iZ a + iZ b = iZ (a + b) := (Int32.ofInt_add a b).symm
theorem iZ_sub (a b : Int) : iZ a - iZ b = iZ (a - b) := (Int32.ofInt_sub a b).symm
theorem iZ_mul (a b : Int) : iZ a * iZ b = iZ (a * b) := (Int32.ofInt_mul a b).symm
theorem iZ_neg (a : Int) : -iZ a = iZ (-a) := (Int32.ofInt_neg a).symm
theorem iZ_of (x : Int32) : iZ x.toInt = x := Int32.ofInt_toInt x
theorem iZ_toInt {a : Int} (h1 : -2147483648 ≤ a) (h2 : a < 2147483648) : (iZ a).toInt = a := Int32.toInt_ofInt_of_le (by omega) (by omega)
theorem iZ_lt {a b : Int} (h1 : -2147483648 ≤ a) (h2 : a < 2147483648) (h3 : -2147483648 ≤ b) (h4 : b < 2147483648) : iZ a < iZ b ↔ a < b := by
  rw [Int32.lt_iff_toInt_lt, iZ_toInt h1 h2, iZ_toInt h3 h4]
theorem iZ_le {a b : Int} (h1 : -2147483648 ≤ a) (h2 : a < 2147483648) (h3 : -2147483648 ≤ b) (h4 : b < 2147483648) : iZ a ≤ iZ b ↔ a ≤ b := by
  rw [Int32.le_iff_toInt_le, iZ_toInt h1 h2, iZ_toInt h3 h4]
theorem iZ_eq {a b : Int} (h1 : -2147483648 ≤ a) (h2 : a < 2147483648) (h3 : -2147483648 ≤ b) (h4 : b < 2147483648) : iZ a = iZ b ↔ a = b := by
  rw [← Int32.toInt_inj, iZ_toInt h1 h2, iZ_toInt h3 h4]
theorem ti_add {a b : Int32} (h1 : -2147483648 ≤ a.toInt + b.toInt) (h2 : a.toInt + b.toInt < 2147483648) : (a + b).toInt = a.toInt + b.toInt := by
  have e : iZ (a.toInt + b.toInt) = a + b := by rw [← iZ_add, iZ_of, iZ_of]
  rw [← e]; exact iZ_toInt h1 h2
theorem ti_mul {a b : Int32} (h1 : -2147483648 ≤ a.toInt * b.toInt) (h2 : a.toInt * b.toInt < 2147483648) : (a * b).toInt = a.toInt * b.toInt := by
  have e : iZ (a.toInt * b.toInt) = a * b := by rw [← iZ_mul, iZ_of, iZ_of]
  rw [← e]; exact iZ_toInt h1 h2
theorem in_of {i : Int32} {n : Nat} (h0 : 0 ≤ i.toInt) (h1 : i.toInt < n) : vp_in i n := by
  intro h
  rcases h with h | h
  · rw [Int32.lt_iff_toInt_lt] at h
    have : (0 : Int32).toInt = 0 := rfl
    omega
  · have : (i.toNatClampNeg : Int) = i.toInt := by
      show ((i.toInt.toNat : Nat) : Int) = _
      omega
    omega
theorem in_to {i : Int32} {n : Nat} (h : vp_in i n) : 0 ≤ i.toInt ∧ i.toInt < n ∧ (i.toNatClampNeg : Int) = i.toInt := by
  have h0 : ¬ i < 0 := fun c => h (Or.inl c)
  have h1 : ¬ n ≤ i.toNatClampNeg := fun c => h (Or.inr c)
  rw [Int32.lt_iff_toInt_lt] at h0
  have z : (0 : Int32).toInt = 0 := rfl
  have e : (i.toNatClampNeg : Int) = i.toInt := by
    show ((i.toInt.toNat : Nat) : Int) = _
    omega
  omega
theorem in_w {i : Int32} {n k : Nat} (h : vp_in i n) (hk : n ≤ k) : vp_in i k := by
  obtain ⟨a, b, c⟩ := in_to h
  exact in_of a (by omega)
theorem in_al {c i : Int32} {k n : Nat} (h : vp_in i k) (hc : 0 ≤ c.toInt ∧ c.toInt + k ≤ n ∧ n < 2147483648) : vp_in (c + i) n := by
  obtain ⟨a, b, d⟩ := in_to h
  have e := ti_add (a := c) (b := i) (by omega) (by omega)
  exact in_of (by omega) (by omega)
theorem in_ml {c i : Int32} {k n : Nat} (h : vp_in i k) (hc : 0 < c.toInt ∧ c.toInt * k ≤ n ∧ n < 2147483648) : vp_in (i * c) n := by
  obtain ⟨a, b, d⟩ := in_to h
  have m1 : 0 ≤ i.toInt * c.toInt := Int.mul_nonneg a (by omega)
  have m2 : (i.toInt + 1) * c.toInt ≤ k * c.toInt := Int.mul_le_mul_of_nonneg_right (by omega) (by omega)
  rw [Int.add_mul, Int.one_mul] at m2
  rw [Int.mul_comm (k : Int)] at m2
  have e := ti_mul (a := i) (b := c) (by omega) (by omega)
  exact in_of (by omega) (by omega)
theorem in_mla {c i d : Int32} {k n : Nat} (h : vp_in i k) (hc : 0 < c.toInt ∧ 0 ≤ d.toInt ∧ d.toInt < c.toInt ∧ c.toInt * k ≤ n ∧ n < 2147483648) : vp_in (i * c + d) n := by
  obtain ⟨a, b, f⟩ := in_to h
  have m1 : 0 ≤ i.toInt * c.toInt := Int.mul_nonneg a (by omega)
  have m2 : (i.toInt + 1) * c.toInt ≤ k * c.toInt := Int.mul_le_mul_of_nonneg_right (by omega) (by omega)
  rw [Int.add_mul, Int.one_mul] at m2
  rw [Int.mul_comm (k : Int)] at m2
  have e := ti_mul (a := i) (b := c) (by omega) (by omega)
  have e2 := ti_add (a := i * c) (b := d) (by omega) (by omega)
  exact in_of (by omega) (by omega)
theorem in_rb {w b : Int32} (hw : vp_in w 6) (hb : vp_in b 8) : vp_in (w * 8 + b) 64 := by
  obtain ⟨a1, b1, c1⟩ := in_to hw
  obtain ⟨a2, b2, c2⟩ := in_to hb
  have z : (8 : Int32).toInt = 8 := rfl
  have e := ti_mul (a := w) (b := 8) (by rw [z]; omega) (by rw [z]; omega)
  rw [z] at e
  have e2 := ti_add (a := w * 8) (b := b) (by omega) (by omega)
  exact in_of (by omega) (by omega)
-- longs
theorem l_of (x : Int64) : ∃ n, n < 2 ^ 64 ∧ x = lN n := ⟨x.toBitVec.toNat, x.toBitVec.isLt, Int64.toBitVec_inj.mp (by show _ = BitVec.ofNat 64 _; simp)⟩
theorem l_lt {a b : Nat} (ha : a < 2 ^ 63) (hb : b < 2 ^ 63) : lN a < lN b ↔ a < b := by
  rw [Int64.lt_iff_toInt_lt]
  have h1 : (lN a).toInt = a := lg_ofNat_toInt ha
  have h2 : (lN b).toInt = b := lg_ofNat_toInt hb
  rw [h1, h2]; omega
theorem l_le {a b : Nat} (ha : a < 2 ^ 63) (hb : b < 2 ^ 63) : lN a ≤ lN b ↔ a ≤ b := by
  rw [Int64.le_iff_toInt_le]
  have h1 : (lN a).toInt = a := lg_ofNat_toInt ha
  have h2 : (lN b).toInt = b := lg_ofNat_toInt hb
  rw [h1, h2]; omega
theorem l_tn {n : Nat} (h : n < 2 ^ 64) : (lN n).toBitVec.toNat = n := by
  show (BitVec.ofNat 64 n).toNat = n
  rw [BitVec.toNat_ofNat, Nat.mod_eq_of_lt h]
theorem l_eq {a b : Nat} (ha : a < 2 ^ 64) (hb : b < 2 ^ 64) : lN a = lN b ↔ a = b := by
  refine ⟨fun h => ?_, fun h => by rw [h]⟩
  have := congrArg (fun x : Int64 => x.toBitVec.toNat) h
  simp only [l_tn ha, l_tn hb] at this
  exact this
theorem l_toInt {m : Nat} (h : m < 2 ^ 64) : (lN m).toInt = if m < 2 ^ 63 then (m : Int) else (m : Int) - 2 ^ 64 := by
  have e : (lN m).toInt = (lN m).toBitVec.toInt := rfl
  rw [e, BitVec.toInt_eq_toNat_cond, l_tn h]
  split <;> split <;> omega
theorem l_neg {a : Nat} (h : a < 2 ^ 64) : lN a < 0 ↔ 2 ^ 63 ≤ a := by
  rw [Int64.lt_iff_toInt_lt, l_toInt h]
  have : (0 : Int64).toInt = 0 := rfl
  rw [this]; split <;> omega
-- counters of loops
theorem fl_first {d : Int32} : ∃ j : Nat, (0 : Int32) = nI j ∧ j ≤ d.toNatClampNeg ∧ d.toNatClampNeg - j < d.toNatClampNeg + 1 := ⟨0, rfl, Nat.zero_le _, by omega⟩
theorem fl_zero {x d : Int32} (h : ∃ j : Nat, x = nI j ∧ j ≤ d.toNatClampNeg ∧ d.toNatClampNeg - j < 0) : False := by
  obtain ⟨j, _, _, h⟩ := h; omega
theorem fl_up {x d : Int32} {n : Nat} (h : ∃ j : Nat, x = nI j ∧ j ≤ d.toNatClampNeg ∧ d.toNatClampNeg - j < n + 1) (c : ¬ d ≤ x) : ∃ j : Nat, x + 1 = nI j ∧ j ≤ d.toNatClampNeg ∧ d.toNatClampNeg - j < n := by
  obtain ⟨j, h1, h2, h3⟩ := h
  have hd := Int32.toNatClampNeg_lt d
  have hj : (nI j).toInt = j := nI_toInt (by omega)
  rw [Int32.le_iff_toInt_le, h1, hj] at c
  have hc : (d.toNatClampNeg : Int) = d.toInt := by
    show ((d.toInt.toNat : Nat) : Int) = _
    omega
  exact ⟨j + 1, by rw [h1]; exact nI_1 j, by omega, by omega⟩
theorem fl_dn {x : Int32} {n : Nat} (h : x.toNatClampNeg < n + 1) (c : ¬ x ≤ 0) : (x + (-10)).toNatClampNeg < n := by
  rw [Int32.le_iff_toInt_le] at c
  have z : (0 : Int32).toInt = 0 := rfl
  have t : (-10 : Int32).toInt = -10 := rfl
  have hx := Int32.toInt_lt x
  have e := ti_add (a := x) (b := -10) (by omega) (by omega)
  have e1 : (x.toNatClampNeg : Int) = x.toInt := by
    show ((x.toInt.toNat : Nat) : Int) = _
    omega
  have e2 : ((x + (-10)).toNatClampNeg) = (x + (-10)).toInt.toNat := rfl
  omega
-- compares of longs that are not below 0
theorem c_lt {a b : Nat} (ha : a < 2 ^ 63) (hb : b < 2 ^ 63) : lg_cmp (lN a) (lN b) < 0 ↔ a < b := (lg_cmp_lt _ _).trans (l_lt ha hb)
theorem c_le {a b : Nat} (ha : a < 2 ^ 63) (hb : b < 2 ^ 63) : lg_cmp (lN a) (lN b) ≤ 0 ↔ a ≤ b := (lg_cmp_le _ _).trans (l_le ha hb)
theorem c_gt {a b : Nat} (ha : a < 2 ^ 63) (hb : b < 2 ^ 63) : 0 < lg_cmp (lN a) (lN b) ↔ b < a := (lg_cmp_gt _ _).trans (l_lt hb ha)
theorem c_ge {a b : Nat} (ha : a < 2 ^ 63) (hb : b < 2 ^ 63) : 0 ≤ lg_cmp (lN a) (lN b) ↔ b ≤ a := (lg_cmp_ge _ _).trans (l_le hb ha)
theorem c_eq {a b : Nat} (ha : a < 2 ^ 64) (hb : b < 2 ^ 64) : lg_cmp (lN a) (lN b) = 0 ↔ a = b := (lg_cmp_eq _ _).trans (l_eq ha hb)
-- shifts
theorem w_shl (n : Nat) {k : Nat} (hk : k < 64) : j_shl (lN n) (nI k) = lN (n * 2 ^ k) := wb_shl n hk
theorem w_ushr {n k : Nat} (hn : n < 2 ^ 64) (hk : k < 64) : j_ushr (lN n) (nI k) = lN (n / 2 ^ k) := wb_shr hn hk
theorem w_shr {n k : Nat} (hn : n < 2 ^ 63) (hk : k < 64) : j_shr (lN n) (nI k) = lN (n / 2 ^ k) := by
  have hd : n / 2 ^ k ≤ n := Nat.div_le_self _ _
  unfold j_shr; rw [wb_c k hk]
  apply Int64.toInt_inj.mp
  have hD : ((lN k).toBitVec.smod 64).toNat = k := by
    rw [wb_tb, wb_sm k hk, BitVec.toNat_ofNat, Nat.mod_eq_of_lt (by omega)]
  have e : (lN n >>> lN k).toInt = (lN n).toInt >>> ((lN k).toBitVec.smod 64).toNat := BitVec.toInt_sshiftRight ..
  have p1 : (lN n).toInt = (n : Int) := lg_ofNat_toInt hn
  have p2 : (lN (n / 2 ^ k)).toInt = ((n / 2 ^ k : Nat) : Int) := lg_ofNat_toInt (by omega)
  rw [e, hD, Int.shiftRight_eq_div_pow, p1, p2]
  rfl
theorem w_xor {a b : Nat} (ha : a < 2 ^ 64) (hb : b < 2 ^ 64) : lN a ^^^ lN b = lN (a ^^^ b) := by
  apply wb_inj
  rw [Int64.toBitVec_xor, wb_tb, wb_tb, wb_tb]
  apply BitVec.eq_of_toNat_eq
  rw [BitVec.toNat_xor, BitVec.toNat_ofNat, BitVec.toNat_ofNat, BitVec.toNat_ofNat, Nat.mod_eq_of_lt ha, Nat.mod_eq_of_lt hb, Nat.mod_eq_of_lt (Nat.xor_lt_two_pow ha hb)]
theorem w_neg {a : Nat} (h0 : 0 < a) (ha : a ≤ 2 ^ 64) : -lN a = lN (2 ^ 64 - a) := by
  apply wb_inj
  rw [Int64.toBitVec_neg, wb_tb, wb_tb]
  apply BitVec.eq_of_toNat_eq
  rw [BitVec.toNat_neg, BitVec.toNat_ofNat, BitVec.toNat_ofNat]
  rcases Nat.eq_or_lt_of_le ha with c | c
  · subst c; decide
  · rw [Nat.mod_eq_of_lt c]
-- a bit above and what is below it
theorem n_or {k a b : Nat} (ha : a < 2 ^ k) : b * 2 ^ k ||| a = b * 2 ^ k + a := by rw [← Nat.shiftLeft_eq, Nat.shiftLeft_add_eq_or_of_lt ha]
theorem n_and_hi {a : Nat} (h : a < 2 ^ 64) : a &&& 2 ^ 63 = a / 2 ^ 63 * 2 ^ 63 := by
  apply Nat.eq_of_testBit_eq
  intro i
  rw [Nat.testBit_and, Nat.testBit_two_pow, Nat.testBit_mul_two_pow, Nat.testBit_div_two_pow]
  rcases Nat.lt_trichotomy i 63 with c | c | c
  · simp [show ¬ 63 = i by omega, show ¬ 63 ≤ i by omega]
  · subst c; simp
  · have : a.testBit (i - 63 + 63) = false := Nat.testBit_lt_two_pow (Nat.lt_of_lt_of_le h (Nat.pow_le_pow_right (by decide) (by omega)))
    simp [show ¬ 63 = i by omega, this]
end
section
-- ===== MotionLab$Plane.isBody(I)Z
abbrev y_P_isBody_I : MethodName := ⟨"MotionLab$Plane", "isBody", "(I)Z"⟩
abbrev b_P_isBody_I : ByteArray := prog_3_method_2_code
theorem d_P_isBody_I_0 : decode b_P_isBody_I 0 = .ok (.iload_n 0, 1) := by decide +kernel
theorem d_P_isBody_I_1 : decode b_P_isBody_I 1 = .ok (.ifCond .lt 13, 3) := by decide +kernel
theorem d_P_isBody_I_4 : decode b_P_isBody_I 4 = .ok (.iload_n 0, 1) := by decide +kernel
theorem d_P_isBody_I_5 : decode b_P_isBody_I 5 = .ok (.bipush 8, 2) := by decide +kernel
theorem d_P_isBody_I_7 : decode b_P_isBody_I 7 = .ok (.if_icmp .ge 7, 3) := by decide +kernel
theorem d_P_isBody_I_10 : decode b_P_isBody_I 10 = .ok (.iconst 1, 1) := by decide +kernel
theorem d_P_isBody_I_11 : decode b_P_isBody_I 11 = .ok (.goto 4, 3) := by decide +kernel
theorem d_P_isBody_I_14 : decode b_P_isBody_I 14 = .ok (.iconst 0, 1) := by decide +kernel
theorem d_P_isBody_I_15 : decode b_P_isBody_I 15 = .ok (.ireturn, 1) := by decide +kernel
def f_P_isBody_I (x0 : Int32) : Int32 :=
  if x0 < 0 then
    (0 : Int32)
  else
    if (8 : Int32) ≤ x0 then
      (0 : Int32)
    else
      (1 : Int32)
set_option maxHeartbeats 4000000 in
set_option maxRecDepth 100000 in
theorem c_P_isBody_I (l : Launch) (h : Heap) (x0 : Int32) : Met l y_P_isBody_I (gw y_P_isBody_I b_P_isBody_I 1 (some .boolean)) { frames := 0, cells := 0, slots := 0, locals := 0 } (pu_Pc [.int x0] h) (pu_Mi (f_P_isBody_I x0) h) 0 0 (fun _ => False) := by
  refine Met.ofW (cc := b_P_isBody_I) (maxL := 1) (ret := (some .boolean)) (by decide) rfl ?_
  intro p e s m args below meth c s₁ B hml hv
  obtain ⟨rfl, hh⟩ := hv
  subst hh
  have hx := B.exec
  have hb := B.bytes
  have hr := B.returns
  have hts := atoms_spec (ws := (gw y_P_isBody_I b_P_isBody_I 1 (some .boolean))) B.pre
  have hown : s.vm.findClass "MotionLab$Plane" = some m.cls := findClass_of_methodNamed B.named
  have hlocks := B.notSynchronized
  have C0 : pu_C p s m _ meth c b_P_isBody_I 1 "MotionLab$Plane" (some .boolean) (gw y_P_isBody_I b_P_isBody_I 1 (some .boolean)) := ⟨hx, hb, hml, hown, hts, hr, hlocks⟩
  have hl := lv_entry ([.int x0]) (n := 1) (Nat.le_of_ble_eq_true rfl)
  rw [lg_entry_eq]
  generalize (lg_sl ([.int x0]) ++ List.replicate (1 - (lg_sl ([.int x0])).length) Slot.unset).toArray = ls at hl ⊢
  have hl : lv_has ls 1 [(0, .int x0)] := hl
  refine lv_iload_n hx hb d_P_isBody_I_0 rfl (lv_at hl 0 rfl) ?_
  refine lv_if_lt (tgt := 14) hx hb d_P_isBody_I_1 (by decide) (fun c1 => ?_) (fun c1 => ?_)
  · refine lv_iconst (v := 0) hx hb d_P_isBody_I_14 (by decide) ?_
    exact pu_zret hx hb hr rfl hlocks d_P_isBody_I_15 (by simp only [f_P_isBody_I, if_pos c1])
  · refine lv_iload_n hx hb d_P_isBody_I_4 rfl (lv_at hl 0 rfl) ?_
    refine lv_bipush (v := (8 : Int32)) hx hb d_P_isBody_I_5 (by decide) ?_
    refine lv_icmp_ge (tgt := 14) hx hb d_P_isBody_I_7 (by decide) (fun c2 => ?_) (fun c2 => ?_)
    · refine lv_iconst (v := 0) hx hb d_P_isBody_I_14 (by decide) ?_
      exact pu_zret hx hb hr rfl hlocks d_P_isBody_I_15 (by simp only [f_P_isBody_I, if_neg c1, if_pos c2])
    · refine lv_iconst (v := 1) hx hb d_P_isBody_I_10 (by decide) ?_
      refine lv_goto (tgt := 15) hx hb d_P_isBody_I_11 (by decide) ?_
      exact pu_zret hx hb hr rfl hlocks d_P_isBody_I_15 (by simp only [f_P_isBody_I, if_neg c1, if_neg c2])
-- ===== MotionLab$Plane.isBodyNumber(I)Z
abbrev y_P_isBodyNumber_I : MethodName := ⟨"MotionLab$Plane", "isBodyNumber", "(I)Z"⟩
abbrev b_P_isBodyNumber_I : ByteArray := prog_3_method_3_code
theorem d_P_isBodyNumber_I_0 : decode b_P_isBodyNumber_I 0 = .ok (.iload_n 0, 1) := by decide +kernel
theorem d_P_isBodyNumber_I_1 : decode b_P_isBodyNumber_I 1 = .ok (.ifCond .lt 13, 3) := by decide +kernel
theorem d_P_isBodyNumber_I_4 : decode b_P_isBodyNumber_I 4 = .ok (.iload_n 0, 1) := by decide +kernel
theorem d_P_isBodyNumber_I_5 : decode b_P_isBodyNumber_I 5 = .ok (.bipush 6, 2) := by decide +kernel
theorem d_P_isBodyNumber_I_7 : decode b_P_isBodyNumber_I 7 = .ok (.if_icmp .ge 7, 3) := by decide +kernel
theorem d_P_isBodyNumber_I_10 : decode b_P_isBodyNumber_I 10 = .ok (.iconst 1, 1) := by decide +kernel
theorem d_P_isBodyNumber_I_11 : decode b_P_isBodyNumber_I 11 = .ok (.goto 4, 3) := by decide +kernel
theorem d_P_isBodyNumber_I_14 : decode b_P_isBodyNumber_I 14 = .ok (.iconst 0, 1) := by decide +kernel
theorem d_P_isBodyNumber_I_15 : decode b_P_isBodyNumber_I 15 = .ok (.ireturn, 1) := by decide +kernel
def f_P_isBodyNumber_I (x0 : Int32) : Int32 :=
  if x0 < 0 then
    (0 : Int32)
  else
    if (6 : Int32) ≤ x0 then
      (0 : Int32)
    else
      (1 : Int32)
set_option maxHeartbeats 4000000 in
set_option maxRecDepth 100000 in
theorem c_P_isBodyNumber_I (l : Launch) (h : Heap) (x0 : Int32) : Met l y_P_isBodyNumber_I (gw y_P_isBodyNumber_I b_P_isBodyNumber_I 1 (some .boolean)) { frames := 0, cells := 0, slots := 0, locals := 0 } (pu_Pc [.int x0] h) (pu_Mi (f_P_isBodyNumber_I x0) h) 0 0 (fun _ => False) := by
  refine Met.ofW (cc := b_P_isBodyNumber_I) (maxL := 1) (ret := (some .boolean)) (by decide) rfl ?_
  intro p e s m args below meth c s₁ B hml hv
  obtain ⟨rfl, hh⟩ := hv
  subst hh
  have hx := B.exec
  have hb := B.bytes
  have hr := B.returns
  have hts := atoms_spec (ws := (gw y_P_isBodyNumber_I b_P_isBodyNumber_I 1 (some .boolean))) B.pre
  have hown : s.vm.findClass "MotionLab$Plane" = some m.cls := findClass_of_methodNamed B.named
  have hlocks := B.notSynchronized
  have C0 : pu_C p s m _ meth c b_P_isBodyNumber_I 1 "MotionLab$Plane" (some .boolean) (gw y_P_isBodyNumber_I b_P_isBodyNumber_I 1 (some .boolean)) := ⟨hx, hb, hml, hown, hts, hr, hlocks⟩
  have hl := lv_entry ([.int x0]) (n := 1) (Nat.le_of_ble_eq_true rfl)
  rw [lg_entry_eq]
  generalize (lg_sl ([.int x0]) ++ List.replicate (1 - (lg_sl ([.int x0])).length) Slot.unset).toArray = ls at hl ⊢
  have hl : lv_has ls 1 [(0, .int x0)] := hl
  refine lv_iload_n hx hb d_P_isBodyNumber_I_0 rfl (lv_at hl 0 rfl) ?_
  refine lv_if_lt (tgt := 14) hx hb d_P_isBodyNumber_I_1 (by decide) (fun c1 => ?_) (fun c1 => ?_)
  · refine lv_iconst (v := 0) hx hb d_P_isBodyNumber_I_14 (by decide) ?_
    exact pu_zret hx hb hr rfl hlocks d_P_isBodyNumber_I_15 (by simp only [f_P_isBodyNumber_I, if_pos c1])
  · refine lv_iload_n hx hb d_P_isBodyNumber_I_4 rfl (lv_at hl 0 rfl) ?_
    refine lv_bipush (v := (6 : Int32)) hx hb d_P_isBodyNumber_I_5 (by decide) ?_
    refine lv_icmp_ge (tgt := 14) hx hb d_P_isBodyNumber_I_7 (by decide) (fun c2 => ?_) (fun c2 => ?_)
    · refine lv_iconst (v := 0) hx hb d_P_isBodyNumber_I_14 (by decide) ?_
      exact pu_zret hx hb hr rfl hlocks d_P_isBodyNumber_I_15 (by simp only [f_P_isBodyNumber_I, if_neg c1, if_pos c2])
    · refine lv_iconst (v := 1) hx hb d_P_isBodyNumber_I_10 (by decide) ?_
      refine lv_goto (tgt := 15) hx hb d_P_isBodyNumber_I_11 (by decide) ?_
      exact pu_zret hx hb hr rfl hlocks d_P_isBodyNumber_I_15 (by simp only [f_P_isBodyNumber_I, if_neg c1, if_neg c2])
-- ===== MotionLab$Ieee.isFinite(J)Z
abbrev y_I_isFinite_J : MethodName := ⟨"MotionLab$Ieee", "isFinite", "(J)Z"⟩
abbrev b_I_isFinite_J : ByteArray := prog_2_method_5_code
theorem d_I_isFinite_J_0 : decode b_I_isFinite_J 0 = .ok (.lload_n 0, 1) := by decide +kernel
theorem d_I_isFinite_J_1 : decode b_I_isFinite_J 1 = .ok (.ldc2_w 9, 3) := by decide +kernel
theorem d_I_isFinite_J_4 : decode b_I_isFinite_J 4 = .ok (.land, 1) := by decide +kernel
theorem d_I_isFinite_J_5 : decode b_I_isFinite_J 5 = .ok (.ldc2_w 11, 3) := by decide +kernel
theorem d_I_isFinite_J_8 : decode b_I_isFinite_J 8 = .ok (.lcmp, 1) := by decide +kernel
theorem d_I_isFinite_J_9 : decode b_I_isFinite_J 9 = .ok (.ifCond .ge 7, 3) := by decide +kernel
theorem d_I_isFinite_J_12 : decode b_I_isFinite_J 12 = .ok (.iconst 1, 1) := by decide +kernel
theorem d_I_isFinite_J_13 : decode b_I_isFinite_J 13 = .ok (.goto 4, 3) := by decide +kernel
theorem d_I_isFinite_J_16 : decode b_I_isFinite_J 16 = .ok (.iconst 0, 1) := by decide +kernel
theorem d_I_isFinite_J_17 : decode b_I_isFinite_J 17 = .ok (.ireturn, 1) := by decide +kernel
def f_I_isFinite_J (x0 : Int64) : Int32 :=
  if 0 ≤ (lg_cmp (x0 &&& (9223372036854775807 : Int64)) (9218868437227405312 : Int64)) then
    (0 : Int32)
  else
    (1 : Int32)
set_option maxHeartbeats 4000000 in
set_option maxRecDepth 100000 in
theorem c_I_isFinite_J (l : Launch) (h : Heap) (x0 : Int64) : Met l y_I_isFinite_J (gw y_I_isFinite_J b_I_isFinite_J 2 (some .boolean)) { frames := 0, cells := 0, slots := 0, locals := 0 } (pu_Pc [.long x0] h) (pu_Mi (f_I_isFinite_J x0) h) 0 0 (fun _ => False) := by
  refine Met.ofW (cc := b_I_isFinite_J) (maxL := 2) (ret := (some .boolean)) (by decide) rfl ?_
  intro p e s m args below meth c s₁ B hml hv
  obtain ⟨rfl, hh⟩ := hv
  subst hh
  have hx := B.exec
  have hb := B.bytes
  have hr := B.returns
  have hts := atoms_spec (ws := (gw y_I_isFinite_J b_I_isFinite_J 2 (some .boolean))) B.pre
  have hown : s.vm.findClass "MotionLab$Ieee" = some m.cls := findClass_of_methodNamed B.named
  have hlocks := B.notSynchronized
  have C0 : pu_C p s m _ meth c b_I_isFinite_J 2 "MotionLab$Ieee" (some .boolean) (gw y_I_isFinite_J b_I_isFinite_J 2 (some .boolean)) := ⟨hx, hb, hml, hown, hts, hr, hlocks⟩
  have hl := lv_entry ([.long x0]) (n := 2) (Nat.le_of_ble_eq_true rfl)
  rw [lg_entry_eq]
  generalize (lg_sl ([.long x0]) ++ List.replicate (2 - (lg_sl ([.long x0])).length) Slot.unset).toArray = ls at hl ⊢
  have hl : lv_has ls 2 [(0, .long x0)] := hl
  refine lv_lload_n hx hb d_I_isFinite_J_0 rfl (lv_at hl 0 rfl) ?_
  refine lv_ldc2 (v := (9223372036854775807 : Int64)) hx hb hown (hts _ (gm tw_84)) d_I_isFinite_J_1 ?_
  refine lv_land hx hb d_I_isFinite_J_4 ?_
  refine lv_ldc2 (v := (9218868437227405312 : Int64)) hx hb hown (hts _ (gm tw_85)) d_I_isFinite_J_5 ?_
  refine W.lcmp hx hb d_I_isFinite_J_8 ?_
  refine lv_if_ge (tgt := 16) hx hb d_I_isFinite_J_9 (by decide) (fun c1 => ?_) (fun c1 => ?_)
  · refine lv_iconst (v := 0) hx hb d_I_isFinite_J_16 (by decide) ?_
    exact pu_zret hx hb hr rfl hlocks d_I_isFinite_J_17 (by simp only [f_I_isFinite_J, if_pos c1])
  · refine lv_iconst (v := 1) hx hb d_I_isFinite_J_12 (by decide) ?_
    refine lv_goto (tgt := 17) hx hb d_I_isFinite_J_13 (by decide) ?_
    exact pu_zret hx hb hr rfl hlocks d_I_isFinite_J_17 (by simp only [f_I_isFinite_J, if_neg c1])
-- ===== MotionLab$Ieee.isNoNumber(J)Z
abbrev y_I_isNoNumber_J : MethodName := ⟨"MotionLab$Ieee", "isNoNumber", "(J)Z"⟩
abbrev b_I_isNoNumber_J : ByteArray := prog_2_method_2_code
theorem d_I_isNoNumber_J_0 : decode b_I_isNoNumber_J 0 = .ok (.lload_n 0, 1) := by decide +kernel
theorem d_I_isNoNumber_J_1 : decode b_I_isNoNumber_J 1 = .ok (.ldc2_w 9, 3) := by decide +kernel
theorem d_I_isNoNumber_J_4 : decode b_I_isNoNumber_J 4 = .ok (.land, 1) := by decide +kernel
theorem d_I_isNoNumber_J_5 : decode b_I_isNoNumber_J 5 = .ok (.ldc2_w 11, 3) := by decide +kernel
theorem d_I_isNoNumber_J_8 : decode b_I_isNoNumber_J 8 = .ok (.lcmp, 1) := by decide +kernel
theorem d_I_isNoNumber_J_9 : decode b_I_isNoNumber_J 9 = .ok (.ifCond .le 7, 3) := by decide +kernel
theorem d_I_isNoNumber_J_12 : decode b_I_isNoNumber_J 12 = .ok (.iconst 1, 1) := by decide +kernel
theorem d_I_isNoNumber_J_13 : decode b_I_isNoNumber_J 13 = .ok (.goto 4, 3) := by decide +kernel
theorem d_I_isNoNumber_J_16 : decode b_I_isNoNumber_J 16 = .ok (.iconst 0, 1) := by decide +kernel
theorem d_I_isNoNumber_J_17 : decode b_I_isNoNumber_J 17 = .ok (.ireturn, 1) := by decide +kernel
def f_I_isNoNumber_J (x0 : Int64) : Int32 :=
  if (lg_cmp (x0 &&& (9223372036854775807 : Int64)) (9218868437227405312 : Int64)) ≤ 0 then
    (0 : Int32)
  else
    (1 : Int32)
set_option maxHeartbeats 4000000 in
set_option maxRecDepth 100000 in
theorem c_I_isNoNumber_J (l : Launch) (h : Heap) (x0 : Int64) : Met l y_I_isNoNumber_J (gw y_I_isNoNumber_J b_I_isNoNumber_J 2 (some .boolean)) { frames := 0, cells := 0, slots := 0, locals := 0 } (pu_Pc [.long x0] h) (pu_Mi (f_I_isNoNumber_J x0) h) 0 0 (fun _ => False) := by
  refine Met.ofW (cc := b_I_isNoNumber_J) (maxL := 2) (ret := (some .boolean)) (by decide) rfl ?_
  intro p e s m args below meth c s₁ B hml hv
  obtain ⟨rfl, hh⟩ := hv
  subst hh
  have hx := B.exec
  have hb := B.bytes
  have hr := B.returns
  have hts := atoms_spec (ws := (gw y_I_isNoNumber_J b_I_isNoNumber_J 2 (some .boolean))) B.pre
  have hown : s.vm.findClass "MotionLab$Ieee" = some m.cls := findClass_of_methodNamed B.named
  have hlocks := B.notSynchronized
  have C0 : pu_C p s m _ meth c b_I_isNoNumber_J 2 "MotionLab$Ieee" (some .boolean) (gw y_I_isNoNumber_J b_I_isNoNumber_J 2 (some .boolean)) := ⟨hx, hb, hml, hown, hts, hr, hlocks⟩
  have hl := lv_entry ([.long x0]) (n := 2) (Nat.le_of_ble_eq_true rfl)
  rw [lg_entry_eq]
  generalize (lg_sl ([.long x0]) ++ List.replicate (2 - (lg_sl ([.long x0])).length) Slot.unset).toArray = ls at hl ⊢
  have hl : lv_has ls 2 [(0, .long x0)] := hl
  refine lv_lload_n hx hb d_I_isNoNumber_J_0 rfl (lv_at hl 0 rfl) ?_
  refine lv_ldc2 (v := (9223372036854775807 : Int64)) hx hb hown (hts _ (gm tw_84)) d_I_isNoNumber_J_1 ?_
  refine lv_land hx hb d_I_isNoNumber_J_4 ?_
  refine lv_ldc2 (v := (9218868437227405312 : Int64)) hx hb hown (hts _ (gm tw_85)) d_I_isNoNumber_J_5 ?_
  refine W.lcmp hx hb d_I_isNoNumber_J_8 ?_
  refine lv_if_le (tgt := 16) hx hb d_I_isNoNumber_J_9 (by decide) (fun c1 => ?_) (fun c1 => ?_)
  · refine lv_iconst (v := 0) hx hb d_I_isNoNumber_J_16 (by decide) ?_
    exact pu_zret hx hb hr rfl hlocks d_I_isNoNumber_J_17 (by simp only [f_I_isNoNumber_J, if_pos c1])
  · refine lv_iconst (v := 1) hx hb d_I_isNoNumber_J_12 (by decide) ?_
    refine lv_goto (tgt := 17) hx hb d_I_isNoNumber_J_13 (by decide) ?_
    exact pu_zret hx hb hr rfl hlocks d_I_isNoNumber_J_17 (by simp only [f_I_isNoNumber_J, if_neg c1])
-- ===== MotionLab$Ieee.told(J)J
abbrev y_I_told_J : MethodName := ⟨"MotionLab$Ieee", "told", "(J)J"⟩
abbrev b_I_told_J : ByteArray := prog_2_method_6_code
theorem d_I_told_J_0 : decode b_I_told_J 0 = .ok (.lload_n 0, 1) := by decide +kernel
theorem d_I_told_J_1 : decode b_I_told_J 1 = .ok (.invokestatic 13, 3) := by decide +kernel
theorem d_I_told_J_4 : decode b_I_told_J 4 = .ok (.ifCond .eq 9, 3) := by decide +kernel
theorem d_I_told_J_7 : decode b_I_told_J 7 = .ok (.ldc2_w 17, 3) := by decide +kernel
theorem d_I_told_J_10 : decode b_I_told_J 10 = .ok (.goto 4, 3) := by decide +kernel
theorem d_I_told_J_13 : decode b_I_told_J 13 = .ok (.lload_n 0, 1) := by decide +kernel
theorem d_I_told_J_14 : decode b_I_told_J 14 = .ok (.lreturn, 1) := by decide +kernel
def f_I_told_J (x0 : Int64) : Int64 :=
  if (f_I_isNoNumber_J x0) = 0 then
    x0
  else
    (9221120237041090560 : Int64)
set_option maxHeartbeats 4000000 in
set_option maxRecDepth 100000 in
theorem c_I_told_J (l : Launch) (h : Heap) (x0 : Int64) : Met l y_I_told_J (gw y_I_told_J b_I_told_J 2 (some .long)) { frames := 1, cells := 0, slots := 0, locals := 21 } (pu_Pc [.long x0] h) (pu_Ml (f_I_told_J x0) h) 0 0 (fun _ => False) := by
  refine Met.ofW (cc := b_I_told_J) (maxL := 2) (ret := (some .long)) (by decide) rfl ?_
  intro p e s m args below meth c s₁ B hml hv
  obtain ⟨rfl, hh⟩ := hv
  subst hh
  have hx := B.exec
  have hb := B.bytes
  have hr := B.returns
  have hts := atoms_spec (ws := (gw y_I_told_J b_I_told_J 2 (some .long))) B.pre
  have hown : s.vm.findClass "MotionLab$Ieee" = some m.cls := findClass_of_methodNamed B.named
  have hlocks := B.notSynchronized
  have C0 : pu_C p s m _ meth c b_I_told_J 2 "MotionLab$Ieee" (some .long) (gw y_I_told_J b_I_told_J 2 (some .long)) := ⟨hx, hb, hml, hown, hts, hr, hlocks⟩
  have hl := lv_entry ([.long x0]) (n := 2) (Nat.le_of_ble_eq_true rfl)
  rw [lg_entry_eq]
  generalize (lg_sl ([.long x0]) ++ List.replicate (2 - (lg_sl ([.long x0])).length) Slot.unset).toArray = ls at hl ⊢
  have hl : lv_has ls 2 [(0, .long x0)] := hl
  refine lv_lload_n hx hb d_I_told_J_0 rfl (lv_at hl 0 rfl) ?_
  refine pu_i (As := [.long x0]) (rest := []) ⟨hx, hb, hml, hown, hts⟩ (c_I_isNoNumber_J l _ x0) pu_pre (gw_call (k := 1) hts tw_89 tw_90 tw_5 tw_91 (by decide +kernel) rfl rfl ⟨Nat.le_of_ble_eq_true rfl, Nat.le_of_ble_eq_true rfl⟩) rfl hl.1 rfl (Nat.le_of_ble_eq_true rfl) ⟨Nat.zero_le _, Nat.zero_le _⟩ d_I_told_J_1 ?_
  refine lv_if_eq (tgt := 13) hx hb d_I_told_J_4 (by decide) (fun c1 => ?_) (fun c1 => ?_)
  · refine lv_lload_n hx hb d_I_told_J_13 rfl (lv_at hl 0 rfl) ?_
    exact pu_lret hx hb hr hlocks d_I_told_J_14 (by simp only [f_I_told_J, if_pos c1])
  · refine lv_ldc2 (v := (9221120237041090560 : Int64)) hx hb hown (hts _ (gm tw_92)) d_I_told_J_7 ?_
    refine lv_goto (tgt := 14) hx hb d_I_told_J_10 (by decide) ?_
    exact pu_lret hx hb hr hlocks d_I_told_J_14 (by simp only [f_I_told_J, if_neg c1])
-- ===== java/lang/Math.max(II)I
abbrev y_jM_max_II : MethodName := ⟨"java/lang/Math", "max", "(II)I"⟩
abbrev b_jM_max_II : ByteArray := prog_9_method_65_code
theorem d_jM_max_II_0 : decode b_jM_max_II 0 = .ok (.iload_n 0, 1) := by decide +kernel
theorem d_jM_max_II_1 : decode b_jM_max_II 1 = .ok (.iload_n 1, 1) := by decide +kernel
theorem d_jM_max_II_2 : decode b_jM_max_II 2 = .ok (.if_icmp .lt 7, 3) := by decide +kernel
theorem d_jM_max_II_5 : decode b_jM_max_II 5 = .ok (.iload_n 0, 1) := by decide +kernel
theorem d_jM_max_II_6 : decode b_jM_max_II 6 = .ok (.goto 4, 3) := by decide +kernel
theorem d_jM_max_II_9 : decode b_jM_max_II 9 = .ok (.iload_n 1, 1) := by decide +kernel
theorem d_jM_max_II_10 : decode b_jM_max_II 10 = .ok (.ireturn, 1) := by decide +kernel
def f_jM_max_II (x0 : Int32) (x1 : Int32) : Int32 :=
  if x0 < x1 then
    x1
  else
    x0
set_option maxHeartbeats 4000000 in
set_option maxRecDepth 100000 in
theorem c_jM_max_II (l : Launch) (h : Heap) (x0 : Int32) (x1 : Int32) : Met l y_jM_max_II (gw y_jM_max_II b_jM_max_II 2 (some .int)) { frames := 0, cells := 0, slots := 0, locals := 0 } (pu_Pc [.int x0, .int x1] h) (pu_Mi (f_jM_max_II x0 x1) h) 0 0 (fun _ => False) := by
  refine va_MetF (cc := b_jM_max_II) (maxL := 2) (ret := (some .int)) (by decide +kernel) rfl ?_
  intro p e s m args below meth c s₁ B hml hv
  obtain ⟨rfl, hh⟩ := hv
  subst hh
  have hx := B.exec
  have hb := B.bytes
  have hr := B.returns
  have hts := atoms_spec (ws := (gw y_jM_max_II b_jM_max_II 2 (some .int))) B.pre
  have hown : s.vm.findClass "java/lang/Math" = some m.cls := findClass_of_methodNamed B.named
  have hlocks := B.notSynchronized
  have C0 : pu_C p s m _ meth c b_jM_max_II 2 "java/lang/Math" (some .int) (gw y_jM_max_II b_jM_max_II 2 (some .int)) := ⟨hx, hb, hml, hown, hts, hr, hlocks⟩
  have hl := lv_entry ([.int x0, .int x1]) (n := 2) (Nat.le_of_ble_eq_true rfl)
  rw [lg_entry_eq]
  generalize (lg_sl ([.int x0, .int x1]) ++ List.replicate (2 - (lg_sl ([.int x0, .int x1])).length) Slot.unset).toArray = ls at hl ⊢
  have hl : lv_has ls 2 [(0, .int x0), (1, .int x1)] := hl
  refine lv_iload_n hx hb d_jM_max_II_0 rfl (lv_at hl 0 rfl) ?_
  refine lv_iload_n hx hb d_jM_max_II_1 rfl (lv_at hl 1 rfl) ?_
  refine lv_icmp_lt (tgt := 9) hx hb d_jM_max_II_2 (by decide) (fun c1 => ?_) (fun c1 => ?_)
  · refine lv_iload_n hx hb d_jM_max_II_9 rfl (lv_at hl 1 rfl) ?_
    exact pu_iret hx hb hr hlocks d_jM_max_II_10 (by simp only [f_jM_max_II, if_pos c1])
  · refine lv_iload_n hx hb d_jM_max_II_5 rfl (lv_at hl 0 rfl) ?_
    refine lv_goto (tgt := 10) hx hb d_jM_max_II_6 (by decide) ?_
    exact pu_iret hx hb hr hlocks d_jM_max_II_10 (by simp only [f_jM_max_II, if_neg c1])
-- ===== MotionLab$Ieee.power(J)I
abbrev y_I_power_J : MethodName := ⟨"MotionLab$Ieee", "power", "(J)I"⟩
abbrev b_I_power_J : ByteArray := prog_2_method_31_code
theorem d_I_power_J_0 : decode b_I_power_J 0 = .ok (.lload_n 0, 1) := by decide +kernel
theorem d_I_power_J_1 : decode b_I_power_J 1 = .ok (.ldc2_w 11, 3) := by decide +kernel
theorem d_I_power_J_4 : decode b_I_power_J 4 = .ok (.land, 1) := by decide +kernel
theorem d_I_power_J_5 : decode b_I_power_J 5 = .ok (.bipush 52, 2) := by decide +kernel
theorem d_I_power_J_7 : decode b_I_power_J 7 = .ok (.lushr, 1) := by decide +kernel
theorem d_I_power_J_8 : decode b_I_power_J 8 = .ok (.l2i, 1) := by decide +kernel
theorem d_I_power_J_9 : decode b_I_power_J 9 = .ok (.istore_n 2, 1) := by decide +kernel
theorem d_I_power_J_10 : decode b_I_power_J 10 = .ok (.iload_n 2, 1) := by decide +kernel
theorem d_I_power_J_11 : decode b_I_power_J 11 = .ok (.iconst 1, 1) := by decide +kernel
theorem d_I_power_J_12 : decode b_I_power_J 12 = .ok (.invokestatic 124, 3) := by decide +kernel
theorem d_I_power_J_15 : decode b_I_power_J 15 = .ok (.iconst 1, 1) := by decide +kernel
theorem d_I_power_J_16 : decode b_I_power_J 16 = .ok (.isub, 1) := by decide +kernel
theorem d_I_power_J_17 : decode b_I_power_J 17 = .ok (.sipush (-1074), 3) := by decide +kernel
theorem d_I_power_J_20 : decode b_I_power_J 20 = .ok (.iadd, 1) := by decide +kernel
theorem d_I_power_J_21 : decode b_I_power_J 21 = .ok (.ireturn, 1) := by decide +kernel
def f_I_power_J (x0 : Int64) : Int32 :=
  let v1 : Int32 := (j_ushr (x0 &&& (9218868437227405312 : Int64)) (52 : Int32)).toInt32
  ((f_jM_max_II v1 (1 : Int32)) - (1 : Int32)) + (-1074 : Int32)
set_option maxHeartbeats 4000000 in
set_option maxRecDepth 100000 in
theorem c_I_power_J (l : Launch) (h : Heap) (x0 : Int64) : Met l y_I_power_J (gw y_I_power_J b_I_power_J 3 (some .int)) { frames := 1, cells := 0, slots := 0, locals := 21 } (pu_Pc [.long x0] h) (pu_Mi (f_I_power_J x0) h) 0 0 (fun _ => False) := by
  refine Met.ofW (cc := b_I_power_J) (maxL := 3) (ret := (some .int)) (by decide) rfl ?_
  intro p e s m args below meth c s₁ B hml hv
  obtain ⟨rfl, hh⟩ := hv
  subst hh
  have hx := B.exec
  have hb := B.bytes
  have hr := B.returns
  have hts := atoms_spec (ws := (gw y_I_power_J b_I_power_J 3 (some .int))) B.pre
  have hown : s.vm.findClass "MotionLab$Ieee" = some m.cls := findClass_of_methodNamed B.named
  have hlocks := B.notSynchronized
  have C0 : pu_C p s m _ meth c b_I_power_J 3 "MotionLab$Ieee" (some .int) (gw y_I_power_J b_I_power_J 3 (some .int)) := ⟨hx, hb, hml, hown, hts, hr, hlocks⟩
  have hl := lv_entry ([.long x0]) (n := 3) (Nat.le_of_ble_eq_true rfl)
  rw [lg_entry_eq]
  generalize (lg_sl ([.long x0]) ++ List.replicate (3 - (lg_sl ([.long x0])).length) Slot.unset).toArray = ls at hl ⊢
  have hl : lv_has ls 3 [(0, .long x0)] := hl
  refine lv_lload_n hx hb d_I_power_J_0 rfl (lv_at hl 0 rfl) ?_
  refine lv_ldc2 (v := (9218868437227405312 : Int64)) hx hb hown (hts _ (gm tw_85)) d_I_power_J_1 ?_
  refine lv_land hx hb d_I_power_J_4 ?_
  refine lv_bipush (v := (52 : Int32)) hx hb d_I_power_J_5 (by decide) ?_
  refine lv_lushr (v := j_ushr (x0 &&& (9218868437227405312 : Int64)) (52 : Int32)) hx hb d_I_power_J_7 rfl ?_
  refine lv_l2i hx hb d_I_power_J_8 rfl ?_
  refine lv_topi (fun v1 e1 => ?_)
  refine lv_istore_n (lv' := [(2, .int v1), (0, .long x0)]) hx hb d_I_power_J_9 rfl hl (by decide) rfl (fun ls hl => ?_)
  refine lv_iload_n hx hb d_I_power_J_10 rfl (lv_at hl 0 rfl) ?_
  refine lv_iconst (v := 1) hx hb d_I_power_J_11 (by decide) ?_
  refine pu_i (As := [.int v1, .int (1 : Int32)]) (rest := []) ⟨hx, hb, hml, hown, hts⟩ (c_jM_max_II l _ v1 (1 : Int32)) pu_pre (gw_call (k := 2) hts tw_97 tw_98 tw_6 tw_99 (by decide +kernel) rfl rfl ⟨Nat.le_of_ble_eq_true rfl, Nat.le_of_ble_eq_true rfl⟩) rfl hl.1 rfl (Nat.le_of_ble_eq_true rfl) ⟨Nat.zero_le _, Nat.zero_le _⟩ d_I_power_J_12 ?_
  refine lv_iconst (v := 1) hx hb d_I_power_J_15 (by decide) ?_
  refine lv_isub hx hb d_I_power_J_16 ?_
  refine lv_sipush (v := (-1074 : Int32)) hx hb d_I_power_J_17 (by decide) ?_
  refine lv_iadd hx hb d_I_power_J_20 ?_
  exact pu_iret hx hb hr hlocks d_I_power_J_21 (by subst e1; rfl)
-- ===== MotionLab$Ieee.significand(J)J
abbrev y_I_significand_J : MethodName := ⟨"MotionLab$Ieee", "significand", "(J)J"⟩
abbrev b_I_significand_J : ByteArray := prog_2_method_30_code
theorem d_I_significand_J_0 : decode b_I_significand_J 0 = .ok (.lload_n 0, 1) := by decide +kernel
theorem d_I_significand_J_1 : decode b_I_significand_J 1 = .ok (.ldc2_w 120, 3) := by decide +kernel
theorem d_I_significand_J_4 : decode b_I_significand_J 4 = .ok (.land, 1) := by decide +kernel
theorem d_I_significand_J_5 : decode b_I_significand_J 5 = .ok (.lstore_n 2, 1) := by decide +kernel
theorem d_I_significand_J_6 : decode b_I_significand_J 6 = .ok (.lload_n 0, 1) := by decide +kernel
theorem d_I_significand_J_7 : decode b_I_significand_J 7 = .ok (.ldc2_w 11, 3) := by decide +kernel
theorem d_I_significand_J_10 : decode b_I_significand_J 10 = .ok (.land, 1) := by decide +kernel
theorem d_I_significand_J_11 : decode b_I_significand_J 11 = .ok (.lconst 0, 1) := by decide +kernel
theorem d_I_significand_J_12 : decode b_I_significand_J 12 = .ok (.lcmp, 1) := by decide +kernel
theorem d_I_significand_J_13 : decode b_I_significand_J 13 = .ok (.ifCond .ne 7, 3) := by decide +kernel
theorem d_I_significand_J_16 : decode b_I_significand_J 16 = .ok (.lload_n 2, 1) := by decide +kernel
theorem d_I_significand_J_17 : decode b_I_significand_J 17 = .ok (.goto 8, 3) := by decide +kernel
theorem d_I_significand_J_20 : decode b_I_significand_J 20 = .ok (.lload_n 2, 1) := by decide +kernel
theorem d_I_significand_J_21 : decode b_I_significand_J 21 = .ok (.ldc2_w 122, 3) := by decide +kernel
theorem d_I_significand_J_24 : decode b_I_significand_J 24 = .ok (.lor, 1) := by decide +kernel
theorem d_I_significand_J_25 : decode b_I_significand_J 25 = .ok (.lreturn, 1) := by decide +kernel
def f_I_significand_J (x0 : Int64) : Int64 :=
  let v1 : Int64 := x0 &&& (4503599627370495 : Int64)
  if (lg_cmp (x0 &&& (9218868437227405312 : Int64)) (0 : Int64)) = 0 then
    v1
  else
    v1 ||| (4503599627370496 : Int64)
set_option maxHeartbeats 4000000 in
set_option maxRecDepth 100000 in
theorem c_I_significand_J (l : Launch) (h : Heap) (x0 : Int64) : Met l y_I_significand_J (gw y_I_significand_J b_I_significand_J 4 (some .long)) { frames := 0, cells := 0, slots := 0, locals := 0 } (pu_Pc [.long x0] h) (pu_Ml (f_I_significand_J x0) h) 0 0 (fun _ => False) := by
  refine Met.ofW (cc := b_I_significand_J) (maxL := 4) (ret := (some .long)) (by decide) rfl ?_
  intro p e s m args below meth c s₁ B hml hv
  obtain ⟨rfl, hh⟩ := hv
  subst hh
  have hx := B.exec
  have hb := B.bytes
  have hr := B.returns
  have hts := atoms_spec (ws := (gw y_I_significand_J b_I_significand_J 4 (some .long))) B.pre
  have hown : s.vm.findClass "MotionLab$Ieee" = some m.cls := findClass_of_methodNamed B.named
  have hlocks := B.notSynchronized
  have C0 : pu_C p s m _ meth c b_I_significand_J 4 "MotionLab$Ieee" (some .long) (gw y_I_significand_J b_I_significand_J 4 (some .long)) := ⟨hx, hb, hml, hown, hts, hr, hlocks⟩
  have hl := lv_entry ([.long x0]) (n := 4) (Nat.le_of_ble_eq_true rfl)
  rw [lg_entry_eq]
  generalize (lg_sl ([.long x0]) ++ List.replicate (4 - (lg_sl ([.long x0])).length) Slot.unset).toArray = ls at hl ⊢
  have hl : lv_has ls 4 [(0, .long x0)] := hl
  refine lv_lload_n hx hb d_I_significand_J_0 rfl (lv_at hl 0 rfl) ?_
  refine lv_ldc2 (v := (4503599627370495 : Int64)) hx hb hown (hts _ (gm tw_103)) d_I_significand_J_1 ?_
  refine lv_land hx hb d_I_significand_J_4 ?_
  refine lv_topl (fun v1 e1 => ?_)
  refine lv_lstore_n (lv' := [(2, .long v1), (0, .long x0)]) hx hb d_I_significand_J_5 rfl hl (by decide) rfl (fun ls hl => ?_)
  refine lv_lload_n hx hb d_I_significand_J_6 rfl (lv_at hl 1 rfl) ?_
  refine lv_ldc2 (v := (9218868437227405312 : Int64)) hx hb hown (hts _ (gm tw_85)) d_I_significand_J_7 ?_
  refine lv_land hx hb d_I_significand_J_10 ?_
  refine lv_lconst (v := (0 : Int64)) hx hb d_I_significand_J_11 (by decide) ?_
  refine W.lcmp hx hb d_I_significand_J_12 ?_
  refine lv_if_ne (tgt := 20) hx hb d_I_significand_J_13 (by decide) (fun c2 => ?_) (fun c2 => ?_)
  · refine lv_lload_n hx hb d_I_significand_J_20 rfl (lv_at hl 0 rfl) ?_
    refine lv_ldc2 (v := (4503599627370496 : Int64)) hx hb hown (hts _ (gm tw_104)) d_I_significand_J_21 ?_
    refine lv_lor hx hb d_I_significand_J_24 ?_
    exact pu_lret hx hb hr hlocks d_I_significand_J_25 (by subst e1; simp only [f_I_significand_J, if_neg c2])
  · refine lv_lload_n hx hb d_I_significand_J_16 rfl (lv_at hl 0 rfl) ?_
    refine lv_goto (tgt := 25) hx hb d_I_significand_J_17 (by decide) ?_
    exact pu_lret hx hb hr hlocks d_I_significand_J_25 (by subst e1; simp only [f_I_significand_J, if_pos c2])
-- ===== java/lang/Integer.numberOfLeadingZeros(I)I
abbrev y_jI_numberOfLeadingZeros_I : MethodName := ⟨"java/lang/Integer", "numberOfLeadingZeros", "(I)I"⟩
abbrev b_jI_numberOfLeadingZeros_I : ByteArray := prog_7_method_47_code
theorem d_jI_numberOfLeadingZeros_I_0 : decode b_jI_numberOfLeadingZeros_I 0 = .ok (.iload_n 0, 1) := by decide +kernel
theorem d_jI_numberOfLeadingZeros_I_1 : decode b_jI_numberOfLeadingZeros_I 1 = .ok (.ifCond .gt 14, 3) := by decide +kernel
theorem d_jI_numberOfLeadingZeros_I_4 : decode b_jI_numberOfLeadingZeros_I 4 = .ok (.iload_n 0, 1) := by decide +kernel
theorem d_jI_numberOfLeadingZeros_I_5 : decode b_jI_numberOfLeadingZeros_I 5 = .ok (.ifCond .ne 8, 3) := by decide +kernel
theorem d_jI_numberOfLeadingZeros_I_8 : decode b_jI_numberOfLeadingZeros_I 8 = .ok (.bipush 32, 2) := by decide +kernel
theorem d_jI_numberOfLeadingZeros_I_10 : decode b_jI_numberOfLeadingZeros_I 10 = .ok (.goto 4, 3) := by decide +kernel
theorem d_jI_numberOfLeadingZeros_I_13 : decode b_jI_numberOfLeadingZeros_I 13 = .ok (.iconst 0, 1) := by decide +kernel
theorem d_jI_numberOfLeadingZeros_I_14 : decode b_jI_numberOfLeadingZeros_I 14 = .ok (.ireturn, 1) := by decide +kernel
theorem d_jI_numberOfLeadingZeros_I_15 : decode b_jI_numberOfLeadingZeros_I 15 = .ok (.bipush 31, 2) := by decide +kernel
theorem d_jI_numberOfLeadingZeros_I_17 : decode b_jI_numberOfLeadingZeros_I 17 = .ok (.istore_n 1, 1) := by decide +kernel
theorem d_jI_numberOfLeadingZeros_I_18 : decode b_jI_numberOfLeadingZeros_I 18 = .ok (.iload_n 0, 1) := by decide +kernel
theorem d_jI_numberOfLeadingZeros_I_19 : decode b_jI_numberOfLeadingZeros_I 19 = .ok (.ldc_w 264, 3) := by decide +kernel
theorem d_jI_numberOfLeadingZeros_I_22 : decode b_jI_numberOfLeadingZeros_I 22 = .ok (.if_icmp .lt 11, 3) := by decide +kernel
theorem d_jI_numberOfLeadingZeros_I_25 : decode b_jI_numberOfLeadingZeros_I 25 = .ok (.iinc 1 (-16), 3) := by decide +kernel
theorem d_jI_numberOfLeadingZeros_I_28 : decode b_jI_numberOfLeadingZeros_I 28 = .ok (.iload_n 0, 1) := by decide +kernel
theorem d_jI_numberOfLeadingZeros_I_29 : decode b_jI_numberOfLeadingZeros_I 29 = .ok (.bipush 16, 2) := by decide +kernel
theorem d_jI_numberOfLeadingZeros_I_31 : decode b_jI_numberOfLeadingZeros_I 31 = .ok (.iushr, 1) := by decide +kernel
theorem d_jI_numberOfLeadingZeros_I_32 : decode b_jI_numberOfLeadingZeros_I 32 = .ok (.istore_n 0, 1) := by decide +kernel
theorem d_jI_numberOfLeadingZeros_I_33 : decode b_jI_numberOfLeadingZeros_I 33 = .ok (.iload_n 0, 1) := by decide +kernel
theorem d_jI_numberOfLeadingZeros_I_34 : decode b_jI_numberOfLeadingZeros_I 34 = .ok (.sipush 256, 3) := by decide +kernel
theorem d_jI_numberOfLeadingZeros_I_37 : decode b_jI_numberOfLeadingZeros_I 37 = .ok (.if_icmp .lt 11, 3) := by decide +kernel
theorem d_jI_numberOfLeadingZeros_I_40 : decode b_jI_numberOfLeadingZeros_I 40 = .ok (.iinc 1 (-8), 3) := by decide +kernel
theorem d_jI_numberOfLeadingZeros_I_43 : decode b_jI_numberOfLeadingZeros_I 43 = .ok (.iload_n 0, 1) := by decide +kernel
theorem d_jI_numberOfLeadingZeros_I_44 : decode b_jI_numberOfLeadingZeros_I 44 = .ok (.bipush 8, 2) := by decide +kernel
theorem d_jI_numberOfLeadingZeros_I_46 : decode b_jI_numberOfLeadingZeros_I 46 = .ok (.iushr, 1) := by decide +kernel
theorem d_jI_numberOfLeadingZeros_I_47 : decode b_jI_numberOfLeadingZeros_I 47 = .ok (.istore_n 0, 1) := by decide +kernel
theorem d_jI_numberOfLeadingZeros_I_48 : decode b_jI_numberOfLeadingZeros_I 48 = .ok (.iload_n 0, 1) := by decide +kernel
theorem d_jI_numberOfLeadingZeros_I_49 : decode b_jI_numberOfLeadingZeros_I 49 = .ok (.bipush 16, 2) := by decide +kernel
theorem d_jI_numberOfLeadingZeros_I_51 : decode b_jI_numberOfLeadingZeros_I 51 = .ok (.if_icmp .lt 10, 3) := by decide +kernel
theorem d_jI_numberOfLeadingZeros_I_54 : decode b_jI_numberOfLeadingZeros_I 54 = .ok (.iinc 1 (-4), 3) := by decide +kernel
theorem d_jI_numberOfLeadingZeros_I_57 : decode b_jI_numberOfLeadingZeros_I 57 = .ok (.iload_n 0, 1) := by decide +kernel
theorem d_jI_numberOfLeadingZeros_I_58 : decode b_jI_numberOfLeadingZeros_I 58 = .ok (.iconst 4, 1) := by decide +kernel
theorem d_jI_numberOfLeadingZeros_I_59 : decode b_jI_numberOfLeadingZeros_I 59 = .ok (.iushr, 1) := by decide +kernel
theorem d_jI_numberOfLeadingZeros_I_60 : decode b_jI_numberOfLeadingZeros_I 60 = .ok (.istore_n 0, 1) := by decide +kernel
theorem d_jI_numberOfLeadingZeros_I_61 : decode b_jI_numberOfLeadingZeros_I 61 = .ok (.iload_n 0, 1) := by decide +kernel
theorem d_jI_numberOfLeadingZeros_I_62 : decode b_jI_numberOfLeadingZeros_I 62 = .ok (.iconst 4, 1) := by decide +kernel
theorem d_jI_numberOfLeadingZeros_I_63 : decode b_jI_numberOfLeadingZeros_I 63 = .ok (.if_icmp .lt 10, 3) := by decide +kernel
theorem d_jI_numberOfLeadingZeros_I_66 : decode b_jI_numberOfLeadingZeros_I 66 = .ok (.iinc 1 (-2), 3) := by decide +kernel
theorem d_jI_numberOfLeadingZeros_I_69 : decode b_jI_numberOfLeadingZeros_I 69 = .ok (.iload_n 0, 1) := by decide +kernel
theorem d_jI_numberOfLeadingZeros_I_70 : decode b_jI_numberOfLeadingZeros_I 70 = .ok (.iconst 2, 1) := by decide +kernel
theorem d_jI_numberOfLeadingZeros_I_71 : decode b_jI_numberOfLeadingZeros_I 71 = .ok (.iushr, 1) := by decide +kernel
theorem d_jI_numberOfLeadingZeros_I_72 : decode b_jI_numberOfLeadingZeros_I 72 = .ok (.istore_n 0, 1) := by decide +kernel
theorem d_jI_numberOfLeadingZeros_I_73 : decode b_jI_numberOfLeadingZeros_I 73 = .ok (.iload_n 1, 1) := by decide +kernel
theorem d_jI_numberOfLeadingZeros_I_74 : decode b_jI_numberOfLeadingZeros_I 74 = .ok (.iload_n 0, 1) := by decide +kernel
theorem d_jI_numberOfLeadingZeros_I_75 : decode b_jI_numberOfLeadingZeros_I 75 = .ok (.iconst 1, 1) := by decide +kernel
theorem d_jI_numberOfLeadingZeros_I_76 : decode b_jI_numberOfLeadingZeros_I 76 = .ok (.iushr, 1) := by decide +kernel
theorem d_jI_numberOfLeadingZeros_I_77 : decode b_jI_numberOfLeadingZeros_I 77 = .ok (.isub, 1) := by decide +kernel
theorem d_jI_numberOfLeadingZeros_I_78 : decode b_jI_numberOfLeadingZeros_I 78 = .ok (.ireturn, 1) := by decide +kernel
def f_jI_numberOfLeadingZeros_I_61 (x0 : Int32) (x1 : Int32) : Int32 :=
  if x0 < (4 : Int32) then
    x1 - (j_iushr x0 (1 : Int32))
  else
    let v2 : Int32 := x1 + (-2)
    let v3 : Int32 := j_iushr x0 (2 : Int32)
    v2 - (j_iushr v3 (1 : Int32))
set_option maxHeartbeats 4000000 in
set_option maxRecDepth 100000 in
theorem k_jI_numberOfLeadingZeros_I_61 {p : Program} {l : Launch} {e : Env} {s : State} {m : MethodId} {args : Array Value} {below : List Frame} {meth : Method} {c : Code} (C0 : pu_C p s m args meth c b_jI_numberOfLeadingZeros_I 2 "java/lang/Integer" (some .int) (gw y_jI_numberOfLeadingZeros_I b_jI_numberOfLeadingZeros_I 2 (some .int))) (x0 : Int32) (x1 : Int32) (ls : Array Slot) (hl : lv_has ls 2 [(0, .int x0), (1, .int x1)]) {w : Int32} (hw : w = f_jI_numberOfLeadingZeros_I_61 x0 x1) : W p l e (headSpec (gw y_jI_numberOfLeadingZeros_I b_jI_numberOfLeadingZeros_I 2 (some .int)) ({ frames := 0, cells := 0, slots := 0, locals := 0 } : Room)).room s m args below meth c s.heap [] 0 0 (pu_Qi w below args s) (F0 m 61 ls []) := by
  subst hw
  obtain ⟨hx, hb, hml, hown, hts, hr, hlocks⟩ := id C0
  refine lv_iload_n hx hb d_jI_numberOfLeadingZeros_I_61 rfl (lv_at hl 0 rfl) ?_
  refine lv_iconst (v := 4) hx hb d_jI_numberOfLeadingZeros_I_62 (by decide) ?_
  refine lv_icmp_lt (tgt := 73) hx hb d_jI_numberOfLeadingZeros_I_63 (by decide) (fun c1 => ?_) (fun c1 => ?_)
  · refine lv_iload_n hx hb d_jI_numberOfLeadingZeros_I_73 rfl (lv_at hl 1 rfl) ?_
    refine lv_iload_n hx hb d_jI_numberOfLeadingZeros_I_74 rfl (lv_at hl 0 rfl) ?_
    refine lv_iconst (v := 1) hx hb d_jI_numberOfLeadingZeros_I_75 (by decide) ?_
    refine lv_iushr (v := j_iushr x0 (1 : Int32)) hx hb d_jI_numberOfLeadingZeros_I_76 rfl ?_
    refine lv_isub hx hb d_jI_numberOfLeadingZeros_I_77 ?_
    exact pu_iret hx hb hr hlocks d_jI_numberOfLeadingZeros_I_78 (by simp only [f_jI_numberOfLeadingZeros_I_61, if_pos c1])
  · obtain ⟨v2, e2⟩ : ∃ y : Int32, y = x1 + (-2) := ⟨_, rfl⟩
    refine lv_iinc (v := v2) (lv' := [(1, .int v2), (0, .int x0)]) hx hb d_jI_numberOfLeadingZeros_I_66 hl (k := 1) rfl (by rw [e2]; rfl) (by decide) rfl (fun ls hl => ?_)
    refine lv_iload_n hx hb d_jI_numberOfLeadingZeros_I_69 rfl (lv_at hl 1 rfl) ?_
    refine lv_iconst (v := 2) hx hb d_jI_numberOfLeadingZeros_I_70 (by decide) ?_
    refine lv_iushr (v := j_iushr x0 (2 : Int32)) hx hb d_jI_numberOfLeadingZeros_I_71 rfl ?_
    refine lv_topi (fun v3 e3 => ?_)
    refine lv_istore_n (lv' := [(0, .int v3), (1, .int v2)]) hx hb d_jI_numberOfLeadingZeros_I_72 rfl hl (by decide) rfl (fun ls hl => ?_)
    refine lv_iload_n hx hb d_jI_numberOfLeadingZeros_I_73 rfl (lv_at hl 1 rfl) ?_
    refine lv_iload_n hx hb d_jI_numberOfLeadingZeros_I_74 rfl (lv_at hl 0 rfl) ?_
    refine lv_iconst (v := 1) hx hb d_jI_numberOfLeadingZeros_I_75 (by decide) ?_
    refine lv_iushr (v := j_iushr v3 (1 : Int32)) hx hb d_jI_numberOfLeadingZeros_I_76 rfl ?_
    refine lv_isub hx hb d_jI_numberOfLeadingZeros_I_77 ?_
    exact pu_iret hx hb hr hlocks d_jI_numberOfLeadingZeros_I_78 (by subst e2 e3; simp only [f_jI_numberOfLeadingZeros_I_61, if_neg c1])
def f_jI_numberOfLeadingZeros_I_48 (x0 : Int32) (x1 : Int32) : Int32 :=
  if x0 < (16 : Int32) then
    f_jI_numberOfLeadingZeros_I_61 x0 x1
  else
    let v2 : Int32 := x1 + (-4)
    let v3 : Int32 := j_iushr x0 (4 : Int32)
    f_jI_numberOfLeadingZeros_I_61 v3 v2
set_option maxHeartbeats 4000000 in
set_option maxRecDepth 100000 in
theorem k_jI_numberOfLeadingZeros_I_48 {p : Program} {l : Launch} {e : Env} {s : State} {m : MethodId} {args : Array Value} {below : List Frame} {meth : Method} {c : Code} (C0 : pu_C p s m args meth c b_jI_numberOfLeadingZeros_I 2 "java/lang/Integer" (some .int) (gw y_jI_numberOfLeadingZeros_I b_jI_numberOfLeadingZeros_I 2 (some .int))) (x0 : Int32) (x1 : Int32) (ls : Array Slot) (hl : lv_has ls 2 [(0, .int x0), (1, .int x1)]) {w : Int32} (hw : w = f_jI_numberOfLeadingZeros_I_48 x0 x1) : W p l e (headSpec (gw y_jI_numberOfLeadingZeros_I b_jI_numberOfLeadingZeros_I 2 (some .int)) ({ frames := 0, cells := 0, slots := 0, locals := 0 } : Room)).room s m args below meth c s.heap [] 0 0 (pu_Qi w below args s) (F0 m 48 ls []) := by
  subst hw
  obtain ⟨hx, hb, hml, hown, hts, hr, hlocks⟩ := id C0
  refine lv_iload_n hx hb d_jI_numberOfLeadingZeros_I_48 rfl (lv_at hl 0 rfl) ?_
  refine lv_bipush (v := (16 : Int32)) hx hb d_jI_numberOfLeadingZeros_I_49 (by decide) ?_
  refine lv_icmp_lt (tgt := 61) hx hb d_jI_numberOfLeadingZeros_I_51 (by decide) (fun c1 => ?_) (fun c1 => ?_)
  · exact k_jI_numberOfLeadingZeros_I_61 C0 x0 x1 ls (lv_sub hl [0, 1] rfl) (by simp only [f_jI_numberOfLeadingZeros_I_48, if_pos c1])
  · obtain ⟨v2, e2⟩ : ∃ y : Int32, y = x1 + (-4) := ⟨_, rfl⟩
    refine lv_iinc (v := v2) (lv' := [(1, .int v2), (0, .int x0)]) hx hb d_jI_numberOfLeadingZeros_I_54 hl (k := 1) rfl (by rw [e2]; rfl) (by decide) rfl (fun ls hl => ?_)
    refine lv_iload_n hx hb d_jI_numberOfLeadingZeros_I_57 rfl (lv_at hl 1 rfl) ?_
    refine lv_iconst (v := 4) hx hb d_jI_numberOfLeadingZeros_I_58 (by decide) ?_
    refine lv_iushr (v := j_iushr x0 (4 : Int32)) hx hb d_jI_numberOfLeadingZeros_I_59 rfl ?_
    refine lv_topi (fun v3 e3 => ?_)
    refine lv_istore_n (lv' := [(0, .int v3), (1, .int v2)]) hx hb d_jI_numberOfLeadingZeros_I_60 rfl hl (by decide) rfl (fun ls hl => ?_)
    exact k_jI_numberOfLeadingZeros_I_61 C0 v3 v2 ls (lv_sub hl [0, 1] rfl) (by subst e2 e3; simp only [f_jI_numberOfLeadingZeros_I_48, if_neg c1])
def f_jI_numberOfLeadingZeros_I_33 (x0 : Int32) (x1 : Int32) : Int32 :=
  if x0 < (256 : Int32) then
    f_jI_numberOfLeadingZeros_I_48 x0 x1
  else
    let v2 : Int32 := x1 + (-8)
    let v3 : Int32 := j_iushr x0 (8 : Int32)
    f_jI_numberOfLeadingZeros_I_48 v3 v2
set_option maxHeartbeats 4000000 in
set_option maxRecDepth 100000 in
theorem k_jI_numberOfLeadingZeros_I_33 {p : Program} {l : Launch} {e : Env} {s : State} {m : MethodId} {args : Array Value} {below : List Frame} {meth : Method} {c : Code} (C0 : pu_C p s m args meth c b_jI_numberOfLeadingZeros_I 2 "java/lang/Integer" (some .int) (gw y_jI_numberOfLeadingZeros_I b_jI_numberOfLeadingZeros_I 2 (some .int))) (x0 : Int32) (x1 : Int32) (ls : Array Slot) (hl : lv_has ls 2 [(0, .int x0), (1, .int x1)]) {w : Int32} (hw : w = f_jI_numberOfLeadingZeros_I_33 x0 x1) : W p l e (headSpec (gw y_jI_numberOfLeadingZeros_I b_jI_numberOfLeadingZeros_I 2 (some .int)) ({ frames := 0, cells := 0, slots := 0, locals := 0 } : Room)).room s m args below meth c s.heap [] 0 0 (pu_Qi w below args s) (F0 m 33 ls []) := by
  subst hw
  obtain ⟨hx, hb, hml, hown, hts, hr, hlocks⟩ := id C0
  refine lv_iload_n hx hb d_jI_numberOfLeadingZeros_I_33 rfl (lv_at hl 0 rfl) ?_
  refine lv_sipush (v := (256 : Int32)) hx hb d_jI_numberOfLeadingZeros_I_34 (by decide) ?_
  refine lv_icmp_lt (tgt := 48) hx hb d_jI_numberOfLeadingZeros_I_37 (by decide) (fun c1 => ?_) (fun c1 => ?_)
  · exact k_jI_numberOfLeadingZeros_I_48 C0 x0 x1 ls (lv_sub hl [0, 1] rfl) (by simp only [f_jI_numberOfLeadingZeros_I_33, if_pos c1])
  · obtain ⟨v2, e2⟩ : ∃ y : Int32, y = x1 + (-8) := ⟨_, rfl⟩
    refine lv_iinc (v := v2) (lv' := [(1, .int v2), (0, .int x0)]) hx hb d_jI_numberOfLeadingZeros_I_40 hl (k := 1) rfl (by rw [e2]; rfl) (by decide) rfl (fun ls hl => ?_)
    refine lv_iload_n hx hb d_jI_numberOfLeadingZeros_I_43 rfl (lv_at hl 1 rfl) ?_
    refine lv_bipush (v := (8 : Int32)) hx hb d_jI_numberOfLeadingZeros_I_44 (by decide) ?_
    refine lv_iushr (v := j_iushr x0 (8 : Int32)) hx hb d_jI_numberOfLeadingZeros_I_46 rfl ?_
    refine lv_topi (fun v3 e3 => ?_)
    refine lv_istore_n (lv' := [(0, .int v3), (1, .int v2)]) hx hb d_jI_numberOfLeadingZeros_I_47 rfl hl (by decide) rfl (fun ls hl => ?_)
    exact k_jI_numberOfLeadingZeros_I_48 C0 v3 v2 ls (lv_sub hl [0, 1] rfl) (by subst e2 e3; simp only [f_jI_numberOfLeadingZeros_I_33, if_neg c1])
def f_jI_numberOfLeadingZeros_I (x0 : Int32) : Int32 :=
  if 0 < x0 then
    if x0 < (65536 : Int32) then
      f_jI_numberOfLeadingZeros_I_33 x0 (31 : Int32)
    else
      let v3 : Int32 := j_iushr x0 (16 : Int32)
      f_jI_numberOfLeadingZeros_I_33 v3 (15 : Int32)
  else
    if x0 = 0 then
      (32 : Int32)
    else
      (0 : Int32)
set_option maxHeartbeats 4000000 in
set_option maxRecDepth 100000 in
theorem c_jI_numberOfLeadingZeros_I (l : Launch) (h : Heap) (x0 : Int32) : Met l y_jI_numberOfLeadingZeros_I (gw y_jI_numberOfLeadingZeros_I b_jI_numberOfLeadingZeros_I 2 (some .int)) { frames := 0, cells := 0, slots := 0, locals := 0 } (pu_Pc [.int x0] h) (pu_Mi (f_jI_numberOfLeadingZeros_I x0) h) 0 0 (fun _ => False) := by
  refine va_MetF (cc := b_jI_numberOfLeadingZeros_I) (maxL := 2) (ret := (some .int)) (by decide +kernel) rfl ?_
  intro p e s m args below meth c s₁ B hml hv
  obtain ⟨rfl, hh⟩ := hv
  subst hh
  have hx := B.exec
  have hb := B.bytes
  have hr := B.returns
  have hts := atoms_spec (ws := (gw y_jI_numberOfLeadingZeros_I b_jI_numberOfLeadingZeros_I 2 (some .int))) B.pre
  have hown : s.vm.findClass "java/lang/Integer" = some m.cls := findClass_of_methodNamed B.named
  have hlocks := B.notSynchronized
  have C0 : pu_C p s m _ meth c b_jI_numberOfLeadingZeros_I 2 "java/lang/Integer" (some .int) (gw y_jI_numberOfLeadingZeros_I b_jI_numberOfLeadingZeros_I 2 (some .int)) := ⟨hx, hb, hml, hown, hts, hr, hlocks⟩
  have hl := lv_entry ([.int x0]) (n := 2) (Nat.le_of_ble_eq_true rfl)
  rw [lg_entry_eq]
  generalize (lg_sl ([.int x0]) ++ List.replicate (2 - (lg_sl ([.int x0])).length) Slot.unset).toArray = ls at hl ⊢
  have hl : lv_has ls 2 [(0, .int x0)] := hl
  refine lv_iload_n hx hb d_jI_numberOfLeadingZeros_I_0 rfl (lv_at hl 0 rfl) ?_
  refine lv_if_gt (tgt := 15) hx hb d_jI_numberOfLeadingZeros_I_1 (by decide) (fun c1 => ?_) (fun c1 => ?_)
  · refine lv_bipush (v := (31 : Int32)) hx hb d_jI_numberOfLeadingZeros_I_15 (by decide) ?_
    refine lv_istore_n (lv' := [(1, .int (31 : Int32)), (0, .int x0)]) hx hb d_jI_numberOfLeadingZeros_I_17 rfl hl (by decide) rfl (fun ls hl => ?_)
    refine lv_iload_n hx hb d_jI_numberOfLeadingZeros_I_18 rfl (lv_at hl 1 rfl) ?_
    refine lv_ldcw (v := (65536 : Int32)) hx hb hown (hts _ (gm tw_114)) d_jI_numberOfLeadingZeros_I_19 ?_
    refine lv_icmp_lt (tgt := 33) hx hb d_jI_numberOfLeadingZeros_I_22 (by decide) (fun c2 => ?_) (fun c2 => ?_)
    · exact k_jI_numberOfLeadingZeros_I_33 C0 x0 (31 : Int32) ls (lv_sub hl [1, 0] rfl) (by simp only [f_jI_numberOfLeadingZeros_I, if_pos c1, if_pos c2])
    · refine lv_iinc (v := (15 : Int32)) (lv' := [(1, .int (15 : Int32)), (0, .int x0)]) hx hb d_jI_numberOfLeadingZeros_I_25 hl (k := 0) rfl (by decide) (by decide) rfl (fun ls hl => ?_)
      refine lv_iload_n hx hb d_jI_numberOfLeadingZeros_I_28 rfl (lv_at hl 1 rfl) ?_
      refine lv_bipush (v := (16 : Int32)) hx hb d_jI_numberOfLeadingZeros_I_29 (by decide) ?_
      refine lv_iushr (v := j_iushr x0 (16 : Int32)) hx hb d_jI_numberOfLeadingZeros_I_31 rfl ?_
      refine lv_topi (fun v3 e3 => ?_)
      refine lv_istore_n (lv' := [(0, .int v3), (1, .int (15 : Int32))]) hx hb d_jI_numberOfLeadingZeros_I_32 rfl hl (by decide) rfl (fun ls hl => ?_)
      exact k_jI_numberOfLeadingZeros_I_33 C0 v3 (15 : Int32) ls (lv_sub hl [0, 1] rfl) (by subst e3; simp only [f_jI_numberOfLeadingZeros_I, if_pos c1, if_neg c2])
  · refine lv_iload_n hx hb d_jI_numberOfLeadingZeros_I_4 rfl (lv_at hl 0 rfl) ?_
    refine lv_if_ne (tgt := 13) hx hb d_jI_numberOfLeadingZeros_I_5 (by decide) (fun c4 => ?_) (fun c4 => ?_)
    · refine lv_iconst (v := 0) hx hb d_jI_numberOfLeadingZeros_I_13 (by decide) ?_
      exact pu_iret hx hb hr hlocks d_jI_numberOfLeadingZeros_I_14 (by simp only [f_jI_numberOfLeadingZeros_I, if_neg c1, if_neg c4])
    · refine lv_bipush (v := (32 : Int32)) hx hb d_jI_numberOfLeadingZeros_I_8 (by decide) ?_
      refine lv_goto (tgt := 14) hx hb d_jI_numberOfLeadingZeros_I_10 (by decide) ?_
      exact pu_iret hx hb hr hlocks d_jI_numberOfLeadingZeros_I_14 (by simp only [f_jI_numberOfLeadingZeros_I, if_neg c1, if_pos c4])
-- ===== java/lang/Long.numberOfLeadingZeros(J)I
abbrev y_jL_numberOfLeadingZeros_J : MethodName := ⟨"java/lang/Long", "numberOfLeadingZeros", "(J)I"⟩
abbrev b_jL_numberOfLeadingZeros_J : ByteArray := prog_8_method_48_code
theorem d_jL_numberOfLeadingZeros_J_0 : decode b_jL_numberOfLeadingZeros_J 0 = .ok (.lload_n 0, 1) := by decide +kernel
theorem d_jL_numberOfLeadingZeros_J_1 : decode b_jL_numberOfLeadingZeros_J 1 = .ok (.bipush 32, 2) := by decide +kernel
theorem d_jL_numberOfLeadingZeros_J_3 : decode b_jL_numberOfLeadingZeros_J 3 = .ok (.lushr, 1) := by decide +kernel
theorem d_jL_numberOfLeadingZeros_J_4 : decode b_jL_numberOfLeadingZeros_J 4 = .ok (.l2i, 1) := by decide +kernel
theorem d_jL_numberOfLeadingZeros_J_5 : decode b_jL_numberOfLeadingZeros_J 5 = .ok (.istore_n 2, 1) := by decide +kernel
theorem d_jL_numberOfLeadingZeros_J_6 : decode b_jL_numberOfLeadingZeros_J 6 = .ok (.iload_n 2, 1) := by decide +kernel
theorem d_jL_numberOfLeadingZeros_J_7 : decode b_jL_numberOfLeadingZeros_J 7 = .ok (.ifCond .ne 14, 3) := by decide +kernel
theorem d_jL_numberOfLeadingZeros_J_10 : decode b_jL_numberOfLeadingZeros_J 10 = .ok (.bipush 32, 2) := by decide +kernel
theorem d_jL_numberOfLeadingZeros_J_12 : decode b_jL_numberOfLeadingZeros_J 12 = .ok (.lload_n 0, 1) := by decide +kernel
theorem d_jL_numberOfLeadingZeros_J_13 : decode b_jL_numberOfLeadingZeros_J 13 = .ok (.l2i, 1) := by decide +kernel
theorem d_jL_numberOfLeadingZeros_J_14 : decode b_jL_numberOfLeadingZeros_J 14 = .ok (.invokestatic 308, 3) := by decide +kernel
theorem d_jL_numberOfLeadingZeros_J_17 : decode b_jL_numberOfLeadingZeros_J 17 = .ok (.iadd, 1) := by decide +kernel
theorem d_jL_numberOfLeadingZeros_J_18 : decode b_jL_numberOfLeadingZeros_J 18 = .ok (.goto 7, 3) := by decide +kernel
theorem d_jL_numberOfLeadingZeros_J_21 : decode b_jL_numberOfLeadingZeros_J 21 = .ok (.iload_n 2, 1) := by decide +kernel
theorem d_jL_numberOfLeadingZeros_J_22 : decode b_jL_numberOfLeadingZeros_J 22 = .ok (.invokestatic 308, 3) := by decide +kernel
theorem d_jL_numberOfLeadingZeros_J_25 : decode b_jL_numberOfLeadingZeros_J 25 = .ok (.ireturn, 1) := by decide +kernel
def f_jL_numberOfLeadingZeros_J (x0 : Int64) : Int32 :=
  let v1 : Int32 := (j_ushr x0 (32 : Int32)).toInt32
  if v1 = 0 then
    (32 : Int32) + (f_jI_numberOfLeadingZeros_I (x0.toInt32))
  else
    f_jI_numberOfLeadingZeros_I v1
set_option maxHeartbeats 4000000 in
set_option maxRecDepth 100000 in
theorem c_jL_numberOfLeadingZeros_J (l : Launch) (h : Heap) (x0 : Int64) : Met l y_jL_numberOfLeadingZeros_J (gw y_jL_numberOfLeadingZeros_J b_jL_numberOfLeadingZeros_J 3 (some .int)) { frames := 1, cells := 0, slots := 0, locals := 21 } (pu_Pc [.long x0] h) (pu_Mi (f_jL_numberOfLeadingZeros_J x0) h) 0 0 (fun _ => False) := by
  refine va_MetF (cc := b_jL_numberOfLeadingZeros_J) (maxL := 3) (ret := (some .int)) (by decide +kernel) rfl ?_
  intro p e s m args below meth c s₁ B hml hv
  obtain ⟨rfl, hh⟩ := hv
  subst hh
  have hx := B.exec
  have hb := B.bytes
  have hr := B.returns
  have hts := atoms_spec (ws := (gw y_jL_numberOfLeadingZeros_J b_jL_numberOfLeadingZeros_J 3 (some .int))) B.pre
  have hown : s.vm.findClass "java/lang/Long" = some m.cls := findClass_of_methodNamed B.named
  have hlocks := B.notSynchronized
  have C0 : pu_C p s m _ meth c b_jL_numberOfLeadingZeros_J 3 "java/lang/Long" (some .int) (gw y_jL_numberOfLeadingZeros_J b_jL_numberOfLeadingZeros_J 3 (some .int)) := ⟨hx, hb, hml, hown, hts, hr, hlocks⟩
  have hl := lv_entry ([.long x0]) (n := 3) (Nat.le_of_ble_eq_true rfl)
  rw [lg_entry_eq]
  generalize (lg_sl ([.long x0]) ++ List.replicate (3 - (lg_sl ([.long x0])).length) Slot.unset).toArray = ls at hl ⊢
  have hl : lv_has ls 3 [(0, .long x0)] := hl
  refine lv_lload_n hx hb d_jL_numberOfLeadingZeros_J_0 rfl (lv_at hl 0 rfl) ?_
  refine lv_bipush (v := (32 : Int32)) hx hb d_jL_numberOfLeadingZeros_J_1 (by decide) ?_
  refine lv_lushr (v := j_ushr x0 (32 : Int32)) hx hb d_jL_numberOfLeadingZeros_J_3 rfl ?_
  refine lv_l2i hx hb d_jL_numberOfLeadingZeros_J_4 rfl ?_
  refine lv_topi (fun v1 e1 => ?_)
  refine lv_istore_n (lv' := [(2, .int v1), (0, .long x0)]) hx hb d_jL_numberOfLeadingZeros_J_5 rfl hl (by decide) rfl (fun ls hl => ?_)
  refine lv_iload_n hx hb d_jL_numberOfLeadingZeros_J_6 rfl (lv_at hl 0 rfl) ?_
  refine lv_if_ne (tgt := 21) hx hb d_jL_numberOfLeadingZeros_J_7 (by decide) (fun c2 => ?_) (fun c2 => ?_)
  · refine lv_iload_n hx hb d_jL_numberOfLeadingZeros_J_21 rfl (lv_at hl 0 rfl) ?_
    refine pu_i (As := [.int v1]) (rest := []) ⟨hx, hb, hml, hown, hts⟩ (c_jI_numberOfLeadingZeros_I l _ v1) pu_pre (gw_call (k := 1) hts tw_111 tw_112 tw_8 tw_113 (by decide +kernel) rfl rfl ⟨Nat.le_of_ble_eq_true rfl, Nat.le_of_ble_eq_true rfl⟩) rfl hl.1 rfl (Nat.le_of_ble_eq_true rfl) ⟨Nat.zero_le _, Nat.zero_le _⟩ d_jL_numberOfLeadingZeros_J_22 ?_
    exact pu_iret hx hb hr hlocks d_jL_numberOfLeadingZeros_J_25 (by subst e1; simp only [f_jL_numberOfLeadingZeros_J, if_neg c2])
  · refine lv_bipush (v := (32 : Int32)) hx hb d_jL_numberOfLeadingZeros_J_10 (by decide) ?_
    refine lv_lload_n hx hb d_jL_numberOfLeadingZeros_J_12 rfl (lv_at hl 1 rfl) ?_
    refine lv_l2i hx hb d_jL_numberOfLeadingZeros_J_13 rfl ?_
    refine pu_i (As := [.int (x0.toInt32)]) (rest := [.int (32 : Int32)]) ⟨hx, hb, hml, hown, hts⟩ (c_jI_numberOfLeadingZeros_I l _ (x0.toInt32)) pu_pre (gw_call (k := 1) hts tw_111 tw_112 tw_8 tw_113 (by decide +kernel) rfl rfl ⟨Nat.le_of_ble_eq_true rfl, Nat.le_of_ble_eq_true rfl⟩) rfl hl.1 rfl (Nat.le_of_ble_eq_true rfl) ⟨Nat.zero_le _, Nat.zero_le _⟩ d_jL_numberOfLeadingZeros_J_14 ?_
    refine lv_iadd hx hb d_jL_numberOfLeadingZeros_J_17 ?_
    refine lv_goto (tgt := 25) hx hb d_jL_numberOfLeadingZeros_J_18 (by decide) ?_
    exact pu_iret hx hb hr hlocks d_jL_numberOfLeadingZeros_J_25 (by subst e1; simp only [f_jL_numberOfLeadingZeros_J, if_pos c2])
end
