/-! OUR OWN ROWS: two worlds side by side; a call that knows the first of them alone -/
section TW
variable {p : Program} {l : Launch} {e : Env} {R : Room} {s : State} {m : MethodId} {args : Array Value} {below : List Frame} {meth : Method} {c : Code} {H : Heap} {locs : List Loc} {cells slots : Nat} {Q : State → Prop}
variable {cc : ByteArray} {pc : Nat} {ls : Array Slot} {rest st0 : List Value} {D : va_G} {cl : List vw_C} {A : Nat → Prop} {a : Nat} {tys : List (ClassId × FieldType)} {wa wb : va_W} {H0 : Heap}
variable {Ts wsC : List Cond} {own C : String} {y : MethodName} {bytes : ByteArray} {maxL nL n index : Nat} {ret : Option FieldType} {rm : Room} {As : List Value} {E : State → Prop} {w1 : va_W} {b : Nat}
theorem tw_l {k : Nat} {q : Nat × va_E} (h : wa[k]? = some q) : (wa ++ wb)[k]? = some q := by
  rw [List.getElem?_append_left (List.getElem?_eq_some_iff.mp h).1]; exact h
theorem tw_r {k : Nat} {q : Nat × va_E} (h : wb[k]? = some q) : (wa ++ wb)[wa.length + k]? = some q := by
  rw [List.getElem?_append_right (by omega), Nat.add_sub_cancel_left]; exact h
theorem hg_fst (G : hG D cl A H0 (wa ++ wb) H locs) : hG D cl A H0 wa H locs :=
  ⟨fun k q h => G.1 k q (tw_l h), ⟨fun i j p q h1 h2 h3 => G.2.1.1 i j p q (tw_l h1) (tw_l h2) h3, fun k q h => G.2.1.2 k q (tw_l h)⟩, G.2.2⟩
theorem hg_swap (G : hG D cl A H0 (wa ++ wb) H locs) : hG D cl A H0 (wb ++ wa) H locs := by
  refine ⟨va_P.app (fun k q h => G.1 _ q (tw_r h)) (hg_fst G).1, va_D.app ⟨fun i j p q h1 h2 h3 => ?_, fun k q h => G.2.1.2 _ q (tw_r h)⟩ (hg_fst G).2.1 (fun i j p q h1 h2 h3 => ?_), G.2.2⟩
  · have := G.2.1.1 (wa.length + i) (wa.length + j) p q (tw_r h1) (tw_r h2) h3
    omega
  · have h4 := G.2.1.1 (wa.length + i) j p q (tw_r h1) (tw_l h2) h3
    have h5 := (List.getElem?_eq_some_iff.mp h2).1
    omega
theorem tw_size {q : Nat × va_E} (h : va_at D cl q H) : q.1 < H.size := by
  obtain ⟨q1, q2⟩ := q
  unfold va_at at h
  cases q2 with
  | inl a => exact (Array.getElem?_eq_some_iff.mp h).1
  | inr o =>
    obtain ⟨r, h1, cell, h2, _⟩ := h
    exact (Array.getElem?_eq_some_iff.mp h2).1
theorem tw_keep {q : Nat × va_E} {H1 : Heap} (h : va_at D cl q H) (e : H1[q.1]? = H[q.1]?) : va_at D cl q H1 := by
  obtain ⟨q1, q2⟩ := q
  unfold va_at at h ⊢
  cases q2 with
  | inl a => exact e.trans h
  | inr o =>
    obtain ⟨r, h1, cell, h2, h3⟩ := h
    exact ⟨r, h1, cell, e.trans h2, h3⟩
/-- what comes back of the first stands behind the second, which is unchanged -/
theorem hg_join {H1 : Heap} {locs1 : List Loc} (G : hG D cl A H0 (wa ++ wb) H locs) (hA : ∀ q, H0.size ≤ q → A q) (hP1 : va_P D cl w1 H1) (hD1 : va_D (va_A wa H.size) w1) (hk : ∀ q : Nat, q < H.size → ¬ va_A wa H.size q → H1[q]? = H[q]?) (hS : va_S A H0 H1 locs1) : hG D cl A H0 (wb ++ w1) H1 locs1 := by
  have hF := hg_free (hg_fst G) hA
  have key : ∀ (k : Nat) (q : Nat × va_E), wb[k]? = some q → ¬ va_A wa H.size q.1 := by
    intro k q h hc
    have hs := tw_size (G.1 _ q (tw_r h))
    rcases hc with ⟨j, e, hj⟩ | hc
    · have h1 := G.2.1.1 j (wa.length + k) (q.1, e) q (tw_l hj) (tw_r h) rfl
      have h2 := (List.getElem?_eq_some_iff.mp hj).1
      omega
    · omega
  refine ⟨?_, ?_, hS⟩
  · intro k q h
    rcases Nat.lt_or_ge k wb.length with c | c
    · rw [List.getElem?_append_left c] at h
      exact tw_keep (G.1 _ q (tw_r h)) (hk _ (tw_size (G.1 _ q (tw_r h))) (key k q h))
    · rw [List.getElem?_append_right c] at h
      exact hP1 _ q h
  · refine va_D.app ⟨fun i j p q h1 h2 h3 => ?_, fun k q h => G.2.1.2 _ q (tw_r h)⟩ ⟨hD1.1, fun k q h => hF _ (hD1.2 k q h)⟩ (fun i j p q h1 h2 h3 => ?_)
    · have := G.2.1.1 (wa.length + i) (wa.length + j) p q (tw_r h1) (tw_r h2) h3
      omega
    · exact key i p h1 (by rw [h3]; exact hD1.2 j q h2)
theorem hg2_ci {r0 : Int32} (S0 : CallFix p m c cc nL s args Ts own) (hM : hMi l y wsC rm (.ref b :: As) D cl tys E wa H.size r0 w1) (cw : CallW R s args own C index y bytes maxL ret wsC rm 0 0 n) (hK : va_K D cl tys s) (G : hG D cl A H0 (wa ++ wb) H locs) (hA : ∀ q, H0.size ≤ q → A q) (hE : hEx s H E)
    (ci q0 : Nat) {T : u_T} {N : Nat} {fs : List Value} (hc : cl[ci]? = some (C, T, N)) (he : wa[q0]? = some (b, .inr (ci, fs))) (hn : As.length = n) (hsize : ls.size = nL) (hstack : st0 = As.reverse ++ .ref b :: rest) (hW : (rest.map fun v => v.category).sum ≤ 8) (hf : cells ≤ R.cells ∧ slots ≤ R.slots) (hdg : decode cc pc = .ok (.invokevirtual index, 3))
    (kk : ∀ (H1 : Heap) (locs1 : List Loc), hG D cl A H0 (wb ++ w1) H1 locs1 → W p l e R s m args below meth c H1 locs1 cells slots Q (F0 m (pc + 3) ls (.int r0 :: rest))) : W p l e R s m args below meth c H locs cells slots Q (F0 m pc ls st0) := by
  have hF := hg_free (hg_fst G) hA
  have hp := hg_pre (As' := .ref b :: As) hK (hg_fst G) hE
  refine va_calli (va_runV (g := F0 m pc ls st0) S0 hM cw ⟨hp.1, va_recv hK (hg_fst G).1 hc he, hp.2⟩ rfl hn hsize hstack (lv_room hW) hdg hf) G.2.2 (fun q _ h => hF q h) hF (fun r u t H1 locs1 ht hvm hu hB hz hk hS => ?_)
  obtain ⟨hr, hu⟩ := hu
  subst hr
  subst hu
  obtain ⟨hP1, hK1, hD1⟩ := hB
  rw [ht] at hP1
  exact kk H1 locs1 (hg_join G hA hP1 hD1 hk hS)
theorem hg2_cl {r0 : Int64} (S0 : CallFix p m c cc nL s args Ts own) (hM : hMl l y wsC rm (.ref b :: As) D cl tys E wa H.size r0 w1) (cw : CallW R s args own C index y bytes maxL ret wsC rm 0 0 n) (hK : va_K D cl tys s) (G : hG D cl A H0 (wa ++ wb) H locs) (hA : ∀ q, H0.size ≤ q → A q) (hE : hEx s H E)
    (ci q0 : Nat) {T : u_T} {N : Nat} {fs : List Value} (hc : cl[ci]? = some (C, T, N)) (he : wa[q0]? = some (b, .inr (ci, fs))) (hn : As.length = n) (hsize : ls.size = nL) (hstack : st0 = As.reverse ++ .ref b :: rest) (hW : (rest.map fun v => v.category).sum ≤ 8) (hf : cells ≤ R.cells ∧ slots ≤ R.slots) (hdg : decode cc pc = .ok (.invokevirtual index, 3))
    (kk : ∀ (H1 : Heap) (locs1 : List Loc), hG D cl A H0 (wb ++ w1) H1 locs1 → W p l e R s m args below meth c H1 locs1 cells slots Q (F0 m (pc + 3) ls (.long r0 :: rest))) : W p l e R s m args below meth c H locs cells slots Q (F0 m pc ls st0) := by
  have hF := hg_free (hg_fst G) hA
  have hp := hg_pre (As' := .ref b :: As) hK (hg_fst G) hE
  refine va_calll (va_runV (g := F0 m pc ls st0) S0 hM cw ⟨hp.1, va_recv hK (hg_fst G).1 hc he, hp.2⟩ rfl hn hsize hstack (lv_room hW) hdg hf) G.2.2 (fun q _ h => hF q h) hF (fun r u t H1 locs1 ht hvm hu hB hz hk hS => ?_)
  obtain ⟨hr, hu⟩ := hu
  subst hr
  subst hu
  obtain ⟨hP1, hK1, hD1⟩ := hB
  rw [ht] at hP1
  exact kk H1 locs1 (hg_join G hA hP1 hD1 hk hS)
theorem hg2_init {mc ms : Nat} {post : va_W → Prop} (S0 : CallFix p m c cc nL s args Ts own) (hM : Met l y wsC rm (va_Pc (.ref b :: As) (hPr D cl tys E wa H.size)) (va_Qv post (hBk D cl tys wa H.size) (va_A wa H.size)) mc ms (va_A wa H.size)) (cw : CallB R s args own index y bytes maxL none wsC rm mc ms n ∧ y.name = "<init>" ∧ (Cond.instanceMethod y).before args s = true) (hK : va_K D cl tys s) (G : hG D cl A H0 (wa ++ wb) H locs) (hA : ∀ q, H0.size ≤ q → A q) (hE : hEx s H E)
    (hn : As.length = n) (hsize : ls.size = nL) (hstack : st0 = As.reverse ++ .ref b :: rest) (hW : (rest.map fun v => v.category).sum ≤ 8) (hf : cells + mc ≤ R.cells ∧ slots + ms ≤ R.slots) (hdg : decode cc pc = .ok (.invokespecial index, 3))
    (kk : ∀ (u : va_W) (H1 : Heap) (locs1 : List Loc), post u → hG D cl A H0 (wb ++ u) H1 locs1 → W p l e R s m args below meth c H1 locs1 (cells + mc) (slots + ms) Q (F0 m (pc + 3) ls rest)) : W p l e R s m args below meth c H locs cells slots Q (F0 m pc ls st0) := by
  have hF := hg_free (hg_fst G) hA
  have hp := hg_pre (As' := .ref b :: As) hK (hg_fst G) hE
  refine va_callv (va_runI (g := F0 m pc ls st0) S0 hM cw hp rfl hn hsize hstack (lv_room hW) hdg hf) G.2.2 (fun q _ h => hF q h) hF (fun u t H1 locs1 ht hvm hu hB hz hk hS => ?_)
  obtain ⟨hP1, hK1, hD1⟩ := hB
  rw [ht] at hP1
  exact kk u H1 locs1 hu (hg_join G hA hP1 hD1 hk hS)
theorem hg2_initN {mc ms : Nat} {host : String} {post : va_W → Prop} (S0 : CallFix p m c cc nL s args Ts own) (hM : Met l y wsC rm (va_Pc (.ref b :: As) (hPr D cl tys E wa H.size)) (va_Qv post (hBk D cl tys wa H.size) (va_A wa H.size)) mc ms (va_A wa H.size)) (cw : va_CN R s args own index y host bytes maxL none wsC rm mc ms n ∧ y.name = "<init>" ∧ (Cond.instanceMethod y).before args s = true) (hK : va_K D cl tys s) (G : hG D cl A H0 (wa ++ wb) H locs) (hA : ∀ q, H0.size ≤ q → A q) (hE : hEx s H E)
    (hn : As.length = n) (hsize : ls.size = nL) (hstack : st0 = As.reverse ++ .ref b :: rest) (hW : (rest.map fun v => v.category).sum ≤ 8) (hf : cells + mc ≤ R.cells ∧ slots + ms ≤ R.slots) (hdg : decode cc pc = .ok (.invokespecial index, 3))
    (kk : ∀ (u : va_W) (H1 : Heap) (locs1 : List Loc), post u → hG D cl A H0 (wb ++ u) H1 locs1 → W p l e R s m args below meth c H1 locs1 (cells + mc) (slots + ms) Q (F0 m (pc + 3) ls rest)) : W p l e R s m args below meth c H locs cells slots Q (F0 m pc ls st0) := by
  have hF := hg_free (hg_fst G) hA
  have hp := hg_pre (As' := .ref b :: As) hK (hg_fst G) hE
  refine va_callv (va_runIN (g := F0 m pc ls st0) S0 hM cw hp rfl hn hsize hstack (lv_room hW) hdg hf) G.2.2 (fun q _ h => hF q h) hF (fun u t H1 locs1 ht hvm hu hB hz hk hS => ?_)
  obtain ⟨hP1, hK1, hD1⟩ := hB
  rw [ht] at hP1
  exact kk u H1 locs1 hu (hg_join G hA hP1 hD1 hk hS)
-- new arrays: of longs, of ints
theorem ra_J (hK : va_K D cl tys s) {k j : Nat} {c1 c2 : ClassId} (h1 : tys[k]? = some (c1, .long)) (h2 : tys[j]? = some (c2, .long)) : c1 = c2 := by
  have a : s.vm.findClass ("[" ++ FieldType.long.toString) = some c1 := (hK.2 k _ h1).2
  have b : s.vm.findClass ("[" ++ FieldType.long.toString) = some c2 := (hK.2 j _ h2).2
  exact Option.some.inj (a.symm.trans b)
theorem ra_I (hK : va_K D cl tys s) {k j : Nat} {c1 c2 : ClassId} (h1 : tys[k]? = some (c1, .int)) (h2 : tys[j]? = some (c2, .int)) : c1 = c2 := by
  have a : s.vm.findClass ("[" ++ FieldType.int.toString) = some c1 := (hK.2 k _ h1).2
  have b : s.vm.findClass ("[" ++ FieldType.int.toString) = some c2 := (hK.2 j _ h2).2
  exact Option.some.inj (a.symm.trans b)
theorem hg_newJ {cJ cI : ClassId} (hexec : p.tables.exec = Jvm.exec) (hb : c.code = cc) (harr : (Cond.arrayClass .long).before args s = true) (hK : va_K D cl (tysJI cJ cI) s) (G : hG D cl A H0 wa H locs) (hA : ∀ q, H0.size ≤ q → A q) {k : Int32} {N : Nat} (hn : ¬ k < 0) (hN : k.toNatClampNeg = N) (hbytes : N * componentBytes .long ≤ 536870912) (hcells : cells + 1 ≤ R.cells) (hslots : slots + N ≤ R.slots) (hdg : decode cc pc = .ok (.newarray .long, 2))
    (kk : ∀ (q : Nat) (H1 : Heap), hG D cl A H0 (wa ++ [(q, .inl (cJ, N, .inr (.inl (fun _ => 0))))]) H1 locs → W p l e R s m args below meth c H1 locs (cells + 1) (slots + N) Q (F0 m (pc + 2) ls (.ref q :: rest))) : W p l e R s m args below meth c H locs cells slots Q (F0 m pc ls (.int k :: rest)) := by
  refine va_newa (atype := .long) (ty := .long) (a0 := (N, .inr (.inl (fun _ => 0)))) hexec hb harr rfl hK G.1 G.2.1 G.2.2 hA (fun cA => rfl) hn hN hbytes hcells hslots hdg (fun q cA H1 hK1 hP hD hS => ?_)
  have e : cJ = cA := ra_J hK1 (k := 0) (j := 2) rfl rfl
  subst e
  exact kk q H1 ⟨hP, hD, hS⟩
theorem hg_newI {cJ cI : ClassId} (hexec : p.tables.exec = Jvm.exec) (hb : c.code = cc) (harr : (Cond.arrayClass .int).before args s = true) (hK : va_K D cl (tysJI cJ cI) s) (G : hG D cl A H0 wa H locs) (hA : ∀ q, H0.size ≤ q → A q) {k : Int32} {N : Nat} (hn : ¬ k < 0) (hN : k.toNatClampNeg = N) (hbytes : N * componentBytes .int ≤ 536870912) (hcells : cells + 1 ≤ R.cells) (hslots : slots + N ≤ R.slots) (hdg : decode cc pc = .ok (.newarray .int, 2))
    (kk : ∀ (q : Nat) (H1 : Heap), hG D cl A H0 (wa ++ [(q, .inl (cI, N, .inl (fun _ => 0)))]) H1 locs → W p l e R s m args below meth c H1 locs (cells + 1) (slots + N) Q (F0 m (pc + 2) ls (.ref q :: rest))) : W p l e R s m args below meth c H locs cells slots Q (F0 m pc ls (.int k :: rest)) := by
  refine va_newa (atype := .int) (ty := .int) (a0 := (N, .inl (fun _ => 0))) hexec hb harr rfl hK G.1 G.2.1 G.2.2 hA (fun cA => rfl) hn hN hbytes hcells hslots hdg (fun q cA H1 hK1 hP hD hS => ?_)
  have e : cI = cA := ra_I hK1 (k := 1) (j := 2) rfl rfl
  subst e
  exact kk q H1 ⟨hP, hD, hS⟩
theorem hg_nret {sz : Nat} {W0 : va_W} {post : va_W → Prop} {mc ms : Nat} (hx : p.tables.exec = Jvm.exec) (hb : c.code = cc) (hr : meth.sig.returnType = none) (hlocks : meth.locks = false) (hK : va_K D cl tys s) (hAe : va_A W0 sz = A) (G : hG D cl A s.heap wa H locs) (hp : post wa) (hdg : decode cc pc = .ok (.return_, 1)) :
    W p l e R s m args below meth c H locs mc ms (MQ below (va_Qv post (hBk D cl tys W0 sz) A) args s mc ms A) (F0 m pc ls []) := by
  subst hAe
  exact W.vret hx hb hr (fun t ht hW => ⟨⟨wa, rfl, hp, by rw [ht]; exact G.1, va_K.moved hW.alike hK, G.2.1⟩, G.2.2.F ht⟩) G.2.2.2.2 hdg hlocks
end TW
theorem hx_N {a : String} {i : Nat} {x : MethodName} {h : String} {s : State} {H : Heap} (hN : va_Nw (.methodLinkNest a i x h) s) : hEx s H (fun U => va_Nw (.methodLinkNest a i x h) U) :=
  ⟨fun _ _ _ _ q => va_Nw.same rfl rfl q, fun _ _ hW => va_Nw.warmM hW hN⟩
-- words of a list that holds all the good ones
theorem gt {w : Cond} (h : w ∈ lw_g) : w ∈ lw_tbl := (List.mem_filter.mp h).1
section GQ
variable {R : Room} {s : State} {args : Array Value} {own : String} {index k : Nat} {y : MethodName} {b : ByteArray} {n mc ms : Nat} {r : Option FieldType} {rm : Room} {Ts : List Cond}
theorem gq_in (hT : ∀ w ∈ lw_g, w ∈ Ts) (h : Cond.code y b n r ∈ lw_g) : GoodIn Ts (gw y b n r) := by
  intro w hw
  rcases List.mem_cons.mp hw with e | hw
  · rw [e]; exact ⟨hT _ h, gw_good h⟩
  · exact ⟨hT _ hw, gw_good hw⟩
theorem gq_callV (hT : ∀ w ∈ lw_g, w ∈ Ts) (hts : ∀ w ∈ Ts, w.before args s = true) (h1 : Cond.methodLink own index y ∈ lw_g) (h2 : Cond.instanceMethod y ∈ lw_g) (h3 : Cond.selects y.cls y y ∈ lw_g) (h5 : Cond.initialized y.cls ∈ lw_g) (h4 : Cond.code y b n r ∈ lw_g)
    (hd : y.cls ≠ "java/lang/invoke/MethodHandle" ∧ y.cls ≠ "java/lang/invoke/VarHandle" ∧ (parseMethodDescriptor y.desc).map (fun d => d.parameters.length) = some k) (hc : rm.cells = 0) (hs : rm.slots = 0) (hR : rm.frames + 1 ≤ R.frames ∧ 8 + (n + 11) + rm.locals ≤ R.locals) :
    CallW R s args own y.cls index y b n r (gw y b n r) rm 0 0 k :=
  ⟨callB_of k hts (gq_in hT h4) rfl hc hs (hts _ (hT _ h5)) (hts _ (hT _ h1)) hd hR, hts _ (hT _ h2), hts _ (hT _ h3)⟩
theorem gq_callI (hT : ∀ w ∈ lw_g, w ∈ Ts) (hts : ∀ w ∈ Ts, w.before args s = true) (h1 : Cond.methodLink own index y ∈ lw_g) (h2 : Cond.instanceMethod y ∈ lw_g) (h5 : Cond.initialized y.cls ∈ lw_g) (h4 : Cond.code y b n none ∈ lw_g) (hy1 : y.name = "<init>")
    (hd : y.cls ≠ "java/lang/invoke/MethodHandle" ∧ y.cls ≠ "java/lang/invoke/VarHandle" ∧ (parseMethodDescriptor y.desc).map (fun d => d.parameters.length) = some k) (hc : rm.cells = mc) (hs : rm.slots = ms) (hR : rm.frames + 1 ≤ R.frames ∧ 8 + (n + 11) + rm.locals ≤ R.locals) :
    CallB R s args own index y b n none (gw y b n none) rm mc ms k ∧ y.name = "<init>" ∧ (Cond.instanceMethod y).before args s = true :=
  cwI k hts (gq_in hT h4) rfl hc hs (hts _ (hT _ h5)) (hts _ (hT _ h1)) (hts _ (hT _ h2)) hy1 hd hR
theorem gq_callN {host : String} (hT : ∀ w ∈ lw_g, w ∈ Ts) (hts : ∀ w ∈ Ts, w.before args s = true) (hl : va_Nw (.methodLinkNest own index y host) s) (h2 : Cond.instanceMethod y ∈ lw_g) (h5 : Cond.initialized y.cls ∈ lw_g) (h4 : Cond.code y b n none ∈ lw_g) (hy1 : y.name = "<init>")
    (hd : y.cls ≠ "java/lang/invoke/MethodHandle" ∧ y.cls ≠ "java/lang/invoke/VarHandle" ∧ (parseMethodDescriptor y.desc).map (fun d => d.parameters.length) = some k) (hc : rm.cells = mc) (hs : rm.slots = ms) (hR : rm.frames + 1 ≤ R.frames ∧ 8 + (n + 11) + rm.locals ≤ R.locals) :
    va_CN R s args own index y host b n none (gw y b n none) rm mc ms k ∧ y.name = "<init>" ∧ (Cond.instanceMethod y).before args s = true :=
  ⟨va_cnB k hts (gq_in hT h4) rfl hc hs hl (hts _ (hT _ h5)) hd hR, hy1, hts _ (hT _ h2)⟩
end GQ
