theorem tw_9 : (Jvm.Cond.classLink "MotionLabLaw" (7 : Nat) "MotionLab") ∈ lw_g := List.mem_filter.mpr ⟨List.mem_append_right _ (List.mem_of_getElem? (i := 9) (by decide +kernel)), by decide +kernel⟩
theorem tw_10 : (Jvm.Cond.instantiable "MotionLab" (2 : Nat)) ∈ lw_g := List.mem_filter.mpr ⟨List.mem_append_right _ (List.mem_of_getElem? (i := 10) (by decide +kernel)), by decide +kernel⟩
theorem tw_11 : (Jvm.Cond.methodLink "MotionLabLaw" (9 : Nat) ({ cls := "MotionLab", name := "<init>", desc := "()V" } : Jvm.MethodName)) ∈ lw_g := List.mem_filter.mpr ⟨List.mem_append_right _ (List.mem_of_getElem? (i := 11) (by decide +kernel)), by decide +kernel⟩
theorem tw_12 : (Jvm.Cond.instanceMethod ({ cls := "MotionLab", name := "<init>", desc := "()V" } : Jvm.MethodName)) ∈ lw_g := List.mem_filter.mpr ⟨List.mem_append_right _ (List.mem_of_getElem? (i := 12) (by decide +kernel)), by decide +kernel⟩
theorem tw_13 : (Jvm.Cond.code ({ cls := "MotionLab", name := "<init>", desc := "()V" } : Jvm.MethodName) prog_1_method_1_code (1 : Nat) (Option.none : Option Jvm.ClassFile.FieldType)) ∈ lw_g := List.mem_filter.mpr ⟨List.mem_append_right _ (List.mem_of_getElem? (i := 13) (by decide +kernel)), by decide +kernel⟩
theorem tw_412 : (Jvm.Cond.classLink "MotionLabLaw" (10 : Nat) "MotionLabModel") ∈ lw_g := List.mem_filter.mpr ⟨List.mem_append_right _ (List.mem_of_getElem? (i := 412) (by decide +kernel)), by decide +kernel⟩
theorem tw_413 : (Jvm.Cond.instantiable "MotionLabModel" (21 : Nat)) ∈ lw_g := List.mem_filter.mpr ⟨List.mem_append_right _ (List.mem_of_getElem? (i := 413) (by decide +kernel)), by decide +kernel⟩
theorem tw_414 : (Jvm.Cond.methodLink "MotionLabLaw" (12 : Nat) ({ cls := "MotionLabModel", name := "<init>", desc := "()V" } : Jvm.MethodName)) ∈ lw_g := List.mem_filter.mpr ⟨List.mem_append_right _ (List.mem_of_getElem? (i := 414) (by decide +kernel)), by decide +kernel⟩
theorem tw_415 : (Jvm.Cond.instanceMethod ({ cls := "MotionLabModel", name := "<init>", desc := "()V" } : Jvm.MethodName)) ∈ lw_g := List.mem_filter.mpr ⟨List.mem_append_right _ (List.mem_of_getElem? (i := 415) (by decide +kernel)), by decide +kernel⟩
theorem tw_416 : (Jvm.Cond.code ({ cls := "MotionLabModel", name := "<init>", desc := "()V" } : Jvm.MethodName) prog_6_method_31_code (2 : Nat) (Option.none : Option Jvm.ClassFile.FieldType)) ∈ lw_g := List.mem_filter.mpr ⟨List.mem_append_right _ (List.mem_of_getElem? (i := 416) (by decide +kernel)), by decide +kernel⟩
/-! OUR OWN ROWS: the law's loop, and the law from its entry -/
set_option maxHeartbeats 4000000 in
set_option maxRecDepth 100000 in
theorem law_loop {p : Program} {l : Launch} {e : Env} {s : State} {m : MethodId} {below : List Frame} {meth : Method} {c : Code} {dC : Nat → ClassId} {dI : Nat → Nat → Nat} {b L : Nat} {xs : Nat → Int32} {ad bd : Nat → Nat} {cJ cI : ClassId} {t0 t1 t2 : Nat} (hL : L ≤ 3072) (C0 : lw_At p s m meth c b L xs) (hRT : RTA t0 t1 t2 (lwB s) s s.heap) (hK : va_K (dC, dI) classes (tysJI cJ cI) s) :
    ∀ (n i : Nat) (x3 : Int32), i ≤ L → L + 1 ≤ i + n → x3 = nI i → ∀ (S : CS) (M : MS), Rel 0 S M → ∀ (H : Heap) (locs : List Loc), lwG dC dI ad bd cJ cI s S M H locs → ∀ (ls : Array Slot), lwL ls b ad bd x3 → W p l e room_1 s m #[Value.ref b] below meth c H locs 23 279 (lw_Z below #[Value.ref b] s) (F0 m 18 ls []) := by
  have C1 := C0
  obtain ⟨hx, hb, hr, hml, hown, hts, hX, hbl, hlocks, hgv⟩ := C0
  have hA : ∀ q : Nat, s.heap.size ≤ q → lwB s q := fun _ h => h
  have hbA : ¬ lwB s b := Nat.not_le.mpr hbl
  intro n
  induction n with
  | zero =>
    intro i x3 h1 h2
    exact absurd h2 (by omega)
  | succ n ih =>
    intro i x3 hi0 hin ex S M hR H locs G ls hl
    refine lv_iload_n hx hb d_law_18 rfl (lv_at hl 3 rfl) ?_
    refine lv_aload_n hx hb d_law_19 rfl (lv_at hl 0 rfl) ?_
    refine va_slen hx hb hX hbl hbA G.2.2 d_law_20 ?_
    refine lv_bipush (v := (6 : Int32)) hx hb d_law_21 (by decide) ?_
    refine lv_isub hx hb d_law_23 ?_
    refine lv_icmp_gt (tgt := 802) hx hb d_law_24 (by decide) (fun c1 => ?_) (fun c1 => ?_)
    · refine lv_iconst (v := 1) hx hb d_law_802 (by decide) ?_
      refine va_forget (fun q hq => G.2.2.2.2 q hq) ?_
      exact lw_ret hx hb hr hlocks d_law_803
    · have hi := sc_le ex hi0 hL c1
      have kk : ∀ (S1 : CS) (M1 : MS) (H1 : Heap) (locs1 : List Loc) (ls1 : Array Slot), Rel 0 S1 M1 → lwG dC dI ad bd cJ cI s S1 M1 H1 locs1 → lwL ls1 b ad bd x3 → W p l e room_1 s m #[Value.ref b] below meth c H1 locs1 23 279 (lw_Z below #[Value.ref b] s) (F0 m 796 ls1 []) := by
        intro S1 M1 H1 locs1 ls1 hR1 G1 hl1
        obtain ⟨y, ey⟩ : ∃ y : Int32, y = x3 + 6 := ⟨_, rfl⟩
        refine lv_iinc (v := y) (lv' := [(3, .int y), (0, .ref b), (1, .ref (ad 0)), (2, .ref (bd 0))]) hx hb d_law_796 hl1 (k := 3) rfl (by rw [ey]; rfl) (by decide) rfl (fun ls hl => ?_)
        refine lv_goto (tgt := 18) hx hb d_law_799 (by decide) ?_
        exact ih (i + 6) y hi (by omega) (by rw [ey, ex]; exact nI_plus i 6) S1 M1 hR1 _ _ G1 ls (lv_sub hl [1, 2, 3, 0] rfl)
      refine lv_aload_n hx hb d_law_27 rfl (lv_at hl 0 rfl) ?_
      refine lv_iload_n hx hb d_law_28 rfl (lv_at hl 3 rfl) ?_
      refine va_sld hx hb hX hbl hbA G.2.2 (sc_0 ex hi hL) d_law_29 ?_
      refine lv_bipush (v := (31 : Int32)) hx hb d_law_30 (by decide) ?_
      refine lv_iand hx hb d_law_32 ?_
      refine lv_topi (fun v ev => ?_)
      by_cases c2 : v = 0
      · refine lv_tableIn (off := 83) (tgt := 116) hx hb d_law_33 (by rw [c2]; decide) (by rw [c2]; decide) (by rw [c2]; rfl) (by decide) ?_
        exact law_c0 hL C1 hRT hK ex hi hR G hl kk
      by_cases c3 : v = 1
      · refine lv_tableIn (off := 156) (tgt := 189) hx hb d_law_33 (by rw [c3]; decide) (by rw [c3]; decide) (by rw [c3]; rfl) (by decide) ?_
        exact law_c1 hL C1 hRT hK ex hi hR G hl kk
      by_cases c4 : v = 2
      · refine lv_tableIn (off := 219) (tgt := 252) hx hb d_law_33 (by rw [c4]; decide) (by rw [c4]; decide) (by rw [c4]; rfl) (by decide) ?_
        exact law_c2 hL C1 hRT hK ex hi hR G hl kk
      by_cases c5 : v = 3
      · refine lv_tableIn (off := 282) (tgt := 315) hx hb d_law_33 (by rw [c5]; decide) (by rw [c5]; decide) (by rw [c5]; rfl) (by decide) ?_
        exact law_c3 hL C1 hRT hK ex hi hR G hl kk
      by_cases c6 : v = 4
      · refine lv_tableIn (off := 295) (tgt := 328) hx hb d_law_33 (by rw [c6]; decide) (by rw [c6]; decide) (by rw [c6]; rfl) (by decide) ?_
        exact law_c4 hL C1 hRT hK ex hi hR G hl kk
      by_cases c7 : v = 5
      · refine lv_tableIn (off := 318) (tgt := 351) hx hb d_law_33 (by rw [c7]; decide) (by rw [c7]; decide) (by rw [c7]; rfl) (by decide) ?_
        exact law_c5 hL C1 hRT hK ex hi hR G hl kk
      by_cases c8 : v = 6
      · refine lv_tableIn (off := 352) (tgt := 385) hx hb d_law_33 (by rw [c8]; decide) (by rw [c8]; decide) (by rw [c8]; rfl) (by decide) ?_
        exact law_c6 hL C1 hRT hK ex hi hR G hl kk
      by_cases c9 : v = 7
      · refine lv_tableIn (off := 376) (tgt := 409) hx hb d_law_33 (by rw [c9]; decide) (by rw [c9]; decide) (by rw [c9]; rfl) (by decide) ?_
        exact law_c7 hL C1 hRT hK ex hi hR G hl kk
      by_cases c10 : v = 8
      · refine lv_tableIn (off := 439) (tgt := 472) hx hb d_law_33 (by rw [c10]; decide) (by rw [c10]; decide) (by rw [c10]; rfl) (by decide) ?_
        exact law_c8 hL C1 hRT hK ex hi hR G hl kk
      by_cases c11 : v = 9
      · refine lv_tableIn (off := 493) (tgt := 526) hx hb d_law_33 (by rw [c11]; decide) (by rw [c11]; decide) (by rw [c11]; rfl) (by decide) ?_
        exact law_c9 hL C1 hRT hK ex hi hR G hl kk
      by_cases c12 : v = 10
      · refine lv_tableIn (off := 567) (tgt := 600) hx hb d_law_33 (by rw [c12]; decide) (by rw [c12]; decide) (by rw [c12]; rfl) (by decide) ?_
        exact law_c10 hL C1 hRT hK ex hi hR G hl kk
      by_cases c13 : v = 11
      · refine lv_tableIn (off := 601) (tgt := 634) hx hb d_law_33 (by rw [c13]; decide) (by rw [c13]; decide) (by rw [c13]; rfl) (by decide) ?_
        exact law_c11 hL C1 hRT hK ex hi hR G hl kk
      by_cases c14 : v = 12
      · refine lv_tableIn (off := 634) (tgt := 667) hx hb d_law_33 (by rw [c14]; decide) (by rw [c14]; decide) (by rw [c14]; rfl) (by decide) ?_
        exact law_c12 hL C1 hRT hK ex hi hR G hl kk
      by_cases c15 : v = 13
      · refine lv_tableIn (off := 648) (tgt := 681) hx hb d_law_33 (by rw [c15]; decide) (by rw [c15]; decide) (by rw [c15]; rfl) (by decide) ?_
        exact law_c13 hL C1 hRT hK ex hi hR G hl kk
      by_cases c16 : v = 14
      · refine lv_tableIn (off := 682) (tgt := 715) hx hb d_law_33 (by rw [c16]; decide) (by rw [c16]; decide) (by rw [c16]; rfl) (by decide) ?_
        exact law_c14 hL C1 hRT hK ex hi hR G hl kk
      by_cases c17 : v = 15
      · refine lv_tableIn (off := 706) (tgt := 739) hx hb d_law_33 (by rw [c17]; decide) (by rw [c17]; decide) (by rw [c17]; rfl) (by decide) ?_
        exact law_c15 hL C1 hRT hK ex hi hR G hl kk
      by_cases c18 : v = 16
      · refine lv_tableIn (off := 729) (tgt := 762) hx hb d_law_33 (by rw [c18]; decide) (by rw [c18]; decide) (by rw [c18]; rfl) (by decide) ?_
        exact law_c16 hL C1 hRT hK ex hi hR G hl kk
      refine lv_tableOut (tgt := 796) hx hb d_law_33 (sw_out (fun j h1 h2 e => by rcases (show j = 0 ∨ j = 1 ∨ j = 2 ∨ j = 3 ∨ j = 4 ∨ j = 5 ∨ j = 6 ∨ j = 7 ∨ j = 8 ∨ j = 9 ∨ j = 10 ∨ j = 11 ∨ j = 12 ∨ j = 13 ∨ j = 14 ∨ j = 15 ∨ j = 16 by omega) with rfl | rfl | rfl | rfl | rfl | rfl | rfl | rfl | rfl | rfl | rfl | rfl | rfl | rfl | rfl | rfl | rfl <;> first | exact c2 (Int32.toInt_inj.mp (e.trans (by decide))) | exact c3 (Int32.toInt_inj.mp (e.trans (by decide))) | exact c4 (Int32.toInt_inj.mp (e.trans (by decide))) | exact c5 (Int32.toInt_inj.mp (e.trans (by decide))) | exact c6 (Int32.toInt_inj.mp (e.trans (by decide))) | exact c7 (Int32.toInt_inj.mp (e.trans (by decide))) | exact c8 (Int32.toInt_inj.mp (e.trans (by decide))) | exact c9 (Int32.toInt_inj.mp (e.trans (by decide))) | exact c10 (Int32.toInt_inj.mp (e.trans (by decide))) | exact c11 (Int32.toInt_inj.mp (e.trans (by decide))) | exact c12 (Int32.toInt_inj.mp (e.trans (by decide))) | exact c13 (Int32.toInt_inj.mp (e.trans (by decide))) | exact c14 (Int32.toInt_inj.mp (e.trans (by decide))) | exact c15 (Int32.toInt_inj.mp (e.trans (by decide))) | exact c16 (Int32.toInt_inj.mp (e.trans (by decide))) | exact c17 (Int32.toInt_inj.mp (e.trans (by decide))) | exact c18 (Int32.toInt_inj.mp (e.trans (by decide))))) (by decide) ?_
      exact kk S M _ _ _ hR G hl
set_option maxHeartbeats 4000000 in
set_option maxRecDepth 100000 in
theorem whole_start {p : Program} {e : Env} {s : State} {m : MethodId} {below : List Frame} {meth : Method} {c : Code} (l : Launch) {b L : Nat} {xs : Nat → Int32} (hL : L ≤ 3072) (C0 : lw_At p s m meth c b L xs) : W p l e room_1 s m #[Value.ref b] below meth c s.heap [] 0 0 (lw_Z below #[Value.ref b] s) (entryFrame m ([Value.ref b] : List Value).toArray 4) := by
  obtain ⟨hx, hb, hr, hml, hown, hts, hX, hbl, hlocks, hgv⟩ := id C0
  have hA : ∀ q : Nat, s.heap.size ≤ q → lwB s q := fun _ h => h
  have hbA : ¬ lwB s b := Nat.not_le.mpr hbl
  obtain ⟨c0, iS0, hKn0⟩ := u_known (C := R_L) (T := F_L) (N := 2) (n := 2) hts (fun w h => gt (i_L w h)) (hts _ (gt tw_10))
  obtain ⟨c1, iS1, hKn1⟩ := u_known (C := R_P) (T := F_P) (N := 3) (n := 3) hts (fun w h => gt (i_P w h)) (hts _ (gt tw_18))
  obtain ⟨c2, iS2, hKn2⟩ := u_known (C := R_S) (T := F_S) (N := 3) (n := 3) hts (fun w h => gt (i_S w h)) (hts _ (gt tw_24))
  obtain ⟨c3, iS3, hKn3⟩ := u_known (C := R_M) (T := F_M) (N := 21) (n := 21) hts (fun w h => gt (i_M w h)) (hts _ (gt tw_413))
  obtain ⟨dC, dI, hKc⟩ : ∃ (dC : Nat → ClassId) (dI : Nat → Nat → Nat), ∀ (k : Nat) (q : vw_C), classes[k]? = some q → u_Kn s q.1 q.2.1 q.2.2 (dC k) (dI k) := by
    refine ⟨fun k => match k with | 0 => c0 | 1 => c1 | 2 => c2 | _ => c3, fun k => match k with | 0 => iS0 | 1 => iS1 | 2 => iS2 | _ => iS3, ?_⟩
    intro k q hq
    match k, hq with
    | 0, hq => cases hq; exact hKn0
    | 1, hq => cases hq; exact hKn1
    | 2, hq => cases hq; exact hKn2
    | 3, hq => cases hq; exact hKn3
    | k + 4, hq => simp [classes] at hq
  obtain ⟨cJ, kJ, compJ, j1, j2, j3⟩ := Cond.arrayClass_spec (hts _ (gt tw_41))
  obtain ⟨cI, kI, compI, i1, i2, i3⟩ := Cond.arrayClass_spec (hts _ (gt tw_42))
  have hK : va_K (dC, dI) classes (tysJI cJ cI) s := ⟨hKc, fun k q h => by
    match k, h with
    | 0, h => cases h; exact ⟨fun n z => ⟨fun k h => (by cases h), kJ, j2, compJ, j3⟩, j1⟩
    | 1, h => cases h; exact ⟨fun n z => ⟨fun k h => (by cases h), kI, i2, compI, i3⟩, i1⟩
    | k + 2, h => simp [tysJI] at h⟩
  obtain ⟨t0, t1, t2, hRT⟩ := law_tabs (A := lwB s) (fun a h => Nat.not_le.mpr h) hts hgv
  have hN : va_Nw (.methodLinkNest "MotionLab$Plane" 18 ⟨"MotionLab$Springs", "<init>", "()V"⟩ "MotionLab") s := va_Nw.of rfl (hts _ (List.mem_append_right _ (List.mem_of_getElem? (i := 25) (by decide +kernel))))
  have G : hG (dC, dI) classes (lwB s) s.heap [] s.heap [] := ⟨fun k q h => by simp at h, ⟨fun i j p q h => by simp at h, fun k q h => by simp at h⟩, va_S.rf⟩
  have hl := lv_entry ([.ref b]) (n := 4) (Nat.le_of_ble_eq_true rfl)
  rw [lg_entry_eq]
  generalize (lg_sl ([.ref b]) ++ List.replicate (4 - (lg_sl ([.ref b])).length) Slot.unset).toArray = ls at hl ⊢
  have hl : lv_has ls 4 [(0, .ref b)] := hl
  refine va_new (ci := 0) (fs := [.null, .null]) (C := R_L) (T := F_L) (N := 2) hx hb hts (fun w h => gt (i_L w h)) t_L t_L_ok hown (hts _ (gt tw_9)) (hts _ (gt tw_10)) (hts _ (gt tw_1)) hK G.1 G.2.1 G.2.2 hA rfl (fun j hj => by rcases (show j = 0 ∨ j = 1 by omega) with rfl | rfl <;> rfl) (Nat.le_of_ble_eq_true rfl) (Nat.le_of_ble_eq_true rfl) d_law_0 (fun q0 H hP hD hS => ?_)
  have G : hG (dC, dI) classes (lwB s) s.heap ([] ++ [(q0, .inr (0, [.null, .null]))]) H _ := ⟨hP, hD, hS⟩
  refine W.widen (k := 1) (n := 2) (by decide) (by decide) ?_
  refine lv_dup hx hb d_law_3 rfl ?_
  have G : hG (dC, dI) classes (lwB s) s.heap ([(q0, .inr (0, [.null, .null]))] ++ []) H _ := G
  refine hg2_init (As := []) (rest := [.ref q0]) (wa := [(q0, .inr (0, [.null, .null]))]) (wb := []) ⟨hx, hb, hml, hown, hts⟩ (c_L_init l dC dI cJ cI q0 _) (gq_callI (k := 0) (fun w h => gt h) hts tw_11 tw_12 tw_1 tw_13 rfl (by decide +kernel) rfl rfl ⟨Nat.le_of_ble_eq_true rfl, Nat.le_of_ble_eq_true rfl⟩) hK G hA (hx_N hN) rfl hl.1 rfl (Nat.le_of_ble_eq_true rfl) ⟨Nat.le_of_ble_eq_true rfl, Nat.le_of_ble_eq_true rfl⟩ d_law_4 (fun u H locs hu G => ?_)
  obtain ⟨ad, rfl, rfl⟩ := hu
  refine W.widen (k := 8) (n := 136) (by decide) (by decide) ?_
  have G : hG (dC, dI) classes (lwB s) s.heap (cW ad cJ cI zS0) H locs := G
  refine lv_astore_n (lv' := [(1, .ref (ad 0)), (0, .ref b)]) hx hb d_law_7 rfl hl (by decide) rfl (fun ls hl => ?_)
  refine va_new (ci := 3) (fs := [.null, .null, .null, .null, .null, .null, .null, .null, .long 0, .long 0, .long 0, .long 0, .long 0, .long 0, .null, .null, .null, .null, .null, .int 0, .null]) (C := R_M) (T := F_M) (N := 21) hx hb hts (fun w h => gt (i_M w h)) t_M t_M_ok hown (hts _ (gt tw_412)) (hts _ (gt tw_413)) (hts _ (gt tw_4)) hK G.1 G.2.1 G.2.2 hA rfl (fun j hj => by rcases (show j = 0 ∨ j = 1 ∨ j = 2 ∨ j = 3 ∨ j = 4 ∨ j = 5 ∨ j = 6 ∨ j = 7 ∨ j = 8 ∨ j = 9 ∨ j = 10 ∨ j = 11 ∨ j = 12 ∨ j = 13 ∨ j = 14 ∨ j = 15 ∨ j = 16 ∨ j = 17 ∨ j = 18 ∨ j = 19 ∨ j = 20 by omega) with rfl | rfl | rfl | rfl | rfl | rfl | rfl | rfl | rfl | rfl | rfl | rfl | rfl | rfl | rfl | rfl | rfl | rfl | rfl | rfl | rfl <;> rfl) (Nat.le_of_ble_eq_true rfl) (Nat.le_of_ble_eq_true rfl) d_law_8 (fun q1 H hP hD hS => ?_)
  have G : hG (dC, dI) classes (lwB s) s.heap (cW ad cJ cI zS0 ++ [(q1, .inr (3, [.null, .null, .null, .null, .null, .null, .null, .null, .long 0, .long 0, .long 0, .long 0, .long 0, .long 0, .null, .null, .null, .null, .null, .int 0, .null]))]) H _ := ⟨hP, hD, hS⟩
  refine W.widen (k := 9) (n := 157) (by decide) (by decide) ?_
  refine lv_dup hx hb d_law_11 rfl ?_
  have G := hg_swap G
  refine hg2_init (As := []) (rest := [.ref q1]) (wa := [(q1, .inr (3, [.null, .null, .null, .null, .null, .null, .null, .null, .long 0, .long 0, .long 0, .long 0, .long 0, .long 0, .null, .null, .null, .null, .null, .int 0, .null]))]) (wb := (cW ad cJ cI zS0)) ⟨hx, hb, hml, hown, hts⟩ (c_M_init l dC dI cJ cI q1 _) (gq_callI (k := 0) (fun w h => gt h) hts tw_414 tw_415 tw_4 tw_416 rfl (by decide +kernel) rfl rfl ⟨Nat.le_of_ble_eq_true rfl, Nat.le_of_ble_eq_true rfl⟩) hK G hA (hx_T _ _) rfl hl.1 rfl (Nat.le_of_ble_eq_true rfl) ⟨Nat.le_of_ble_eq_true rfl, Nat.le_of_ble_eq_true rfl⟩ d_law_12 (fun u H locs hu G => ?_)
  obtain ⟨bd, rfl, rfl⟩ := hu
  refine W.widen (k := 23) (n := 279) (by decide) (by decide) ?_
  refine lv_astore_n (lv' := [(2, .ref (bd 0)), (1, .ref (ad 0)), (0, .ref b)]) hx hb d_law_15 rfl hl (by decide) rfl (fun ls hl => ?_)
  refine lv_iconst (v := 0) hx hb d_law_16 (by decide) ?_
  refine lv_istore_n (lv' := [(3, .int 0), (2, .ref (bd 0)), (1, .ref (ad 0)), (0, .ref b)]) hx hb d_law_17 rfl hl (by decide) rfl (fun ls hl => ?_)
  exact law_loop hL C0 hRT hK (L + 1) 0 0 (Nat.zero_le L) (by omega) nI_0.symm zS0 zM0 Z_start _ _ G ls (lv_sub hl [3, 2, 1, 0] rfl)
