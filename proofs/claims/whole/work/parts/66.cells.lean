-- ===== MotionLab$Plane.advance()V 
abbrev y_P_advance : MethodName := ⟨"MotionLab$Plane", "advance", "()V"⟩
abbrev b_P_advance : ByteArray := prog_3_method_9_code
theorem d_P_advance_0 : decode b_P_advance 0 = .ok (.iconst 0, 1) := by decide +kernel
theorem d_P_advance_1 : decode b_P_advance 1 = .ok (.istore_n 1, 1) := by decide +kernel
theorem d_P_advance_2 : decode b_P_advance 2 = .ok (.iload_n 1, 1) := by decide +kernel
theorem d_P_advance_3 : decode b_P_advance 3 = .ok (.bipush 8, 2) := by decide +kernel
theorem d_P_advance_5 : decode b_P_advance 5 = .ok (.if_icmp .ge 14, 3) := by decide +kernel
theorem d_P_advance_8 : decode b_P_advance 8 = .ok (.aload_n 0, 1) := by decide +kernel
theorem d_P_advance_9 : decode b_P_advance 9 = .ok (.iload_n 1, 1) := by decide +kernel
theorem d_P_advance_10 : decode b_P_advance 10 = .ok (.invokevirtual 38, 3) := by decide +kernel
theorem d_P_advance_13 : decode b_P_advance 13 = .ok (.iinc 1 1, 3) := by decide +kernel
theorem d_P_advance_16 : decode b_P_advance 16 = .ok (.goto (-14), 3) := by decide +kernel
theorem d_P_advance_19 : decode b_P_advance 19 = .ok (.iconst 0, 1) := by decide +kernel
theorem d_P_advance_20 : decode b_P_advance 20 = .ok (.istore_n 1, 1) := by decide +kernel
theorem d_P_advance_21 : decode b_P_advance 21 = .ok (.iload_n 1, 1) := by decide +kernel
theorem d_P_advance_22 : decode b_P_advance 22 = .ok (.aload_n 0, 1) := by decide +kernel
theorem d_P_advance_23 : decode b_P_advance 23 = .ok (.getfield 19, 3) := by decide +kernel
theorem d_P_advance_26 : decode b_P_advance 26 = .ok (.getfield 42, 3) := by decide +kernel
theorem d_P_advance_29 : decode b_P_advance 29 = .ok (.if_icmp .ge 14, 3) := by decide +kernel
theorem d_P_advance_32 : decode b_P_advance 32 = .ok (.aload_n 0, 1) := by decide +kernel
theorem d_P_advance_33 : decode b_P_advance 33 = .ok (.iload_n 1, 1) := by decide +kernel
theorem d_P_advance_34 : decode b_P_advance 34 = .ok (.invokevirtual 46, 3) := by decide +kernel
theorem d_P_advance_37 : decode b_P_advance 37 = .ok (.iinc 1 1, 3) := by decide +kernel
theorem d_P_advance_40 : decode b_P_advance 40 = .ok (.goto (-19), 3) := by decide +kernel
theorem d_P_advance_43 : decode b_P_advance 43 = .ok (.iconst 0, 1) := by decide +kernel
theorem d_P_advance_44 : decode b_P_advance 44 = .ok (.istore_n 1, 1) := by decide +kernel
theorem d_P_advance_45 : decode b_P_advance 45 = .ok (.iload_n 1, 1) := by decide +kernel
theorem d_P_advance_46 : decode b_P_advance 46 = .ok (.bipush 8, 2) := by decide +kernel
theorem d_P_advance_48 : decode b_P_advance 48 = .ok (.if_icmp .ge 37, 3) := by decide +kernel
theorem d_P_advance_51 : decode b_P_advance 51 = .ok (.aload_n 0, 1) := by decide +kernel
theorem d_P_advance_52 : decode b_P_advance 52 = .ok (.iload_n 1, 1) := by decide +kernel
theorem d_P_advance_53 : decode b_P_advance 53 = .ok (.invokevirtual 49, 3) := by decide +kernel
theorem d_P_advance_56 : decode b_P_advance 56 = .ok (.aload_n 0, 1) := by decide +kernel
theorem d_P_advance_57 : decode b_P_advance 57 = .ok (.iconst 0, 1) := by decide +kernel
theorem d_P_advance_58 : decode b_P_advance 58 = .ok (.iload_n 1, 1) := by decide +kernel
theorem d_P_advance_59 : decode b_P_advance 59 = .ok (.iadd, 1) := by decide +kernel
theorem d_P_advance_60 : decode b_P_advance 60 = .ok (.bipush 16, 2) := by decide +kernel
theorem d_P_advance_62 : decode b_P_advance 62 = .ok (.iload_n 1, 1) := by decide +kernel
theorem d_P_advance_63 : decode b_P_advance 63 = .ok (.iadd, 1) := by decide +kernel
theorem d_P_advance_64 : decode b_P_advance 64 = .ok (.invokevirtual 52, 3) := by decide +kernel
theorem d_P_advance_67 : decode b_P_advance 67 = .ok (.aload_n 0, 1) := by decide +kernel
theorem d_P_advance_68 : decode b_P_advance 68 = .ok (.bipush 8, 2) := by decide +kernel
theorem d_P_advance_70 : decode b_P_advance 70 = .ok (.iload_n 1, 1) := by decide +kernel
theorem d_P_advance_71 : decode b_P_advance 71 = .ok (.iadd, 1) := by decide +kernel
theorem d_P_advance_72 : decode b_P_advance 72 = .ok (.bipush 24, 2) := by decide +kernel
theorem d_P_advance_74 : decode b_P_advance 74 = .ok (.iload_n 1, 1) := by decide +kernel
theorem d_P_advance_75 : decode b_P_advance 75 = .ok (.iadd, 1) := by decide +kernel
theorem d_P_advance_76 : decode b_P_advance 76 = .ok (.invokevirtual 52, 3) := by decide +kernel
theorem d_P_advance_79 : decode b_P_advance 79 = .ok (.iinc 1 1, 3) := by decide +kernel
theorem d_P_advance_82 : decode b_P_advance 82 = .ok (.goto (-37), 3) := by decide +kernel
theorem d_P_advance_85 : decode b_P_advance 85 = .ok (.iconst 0, 1) := by decide +kernel
theorem d_P_advance_86 : decode b_P_advance 86 = .ok (.istore_n 1, 1) := by decide +kernel
theorem d_P_advance_87 : decode b_P_advance 87 = .ok (.iload_n 1, 1) := by decide +kernel
theorem d_P_advance_88 : decode b_P_advance 88 = .ok (.bipush 8, 2) := by decide +kernel
theorem d_P_advance_90 : decode b_P_advance 90 = .ok (.if_icmp .ge 31, 3) := by decide +kernel
theorem d_P_advance_93 : decode b_P_advance 93 = .ok (.iload_n 1, 1) := by decide +kernel
theorem d_P_advance_94 : decode b_P_advance 94 = .ok (.iconst 1, 1) := by decide +kernel
theorem d_P_advance_95 : decode b_P_advance 95 = .ok (.iadd, 1) := by decide +kernel
theorem d_P_advance_96 : decode b_P_advance 96 = .ok (.istore_n 2, 1) := by decide +kernel
theorem d_P_advance_97 : decode b_P_advance 97 = .ok (.iload_n 2, 1) := by decide +kernel
theorem d_P_advance_98 : decode b_P_advance 98 = .ok (.bipush 8, 2) := by decide +kernel
theorem d_P_advance_100 : decode b_P_advance 100 = .ok (.if_icmp .ge 15, 3) := by decide +kernel
theorem d_P_advance_103 : decode b_P_advance 103 = .ok (.aload_n 0, 1) := by decide +kernel
theorem d_P_advance_104 : decode b_P_advance 104 = .ok (.iload_n 1, 1) := by decide +kernel
theorem d_P_advance_105 : decode b_P_advance 105 = .ok (.iload_n 2, 1) := by decide +kernel
theorem d_P_advance_106 : decode b_P_advance 106 = .ok (.invokevirtual 56, 3) := by decide +kernel
theorem d_P_advance_109 : decode b_P_advance 109 = .ok (.iinc 2 1, 3) := by decide +kernel
theorem d_P_advance_112 : decode b_P_advance 112 = .ok (.goto (-15), 3) := by decide +kernel
theorem d_P_advance_115 : decode b_P_advance 115 = .ok (.iinc 1 1, 3) := by decide +kernel
theorem d_P_advance_118 : decode b_P_advance 118 = .ok (.goto (-31), 3) := by decide +kernel
theorem d_P_advance_121 : decode b_P_advance 121 = .ok (.return_, 1) := by decide +kernel
def f_P_advance_21 : Nat → CS → Int32 → CS
  | 0, S, _ => S
  | n + 1, S, x1 =>
    if (sC S) ≤ x1 then
      let S2 : CS := f_P_move_I S (0 : Int32)
      let S5 : CS := f_P_keepInside_II S2 (0 : Int32) (16 : Int32)
      let S8 : CS := f_P_keepInside_II S5 (8 : Int32) (24 : Int32)
      let S9 : CS := f_P_move_I S8 (1 : Int32)
      let S12 : CS := f_P_keepInside_II S9 (1 : Int32) (17 : Int32)
      let S15 : CS := f_P_keepInside_II S12 (9 : Int32) (25 : Int32)
      let S16 : CS := f_P_move_I S15 (2 : Int32)
      let S19 : CS := f_P_keepInside_II S16 (2 : Int32) (18 : Int32)
      let S22 : CS := f_P_keepInside_II S19 (10 : Int32) (26 : Int32)
      let S23 : CS := f_P_move_I S22 (3 : Int32)
      let S26 : CS := f_P_keepInside_II S23 (3 : Int32) (19 : Int32)
      let S29 : CS := f_P_keepInside_II S26 (11 : Int32) (27 : Int32)
      let S30 : CS := f_P_move_I S29 (4 : Int32)
      let S33 : CS := f_P_keepInside_II S30 (4 : Int32) (20 : Int32)
      let S36 : CS := f_P_keepInside_II S33 (12 : Int32) (28 : Int32)
      let S37 : CS := f_P_move_I S36 (5 : Int32)
      let S40 : CS := f_P_keepInside_II S37 (5 : Int32) (21 : Int32)
      let S43 : CS := f_P_keepInside_II S40 (13 : Int32) (29 : Int32)
      let S44 : CS := f_P_move_I S43 (6 : Int32)
      let S47 : CS := f_P_keepInside_II S44 (6 : Int32) (22 : Int32)
      let S50 : CS := f_P_keepInside_II S47 (14 : Int32) (30 : Int32)
      let S51 : CS := f_P_move_I S50 (7 : Int32)
      let S54 : CS := f_P_keepInside_II S51 (7 : Int32) (23 : Int32)
      let S57 : CS := f_P_keepInside_II S54 (15 : Int32) (31 : Int32)
      let S59 : CS := f_P_collide_II S57 (0 : Int32) (1 : Int32)
      let S60 : CS := f_P_collide_II S59 (0 : Int32) (2 : Int32)
      let S61 : CS := f_P_collide_II S60 (0 : Int32) (3 : Int32)
      let S62 : CS := f_P_collide_II S61 (0 : Int32) (4 : Int32)
      let S63 : CS := f_P_collide_II S62 (0 : Int32) (5 : Int32)
      let S64 : CS := f_P_collide_II S63 (0 : Int32) (6 : Int32)
      let S65 : CS := f_P_collide_II S64 (0 : Int32) (7 : Int32)
      let S67 : CS := f_P_collide_II S65 (1 : Int32) (2 : Int32)
      let S68 : CS := f_P_collide_II S67 (1 : Int32) (3 : Int32)
      let S69 : CS := f_P_collide_II S68 (1 : Int32) (4 : Int32)
      let S70 : CS := f_P_collide_II S69 (1 : Int32) (5 : Int32)
      let S71 : CS := f_P_collide_II S70 (1 : Int32) (6 : Int32)
      let S72 : CS := f_P_collide_II S71 (1 : Int32) (7 : Int32)
      let S74 : CS := f_P_collide_II S72 (2 : Int32) (3 : Int32)
      let S75 : CS := f_P_collide_II S74 (2 : Int32) (4 : Int32)
      let S76 : CS := f_P_collide_II S75 (2 : Int32) (5 : Int32)
      let S77 : CS := f_P_collide_II S76 (2 : Int32) (6 : Int32)
      let S78 : CS := f_P_collide_II S77 (2 : Int32) (7 : Int32)
      let S80 : CS := f_P_collide_II S78 (3 : Int32) (4 : Int32)
      let S81 : CS := f_P_collide_II S80 (3 : Int32) (5 : Int32)
      let S82 : CS := f_P_collide_II S81 (3 : Int32) (6 : Int32)
      let S83 : CS := f_P_collide_II S82 (3 : Int32) (7 : Int32)
      let S85 : CS := f_P_collide_II S83 (4 : Int32) (5 : Int32)
      let S86 : CS := f_P_collide_II S85 (4 : Int32) (6 : Int32)
      let S87 : CS := f_P_collide_II S86 (4 : Int32) (7 : Int32)
      let S89 : CS := f_P_collide_II S87 (5 : Int32) (6 : Int32)
      let S90 : CS := f_P_collide_II S89 (5 : Int32) (7 : Int32)
      let S92 : CS := f_P_collide_II S90 (6 : Int32) (7 : Int32)
      S92
    else
      let S94 : CS := f_P_pullBySpring_I S x1
      let v95 : Int32 := x1 + 1
      f_P_advance_21 n S94 v95
set_option maxHeartbeats 4000000 in
set_option maxRecDepth 100000 in
theorem k_P_advance_21 {p : Program} {l : Launch} {e : Env} {s : State} {m : MethodId} {args : Array Value} {below : List Frame} {meth : Method} {c : Code} {A : Nat → Prop} {dC : Nat → ClassId} {dI : Nat → Nat → Nat} {ad : Nat → Nat} {cJ cI : ClassId} {W0 : va_W} {sz : Nat} (C0 : pu_C p s m args meth c b_P_advance 3 "MotionLab$Plane" none (gw y_P_advance b_P_advance 3 none)) (hK : va_K (dC, dI) classes (tysJI cJ cI) s) (hAe : va_A W0 sz = A) (hA : ∀ q : Nat, s.heap.size ≤ q → A q) (n : Nat) : ∀ (S : CS) (x1 : Int32) (hOK : cOK S) (hinv : ∃ j : Nat, x1 = nI j ∧ j ≤ (sC S).toNatClampNeg ∧ (sC S).toNatClampNeg - j < n) (H : Heap) (locs : List Loc) (G : hG (dC, dI) classes A s.heap (cW ad cJ cI S) H locs) (ls : Array Slot) (hl : lv_has ls 3 [(0, .ref (ad 1)), (1, .int x1)]) {w : CS} (hw : w = f_P_advance_21 n S x1), W p l e (headSpec (gw y_P_advance b_P_advance 3 none) ({ frames := 6, cells := 0, slots := 0, locals := 176 } : Room)).room s m args below meth c H locs 0 0 (MQ below (hQv (dC, dI) classes (tysJI cJ cI) W0 sz (cW ad cJ cI w)) args s 0 0 A) (F0 m 21 ls []) := by
  obtain ⟨hx, hb, hml, hown, hts, hr, hlocks⟩ := id C0
  induction n with
  | zero => intro S x1 hOK hinv H locs G ls hl w hw; exact (fl_zero hinv).elim
  | succ n ih =>
    intro S x1 hOK hinv H locs G ls hl w hw
    refine lv_iload_n hx hb d_P_advance_21 rfl (lv_at hl 1 rfl) ?_
    refine lv_aload_n hx hb d_P_advance_22 rfl (lv_at hl 0 rfl) ?_
    refine va_get (D := (dC, dI)) (ci := 1) (v := .ref (ad 5)) (C := R_P) (T := F_P) (N := 3) hx hb hts (fun w h => gm (i_P w h)) hown hK G.1 1 rfl rfl 2 (by decide) (hts _ (gm tw_48)) (fun _ h9 => h9) rfl d_P_advance_23 ?_
    refine va_get (D := (dC, dI)) (ci := 2) (v := .int (sC S)) (C := R_S) (T := F_S) (N := 3) hx hb hts (fun w h => gm (i_S w h)) hown hK G.1 5 rfl rfl 2 (by decide) (hts _ (gm tw_33)) (fun _ h9 => h9) rfl d_P_advance_26 ?_
    refine lv_icmp_ge (tgt := 43) hx hb d_P_advance_29 (by decide) (fun c1 => ?_) (fun c1 => ?_)
    · refine lv_iconst (v := 0) hx hb d_P_advance_43 (by decide) ?_
      refine lv_istore_n (lv' := [(1, .int (0 : Int32)), (0, .ref (ad 1))]) hx hb d_P_advance_44 rfl hl (by decide) rfl (fun ls hl => ?_)
      refine lv_iload_n hx hb d_P_advance_45 rfl (lv_at hl 0 rfl) ?_
      refine lv_bipush (v := (8 : Int32)) hx hb d_P_advance_46 (by decide) ?_
      refine lv_icmp_ge (tgt := 85) hx hb d_P_advance_48 (by decide) (fun c0 => absurd c0 (by decide)) (fun _ => ?_)
      refine lv_aload_n hx hb d_P_advance_51 rfl (lv_at hl 1 rfl) ?_
      refine lv_iload_n hx hb d_P_advance_52 rfl (lv_at hl 0 rfl) ?_
      obtain ⟨S2, e2⟩ : ∃ z : CS, z = f_P_move_I S (0 : Int32) := ⟨_, rfl⟩
      refine hg_cv (As := [.int (0 : Int32)]) (rest := []) ⟨hx, hb, hml, hown, hts⟩ (c_P_move_I l dC dI ad cJ cI S (0 : Int32) (in_of (by decide) (by decide)) _) (gw_callV (k := 1) hts tw_250 tw_252 tp_2 tw_2 tw_253 (by decide +kernel) rfl rfl ⟨Nat.le_of_ble_eq_true rfl, Nat.le_of_ble_eq_true rfl⟩) hK G hA (hx_T _ _) 1 1 rfl rfl rfl hl.1 rfl (Nat.le_of_ble_eq_true rfl) ⟨Nat.zero_le _, Nat.zero_le _⟩ d_P_advance_53 (fun H locs G => ?_)
      rw [← e2] at G
      refine lv_aload_n hx hb d_P_advance_56 rfl (lv_at hl 1 rfl) ?_
      refine lv_iconst (v := 0) hx hb d_P_advance_57 (by decide) ?_
      refine lv_iload_n hx hb d_P_advance_58 rfl (lv_at hl 0 rfl) ?_
      refine lv_iadd hx hb d_P_advance_59 ?_
      refine lv_topi (fun v3 e3 => ?_)
      obtain rfl : v3 = (0 : Int32) := by rw [e3]; decide
      refine lv_bipush (v := (16 : Int32)) hx hb d_P_advance_60 (by decide) ?_
      refine lv_iload_n hx hb d_P_advance_62 rfl (lv_at hl 0 rfl) ?_
      refine lv_iadd hx hb d_P_advance_63 ?_
      refine lv_topi (fun v4 e4 => ?_)
      obtain rfl : v4 = (16 : Int32) := by rw [e4]; decide
      obtain ⟨S5, e5⟩ : ∃ z : CS, z = f_P_keepInside_II S2 (0 : Int32) (16 : Int32) := ⟨_, rfl⟩
      refine hg_cv (As := [.int (0 : Int32), .int (16 : Int32)]) (rest := []) ⟨hx, hb, hml, hown, hts⟩ (c_P_keepInside_II l dC dI ad cJ cI S2 (0 : Int32) (16 : Int32) (in_of (by decide) (by decide)) (in_of (by decide) (by decide)) _) (gw_callV (k := 2) hts tw_258 tw_260 tp_4 tw_2 tw_261 (by decide +kernel) rfl rfl ⟨Nat.le_of_ble_eq_true rfl, Nat.le_of_ble_eq_true rfl⟩) hK G hA (hx_T _ _) 1 1 rfl rfl rfl hl.1 rfl (Nat.le_of_ble_eq_true rfl) ⟨Nat.zero_le _, Nat.zero_le _⟩ d_P_advance_64 (fun H locs G => ?_)
      rw [← e5] at G
      refine lv_aload_n hx hb d_P_advance_67 rfl (lv_at hl 1 rfl) ?_
      refine lv_bipush (v := (8 : Int32)) hx hb d_P_advance_68 (by decide) ?_
      refine lv_iload_n hx hb d_P_advance_70 rfl (lv_at hl 0 rfl) ?_
      refine lv_iadd hx hb d_P_advance_71 ?_
      refine lv_topi (fun v6 e6 => ?_)
      obtain rfl : v6 = (8 : Int32) := by rw [e6]; decide
      refine lv_bipush (v := (24 : Int32)) hx hb d_P_advance_72 (by decide) ?_
      refine lv_iload_n hx hb d_P_advance_74 rfl (lv_at hl 0 rfl) ?_
      refine lv_iadd hx hb d_P_advance_75 ?_
      refine lv_topi (fun v7 e7 => ?_)
      obtain rfl : v7 = (24 : Int32) := by rw [e7]; decide
      obtain ⟨S8, e8⟩ : ∃ z : CS, z = f_P_keepInside_II S5 (8 : Int32) (24 : Int32) := ⟨_, rfl⟩
      refine hg_cv (As := [.int (8 : Int32), .int (24 : Int32)]) (rest := []) ⟨hx, hb, hml, hown, hts⟩ (c_P_keepInside_II l dC dI ad cJ cI S5 (8 : Int32) (24 : Int32) (in_of (by decide) (by decide)) (in_of (by decide) (by decide)) _) (gw_callV (k := 2) hts tw_258 tw_260 tp_4 tw_2 tw_261 (by decide +kernel) rfl rfl ⟨Nat.le_of_ble_eq_true rfl, Nat.le_of_ble_eq_true rfl⟩) hK G hA (hx_T _ _) 1 1 rfl rfl rfl hl.1 rfl (Nat.le_of_ble_eq_true rfl) ⟨Nat.zero_le _, Nat.zero_le _⟩ d_P_advance_76 (fun H locs G => ?_)
      rw [← e8] at G
      refine lv_iinc (v := (1 : Int32)) (lv' := [(1, .int (1 : Int32)), (0, .ref (ad 1))]) hx hb d_P_advance_79 hl (k := 0) rfl (by decide) (by decide) rfl (fun ls hl => ?_)
      refine lv_goto (tgt := 45) hx hb d_P_advance_82 (by decide) ?_
      refine lv_iload_n hx hb d_P_advance_45 rfl (lv_at hl 0 rfl) ?_
      refine lv_bipush (v := (8 : Int32)) hx hb d_P_advance_46 (by decide) ?_
      refine lv_icmp_ge (tgt := 85) hx hb d_P_advance_48 (by decide) (fun c0 => absurd c0 (by decide)) (fun _ => ?_)
      refine lv_aload_n hx hb d_P_advance_51 rfl (lv_at hl 1 rfl) ?_
      refine lv_iload_n hx hb d_P_advance_52 rfl (lv_at hl 0 rfl) ?_
      obtain ⟨S9, e9⟩ : ∃ z : CS, z = f_P_move_I S8 (1 : Int32) := ⟨_, rfl⟩
      refine hg_cv (As := [.int (1 : Int32)]) (rest := []) ⟨hx, hb, hml, hown, hts⟩ (c_P_move_I l dC dI ad cJ cI S8 (1 : Int32) (in_of (by decide) (by decide)) _) (gw_callV (k := 1) hts tw_250 tw_252 tp_2 tw_2 tw_253 (by decide +kernel) rfl rfl ⟨Nat.le_of_ble_eq_true rfl, Nat.le_of_ble_eq_true rfl⟩) hK G hA (hx_T _ _) 1 1 rfl rfl rfl hl.1 rfl (Nat.le_of_ble_eq_true rfl) ⟨Nat.zero_le _, Nat.zero_le _⟩ d_P_advance_53 (fun H locs G => ?_)
      rw [← e9] at G
      refine lv_aload_n hx hb d_P_advance_56 rfl (lv_at hl 1 rfl) ?_
      refine lv_iconst (v := 0) hx hb d_P_advance_57 (by decide) ?_
      refine lv_iload_n hx hb d_P_advance_58 rfl (lv_at hl 0 rfl) ?_
      refine lv_iadd hx hb d_P_advance_59 ?_
      refine lv_topi (fun v10 e10 => ?_)
      obtain rfl : v10 = (1 : Int32) := by rw [e10]; decide
      refine lv_bipush (v := (16 : Int32)) hx hb d_P_advance_60 (by decide) ?_
      refine lv_iload_n hx hb d_P_advance_62 rfl (lv_at hl 0 rfl) ?_
      refine lv_iadd hx hb d_P_advance_63 ?_
      refine lv_topi (fun v11 e11 => ?_)
      obtain rfl : v11 = (17 : Int32) := by rw [e11]; decide
      obtain ⟨S12, e12⟩ : ∃ z : CS, z = f_P_keepInside_II S9 (1 : Int32) (17 : Int32) := ⟨_, rfl⟩
      refine hg_cv (As := [.int (1 : Int32), .int (17 : Int32)]) (rest := []) ⟨hx, hb, hml, hown, hts⟩ (c_P_keepInside_II l dC dI ad cJ cI S9 (1 : Int32) (17 : Int32) (in_of (by decide) (by decide)) (in_of (by decide) (by decide)) _) (gw_callV (k := 2) hts tw_258 tw_260 tp_4 tw_2 tw_261 (by decide +kernel) rfl rfl ⟨Nat.le_of_ble_eq_true rfl, Nat.le_of_ble_eq_true rfl⟩) hK G hA (hx_T _ _) 1 1 rfl rfl rfl hl.1 rfl (Nat.le_of_ble_eq_true rfl) ⟨Nat.zero_le _, Nat.zero_le _⟩ d_P_advance_64 (fun H locs G => ?_)
      rw [← e12] at G
      refine lv_aload_n hx hb d_P_advance_67 rfl (lv_at hl 1 rfl) ?_
      refine lv_bipush (v := (8 : Int32)) hx hb d_P_advance_68 (by decide) ?_
      refine lv_iload_n hx hb d_P_advance_70 rfl (lv_at hl 0 rfl) ?_
      refine lv_iadd hx hb d_P_advance_71 ?_
      refine lv_topi (fun v13 e13 => ?_)
      obtain rfl : v13 = (9 : Int32) := by rw [e13]; decide
      refine lv_bipush (v := (24 : Int32)) hx hb d_P_advance_72 (by decide) ?_
      refine lv_iload_n hx hb d_P_advance_74 rfl (lv_at hl 0 rfl) ?_
      refine lv_iadd hx hb d_P_advance_75 ?_
      refine lv_topi (fun v14 e14 => ?_)
      obtain rfl : v14 = (25 : Int32) := by rw [e14]; decide
      obtain ⟨S15, e15⟩ : ∃ z : CS, z = f_P_keepInside_II S12 (9 : Int32) (25 : Int32) := ⟨_, rfl⟩
      refine hg_cv (As := [.int (9 : Int32), .int (25 : Int32)]) (rest := []) ⟨hx, hb, hml, hown, hts⟩ (c_P_keepInside_II l dC dI ad cJ cI S12 (9 : Int32) (25 : Int32) (in_of (by decide) (by decide)) (in_of (by decide) (by decide)) _) (gw_callV (k := 2) hts tw_258 tw_260 tp_4 tw_2 tw_261 (by decide +kernel) rfl rfl ⟨Nat.le_of_ble_eq_true rfl, Nat.le_of_ble_eq_true rfl⟩) hK G hA (hx_T _ _) 1 1 rfl rfl rfl hl.1 rfl (Nat.le_of_ble_eq_true rfl) ⟨Nat.zero_le _, Nat.zero_le _⟩ d_P_advance_76 (fun H locs G => ?_)
      rw [← e15] at G
      refine lv_iinc (v := (2 : Int32)) (lv' := [(1, .int (2 : Int32)), (0, .ref (ad 1))]) hx hb d_P_advance_79 hl (k := 0) rfl (by decide) (by decide) rfl (fun ls hl => ?_)
      refine lv_goto (tgt := 45) hx hb d_P_advance_82 (by decide) ?_
      refine lv_iload_n hx hb d_P_advance_45 rfl (lv_at hl 0 rfl) ?_
      refine lv_bipush (v := (8 : Int32)) hx hb d_P_advance_46 (by decide) ?_
      refine lv_icmp_ge (tgt := 85) hx hb d_P_advance_48 (by decide) (fun c0 => absurd c0 (by decide)) (fun _ => ?_)
      refine lv_aload_n hx hb d_P_advance_51 rfl (lv_at hl 1 rfl) ?_
      refine lv_iload_n hx hb d_P_advance_52 rfl (lv_at hl 0 rfl) ?_
      obtain ⟨S16, e16⟩ : ∃ z : CS, z = f_P_move_I S15 (2 : Int32) := ⟨_, rfl⟩
      refine hg_cv (As := [.int (2 : Int32)]) (rest := []) ⟨hx, hb, hml, hown, hts⟩ (c_P_move_I l dC dI ad cJ cI S15 (2 : Int32) (in_of (by decide) (by decide)) _) (gw_callV (k := 1) hts tw_250 tw_252 tp_2 tw_2 tw_253 (by decide +kernel) rfl rfl ⟨Nat.le_of_ble_eq_true rfl, Nat.le_of_ble_eq_true rfl⟩) hK G hA (hx_T _ _) 1 1 rfl rfl rfl hl.1 rfl (Nat.le_of_ble_eq_true rfl) ⟨Nat.zero_le _, Nat.zero_le _⟩ d_P_advance_53 (fun H locs G => ?_)
      rw [← e16] at G
      refine lv_aload_n hx hb d_P_advance_56 rfl (lv_at hl 1 rfl) ?_
      refine lv_iconst (v := 0) hx hb d_P_advance_57 (by decide) ?_
      refine lv_iload_n hx hb d_P_advance_58 rfl (lv_at hl 0 rfl) ?_
      refine lv_iadd hx hb d_P_advance_59 ?_
      refine lv_topi (fun v17 e17 => ?_)
      obtain rfl : v17 = (2 : Int32) := by rw [e17]; decide
      refine lv_bipush (v := (16 : Int32)) hx hb d_P_advance_60 (by decide) ?_
      refine lv_iload_n hx hb d_P_advance_62 rfl (lv_at hl 0 rfl) ?_
      refine lv_iadd hx hb d_P_advance_63 ?_
      refine lv_topi (fun v18 e18 => ?_)
      obtain rfl : v18 = (18 : Int32) := by rw [e18]; decide
      obtain ⟨S19, e19⟩ : ∃ z : CS, z = f_P_keepInside_II S16 (2 : Int32) (18 : Int32) := ⟨_, rfl⟩
      refine hg_cv (As := [.int (2 : Int32), .int (18 : Int32)]) (rest := []) ⟨hx, hb, hml, hown, hts⟩ (c_P_keepInside_II l dC dI ad cJ cI S16 (2 : Int32) (18 : Int32) (in_of (by decide) (by decide)) (in_of (by decide) (by decide)) _) (gw_callV (k := 2) hts tw_258 tw_260 tp_4 tw_2 tw_261 (by decide +kernel) rfl rfl ⟨Nat.le_of_ble_eq_true rfl, Nat.le_of_ble_eq_true rfl⟩) hK G hA (hx_T _ _) 1 1 rfl rfl rfl hl.1 rfl (Nat.le_of_ble_eq_true rfl) ⟨Nat.zero_le _, Nat.zero_le _⟩ d_P_advance_64 (fun H locs G => ?_)
      rw [← e19] at G
      refine lv_aload_n hx hb d_P_advance_67 rfl (lv_at hl 1 rfl) ?_
      refine lv_bipush (v := (8 : Int32)) hx hb d_P_advance_68 (by decide) ?_
      refine lv_iload_n hx hb d_P_advance_70 rfl (lv_at hl 0 rfl) ?_
      refine lv_iadd hx hb d_P_advance_71 ?_
      refine lv_topi (fun v20 e20 => ?_)
      obtain rfl : v20 = (10 : Int32) := by rw [e20]; decide
      refine lv_bipush (v := (24 : Int32)) hx hb d_P_advance_72 (by decide) ?_
      refine lv_iload_n hx hb d_P_advance_74 rfl (lv_at hl 0 rfl) ?_
      refine lv_iadd hx hb d_P_advance_75 ?_
      refine lv_topi (fun v21 e21 => ?_)
      obtain rfl : v21 = (26 : Int32) := by rw [e21]; decide
      obtain ⟨S22, e22⟩ : ∃ z : CS, z = f_P_keepInside_II S19 (10 : Int32) (26 : Int32) := ⟨_, rfl⟩
      refine hg_cv (As := [.int (10 : Int32), .int (26 : Int32)]) (rest := []) ⟨hx, hb, hml, hown, hts⟩ (c_P_keepInside_II l dC dI ad cJ cI S19 (10 : Int32) (26 : Int32) (in_of (by decide) (by decide)) (in_of (by decide) (by decide)) _) (gw_callV (k := 2) hts tw_258 tw_260 tp_4 tw_2 tw_261 (by decide +kernel) rfl rfl ⟨Nat.le_of_ble_eq_true rfl, Nat.le_of_ble_eq_true rfl⟩) hK G hA (hx_T _ _) 1 1 rfl rfl rfl hl.1 rfl (Nat.le_of_ble_eq_true rfl) ⟨Nat.zero_le _, Nat.zero_le _⟩ d_P_advance_76 (fun H locs G => ?_)
      rw [← e22] at G
      refine lv_iinc (v := (3 : Int32)) (lv' := [(1, .int (3 : Int32)), (0, .ref (ad 1))]) hx hb d_P_advance_79 hl (k := 0) rfl (by decide) (by decide) rfl (fun ls hl => ?_)
      refine lv_goto (tgt := 45) hx hb d_P_advance_82 (by decide) ?_
      refine lv_iload_n hx hb d_P_advance_45 rfl (lv_at hl 0 rfl) ?_
      refine lv_bipush (v := (8 : Int32)) hx hb d_P_advance_46 (by decide) ?_
      refine lv_icmp_ge (tgt := 85) hx hb d_P_advance_48 (by decide) (fun c0 => absurd c0 (by decide)) (fun _ => ?_)
      refine lv_aload_n hx hb d_P_advance_51 rfl (lv_at hl 1 rfl) ?_
      refine lv_iload_n hx hb d_P_advance_52 rfl (lv_at hl 0 rfl) ?_
      obtain ⟨S23, e23⟩ : ∃ z : CS, z = f_P_move_I S22 (3 : Int32) := ⟨_, rfl⟩
      refine hg_cv (As := [.int (3 : Int32)]) (rest := []) ⟨hx, hb, hml, hown, hts⟩ (c_P_move_I l dC dI ad cJ cI S22 (3 : Int32) (in_of (by decide) (by decide)) _) (gw_callV (k := 1) hts tw_250 tw_252 tp_2 tw_2 tw_253 (by decide +kernel) rfl rfl ⟨Nat.le_of_ble_eq_true rfl, Nat.le_of_ble_eq_true rfl⟩) hK G hA (hx_T _ _) 1 1 rfl rfl rfl hl.1 rfl (Nat.le_of_ble_eq_true rfl) ⟨Nat.zero_le _, Nat.zero_le _⟩ d_P_advance_53 (fun H locs G => ?_)
      rw [← e23] at G
      refine lv_aload_n hx hb d_P_advance_56 rfl (lv_at hl 1 rfl) ?_
      refine lv_iconst (v := 0) hx hb d_P_advance_57 (by decide) ?_
      refine lv_iload_n hx hb d_P_advance_58 rfl (lv_at hl 0 rfl) ?_
      refine lv_iadd hx hb d_P_advance_59 ?_
      refine lv_topi (fun v24 e24 => ?_)
      obtain rfl : v24 = (3 : Int32) := by rw [e24]; decide
      refine lv_bipush (v := (16 : Int32)) hx hb d_P_advance_60 (by decide) ?_
      refine lv_iload_n hx hb d_P_advance_62 rfl (lv_at hl 0 rfl) ?_
      refine lv_iadd hx hb d_P_advance_63 ?_
      refine lv_topi (fun v25 e25 => ?_)
      obtain rfl : v25 = (19 : Int32) := by rw [e25]; decide
      obtain ⟨S26, e26⟩ : ∃ z : CS, z = f_P_keepInside_II S23 (3 : Int32) (19 : Int32) := ⟨_, rfl⟩
      refine hg_cv (As := [.int (3 : Int32), .int (19 : Int32)]) (rest := []) ⟨hx, hb, hml, hown, hts⟩ (c_P_keepInside_II l dC dI ad cJ cI S23 (3 : Int32) (19 : Int32) (in_of (by decide) (by decide)) (in_of (by decide) (by decide)) _) (gw_callV (k := 2) hts tw_258 tw_260 tp_4 tw_2 tw_261 (by decide +kernel) rfl rfl ⟨Nat.le_of_ble_eq_true rfl, Nat.le_of_ble_eq_true rfl⟩) hK G hA (hx_T _ _) 1 1 rfl rfl rfl hl.1 rfl (Nat.le_of_ble_eq_true rfl) ⟨Nat.zero_le _, Nat.zero_le _⟩ d_P_advance_64 (fun H locs G => ?_)
      rw [← e26] at G
      refine lv_aload_n hx hb d_P_advance_67 rfl (lv_at hl 1 rfl) ?_
      refine lv_bipush (v := (8 : Int32)) hx hb d_P_advance_68 (by decide) ?_
      refine lv_iload_n hx hb d_P_advance_70 rfl (lv_at hl 0 rfl) ?_
      refine lv_iadd hx hb d_P_advance_71 ?_
      refine lv_topi (fun v27 e27 => ?_)
      obtain rfl : v27 = (11 : Int32) := by rw [e27]; decide
      refine lv_bipush (v := (24 : Int32)) hx hb d_P_advance_72 (by decide) ?_
      refine lv_iload_n hx hb d_P_advance_74 rfl (lv_at hl 0 rfl) ?_
      refine lv_iadd hx hb d_P_advance_75 ?_
      refine lv_topi (fun v28 e28 => ?_)
      obtain rfl : v28 = (27 : Int32) := by rw [e28]; decide
      obtain ⟨S29, e29⟩ : ∃ z : CS, z = f_P_keepInside_II S26 (11 : Int32) (27 : Int32) := ⟨_, rfl⟩
      refine hg_cv (As := [.int (11 : Int32), .int (27 : Int32)]) (rest := []) ⟨hx, hb, hml, hown, hts⟩ (c_P_keepInside_II l dC dI ad cJ cI S26 (11 : Int32) (27 : Int32) (in_of (by decide) (by decide)) (in_of (by decide) (by decide)) _) (gw_callV (k := 2) hts tw_258 tw_260 tp_4 tw_2 tw_261 (by decide +kernel) rfl rfl ⟨Nat.le_of_ble_eq_true rfl, Nat.le_of_ble_eq_true rfl⟩) hK G hA (hx_T _ _) 1 1 rfl rfl rfl hl.1 rfl (Nat.le_of_ble_eq_true rfl) ⟨Nat.zero_le _, Nat.zero_le _⟩ d_P_advance_76 (fun H locs G => ?_)
      rw [← e29] at G
      refine lv_iinc (v := (4 : Int32)) (lv' := [(1, .int (4 : Int32)), (0, .ref (ad 1))]) hx hb d_P_advance_79 hl (k := 0) rfl (by decide) (by decide) rfl (fun ls hl => ?_)
      refine lv_goto (tgt := 45) hx hb d_P_advance_82 (by decide) ?_
      refine lv_iload_n hx hb d_P_advance_45 rfl (lv_at hl 0 rfl) ?_
      refine lv_bipush (v := (8 : Int32)) hx hb d_P_advance_46 (by decide) ?_
      refine lv_icmp_ge (tgt := 85) hx hb d_P_advance_48 (by decide) (fun c0 => absurd c0 (by decide)) (fun _ => ?_)
      refine lv_aload_n hx hb d_P_advance_51 rfl (lv_at hl 1 rfl) ?_
      refine lv_iload_n hx hb d_P_advance_52 rfl (lv_at hl 0 rfl) ?_
      obtain ⟨S30, e30⟩ : ∃ z : CS, z = f_P_move_I S29 (4 : Int32) := ⟨_, rfl⟩
      refine hg_cv (As := [.int (4 : Int32)]) (rest := []) ⟨hx, hb, hml, hown, hts⟩ (c_P_move_I l dC dI ad cJ cI S29 (4 : Int32) (in_of (by decide) (by decide)) _) (gw_callV (k := 1) hts tw_250 tw_252 tp_2 tw_2 tw_253 (by decide +kernel) rfl rfl ⟨Nat.le_of_ble_eq_true rfl, Nat.le_of_ble_eq_true rfl⟩) hK G hA (hx_T _ _) 1 1 rfl rfl rfl hl.1 rfl (Nat.le_of_ble_eq_true rfl) ⟨Nat.zero_le _, Nat.zero_le _⟩ d_P_advance_53 (fun H locs G => ?_)
      rw [← e30] at G
      refine lv_aload_n hx hb d_P_advance_56 rfl (lv_at hl 1 rfl) ?_
      refine lv_iconst (v := 0) hx hb d_P_advance_57 (by decide) ?_
      refine lv_iload_n hx hb d_P_advance_58 rfl (lv_at hl 0 rfl) ?_
      refine lv_iadd hx hb d_P_advance_59 ?_
      refine lv_topi (fun v31 e31 => ?_)
      obtain rfl : v31 = (4 : Int32) := by rw [e31]; decide
      refine lv_bipush (v := (16 : Int32)) hx hb d_P_advance_60 (by decide) ?_
      refine lv_iload_n hx hb d_P_advance_62 rfl (lv_at hl 0 rfl) ?_
      refine lv_iadd hx hb d_P_advance_63 ?_
      refine lv_topi (fun v32 e32 => ?_)
      obtain rfl : v32 = (20 : Int32) := by rw [e32]; decide
      obtain ⟨S33, e33⟩ : ∃ z : CS, z = f_P_keepInside_II S30 (4 : Int32) (20 : Int32) := ⟨_, rfl⟩
      refine hg_cv (As := [.int (4 : Int32), .int (20 : Int32)]) (rest := []) ⟨hx, hb, hml, hown, hts⟩ (c_P_keepInside_II l dC dI ad cJ cI S30 (4 : Int32) (20 : Int32) (in_of (by decide) (by decide)) (in_of (by decide) (by decide)) _) (gw_callV (k := 2) hts tw_258 tw_260 tp_4 tw_2 tw_261 (by decide +kernel) rfl rfl ⟨Nat.le_of_ble_eq_true rfl, Nat.le_of_ble_eq_true rfl⟩) hK G hA (hx_T _ _) 1 1 rfl rfl rfl hl.1 rfl (Nat.le_of_ble_eq_true rfl) ⟨Nat.zero_le _, Nat.zero_le _⟩ d_P_advance_64 (fun H locs G => ?_)
      rw [← e33] at G
      refine lv_aload_n hx hb d_P_advance_67 rfl (lv_at hl 1 rfl) ?_
      refine lv_bipush (v := (8 : Int32)) hx hb d_P_advance_68 (by decide) ?_
      refine lv_iload_n hx hb d_P_advance_70 rfl (lv_at hl 0 rfl) ?_
      refine lv_iadd hx hb d_P_advance_71 ?_
      refine lv_topi (fun v34 e34 => ?_)
      obtain rfl : v34 = (12 : Int32) := by rw [e34]; decide
      refine lv_bipush (v := (24 : Int32)) hx hb d_P_advance_72 (by decide) ?_
      refine lv_iload_n hx hb d_P_advance_74 rfl (lv_at hl 0 rfl) ?_
      refine lv_iadd hx hb d_P_advance_75 ?_
      refine lv_topi (fun v35 e35 => ?_)
      obtain rfl : v35 = (28 : Int32) := by rw [e35]; decide
      obtain ⟨S36, e36⟩ : ∃ z : CS, z = f_P_keepInside_II S33 (12 : Int32) (28 : Int32) := ⟨_, rfl⟩
      refine hg_cv (As := [.int (12 : Int32), .int (28 : Int32)]) (rest := []) ⟨hx, hb, hml, hown, hts⟩ (c_P_keepInside_II l dC dI ad cJ cI S33 (12 : Int32) (28 : Int32) (in_of (by decide) (by decide)) (in_of (by decide) (by decide)) _) (gw_callV (k := 2) hts tw_258 tw_260 tp_4 tw_2 tw_261 (by decide +kernel) rfl rfl ⟨Nat.le_of_ble_eq_true rfl, Nat.le_of_ble_eq_true rfl⟩) hK G hA (hx_T _ _) 1 1 rfl rfl rfl hl.1 rfl (Nat.le_of_ble_eq_true rfl) ⟨Nat.zero_le _, Nat.zero_le _⟩ d_P_advance_76 (fun H locs G => ?_)
      rw [← e36] at G
      refine lv_iinc (v := (5 : Int32)) (lv' := [(1, .int (5 : Int32)), (0, .ref (ad 1))]) hx hb d_P_advance_79 hl (k := 0) rfl (by decide) (by decide) rfl (fun ls hl => ?_)
      refine lv_goto (tgt := 45) hx hb d_P_advance_82 (by decide) ?_
      refine lv_iload_n hx hb d_P_advance_45 rfl (lv_at hl 0 rfl) ?_
      refine lv_bipush (v := (8 : Int32)) hx hb d_P_advance_46 (by decide) ?_
      refine lv_icmp_ge (tgt := 85) hx hb d_P_advance_48 (by decide) (fun c0 => absurd c0 (by decide)) (fun _ => ?_)
      refine lv_aload_n hx hb d_P_advance_51 rfl (lv_at hl 1 rfl) ?_
      refine lv_iload_n hx hb d_P_advance_52 rfl (lv_at hl 0 rfl) ?_
      obtain ⟨S37, e37⟩ : ∃ z : CS, z = f_P_move_I S36 (5 : Int32) := ⟨_, rfl⟩
      refine hg_cv (As := [.int (5 : Int32)]) (rest := []) ⟨hx, hb, hml, hown, hts⟩ (c_P_move_I l dC dI ad cJ cI S36 (5 : Int32) (in_of (by decide) (by decide)) _) (gw_callV (k := 1) hts tw_250 tw_252 tp_2 tw_2 tw_253 (by decide +kernel) rfl rfl ⟨Nat.le_of_ble_eq_true rfl, Nat.le_of_ble_eq_true rfl⟩) hK G hA (hx_T _ _) 1 1 rfl rfl rfl hl.1 rfl (Nat.le_of_ble_eq_true rfl) ⟨Nat.zero_le _, Nat.zero_le _⟩ d_P_advance_53 (fun H locs G => ?_)
      rw [← e37] at G
      refine lv_aload_n hx hb d_P_advance_56 rfl (lv_at hl 1 rfl) ?_
      refine lv_iconst (v := 0) hx hb d_P_advance_57 (by decide) ?_
      refine lv_iload_n hx hb d_P_advance_58 rfl (lv_at hl 0 rfl) ?_
      refine lv_iadd hx hb d_P_advance_59 ?_
      refine lv_topi (fun v38 e38 => ?_)
      obtain rfl : v38 = (5 : Int32) := by rw [e38]; decide
      refine lv_bipush (v := (16 : Int32)) hx hb d_P_advance_60 (by decide) ?_
      refine lv_iload_n hx hb d_P_advance_62 rfl (lv_at hl 0 rfl) ?_
      refine lv_iadd hx hb d_P_advance_63 ?_
      refine lv_topi (fun v39 e39 => ?_)
      obtain rfl : v39 = (21 : Int32) := by rw [e39]; decide
      obtain ⟨S40, e40⟩ : ∃ z : CS, z = f_P_keepInside_II S37 (5 : Int32) (21 : Int32) := ⟨_, rfl⟩
      refine hg_cv (As := [.int (5 : Int32), .int (21 : Int32)]) (rest := []) ⟨hx, hb, hml, hown, hts⟩ (c_P_keepInside_II l dC dI ad cJ cI S37 (5 : Int32) (21 : Int32) (in_of (by decide) (by decide)) (in_of (by decide) (by decide)) _) (gw_callV (k := 2) hts tw_258 tw_260 tp_4 tw_2 tw_261 (by decide +kernel) rfl rfl ⟨Nat.le_of_ble_eq_true rfl, Nat.le_of_ble_eq_true rfl⟩) hK G hA (hx_T _ _) 1 1 rfl rfl rfl hl.1 rfl (Nat.le_of_ble_eq_true rfl) ⟨Nat.zero_le _, Nat.zero_le _⟩ d_P_advance_64 (fun H locs G => ?_)
      rw [← e40] at G
      refine lv_aload_n hx hb d_P_advance_67 rfl (lv_at hl 1 rfl) ?_
      refine lv_bipush (v := (8 : Int32)) hx hb d_P_advance_68 (by decide) ?_
      refine lv_iload_n hx hb d_P_advance_70 rfl (lv_at hl 0 rfl) ?_
      refine lv_iadd hx hb d_P_advance_71 ?_
      refine lv_topi (fun v41 e41 => ?_)
      obtain rfl : v41 = (13 : Int32) := by rw [e41]; decide
      refine lv_bipush (v := (24 : Int32)) hx hb d_P_advance_72 (by decide) ?_
      refine lv_iload_n hx hb d_P_advance_74 rfl (lv_at hl 0 rfl) ?_
      refine lv_iadd hx hb d_P_advance_75 ?_
      refine lv_topi (fun v42 e42 => ?_)
      obtain rfl : v42 = (29 : Int32) := by rw [e42]; decide
      obtain ⟨S43, e43⟩ : ∃ z : CS, z = f_P_keepInside_II S40 (13 : Int32) (29 : Int32) := ⟨_, rfl⟩
      refine hg_cv (As := [.int (13 : Int32), .int (29 : Int32)]) (rest := []) ⟨hx, hb, hml, hown, hts⟩ (c_P_keepInside_II l dC dI ad cJ cI S40 (13 : Int32) (29 : Int32) (in_of (by decide) (by decide)) (in_of (by decide) (by decide)) _) (gw_callV (k := 2) hts tw_258 tw_260 tp_4 tw_2 tw_261 (by decide +kernel) rfl rfl ⟨Nat.le_of_ble_eq_true rfl, Nat.le_of_ble_eq_true rfl⟩) hK G hA (hx_T _ _) 1 1 rfl rfl rfl hl.1 rfl (Nat.le_of_ble_eq_true rfl) ⟨Nat.zero_le _, Nat.zero_le _⟩ d_P_advance_76 (fun H locs G => ?_)
      rw [← e43] at G
      refine lv_iinc (v := (6 : Int32)) (lv' := [(1, .int (6 : Int32)), (0, .ref (ad 1))]) hx hb d_P_advance_79 hl (k := 0) rfl (by decide) (by decide) rfl (fun ls hl => ?_)
      refine lv_goto (tgt := 45) hx hb d_P_advance_82 (by decide) ?_
      refine lv_iload_n hx hb d_P_advance_45 rfl (lv_at hl 0 rfl) ?_
      refine lv_bipush (v := (8 : Int32)) hx hb d_P_advance_46 (by decide) ?_
      refine lv_icmp_ge (tgt := 85) hx hb d_P_advance_48 (by decide) (fun c0 => absurd c0 (by decide)) (fun _ => ?_)
      refine lv_aload_n hx hb d_P_advance_51 rfl (lv_at hl 1 rfl) ?_
      refine lv_iload_n hx hb d_P_advance_52 rfl (lv_at hl 0 rfl) ?_
      obtain ⟨S44, e44⟩ : ∃ z : CS, z = f_P_move_I S43 (6 : Int32) := ⟨_, rfl⟩
      refine hg_cv (As := [.int (6 : Int32)]) (rest := []) ⟨hx, hb, hml, hown, hts⟩ (c_P_move_I l dC dI ad cJ cI S43 (6 : Int32) (in_of (by decide) (by decide)) _) (gw_callV (k := 1) hts tw_250 tw_252 tp_2 tw_2 tw_253 (by decide +kernel) rfl rfl ⟨Nat.le_of_ble_eq_true rfl, Nat.le_of_ble_eq_true rfl⟩) hK G hA (hx_T _ _) 1 1 rfl rfl rfl hl.1 rfl (Nat.le_of_ble_eq_true rfl) ⟨Nat.zero_le _, Nat.zero_le _⟩ d_P_advance_53 (fun H locs G => ?_)
      rw [← e44] at G
      refine lv_aload_n hx hb d_P_advance_56 rfl (lv_at hl 1 rfl) ?_
      refine lv_iconst (v := 0) hx hb d_P_advance_57 (by decide) ?_
      refine lv_iload_n hx hb d_P_advance_58 rfl (lv_at hl 0 rfl) ?_
      refine lv_iadd hx hb d_P_advance_59 ?_
      refine lv_topi (fun v45 e45 => ?_)
      obtain rfl : v45 = (6 : Int32) := by rw [e45]; decide
      refine lv_bipush (v := (16 : Int32)) hx hb d_P_advance_60 (by decide) ?_
      refine lv_iload_n hx hb d_P_advance_62 rfl (lv_at hl 0 rfl) ?_
      refine lv_iadd hx hb d_P_advance_63 ?_
      refine lv_topi (fun v46 e46 => ?_)
      obtain rfl : v46 = (22 : Int32) := by rw [e46]; decide
      obtain ⟨S47, e47⟩ : ∃ z : CS, z = f_P_keepInside_II S44 (6 : Int32) (22 : Int32) := ⟨_, rfl⟩
      refine hg_cv (As := [.int (6 : Int32), .int (22 : Int32)]) (rest := []) ⟨hx, hb, hml, hown, hts⟩ (c_P_keepInside_II l dC dI ad cJ cI S44 (6 : Int32) (22 : Int32) (in_of (by decide) (by decide)) (in_of (by decide) (by decide)) _) (gw_callV (k := 2) hts tw_258 tw_260 tp_4 tw_2 tw_261 (by decide +kernel) rfl rfl ⟨Nat.le_of_ble_eq_true rfl, Nat.le_of_ble_eq_true rfl⟩) hK G hA (hx_T _ _) 1 1 rfl rfl rfl hl.1 rfl (Nat.le_of_ble_eq_true rfl) ⟨Nat.zero_le _, Nat.zero_le _⟩ d_P_advance_64 (fun H locs G => ?_)
      rw [← e47] at G
      refine lv_aload_n hx hb d_P_advance_67 rfl (lv_at hl 1 rfl) ?_
      refine lv_bipush (v := (8 : Int32)) hx hb d_P_advance_68 (by decide) ?_
      refine lv_iload_n hx hb d_P_advance_70 rfl (lv_at hl 0 rfl) ?_
      refine lv_iadd hx hb d_P_advance_71 ?_
      refine lv_topi (fun v48 e48 => ?_)
      obtain rfl : v48 = (14 : Int32) := by rw [e48]; decide
      refine lv_bipush (v := (24 : Int32)) hx hb d_P_advance_72 (by decide) ?_
      refine lv_iload_n hx hb d_P_advance_74 rfl (lv_at hl 0 rfl) ?_
      refine lv_iadd hx hb d_P_advance_75 ?_
      refine lv_topi (fun v49 e49 => ?_)
      obtain rfl : v49 = (30 : Int32) := by rw [e49]; decide
      obtain ⟨S50, e50⟩ : ∃ z : CS, z = f_P_keepInside_II S47 (14 : Int32) (30 : Int32) := ⟨_, rfl⟩
      refine hg_cv (As := [.int (14 : Int32), .int (30 : Int32)]) (rest := []) ⟨hx, hb, hml, hown, hts⟩ (c_P_keepInside_II l dC dI ad cJ cI S47 (14 : Int32) (30 : Int32) (in_of (by decide) (by decide)) (in_of (by decide) (by decide)) _) (gw_callV (k := 2) hts tw_258 tw_260 tp_4 tw_2 tw_261 (by decide +kernel) rfl rfl ⟨Nat.le_of_ble_eq_true rfl, Nat.le_of_ble_eq_true rfl⟩) hK G hA (hx_T _ _) 1 1 rfl rfl rfl hl.1 rfl (Nat.le_of_ble_eq_true rfl) ⟨Nat.zero_le _, Nat.zero_le _⟩ d_P_advance_76 (fun H locs G => ?_)
      rw [← e50] at G
      refine lv_iinc (v := (7 : Int32)) (lv' := [(1, .int (7 : Int32)), (0, .ref (ad 1))]) hx hb d_P_advance_79 hl (k := 0) rfl (by decide) (by decide) rfl (fun ls hl => ?_)
      refine lv_goto (tgt := 45) hx hb d_P_advance_82 (by decide) ?_
      refine lv_iload_n hx hb d_P_advance_45 rfl (lv_at hl 0 rfl) ?_
      refine lv_bipush (v := (8 : Int32)) hx hb d_P_advance_46 (by decide) ?_
      refine lv_icmp_ge (tgt := 85) hx hb d_P_advance_48 (by decide) (fun c0 => absurd c0 (by decide)) (fun _ => ?_)
      refine lv_aload_n hx hb d_P_advance_51 rfl (lv_at hl 1 rfl) ?_
      refine lv_iload_n hx hb d_P_advance_52 rfl (lv_at hl 0 rfl) ?_
      obtain ⟨S51, e51⟩ : ∃ z : CS, z = f_P_move_I S50 (7 : Int32) := ⟨_, rfl⟩
      refine hg_cv (As := [.int (7 : Int32)]) (rest := []) ⟨hx, hb, hml, hown, hts⟩ (c_P_move_I l dC dI ad cJ cI S50 (7 : Int32) (in_of (by decide) (by decide)) _) (gw_callV (k := 1) hts tw_250 tw_252 tp_2 tw_2 tw_253 (by decide +kernel) rfl rfl ⟨Nat.le_of_ble_eq_true rfl, Nat.le_of_ble_eq_true rfl⟩) hK G hA (hx_T _ _) 1 1 rfl rfl rfl hl.1 rfl (Nat.le_of_ble_eq_true rfl) ⟨Nat.zero_le _, Nat.zero_le _⟩ d_P_advance_53 (fun H locs G => ?_)
      rw [← e51] at G
      refine lv_aload_n hx hb d_P_advance_56 rfl (lv_at hl 1 rfl) ?_
      refine lv_iconst (v := 0) hx hb d_P_advance_57 (by decide) ?_
      refine lv_iload_n hx hb d_P_advance_58 rfl (lv_at hl 0 rfl) ?_
      refine lv_iadd hx hb d_P_advance_59 ?_
      refine lv_topi (fun v52 e52 => ?_)
      obtain rfl : v52 = (7 : Int32) := by rw [e52]; decide
      refine lv_bipush (v := (16 : Int32)) hx hb d_P_advance_60 (by decide) ?_
      refine lv_iload_n hx hb d_P_advance_62 rfl (lv_at hl 0 rfl) ?_
      refine lv_iadd hx hb d_P_advance_63 ?_
      refine lv_topi (fun v53 e53 => ?_)
      obtain rfl : v53 = (23 : Int32) := by rw [e53]; decide
      obtain ⟨S54, e54⟩ : ∃ z : CS, z = f_P_keepInside_II S51 (7 : Int32) (23 : Int32) := ⟨_, rfl⟩
      refine hg_cv (As := [.int (7 : Int32), .int (23 : Int32)]) (rest := []) ⟨hx, hb, hml, hown, hts⟩ (c_P_keepInside_II l dC dI ad cJ cI S51 (7 : Int32) (23 : Int32) (in_of (by decide) (by decide)) (in_of (by decide) (by decide)) _) (gw_callV (k := 2) hts tw_258 tw_260 tp_4 tw_2 tw_261 (by decide +kernel) rfl rfl ⟨Nat.le_of_ble_eq_true rfl, Nat.le_of_ble_eq_true rfl⟩) hK G hA (hx_T _ _) 1 1 rfl rfl rfl hl.1 rfl (Nat.le_of_ble_eq_true rfl) ⟨Nat.zero_le _, Nat.zero_le _⟩ d_P_advance_64 (fun H locs G => ?_)
      rw [← e54] at G
      refine lv_aload_n hx hb d_P_advance_67 rfl (lv_at hl 1 rfl) ?_
      refine lv_bipush (v := (8 : Int32)) hx hb d_P_advance_68 (by decide) ?_
      refine lv_iload_n hx hb d_P_advance_70 rfl (lv_at hl 0 rfl) ?_
      refine lv_iadd hx hb d_P_advance_71 ?_
      refine lv_topi (fun v55 e55 => ?_)
      obtain rfl : v55 = (15 : Int32) := by rw [e55]; decide
      refine lv_bipush (v := (24 : Int32)) hx hb d_P_advance_72 (by decide) ?_
      refine lv_iload_n hx hb d_P_advance_74 rfl (lv_at hl 0 rfl) ?_
      refine lv_iadd hx hb d_P_advance_75 ?_
      refine lv_topi (fun v56 e56 => ?_)
      obtain rfl : v56 = (31 : Int32) := by rw [e56]; decide
      obtain ⟨S57, e57⟩ : ∃ z : CS, z = f_P_keepInside_II S54 (15 : Int32) (31 : Int32) := ⟨_, rfl⟩
      refine hg_cv (As := [.int (15 : Int32), .int (31 : Int32)]) (rest := []) ⟨hx, hb, hml, hown, hts⟩ (c_P_keepInside_II l dC dI ad cJ cI S54 (15 : Int32) (31 : Int32) (in_of (by decide) (by decide)) (in_of (by decide) (by decide)) _) (gw_callV (k := 2) hts tw_258 tw_260 tp_4 tw_2 tw_261 (by decide +kernel) rfl rfl ⟨Nat.le_of_ble_eq_true rfl, Nat.le_of_ble_eq_true rfl⟩) hK G hA (hx_T _ _) 1 1 rfl rfl rfl hl.1 rfl (Nat.le_of_ble_eq_true rfl) ⟨Nat.zero_le _, Nat.zero_le _⟩ d_P_advance_76 (fun H locs G => ?_)
      rw [← e57] at G
      refine lv_iinc (v := (8 : Int32)) (lv' := [(1, .int (8 : Int32)), (0, .ref (ad 1))]) hx hb d_P_advance_79 hl (k := 0) rfl (by decide) (by decide) rfl (fun ls hl => ?_)
      refine lv_goto (tgt := 45) hx hb d_P_advance_82 (by decide) ?_
      refine lv_iload_n hx hb d_P_advance_45 rfl (lv_at hl 0 rfl) ?_
      refine lv_bipush (v := (8 : Int32)) hx hb d_P_advance_46 (by decide) ?_
      refine lv_icmp_ge (tgt := 85) hx hb d_P_advance_48 (by decide) (fun _ => ?_) (fun c0 => absurd c0 (by decide))
      refine lv_iconst (v := 0) hx hb d_P_advance_85 (by decide) ?_
      refine lv_istore_n (lv' := [(1, .int (0 : Int32)), (0, .ref (ad 1))]) hx hb d_P_advance_86 rfl hl (by decide) rfl (fun ls hl => ?_)
      refine lv_iload_n hx hb d_P_advance_87 rfl (lv_at hl 0 rfl) ?_
      refine lv_bipush (v := (8 : Int32)) hx hb d_P_advance_88 (by decide) ?_
      refine lv_icmp_ge (tgt := 121) hx hb d_P_advance_90 (by decide) (fun c0 => absurd c0 (by decide)) (fun _ => ?_)
      refine lv_iload_n hx hb d_P_advance_93 rfl (lv_at hl 0 rfl) ?_
      refine lv_iconst (v := 1) hx hb d_P_advance_94 (by decide) ?_
      refine lv_iadd hx hb d_P_advance_95 ?_
      refine lv_topi (fun v58 e58 => ?_)
      obtain rfl : v58 = (1 : Int32) := by rw [e58]; decide
      refine lv_istore_n (lv' := [(2, .int (1 : Int32)), (1, .int (0 : Int32)), (0, .ref (ad 1))]) hx hb d_P_advance_96 rfl hl (by decide) rfl (fun ls hl => ?_)
      refine lv_iload_n hx hb d_P_advance_97 rfl (lv_at hl 0 rfl) ?_
      refine lv_bipush (v := (8 : Int32)) hx hb d_P_advance_98 (by decide) ?_
      refine lv_icmp_ge (tgt := 115) hx hb d_P_advance_100 (by decide) (fun c0 => absurd c0 (by decide)) (fun _ => ?_)
      refine lv_aload_n hx hb d_P_advance_103 rfl (lv_at hl 2 rfl) ?_
      refine lv_iload_n hx hb d_P_advance_104 rfl (lv_at hl 1 rfl) ?_
      refine lv_iload_n hx hb d_P_advance_105 rfl (lv_at hl 0 rfl) ?_
      obtain ⟨S59, e59⟩ : ∃ z : CS, z = f_P_collide_II S57 (0 : Int32) (1 : Int32) := ⟨_, rfl⟩
      refine hg_cv (As := [.int (0 : Int32), .int (1 : Int32)]) (rest := []) ⟨hx, hb, hml, hown, hts⟩ (c_P_collide_II l dC dI ad cJ cI S57 (0 : Int32) (1 : Int32) (in_of (by decide) (by decide)) (in_of (by decide) (by decide)) _) (gw_callV (k := 2) hts tw_265 tw_267 tp_5 tw_2 tw_268 (by decide +kernel) rfl rfl ⟨Nat.le_of_ble_eq_true rfl, Nat.le_of_ble_eq_true rfl⟩) hK G hA (hx_T _ _) 1 1 rfl rfl rfl hl.1 rfl (Nat.le_of_ble_eq_true rfl) ⟨Nat.zero_le _, Nat.zero_le _⟩ d_P_advance_106 (fun H locs G => ?_)
      rw [← e59] at G
      refine lv_iinc (v := (2 : Int32)) (lv' := [(2, .int (2 : Int32)), (1, .int (0 : Int32)), (0, .ref (ad 1))]) hx hb d_P_advance_109 hl (k := 0) rfl (by decide) (by decide) rfl (fun ls hl => ?_)
      refine lv_goto (tgt := 97) hx hb d_P_advance_112 (by decide) ?_
      refine lv_iload_n hx hb d_P_advance_97 rfl (lv_at hl 0 rfl) ?_
      refine lv_bipush (v := (8 : Int32)) hx hb d_P_advance_98 (by decide) ?_
      refine lv_icmp_ge (tgt := 115) hx hb d_P_advance_100 (by decide) (fun c0 => absurd c0 (by decide)) (fun _ => ?_)
      refine lv_aload_n hx hb d_P_advance_103 rfl (lv_at hl 2 rfl) ?_
      refine lv_iload_n hx hb d_P_advance_104 rfl (lv_at hl 1 rfl) ?_
      refine lv_iload_n hx hb d_P_advance_105 rfl (lv_at hl 0 rfl) ?_
      obtain ⟨S60, e60⟩ : ∃ z : CS, z = f_P_collide_II S59 (0 : Int32) (2 : Int32) := ⟨_, rfl⟩
      refine hg_cv (As := [.int (0 : Int32), .int (2 : Int32)]) (rest := []) ⟨hx, hb, hml, hown, hts⟩ (c_P_collide_II l dC dI ad cJ cI S59 (0 : Int32) (2 : Int32) (in_of (by decide) (by decide)) (in_of (by decide) (by decide)) _) (gw_callV (k := 2) hts tw_265 tw_267 tp_5 tw_2 tw_268 (by decide +kernel) rfl rfl ⟨Nat.le_of_ble_eq_true rfl, Nat.le_of_ble_eq_true rfl⟩) hK G hA (hx_T _ _) 1 1 rfl rfl rfl hl.1 rfl (Nat.le_of_ble_eq_true rfl) ⟨Nat.zero_le _, Nat.zero_le _⟩ d_P_advance_106 (fun H locs G => ?_)
      rw [← e60] at G
      refine lv_iinc (v := (3 : Int32)) (lv' := [(2, .int (3 : Int32)), (1, .int (0 : Int32)), (0, .ref (ad 1))]) hx hb d_P_advance_109 hl (k := 0) rfl (by decide) (by decide) rfl (fun ls hl => ?_)
      refine lv_goto (tgt := 97) hx hb d_P_advance_112 (by decide) ?_
      refine lv_iload_n hx hb d_P_advance_97 rfl (lv_at hl 0 rfl) ?_
      refine lv_bipush (v := (8 : Int32)) hx hb d_P_advance_98 (by decide) ?_
      refine lv_icmp_ge (tgt := 115) hx hb d_P_advance_100 (by decide) (fun c0 => absurd c0 (by decide)) (fun _ => ?_)
      refine lv_aload_n hx hb d_P_advance_103 rfl (lv_at hl 2 rfl) ?_
      refine lv_iload_n hx hb d_P_advance_104 rfl (lv_at hl 1 rfl) ?_
      refine lv_iload_n hx hb d_P_advance_105 rfl (lv_at hl 0 rfl) ?_
      obtain ⟨S61, e61⟩ : ∃ z : CS, z = f_P_collide_II S60 (0 : Int32) (3 : Int32) := ⟨_, rfl⟩
      refine hg_cv (As := [.int (0 : Int32), .int (3 : Int32)]) (rest := []) ⟨hx, hb, hml, hown, hts⟩ (c_P_collide_II l dC dI ad cJ cI S60 (0 : Int32) (3 : Int32) (in_of (by decide) (by decide)) (in_of (by decide) (by decide)) _) (gw_callV (k := 2) hts tw_265 tw_267 tp_5 tw_2 tw_268 (by decide +kernel) rfl rfl ⟨Nat.le_of_ble_eq_true rfl, Nat.le_of_ble_eq_true rfl⟩) hK G hA (hx_T _ _) 1 1 rfl rfl rfl hl.1 rfl (Nat.le_of_ble_eq_true rfl) ⟨Nat.zero_le _, Nat.zero_le _⟩ d_P_advance_106 (fun H locs G => ?_)
      rw [← e61] at G
      refine lv_iinc (v := (4 : Int32)) (lv' := [(2, .int (4 : Int32)), (1, .int (0 : Int32)), (0, .ref (ad 1))]) hx hb d_P_advance_109 hl (k := 0) rfl (by decide) (by decide) rfl (fun ls hl => ?_)
      refine lv_goto (tgt := 97) hx hb d_P_advance_112 (by decide) ?_
      refine lv_iload_n hx hb d_P_advance_97 rfl (lv_at hl 0 rfl) ?_
      refine lv_bipush (v := (8 : Int32)) hx hb d_P_advance_98 (by decide) ?_
      refine lv_icmp_ge (tgt := 115) hx hb d_P_advance_100 (by decide) (fun c0 => absurd c0 (by decide)) (fun _ => ?_)
      refine lv_aload_n hx hb d_P_advance_103 rfl (lv_at hl 2 rfl) ?_
      refine lv_iload_n hx hb d_P_advance_104 rfl (lv_at hl 1 rfl) ?_
      refine lv_iload_n hx hb d_P_advance_105 rfl (lv_at hl 0 rfl) ?_
      obtain ⟨S62, e62⟩ : ∃ z : CS, z = f_P_collide_II S61 (0 : Int32) (4 : Int32) := ⟨_, rfl⟩
      refine hg_cv (As := [.int (0 : Int32), .int (4 : Int32)]) (rest := []) ⟨hx, hb, hml, hown, hts⟩ (c_P_collide_II l dC dI ad cJ cI S61 (0 : Int32) (4 : Int32) (in_of (by decide) (by decide)) (in_of (by decide) (by decide)) _) (gw_callV (k := 2) hts tw_265 tw_267 tp_5 tw_2 tw_268 (by decide +kernel) rfl rfl ⟨Nat.le_of_ble_eq_true rfl, Nat.le_of_ble_eq_true rfl⟩) hK G hA (hx_T _ _) 1 1 rfl rfl rfl hl.1 rfl (Nat.le_of_ble_eq_true rfl) ⟨Nat.zero_le _, Nat.zero_le _⟩ d_P_advance_106 (fun H locs G => ?_)
      rw [← e62] at G
      refine lv_iinc (v := (5 : Int32)) (lv' := [(2, .int (5 : Int32)), (1, .int (0 : Int32)), (0, .ref (ad 1))]) hx hb d_P_advance_109 hl (k := 0) rfl (by decide) (by decide) rfl (fun ls hl => ?_)
      refine lv_goto (tgt := 97) hx hb d_P_advance_112 (by decide) ?_
      refine lv_iload_n hx hb d_P_advance_97 rfl (lv_at hl 0 rfl) ?_
      refine lv_bipush (v := (8 : Int32)) hx hb d_P_advance_98 (by decide) ?_
      refine lv_icmp_ge (tgt := 115) hx hb d_P_advance_100 (by decide) (fun c0 => absurd c0 (by decide)) (fun _ => ?_)
      refine lv_aload_n hx hb d_P_advance_103 rfl (lv_at hl 2 rfl) ?_
      refine lv_iload_n hx hb d_P_advance_104 rfl (lv_at hl 1 rfl) ?_
      refine lv_iload_n hx hb d_P_advance_105 rfl (lv_at hl 0 rfl) ?_
      obtain ⟨S63, e63⟩ : ∃ z : CS, z = f_P_collide_II S62 (0 : Int32) (5 : Int32) := ⟨_, rfl⟩
      refine hg_cv (As := [.int (0 : Int32), .int (5 : Int32)]) (rest := []) ⟨hx, hb, hml, hown, hts⟩ (c_P_collide_II l dC dI ad cJ cI S62 (0 : Int32) (5 : Int32) (in_of (by decide) (by decide)) (in_of (by decide) (by decide)) _) (gw_callV (k := 2) hts tw_265 tw_267 tp_5 tw_2 tw_268 (by decide +kernel) rfl rfl ⟨Nat.le_of_ble_eq_true rfl, Nat.le_of_ble_eq_true rfl⟩) hK G hA (hx_T _ _) 1 1 rfl rfl rfl hl.1 rfl (Nat.le_of_ble_eq_true rfl) ⟨Nat.zero_le _, Nat.zero_le _⟩ d_P_advance_106 (fun H locs G => ?_)
      rw [← e63] at G
      refine lv_iinc (v := (6 : Int32)) (lv' := [(2, .int (6 : Int32)), (1, .int (0 : Int32)), (0, .ref (ad 1))]) hx hb d_P_advance_109 hl (k := 0) rfl (by decide) (by decide) rfl (fun ls hl => ?_)
      refine lv_goto (tgt := 97) hx hb d_P_advance_112 (by decide) ?_
      refine lv_iload_n hx hb d_P_advance_97 rfl (lv_at hl 0 rfl) ?_
      refine lv_bipush (v := (8 : Int32)) hx hb d_P_advance_98 (by decide) ?_
      refine lv_icmp_ge (tgt := 115) hx hb d_P_advance_100 (by decide) (fun c0 => absurd c0 (by decide)) (fun _ => ?_)
      refine lv_aload_n hx hb d_P_advance_103 rfl (lv_at hl 2 rfl) ?_
      refine lv_iload_n hx hb d_P_advance_104 rfl (lv_at hl 1 rfl) ?_
      refine lv_iload_n hx hb d_P_advance_105 rfl (lv_at hl 0 rfl) ?_
      obtain ⟨S64, e64⟩ : ∃ z : CS, z = f_P_collide_II S63 (0 : Int32) (6 : Int32) := ⟨_, rfl⟩
      refine hg_cv (As := [.int (0 : Int32), .int (6 : Int32)]) (rest := []) ⟨hx, hb, hml, hown, hts⟩ (c_P_collide_II l dC dI ad cJ cI S63 (0 : Int32) (6 : Int32) (in_of (by decide) (by decide)) (in_of (by decide) (by decide)) _) (gw_callV (k := 2) hts tw_265 tw_267 tp_5 tw_2 tw_268 (by decide +kernel) rfl rfl ⟨Nat.le_of_ble_eq_true rfl, Nat.le_of_ble_eq_true rfl⟩) hK G hA (hx_T _ _) 1 1 rfl rfl rfl hl.1 rfl (Nat.le_of_ble_eq_true rfl) ⟨Nat.zero_le _, Nat.zero_le _⟩ d_P_advance_106 (fun H locs G => ?_)
      rw [← e64] at G
      refine lv_iinc (v := (7 : Int32)) (lv' := [(2, .int (7 : Int32)), (1, .int (0 : Int32)), (0, .ref (ad 1))]) hx hb d_P_advance_109 hl (k := 0) rfl (by decide) (by decide) rfl (fun ls hl => ?_)
      refine lv_goto (tgt := 97) hx hb d_P_advance_112 (by decide) ?_
      refine lv_iload_n hx hb d_P_advance_97 rfl (lv_at hl 0 rfl) ?_
      refine lv_bipush (v := (8 : Int32)) hx hb d_P_advance_98 (by decide) ?_
      refine lv_icmp_ge (tgt := 115) hx hb d_P_advance_100 (by decide) (fun c0 => absurd c0 (by decide)) (fun _ => ?_)
      refine lv_aload_n hx hb d_P_advance_103 rfl (lv_at hl 2 rfl) ?_
      refine lv_iload_n hx hb d_P_advance_104 rfl (lv_at hl 1 rfl) ?_
      refine lv_iload_n hx hb d_P_advance_105 rfl (lv_at hl 0 rfl) ?_
      obtain ⟨S65, e65⟩ : ∃ z : CS, z = f_P_collide_II S64 (0 : Int32) (7 : Int32) := ⟨_, rfl⟩
      refine hg_cv (As := [.int (0 : Int32), .int (7 : Int32)]) (rest := []) ⟨hx, hb, hml, hown, hts⟩ (c_P_collide_II l dC dI ad cJ cI S64 (0 : Int32) (7 : Int32) (in_of (by decide) (by decide)) (in_of (by decide) (by decide)) _) (gw_callV (k := 2) hts tw_265 tw_267 tp_5 tw_2 tw_268 (by decide +kernel) rfl rfl ⟨Nat.le_of_ble_eq_true rfl, Nat.le_of_ble_eq_true rfl⟩) hK G hA (hx_T _ _) 1 1 rfl rfl rfl hl.1 rfl (Nat.le_of_ble_eq_true rfl) ⟨Nat.zero_le _, Nat.zero_le _⟩ d_P_advance_106 (fun H locs G => ?_)
      rw [← e65] at G
      refine lv_iinc (v := (8 : Int32)) (lv' := [(2, .int (8 : Int32)), (1, .int (0 : Int32)), (0, .ref (ad 1))]) hx hb d_P_advance_109 hl (k := 0) rfl (by decide) (by decide) rfl (fun ls hl => ?_)
      refine lv_goto (tgt := 97) hx hb d_P_advance_112 (by decide) ?_
      refine lv_iload_n hx hb d_P_advance_97 rfl (lv_at hl 0 rfl) ?_
      refine lv_bipush (v := (8 : Int32)) hx hb d_P_advance_98 (by decide) ?_
      refine lv_icmp_ge (tgt := 115) hx hb d_P_advance_100 (by decide) (fun _ => ?_) (fun c0 => absurd c0 (by decide))
      refine lv_iinc (v := (1 : Int32)) (lv' := [(1, .int (1 : Int32)), (2, .int (8 : Int32)), (0, .ref (ad 1))]) hx hb d_P_advance_115 hl (k := 1) rfl (by decide) (by decide) rfl (fun ls hl => ?_)
      refine lv_goto (tgt := 87) hx hb d_P_advance_118 (by decide) ?_
      refine lv_iload_n hx hb d_P_advance_87 rfl (lv_at hl 0 rfl) ?_
      refine lv_bipush (v := (8 : Int32)) hx hb d_P_advance_88 (by decide) ?_
      refine lv_icmp_ge (tgt := 121) hx hb d_P_advance_90 (by decide) (fun c0 => absurd c0 (by decide)) (fun _ => ?_)
      refine lv_iload_n hx hb d_P_advance_93 rfl (lv_at hl 0 rfl) ?_
      refine lv_iconst (v := 1) hx hb d_P_advance_94 (by decide) ?_
      refine lv_iadd hx hb d_P_advance_95 ?_
      refine lv_topi (fun v66 e66 => ?_)
      obtain rfl : v66 = (2 : Int32) := by rw [e66]; decide
      refine lv_istore_n (lv' := [(2, .int (2 : Int32)), (1, .int (1 : Int32)), (0, .ref (ad 1))]) hx hb d_P_advance_96 rfl hl (by decide) rfl (fun ls hl => ?_)
      refine lv_iload_n hx hb d_P_advance_97 rfl (lv_at hl 0 rfl) ?_
      refine lv_bipush (v := (8 : Int32)) hx hb d_P_advance_98 (by decide) ?_
      refine lv_icmp_ge (tgt := 115) hx hb d_P_advance_100 (by decide) (fun c0 => absurd c0 (by decide)) (fun _ => ?_)
      refine lv_aload_n hx hb d_P_advance_103 rfl (lv_at hl 2 rfl) ?_
      refine lv_iload_n hx hb d_P_advance_104 rfl (lv_at hl 1 rfl) ?_
      refine lv_iload_n hx hb d_P_advance_105 rfl (lv_at hl 0 rfl) ?_
      obtain ⟨S67, e67⟩ : ∃ z : CS, z = f_P_collide_II S65 (1 : Int32) (2 : Int32) := ⟨_, rfl⟩
      refine hg_cv (As := [.int (1 : Int32), .int (2 : Int32)]) (rest := []) ⟨hx, hb, hml, hown, hts⟩ (c_P_collide_II l dC dI ad cJ cI S65 (1 : Int32) (2 : Int32) (in_of (by decide) (by decide)) (in_of (by decide) (by decide)) _) (gw_callV (k := 2) hts tw_265 tw_267 tp_5 tw_2 tw_268 (by decide +kernel) rfl rfl ⟨Nat.le_of_ble_eq_true rfl, Nat.le_of_ble_eq_true rfl⟩) hK G hA (hx_T _ _) 1 1 rfl rfl rfl hl.1 rfl (Nat.le_of_ble_eq_true rfl) ⟨Nat.zero_le _, Nat.zero_le _⟩ d_P_advance_106 (fun H locs G => ?_)
      rw [← e67] at G
      refine lv_iinc (v := (3 : Int32)) (lv' := [(2, .int (3 : Int32)), (1, .int (1 : Int32)), (0, .ref (ad 1))]) hx hb d_P_advance_109 hl (k := 0) rfl (by decide) (by decide) rfl (fun ls hl => ?_)
      refine lv_goto (tgt := 97) hx hb d_P_advance_112 (by decide) ?_
      refine lv_iload_n hx hb d_P_advance_97 rfl (lv_at hl 0 rfl) ?_
      refine lv_bipush (v := (8 : Int32)) hx hb d_P_advance_98 (by decide) ?_
      refine lv_icmp_ge (tgt := 115) hx hb d_P_advance_100 (by decide) (fun c0 => absurd c0 (by decide)) (fun _ => ?_)
      refine lv_aload_n hx hb d_P_advance_103 rfl (lv_at hl 2 rfl) ?_
      refine lv_iload_n hx hb d_P_advance_104 rfl (lv_at hl 1 rfl) ?_
      refine lv_iload_n hx hb d_P_advance_105 rfl (lv_at hl 0 rfl) ?_
      obtain ⟨S68, e68⟩ : ∃ z : CS, z = f_P_collide_II S67 (1 : Int32) (3 : Int32) := ⟨_, rfl⟩
      refine hg_cv (As := [.int (1 : Int32), .int (3 : Int32)]) (rest := []) ⟨hx, hb, hml, hown, hts⟩ (c_P_collide_II l dC dI ad cJ cI S67 (1 : Int32) (3 : Int32) (in_of (by decide) (by decide)) (in_of (by decide) (by decide)) _) (gw_callV (k := 2) hts tw_265 tw_267 tp_5 tw_2 tw_268 (by decide +kernel) rfl rfl ⟨Nat.le_of_ble_eq_true rfl, Nat.le_of_ble_eq_true rfl⟩) hK G hA (hx_T _ _) 1 1 rfl rfl rfl hl.1 rfl (Nat.le_of_ble_eq_true rfl) ⟨Nat.zero_le _, Nat.zero_le _⟩ d_P_advance_106 (fun H locs G => ?_)
      rw [← e68] at G
      refine lv_iinc (v := (4 : Int32)) (lv' := [(2, .int (4 : Int32)), (1, .int (1 : Int32)), (0, .ref (ad 1))]) hx hb d_P_advance_109 hl (k := 0) rfl (by decide) (by decide) rfl (fun ls hl => ?_)
      refine lv_goto (tgt := 97) hx hb d_P_advance_112 (by decide) ?_
      refine lv_iload_n hx hb d_P_advance_97 rfl (lv_at hl 0 rfl) ?_
      refine lv_bipush (v := (8 : Int32)) hx hb d_P_advance_98 (by decide) ?_
      refine lv_icmp_ge (tgt := 115) hx hb d_P_advance_100 (by decide) (fun c0 => absurd c0 (by decide)) (fun _ => ?_)
      refine lv_aload_n hx hb d_P_advance_103 rfl (lv_at hl 2 rfl) ?_
      refine lv_iload_n hx hb d_P_advance_104 rfl (lv_at hl 1 rfl) ?_
      refine lv_iload_n hx hb d_P_advance_105 rfl (lv_at hl 0 rfl) ?_
      obtain ⟨S69, e69⟩ : ∃ z : CS, z = f_P_collide_II S68 (1 : Int32) (4 : Int32) := ⟨_, rfl⟩
      refine hg_cv (As := [.int (1 : Int32), .int (4 : Int32)]) (rest := []) ⟨hx, hb, hml, hown, hts⟩ (c_P_collide_II l dC dI ad cJ cI S68 (1 : Int32) (4 : Int32) (in_of (by decide) (by decide)) (in_of (by decide) (by decide)) _) (gw_callV (k := 2) hts tw_265 tw_267 tp_5 tw_2 tw_268 (by decide +kernel) rfl rfl ⟨Nat.le_of_ble_eq_true rfl, Nat.le_of_ble_eq_true rfl⟩) hK G hA (hx_T _ _) 1 1 rfl rfl rfl hl.1 rfl (Nat.le_of_ble_eq_true rfl) ⟨Nat.zero_le _, Nat.zero_le _⟩ d_P_advance_106 (fun H locs G => ?_)
      rw [← e69] at G
      refine lv_iinc (v := (5 : Int32)) (lv' := [(2, .int (5 : Int32)), (1, .int (1 : Int32)), (0, .ref (ad 1))]) hx hb d_P_advance_109 hl (k := 0) rfl (by decide) (by decide) rfl (fun ls hl => ?_)
      refine lv_goto (tgt := 97) hx hb d_P_advance_112 (by decide) ?_
      refine lv_iload_n hx hb d_P_advance_97 rfl (lv_at hl 0 rfl) ?_
      refine lv_bipush (v := (8 : Int32)) hx hb d_P_advance_98 (by decide) ?_
      refine lv_icmp_ge (tgt := 115) hx hb d_P_advance_100 (by decide) (fun c0 => absurd c0 (by decide)) (fun _ => ?_)
      refine lv_aload_n hx hb d_P_advance_103 rfl (lv_at hl 2 rfl) ?_
      refine lv_iload_n hx hb d_P_advance_104 rfl (lv_at hl 1 rfl) ?_
      refine lv_iload_n hx hb d_P_advance_105 rfl (lv_at hl 0 rfl) ?_
      obtain ⟨S70, e70⟩ : ∃ z : CS, z = f_P_collide_II S69 (1 : Int32) (5 : Int32) := ⟨_, rfl⟩
      refine hg_cv (As := [.int (1 : Int32), .int (5 : Int32)]) (rest := []) ⟨hx, hb, hml, hown, hts⟩ (c_P_collide_II l dC dI ad cJ cI S69 (1 : Int32) (5 : Int32) (in_of (by decide) (by decide)) (in_of (by decide) (by decide)) _) (gw_callV (k := 2) hts tw_265 tw_267 tp_5 tw_2 tw_268 (by decide +kernel) rfl rfl ⟨Nat.le_of_ble_eq_true rfl, Nat.le_of_ble_eq_true rfl⟩) hK G hA (hx_T _ _) 1 1 rfl rfl rfl hl.1 rfl (Nat.le_of_ble_eq_true rfl) ⟨Nat.zero_le _, Nat.zero_le _⟩ d_P_advance_106 (fun H locs G => ?_)
      rw [← e70] at G
      refine lv_iinc (v := (6 : Int32)) (lv' := [(2, .int (6 : Int32)), (1, .int (1 : Int32)), (0, .ref (ad 1))]) hx hb d_P_advance_109 hl (k := 0) rfl (by decide) (by decide) rfl (fun ls hl => ?_)
      refine lv_goto (tgt := 97) hx hb d_P_advance_112 (by decide) ?_
      refine lv_iload_n hx hb d_P_advance_97 rfl (lv_at hl 0 rfl) ?_
      refine lv_bipush (v := (8 : Int32)) hx hb d_P_advance_98 (by decide) ?_
      refine lv_icmp_ge (tgt := 115) hx hb d_P_advance_100 (by decide) (fun c0 => absurd c0 (by decide)) (fun _ => ?_)
      refine lv_aload_n hx hb d_P_advance_103 rfl (lv_at hl 2 rfl) ?_
      refine lv_iload_n hx hb d_P_advance_104 rfl (lv_at hl 1 rfl) ?_
      refine lv_iload_n hx hb d_P_advance_105 rfl (lv_at hl 0 rfl) ?_
      obtain ⟨S71, e71⟩ : ∃ z : CS, z = f_P_collide_II S70 (1 : Int32) (6 : Int32) := ⟨_, rfl⟩
      refine hg_cv (As := [.int (1 : Int32), .int (6 : Int32)]) (rest := []) ⟨hx, hb, hml, hown, hts⟩ (c_P_collide_II l dC dI ad cJ cI S70 (1 : Int32) (6 : Int32) (in_of (by decide) (by decide)) (in_of (by decide) (by decide)) _) (gw_callV (k := 2) hts tw_265 tw_267 tp_5 tw_2 tw_268 (by decide +kernel) rfl rfl ⟨Nat.le_of_ble_eq_true rfl, Nat.le_of_ble_eq_true rfl⟩) hK G hA (hx_T _ _) 1 1 rfl rfl rfl hl.1 rfl (Nat.le_of_ble_eq_true rfl) ⟨Nat.zero_le _, Nat.zero_le _⟩ d_P_advance_106 (fun H locs G => ?_)
      rw [← e71] at G
      refine lv_iinc (v := (7 : Int32)) (lv' := [(2, .int (7 : Int32)), (1, .int (1 : Int32)), (0, .ref (ad 1))]) hx hb d_P_advance_109 hl (k := 0) rfl (by decide) (by decide) rfl (fun ls hl => ?_)
      refine lv_goto (tgt := 97) hx hb d_P_advance_112 (by decide) ?_
      refine lv_iload_n hx hb d_P_advance_97 rfl (lv_at hl 0 rfl) ?_
      refine lv_bipush (v := (8 : Int32)) hx hb d_P_advance_98 (by decide) ?_
      refine lv_icmp_ge (tgt := 115) hx hb d_P_advance_100 (by decide) (fun c0 => absurd c0 (by decide)) (fun _ => ?_)
      refine lv_aload_n hx hb d_P_advance_103 rfl (lv_at hl 2 rfl) ?_
      refine lv_iload_n hx hb d_P_advance_104 rfl (lv_at hl 1 rfl) ?_
      refine lv_iload_n hx hb d_P_advance_105 rfl (lv_at hl 0 rfl) ?_
      obtain ⟨S72, e72⟩ : ∃ z : CS, z = f_P_collide_II S71 (1 : Int32) (7 : Int32) := ⟨_, rfl⟩
      refine hg_cv (As := [.int (1 : Int32), .int (7 : Int32)]) (rest := []) ⟨hx, hb, hml, hown, hts⟩ (c_P_collide_II l dC dI ad cJ cI S71 (1 : Int32) (7 : Int32) (in_of (by decide) (by decide)) (in_of (by decide) (by decide)) _) (gw_callV (k := 2) hts tw_265 tw_267 tp_5 tw_2 tw_268 (by decide +kernel) rfl rfl ⟨Nat.le_of_ble_eq_true rfl, Nat.le_of_ble_eq_true rfl⟩) hK G hA (hx_T _ _) 1 1 rfl rfl rfl hl.1 rfl (Nat.le_of_ble_eq_true rfl) ⟨Nat.zero_le _, Nat.zero_le _⟩ d_P_advance_106 (fun H locs G => ?_)
      rw [← e72] at G
      refine lv_iinc (v := (8 : Int32)) (lv' := [(2, .int (8 : Int32)), (1, .int (1 : Int32)), (0, .ref (ad 1))]) hx hb d_P_advance_109 hl (k := 0) rfl (by decide) (by decide) rfl (fun ls hl => ?_)
      refine lv_goto (tgt := 97) hx hb d_P_advance_112 (by decide) ?_
      refine lv_iload_n hx hb d_P_advance_97 rfl (lv_at hl 0 rfl) ?_
      refine lv_bipush (v := (8 : Int32)) hx hb d_P_advance_98 (by decide) ?_
      refine lv_icmp_ge (tgt := 115) hx hb d_P_advance_100 (by decide) (fun _ => ?_) (fun c0 => absurd c0 (by decide))
      refine lv_iinc (v := (2 : Int32)) (lv' := [(1, .int (2 : Int32)), (2, .int (8 : Int32)), (0, .ref (ad 1))]) hx hb d_P_advance_115 hl (k := 1) rfl (by decide) (by decide) rfl (fun ls hl => ?_)
      refine lv_goto (tgt := 87) hx hb d_P_advance_118 (by decide) ?_
      refine lv_iload_n hx hb d_P_advance_87 rfl (lv_at hl 0 rfl) ?_
      refine lv_bipush (v := (8 : Int32)) hx hb d_P_advance_88 (by decide) ?_
      refine lv_icmp_ge (tgt := 121) hx hb d_P_advance_90 (by decide) (fun c0 => absurd c0 (by decide)) (fun _ => ?_)
      refine lv_iload_n hx hb d_P_advance_93 rfl (lv_at hl 0 rfl) ?_
      refine lv_iconst (v := 1) hx hb d_P_advance_94 (by decide) ?_
      refine lv_iadd hx hb d_P_advance_95 ?_
      refine lv_topi (fun v73 e73 => ?_)
      obtain rfl : v73 = (3 : Int32) := by rw [e73]; decide
      refine lv_istore_n (lv' := [(2, .int (3 : Int32)), (1, .int (2 : Int32)), (0, .ref (ad 1))]) hx hb d_P_advance_96 rfl hl (by decide) rfl (fun ls hl => ?_)
      refine lv_iload_n hx hb d_P_advance_97 rfl (lv_at hl 0 rfl) ?_
      refine lv_bipush (v := (8 : Int32)) hx hb d_P_advance_98 (by decide) ?_
      refine lv_icmp_ge (tgt := 115) hx hb d_P_advance_100 (by decide) (fun c0 => absurd c0 (by decide)) (fun _ => ?_)
      refine lv_aload_n hx hb d_P_advance_103 rfl (lv_at hl 2 rfl) ?_
      refine lv_iload_n hx hb d_P_advance_104 rfl (lv_at hl 1 rfl) ?_
      refine lv_iload_n hx hb d_P_advance_105 rfl (lv_at hl 0 rfl) ?_
      obtain ⟨S74, e74⟩ : ∃ z : CS, z = f_P_collide_II S72 (2 : Int32) (3 : Int32) := ⟨_, rfl⟩
      refine hg_cv (As := [.int (2 : Int32), .int (3 : Int32)]) (rest := []) ⟨hx, hb, hml, hown, hts⟩ (c_P_collide_II l dC dI ad cJ cI S72 (2 : Int32) (3 : Int32) (in_of (by decide) (by decide)) (in_of (by decide) (by decide)) _) (gw_callV (k := 2) hts tw_265 tw_267 tp_5 tw_2 tw_268 (by decide +kernel) rfl rfl ⟨Nat.le_of_ble_eq_true rfl, Nat.le_of_ble_eq_true rfl⟩) hK G hA (hx_T _ _) 1 1 rfl rfl rfl hl.1 rfl (Nat.le_of_ble_eq_true rfl) ⟨Nat.zero_le _, Nat.zero_le _⟩ d_P_advance_106 (fun H locs G => ?_)
      rw [← e74] at G
      refine lv_iinc (v := (4 : Int32)) (lv' := [(2, .int (4 : Int32)), (1, .int (2 : Int32)), (0, .ref (ad 1))]) hx hb d_P_advance_109 hl (k := 0) rfl (by decide) (by decide) rfl (fun ls hl => ?_)
      refine lv_goto (tgt := 97) hx hb d_P_advance_112 (by decide) ?_
      refine lv_iload_n hx hb d_P_advance_97 rfl (lv_at hl 0 rfl) ?_
      refine lv_bipush (v := (8 : Int32)) hx hb d_P_advance_98 (by decide) ?_
      refine lv_icmp_ge (tgt := 115) hx hb d_P_advance_100 (by decide) (fun c0 => absurd c0 (by decide)) (fun _ => ?_)
      refine lv_aload_n hx hb d_P_advance_103 rfl (lv_at hl 2 rfl) ?_
      refine lv_iload_n hx hb d_P_advance_104 rfl (lv_at hl 1 rfl) ?_
      refine lv_iload_n hx hb d_P_advance_105 rfl (lv_at hl 0 rfl) ?_
      obtain ⟨S75, e75⟩ : ∃ z : CS, z = f_P_collide_II S74 (2 : Int32) (4 : Int32) := ⟨_, rfl⟩
      refine hg_cv (As := [.int (2 : Int32), .int (4 : Int32)]) (rest := []) ⟨hx, hb, hml, hown, hts⟩ (c_P_collide_II l dC dI ad cJ cI S74 (2 : Int32) (4 : Int32) (in_of (by decide) (by decide)) (in_of (by decide) (by decide)) _) (gw_callV (k := 2) hts tw_265 tw_267 tp_5 tw_2 tw_268 (by decide +kernel) rfl rfl ⟨Nat.le_of_ble_eq_true rfl, Nat.le_of_ble_eq_true rfl⟩) hK G hA (hx_T _ _) 1 1 rfl rfl rfl hl.1 rfl (Nat.le_of_ble_eq_true rfl) ⟨Nat.zero_le _, Nat.zero_le _⟩ d_P_advance_106 (fun H locs G => ?_)
      rw [← e75] at G
      refine lv_iinc (v := (5 : Int32)) (lv' := [(2, .int (5 : Int32)), (1, .int (2 : Int32)), (0, .ref (ad 1))]) hx hb d_P_advance_109 hl (k := 0) rfl (by decide) (by decide) rfl (fun ls hl => ?_)
      refine lv_goto (tgt := 97) hx hb d_P_advance_112 (by decide) ?_
      refine lv_iload_n hx hb d_P_advance_97 rfl (lv_at hl 0 rfl) ?_
      refine lv_bipush (v := (8 : Int32)) hx hb d_P_advance_98 (by decide) ?_
      refine lv_icmp_ge (tgt := 115) hx hb d_P_advance_100 (by decide) (fun c0 => absurd c0 (by decide)) (fun _ => ?_)
      refine lv_aload_n hx hb d_P_advance_103 rfl (lv_at hl 2 rfl) ?_
      refine lv_iload_n hx hb d_P_advance_104 rfl (lv_at hl 1 rfl) ?_
      refine lv_iload_n hx hb d_P_advance_105 rfl (lv_at hl 0 rfl) ?_
      obtain ⟨S76, e76⟩ : ∃ z : CS, z = f_P_collide_II S75 (2 : Int32) (5 : Int32) := ⟨_, rfl⟩
      refine hg_cv (As := [.int (2 : Int32), .int (5 : Int32)]) (rest := []) ⟨hx, hb, hml, hown, hts⟩ (c_P_collide_II l dC dI ad cJ cI S75 (2 : Int32) (5 : Int32) (in_of (by decide) (by decide)) (in_of (by decide) (by decide)) _) (gw_callV (k := 2) hts tw_265 tw_267 tp_5 tw_2 tw_268 (by decide +kernel) rfl rfl ⟨Nat.le_of_ble_eq_true rfl, Nat.le_of_ble_eq_true rfl⟩) hK G hA (hx_T _ _) 1 1 rfl rfl rfl hl.1 rfl (Nat.le_of_ble_eq_true rfl) ⟨Nat.zero_le _, Nat.zero_le _⟩ d_P_advance_106 (fun H locs G => ?_)
      rw [← e76] at G
      refine lv_iinc (v := (6 : Int32)) (lv' := [(2, .int (6 : Int32)), (1, .int (2 : Int32)), (0, .ref (ad 1))]) hx hb d_P_advance_109 hl (k := 0) rfl (by decide) (by decide) rfl (fun ls hl => ?_)
      refine lv_goto (tgt := 97) hx hb d_P_advance_112 (by decide) ?_
      refine lv_iload_n hx hb d_P_advance_97 rfl (lv_at hl 0 rfl) ?_
      refine lv_bipush (v := (8 : Int32)) hx hb d_P_advance_98 (by decide) ?_
      refine lv_icmp_ge (tgt := 115) hx hb d_P_advance_100 (by decide) (fun c0 => absurd c0 (by decide)) (fun _ => ?_)
      refine lv_aload_n hx hb d_P_advance_103 rfl (lv_at hl 2 rfl) ?_
      refine lv_iload_n hx hb d_P_advance_104 rfl (lv_at hl 1 rfl) ?_
      refine lv_iload_n hx hb d_P_advance_105 rfl (lv_at hl 0 rfl) ?_
      obtain ⟨S77, e77⟩ : ∃ z : CS, z = f_P_collide_II S76 (2 : Int32) (6 : Int32) := ⟨_, rfl⟩
      refine hg_cv (As := [.int (2 : Int32), .int (6 : Int32)]) (rest := []) ⟨hx, hb, hml, hown, hts⟩ (c_P_collide_II l dC dI ad cJ cI S76 (2 : Int32) (6 : Int32) (in_of (by decide) (by decide)) (in_of (by decide) (by decide)) _) (gw_callV (k := 2) hts tw_265 tw_267 tp_5 tw_2 tw_268 (by decide +kernel) rfl rfl ⟨Nat.le_of_ble_eq_true rfl, Nat.le_of_ble_eq_true rfl⟩) hK G hA (hx_T _ _) 1 1 rfl rfl rfl hl.1 rfl (Nat.le_of_ble_eq_true rfl) ⟨Nat.zero_le _, Nat.zero_le _⟩ d_P_advance_106 (fun H locs G => ?_)
      rw [← e77] at G
      refine lv_iinc (v := (7 : Int32)) (lv' := [(2, .int (7 : Int32)), (1, .int (2 : Int32)), (0, .ref (ad 1))]) hx hb d_P_advance_109 hl (k := 0) rfl (by decide) (by decide) rfl (fun ls hl => ?_)
      refine lv_goto (tgt := 97) hx hb d_P_advance_112 (by decide) ?_
      refine lv_iload_n hx hb d_P_advance_97 rfl (lv_at hl 0 rfl) ?_
      refine lv_bipush (v := (8 : Int32)) hx hb d_P_advance_98 (by decide) ?_
      refine lv_icmp_ge (tgt := 115) hx hb d_P_advance_100 (by decide) (fun c0 => absurd c0 (by decide)) (fun _ => ?_)
      refine lv_aload_n hx hb d_P_advance_103 rfl (lv_at hl 2 rfl) ?_
      refine lv_iload_n hx hb d_P_advance_104 rfl (lv_at hl 1 rfl) ?_
      refine lv_iload_n hx hb d_P_advance_105 rfl (lv_at hl 0 rfl) ?_
      obtain ⟨S78, e78⟩ : ∃ z : CS, z = f_P_collide_II S77 (2 : Int32) (7 : Int32) := ⟨_, rfl⟩
      refine hg_cv (As := [.int (2 : Int32), .int (7 : Int32)]) (rest := []) ⟨hx, hb, hml, hown, hts⟩ (c_P_collide_II l dC dI ad cJ cI S77 (2 : Int32) (7 : Int32) (in_of (by decide) (by decide)) (in_of (by decide) (by decide)) _) (gw_callV (k := 2) hts tw_265 tw_267 tp_5 tw_2 tw_268 (by decide +kernel) rfl rfl ⟨Nat.le_of_ble_eq_true rfl, Nat.le_of_ble_eq_true rfl⟩) hK G hA (hx_T _ _) 1 1 rfl rfl rfl hl.1 rfl (Nat.le_of_ble_eq_true rfl) ⟨Nat.zero_le _, Nat.zero_le _⟩ d_P_advance_106 (fun H locs G => ?_)
      rw [← e78] at G
      refine lv_iinc (v := (8 : Int32)) (lv' := [(2, .int (8 : Int32)), (1, .int (2 : Int32)), (0, .ref (ad 1))]) hx hb d_P_advance_109 hl (k := 0) rfl (by decide) (by decide) rfl (fun ls hl => ?_)
      refine lv_goto (tgt := 97) hx hb d_P_advance_112 (by decide) ?_
      refine lv_iload_n hx hb d_P_advance_97 rfl (lv_at hl 0 rfl) ?_
      refine lv_bipush (v := (8 : Int32)) hx hb d_P_advance_98 (by decide) ?_
      refine lv_icmp_ge (tgt := 115) hx hb d_P_advance_100 (by decide) (fun _ => ?_) (fun c0 => absurd c0 (by decide))
      refine lv_iinc (v := (3 : Int32)) (lv' := [(1, .int (3 : Int32)), (2, .int (8 : Int32)), (0, .ref (ad 1))]) hx hb d_P_advance_115 hl (k := 1) rfl (by decide) (by decide) rfl (fun ls hl => ?_)
      refine lv_goto (tgt := 87) hx hb d_P_advance_118 (by decide) ?_
      refine lv_iload_n hx hb d_P_advance_87 rfl (lv_at hl 0 rfl) ?_
      refine lv_bipush (v := (8 : Int32)) hx hb d_P_advance_88 (by decide) ?_
      refine lv_icmp_ge (tgt := 121) hx hb d_P_advance_90 (by decide) (fun c0 => absurd c0 (by decide)) (fun _ => ?_)
      refine lv_iload_n hx hb d_P_advance_93 rfl (lv_at hl 0 rfl) ?_
      refine lv_iconst (v := 1) hx hb d_P_advance_94 (by decide) ?_
      refine lv_iadd hx hb d_P_advance_95 ?_
      refine lv_topi (fun v79 e79 => ?_)
      obtain rfl : v79 = (4 : Int32) := by rw [e79]; decide
      refine lv_istore_n (lv' := [(2, .int (4 : Int32)), (1, .int (3 : Int32)), (0, .ref (ad 1))]) hx hb d_P_advance_96 rfl hl (by decide) rfl (fun ls hl => ?_)
      refine lv_iload_n hx hb d_P_advance_97 rfl (lv_at hl 0 rfl) ?_
      refine lv_bipush (v := (8 : Int32)) hx hb d_P_advance_98 (by decide) ?_
      refine lv_icmp_ge (tgt := 115) hx hb d_P_advance_100 (by decide) (fun c0 => absurd c0 (by decide)) (fun _ => ?_)
      refine lv_aload_n hx hb d_P_advance_103 rfl (lv_at hl 2 rfl) ?_
      refine lv_iload_n hx hb d_P_advance_104 rfl (lv_at hl 1 rfl) ?_
      refine lv_iload_n hx hb d_P_advance_105 rfl (lv_at hl 0 rfl) ?_
      obtain ⟨S80, e80⟩ : ∃ z : CS, z = f_P_collide_II S78 (3 : Int32) (4 : Int32) := ⟨_, rfl⟩
      refine hg_cv (As := [.int (3 : Int32), .int (4 : Int32)]) (rest := []) ⟨hx, hb, hml, hown, hts⟩ (c_P_collide_II l dC dI ad cJ cI S78 (3 : Int32) (4 : Int32) (in_of (by decide) (by decide)) (in_of (by decide) (by decide)) _) (gw_callV (k := 2) hts tw_265 tw_267 tp_5 tw_2 tw_268 (by decide +kernel) rfl rfl ⟨Nat.le_of_ble_eq_true rfl, Nat.le_of_ble_eq_true rfl⟩) hK G hA (hx_T _ _) 1 1 rfl rfl rfl hl.1 rfl (Nat.le_of_ble_eq_true rfl) ⟨Nat.zero_le _, Nat.zero_le _⟩ d_P_advance_106 (fun H locs G => ?_)
      rw [← e80] at G
      refine lv_iinc (v := (5 : Int32)) (lv' := [(2, .int (5 : Int32)), (1, .int (3 : Int32)), (0, .ref (ad 1))]) hx hb d_P_advance_109 hl (k := 0) rfl (by decide) (by decide) rfl (fun ls hl => ?_)
      refine lv_goto (tgt := 97) hx hb d_P_advance_112 (by decide) ?_
      refine lv_iload_n hx hb d_P_advance_97 rfl (lv_at hl 0 rfl) ?_
      refine lv_bipush (v := (8 : Int32)) hx hb d_P_advance_98 (by decide) ?_
      refine lv_icmp_ge (tgt := 115) hx hb d_P_advance_100 (by decide) (fun c0 => absurd c0 (by decide)) (fun _ => ?_)
      refine lv_aload_n hx hb d_P_advance_103 rfl (lv_at hl 2 rfl) ?_
      refine lv_iload_n hx hb d_P_advance_104 rfl (lv_at hl 1 rfl) ?_
      refine lv_iload_n hx hb d_P_advance_105 rfl (lv_at hl 0 rfl) ?_
      obtain ⟨S81, e81⟩ : ∃ z : CS, z = f_P_collide_II S80 (3 : Int32) (5 : Int32) := ⟨_, rfl⟩
      refine hg_cv (As := [.int (3 : Int32), .int (5 : Int32)]) (rest := []) ⟨hx, hb, hml, hown, hts⟩ (c_P_collide_II l dC dI ad cJ cI S80 (3 : Int32) (5 : Int32) (in_of (by decide) (by decide)) (in_of (by decide) (by decide)) _) (gw_callV (k := 2) hts tw_265 tw_267 tp_5 tw_2 tw_268 (by decide +kernel) rfl rfl ⟨Nat.le_of_ble_eq_true rfl, Nat.le_of_ble_eq_true rfl⟩) hK G hA (hx_T _ _) 1 1 rfl rfl rfl hl.1 rfl (Nat.le_of_ble_eq_true rfl) ⟨Nat.zero_le _, Nat.zero_le _⟩ d_P_advance_106 (fun H locs G => ?_)
      rw [← e81] at G
      refine lv_iinc (v := (6 : Int32)) (lv' := [(2, .int (6 : Int32)), (1, .int (3 : Int32)), (0, .ref (ad 1))]) hx hb d_P_advance_109 hl (k := 0) rfl (by decide) (by decide) rfl (fun ls hl => ?_)
      refine lv_goto (tgt := 97) hx hb d_P_advance_112 (by decide) ?_
      refine lv_iload_n hx hb d_P_advance_97 rfl (lv_at hl 0 rfl) ?_
      refine lv_bipush (v := (8 : Int32)) hx hb d_P_advance_98 (by decide) ?_
      refine lv_icmp_ge (tgt := 115) hx hb d_P_advance_100 (by decide) (fun c0 => absurd c0 (by decide)) (fun _ => ?_)
      refine lv_aload_n hx hb d_P_advance_103 rfl (lv_at hl 2 rfl) ?_
      refine lv_iload_n hx hb d_P_advance_104 rfl (lv_at hl 1 rfl) ?_
      refine lv_iload_n hx hb d_P_advance_105 rfl (lv_at hl 0 rfl) ?_
      obtain ⟨S82, e82⟩ : ∃ z : CS, z = f_P_collide_II S81 (3 : Int32) (6 : Int32) := ⟨_, rfl⟩
      refine hg_cv (As := [.int (3 : Int32), .int (6 : Int32)]) (rest := []) ⟨hx, hb, hml, hown, hts⟩ (c_P_collide_II l dC dI ad cJ cI S81 (3 : Int32) (6 : Int32) (in_of (by decide) (by decide)) (in_of (by decide) (by decide)) _) (gw_callV (k := 2) hts tw_265 tw_267 tp_5 tw_2 tw_268 (by decide +kernel) rfl rfl ⟨Nat.le_of_ble_eq_true rfl, Nat.le_of_ble_eq_true rfl⟩) hK G hA (hx_T _ _) 1 1 rfl rfl rfl hl.1 rfl (Nat.le_of_ble_eq_true rfl) ⟨Nat.zero_le _, Nat.zero_le _⟩ d_P_advance_106 (fun H locs G => ?_)
      rw [← e82] at G
      refine lv_iinc (v := (7 : Int32)) (lv' := [(2, .int (7 : Int32)), (1, .int (3 : Int32)), (0, .ref (ad 1))]) hx hb d_P_advance_109 hl (k := 0) rfl (by decide) (by decide) rfl (fun ls hl => ?_)
      refine lv_goto (tgt := 97) hx hb d_P_advance_112 (by decide) ?_
      refine lv_iload_n hx hb d_P_advance_97 rfl (lv_at hl 0 rfl) ?_
      refine lv_bipush (v := (8 : Int32)) hx hb d_P_advance_98 (by decide) ?_
      refine lv_icmp_ge (tgt := 115) hx hb d_P_advance_100 (by decide) (fun c0 => absurd c0 (by decide)) (fun _ => ?_)
      refine lv_aload_n hx hb d_P_advance_103 rfl (lv_at hl 2 rfl) ?_
      refine lv_iload_n hx hb d_P_advance_104 rfl (lv_at hl 1 rfl) ?_
      refine lv_iload_n hx hb d_P_advance_105 rfl (lv_at hl 0 rfl) ?_
      obtain ⟨S83, e83⟩ : ∃ z : CS, z = f_P_collide_II S82 (3 : Int32) (7 : Int32) := ⟨_, rfl⟩
      refine hg_cv (As := [.int (3 : Int32), .int (7 : Int32)]) (rest := []) ⟨hx, hb, hml, hown, hts⟩ (c_P_collide_II l dC dI ad cJ cI S82 (3 : Int32) (7 : Int32) (in_of (by decide) (by decide)) (in_of (by decide) (by decide)) _) (gw_callV (k := 2) hts tw_265 tw_267 tp_5 tw_2 tw_268 (by decide +kernel) rfl rfl ⟨Nat.le_of_ble_eq_true rfl, Nat.le_of_ble_eq_true rfl⟩) hK G hA (hx_T _ _) 1 1 rfl rfl rfl hl.1 rfl (Nat.le_of_ble_eq_true rfl) ⟨Nat.zero_le _, Nat.zero_le _⟩ d_P_advance_106 (fun H locs G => ?_)
      rw [← e83] at G
      refine lv_iinc (v := (8 : Int32)) (lv' := [(2, .int (8 : Int32)), (1, .int (3 : Int32)), (0, .ref (ad 1))]) hx hb d_P_advance_109 hl (k := 0) rfl (by decide) (by decide) rfl (fun ls hl => ?_)
      refine lv_goto (tgt := 97) hx hb d_P_advance_112 (by decide) ?_
      refine lv_iload_n hx hb d_P_advance_97 rfl (lv_at hl 0 rfl) ?_
      refine lv_bipush (v := (8 : Int32)) hx hb d_P_advance_98 (by decide) ?_
      refine lv_icmp_ge (tgt := 115) hx hb d_P_advance_100 (by decide) (fun _ => ?_) (fun c0 => absurd c0 (by decide))
      refine lv_iinc (v := (4 : Int32)) (lv' := [(1, .int (4 : Int32)), (2, .int (8 : Int32)), (0, .ref (ad 1))]) hx hb d_P_advance_115 hl (k := 1) rfl (by decide) (by decide) rfl (fun ls hl => ?_)
      refine lv_goto (tgt := 87) hx hb d_P_advance_118 (by decide) ?_
      refine lv_iload_n hx hb d_P_advance_87 rfl (lv_at hl 0 rfl) ?_
      refine lv_bipush (v := (8 : Int32)) hx hb d_P_advance_88 (by decide) ?_
      refine lv_icmp_ge (tgt := 121) hx hb d_P_advance_90 (by decide) (fun c0 => absurd c0 (by decide)) (fun _ => ?_)
      refine lv_iload_n hx hb d_P_advance_93 rfl (lv_at hl 0 rfl) ?_
      refine lv_iconst (v := 1) hx hb d_P_advance_94 (by decide) ?_
      refine lv_iadd hx hb d_P_advance_95 ?_
      refine lv_topi (fun v84 e84 => ?_)
      obtain rfl : v84 = (5 : Int32) := by rw [e84]; decide
      refine lv_istore_n (lv' := [(2, .int (5 : Int32)), (1, .int (4 : Int32)), (0, .ref (ad 1))]) hx hb d_P_advance_96 rfl hl (by decide) rfl (fun ls hl => ?_)
      refine lv_iload_n hx hb d_P_advance_97 rfl (lv_at hl 0 rfl) ?_
      refine lv_bipush (v := (8 : Int32)) hx hb d_P_advance_98 (by decide) ?_
      refine lv_icmp_ge (tgt := 115) hx hb d_P_advance_100 (by decide) (fun c0 => absurd c0 (by decide)) (fun _ => ?_)
      refine lv_aload_n hx hb d_P_advance_103 rfl (lv_at hl 2 rfl) ?_
      refine lv_iload_n hx hb d_P_advance_104 rfl (lv_at hl 1 rfl) ?_
      refine lv_iload_n hx hb d_P_advance_105 rfl (lv_at hl 0 rfl) ?_
      obtain ⟨S85, e85⟩ : ∃ z : CS, z = f_P_collide_II S83 (4 : Int32) (5 : Int32) := ⟨_, rfl⟩
      refine hg_cv (As := [.int (4 : Int32), .int (5 : Int32)]) (rest := []) ⟨hx, hb, hml, hown, hts⟩ (c_P_collide_II l dC dI ad cJ cI S83 (4 : Int32) (5 : Int32) (in_of (by decide) (by decide)) (in_of (by decide) (by decide)) _) (gw_callV (k := 2) hts tw_265 tw_267 tp_5 tw_2 tw_268 (by decide +kernel) rfl rfl ⟨Nat.le_of_ble_eq_true rfl, Nat.le_of_ble_eq_true rfl⟩) hK G hA (hx_T _ _) 1 1 rfl rfl rfl hl.1 rfl (Nat.le_of_ble_eq_true rfl) ⟨Nat.zero_le _, Nat.zero_le _⟩ d_P_advance_106 (fun H locs G => ?_)
      rw [← e85] at G
      refine lv_iinc (v := (6 : Int32)) (lv' := [(2, .int (6 : Int32)), (1, .int (4 : Int32)), (0, .ref (ad 1))]) hx hb d_P_advance_109 hl (k := 0) rfl (by decide) (by decide) rfl (fun ls hl => ?_)
      refine lv_goto (tgt := 97) hx hb d_P_advance_112 (by decide) ?_
      refine lv_iload_n hx hb d_P_advance_97 rfl (lv_at hl 0 rfl) ?_
      refine lv_bipush (v := (8 : Int32)) hx hb d_P_advance_98 (by decide) ?_
      refine lv_icmp_ge (tgt := 115) hx hb d_P_advance_100 (by decide) (fun c0 => absurd c0 (by decide)) (fun _ => ?_)
      refine lv_aload_n hx hb d_P_advance_103 rfl (lv_at hl 2 rfl) ?_
      refine lv_iload_n hx hb d_P_advance_104 rfl (lv_at hl 1 rfl) ?_
      refine lv_iload_n hx hb d_P_advance_105 rfl (lv_at hl 0 rfl) ?_
      obtain ⟨S86, e86⟩ : ∃ z : CS, z = f_P_collide_II S85 (4 : Int32) (6 : Int32) := ⟨_, rfl⟩
      refine hg_cv (As := [.int (4 : Int32), .int (6 : Int32)]) (rest := []) ⟨hx, hb, hml, hown, hts⟩ (c_P_collide_II l dC dI ad cJ cI S85 (4 : Int32) (6 : Int32) (in_of (by decide) (by decide)) (in_of (by decide) (by decide)) _) (gw_callV (k := 2) hts tw_265 tw_267 tp_5 tw_2 tw_268 (by decide +kernel) rfl rfl ⟨Nat.le_of_ble_eq_true rfl, Nat.le_of_ble_eq_true rfl⟩) hK G hA (hx_T _ _) 1 1 rfl rfl rfl hl.1 rfl (Nat.le_of_ble_eq_true rfl) ⟨Nat.zero_le _, Nat.zero_le _⟩ d_P_advance_106 (fun H locs G => ?_)
      rw [← e86] at G
      refine lv_iinc (v := (7 : Int32)) (lv' := [(2, .int (7 : Int32)), (1, .int (4 : Int32)), (0, .ref (ad 1))]) hx hb d_P_advance_109 hl (k := 0) rfl (by decide) (by decide) rfl (fun ls hl => ?_)
      refine lv_goto (tgt := 97) hx hb d_P_advance_112 (by decide) ?_
      refine lv_iload_n hx hb d_P_advance_97 rfl (lv_at hl 0 rfl) ?_
      refine lv_bipush (v := (8 : Int32)) hx hb d_P_advance_98 (by decide) ?_
      refine lv_icmp_ge (tgt := 115) hx hb d_P_advance_100 (by decide) (fun c0 => absurd c0 (by decide)) (fun _ => ?_)
      refine lv_aload_n hx hb d_P_advance_103 rfl (lv_at hl 2 rfl) ?_
      refine lv_iload_n hx hb d_P_advance_104 rfl (lv_at hl 1 rfl) ?_
      refine lv_iload_n hx hb d_P_advance_105 rfl (lv_at hl 0 rfl) ?_
      obtain ⟨S87, e87⟩ : ∃ z : CS, z = f_P_collide_II S86 (4 : Int32) (7 : Int32) := ⟨_, rfl⟩
      refine hg_cv (As := [.int (4 : Int32), .int (7 : Int32)]) (rest := []) ⟨hx, hb, hml, hown, hts⟩ (c_P_collide_II l dC dI ad cJ cI S86 (4 : Int32) (7 : Int32) (in_of (by decide) (by decide)) (in_of (by decide) (by decide)) _) (gw_callV (k := 2) hts tw_265 tw_267 tp_5 tw_2 tw_268 (by decide +kernel) rfl rfl ⟨Nat.le_of_ble_eq_true rfl, Nat.le_of_ble_eq_true rfl⟩) hK G hA (hx_T _ _) 1 1 rfl rfl rfl hl.1 rfl (Nat.le_of_ble_eq_true rfl) ⟨Nat.zero_le _, Nat.zero_le _⟩ d_P_advance_106 (fun H locs G => ?_)
      rw [← e87] at G
      refine lv_iinc (v := (8 : Int32)) (lv' := [(2, .int (8 : Int32)), (1, .int (4 : Int32)), (0, .ref (ad 1))]) hx hb d_P_advance_109 hl (k := 0) rfl (by decide) (by decide) rfl (fun ls hl => ?_)
      refine lv_goto (tgt := 97) hx hb d_P_advance_112 (by decide) ?_
      refine lv_iload_n hx hb d_P_advance_97 rfl (lv_at hl 0 rfl) ?_
      refine lv_bipush (v := (8 : Int32)) hx hb d_P_advance_98 (by decide) ?_
      refine lv_icmp_ge (tgt := 115) hx hb d_P_advance_100 (by decide) (fun _ => ?_) (fun c0 => absurd c0 (by decide))
      refine lv_iinc (v := (5 : Int32)) (lv' := [(1, .int (5 : Int32)), (2, .int (8 : Int32)), (0, .ref (ad 1))]) hx hb d_P_advance_115 hl (k := 1) rfl (by decide) (by decide) rfl (fun ls hl => ?_)
      refine lv_goto (tgt := 87) hx hb d_P_advance_118 (by decide) ?_
      refine lv_iload_n hx hb d_P_advance_87 rfl (lv_at hl 0 rfl) ?_
      refine lv_bipush (v := (8 : Int32)) hx hb d_P_advance_88 (by decide) ?_
      refine lv_icmp_ge (tgt := 121) hx hb d_P_advance_90 (by decide) (fun c0 => absurd c0 (by decide)) (fun _ => ?_)
      refine lv_iload_n hx hb d_P_advance_93 rfl (lv_at hl 0 rfl) ?_
      refine lv_iconst (v := 1) hx hb d_P_advance_94 (by decide) ?_
      refine lv_iadd hx hb d_P_advance_95 ?_
      refine lv_topi (fun v88 e88 => ?_)
      obtain rfl : v88 = (6 : Int32) := by rw [e88]; decide
      refine lv_istore_n (lv' := [(2, .int (6 : Int32)), (1, .int (5 : Int32)), (0, .ref (ad 1))]) hx hb d_P_advance_96 rfl hl (by decide) rfl (fun ls hl => ?_)
      refine lv_iload_n hx hb d_P_advance_97 rfl (lv_at hl 0 rfl) ?_
      refine lv_bipush (v := (8 : Int32)) hx hb d_P_advance_98 (by decide) ?_
      refine lv_icmp_ge (tgt := 115) hx hb d_P_advance_100 (by decide) (fun c0 => absurd c0 (by decide)) (fun _ => ?_)
      refine lv_aload_n hx hb d_P_advance_103 rfl (lv_at hl 2 rfl) ?_
      refine lv_iload_n hx hb d_P_advance_104 rfl (lv_at hl 1 rfl) ?_
      refine lv_iload_n hx hb d_P_advance_105 rfl (lv_at hl 0 rfl) ?_
      obtain ⟨S89, e89⟩ : ∃ z : CS, z = f_P_collide_II S87 (5 : Int32) (6 : Int32) := ⟨_, rfl⟩
      refine hg_cv (As := [.int (5 : Int32), .int (6 : Int32)]) (rest := []) ⟨hx, hb, hml, hown, hts⟩ (c_P_collide_II l dC dI ad cJ cI S87 (5 : Int32) (6 : Int32) (in_of (by decide) (by decide)) (in_of (by decide) (by decide)) _) (gw_callV (k := 2) hts tw_265 tw_267 tp_5 tw_2 tw_268 (by decide +kernel) rfl rfl ⟨Nat.le_of_ble_eq_true rfl, Nat.le_of_ble_eq_true rfl⟩) hK G hA (hx_T _ _) 1 1 rfl rfl rfl hl.1 rfl (Nat.le_of_ble_eq_true rfl) ⟨Nat.zero_le _, Nat.zero_le _⟩ d_P_advance_106 (fun H locs G => ?_)
      rw [← e89] at G
      refine lv_iinc (v := (7 : Int32)) (lv' := [(2, .int (7 : Int32)), (1, .int (5 : Int32)), (0, .ref (ad 1))]) hx hb d_P_advance_109 hl (k := 0) rfl (by decide) (by decide) rfl (fun ls hl => ?_)
      refine lv_goto (tgt := 97) hx hb d_P_advance_112 (by decide) ?_
      refine lv_iload_n hx hb d_P_advance_97 rfl (lv_at hl 0 rfl) ?_
      refine lv_bipush (v := (8 : Int32)) hx hb d_P_advance_98 (by decide) ?_
      refine lv_icmp_ge (tgt := 115) hx hb d_P_advance_100 (by decide) (fun c0 => absurd c0 (by decide)) (fun _ => ?_)
      refine lv_aload_n hx hb d_P_advance_103 rfl (lv_at hl 2 rfl) ?_
      refine lv_iload_n hx hb d_P_advance_104 rfl (lv_at hl 1 rfl) ?_
      refine lv_iload_n hx hb d_P_advance_105 rfl (lv_at hl 0 rfl) ?_
      obtain ⟨S90, e90⟩ : ∃ z : CS, z = f_P_collide_II S89 (5 : Int32) (7 : Int32) := ⟨_, rfl⟩
      refine hg_cv (As := [.int (5 : Int32), .int (7 : Int32)]) (rest := []) ⟨hx, hb, hml, hown, hts⟩ (c_P_collide_II l dC dI ad cJ cI S89 (5 : Int32) (7 : Int32) (in_of (by decide) (by decide)) (in_of (by decide) (by decide)) _) (gw_callV (k := 2) hts tw_265 tw_267 tp_5 tw_2 tw_268 (by decide +kernel) rfl rfl ⟨Nat.le_of_ble_eq_true rfl, Nat.le_of_ble_eq_true rfl⟩) hK G hA (hx_T _ _) 1 1 rfl rfl rfl hl.1 rfl (Nat.le_of_ble_eq_true rfl) ⟨Nat.zero_le _, Nat.zero_le _⟩ d_P_advance_106 (fun H locs G => ?_)
      rw [← e90] at G
      refine lv_iinc (v := (8 : Int32)) (lv' := [(2, .int (8 : Int32)), (1, .int (5 : Int32)), (0, .ref (ad 1))]) hx hb d_P_advance_109 hl (k := 0) rfl (by decide) (by decide) rfl (fun ls hl => ?_)
      refine lv_goto (tgt := 97) hx hb d_P_advance_112 (by decide) ?_
      refine lv_iload_n hx hb d_P_advance_97 rfl (lv_at hl 0 rfl) ?_
      refine lv_bipush (v := (8 : Int32)) hx hb d_P_advance_98 (by decide) ?_
      refine lv_icmp_ge (tgt := 115) hx hb d_P_advance_100 (by decide) (fun _ => ?_) (fun c0 => absurd c0 (by decide))
      refine lv_iinc (v := (6 : Int32)) (lv' := [(1, .int (6 : Int32)), (2, .int (8 : Int32)), (0, .ref (ad 1))]) hx hb d_P_advance_115 hl (k := 1) rfl (by decide) (by decide) rfl (fun ls hl => ?_)
      refine lv_goto (tgt := 87) hx hb d_P_advance_118 (by decide) ?_
      refine lv_iload_n hx hb d_P_advance_87 rfl (lv_at hl 0 rfl) ?_
      refine lv_bipush (v := (8 : Int32)) hx hb d_P_advance_88 (by decide) ?_
      refine lv_icmp_ge (tgt := 121) hx hb d_P_advance_90 (by decide) (fun c0 => absurd c0 (by decide)) (fun _ => ?_)
      refine lv_iload_n hx hb d_P_advance_93 rfl (lv_at hl 0 rfl) ?_
      refine lv_iconst (v := 1) hx hb d_P_advance_94 (by decide) ?_
      refine lv_iadd hx hb d_P_advance_95 ?_
      refine lv_topi (fun v91 e91 => ?_)
      obtain rfl : v91 = (7 : Int32) := by rw [e91]; decide
      refine lv_istore_n (lv' := [(2, .int (7 : Int32)), (1, .int (6 : Int32)), (0, .ref (ad 1))]) hx hb d_P_advance_96 rfl hl (by decide) rfl (fun ls hl => ?_)
      refine lv_iload_n hx hb d_P_advance_97 rfl (lv_at hl 0 rfl) ?_
      refine lv_bipush (v := (8 : Int32)) hx hb d_P_advance_98 (by decide) ?_
      refine lv_icmp_ge (tgt := 115) hx hb d_P_advance_100 (by decide) (fun c0 => absurd c0 (by decide)) (fun _ => ?_)
      refine lv_aload_n hx hb d_P_advance_103 rfl (lv_at hl 2 rfl) ?_
      refine lv_iload_n hx hb d_P_advance_104 rfl (lv_at hl 1 rfl) ?_
      refine lv_iload_n hx hb d_P_advance_105 rfl (lv_at hl 0 rfl) ?_
      obtain ⟨S92, e92⟩ : ∃ z : CS, z = f_P_collide_II S90 (6 : Int32) (7 : Int32) := ⟨_, rfl⟩
      refine hg_cv (As := [.int (6 : Int32), .int (7 : Int32)]) (rest := []) ⟨hx, hb, hml, hown, hts⟩ (c_P_collide_II l dC dI ad cJ cI S90 (6 : Int32) (7 : Int32) (in_of (by decide) (by decide)) (in_of (by decide) (by decide)) _) (gw_callV (k := 2) hts tw_265 tw_267 tp_5 tw_2 tw_268 (by decide +kernel) rfl rfl ⟨Nat.le_of_ble_eq_true rfl, Nat.le_of_ble_eq_true rfl⟩) hK G hA (hx_T _ _) 1 1 rfl rfl rfl hl.1 rfl (Nat.le_of_ble_eq_true rfl) ⟨Nat.zero_le _, Nat.zero_le _⟩ d_P_advance_106 (fun H locs G => ?_)
      rw [← e92] at G
      refine lv_iinc (v := (8 : Int32)) (lv' := [(2, .int (8 : Int32)), (1, .int (6 : Int32)), (0, .ref (ad 1))]) hx hb d_P_advance_109 hl (k := 0) rfl (by decide) (by decide) rfl (fun ls hl => ?_)
      refine lv_goto (tgt := 97) hx hb d_P_advance_112 (by decide) ?_
      refine lv_iload_n hx hb d_P_advance_97 rfl (lv_at hl 0 rfl) ?_
      refine lv_bipush (v := (8 : Int32)) hx hb d_P_advance_98 (by decide) ?_
      refine lv_icmp_ge (tgt := 115) hx hb d_P_advance_100 (by decide) (fun _ => ?_) (fun c0 => absurd c0 (by decide))
      refine lv_iinc (v := (7 : Int32)) (lv' := [(1, .int (7 : Int32)), (2, .int (8 : Int32)), (0, .ref (ad 1))]) hx hb d_P_advance_115 hl (k := 1) rfl (by decide) (by decide) rfl (fun ls hl => ?_)
      refine lv_goto (tgt := 87) hx hb d_P_advance_118 (by decide) ?_
      refine lv_iload_n hx hb d_P_advance_87 rfl (lv_at hl 0 rfl) ?_
      refine lv_bipush (v := (8 : Int32)) hx hb d_P_advance_88 (by decide) ?_
      refine lv_icmp_ge (tgt := 121) hx hb d_P_advance_90 (by decide) (fun c0 => absurd c0 (by decide)) (fun _ => ?_)
      refine lv_iload_n hx hb d_P_advance_93 rfl (lv_at hl 0 rfl) ?_
      refine lv_iconst (v := 1) hx hb d_P_advance_94 (by decide) ?_
      refine lv_iadd hx hb d_P_advance_95 ?_
      refine lv_topi (fun v93 e93 => ?_)
      obtain rfl : v93 = (8 : Int32) := by rw [e93]; decide
      refine lv_istore_n (lv' := [(2, .int (8 : Int32)), (1, .int (7 : Int32)), (0, .ref (ad 1))]) hx hb d_P_advance_96 rfl hl (by decide) rfl (fun ls hl => ?_)
      refine lv_iload_n hx hb d_P_advance_97 rfl (lv_at hl 0 rfl) ?_
      refine lv_bipush (v := (8 : Int32)) hx hb d_P_advance_98 (by decide) ?_
      refine lv_icmp_ge (tgt := 115) hx hb d_P_advance_100 (by decide) (fun _ => ?_) (fun c0 => absurd c0 (by decide))
      refine lv_iinc (v := (8 : Int32)) (lv' := [(1, .int (8 : Int32)), (2, .int (8 : Int32)), (0, .ref (ad 1))]) hx hb d_P_advance_115 hl (k := 1) rfl (by decide) (by decide) rfl (fun ls hl => ?_)
      refine lv_goto (tgt := 87) hx hb d_P_advance_118 (by decide) ?_
      refine lv_iload_n hx hb d_P_advance_87 rfl (lv_at hl 0 rfl) ?_
      refine lv_bipush (v := (8 : Int32)) hx hb d_P_advance_88 (by decide) ?_
      refine lv_icmp_ge (tgt := 121) hx hb d_P_advance_90 (by decide) (fun _ => ?_) (fun c0 => absurd c0 (by decide))
      exact hg_vret hx hb hr hlocks hK hAe G (by have qe2 := e2.symm; have qe5 := e5.symm; have qe8 := e8.symm; have qe9 := e9.symm; have qe12 := e12.symm; have qe15 := e15.symm; have qe16 := e16.symm; have qe19 := e19.symm; have qe22 := e22.symm; have qe23 := e23.symm; have qe26 := e26.symm; have qe29 := e29.symm; have qe30 := e30.symm; have qe33 := e33.symm; have qe36 := e36.symm; have qe37 := e37.symm; have qe40 := e40.symm; have qe43 := e43.symm; have qe44 := e44.symm; have qe47 := e47.symm; have qe50 := e50.symm; have qe51 := e51.symm; have qe54 := e54.symm; have qe57 := e57.symm; have qe59 := e59.symm; have qe60 := e60.symm; have qe61 := e61.symm; have qe62 := e62.symm; have qe63 := e63.symm; have qe64 := e64.symm; have qe65 := e65.symm; have qe67 := e67.symm; have qe68 := e68.symm; have qe69 := e69.symm; have qe70 := e70.symm; have qe71 := e71.symm; have qe72 := e72.symm; have qe74 := e74.symm; have qe75 := e75.symm; have qe76 := e76.symm; have qe77 := e77.symm; have qe78 := e78.symm; have qe80 := e80.symm; have qe81 := e81.symm; have qe82 := e82.symm; have qe83 := e83.symm; have qe85 := e85.symm; have qe86 := e86.symm; have qe87 := e87.symm; have qe89 := e89.symm; have qe90 := e90.symm; have qe92 := e92.symm; subst qe2 qe5 qe8 qe9 qe12 qe15 qe16 qe19 qe22 qe23 qe26 qe29 qe30 qe33 qe36 qe37 qe40 qe43 qe44 qe47 qe50 qe51 qe54 qe57 qe59 qe60 qe61 qe62 qe63 qe64 qe65 qe67 qe68 qe69 qe70 qe71 qe72 qe74 qe75 qe76 qe77 qe78 qe80 qe81 qe82 qe83 qe85 qe86 qe87 qe89 qe90 qe92; exact congrArg (cW ad cJ cI) (Eq.symm (hw.trans (if_pos c1)))) d_P_advance_121
    · refine lv_aload_n hx hb d_P_advance_32 rfl (lv_at hl 0 rfl) ?_
      refine lv_iload_n hx hb d_P_advance_33 rfl (lv_at hl 1 rfl) ?_
      obtain ⟨S94, e94⟩ : ∃ z : CS, z = f_P_pullBySpring_I S x1 := ⟨_, rfl⟩
      refine hg_cv (As := [.int x1]) (rest := []) ⟨hx, hb, hml, hown, hts⟩ (c_P_pullBySpring_I l dC dI ad cJ cI S x1 (cOK_at hOK hinv c1).1 (cOK_at hOK hinv c1).2.1 (cOK_at hOK hinv c1).2.2 _) (gw_callV (k := 1) hts tw_203 tw_205 tp_1 tw_2 tw_206 (by decide +kernel) rfl rfl ⟨Nat.le_of_ble_eq_true rfl, Nat.le_of_ble_eq_true rfl⟩) hK G hA (hx_T _ _) 1 1 rfl rfl rfl hl.1 rfl (Nat.le_of_ble_eq_true rfl) ⟨Nat.zero_le _, Nat.zero_le _⟩ d_P_advance_34 (fun H locs G => ?_)
      rw [← e94] at G
      obtain ⟨v95, e95⟩ : ∃ y : Int32, y = x1 + 1 := ⟨_, rfl⟩
      refine lv_iinc (v := v95) (lv' := [(1, .int v95), (0, .ref (ad 1))]) hx hb d_P_advance_37 hl (k := 1) rfl (by rw [e95]; rfl) (by decide) rfl (fun ls hl => ?_)
      refine lv_goto (tgt := 21) hx hb d_P_advance_40 (by decide) ?_
      exact ih S94 v95 (by rw [e94]; exact cOK_of (kp_pull _ _) hOK) (by rw [e94, (kp_pull _ _).2, e95]; exact fl_up hinv c1) _ _ G ls (lv_sub hl [1, 0] rfl) (by have qe94 := e94.symm; have qe95 := e95.symm; subst qe94 qe95; exact (hw.trans (if_neg c1)))
def f_P_advance (S : CS) : CS :=
  let S1 : CS := f_P_pullByField_I S (0 : Int32)
  let S2 : CS := f_P_pullByField_I S1 (1 : Int32)
  let S3 : CS := f_P_pullByField_I S2 (2 : Int32)
  let S4 : CS := f_P_pullByField_I S3 (3 : Int32)
  let S5 : CS := f_P_pullByField_I S4 (4 : Int32)
  let S6 : CS := f_P_pullByField_I S5 (5 : Int32)
  let S7 : CS := f_P_pullByField_I S6 (6 : Int32)
  let S8 : CS := f_P_pullByField_I S7 (7 : Int32)
  f_P_advance_21 ((sC S8).toNatClampNeg + 1) S8 (0 : Int32)
set_option maxHeartbeats 4000000 in
set_option maxRecDepth 100000 in
theorem c_P_advance (l : Launch) (dC : Nat → ClassId) (dI : Nat → Nat → Nat) (ad : Nat → Nat) (cJ cI : ClassId) (S : CS)  (hOK : cOK S) (sz : Nat) : hMv l y_P_advance (gw y_P_advance b_P_advance 3 none) { frames := 6, cells := 0, slots := 0, locals := 176 } [.ref (ad 1)] (dC, dI) classes (tysJI cJ cI) (fun _ => True) (cW ad cJ cI S) sz (cW ad cJ cI (f_P_advance S)) := by
  refine Met.ofW (cc := b_P_advance) (maxL := 3) (ret := none) (by decide) rfl ?_
  intro p e s m args below meth c s₁ B hml hv
  obtain ⟨rfl, hsz, hP, hK, hD0, hRT⟩ := hv
  have hx := B.exec
  have hb := B.bytes
  have hr := B.returns
  have hts := atoms_spec (ws := (gw y_P_advance b_P_advance 3 none)) B.pre
  have hown : s.vm.findClass "MotionLab$Plane" = some m.cls := findClass_of_methodNamed B.named
  have hlocks := B.notSynchronized
  have C0 : pu_C p s m _ meth c b_P_advance 3 "MotionLab$Plane" none (gw y_P_advance b_P_advance 3 none) := ⟨hx, hb, hml, hown, hts, hr, hlocks⟩
  subst hsz
  have hD := hD0.self (sz := s.heap.size)
  generalize hAe : va_A (cW ad cJ cI S) s.heap.size = A at hD
  have hA : ∀ q : Nat, s.heap.size ≤ q → A q := fun q h => by rw [← hAe]; exact Or.inr h
  have G : hG (dC, dI) classes A s.heap (cW ad cJ cI S) s.heap [] := ⟨hP, hD, va_S.rf⟩
  have hl := lv_entry ([.ref (ad 1)]) (n := 3) (Nat.le_of_ble_eq_true rfl)
  rw [lg_entry_eq]
  generalize (lg_sl ([.ref (ad 1)]) ++ List.replicate (3 - (lg_sl ([.ref (ad 1)])).length) Slot.unset).toArray = ls at hl ⊢
  have hl : lv_has ls 3 [(0, .ref (ad 1))] := hl
  refine lv_iconst (v := 0) hx hb d_P_advance_0 (by decide) ?_
  refine lv_istore_n (lv' := [(1, .int (0 : Int32)), (0, .ref (ad 1))]) hx hb d_P_advance_1 rfl hl (by decide) rfl (fun ls hl => ?_)
  refine lv_iload_n hx hb d_P_advance_2 rfl (lv_at hl 0 rfl) ?_
  refine lv_bipush (v := (8 : Int32)) hx hb d_P_advance_3 (by decide) ?_
  refine lv_icmp_ge (tgt := 19) hx hb d_P_advance_5 (by decide) (fun c0 => absurd c0 (by decide)) (fun _ => ?_)
  refine lv_aload_n hx hb d_P_advance_8 rfl (lv_at hl 1 rfl) ?_
  refine lv_iload_n hx hb d_P_advance_9 rfl (lv_at hl 0 rfl) ?_
  obtain ⟨S1, e1⟩ : ∃ z : CS, z = f_P_pullByField_I S (0 : Int32) := ⟨_, rfl⟩
  refine hg_cv (As := [.int (0 : Int32)]) (rest := []) ⟨hx, hb, hml, hown, hts⟩ (c_P_pullByField_I l dC dI ad cJ cI S (0 : Int32) (in_of (by decide) (by decide)) _) (gw_callV (k := 1) hts tw_170 tw_172 tp_0 tw_2 tw_173 (by decide +kernel) rfl rfl ⟨Nat.le_of_ble_eq_true rfl, Nat.le_of_ble_eq_true rfl⟩) hK G hA (hx_T _ _) 1 1 rfl rfl rfl hl.1 rfl (Nat.le_of_ble_eq_true rfl) ⟨Nat.zero_le _, Nat.zero_le _⟩ d_P_advance_10 (fun H locs G => ?_)
  rw [← e1] at G
  refine lv_iinc (v := (1 : Int32)) (lv' := [(1, .int (1 : Int32)), (0, .ref (ad 1))]) hx hb d_P_advance_13 hl (k := 0) rfl (by decide) (by decide) rfl (fun ls hl => ?_)
  refine lv_goto (tgt := 2) hx hb d_P_advance_16 (by decide) ?_
  refine lv_iload_n hx hb d_P_advance_2 rfl (lv_at hl 0 rfl) ?_
  refine lv_bipush (v := (8 : Int32)) hx hb d_P_advance_3 (by decide) ?_
  refine lv_icmp_ge (tgt := 19) hx hb d_P_advance_5 (by decide) (fun c0 => absurd c0 (by decide)) (fun _ => ?_)
  refine lv_aload_n hx hb d_P_advance_8 rfl (lv_at hl 1 rfl) ?_
  refine lv_iload_n hx hb d_P_advance_9 rfl (lv_at hl 0 rfl) ?_
  obtain ⟨S2, e2⟩ : ∃ z : CS, z = f_P_pullByField_I S1 (1 : Int32) := ⟨_, rfl⟩
  refine hg_cv (As := [.int (1 : Int32)]) (rest := []) ⟨hx, hb, hml, hown, hts⟩ (c_P_pullByField_I l dC dI ad cJ cI S1 (1 : Int32) (in_of (by decide) (by decide)) _) (gw_callV (k := 1) hts tw_170 tw_172 tp_0 tw_2 tw_173 (by decide +kernel) rfl rfl ⟨Nat.le_of_ble_eq_true rfl, Nat.le_of_ble_eq_true rfl⟩) hK G hA (hx_T _ _) 1 1 rfl rfl rfl hl.1 rfl (Nat.le_of_ble_eq_true rfl) ⟨Nat.zero_le _, Nat.zero_le _⟩ d_P_advance_10 (fun H locs G => ?_)
  rw [← e2] at G
  refine lv_iinc (v := (2 : Int32)) (lv' := [(1, .int (2 : Int32)), (0, .ref (ad 1))]) hx hb d_P_advance_13 hl (k := 0) rfl (by decide) (by decide) rfl (fun ls hl => ?_)
  refine lv_goto (tgt := 2) hx hb d_P_advance_16 (by decide) ?_
  refine lv_iload_n hx hb d_P_advance_2 rfl (lv_at hl 0 rfl) ?_
  refine lv_bipush (v := (8 : Int32)) hx hb d_P_advance_3 (by decide) ?_
  refine lv_icmp_ge (tgt := 19) hx hb d_P_advance_5 (by decide) (fun c0 => absurd c0 (by decide)) (fun _ => ?_)
  refine lv_aload_n hx hb d_P_advance_8 rfl (lv_at hl 1 rfl) ?_
  refine lv_iload_n hx hb d_P_advance_9 rfl (lv_at hl 0 rfl) ?_
  obtain ⟨S3, e3⟩ : ∃ z : CS, z = f_P_pullByField_I S2 (2 : Int32) := ⟨_, rfl⟩
  refine hg_cv (As := [.int (2 : Int32)]) (rest := []) ⟨hx, hb, hml, hown, hts⟩ (c_P_pullByField_I l dC dI ad cJ cI S2 (2 : Int32) (in_of (by decide) (by decide)) _) (gw_callV (k := 1) hts tw_170 tw_172 tp_0 tw_2 tw_173 (by decide +kernel) rfl rfl ⟨Nat.le_of_ble_eq_true rfl, Nat.le_of_ble_eq_true rfl⟩) hK G hA (hx_T _ _) 1 1 rfl rfl rfl hl.1 rfl (Nat.le_of_ble_eq_true rfl) ⟨Nat.zero_le _, Nat.zero_le _⟩ d_P_advance_10 (fun H locs G => ?_)
  rw [← e3] at G
  refine lv_iinc (v := (3 : Int32)) (lv' := [(1, .int (3 : Int32)), (0, .ref (ad 1))]) hx hb d_P_advance_13 hl (k := 0) rfl (by decide) (by decide) rfl (fun ls hl => ?_)
  refine lv_goto (tgt := 2) hx hb d_P_advance_16 (by decide) ?_
  refine lv_iload_n hx hb d_P_advance_2 rfl (lv_at hl 0 rfl) ?_
  refine lv_bipush (v := (8 : Int32)) hx hb d_P_advance_3 (by decide) ?_
  refine lv_icmp_ge (tgt := 19) hx hb d_P_advance_5 (by decide) (fun c0 => absurd c0 (by decide)) (fun _ => ?_)
  refine lv_aload_n hx hb d_P_advance_8 rfl (lv_at hl 1 rfl) ?_
  refine lv_iload_n hx hb d_P_advance_9 rfl (lv_at hl 0 rfl) ?_
  obtain ⟨S4, e4⟩ : ∃ z : CS, z = f_P_pullByField_I S3 (3 : Int32) := ⟨_, rfl⟩
  refine hg_cv (As := [.int (3 : Int32)]) (rest := []) ⟨hx, hb, hml, hown, hts⟩ (c_P_pullByField_I l dC dI ad cJ cI S3 (3 : Int32) (in_of (by decide) (by decide)) _) (gw_callV (k := 1) hts tw_170 tw_172 tp_0 tw_2 tw_173 (by decide +kernel) rfl rfl ⟨Nat.le_of_ble_eq_true rfl, Nat.le_of_ble_eq_true rfl⟩) hK G hA (hx_T _ _) 1 1 rfl rfl rfl hl.1 rfl (Nat.le_of_ble_eq_true rfl) ⟨Nat.zero_le _, Nat.zero_le _⟩ d_P_advance_10 (fun H locs G => ?_)
  rw [← e4] at G
  refine lv_iinc (v := (4 : Int32)) (lv' := [(1, .int (4 : Int32)), (0, .ref (ad 1))]) hx hb d_P_advance_13 hl (k := 0) rfl (by decide) (by decide) rfl (fun ls hl => ?_)
  refine lv_goto (tgt := 2) hx hb d_P_advance_16 (by decide) ?_
  refine lv_iload_n hx hb d_P_advance_2 rfl (lv_at hl 0 rfl) ?_
  refine lv_bipush (v := (8 : Int32)) hx hb d_P_advance_3 (by decide) ?_
  refine lv_icmp_ge (tgt := 19) hx hb d_P_advance_5 (by decide) (fun c0 => absurd c0 (by decide)) (fun _ => ?_)
  refine lv_aload_n hx hb d_P_advance_8 rfl (lv_at hl 1 rfl) ?_
  refine lv_iload_n hx hb d_P_advance_9 rfl (lv_at hl 0 rfl) ?_
  obtain ⟨S5, e5⟩ : ∃ z : CS, z = f_P_pullByField_I S4 (4 : Int32) := ⟨_, rfl⟩
  refine hg_cv (As := [.int (4 : Int32)]) (rest := []) ⟨hx, hb, hml, hown, hts⟩ (c_P_pullByField_I l dC dI ad cJ cI S4 (4 : Int32) (in_of (by decide) (by decide)) _) (gw_callV (k := 1) hts tw_170 tw_172 tp_0 tw_2 tw_173 (by decide +kernel) rfl rfl ⟨Nat.le_of_ble_eq_true rfl, Nat.le_of_ble_eq_true rfl⟩) hK G hA (hx_T _ _) 1 1 rfl rfl rfl hl.1 rfl (Nat.le_of_ble_eq_true rfl) ⟨Nat.zero_le _, Nat.zero_le _⟩ d_P_advance_10 (fun H locs G => ?_)
  rw [← e5] at G
  refine lv_iinc (v := (5 : Int32)) (lv' := [(1, .int (5 : Int32)), (0, .ref (ad 1))]) hx hb d_P_advance_13 hl (k := 0) rfl (by decide) (by decide) rfl (fun ls hl => ?_)
  refine lv_goto (tgt := 2) hx hb d_P_advance_16 (by decide) ?_
  refine lv_iload_n hx hb d_P_advance_2 rfl (lv_at hl 0 rfl) ?_
  refine lv_bipush (v := (8 : Int32)) hx hb d_P_advance_3 (by decide) ?_
  refine lv_icmp_ge (tgt := 19) hx hb d_P_advance_5 (by decide) (fun c0 => absurd c0 (by decide)) (fun _ => ?_)
  refine lv_aload_n hx hb d_P_advance_8 rfl (lv_at hl 1 rfl) ?_
  refine lv_iload_n hx hb d_P_advance_9 rfl (lv_at hl 0 rfl) ?_
  obtain ⟨S6, e6⟩ : ∃ z : CS, z = f_P_pullByField_I S5 (5 : Int32) := ⟨_, rfl⟩
  refine hg_cv (As := [.int (5 : Int32)]) (rest := []) ⟨hx, hb, hml, hown, hts⟩ (c_P_pullByField_I l dC dI ad cJ cI S5 (5 : Int32) (in_of (by decide) (by decide)) _) (gw_callV (k := 1) hts tw_170 tw_172 tp_0 tw_2 tw_173 (by decide +kernel) rfl rfl ⟨Nat.le_of_ble_eq_true rfl, Nat.le_of_ble_eq_true rfl⟩) hK G hA (hx_T _ _) 1 1 rfl rfl rfl hl.1 rfl (Nat.le_of_ble_eq_true rfl) ⟨Nat.zero_le _, Nat.zero_le _⟩ d_P_advance_10 (fun H locs G => ?_)
  rw [← e6] at G
  refine lv_iinc (v := (6 : Int32)) (lv' := [(1, .int (6 : Int32)), (0, .ref (ad 1))]) hx hb d_P_advance_13 hl (k := 0) rfl (by decide) (by decide) rfl (fun ls hl => ?_)
  refine lv_goto (tgt := 2) hx hb d_P_advance_16 (by decide) ?_
  refine lv_iload_n hx hb d_P_advance_2 rfl (lv_at hl 0 rfl) ?_
  refine lv_bipush (v := (8 : Int32)) hx hb d_P_advance_3 (by decide) ?_
  refine lv_icmp_ge (tgt := 19) hx hb d_P_advance_5 (by decide) (fun c0 => absurd c0 (by decide)) (fun _ => ?_)
  refine lv_aload_n hx hb d_P_advance_8 rfl (lv_at hl 1 rfl) ?_
  refine lv_iload_n hx hb d_P_advance_9 rfl (lv_at hl 0 rfl) ?_
  obtain ⟨S7, e7⟩ : ∃ z : CS, z = f_P_pullByField_I S6 (6 : Int32) := ⟨_, rfl⟩
  refine hg_cv (As := [.int (6 : Int32)]) (rest := []) ⟨hx, hb, hml, hown, hts⟩ (c_P_pullByField_I l dC dI ad cJ cI S6 (6 : Int32) (in_of (by decide) (by decide)) _) (gw_callV (k := 1) hts tw_170 tw_172 tp_0 tw_2 tw_173 (by decide +kernel) rfl rfl ⟨Nat.le_of_ble_eq_true rfl, Nat.le_of_ble_eq_true rfl⟩) hK G hA (hx_T _ _) 1 1 rfl rfl rfl hl.1 rfl (Nat.le_of_ble_eq_true rfl) ⟨Nat.zero_le _, Nat.zero_le _⟩ d_P_advance_10 (fun H locs G => ?_)
  rw [← e7] at G
  refine lv_iinc (v := (7 : Int32)) (lv' := [(1, .int (7 : Int32)), (0, .ref (ad 1))]) hx hb d_P_advance_13 hl (k := 0) rfl (by decide) (by decide) rfl (fun ls hl => ?_)
  refine lv_goto (tgt := 2) hx hb d_P_advance_16 (by decide) ?_
  refine lv_iload_n hx hb d_P_advance_2 rfl (lv_at hl 0 rfl) ?_
  refine lv_bipush (v := (8 : Int32)) hx hb d_P_advance_3 (by decide) ?_
  refine lv_icmp_ge (tgt := 19) hx hb d_P_advance_5 (by decide) (fun c0 => absurd c0 (by decide)) (fun _ => ?_)
  refine lv_aload_n hx hb d_P_advance_8 rfl (lv_at hl 1 rfl) ?_
  refine lv_iload_n hx hb d_P_advance_9 rfl (lv_at hl 0 rfl) ?_
  obtain ⟨S8, e8⟩ : ∃ z : CS, z = f_P_pullByField_I S7 (7 : Int32) := ⟨_, rfl⟩
  refine hg_cv (As := [.int (7 : Int32)]) (rest := []) ⟨hx, hb, hml, hown, hts⟩ (c_P_pullByField_I l dC dI ad cJ cI S7 (7 : Int32) (in_of (by decide) (by decide)) _) (gw_callV (k := 1) hts tw_170 tw_172 tp_0 tw_2 tw_173 (by decide +kernel) rfl rfl ⟨Nat.le_of_ble_eq_true rfl, Nat.le_of_ble_eq_true rfl⟩) hK G hA (hx_T _ _) 1 1 rfl rfl rfl hl.1 rfl (Nat.le_of_ble_eq_true rfl) ⟨Nat.zero_le _, Nat.zero_le _⟩ d_P_advance_10 (fun H locs G => ?_)
  rw [← e8] at G
  refine lv_iinc (v := (8 : Int32)) (lv' := [(1, .int (8 : Int32)), (0, .ref (ad 1))]) hx hb d_P_advance_13 hl (k := 0) rfl (by decide) (by decide) rfl (fun ls hl => ?_)
  refine lv_goto (tgt := 2) hx hb d_P_advance_16 (by decide) ?_
  refine lv_iload_n hx hb d_P_advance_2 rfl (lv_at hl 0 rfl) ?_
  refine lv_bipush (v := (8 : Int32)) hx hb d_P_advance_3 (by decide) ?_
  refine lv_icmp_ge (tgt := 19) hx hb d_P_advance_5 (by decide) (fun _ => ?_) (fun c0 => absurd c0 (by decide))
  refine lv_iconst (v := 0) hx hb d_P_advance_19 (by decide) ?_
  refine lv_istore_n (lv' := [(1, .int (0 : Int32)), (0, .ref (ad 1))]) hx hb d_P_advance_20 rfl hl (by decide) rfl (fun ls hl => ?_)
  exact k_P_advance_21 C0 hK hAe hA ((sC S8).toNatClampNeg + 1) S8 (0 : Int32) (by have qe1 := e1.symm; have qe2 := e2.symm; have qe3 := e3.symm; have qe4 := e4.symm; have qe5 := e5.symm; have qe6 := e6.symm; have qe7 := e7.symm; have qe8 := e8.symm; subst qe1 qe2 qe3 qe4 qe5 qe6 qe7 qe8; repeat (first | exact hOK | refine cOK_of (kp_field _ _) ?_)) fl_first _ _ G ls (lv_sub hl [1, 0] rfl) (by have qe1 := e1.symm; have qe2 := e2.symm; have qe3 := e3.symm; have qe4 := e4.symm; have qe5 := e5.symm; have qe6 := e6.symm; have qe7 := e7.symm; have qe8 := e8.symm; subst qe1 qe2 qe3 qe4 qe5 qe6 qe7 qe8; exact rfl)
theorem kp_advL (n : Nat) : ∀ (S : CS) (x : Int32), sB (f_P_advance_21 n S x) = sB S ∧ sC (f_P_advance_21 n S x) = sC S := by
  induction n with
  | zero => intro S x; exact ⟨rfl, rfl⟩
  | succ n ih =>
    intro S x
    rw [f_P_advance_21]
    by_cases c : (sC S) ≤ x
    · rw [if_pos c]
      refine ⟨?_, ?_⟩
      · simp only [fun S x y => (kp_collide S x y).1, fun S x y => (kp_inside S x y).1, fun S x => (kp_move S x).1]
      · simp only [fun S x y => (kp_collide S x y).2, fun S x y => (kp_inside S x y).2, fun S x => (kp_move S x).2]
    · rw [if_neg c]
      dsimp only
      rw [(ih _ _).1, (ih _ _).2]
      exact kp_pull S x
theorem kp_advance (S : CS) : sB (f_P_advance S) = sB S ∧ sC (f_P_advance S) = sC S := by
  unfold f_P_advance
  refine ⟨?_, ?_⟩
  · simp only [fun n S x => (kp_advL n S x).1, fun S x => (kp_field S x).1]
  · simp only [fun n S x => (kp_advL n S x).2, fun S x => (kp_field S x).2]
theorem ok_advance {S : CS} (h : cOK S) : cOK (f_P_advance S) := cOK_of (kp_advance S) h
