-- ===== MotionLabModel.once()V 
theorem lp_lit {x : Int32} {n : Nat} (h : ∃ j : Nat, x = nI j ∧ j ≤ (8 : Int32).toNatClampNeg ∧ (8 : Int32).toNatClampNeg - j < n) (c : ¬ (8 : Int32) ≤ x) : vp_in x 8 := by
  obtain ⟨j, h1, h2, h3⟩ := h
  have e : (8 : Int32).toNatClampNeg = 8 := rfl
  rw [e] at h2
  have hj : (nI j).toInt = j := nI_toInt (by omega)
  have e8 : (8 : Int32).toInt = 8 := rfl
  rw [Int32.le_iff_toInt_le, h1, hj, e8] at c
  rw [h1]
  exact vp_in_nI (by omega) (by decide)
abbrev y_M_once : MethodName := ⟨"MotionLabModel", "once", "()V"⟩
abbrev b_M_once : ByteArray := prog_6_method_43_code
theorem d_M_once_0 : decode b_M_once 0 = .ok (.iconst 0, 1) := by decide +kernel
theorem d_M_once_1 : decode b_M_once 1 = .ok (.istore_n 1, 1) := by decide +kernel
theorem d_M_once_2 : decode b_M_once 2 = .ok (.iload_n 1, 1) := by decide +kernel
theorem d_M_once_3 : decode b_M_once 3 = .ok (.bipush 8, 2) := by decide +kernel
theorem d_M_once_5 : decode b_M_once 5 = .ok (.if_icmp .ge 85, 3) := by decide +kernel
theorem d_M_once_8 : decode b_M_once 8 = .ok (.aload_n 0, 1) := by decide +kernel
theorem d_M_once_9 : decode b_M_once 9 = .ok (.getfield 152, 3) := by decide +kernel
theorem d_M_once_12 : decode b_M_once 12 = .ok (.iload_n 1, 1) := by decide +kernel
theorem d_M_once_13 : decode b_M_once 13 = .ok (.aload_n 0, 1) := by decide +kernel
theorem d_M_once_14 : decode b_M_once 14 = .ok (.getfield 146, 3) := by decide +kernel
theorem d_M_once_17 : decode b_M_once 17 = .ok (.iload_n 1, 1) := by decide +kernel
theorem d_M_once_18 : decode b_M_once 18 = .ok (.laload, 1) := by decide +kernel
theorem d_M_once_19 : decode b_M_once 19 = .ok (.invokestatic 229, 3) := by decide +kernel
theorem d_M_once_22 : decode b_M_once 22 = .ok (.aload_n 0, 1) := by decide +kernel
theorem d_M_once_23 : decode b_M_once 23 = .ok (.getfield 198, 3) := by decide +kernel
theorem d_M_once_26 : decode b_M_once 26 = .ok (.invokestatic 216, 3) := by decide +kernel
theorem d_M_once_29 : decode b_M_once 29 = .ok (.aload_n 0, 1) := by decide +kernel
theorem d_M_once_30 : decode b_M_once 30 = .ok (.getfield 204, 3) := by decide +kernel
theorem d_M_once_33 : decode b_M_once 33 = .ok (.aload_n 0, 1) := by decide +kernel
theorem d_M_once_34 : decode b_M_once 34 = .ok (.getfield 140, 3) := by decide +kernel
theorem d_M_once_37 : decode b_M_once 37 = .ok (.iload_n 1, 1) := by decide +kernel
theorem d_M_once_38 : decode b_M_once 38 = .ok (.laload, 1) := by decide +kernel
theorem d_M_once_39 : decode b_M_once 39 = .ok (.invokestatic 216, 3) := by decide +kernel
theorem d_M_once_42 : decode b_M_once 42 = .ok (.invokestatic 218, 3) := by decide +kernel
theorem d_M_once_45 : decode b_M_once 45 = .ok (.lastore, 1) := by decide +kernel
theorem d_M_once_46 : decode b_M_once 46 = .ok (.aload_n 0, 1) := by decide +kernel
theorem d_M_once_47 : decode b_M_once 47 = .ok (.getfield 155, 3) := by decide +kernel
theorem d_M_once_50 : decode b_M_once 50 = .ok (.iload_n 1, 1) := by decide +kernel
theorem d_M_once_51 : decode b_M_once 51 = .ok (.aload_n 0, 1) := by decide +kernel
theorem d_M_once_52 : decode b_M_once 52 = .ok (.getfield 146, 3) := by decide +kernel
theorem d_M_once_55 : decode b_M_once 55 = .ok (.iload_n 1, 1) := by decide +kernel
theorem d_M_once_56 : decode b_M_once 56 = .ok (.laload, 1) := by decide +kernel
theorem d_M_once_57 : decode b_M_once 57 = .ok (.invokestatic 229, 3) := by decide +kernel
theorem d_M_once_60 : decode b_M_once 60 = .ok (.aload_n 0, 1) := by decide +kernel
theorem d_M_once_61 : decode b_M_once 61 = .ok (.getfield 201, 3) := by decide +kernel
theorem d_M_once_64 : decode b_M_once 64 = .ok (.invokestatic 216, 3) := by decide +kernel
theorem d_M_once_67 : decode b_M_once 67 = .ok (.aload_n 0, 1) := by decide +kernel
theorem d_M_once_68 : decode b_M_once 68 = .ok (.getfield 204, 3) := by decide +kernel
theorem d_M_once_71 : decode b_M_once 71 = .ok (.aload_n 0, 1) := by decide +kernel
theorem d_M_once_72 : decode b_M_once 72 = .ok (.getfield 143, 3) := by decide +kernel
theorem d_M_once_75 : decode b_M_once 75 = .ok (.iload_n 1, 1) := by decide +kernel
theorem d_M_once_76 : decode b_M_once 76 = .ok (.laload, 1) := by decide +kernel
theorem d_M_once_77 : decode b_M_once 77 = .ok (.invokestatic 216, 3) := by decide +kernel
theorem d_M_once_80 : decode b_M_once 80 = .ok (.invokestatic 218, 3) := by decide +kernel
theorem d_M_once_83 : decode b_M_once 83 = .ok (.lastore, 1) := by decide +kernel
theorem d_M_once_84 : decode b_M_once 84 = .ok (.iinc 1 1, 3) := by decide +kernel
theorem d_M_once_87 : decode b_M_once 87 = .ok (.goto (-85), 3) := by decide +kernel
theorem d_M_once_90 : decode b_M_once 90 = .ok (.iconst 0, 1) := by decide +kernel
theorem d_M_once_91 : decode b_M_once 91 = .ok (.istore_n 1, 1) := by decide +kernel
theorem d_M_once_92 : decode b_M_once 92 = .ok (.iload_n 1, 1) := by decide +kernel
theorem d_M_once_93 : decode b_M_once 93 = .ok (.aload_n 0, 1) := by decide +kernel
theorem d_M_once_94 : decode b_M_once 94 = .ok (.getfield 209, 3) := by decide +kernel
theorem d_M_once_97 : decode b_M_once 97 = .ok (.if_icmp .ge 14, 3) := by decide +kernel
theorem d_M_once_100 : decode b_M_once 100 = .ok (.aload_n 0, 1) := by decide +kernel
theorem d_M_once_101 : decode b_M_once 101 = .ok (.iload_n 1, 1) := by decide +kernel
theorem d_M_once_102 : decode b_M_once 102 = .ok (.invokevirtual 232, 3) := by decide +kernel
theorem d_M_once_105 : decode b_M_once 105 = .ok (.iinc 1 1, 3) := by decide +kernel
theorem d_M_once_108 : decode b_M_once 108 = .ok (.goto (-16), 3) := by decide +kernel
theorem d_M_once_111 : decode b_M_once 111 = .ok (.iconst 0, 1) := by decide +kernel
theorem d_M_once_112 : decode b_M_once 112 = .ok (.istore_n 1, 1) := by decide +kernel
theorem d_M_once_113 : decode b_M_once 113 = .ok (.iload_n 1, 1) := by decide +kernel
theorem d_M_once_114 : decode b_M_once 114 = .ok (.bipush 8, 2) := by decide +kernel
theorem d_M_once_116 : decode b_M_once 116 = .ok (.if_icmp .ge 43, 3) := by decide +kernel
theorem d_M_once_119 : decode b_M_once 119 = .ok (.aload_n 0, 1) := by decide +kernel
theorem d_M_once_120 : decode b_M_once 120 = .ok (.aload_n 0, 1) := by decide +kernel
theorem d_M_once_121 : decode b_M_once 121 = .ok (.getfield 133, 3) := by decide +kernel
theorem d_M_once_124 : decode b_M_once 124 = .ok (.aload_n 0, 1) := by decide +kernel
theorem d_M_once_125 : decode b_M_once 125 = .ok (.getfield 140, 3) := by decide +kernel
theorem d_M_once_128 : decode b_M_once 128 = .ok (.aload_n 0, 1) := by decide +kernel
theorem d_M_once_129 : decode b_M_once 129 = .ok (.getfield 152, 3) := by decide +kernel
theorem d_M_once_132 : decode b_M_once 132 = .ok (.iload_n 1, 1) := by decide +kernel
theorem d_M_once_133 : decode b_M_once 133 = .ok (.invokevirtual 236, 3) := by decide +kernel
theorem d_M_once_136 : decode b_M_once 136 = .ok (.aload_n 0, 1) := by decide +kernel
theorem d_M_once_137 : decode b_M_once 137 = .ok (.aload_n 0, 1) := by decide +kernel
theorem d_M_once_138 : decode b_M_once 138 = .ok (.getfield 137, 3) := by decide +kernel
theorem d_M_once_141 : decode b_M_once 141 = .ok (.aload_n 0, 1) := by decide +kernel
theorem d_M_once_142 : decode b_M_once 142 = .ok (.getfield 143, 3) := by decide +kernel
theorem d_M_once_145 : decode b_M_once 145 = .ok (.aload_n 0, 1) := by decide +kernel
theorem d_M_once_146 : decode b_M_once 146 = .ok (.getfield 155, 3) := by decide +kernel
theorem d_M_once_149 : decode b_M_once 149 = .ok (.iload_n 1, 1) := by decide +kernel
theorem d_M_once_150 : decode b_M_once 150 = .ok (.invokevirtual 236, 3) := by decide +kernel
theorem d_M_once_153 : decode b_M_once 153 = .ok (.iinc 1 1, 3) := by decide +kernel
theorem d_M_once_156 : decode b_M_once 156 = .ok (.goto (-43), 3) := by decide +kernel
theorem d_M_once_159 : decode b_M_once 159 = .ok (.iconst 0, 1) := by decide +kernel
theorem d_M_once_160 : decode b_M_once 160 = .ok (.istore_n 1, 1) := by decide +kernel
theorem d_M_once_161 : decode b_M_once 161 = .ok (.iload_n 1, 1) := by decide +kernel
theorem d_M_once_162 : decode b_M_once 162 = .ok (.bipush 8, 2) := by decide +kernel
theorem d_M_once_164 : decode b_M_once 164 = .ok (.if_icmp .ge 31, 3) := by decide +kernel
theorem d_M_once_167 : decode b_M_once 167 = .ok (.iload_n 1, 1) := by decide +kernel
theorem d_M_once_168 : decode b_M_once 168 = .ok (.iconst 1, 1) := by decide +kernel
theorem d_M_once_169 : decode b_M_once 169 = .ok (.iadd, 1) := by decide +kernel
theorem d_M_once_170 : decode b_M_once 170 = .ok (.istore_n 2, 1) := by decide +kernel
theorem d_M_once_171 : decode b_M_once 171 = .ok (.iload_n 2, 1) := by decide +kernel
theorem d_M_once_172 : decode b_M_once 172 = .ok (.bipush 8, 2) := by decide +kernel
theorem d_M_once_174 : decode b_M_once 174 = .ok (.if_icmp .ge 15, 3) := by decide +kernel
theorem d_M_once_177 : decode b_M_once 177 = .ok (.aload_n 0, 1) := by decide +kernel
theorem d_M_once_178 : decode b_M_once 178 = .ok (.iload_n 1, 1) := by decide +kernel
theorem d_M_once_179 : decode b_M_once 179 = .ok (.iload_n 2, 1) := by decide +kernel
theorem d_M_once_180 : decode b_M_once 180 = .ok (.invokevirtual 240, 3) := by decide +kernel
theorem d_M_once_183 : decode b_M_once 183 = .ok (.iinc 2 1, 3) := by decide +kernel
theorem d_M_once_186 : decode b_M_once 186 = .ok (.goto (-15), 3) := by decide +kernel
theorem d_M_once_189 : decode b_M_once 189 = .ok (.iinc 1 1, 3) := by decide +kernel
theorem d_M_once_192 : decode b_M_once 192 = .ok (.goto (-31), 3) := by decide +kernel
theorem d_M_once_195 : decode b_M_once 195 = .ok (.return_, 1) := by decide +kernel
def f_M_once_92 : Nat → MS → Int32 → MS
  | 0, S, _ => S
  | n + 1, S, x1 =>
    if (m_springs S) ≤ x1 then
      let S2 : MS := f_M_go_AJAJAJI_0 S (0 : Int32)
      let S3 : MS := f_M_go_AJAJAJI_1 S2 (0 : Int32)
      let S4 : MS := f_M_go_AJAJAJI_0 S3 (1 : Int32)
      let S5 : MS := f_M_go_AJAJAJI_1 S4 (1 : Int32)
      let S6 : MS := f_M_go_AJAJAJI_0 S5 (2 : Int32)
      let S7 : MS := f_M_go_AJAJAJI_1 S6 (2 : Int32)
      let S8 : MS := f_M_go_AJAJAJI_0 S7 (3 : Int32)
      let S9 : MS := f_M_go_AJAJAJI_1 S8 (3 : Int32)
      let S10 : MS := f_M_go_AJAJAJI_0 S9 (4 : Int32)
      let S11 : MS := f_M_go_AJAJAJI_1 S10 (4 : Int32)
      let S12 : MS := f_M_go_AJAJAJI_0 S11 (5 : Int32)
      let S13 : MS := f_M_go_AJAJAJI_1 S12 (5 : Int32)
      let S14 : MS := f_M_go_AJAJAJI_0 S13 (6 : Int32)
      let S15 : MS := f_M_go_AJAJAJI_1 S14 (6 : Int32)
      let S16 : MS := f_M_go_AJAJAJI_0 S15 (7 : Int32)
      let S17 : MS := f_M_go_AJAJAJI_1 S16 (7 : Int32)
      let S19 : MS := f_M_hit_II S17 (0 : Int32) (1 : Int32)
      let S20 : MS := f_M_hit_II S19 (0 : Int32) (2 : Int32)
      let S21 : MS := f_M_hit_II S20 (0 : Int32) (3 : Int32)
      let S22 : MS := f_M_hit_II S21 (0 : Int32) (4 : Int32)
      let S23 : MS := f_M_hit_II S22 (0 : Int32) (5 : Int32)
      let S24 : MS := f_M_hit_II S23 (0 : Int32) (6 : Int32)
      let S25 : MS := f_M_hit_II S24 (0 : Int32) (7 : Int32)
      let S27 : MS := f_M_hit_II S25 (1 : Int32) (2 : Int32)
      let S28 : MS := f_M_hit_II S27 (1 : Int32) (3 : Int32)
      let S29 : MS := f_M_hit_II S28 (1 : Int32) (4 : Int32)
      let S30 : MS := f_M_hit_II S29 (1 : Int32) (5 : Int32)
      let S31 : MS := f_M_hit_II S30 (1 : Int32) (6 : Int32)
      let S32 : MS := f_M_hit_II S31 (1 : Int32) (7 : Int32)
      let S34 : MS := f_M_hit_II S32 (2 : Int32) (3 : Int32)
      let S35 : MS := f_M_hit_II S34 (2 : Int32) (4 : Int32)
      let S36 : MS := f_M_hit_II S35 (2 : Int32) (5 : Int32)
      let S37 : MS := f_M_hit_II S36 (2 : Int32) (6 : Int32)
      let S38 : MS := f_M_hit_II S37 (2 : Int32) (7 : Int32)
      let S40 : MS := f_M_hit_II S38 (3 : Int32) (4 : Int32)
      let S41 : MS := f_M_hit_II S40 (3 : Int32) (5 : Int32)
      let S42 : MS := f_M_hit_II S41 (3 : Int32) (6 : Int32)
      let S43 : MS := f_M_hit_II S42 (3 : Int32) (7 : Int32)
      let S45 : MS := f_M_hit_II S43 (4 : Int32) (5 : Int32)
      let S46 : MS := f_M_hit_II S45 (4 : Int32) (6 : Int32)
      let S47 : MS := f_M_hit_II S46 (4 : Int32) (7 : Int32)
      let S49 : MS := f_M_hit_II S47 (5 : Int32) (6 : Int32)
      let S50 : MS := f_M_hit_II S49 (5 : Int32) (7 : Int32)
      let S52 : MS := f_M_hit_II S50 (6 : Int32) (7 : Int32)
      S52
    else
      let S54 : MS := f_M_pull_I S x1
      let v55 : Int32 := x1 + 1
      f_M_once_92 n S54 v55
set_option maxHeartbeats 2000000 in
set_option maxRecDepth 100000 in
theorem k_M_once_92 {p : Program} {l : Launch} {e : Env} {s : State} {m : MethodId} {args : Array Value} {below : List Frame} {meth : Method} {c : Code} {A : Nat → Prop} {dC : Nat → ClassId} {dI : Nat → Nat → Nat} {ad : Nat → Nat} {cJ cI : ClassId} {W0 : va_W} {sz : Nat} (C0 : pu_C p s m args meth c b_M_once 3 "MotionLabModel" none (gw y_M_once b_M_once 3 none)) {t0 t1 t2 : Nat} (hRT : RTA t0 t1 t2 A s s.heap) (hK : va_K (dC, dI) classes (tysJI cJ cI) s) (hAe : va_A W0 sz = A) (hA : ∀ q : Nat, s.heap.size ≤ q → A q) (n : Nat) : ∀ (S : MS) (x1 : Int32) (hOK : mOK S) (hinv : ∃ j : Nat, x1 = nI j ∧ j ≤ (m_springs S).toNatClampNeg ∧ (m_springs S).toNatClampNeg - j < n) (H : Heap) (locs : List Loc) (G : hG (dC, dI) classes A s.heap (mW ad cJ cI S) H locs) (ls : Array Slot) (hl : lv_has ls 3 [(0, .ref (ad 0)), (1, .int x1)]) {w : MS} (hw : w = f_M_once_92 n S x1), W p l e (headSpec (gw y_M_once b_M_once 3 none) ({ frames := 9, cells := 0, slots := 0, locals := 245 } : Room)).room s m args below meth c H locs 0 0 (MQ below (hQv (dC, dI) classes (tysJI cJ cI) W0 sz (mW ad cJ cI w)) args s 0 0 A) (F0 m 92 ls []) := by
  obtain ⟨hx, hb, hml, hown, hts, hr, hlocks⟩ := id C0
  induction n with
  | zero => intro S x1 hOK hinv H locs G ls hl w hw; exact (fl_zero hinv).elim
  | succ n ih =>
    intro S x1 hOK hinv H locs G ls hl w hw
    refine lv_iload_n hx hb d_M_once_92 rfl (lv_at hl 1 rfl) ?_
    refine lv_aload_n hx hb d_M_once_93 rfl (lv_at hl 0 rfl) ?_
    refine va_get (D := (dC, dI)) (ci := 3) (v := .int (m_springs S)) (C := R_M) (T := F_M) (N := 21) hx hb hts (fun w h => gm (i_M w h)) hown hK G.1 0 rfl rfl 19 (by decide) (hts _ (gm tw_440)) (fun _ h9 => h9) rfl d_M_once_94 ?_
    refine lv_icmp_ge (tgt := 111) hx hb d_M_once_97 (by decide) (fun c1 => ?_) (fun c1 => ?_)
    · refine lv_iconst (v := 0) hx hb d_M_once_111 (by decide) ?_
      refine lv_istore_n (lv' := [(1, .int (0 : Int32)), (0, .ref (ad 0))]) hx hb d_M_once_112 rfl hl (by decide) rfl (fun ls hl => ?_)
      refine lv_iload_n hx hb d_M_once_113 rfl (lv_at hl 0 rfl) ?_
      refine lv_bipush (v := (8 : Int32)) hx hb d_M_once_114 (by decide) ?_
      refine lv_icmp_ge (tgt := 159) hx hb d_M_once_116 (by decide) (fun c0 => absurd c0 (by decide)) (fun _ => ?_)
      refine lv_aload_n hx hb d_M_once_119 rfl (lv_at hl 1 rfl) ?_
      refine lv_aload_n hx hb d_M_once_120 rfl (lv_at hl 1 rfl) ?_
      refine va_get (D := (dC, dI)) (ci := 3) (v := .ref (ad 1)) (C := R_M) (T := F_M) (N := 21) hx hb hts (fun w h => gm (i_M w h)) hown hK G.1 0 rfl rfl 0 (by decide) (hts _ (gm tw_421)) (fun _ h9 => h9) rfl d_M_once_121 ?_
      refine lv_aload_n hx hb d_M_once_124 rfl (lv_at hl 1 rfl) ?_
      refine va_get (D := (dC, dI)) (ci := 3) (v := .ref (ad 3)) (C := R_M) (T := F_M) (N := 21) hx hb hts (fun w h => gm (i_M w h)) hown hK G.1 0 rfl rfl 2 (by decide) (hts _ (gm tw_423)) (fun _ h9 => h9) rfl d_M_once_125 ?_
      refine lv_aload_n hx hb d_M_once_128 rfl (lv_at hl 1 rfl) ?_
      refine va_get (D := (dC, dI)) (ci := 3) (v := .ref (ad 7)) (C := R_M) (T := F_M) (N := 21) hx hb hts (fun w h => gm (i_M w h)) hown hK G.1 0 rfl rfl 6 (by decide) (hts _ (gm tw_427)) (fun _ h9 => h9) rfl d_M_once_129 ?_
      refine lv_iload_n hx hb d_M_once_132 rfl (lv_at hl 0 rfl) ?_
      obtain ⟨S2, e2⟩ : ∃ z : MS, z = f_M_go_AJAJAJI_0 S (0 : Int32) := ⟨_, rfl⟩
      refine hg_cv (As := [.ref (ad 1), .ref (ad 3), .ref (ad 7), .int (0 : Int32)]) (rest := []) ⟨hx, hb, hml, hown, hts⟩ (c_M_go_AJAJAJI_0 l dC dI ad cJ cI t0 t1 t2 S (0 : Int32) (in_of (by decide) (by decide)) _) (gw_callV (k := 4) hts tw_631 tw_633 tp_12 tw_4 tw_634 (by decide +kernel) rfl rfl ⟨Nat.le_of_ble_eq_true rfl, Nat.le_of_ble_eq_true rfl⟩) hK G hA (hx_M hRT G hA) 3 0 rfl rfl rfl hl.1 rfl (Nat.le_of_ble_eq_true rfl) ⟨Nat.zero_le _, Nat.zero_le _⟩ d_M_once_133 (fun H locs G => ?_)
      rw [← e2] at G
      refine lv_aload_n hx hb d_M_once_136 rfl (lv_at hl 1 rfl) ?_
      refine lv_aload_n hx hb d_M_once_137 rfl (lv_at hl 1 rfl) ?_
      refine va_get (D := (dC, dI)) (ci := 3) (v := .ref (ad 2)) (C := R_M) (T := F_M) (N := 21) hx hb hts (fun w h => gm (i_M w h)) hown hK G.1 0 rfl rfl 1 (by decide) (hts _ (gm tw_422)) (fun _ h9 => h9) rfl d_M_once_138 ?_
      refine lv_aload_n hx hb d_M_once_141 rfl (lv_at hl 1 rfl) ?_
      refine va_get (D := (dC, dI)) (ci := 3) (v := .ref (ad 4)) (C := R_M) (T := F_M) (N := 21) hx hb hts (fun w h => gm (i_M w h)) hown hK G.1 0 rfl rfl 3 (by decide) (hts _ (gm tw_424)) (fun _ h9 => h9) rfl d_M_once_142 ?_
      refine lv_aload_n hx hb d_M_once_145 rfl (lv_at hl 1 rfl) ?_
      refine va_get (D := (dC, dI)) (ci := 3) (v := .ref (ad 8)) (C := R_M) (T := F_M) (N := 21) hx hb hts (fun w h => gm (i_M w h)) hown hK G.1 0 rfl rfl 7 (by decide) (hts _ (gm tw_428)) (fun _ h9 => h9) rfl d_M_once_146 ?_
      refine lv_iload_n hx hb d_M_once_149 rfl (lv_at hl 0 rfl) ?_
      obtain ⟨S3, e3⟩ : ∃ z : MS, z = f_M_go_AJAJAJI_1 S2 (0 : Int32) := ⟨_, rfl⟩
      refine hg_cv (As := [.ref (ad 2), .ref (ad 4), .ref (ad 8), .int (0 : Int32)]) (rest := []) ⟨hx, hb, hml, hown, hts⟩ (c_M_go_AJAJAJI_1 l dC dI ad cJ cI t0 t1 t2 S2 (0 : Int32) (in_of (by decide) (by decide)) _) (gw_callV (k := 4) hts tw_631 tw_633 tp_12 tw_4 tw_634 (by decide +kernel) rfl rfl ⟨Nat.le_of_ble_eq_true rfl, Nat.le_of_ble_eq_true rfl⟩) hK G hA (hx_M hRT G hA) 3 0 rfl rfl rfl hl.1 rfl (Nat.le_of_ble_eq_true rfl) ⟨Nat.zero_le _, Nat.zero_le _⟩ d_M_once_150 (fun H locs G => ?_)
      rw [← e3] at G
      refine lv_iinc (v := (1 : Int32)) (lv' := [(1, .int (1 : Int32)), (0, .ref (ad 0))]) hx hb d_M_once_153 hl (k := 0) rfl (by decide) (by decide) rfl (fun ls hl => ?_)
      refine lv_goto (tgt := 113) hx hb d_M_once_156 (by decide) ?_
      refine lv_iload_n hx hb d_M_once_113 rfl (lv_at hl 0 rfl) ?_
      refine lv_bipush (v := (8 : Int32)) hx hb d_M_once_114 (by decide) ?_
      refine lv_icmp_ge (tgt := 159) hx hb d_M_once_116 (by decide) (fun c0 => absurd c0 (by decide)) (fun _ => ?_)
      refine lv_aload_n hx hb d_M_once_119 rfl (lv_at hl 1 rfl) ?_
      refine lv_aload_n hx hb d_M_once_120 rfl (lv_at hl 1 rfl) ?_
      refine va_get (D := (dC, dI)) (ci := 3) (v := .ref (ad 1)) (C := R_M) (T := F_M) (N := 21) hx hb hts (fun w h => gm (i_M w h)) hown hK G.1 0 rfl rfl 0 (by decide) (hts _ (gm tw_421)) (fun _ h9 => h9) rfl d_M_once_121 ?_
      refine lv_aload_n hx hb d_M_once_124 rfl (lv_at hl 1 rfl) ?_
      refine va_get (D := (dC, dI)) (ci := 3) (v := .ref (ad 3)) (C := R_M) (T := F_M) (N := 21) hx hb hts (fun w h => gm (i_M w h)) hown hK G.1 0 rfl rfl 2 (by decide) (hts _ (gm tw_423)) (fun _ h9 => h9) rfl d_M_once_125 ?_
      refine lv_aload_n hx hb d_M_once_128 rfl (lv_at hl 1 rfl) ?_
      refine va_get (D := (dC, dI)) (ci := 3) (v := .ref (ad 7)) (C := R_M) (T := F_M) (N := 21) hx hb hts (fun w h => gm (i_M w h)) hown hK G.1 0 rfl rfl 6 (by decide) (hts _ (gm tw_427)) (fun _ h9 => h9) rfl d_M_once_129 ?_
      refine lv_iload_n hx hb d_M_once_132 rfl (lv_at hl 0 rfl) ?_
      obtain ⟨S4, e4⟩ : ∃ z : MS, z = f_M_go_AJAJAJI_0 S3 (1 : Int32) := ⟨_, rfl⟩
      refine hg_cv (As := [.ref (ad 1), .ref (ad 3), .ref (ad 7), .int (1 : Int32)]) (rest := []) ⟨hx, hb, hml, hown, hts⟩ (c_M_go_AJAJAJI_0 l dC dI ad cJ cI t0 t1 t2 S3 (1 : Int32) (in_of (by decide) (by decide)) _) (gw_callV (k := 4) hts tw_631 tw_633 tp_12 tw_4 tw_634 (by decide +kernel) rfl rfl ⟨Nat.le_of_ble_eq_true rfl, Nat.le_of_ble_eq_true rfl⟩) hK G hA (hx_M hRT G hA) 3 0 rfl rfl rfl hl.1 rfl (Nat.le_of_ble_eq_true rfl) ⟨Nat.zero_le _, Nat.zero_le _⟩ d_M_once_133 (fun H locs G => ?_)
      rw [← e4] at G
      refine lv_aload_n hx hb d_M_once_136 rfl (lv_at hl 1 rfl) ?_
      refine lv_aload_n hx hb d_M_once_137 rfl (lv_at hl 1 rfl) ?_
      refine va_get (D := (dC, dI)) (ci := 3) (v := .ref (ad 2)) (C := R_M) (T := F_M) (N := 21) hx hb hts (fun w h => gm (i_M w h)) hown hK G.1 0 rfl rfl 1 (by decide) (hts _ (gm tw_422)) (fun _ h9 => h9) rfl d_M_once_138 ?_
      refine lv_aload_n hx hb d_M_once_141 rfl (lv_at hl 1 rfl) ?_
      refine va_get (D := (dC, dI)) (ci := 3) (v := .ref (ad 4)) (C := R_M) (T := F_M) (N := 21) hx hb hts (fun w h => gm (i_M w h)) hown hK G.1 0 rfl rfl 3 (by decide) (hts _ (gm tw_424)) (fun _ h9 => h9) rfl d_M_once_142 ?_
      refine lv_aload_n hx hb d_M_once_145 rfl (lv_at hl 1 rfl) ?_
      refine va_get (D := (dC, dI)) (ci := 3) (v := .ref (ad 8)) (C := R_M) (T := F_M) (N := 21) hx hb hts (fun w h => gm (i_M w h)) hown hK G.1 0 rfl rfl 7 (by decide) (hts _ (gm tw_428)) (fun _ h9 => h9) rfl d_M_once_146 ?_
      refine lv_iload_n hx hb d_M_once_149 rfl (lv_at hl 0 rfl) ?_
      obtain ⟨S5, e5⟩ : ∃ z : MS, z = f_M_go_AJAJAJI_1 S4 (1 : Int32) := ⟨_, rfl⟩
      refine hg_cv (As := [.ref (ad 2), .ref (ad 4), .ref (ad 8), .int (1 : Int32)]) (rest := []) ⟨hx, hb, hml, hown, hts⟩ (c_M_go_AJAJAJI_1 l dC dI ad cJ cI t0 t1 t2 S4 (1 : Int32) (in_of (by decide) (by decide)) _) (gw_callV (k := 4) hts tw_631 tw_633 tp_12 tw_4 tw_634 (by decide +kernel) rfl rfl ⟨Nat.le_of_ble_eq_true rfl, Nat.le_of_ble_eq_true rfl⟩) hK G hA (hx_M hRT G hA) 3 0 rfl rfl rfl hl.1 rfl (Nat.le_of_ble_eq_true rfl) ⟨Nat.zero_le _, Nat.zero_le _⟩ d_M_once_150 (fun H locs G => ?_)
      rw [← e5] at G
      refine lv_iinc (v := (2 : Int32)) (lv' := [(1, .int (2 : Int32)), (0, .ref (ad 0))]) hx hb d_M_once_153 hl (k := 0) rfl (by decide) (by decide) rfl (fun ls hl => ?_)
      refine lv_goto (tgt := 113) hx hb d_M_once_156 (by decide) ?_
      refine lv_iload_n hx hb d_M_once_113 rfl (lv_at hl 0 rfl) ?_
      refine lv_bipush (v := (8 : Int32)) hx hb d_M_once_114 (by decide) ?_
      refine lv_icmp_ge (tgt := 159) hx hb d_M_once_116 (by decide) (fun c0 => absurd c0 (by decide)) (fun _ => ?_)
      refine lv_aload_n hx hb d_M_once_119 rfl (lv_at hl 1 rfl) ?_
      refine lv_aload_n hx hb d_M_once_120 rfl (lv_at hl 1 rfl) ?_
      refine va_get (D := (dC, dI)) (ci := 3) (v := .ref (ad 1)) (C := R_M) (T := F_M) (N := 21) hx hb hts (fun w h => gm (i_M w h)) hown hK G.1 0 rfl rfl 0 (by decide) (hts _ (gm tw_421)) (fun _ h9 => h9) rfl d_M_once_121 ?_
      refine lv_aload_n hx hb d_M_once_124 rfl (lv_at hl 1 rfl) ?_
      refine va_get (D := (dC, dI)) (ci := 3) (v := .ref (ad 3)) (C := R_M) (T := F_M) (N := 21) hx hb hts (fun w h => gm (i_M w h)) hown hK G.1 0 rfl rfl 2 (by decide) (hts _ (gm tw_423)) (fun _ h9 => h9) rfl d_M_once_125 ?_
      refine lv_aload_n hx hb d_M_once_128 rfl (lv_at hl 1 rfl) ?_
      refine va_get (D := (dC, dI)) (ci := 3) (v := .ref (ad 7)) (C := R_M) (T := F_M) (N := 21) hx hb hts (fun w h => gm (i_M w h)) hown hK G.1 0 rfl rfl 6 (by decide) (hts _ (gm tw_427)) (fun _ h9 => h9) rfl d_M_once_129 ?_
      refine lv_iload_n hx hb d_M_once_132 rfl (lv_at hl 0 rfl) ?_
      obtain ⟨S6, e6⟩ : ∃ z : MS, z = f_M_go_AJAJAJI_0 S5 (2 : Int32) := ⟨_, rfl⟩
      refine hg_cv (As := [.ref (ad 1), .ref (ad 3), .ref (ad 7), .int (2 : Int32)]) (rest := []) ⟨hx, hb, hml, hown, hts⟩ (c_M_go_AJAJAJI_0 l dC dI ad cJ cI t0 t1 t2 S5 (2 : Int32) (in_of (by decide) (by decide)) _) (gw_callV (k := 4) hts tw_631 tw_633 tp_12 tw_4 tw_634 (by decide +kernel) rfl rfl ⟨Nat.le_of_ble_eq_true rfl, Nat.le_of_ble_eq_true rfl⟩) hK G hA (hx_M hRT G hA) 3 0 rfl rfl rfl hl.1 rfl (Nat.le_of_ble_eq_true rfl) ⟨Nat.zero_le _, Nat.zero_le _⟩ d_M_once_133 (fun H locs G => ?_)
      rw [← e6] at G
      refine lv_aload_n hx hb d_M_once_136 rfl (lv_at hl 1 rfl) ?_
      refine lv_aload_n hx hb d_M_once_137 rfl (lv_at hl 1 rfl) ?_
      refine va_get (D := (dC, dI)) (ci := 3) (v := .ref (ad 2)) (C := R_M) (T := F_M) (N := 21) hx hb hts (fun w h => gm (i_M w h)) hown hK G.1 0 rfl rfl 1 (by decide) (hts _ (gm tw_422)) (fun _ h9 => h9) rfl d_M_once_138 ?_
      refine lv_aload_n hx hb d_M_once_141 rfl (lv_at hl 1 rfl) ?_
      refine va_get (D := (dC, dI)) (ci := 3) (v := .ref (ad 4)) (C := R_M) (T := F_M) (N := 21) hx hb hts (fun w h => gm (i_M w h)) hown hK G.1 0 rfl rfl 3 (by decide) (hts _ (gm tw_424)) (fun _ h9 => h9) rfl d_M_once_142 ?_
      refine lv_aload_n hx hb d_M_once_145 rfl (lv_at hl 1 rfl) ?_
      refine va_get (D := (dC, dI)) (ci := 3) (v := .ref (ad 8)) (C := R_M) (T := F_M) (N := 21) hx hb hts (fun w h => gm (i_M w h)) hown hK G.1 0 rfl rfl 7 (by decide) (hts _ (gm tw_428)) (fun _ h9 => h9) rfl d_M_once_146 ?_
      refine lv_iload_n hx hb d_M_once_149 rfl (lv_at hl 0 rfl) ?_
      obtain ⟨S7, e7⟩ : ∃ z : MS, z = f_M_go_AJAJAJI_1 S6 (2 : Int32) := ⟨_, rfl⟩
      refine hg_cv (As := [.ref (ad 2), .ref (ad 4), .ref (ad 8), .int (2 : Int32)]) (rest := []) ⟨hx, hb, hml, hown, hts⟩ (c_M_go_AJAJAJI_1 l dC dI ad cJ cI t0 t1 t2 S6 (2 : Int32) (in_of (by decide) (by decide)) _) (gw_callV (k := 4) hts tw_631 tw_633 tp_12 tw_4 tw_634 (by decide +kernel) rfl rfl ⟨Nat.le_of_ble_eq_true rfl, Nat.le_of_ble_eq_true rfl⟩) hK G hA (hx_M hRT G hA) 3 0 rfl rfl rfl hl.1 rfl (Nat.le_of_ble_eq_true rfl) ⟨Nat.zero_le _, Nat.zero_le _⟩ d_M_once_150 (fun H locs G => ?_)
      rw [← e7] at G
      refine lv_iinc (v := (3 : Int32)) (lv' := [(1, .int (3 : Int32)), (0, .ref (ad 0))]) hx hb d_M_once_153 hl (k := 0) rfl (by decide) (by decide) rfl (fun ls hl => ?_)
      refine lv_goto (tgt := 113) hx hb d_M_once_156 (by decide) ?_
      refine lv_iload_n hx hb d_M_once_113 rfl (lv_at hl 0 rfl) ?_
      refine lv_bipush (v := (8 : Int32)) hx hb d_M_once_114 (by decide) ?_
      refine lv_icmp_ge (tgt := 159) hx hb d_M_once_116 (by decide) (fun c0 => absurd c0 (by decide)) (fun _ => ?_)
      refine lv_aload_n hx hb d_M_once_119 rfl (lv_at hl 1 rfl) ?_
      refine lv_aload_n hx hb d_M_once_120 rfl (lv_at hl 1 rfl) ?_
      refine va_get (D := (dC, dI)) (ci := 3) (v := .ref (ad 1)) (C := R_M) (T := F_M) (N := 21) hx hb hts (fun w h => gm (i_M w h)) hown hK G.1 0 rfl rfl 0 (by decide) (hts _ (gm tw_421)) (fun _ h9 => h9) rfl d_M_once_121 ?_
      refine lv_aload_n hx hb d_M_once_124 rfl (lv_at hl 1 rfl) ?_
      refine va_get (D := (dC, dI)) (ci := 3) (v := .ref (ad 3)) (C := R_M) (T := F_M) (N := 21) hx hb hts (fun w h => gm (i_M w h)) hown hK G.1 0 rfl rfl 2 (by decide) (hts _ (gm tw_423)) (fun _ h9 => h9) rfl d_M_once_125 ?_
      refine lv_aload_n hx hb d_M_once_128 rfl (lv_at hl 1 rfl) ?_
      refine va_get (D := (dC, dI)) (ci := 3) (v := .ref (ad 7)) (C := R_M) (T := F_M) (N := 21) hx hb hts (fun w h => gm (i_M w h)) hown hK G.1 0 rfl rfl 6 (by decide) (hts _ (gm tw_427)) (fun _ h9 => h9) rfl d_M_once_129 ?_
      refine lv_iload_n hx hb d_M_once_132 rfl (lv_at hl 0 rfl) ?_
      obtain ⟨S8, e8⟩ : ∃ z : MS, z = f_M_go_AJAJAJI_0 S7 (3 : Int32) := ⟨_, rfl⟩
      refine hg_cv (As := [.ref (ad 1), .ref (ad 3), .ref (ad 7), .int (3 : Int32)]) (rest := []) ⟨hx, hb, hml, hown, hts⟩ (c_M_go_AJAJAJI_0 l dC dI ad cJ cI t0 t1 t2 S7 (3 : Int32) (in_of (by decide) (by decide)) _) (gw_callV (k := 4) hts tw_631 tw_633 tp_12 tw_4 tw_634 (by decide +kernel) rfl rfl ⟨Nat.le_of_ble_eq_true rfl, Nat.le_of_ble_eq_true rfl⟩) hK G hA (hx_M hRT G hA) 3 0 rfl rfl rfl hl.1 rfl (Nat.le_of_ble_eq_true rfl) ⟨Nat.zero_le _, Nat.zero_le _⟩ d_M_once_133 (fun H locs G => ?_)
      rw [← e8] at G
      refine lv_aload_n hx hb d_M_once_136 rfl (lv_at hl 1 rfl) ?_
      refine lv_aload_n hx hb d_M_once_137 rfl (lv_at hl 1 rfl) ?_
      refine va_get (D := (dC, dI)) (ci := 3) (v := .ref (ad 2)) (C := R_M) (T := F_M) (N := 21) hx hb hts (fun w h => gm (i_M w h)) hown hK G.1 0 rfl rfl 1 (by decide) (hts _ (gm tw_422)) (fun _ h9 => h9) rfl d_M_once_138 ?_
      refine lv_aload_n hx hb d_M_once_141 rfl (lv_at hl 1 rfl) ?_
      refine va_get (D := (dC, dI)) (ci := 3) (v := .ref (ad 4)) (C := R_M) (T := F_M) (N := 21) hx hb hts (fun w h => gm (i_M w h)) hown hK G.1 0 rfl rfl 3 (by decide) (hts _ (gm tw_424)) (fun _ h9 => h9) rfl d_M_once_142 ?_
      refine lv_aload_n hx hb d_M_once_145 rfl (lv_at hl 1 rfl) ?_
      refine va_get (D := (dC, dI)) (ci := 3) (v := .ref (ad 8)) (C := R_M) (T := F_M) (N := 21) hx hb hts (fun w h => gm (i_M w h)) hown hK G.1 0 rfl rfl 7 (by decide) (hts _ (gm tw_428)) (fun _ h9 => h9) rfl d_M_once_146 ?_
      refine lv_iload_n hx hb d_M_once_149 rfl (lv_at hl 0 rfl) ?_
      obtain ⟨S9, e9⟩ : ∃ z : MS, z = f_M_go_AJAJAJI_1 S8 (3 : Int32) := ⟨_, rfl⟩
      refine hg_cv (As := [.ref (ad 2), .ref (ad 4), .ref (ad 8), .int (3 : Int32)]) (rest := []) ⟨hx, hb, hml, hown, hts⟩ (c_M_go_AJAJAJI_1 l dC dI ad cJ cI t0 t1 t2 S8 (3 : Int32) (in_of (by decide) (by decide)) _) (gw_callV (k := 4) hts tw_631 tw_633 tp_12 tw_4 tw_634 (by decide +kernel) rfl rfl ⟨Nat.le_of_ble_eq_true rfl, Nat.le_of_ble_eq_true rfl⟩) hK G hA (hx_M hRT G hA) 3 0 rfl rfl rfl hl.1 rfl (Nat.le_of_ble_eq_true rfl) ⟨Nat.zero_le _, Nat.zero_le _⟩ d_M_once_150 (fun H locs G => ?_)
      rw [← e9] at G
      refine lv_iinc (v := (4 : Int32)) (lv' := [(1, .int (4 : Int32)), (0, .ref (ad 0))]) hx hb d_M_once_153 hl (k := 0) rfl (by decide) (by decide) rfl (fun ls hl => ?_)
      refine lv_goto (tgt := 113) hx hb d_M_once_156 (by decide) ?_
      refine lv_iload_n hx hb d_M_once_113 rfl (lv_at hl 0 rfl) ?_
      refine lv_bipush (v := (8 : Int32)) hx hb d_M_once_114 (by decide) ?_
      refine lv_icmp_ge (tgt := 159) hx hb d_M_once_116 (by decide) (fun c0 => absurd c0 (by decide)) (fun _ => ?_)
      refine lv_aload_n hx hb d_M_once_119 rfl (lv_at hl 1 rfl) ?_
      refine lv_aload_n hx hb d_M_once_120 rfl (lv_at hl 1 rfl) ?_
      refine va_get (D := (dC, dI)) (ci := 3) (v := .ref (ad 1)) (C := R_M) (T := F_M) (N := 21) hx hb hts (fun w h => gm (i_M w h)) hown hK G.1 0 rfl rfl 0 (by decide) (hts _ (gm tw_421)) (fun _ h9 => h9) rfl d_M_once_121 ?_
      refine lv_aload_n hx hb d_M_once_124 rfl (lv_at hl 1 rfl) ?_
      refine va_get (D := (dC, dI)) (ci := 3) (v := .ref (ad 3)) (C := R_M) (T := F_M) (N := 21) hx hb hts (fun w h => gm (i_M w h)) hown hK G.1 0 rfl rfl 2 (by decide) (hts _ (gm tw_423)) (fun _ h9 => h9) rfl d_M_once_125 ?_
      refine lv_aload_n hx hb d_M_once_128 rfl (lv_at hl 1 rfl) ?_
      refine va_get (D := (dC, dI)) (ci := 3) (v := .ref (ad 7)) (C := R_M) (T := F_M) (N := 21) hx hb hts (fun w h => gm (i_M w h)) hown hK G.1 0 rfl rfl 6 (by decide) (hts _ (gm tw_427)) (fun _ h9 => h9) rfl d_M_once_129 ?_
      refine lv_iload_n hx hb d_M_once_132 rfl (lv_at hl 0 rfl) ?_
      obtain ⟨S10, e10⟩ : ∃ z : MS, z = f_M_go_AJAJAJI_0 S9 (4 : Int32) := ⟨_, rfl⟩
      refine hg_cv (As := [.ref (ad 1), .ref (ad 3), .ref (ad 7), .int (4 : Int32)]) (rest := []) ⟨hx, hb, hml, hown, hts⟩ (c_M_go_AJAJAJI_0 l dC dI ad cJ cI t0 t1 t2 S9 (4 : Int32) (in_of (by decide) (by decide)) _) (gw_callV (k := 4) hts tw_631 tw_633 tp_12 tw_4 tw_634 (by decide +kernel) rfl rfl ⟨Nat.le_of_ble_eq_true rfl, Nat.le_of_ble_eq_true rfl⟩) hK G hA (hx_M hRT G hA) 3 0 rfl rfl rfl hl.1 rfl (Nat.le_of_ble_eq_true rfl) ⟨Nat.zero_le _, Nat.zero_le _⟩ d_M_once_133 (fun H locs G => ?_)
      rw [← e10] at G
      refine lv_aload_n hx hb d_M_once_136 rfl (lv_at hl 1 rfl) ?_
      refine lv_aload_n hx hb d_M_once_137 rfl (lv_at hl 1 rfl) ?_
      refine va_get (D := (dC, dI)) (ci := 3) (v := .ref (ad 2)) (C := R_M) (T := F_M) (N := 21) hx hb hts (fun w h => gm (i_M w h)) hown hK G.1 0 rfl rfl 1 (by decide) (hts _ (gm tw_422)) (fun _ h9 => h9) rfl d_M_once_138 ?_
      refine lv_aload_n hx hb d_M_once_141 rfl (lv_at hl 1 rfl) ?_
      refine va_get (D := (dC, dI)) (ci := 3) (v := .ref (ad 4)) (C := R_M) (T := F_M) (N := 21) hx hb hts (fun w h => gm (i_M w h)) hown hK G.1 0 rfl rfl 3 (by decide) (hts _ (gm tw_424)) (fun _ h9 => h9) rfl d_M_once_142 ?_
      refine lv_aload_n hx hb d_M_once_145 rfl (lv_at hl 1 rfl) ?_
      refine va_get (D := (dC, dI)) (ci := 3) (v := .ref (ad 8)) (C := R_M) (T := F_M) (N := 21) hx hb hts (fun w h => gm (i_M w h)) hown hK G.1 0 rfl rfl 7 (by decide) (hts _ (gm tw_428)) (fun _ h9 => h9) rfl d_M_once_146 ?_
      refine lv_iload_n hx hb d_M_once_149 rfl (lv_at hl 0 rfl) ?_
      obtain ⟨S11, e11⟩ : ∃ z : MS, z = f_M_go_AJAJAJI_1 S10 (4 : Int32) := ⟨_, rfl⟩
      refine hg_cv (As := [.ref (ad 2), .ref (ad 4), .ref (ad 8), .int (4 : Int32)]) (rest := []) ⟨hx, hb, hml, hown, hts⟩ (c_M_go_AJAJAJI_1 l dC dI ad cJ cI t0 t1 t2 S10 (4 : Int32) (in_of (by decide) (by decide)) _) (gw_callV (k := 4) hts tw_631 tw_633 tp_12 tw_4 tw_634 (by decide +kernel) rfl rfl ⟨Nat.le_of_ble_eq_true rfl, Nat.le_of_ble_eq_true rfl⟩) hK G hA (hx_M hRT G hA) 3 0 rfl rfl rfl hl.1 rfl (Nat.le_of_ble_eq_true rfl) ⟨Nat.zero_le _, Nat.zero_le _⟩ d_M_once_150 (fun H locs G => ?_)
      rw [← e11] at G
      refine lv_iinc (v := (5 : Int32)) (lv' := [(1, .int (5 : Int32)), (0, .ref (ad 0))]) hx hb d_M_once_153 hl (k := 0) rfl (by decide) (by decide) rfl (fun ls hl => ?_)
      refine lv_goto (tgt := 113) hx hb d_M_once_156 (by decide) ?_
      refine lv_iload_n hx hb d_M_once_113 rfl (lv_at hl 0 rfl) ?_
      refine lv_bipush (v := (8 : Int32)) hx hb d_M_once_114 (by decide) ?_
      refine lv_icmp_ge (tgt := 159) hx hb d_M_once_116 (by decide) (fun c0 => absurd c0 (by decide)) (fun _ => ?_)
      refine lv_aload_n hx hb d_M_once_119 rfl (lv_at hl 1 rfl) ?_
      refine lv_aload_n hx hb d_M_once_120 rfl (lv_at hl 1 rfl) ?_
      refine va_get (D := (dC, dI)) (ci := 3) (v := .ref (ad 1)) (C := R_M) (T := F_M) (N := 21) hx hb hts (fun w h => gm (i_M w h)) hown hK G.1 0 rfl rfl 0 (by decide) (hts _ (gm tw_421)) (fun _ h9 => h9) rfl d_M_once_121 ?_
      refine lv_aload_n hx hb d_M_once_124 rfl (lv_at hl 1 rfl) ?_
      refine va_get (D := (dC, dI)) (ci := 3) (v := .ref (ad 3)) (C := R_M) (T := F_M) (N := 21) hx hb hts (fun w h => gm (i_M w h)) hown hK G.1 0 rfl rfl 2 (by decide) (hts _ (gm tw_423)) (fun _ h9 => h9) rfl d_M_once_125 ?_
      refine lv_aload_n hx hb d_M_once_128 rfl (lv_at hl 1 rfl) ?_
      refine va_get (D := (dC, dI)) (ci := 3) (v := .ref (ad 7)) (C := R_M) (T := F_M) (N := 21) hx hb hts (fun w h => gm (i_M w h)) hown hK G.1 0 rfl rfl 6 (by decide) (hts _ (gm tw_427)) (fun _ h9 => h9) rfl d_M_once_129 ?_
      refine lv_iload_n hx hb d_M_once_132 rfl (lv_at hl 0 rfl) ?_
      obtain ⟨S12, e12⟩ : ∃ z : MS, z = f_M_go_AJAJAJI_0 S11 (5 : Int32) := ⟨_, rfl⟩
      refine hg_cv (As := [.ref (ad 1), .ref (ad 3), .ref (ad 7), .int (5 : Int32)]) (rest := []) ⟨hx, hb, hml, hown, hts⟩ (c_M_go_AJAJAJI_0 l dC dI ad cJ cI t0 t1 t2 S11 (5 : Int32) (in_of (by decide) (by decide)) _) (gw_callV (k := 4) hts tw_631 tw_633 tp_12 tw_4 tw_634 (by decide +kernel) rfl rfl ⟨Nat.le_of_ble_eq_true rfl, Nat.le_of_ble_eq_true rfl⟩) hK G hA (hx_M hRT G hA) 3 0 rfl rfl rfl hl.1 rfl (Nat.le_of_ble_eq_true rfl) ⟨Nat.zero_le _, Nat.zero_le _⟩ d_M_once_133 (fun H locs G => ?_)
      rw [← e12] at G
      refine lv_aload_n hx hb d_M_once_136 rfl (lv_at hl 1 rfl) ?_
      refine lv_aload_n hx hb d_M_once_137 rfl (lv_at hl 1 rfl) ?_
      refine va_get (D := (dC, dI)) (ci := 3) (v := .ref (ad 2)) (C := R_M) (T := F_M) (N := 21) hx hb hts (fun w h => gm (i_M w h)) hown hK G.1 0 rfl rfl 1 (by decide) (hts _ (gm tw_422)) (fun _ h9 => h9) rfl d_M_once_138 ?_
      refine lv_aload_n hx hb d_M_once_141 rfl (lv_at hl 1 rfl) ?_
      refine va_get (D := (dC, dI)) (ci := 3) (v := .ref (ad 4)) (C := R_M) (T := F_M) (N := 21) hx hb hts (fun w h => gm (i_M w h)) hown hK G.1 0 rfl rfl 3 (by decide) (hts _ (gm tw_424)) (fun _ h9 => h9) rfl d_M_once_142 ?_
      refine lv_aload_n hx hb d_M_once_145 rfl (lv_at hl 1 rfl) ?_
      refine va_get (D := (dC, dI)) (ci := 3) (v := .ref (ad 8)) (C := R_M) (T := F_M) (N := 21) hx hb hts (fun w h => gm (i_M w h)) hown hK G.1 0 rfl rfl 7 (by decide) (hts _ (gm tw_428)) (fun _ h9 => h9) rfl d_M_once_146 ?_
      refine lv_iload_n hx hb d_M_once_149 rfl (lv_at hl 0 rfl) ?_
      obtain ⟨S13, e13⟩ : ∃ z : MS, z = f_M_go_AJAJAJI_1 S12 (5 : Int32) := ⟨_, rfl⟩
      refine hg_cv (As := [.ref (ad 2), .ref (ad 4), .ref (ad 8), .int (5 : Int32)]) (rest := []) ⟨hx, hb, hml, hown, hts⟩ (c_M_go_AJAJAJI_1 l dC dI ad cJ cI t0 t1 t2 S12 (5 : Int32) (in_of (by decide) (by decide)) _) (gw_callV (k := 4) hts tw_631 tw_633 tp_12 tw_4 tw_634 (by decide +kernel) rfl rfl ⟨Nat.le_of_ble_eq_true rfl, Nat.le_of_ble_eq_true rfl⟩) hK G hA (hx_M hRT G hA) 3 0 rfl rfl rfl hl.1 rfl (Nat.le_of_ble_eq_true rfl) ⟨Nat.zero_le _, Nat.zero_le _⟩ d_M_once_150 (fun H locs G => ?_)
      rw [← e13] at G
      refine lv_iinc (v := (6 : Int32)) (lv' := [(1, .int (6 : Int32)), (0, .ref (ad 0))]) hx hb d_M_once_153 hl (k := 0) rfl (by decide) (by decide) rfl (fun ls hl => ?_)
      refine lv_goto (tgt := 113) hx hb d_M_once_156 (by decide) ?_
      refine lv_iload_n hx hb d_M_once_113 rfl (lv_at hl 0 rfl) ?_
      refine lv_bipush (v := (8 : Int32)) hx hb d_M_once_114 (by decide) ?_
      refine lv_icmp_ge (tgt := 159) hx hb d_M_once_116 (by decide) (fun c0 => absurd c0 (by decide)) (fun _ => ?_)
      refine lv_aload_n hx hb d_M_once_119 rfl (lv_at hl 1 rfl) ?_
      refine lv_aload_n hx hb d_M_once_120 rfl (lv_at hl 1 rfl) ?_
      refine va_get (D := (dC, dI)) (ci := 3) (v := .ref (ad 1)) (C := R_M) (T := F_M) (N := 21) hx hb hts (fun w h => gm (i_M w h)) hown hK G.1 0 rfl rfl 0 (by decide) (hts _ (gm tw_421)) (fun _ h9 => h9) rfl d_M_once_121 ?_
      refine lv_aload_n hx hb d_M_once_124 rfl (lv_at hl 1 rfl) ?_
      refine va_get (D := (dC, dI)) (ci := 3) (v := .ref (ad 3)) (C := R_M) (T := F_M) (N := 21) hx hb hts (fun w h => gm (i_M w h)) hown hK G.1 0 rfl rfl 2 (by decide) (hts _ (gm tw_423)) (fun _ h9 => h9) rfl d_M_once_125 ?_
      refine lv_aload_n hx hb d_M_once_128 rfl (lv_at hl 1 rfl) ?_
      refine va_get (D := (dC, dI)) (ci := 3) (v := .ref (ad 7)) (C := R_M) (T := F_M) (N := 21) hx hb hts (fun w h => gm (i_M w h)) hown hK G.1 0 rfl rfl 6 (by decide) (hts _ (gm tw_427)) (fun _ h9 => h9) rfl d_M_once_129 ?_
      refine lv_iload_n hx hb d_M_once_132 rfl (lv_at hl 0 rfl) ?_
      obtain ⟨S14, e14⟩ : ∃ z : MS, z = f_M_go_AJAJAJI_0 S13 (6 : Int32) := ⟨_, rfl⟩
      refine hg_cv (As := [.ref (ad 1), .ref (ad 3), .ref (ad 7), .int (6 : Int32)]) (rest := []) ⟨hx, hb, hml, hown, hts⟩ (c_M_go_AJAJAJI_0 l dC dI ad cJ cI t0 t1 t2 S13 (6 : Int32) (in_of (by decide) (by decide)) _) (gw_callV (k := 4) hts tw_631 tw_633 tp_12 tw_4 tw_634 (by decide +kernel) rfl rfl ⟨Nat.le_of_ble_eq_true rfl, Nat.le_of_ble_eq_true rfl⟩) hK G hA (hx_M hRT G hA) 3 0 rfl rfl rfl hl.1 rfl (Nat.le_of_ble_eq_true rfl) ⟨Nat.zero_le _, Nat.zero_le _⟩ d_M_once_133 (fun H locs G => ?_)
      rw [← e14] at G
      refine lv_aload_n hx hb d_M_once_136 rfl (lv_at hl 1 rfl) ?_
      refine lv_aload_n hx hb d_M_once_137 rfl (lv_at hl 1 rfl) ?_
      refine va_get (D := (dC, dI)) (ci := 3) (v := .ref (ad 2)) (C := R_M) (T := F_M) (N := 21) hx hb hts (fun w h => gm (i_M w h)) hown hK G.1 0 rfl rfl 1 (by decide) (hts _ (gm tw_422)) (fun _ h9 => h9) rfl d_M_once_138 ?_
      refine lv_aload_n hx hb d_M_once_141 rfl (lv_at hl 1 rfl) ?_
      refine va_get (D := (dC, dI)) (ci := 3) (v := .ref (ad 4)) (C := R_M) (T := F_M) (N := 21) hx hb hts (fun w h => gm (i_M w h)) hown hK G.1 0 rfl rfl 3 (by decide) (hts _ (gm tw_424)) (fun _ h9 => h9) rfl d_M_once_142 ?_
      refine lv_aload_n hx hb d_M_once_145 rfl (lv_at hl 1 rfl) ?_
      refine va_get (D := (dC, dI)) (ci := 3) (v := .ref (ad 8)) (C := R_M) (T := F_M) (N := 21) hx hb hts (fun w h => gm (i_M w h)) hown hK G.1 0 rfl rfl 7 (by decide) (hts _ (gm tw_428)) (fun _ h9 => h9) rfl d_M_once_146 ?_
      refine lv_iload_n hx hb d_M_once_149 rfl (lv_at hl 0 rfl) ?_
      obtain ⟨S15, e15⟩ : ∃ z : MS, z = f_M_go_AJAJAJI_1 S14 (6 : Int32) := ⟨_, rfl⟩
      refine hg_cv (As := [.ref (ad 2), .ref (ad 4), .ref (ad 8), .int (6 : Int32)]) (rest := []) ⟨hx, hb, hml, hown, hts⟩ (c_M_go_AJAJAJI_1 l dC dI ad cJ cI t0 t1 t2 S14 (6 : Int32) (in_of (by decide) (by decide)) _) (gw_callV (k := 4) hts tw_631 tw_633 tp_12 tw_4 tw_634 (by decide +kernel) rfl rfl ⟨Nat.le_of_ble_eq_true rfl, Nat.le_of_ble_eq_true rfl⟩) hK G hA (hx_M hRT G hA) 3 0 rfl rfl rfl hl.1 rfl (Nat.le_of_ble_eq_true rfl) ⟨Nat.zero_le _, Nat.zero_le _⟩ d_M_once_150 (fun H locs G => ?_)
      rw [← e15] at G
      refine lv_iinc (v := (7 : Int32)) (lv' := [(1, .int (7 : Int32)), (0, .ref (ad 0))]) hx hb d_M_once_153 hl (k := 0) rfl (by decide) (by decide) rfl (fun ls hl => ?_)
      refine lv_goto (tgt := 113) hx hb d_M_once_156 (by decide) ?_
      refine lv_iload_n hx hb d_M_once_113 rfl (lv_at hl 0 rfl) ?_
      refine lv_bipush (v := (8 : Int32)) hx hb d_M_once_114 (by decide) ?_
      refine lv_icmp_ge (tgt := 159) hx hb d_M_once_116 (by decide) (fun c0 => absurd c0 (by decide)) (fun _ => ?_)
      refine lv_aload_n hx hb d_M_once_119 rfl (lv_at hl 1 rfl) ?_
      refine lv_aload_n hx hb d_M_once_120 rfl (lv_at hl 1 rfl) ?_
      refine va_get (D := (dC, dI)) (ci := 3) (v := .ref (ad 1)) (C := R_M) (T := F_M) (N := 21) hx hb hts (fun w h => gm (i_M w h)) hown hK G.1 0 rfl rfl 0 (by decide) (hts _ (gm tw_421)) (fun _ h9 => h9) rfl d_M_once_121 ?_
      refine lv_aload_n hx hb d_M_once_124 rfl (lv_at hl 1 rfl) ?_
      refine va_get (D := (dC, dI)) (ci := 3) (v := .ref (ad 3)) (C := R_M) (T := F_M) (N := 21) hx hb hts (fun w h => gm (i_M w h)) hown hK G.1 0 rfl rfl 2 (by decide) (hts _ (gm tw_423)) (fun _ h9 => h9) rfl d_M_once_125 ?_
      refine lv_aload_n hx hb d_M_once_128 rfl (lv_at hl 1 rfl) ?_
      refine va_get (D := (dC, dI)) (ci := 3) (v := .ref (ad 7)) (C := R_M) (T := F_M) (N := 21) hx hb hts (fun w h => gm (i_M w h)) hown hK G.1 0 rfl rfl 6 (by decide) (hts _ (gm tw_427)) (fun _ h9 => h9) rfl d_M_once_129 ?_
      refine lv_iload_n hx hb d_M_once_132 rfl (lv_at hl 0 rfl) ?_
      obtain ⟨S16, e16⟩ : ∃ z : MS, z = f_M_go_AJAJAJI_0 S15 (7 : Int32) := ⟨_, rfl⟩
      refine hg_cv (As := [.ref (ad 1), .ref (ad 3), .ref (ad 7), .int (7 : Int32)]) (rest := []) ⟨hx, hb, hml, hown, hts⟩ (c_M_go_AJAJAJI_0 l dC dI ad cJ cI t0 t1 t2 S15 (7 : Int32) (in_of (by decide) (by decide)) _) (gw_callV (k := 4) hts tw_631 tw_633 tp_12 tw_4 tw_634 (by decide +kernel) rfl rfl ⟨Nat.le_of_ble_eq_true rfl, Nat.le_of_ble_eq_true rfl⟩) hK G hA (hx_M hRT G hA) 3 0 rfl rfl rfl hl.1 rfl (Nat.le_of_ble_eq_true rfl) ⟨Nat.zero_le _, Nat.zero_le _⟩ d_M_once_133 (fun H locs G => ?_)
      rw [← e16] at G
      refine lv_aload_n hx hb d_M_once_136 rfl (lv_at hl 1 rfl) ?_
      refine lv_aload_n hx hb d_M_once_137 rfl (lv_at hl 1 rfl) ?_
      refine va_get (D := (dC, dI)) (ci := 3) (v := .ref (ad 2)) (C := R_M) (T := F_M) (N := 21) hx hb hts (fun w h => gm (i_M w h)) hown hK G.1 0 rfl rfl 1 (by decide) (hts _ (gm tw_422)) (fun _ h9 => h9) rfl d_M_once_138 ?_
      refine lv_aload_n hx hb d_M_once_141 rfl (lv_at hl 1 rfl) ?_
      refine va_get (D := (dC, dI)) (ci := 3) (v := .ref (ad 4)) (C := R_M) (T := F_M) (N := 21) hx hb hts (fun w h => gm (i_M w h)) hown hK G.1 0 rfl rfl 3 (by decide) (hts _ (gm tw_424)) (fun _ h9 => h9) rfl d_M_once_142 ?_
      refine lv_aload_n hx hb d_M_once_145 rfl (lv_at hl 1 rfl) ?_
      refine va_get (D := (dC, dI)) (ci := 3) (v := .ref (ad 8)) (C := R_M) (T := F_M) (N := 21) hx hb hts (fun w h => gm (i_M w h)) hown hK G.1 0 rfl rfl 7 (by decide) (hts _ (gm tw_428)) (fun _ h9 => h9) rfl d_M_once_146 ?_
      refine lv_iload_n hx hb d_M_once_149 rfl (lv_at hl 0 rfl) ?_
      obtain ⟨S17, e17⟩ : ∃ z : MS, z = f_M_go_AJAJAJI_1 S16 (7 : Int32) := ⟨_, rfl⟩
      refine hg_cv (As := [.ref (ad 2), .ref (ad 4), .ref (ad 8), .int (7 : Int32)]) (rest := []) ⟨hx, hb, hml, hown, hts⟩ (c_M_go_AJAJAJI_1 l dC dI ad cJ cI t0 t1 t2 S16 (7 : Int32) (in_of (by decide) (by decide)) _) (gw_callV (k := 4) hts tw_631 tw_633 tp_12 tw_4 tw_634 (by decide +kernel) rfl rfl ⟨Nat.le_of_ble_eq_true rfl, Nat.le_of_ble_eq_true rfl⟩) hK G hA (hx_M hRT G hA) 3 0 rfl rfl rfl hl.1 rfl (Nat.le_of_ble_eq_true rfl) ⟨Nat.zero_le _, Nat.zero_le _⟩ d_M_once_150 (fun H locs G => ?_)
      rw [← e17] at G
      refine lv_iinc (v := (8 : Int32)) (lv' := [(1, .int (8 : Int32)), (0, .ref (ad 0))]) hx hb d_M_once_153 hl (k := 0) rfl (by decide) (by decide) rfl (fun ls hl => ?_)
      refine lv_goto (tgt := 113) hx hb d_M_once_156 (by decide) ?_
      refine lv_iload_n hx hb d_M_once_113 rfl (lv_at hl 0 rfl) ?_
      refine lv_bipush (v := (8 : Int32)) hx hb d_M_once_114 (by decide) ?_
      refine lv_icmp_ge (tgt := 159) hx hb d_M_once_116 (by decide) (fun _ => ?_) (fun c0 => absurd c0 (by decide))
      refine lv_iconst (v := 0) hx hb d_M_once_159 (by decide) ?_
      refine lv_istore_n (lv' := [(1, .int (0 : Int32)), (0, .ref (ad 0))]) hx hb d_M_once_160 rfl hl (by decide) rfl (fun ls hl => ?_)
      refine lv_iload_n hx hb d_M_once_161 rfl (lv_at hl 0 rfl) ?_
      refine lv_bipush (v := (8 : Int32)) hx hb d_M_once_162 (by decide) ?_
      refine lv_icmp_ge (tgt := 195) hx hb d_M_once_164 (by decide) (fun c0 => absurd c0 (by decide)) (fun _ => ?_)
      refine lv_iload_n hx hb d_M_once_167 rfl (lv_at hl 0 rfl) ?_
      refine lv_iconst (v := 1) hx hb d_M_once_168 (by decide) ?_
      refine lv_iadd hx hb d_M_once_169 ?_
      refine lv_topi (fun v18 e18 => ?_)
      obtain rfl : v18 = (1 : Int32) := by rw [e18]; decide
      refine lv_istore_n (lv' := [(2, .int (1 : Int32)), (1, .int (0 : Int32)), (0, .ref (ad 0))]) hx hb d_M_once_170 rfl hl (by decide) rfl (fun ls hl => ?_)
      refine lv_iload_n hx hb d_M_once_171 rfl (lv_at hl 0 rfl) ?_
      refine lv_bipush (v := (8 : Int32)) hx hb d_M_once_172 (by decide) ?_
      refine lv_icmp_ge (tgt := 189) hx hb d_M_once_174 (by decide) (fun c0 => absurd c0 (by decide)) (fun _ => ?_)
      refine lv_aload_n hx hb d_M_once_177 rfl (lv_at hl 2 rfl) ?_
      refine lv_iload_n hx hb d_M_once_178 rfl (lv_at hl 1 rfl) ?_
      refine lv_iload_n hx hb d_M_once_179 rfl (lv_at hl 0 rfl) ?_
      obtain ⟨S19, e19⟩ : ∃ z : MS, z = f_M_hit_II S17 (0 : Int32) (1 : Int32) := ⟨_, rfl⟩
      refine hg_cv (As := [.int (0 : Int32), .int (1 : Int32)]) (rest := []) ⟨hx, hb, hml, hown, hts⟩ (c_M_hit_II l dC dI ad cJ cI t0 t1 t2 S17 (0 : Int32) (1 : Int32) (in_of (by decide) (by decide)) (in_of (by decide) (by decide)) _) (gw_callV (k := 2) hts tw_635 tw_637 tp_13 tw_4 tw_638 (by decide +kernel) rfl rfl ⟨Nat.le_of_ble_eq_true rfl, Nat.le_of_ble_eq_true rfl⟩) hK G hA (hx_M hRT G hA) 3 0 rfl rfl rfl hl.1 rfl (Nat.le_of_ble_eq_true rfl) ⟨Nat.zero_le _, Nat.zero_le _⟩ d_M_once_180 (fun H locs G => ?_)
      rw [← e19] at G
      refine lv_iinc (v := (2 : Int32)) (lv' := [(2, .int (2 : Int32)), (1, .int (0 : Int32)), (0, .ref (ad 0))]) hx hb d_M_once_183 hl (k := 0) rfl (by decide) (by decide) rfl (fun ls hl => ?_)
      refine lv_goto (tgt := 171) hx hb d_M_once_186 (by decide) ?_
      refine lv_iload_n hx hb d_M_once_171 rfl (lv_at hl 0 rfl) ?_
      refine lv_bipush (v := (8 : Int32)) hx hb d_M_once_172 (by decide) ?_
      refine lv_icmp_ge (tgt := 189) hx hb d_M_once_174 (by decide) (fun c0 => absurd c0 (by decide)) (fun _ => ?_)
      refine lv_aload_n hx hb d_M_once_177 rfl (lv_at hl 2 rfl) ?_
      refine lv_iload_n hx hb d_M_once_178 rfl (lv_at hl 1 rfl) ?_
      refine lv_iload_n hx hb d_M_once_179 rfl (lv_at hl 0 rfl) ?_
      obtain ⟨S20, e20⟩ : ∃ z : MS, z = f_M_hit_II S19 (0 : Int32) (2 : Int32) := ⟨_, rfl⟩
      refine hg_cv (As := [.int (0 : Int32), .int (2 : Int32)]) (rest := []) ⟨hx, hb, hml, hown, hts⟩ (c_M_hit_II l dC dI ad cJ cI t0 t1 t2 S19 (0 : Int32) (2 : Int32) (in_of (by decide) (by decide)) (in_of (by decide) (by decide)) _) (gw_callV (k := 2) hts tw_635 tw_637 tp_13 tw_4 tw_638 (by decide +kernel) rfl rfl ⟨Nat.le_of_ble_eq_true rfl, Nat.le_of_ble_eq_true rfl⟩) hK G hA (hx_M hRT G hA) 3 0 rfl rfl rfl hl.1 rfl (Nat.le_of_ble_eq_true rfl) ⟨Nat.zero_le _, Nat.zero_le _⟩ d_M_once_180 (fun H locs G => ?_)
      rw [← e20] at G
      refine lv_iinc (v := (3 : Int32)) (lv' := [(2, .int (3 : Int32)), (1, .int (0 : Int32)), (0, .ref (ad 0))]) hx hb d_M_once_183 hl (k := 0) rfl (by decide) (by decide) rfl (fun ls hl => ?_)
      refine lv_goto (tgt := 171) hx hb d_M_once_186 (by decide) ?_
      refine lv_iload_n hx hb d_M_once_171 rfl (lv_at hl 0 rfl) ?_
      refine lv_bipush (v := (8 : Int32)) hx hb d_M_once_172 (by decide) ?_
      refine lv_icmp_ge (tgt := 189) hx hb d_M_once_174 (by decide) (fun c0 => absurd c0 (by decide)) (fun _ => ?_)
      refine lv_aload_n hx hb d_M_once_177 rfl (lv_at hl 2 rfl) ?_
      refine lv_iload_n hx hb d_M_once_178 rfl (lv_at hl 1 rfl) ?_
      refine lv_iload_n hx hb d_M_once_179 rfl (lv_at hl 0 rfl) ?_
      obtain ⟨S21, e21⟩ : ∃ z : MS, z = f_M_hit_II S20 (0 : Int32) (3 : Int32) := ⟨_, rfl⟩
      refine hg_cv (As := [.int (0 : Int32), .int (3 : Int32)]) (rest := []) ⟨hx, hb, hml, hown, hts⟩ (c_M_hit_II l dC dI ad cJ cI t0 t1 t2 S20 (0 : Int32) (3 : Int32) (in_of (by decide) (by decide)) (in_of (by decide) (by decide)) _) (gw_callV (k := 2) hts tw_635 tw_637 tp_13 tw_4 tw_638 (by decide +kernel) rfl rfl ⟨Nat.le_of_ble_eq_true rfl, Nat.le_of_ble_eq_true rfl⟩) hK G hA (hx_M hRT G hA) 3 0 rfl rfl rfl hl.1 rfl (Nat.le_of_ble_eq_true rfl) ⟨Nat.zero_le _, Nat.zero_le _⟩ d_M_once_180 (fun H locs G => ?_)
      rw [← e21] at G
      refine lv_iinc (v := (4 : Int32)) (lv' := [(2, .int (4 : Int32)), (1, .int (0 : Int32)), (0, .ref (ad 0))]) hx hb d_M_once_183 hl (k := 0) rfl (by decide) (by decide) rfl (fun ls hl => ?_)
      refine lv_goto (tgt := 171) hx hb d_M_once_186 (by decide) ?_
      refine lv_iload_n hx hb d_M_once_171 rfl (lv_at hl 0 rfl) ?_
      refine lv_bipush (v := (8 : Int32)) hx hb d_M_once_172 (by decide) ?_
      refine lv_icmp_ge (tgt := 189) hx hb d_M_once_174 (by decide) (fun c0 => absurd c0 (by decide)) (fun _ => ?_)
      refine lv_aload_n hx hb d_M_once_177 rfl (lv_at hl 2 rfl) ?_
      refine lv_iload_n hx hb d_M_once_178 rfl (lv_at hl 1 rfl) ?_
      refine lv_iload_n hx hb d_M_once_179 rfl (lv_at hl 0 rfl) ?_
      obtain ⟨S22, e22⟩ : ∃ z : MS, z = f_M_hit_II S21 (0 : Int32) (4 : Int32) := ⟨_, rfl⟩
      refine hg_cv (As := [.int (0 : Int32), .int (4 : Int32)]) (rest := []) ⟨hx, hb, hml, hown, hts⟩ (c_M_hit_II l dC dI ad cJ cI t0 t1 t2 S21 (0 : Int32) (4 : Int32) (in_of (by decide) (by decide)) (in_of (by decide) (by decide)) _) (gw_callV (k := 2) hts tw_635 tw_637 tp_13 tw_4 tw_638 (by decide +kernel) rfl rfl ⟨Nat.le_of_ble_eq_true rfl, Nat.le_of_ble_eq_true rfl⟩) hK G hA (hx_M hRT G hA) 3 0 rfl rfl rfl hl.1 rfl (Nat.le_of_ble_eq_true rfl) ⟨Nat.zero_le _, Nat.zero_le _⟩ d_M_once_180 (fun H locs G => ?_)
      rw [← e22] at G
      refine lv_iinc (v := (5 : Int32)) (lv' := [(2, .int (5 : Int32)), (1, .int (0 : Int32)), (0, .ref (ad 0))]) hx hb d_M_once_183 hl (k := 0) rfl (by decide) (by decide) rfl (fun ls hl => ?_)
      refine lv_goto (tgt := 171) hx hb d_M_once_186 (by decide) ?_
      refine lv_iload_n hx hb d_M_once_171 rfl (lv_at hl 0 rfl) ?_
      refine lv_bipush (v := (8 : Int32)) hx hb d_M_once_172 (by decide) ?_
      refine lv_icmp_ge (tgt := 189) hx hb d_M_once_174 (by decide) (fun c0 => absurd c0 (by decide)) (fun _ => ?_)
      refine lv_aload_n hx hb d_M_once_177 rfl (lv_at hl 2 rfl) ?_
      refine lv_iload_n hx hb d_M_once_178 rfl (lv_at hl 1 rfl) ?_
      refine lv_iload_n hx hb d_M_once_179 rfl (lv_at hl 0 rfl) ?_
      obtain ⟨S23, e23⟩ : ∃ z : MS, z = f_M_hit_II S22 (0 : Int32) (5 : Int32) := ⟨_, rfl⟩
      refine hg_cv (As := [.int (0 : Int32), .int (5 : Int32)]) (rest := []) ⟨hx, hb, hml, hown, hts⟩ (c_M_hit_II l dC dI ad cJ cI t0 t1 t2 S22 (0 : Int32) (5 : Int32) (in_of (by decide) (by decide)) (in_of (by decide) (by decide)) _) (gw_callV (k := 2) hts tw_635 tw_637 tp_13 tw_4 tw_638 (by decide +kernel) rfl rfl ⟨Nat.le_of_ble_eq_true rfl, Nat.le_of_ble_eq_true rfl⟩) hK G hA (hx_M hRT G hA) 3 0 rfl rfl rfl hl.1 rfl (Nat.le_of_ble_eq_true rfl) ⟨Nat.zero_le _, Nat.zero_le _⟩ d_M_once_180 (fun H locs G => ?_)
      rw [← e23] at G
      refine lv_iinc (v := (6 : Int32)) (lv' := [(2, .int (6 : Int32)), (1, .int (0 : Int32)), (0, .ref (ad 0))]) hx hb d_M_once_183 hl (k := 0) rfl (by decide) (by decide) rfl (fun ls hl => ?_)
      refine lv_goto (tgt := 171) hx hb d_M_once_186 (by decide) ?_
      refine lv_iload_n hx hb d_M_once_171 rfl (lv_at hl 0 rfl) ?_
      refine lv_bipush (v := (8 : Int32)) hx hb d_M_once_172 (by decide) ?_
      refine lv_icmp_ge (tgt := 189) hx hb d_M_once_174 (by decide) (fun c0 => absurd c0 (by decide)) (fun _ => ?_)
      refine lv_aload_n hx hb d_M_once_177 rfl (lv_at hl 2 rfl) ?_
      refine lv_iload_n hx hb d_M_once_178 rfl (lv_at hl 1 rfl) ?_
      refine lv_iload_n hx hb d_M_once_179 rfl (lv_at hl 0 rfl) ?_
      obtain ⟨S24, e24⟩ : ∃ z : MS, z = f_M_hit_II S23 (0 : Int32) (6 : Int32) := ⟨_, rfl⟩
      refine hg_cv (As := [.int (0 : Int32), .int (6 : Int32)]) (rest := []) ⟨hx, hb, hml, hown, hts⟩ (c_M_hit_II l dC dI ad cJ cI t0 t1 t2 S23 (0 : Int32) (6 : Int32) (in_of (by decide) (by decide)) (in_of (by decide) (by decide)) _) (gw_callV (k := 2) hts tw_635 tw_637 tp_13 tw_4 tw_638 (by decide +kernel) rfl rfl ⟨Nat.le_of_ble_eq_true rfl, Nat.le_of_ble_eq_true rfl⟩) hK G hA (hx_M hRT G hA) 3 0 rfl rfl rfl hl.1 rfl (Nat.le_of_ble_eq_true rfl) ⟨Nat.zero_le _, Nat.zero_le _⟩ d_M_once_180 (fun H locs G => ?_)
      rw [← e24] at G
      refine lv_iinc (v := (7 : Int32)) (lv' := [(2, .int (7 : Int32)), (1, .int (0 : Int32)), (0, .ref (ad 0))]) hx hb d_M_once_183 hl (k := 0) rfl (by decide) (by decide) rfl (fun ls hl => ?_)
      refine lv_goto (tgt := 171) hx hb d_M_once_186 (by decide) ?_
      refine lv_iload_n hx hb d_M_once_171 rfl (lv_at hl 0 rfl) ?_
      refine lv_bipush (v := (8 : Int32)) hx hb d_M_once_172 (by decide) ?_
      refine lv_icmp_ge (tgt := 189) hx hb d_M_once_174 (by decide) (fun c0 => absurd c0 (by decide)) (fun _ => ?_)
      refine lv_aload_n hx hb d_M_once_177 rfl (lv_at hl 2 rfl) ?_
      refine lv_iload_n hx hb d_M_once_178 rfl (lv_at hl 1 rfl) ?_
      refine lv_iload_n hx hb d_M_once_179 rfl (lv_at hl 0 rfl) ?_
      obtain ⟨S25, e25⟩ : ∃ z : MS, z = f_M_hit_II S24 (0 : Int32) (7 : Int32) := ⟨_, rfl⟩
      refine hg_cv (As := [.int (0 : Int32), .int (7 : Int32)]) (rest := []) ⟨hx, hb, hml, hown, hts⟩ (c_M_hit_II l dC dI ad cJ cI t0 t1 t2 S24 (0 : Int32) (7 : Int32) (in_of (by decide) (by decide)) (in_of (by decide) (by decide)) _) (gw_callV (k := 2) hts tw_635 tw_637 tp_13 tw_4 tw_638 (by decide +kernel) rfl rfl ⟨Nat.le_of_ble_eq_true rfl, Nat.le_of_ble_eq_true rfl⟩) hK G hA (hx_M hRT G hA) 3 0 rfl rfl rfl hl.1 rfl (Nat.le_of_ble_eq_true rfl) ⟨Nat.zero_le _, Nat.zero_le _⟩ d_M_once_180 (fun H locs G => ?_)
      rw [← e25] at G
      refine lv_iinc (v := (8 : Int32)) (lv' := [(2, .int (8 : Int32)), (1, .int (0 : Int32)), (0, .ref (ad 0))]) hx hb d_M_once_183 hl (k := 0) rfl (by decide) (by decide) rfl (fun ls hl => ?_)
      refine lv_goto (tgt := 171) hx hb d_M_once_186 (by decide) ?_
      refine lv_iload_n hx hb d_M_once_171 rfl (lv_at hl 0 rfl) ?_
      refine lv_bipush (v := (8 : Int32)) hx hb d_M_once_172 (by decide) ?_
      refine lv_icmp_ge (tgt := 189) hx hb d_M_once_174 (by decide) (fun _ => ?_) (fun c0 => absurd c0 (by decide))
      refine lv_iinc (v := (1 : Int32)) (lv' := [(1, .int (1 : Int32)), (2, .int (8 : Int32)), (0, .ref (ad 0))]) hx hb d_M_once_189 hl (k := 1) rfl (by decide) (by decide) rfl (fun ls hl => ?_)
      refine lv_goto (tgt := 161) hx hb d_M_once_192 (by decide) ?_
      refine lv_iload_n hx hb d_M_once_161 rfl (lv_at hl 0 rfl) ?_
      refine lv_bipush (v := (8 : Int32)) hx hb d_M_once_162 (by decide) ?_
      refine lv_icmp_ge (tgt := 195) hx hb d_M_once_164 (by decide) (fun c0 => absurd c0 (by decide)) (fun _ => ?_)
      refine lv_iload_n hx hb d_M_once_167 rfl (lv_at hl 0 rfl) ?_
      refine lv_iconst (v := 1) hx hb d_M_once_168 (by decide) ?_
      refine lv_iadd hx hb d_M_once_169 ?_
      refine lv_topi (fun v26 e26 => ?_)
      obtain rfl : v26 = (2 : Int32) := by rw [e26]; decide
      refine lv_istore_n (lv' := [(2, .int (2 : Int32)), (1, .int (1 : Int32)), (0, .ref (ad 0))]) hx hb d_M_once_170 rfl hl (by decide) rfl (fun ls hl => ?_)
      refine lv_iload_n hx hb d_M_once_171 rfl (lv_at hl 0 rfl) ?_
      refine lv_bipush (v := (8 : Int32)) hx hb d_M_once_172 (by decide) ?_
      refine lv_icmp_ge (tgt := 189) hx hb d_M_once_174 (by decide) (fun c0 => absurd c0 (by decide)) (fun _ => ?_)
      refine lv_aload_n hx hb d_M_once_177 rfl (lv_at hl 2 rfl) ?_
      refine lv_iload_n hx hb d_M_once_178 rfl (lv_at hl 1 rfl) ?_
      refine lv_iload_n hx hb d_M_once_179 rfl (lv_at hl 0 rfl) ?_
      obtain ⟨S27, e27⟩ : ∃ z : MS, z = f_M_hit_II S25 (1 : Int32) (2 : Int32) := ⟨_, rfl⟩
      refine hg_cv (As := [.int (1 : Int32), .int (2 : Int32)]) (rest := []) ⟨hx, hb, hml, hown, hts⟩ (c_M_hit_II l dC dI ad cJ cI t0 t1 t2 S25 (1 : Int32) (2 : Int32) (in_of (by decide) (by decide)) (in_of (by decide) (by decide)) _) (gw_callV (k := 2) hts tw_635 tw_637 tp_13 tw_4 tw_638 (by decide +kernel) rfl rfl ⟨Nat.le_of_ble_eq_true rfl, Nat.le_of_ble_eq_true rfl⟩) hK G hA (hx_M hRT G hA) 3 0 rfl rfl rfl hl.1 rfl (Nat.le_of_ble_eq_true rfl) ⟨Nat.zero_le _, Nat.zero_le _⟩ d_M_once_180 (fun H locs G => ?_)
      rw [← e27] at G
      refine lv_iinc (v := (3 : Int32)) (lv' := [(2, .int (3 : Int32)), (1, .int (1 : Int32)), (0, .ref (ad 0))]) hx hb d_M_once_183 hl (k := 0) rfl (by decide) (by decide) rfl (fun ls hl => ?_)
      refine lv_goto (tgt := 171) hx hb d_M_once_186 (by decide) ?_
      refine lv_iload_n hx hb d_M_once_171 rfl (lv_at hl 0 rfl) ?_
      refine lv_bipush (v := (8 : Int32)) hx hb d_M_once_172 (by decide) ?_
      refine lv_icmp_ge (tgt := 189) hx hb d_M_once_174 (by decide) (fun c0 => absurd c0 (by decide)) (fun _ => ?_)
      refine lv_aload_n hx hb d_M_once_177 rfl (lv_at hl 2 rfl) ?_
      refine lv_iload_n hx hb d_M_once_178 rfl (lv_at hl 1 rfl) ?_
      refine lv_iload_n hx hb d_M_once_179 rfl (lv_at hl 0 rfl) ?_
      obtain ⟨S28, e28⟩ : ∃ z : MS, z = f_M_hit_II S27 (1 : Int32) (3 : Int32) := ⟨_, rfl⟩
      refine hg_cv (As := [.int (1 : Int32), .int (3 : Int32)]) (rest := []) ⟨hx, hb, hml, hown, hts⟩ (c_M_hit_II l dC dI ad cJ cI t0 t1 t2 S27 (1 : Int32) (3 : Int32) (in_of (by decide) (by decide)) (in_of (by decide) (by decide)) _) (gw_callV (k := 2) hts tw_635 tw_637 tp_13 tw_4 tw_638 (by decide +kernel) rfl rfl ⟨Nat.le_of_ble_eq_true rfl, Nat.le_of_ble_eq_true rfl⟩) hK G hA (hx_M hRT G hA) 3 0 rfl rfl rfl hl.1 rfl (Nat.le_of_ble_eq_true rfl) ⟨Nat.zero_le _, Nat.zero_le _⟩ d_M_once_180 (fun H locs G => ?_)
      rw [← e28] at G
      refine lv_iinc (v := (4 : Int32)) (lv' := [(2, .int (4 : Int32)), (1, .int (1 : Int32)), (0, .ref (ad 0))]) hx hb d_M_once_183 hl (k := 0) rfl (by decide) (by decide) rfl (fun ls hl => ?_)
      refine lv_goto (tgt := 171) hx hb d_M_once_186 (by decide) ?_
      refine lv_iload_n hx hb d_M_once_171 rfl (lv_at hl 0 rfl) ?_
      refine lv_bipush (v := (8 : Int32)) hx hb d_M_once_172 (by decide) ?_
      refine lv_icmp_ge (tgt := 189) hx hb d_M_once_174 (by decide) (fun c0 => absurd c0 (by decide)) (fun _ => ?_)
      refine lv_aload_n hx hb d_M_once_177 rfl (lv_at hl 2 rfl) ?_
      refine lv_iload_n hx hb d_M_once_178 rfl (lv_at hl 1 rfl) ?_
      refine lv_iload_n hx hb d_M_once_179 rfl (lv_at hl 0 rfl) ?_
      obtain ⟨S29, e29⟩ : ∃ z : MS, z = f_M_hit_II S28 (1 : Int32) (4 : Int32) := ⟨_, rfl⟩
      refine hg_cv (As := [.int (1 : Int32), .int (4 : Int32)]) (rest := []) ⟨hx, hb, hml, hown, hts⟩ (c_M_hit_II l dC dI ad cJ cI t0 t1 t2 S28 (1 : Int32) (4 : Int32) (in_of (by decide) (by decide)) (in_of (by decide) (by decide)) _) (gw_callV (k := 2) hts tw_635 tw_637 tp_13 tw_4 tw_638 (by decide +kernel) rfl rfl ⟨Nat.le_of_ble_eq_true rfl, Nat.le_of_ble_eq_true rfl⟩) hK G hA (hx_M hRT G hA) 3 0 rfl rfl rfl hl.1 rfl (Nat.le_of_ble_eq_true rfl) ⟨Nat.zero_le _, Nat.zero_le _⟩ d_M_once_180 (fun H locs G => ?_)
      rw [← e29] at G
      refine lv_iinc (v := (5 : Int32)) (lv' := [(2, .int (5 : Int32)), (1, .int (1 : Int32)), (0, .ref (ad 0))]) hx hb d_M_once_183 hl (k := 0) rfl (by decide) (by decide) rfl (fun ls hl => ?_)
      refine lv_goto (tgt := 171) hx hb d_M_once_186 (by decide) ?_
      refine lv_iload_n hx hb d_M_once_171 rfl (lv_at hl 0 rfl) ?_
      refine lv_bipush (v := (8 : Int32)) hx hb d_M_once_172 (by decide) ?_
      refine lv_icmp_ge (tgt := 189) hx hb d_M_once_174 (by decide) (fun c0 => absurd c0 (by decide)) (fun _ => ?_)
      refine lv_aload_n hx hb d_M_once_177 rfl (lv_at hl 2 rfl) ?_
      refine lv_iload_n hx hb d_M_once_178 rfl (lv_at hl 1 rfl) ?_
      refine lv_iload_n hx hb d_M_once_179 rfl (lv_at hl 0 rfl) ?_
      obtain ⟨S30, e30⟩ : ∃ z : MS, z = f_M_hit_II S29 (1 : Int32) (5 : Int32) := ⟨_, rfl⟩
      refine hg_cv (As := [.int (1 : Int32), .int (5 : Int32)]) (rest := []) ⟨hx, hb, hml, hown, hts⟩ (c_M_hit_II l dC dI ad cJ cI t0 t1 t2 S29 (1 : Int32) (5 : Int32) (in_of (by decide) (by decide)) (in_of (by decide) (by decide)) _) (gw_callV (k := 2) hts tw_635 tw_637 tp_13 tw_4 tw_638 (by decide +kernel) rfl rfl ⟨Nat.le_of_ble_eq_true rfl, Nat.le_of_ble_eq_true rfl⟩) hK G hA (hx_M hRT G hA) 3 0 rfl rfl rfl hl.1 rfl (Nat.le_of_ble_eq_true rfl) ⟨Nat.zero_le _, Nat.zero_le _⟩ d_M_once_180 (fun H locs G => ?_)
      rw [← e30] at G
      refine lv_iinc (v := (6 : Int32)) (lv' := [(2, .int (6 : Int32)), (1, .int (1 : Int32)), (0, .ref (ad 0))]) hx hb d_M_once_183 hl (k := 0) rfl (by decide) (by decide) rfl (fun ls hl => ?_)
      refine lv_goto (tgt := 171) hx hb d_M_once_186 (by decide) ?_
      refine lv_iload_n hx hb d_M_once_171 rfl (lv_at hl 0 rfl) ?_
      refine lv_bipush (v := (8 : Int32)) hx hb d_M_once_172 (by decide) ?_
      refine lv_icmp_ge (tgt := 189) hx hb d_M_once_174 (by decide) (fun c0 => absurd c0 (by decide)) (fun _ => ?_)
      refine lv_aload_n hx hb d_M_once_177 rfl (lv_at hl 2 rfl) ?_
      refine lv_iload_n hx hb d_M_once_178 rfl (lv_at hl 1 rfl) ?_
      refine lv_iload_n hx hb d_M_once_179 rfl (lv_at hl 0 rfl) ?_
      obtain ⟨S31, e31⟩ : ∃ z : MS, z = f_M_hit_II S30 (1 : Int32) (6 : Int32) := ⟨_, rfl⟩
      refine hg_cv (As := [.int (1 : Int32), .int (6 : Int32)]) (rest := []) ⟨hx, hb, hml, hown, hts⟩ (c_M_hit_II l dC dI ad cJ cI t0 t1 t2 S30 (1 : Int32) (6 : Int32) (in_of (by decide) (by decide)) (in_of (by decide) (by decide)) _) (gw_callV (k := 2) hts tw_635 tw_637 tp_13 tw_4 tw_638 (by decide +kernel) rfl rfl ⟨Nat.le_of_ble_eq_true rfl, Nat.le_of_ble_eq_true rfl⟩) hK G hA (hx_M hRT G hA) 3 0 rfl rfl rfl hl.1 rfl (Nat.le_of_ble_eq_true rfl) ⟨Nat.zero_le _, Nat.zero_le _⟩ d_M_once_180 (fun H locs G => ?_)
      rw [← e31] at G
      refine lv_iinc (v := (7 : Int32)) (lv' := [(2, .int (7 : Int32)), (1, .int (1 : Int32)), (0, .ref (ad 0))]) hx hb d_M_once_183 hl (k := 0) rfl (by decide) (by decide) rfl (fun ls hl => ?_)
      refine lv_goto (tgt := 171) hx hb d_M_once_186 (by decide) ?_
      refine lv_iload_n hx hb d_M_once_171 rfl (lv_at hl 0 rfl) ?_
      refine lv_bipush (v := (8 : Int32)) hx hb d_M_once_172 (by decide) ?_
      refine lv_icmp_ge (tgt := 189) hx hb d_M_once_174 (by decide) (fun c0 => absurd c0 (by decide)) (fun _ => ?_)
      refine lv_aload_n hx hb d_M_once_177 rfl (lv_at hl 2 rfl) ?_
      refine lv_iload_n hx hb d_M_once_178 rfl (lv_at hl 1 rfl) ?_
      refine lv_iload_n hx hb d_M_once_179 rfl (lv_at hl 0 rfl) ?_
      obtain ⟨S32, e32⟩ : ∃ z : MS, z = f_M_hit_II S31 (1 : Int32) (7 : Int32) := ⟨_, rfl⟩
      refine hg_cv (As := [.int (1 : Int32), .int (7 : Int32)]) (rest := []) ⟨hx, hb, hml, hown, hts⟩ (c_M_hit_II l dC dI ad cJ cI t0 t1 t2 S31 (1 : Int32) (7 : Int32) (in_of (by decide) (by decide)) (in_of (by decide) (by decide)) _) (gw_callV (k := 2) hts tw_635 tw_637 tp_13 tw_4 tw_638 (by decide +kernel) rfl rfl ⟨Nat.le_of_ble_eq_true rfl, Nat.le_of_ble_eq_true rfl⟩) hK G hA (hx_M hRT G hA) 3 0 rfl rfl rfl hl.1 rfl (Nat.le_of_ble_eq_true rfl) ⟨Nat.zero_le _, Nat.zero_le _⟩ d_M_once_180 (fun H locs G => ?_)
      rw [← e32] at G
      refine lv_iinc (v := (8 : Int32)) (lv' := [(2, .int (8 : Int32)), (1, .int (1 : Int32)), (0, .ref (ad 0))]) hx hb d_M_once_183 hl (k := 0) rfl (by decide) (by decide) rfl (fun ls hl => ?_)
      refine lv_goto (tgt := 171) hx hb d_M_once_186 (by decide) ?_
      refine lv_iload_n hx hb d_M_once_171 rfl (lv_at hl 0 rfl) ?_
      refine lv_bipush (v := (8 : Int32)) hx hb d_M_once_172 (by decide) ?_
      refine lv_icmp_ge (tgt := 189) hx hb d_M_once_174 (by decide) (fun _ => ?_) (fun c0 => absurd c0 (by decide))
      refine lv_iinc (v := (2 : Int32)) (lv' := [(1, .int (2 : Int32)), (2, .int (8 : Int32)), (0, .ref (ad 0))]) hx hb d_M_once_189 hl (k := 1) rfl (by decide) (by decide) rfl (fun ls hl => ?_)
      refine lv_goto (tgt := 161) hx hb d_M_once_192 (by decide) ?_
      refine lv_iload_n hx hb d_M_once_161 rfl (lv_at hl 0 rfl) ?_
      refine lv_bipush (v := (8 : Int32)) hx hb d_M_once_162 (by decide) ?_
      refine lv_icmp_ge (tgt := 195) hx hb d_M_once_164 (by decide) (fun c0 => absurd c0 (by decide)) (fun _ => ?_)
      refine lv_iload_n hx hb d_M_once_167 rfl (lv_at hl 0 rfl) ?_
      refine lv_iconst (v := 1) hx hb d_M_once_168 (by decide) ?_
      refine lv_iadd hx hb d_M_once_169 ?_
      refine lv_topi (fun v33 e33 => ?_)
      obtain rfl : v33 = (3 : Int32) := by rw [e33]; decide
      refine lv_istore_n (lv' := [(2, .int (3 : Int32)), (1, .int (2 : Int32)), (0, .ref (ad 0))]) hx hb d_M_once_170 rfl hl (by decide) rfl (fun ls hl => ?_)
      refine lv_iload_n hx hb d_M_once_171 rfl (lv_at hl 0 rfl) ?_
      refine lv_bipush (v := (8 : Int32)) hx hb d_M_once_172 (by decide) ?_
      refine lv_icmp_ge (tgt := 189) hx hb d_M_once_174 (by decide) (fun c0 => absurd c0 (by decide)) (fun _ => ?_)
      refine lv_aload_n hx hb d_M_once_177 rfl (lv_at hl 2 rfl) ?_
      refine lv_iload_n hx hb d_M_once_178 rfl (lv_at hl 1 rfl) ?_
      refine lv_iload_n hx hb d_M_once_179 rfl (lv_at hl 0 rfl) ?_
      obtain ⟨S34, e34⟩ : ∃ z : MS, z = f_M_hit_II S32 (2 : Int32) (3 : Int32) := ⟨_, rfl⟩
      refine hg_cv (As := [.int (2 : Int32), .int (3 : Int32)]) (rest := []) ⟨hx, hb, hml, hown, hts⟩ (c_M_hit_II l dC dI ad cJ cI t0 t1 t2 S32 (2 : Int32) (3 : Int32) (in_of (by decide) (by decide)) (in_of (by decide) (by decide)) _) (gw_callV (k := 2) hts tw_635 tw_637 tp_13 tw_4 tw_638 (by decide +kernel) rfl rfl ⟨Nat.le_of_ble_eq_true rfl, Nat.le_of_ble_eq_true rfl⟩) hK G hA (hx_M hRT G hA) 3 0 rfl rfl rfl hl.1 rfl (Nat.le_of_ble_eq_true rfl) ⟨Nat.zero_le _, Nat.zero_le _⟩ d_M_once_180 (fun H locs G => ?_)
      rw [← e34] at G
      refine lv_iinc (v := (4 : Int32)) (lv' := [(2, .int (4 : Int32)), (1, .int (2 : Int32)), (0, .ref (ad 0))]) hx hb d_M_once_183 hl (k := 0) rfl (by decide) (by decide) rfl (fun ls hl => ?_)
      refine lv_goto (tgt := 171) hx hb d_M_once_186 (by decide) ?_
      refine lv_iload_n hx hb d_M_once_171 rfl (lv_at hl 0 rfl) ?_
      refine lv_bipush (v := (8 : Int32)) hx hb d_M_once_172 (by decide) ?_
      refine lv_icmp_ge (tgt := 189) hx hb d_M_once_174 (by decide) (fun c0 => absurd c0 (by decide)) (fun _ => ?_)
      refine lv_aload_n hx hb d_M_once_177 rfl (lv_at hl 2 rfl) ?_
      refine lv_iload_n hx hb d_M_once_178 rfl (lv_at hl 1 rfl) ?_
      refine lv_iload_n hx hb d_M_once_179 rfl (lv_at hl 0 rfl) ?_
      obtain ⟨S35, e35⟩ : ∃ z : MS, z = f_M_hit_II S34 (2 : Int32) (4 : Int32) := ⟨_, rfl⟩
      refine hg_cv (As := [.int (2 : Int32), .int (4 : Int32)]) (rest := []) ⟨hx, hb, hml, hown, hts⟩ (c_M_hit_II l dC dI ad cJ cI t0 t1 t2 S34 (2 : Int32) (4 : Int32) (in_of (by decide) (by decide)) (in_of (by decide) (by decide)) _) (gw_callV (k := 2) hts tw_635 tw_637 tp_13 tw_4 tw_638 (by decide +kernel) rfl rfl ⟨Nat.le_of_ble_eq_true rfl, Nat.le_of_ble_eq_true rfl⟩) hK G hA (hx_M hRT G hA) 3 0 rfl rfl rfl hl.1 rfl (Nat.le_of_ble_eq_true rfl) ⟨Nat.zero_le _, Nat.zero_le _⟩ d_M_once_180 (fun H locs G => ?_)
      rw [← e35] at G
      refine lv_iinc (v := (5 : Int32)) (lv' := [(2, .int (5 : Int32)), (1, .int (2 : Int32)), (0, .ref (ad 0))]) hx hb d_M_once_183 hl (k := 0) rfl (by decide) (by decide) rfl (fun ls hl => ?_)
      refine lv_goto (tgt := 171) hx hb d_M_once_186 (by decide) ?_
      refine lv_iload_n hx hb d_M_once_171 rfl (lv_at hl 0 rfl) ?_
      refine lv_bipush (v := (8 : Int32)) hx hb d_M_once_172 (by decide) ?_
      refine lv_icmp_ge (tgt := 189) hx hb d_M_once_174 (by decide) (fun c0 => absurd c0 (by decide)) (fun _ => ?_)
      refine lv_aload_n hx hb d_M_once_177 rfl (lv_at hl 2 rfl) ?_
      refine lv_iload_n hx hb d_M_once_178 rfl (lv_at hl 1 rfl) ?_
      refine lv_iload_n hx hb d_M_once_179 rfl (lv_at hl 0 rfl) ?_
      obtain ⟨S36, e36⟩ : ∃ z : MS, z = f_M_hit_II S35 (2 : Int32) (5 : Int32) := ⟨_, rfl⟩
      refine hg_cv (As := [.int (2 : Int32), .int (5 : Int32)]) (rest := []) ⟨hx, hb, hml, hown, hts⟩ (c_M_hit_II l dC dI ad cJ cI t0 t1 t2 S35 (2 : Int32) (5 : Int32) (in_of (by decide) (by decide)) (in_of (by decide) (by decide)) _) (gw_callV (k := 2) hts tw_635 tw_637 tp_13 tw_4 tw_638 (by decide +kernel) rfl rfl ⟨Nat.le_of_ble_eq_true rfl, Nat.le_of_ble_eq_true rfl⟩) hK G hA (hx_M hRT G hA) 3 0 rfl rfl rfl hl.1 rfl (Nat.le_of_ble_eq_true rfl) ⟨Nat.zero_le _, Nat.zero_le _⟩ d_M_once_180 (fun H locs G => ?_)
      rw [← e36] at G
      refine lv_iinc (v := (6 : Int32)) (lv' := [(2, .int (6 : Int32)), (1, .int (2 : Int32)), (0, .ref (ad 0))]) hx hb d_M_once_183 hl (k := 0) rfl (by decide) (by decide) rfl (fun ls hl => ?_)
      refine lv_goto (tgt := 171) hx hb d_M_once_186 (by decide) ?_
      refine lv_iload_n hx hb d_M_once_171 rfl (lv_at hl 0 rfl) ?_
      refine lv_bipush (v := (8 : Int32)) hx hb d_M_once_172 (by decide) ?_
      refine lv_icmp_ge (tgt := 189) hx hb d_M_once_174 (by decide) (fun c0 => absurd c0 (by decide)) (fun _ => ?_)
      refine lv_aload_n hx hb d_M_once_177 rfl (lv_at hl 2 rfl) ?_
      refine lv_iload_n hx hb d_M_once_178 rfl (lv_at hl 1 rfl) ?_
      refine lv_iload_n hx hb d_M_once_179 rfl (lv_at hl 0 rfl) ?_
      obtain ⟨S37, e37⟩ : ∃ z : MS, z = f_M_hit_II S36 (2 : Int32) (6 : Int32) := ⟨_, rfl⟩
      refine hg_cv (As := [.int (2 : Int32), .int (6 : Int32)]) (rest := []) ⟨hx, hb, hml, hown, hts⟩ (c_M_hit_II l dC dI ad cJ cI t0 t1 t2 S36 (2 : Int32) (6 : Int32) (in_of (by decide) (by decide)) (in_of (by decide) (by decide)) _) (gw_callV (k := 2) hts tw_635 tw_637 tp_13 tw_4 tw_638 (by decide +kernel) rfl rfl ⟨Nat.le_of_ble_eq_true rfl, Nat.le_of_ble_eq_true rfl⟩) hK G hA (hx_M hRT G hA) 3 0 rfl rfl rfl hl.1 rfl (Nat.le_of_ble_eq_true rfl) ⟨Nat.zero_le _, Nat.zero_le _⟩ d_M_once_180 (fun H locs G => ?_)
      rw [← e37] at G
      refine lv_iinc (v := (7 : Int32)) (lv' := [(2, .int (7 : Int32)), (1, .int (2 : Int32)), (0, .ref (ad 0))]) hx hb d_M_once_183 hl (k := 0) rfl (by decide) (by decide) rfl (fun ls hl => ?_)
      refine lv_goto (tgt := 171) hx hb d_M_once_186 (by decide) ?_
      refine lv_iload_n hx hb d_M_once_171 rfl (lv_at hl 0 rfl) ?_
      refine lv_bipush (v := (8 : Int32)) hx hb d_M_once_172 (by decide) ?_
      refine lv_icmp_ge (tgt := 189) hx hb d_M_once_174 (by decide) (fun c0 => absurd c0 (by decide)) (fun _ => ?_)
      refine lv_aload_n hx hb d_M_once_177 rfl (lv_at hl 2 rfl) ?_
      refine lv_iload_n hx hb d_M_once_178 rfl (lv_at hl 1 rfl) ?_
      refine lv_iload_n hx hb d_M_once_179 rfl (lv_at hl 0 rfl) ?_
      obtain ⟨S38, e38⟩ : ∃ z : MS, z = f_M_hit_II S37 (2 : Int32) (7 : Int32) := ⟨_, rfl⟩
      refine hg_cv (As := [.int (2 : Int32), .int (7 : Int32)]) (rest := []) ⟨hx, hb, hml, hown, hts⟩ (c_M_hit_II l dC dI ad cJ cI t0 t1 t2 S37 (2 : Int32) (7 : Int32) (in_of (by decide) (by decide)) (in_of (by decide) (by decide)) _) (gw_callV (k := 2) hts tw_635 tw_637 tp_13 tw_4 tw_638 (by decide +kernel) rfl rfl ⟨Nat.le_of_ble_eq_true rfl, Nat.le_of_ble_eq_true rfl⟩) hK G hA (hx_M hRT G hA) 3 0 rfl rfl rfl hl.1 rfl (Nat.le_of_ble_eq_true rfl) ⟨Nat.zero_le _, Nat.zero_le _⟩ d_M_once_180 (fun H locs G => ?_)
      rw [← e38] at G
      refine lv_iinc (v := (8 : Int32)) (lv' := [(2, .int (8 : Int32)), (1, .int (2 : Int32)), (0, .ref (ad 0))]) hx hb d_M_once_183 hl (k := 0) rfl (by decide) (by decide) rfl (fun ls hl => ?_)
      refine lv_goto (tgt := 171) hx hb d_M_once_186 (by decide) ?_
      refine lv_iload_n hx hb d_M_once_171 rfl (lv_at hl 0 rfl) ?_
      refine lv_bipush (v := (8 : Int32)) hx hb d_M_once_172 (by decide) ?_
      refine lv_icmp_ge (tgt := 189) hx hb d_M_once_174 (by decide) (fun _ => ?_) (fun c0 => absurd c0 (by decide))
      refine lv_iinc (v := (3 : Int32)) (lv' := [(1, .int (3 : Int32)), (2, .int (8 : Int32)), (0, .ref (ad 0))]) hx hb d_M_once_189 hl (k := 1) rfl (by decide) (by decide) rfl (fun ls hl => ?_)
      refine lv_goto (tgt := 161) hx hb d_M_once_192 (by decide) ?_
      refine lv_iload_n hx hb d_M_once_161 rfl (lv_at hl 0 rfl) ?_
      refine lv_bipush (v := (8 : Int32)) hx hb d_M_once_162 (by decide) ?_
      refine lv_icmp_ge (tgt := 195) hx hb d_M_once_164 (by decide) (fun c0 => absurd c0 (by decide)) (fun _ => ?_)
      refine lv_iload_n hx hb d_M_once_167 rfl (lv_at hl 0 rfl) ?_
      refine lv_iconst (v := 1) hx hb d_M_once_168 (by decide) ?_
      refine lv_iadd hx hb d_M_once_169 ?_
      refine lv_topi (fun v39 e39 => ?_)
      obtain rfl : v39 = (4 : Int32) := by rw [e39]; decide
      refine lv_istore_n (lv' := [(2, .int (4 : Int32)), (1, .int (3 : Int32)), (0, .ref (ad 0))]) hx hb d_M_once_170 rfl hl (by decide) rfl (fun ls hl => ?_)
      refine lv_iload_n hx hb d_M_once_171 rfl (lv_at hl 0 rfl) ?_
      refine lv_bipush (v := (8 : Int32)) hx hb d_M_once_172 (by decide) ?_
      refine lv_icmp_ge (tgt := 189) hx hb d_M_once_174 (by decide) (fun c0 => absurd c0 (by decide)) (fun _ => ?_)
      refine lv_aload_n hx hb d_M_once_177 rfl (lv_at hl 2 rfl) ?_
      refine lv_iload_n hx hb d_M_once_178 rfl (lv_at hl 1 rfl) ?_
      refine lv_iload_n hx hb d_M_once_179 rfl (lv_at hl 0 rfl) ?_
      obtain ⟨S40, e40⟩ : ∃ z : MS, z = f_M_hit_II S38 (3 : Int32) (4 : Int32) := ⟨_, rfl⟩
      refine hg_cv (As := [.int (3 : Int32), .int (4 : Int32)]) (rest := []) ⟨hx, hb, hml, hown, hts⟩ (c_M_hit_II l dC dI ad cJ cI t0 t1 t2 S38 (3 : Int32) (4 : Int32) (in_of (by decide) (by decide)) (in_of (by decide) (by decide)) _) (gw_callV (k := 2) hts tw_635 tw_637 tp_13 tw_4 tw_638 (by decide +kernel) rfl rfl ⟨Nat.le_of_ble_eq_true rfl, Nat.le_of_ble_eq_true rfl⟩) hK G hA (hx_M hRT G hA) 3 0 rfl rfl rfl hl.1 rfl (Nat.le_of_ble_eq_true rfl) ⟨Nat.zero_le _, Nat.zero_le _⟩ d_M_once_180 (fun H locs G => ?_)
      rw [← e40] at G
      refine lv_iinc (v := (5 : Int32)) (lv' := [(2, .int (5 : Int32)), (1, .int (3 : Int32)), (0, .ref (ad 0))]) hx hb d_M_once_183 hl (k := 0) rfl (by decide) (by decide) rfl (fun ls hl => ?_)
      refine lv_goto (tgt := 171) hx hb d_M_once_186 (by decide) ?_
      refine lv_iload_n hx hb d_M_once_171 rfl (lv_at hl 0 rfl) ?_
      refine lv_bipush (v := (8 : Int32)) hx hb d_M_once_172 (by decide) ?_
      refine lv_icmp_ge (tgt := 189) hx hb d_M_once_174 (by decide) (fun c0 => absurd c0 (by decide)) (fun _ => ?_)
      refine lv_aload_n hx hb d_M_once_177 rfl (lv_at hl 2 rfl) ?_
      refine lv_iload_n hx hb d_M_once_178 rfl (lv_at hl 1 rfl) ?_
      refine lv_iload_n hx hb d_M_once_179 rfl (lv_at hl 0 rfl) ?_
      obtain ⟨S41, e41⟩ : ∃ z : MS, z = f_M_hit_II S40 (3 : Int32) (5 : Int32) := ⟨_, rfl⟩
      refine hg_cv (As := [.int (3 : Int32), .int (5 : Int32)]) (rest := []) ⟨hx, hb, hml, hown, hts⟩ (c_M_hit_II l dC dI ad cJ cI t0 t1 t2 S40 (3 : Int32) (5 : Int32) (in_of (by decide) (by decide)) (in_of (by decide) (by decide)) _) (gw_callV (k := 2) hts tw_635 tw_637 tp_13 tw_4 tw_638 (by decide +kernel) rfl rfl ⟨Nat.le_of_ble_eq_true rfl, Nat.le_of_ble_eq_true rfl⟩) hK G hA (hx_M hRT G hA) 3 0 rfl rfl rfl hl.1 rfl (Nat.le_of_ble_eq_true rfl) ⟨Nat.zero_le _, Nat.zero_le _⟩ d_M_once_180 (fun H locs G => ?_)
      rw [← e41] at G
      refine lv_iinc (v := (6 : Int32)) (lv' := [(2, .int (6 : Int32)), (1, .int (3 : Int32)), (0, .ref (ad 0))]) hx hb d_M_once_183 hl (k := 0) rfl (by decide) (by decide) rfl (fun ls hl => ?_)
      refine lv_goto (tgt := 171) hx hb d_M_once_186 (by decide) ?_
      refine lv_iload_n hx hb d_M_once_171 rfl (lv_at hl 0 rfl) ?_
      refine lv_bipush (v := (8 : Int32)) hx hb d_M_once_172 (by decide) ?_
      refine lv_icmp_ge (tgt := 189) hx hb d_M_once_174 (by decide) (fun c0 => absurd c0 (by decide)) (fun _ => ?_)
      refine lv_aload_n hx hb d_M_once_177 rfl (lv_at hl 2 rfl) ?_
      refine lv_iload_n hx hb d_M_once_178 rfl (lv_at hl 1 rfl) ?_
      refine lv_iload_n hx hb d_M_once_179 rfl (lv_at hl 0 rfl) ?_
      obtain ⟨S42, e42⟩ : ∃ z : MS, z = f_M_hit_II S41 (3 : Int32) (6 : Int32) := ⟨_, rfl⟩
      refine hg_cv (As := [.int (3 : Int32), .int (6 : Int32)]) (rest := []) ⟨hx, hb, hml, hown, hts⟩ (c_M_hit_II l dC dI ad cJ cI t0 t1 t2 S41 (3 : Int32) (6 : Int32) (in_of (by decide) (by decide)) (in_of (by decide) (by decide)) _) (gw_callV (k := 2) hts tw_635 tw_637 tp_13 tw_4 tw_638 (by decide +kernel) rfl rfl ⟨Nat.le_of_ble_eq_true rfl, Nat.le_of_ble_eq_true rfl⟩) hK G hA (hx_M hRT G hA) 3 0 rfl rfl rfl hl.1 rfl (Nat.le_of_ble_eq_true rfl) ⟨Nat.zero_le _, Nat.zero_le _⟩ d_M_once_180 (fun H locs G => ?_)
      rw [← e42] at G
      refine lv_iinc (v := (7 : Int32)) (lv' := [(2, .int (7 : Int32)), (1, .int (3 : Int32)), (0, .ref (ad 0))]) hx hb d_M_once_183 hl (k := 0) rfl (by decide) (by decide) rfl (fun ls hl => ?_)
      refine lv_goto (tgt := 171) hx hb d_M_once_186 (by decide) ?_
      refine lv_iload_n hx hb d_M_once_171 rfl (lv_at hl 0 rfl) ?_
      refine lv_bipush (v := (8 : Int32)) hx hb d_M_once_172 (by decide) ?_
      refine lv_icmp_ge (tgt := 189) hx hb d_M_once_174 (by decide) (fun c0 => absurd c0 (by decide)) (fun _ => ?_)
      refine lv_aload_n hx hb d_M_once_177 rfl (lv_at hl 2 rfl) ?_
      refine lv_iload_n hx hb d_M_once_178 rfl (lv_at hl 1 rfl) ?_
      refine lv_iload_n hx hb d_M_once_179 rfl (lv_at hl 0 rfl) ?_
      obtain ⟨S43, e43⟩ : ∃ z : MS, z = f_M_hit_II S42 (3 : Int32) (7 : Int32) := ⟨_, rfl⟩
      refine hg_cv (As := [.int (3 : Int32), .int (7 : Int32)]) (rest := []) ⟨hx, hb, hml, hown, hts⟩ (c_M_hit_II l dC dI ad cJ cI t0 t1 t2 S42 (3 : Int32) (7 : Int32) (in_of (by decide) (by decide)) (in_of (by decide) (by decide)) _) (gw_callV (k := 2) hts tw_635 tw_637 tp_13 tw_4 tw_638 (by decide +kernel) rfl rfl ⟨Nat.le_of_ble_eq_true rfl, Nat.le_of_ble_eq_true rfl⟩) hK G hA (hx_M hRT G hA) 3 0 rfl rfl rfl hl.1 rfl (Nat.le_of_ble_eq_true rfl) ⟨Nat.zero_le _, Nat.zero_le _⟩ d_M_once_180 (fun H locs G => ?_)
      rw [← e43] at G
      refine lv_iinc (v := (8 : Int32)) (lv' := [(2, .int (8 : Int32)), (1, .int (3 : Int32)), (0, .ref (ad 0))]) hx hb d_M_once_183 hl (k := 0) rfl (by decide) (by decide) rfl (fun ls hl => ?_)
      refine lv_goto (tgt := 171) hx hb d_M_once_186 (by decide) ?_
      refine lv_iload_n hx hb d_M_once_171 rfl (lv_at hl 0 rfl) ?_
      refine lv_bipush (v := (8 : Int32)) hx hb d_M_once_172 (by decide) ?_
      refine lv_icmp_ge (tgt := 189) hx hb d_M_once_174 (by decide) (fun _ => ?_) (fun c0 => absurd c0 (by decide))
      refine lv_iinc (v := (4 : Int32)) (lv' := [(1, .int (4 : Int32)), (2, .int (8 : Int32)), (0, .ref (ad 0))]) hx hb d_M_once_189 hl (k := 1) rfl (by decide) (by decide) rfl (fun ls hl => ?_)
      refine lv_goto (tgt := 161) hx hb d_M_once_192 (by decide) ?_
      refine lv_iload_n hx hb d_M_once_161 rfl (lv_at hl 0 rfl) ?_
      refine lv_bipush (v := (8 : Int32)) hx hb d_M_once_162 (by decide) ?_
      refine lv_icmp_ge (tgt := 195) hx hb d_M_once_164 (by decide) (fun c0 => absurd c0 (by decide)) (fun _ => ?_)
      refine lv_iload_n hx hb d_M_once_167 rfl (lv_at hl 0 rfl) ?_
      refine lv_iconst (v := 1) hx hb d_M_once_168 (by decide) ?_
      refine lv_iadd hx hb d_M_once_169 ?_
      refine lv_topi (fun v44 e44 => ?_)
      obtain rfl : v44 = (5 : Int32) := by rw [e44]; decide
      refine lv_istore_n (lv' := [(2, .int (5 : Int32)), (1, .int (4 : Int32)), (0, .ref (ad 0))]) hx hb d_M_once_170 rfl hl (by decide) rfl (fun ls hl => ?_)
      refine lv_iload_n hx hb d_M_once_171 rfl (lv_at hl 0 rfl) ?_
      refine lv_bipush (v := (8 : Int32)) hx hb d_M_once_172 (by decide) ?_
      refine lv_icmp_ge (tgt := 189) hx hb d_M_once_174 (by decide) (fun c0 => absurd c0 (by decide)) (fun _ => ?_)
      refine lv_aload_n hx hb d_M_once_177 rfl (lv_at hl 2 rfl) ?_
      refine lv_iload_n hx hb d_M_once_178 rfl (lv_at hl 1 rfl) ?_
      refine lv_iload_n hx hb d_M_once_179 rfl (lv_at hl 0 rfl) ?_
      obtain ⟨S45, e45⟩ : ∃ z : MS, z = f_M_hit_II S43 (4 : Int32) (5 : Int32) := ⟨_, rfl⟩
      refine hg_cv (As := [.int (4 : Int32), .int (5 : Int32)]) (rest := []) ⟨hx, hb, hml, hown, hts⟩ (c_M_hit_II l dC dI ad cJ cI t0 t1 t2 S43 (4 : Int32) (5 : Int32) (in_of (by decide) (by decide)) (in_of (by decide) (by decide)) _) (gw_callV (k := 2) hts tw_635 tw_637 tp_13 tw_4 tw_638 (by decide +kernel) rfl rfl ⟨Nat.le_of_ble_eq_true rfl, Nat.le_of_ble_eq_true rfl⟩) hK G hA (hx_M hRT G hA) 3 0 rfl rfl rfl hl.1 rfl (Nat.le_of_ble_eq_true rfl) ⟨Nat.zero_le _, Nat.zero_le _⟩ d_M_once_180 (fun H locs G => ?_)
      rw [← e45] at G
      refine lv_iinc (v := (6 : Int32)) (lv' := [(2, .int (6 : Int32)), (1, .int (4 : Int32)), (0, .ref (ad 0))]) hx hb d_M_once_183 hl (k := 0) rfl (by decide) (by decide) rfl (fun ls hl => ?_)
      refine lv_goto (tgt := 171) hx hb d_M_once_186 (by decide) ?_
      refine lv_iload_n hx hb d_M_once_171 rfl (lv_at hl 0 rfl) ?_
      refine lv_bipush (v := (8 : Int32)) hx hb d_M_once_172 (by decide) ?_
      refine lv_icmp_ge (tgt := 189) hx hb d_M_once_174 (by decide) (fun c0 => absurd c0 (by decide)) (fun _ => ?_)
      refine lv_aload_n hx hb d_M_once_177 rfl (lv_at hl 2 rfl) ?_
      refine lv_iload_n hx hb d_M_once_178 rfl (lv_at hl 1 rfl) ?_
      refine lv_iload_n hx hb d_M_once_179 rfl (lv_at hl 0 rfl) ?_
      obtain ⟨S46, e46⟩ : ∃ z : MS, z = f_M_hit_II S45 (4 : Int32) (6 : Int32) := ⟨_, rfl⟩
      refine hg_cv (As := [.int (4 : Int32), .int (6 : Int32)]) (rest := []) ⟨hx, hb, hml, hown, hts⟩ (c_M_hit_II l dC dI ad cJ cI t0 t1 t2 S45 (4 : Int32) (6 : Int32) (in_of (by decide) (by decide)) (in_of (by decide) (by decide)) _) (gw_callV (k := 2) hts tw_635 tw_637 tp_13 tw_4 tw_638 (by decide +kernel) rfl rfl ⟨Nat.le_of_ble_eq_true rfl, Nat.le_of_ble_eq_true rfl⟩) hK G hA (hx_M hRT G hA) 3 0 rfl rfl rfl hl.1 rfl (Nat.le_of_ble_eq_true rfl) ⟨Nat.zero_le _, Nat.zero_le _⟩ d_M_once_180 (fun H locs G => ?_)
      rw [← e46] at G
      refine lv_iinc (v := (7 : Int32)) (lv' := [(2, .int (7 : Int32)), (1, .int (4 : Int32)), (0, .ref (ad 0))]) hx hb d_M_once_183 hl (k := 0) rfl (by decide) (by decide) rfl (fun ls hl => ?_)
      refine lv_goto (tgt := 171) hx hb d_M_once_186 (by decide) ?_
      refine lv_iload_n hx hb d_M_once_171 rfl (lv_at hl 0 rfl) ?_
      refine lv_bipush (v := (8 : Int32)) hx hb d_M_once_172 (by decide) ?_
      refine lv_icmp_ge (tgt := 189) hx hb d_M_once_174 (by decide) (fun c0 => absurd c0 (by decide)) (fun _ => ?_)
      refine lv_aload_n hx hb d_M_once_177 rfl (lv_at hl 2 rfl) ?_
      refine lv_iload_n hx hb d_M_once_178 rfl (lv_at hl 1 rfl) ?_
      refine lv_iload_n hx hb d_M_once_179 rfl (lv_at hl 0 rfl) ?_
      obtain ⟨S47, e47⟩ : ∃ z : MS, z = f_M_hit_II S46 (4 : Int32) (7 : Int32) := ⟨_, rfl⟩
      refine hg_cv (As := [.int (4 : Int32), .int (7 : Int32)]) (rest := []) ⟨hx, hb, hml, hown, hts⟩ (c_M_hit_II l dC dI ad cJ cI t0 t1 t2 S46 (4 : Int32) (7 : Int32) (in_of (by decide) (by decide)) (in_of (by decide) (by decide)) _) (gw_callV (k := 2) hts tw_635 tw_637 tp_13 tw_4 tw_638 (by decide +kernel) rfl rfl ⟨Nat.le_of_ble_eq_true rfl, Nat.le_of_ble_eq_true rfl⟩) hK G hA (hx_M hRT G hA) 3 0 rfl rfl rfl hl.1 rfl (Nat.le_of_ble_eq_true rfl) ⟨Nat.zero_le _, Nat.zero_le _⟩ d_M_once_180 (fun H locs G => ?_)
      rw [← e47] at G
      refine lv_iinc (v := (8 : Int32)) (lv' := [(2, .int (8 : Int32)), (1, .int (4 : Int32)), (0, .ref (ad 0))]) hx hb d_M_once_183 hl (k := 0) rfl (by decide) (by decide) rfl (fun ls hl => ?_)
      refine lv_goto (tgt := 171) hx hb d_M_once_186 (by decide) ?_
      refine lv_iload_n hx hb d_M_once_171 rfl (lv_at hl 0 rfl) ?_
      refine lv_bipush (v := (8 : Int32)) hx hb d_M_once_172 (by decide) ?_
      refine lv_icmp_ge (tgt := 189) hx hb d_M_once_174 (by decide) (fun _ => ?_) (fun c0 => absurd c0 (by decide))
      refine lv_iinc (v := (5 : Int32)) (lv' := [(1, .int (5 : Int32)), (2, .int (8 : Int32)), (0, .ref (ad 0))]) hx hb d_M_once_189 hl (k := 1) rfl (by decide) (by decide) rfl (fun ls hl => ?_)
      refine lv_goto (tgt := 161) hx hb d_M_once_192 (by decide) ?_
      refine lv_iload_n hx hb d_M_once_161 rfl (lv_at hl 0 rfl) ?_
      refine lv_bipush (v := (8 : Int32)) hx hb d_M_once_162 (by decide) ?_
      refine lv_icmp_ge (tgt := 195) hx hb d_M_once_164 (by decide) (fun c0 => absurd c0 (by decide)) (fun _ => ?_)
      refine lv_iload_n hx hb d_M_once_167 rfl (lv_at hl 0 rfl) ?_
      refine lv_iconst (v := 1) hx hb d_M_once_168 (by decide) ?_
      refine lv_iadd hx hb d_M_once_169 ?_
      refine lv_topi (fun v48 e48 => ?_)
      obtain rfl : v48 = (6 : Int32) := by rw [e48]; decide
      refine lv_istore_n (lv' := [(2, .int (6 : Int32)), (1, .int (5 : Int32)), (0, .ref (ad 0))]) hx hb d_M_once_170 rfl hl (by decide) rfl (fun ls hl => ?_)
      refine lv_iload_n hx hb d_M_once_171 rfl (lv_at hl 0 rfl) ?_
      refine lv_bipush (v := (8 : Int32)) hx hb d_M_once_172 (by decide) ?_
      refine lv_icmp_ge (tgt := 189) hx hb d_M_once_174 (by decide) (fun c0 => absurd c0 (by decide)) (fun _ => ?_)
      refine lv_aload_n hx hb d_M_once_177 rfl (lv_at hl 2 rfl) ?_
      refine lv_iload_n hx hb d_M_once_178 rfl (lv_at hl 1 rfl) ?_
      refine lv_iload_n hx hb d_M_once_179 rfl (lv_at hl 0 rfl) ?_
      obtain ⟨S49, e49⟩ : ∃ z : MS, z = f_M_hit_II S47 (5 : Int32) (6 : Int32) := ⟨_, rfl⟩
      refine hg_cv (As := [.int (5 : Int32), .int (6 : Int32)]) (rest := []) ⟨hx, hb, hml, hown, hts⟩ (c_M_hit_II l dC dI ad cJ cI t0 t1 t2 S47 (5 : Int32) (6 : Int32) (in_of (by decide) (by decide)) (in_of (by decide) (by decide)) _) (gw_callV (k := 2) hts tw_635 tw_637 tp_13 tw_4 tw_638 (by decide +kernel) rfl rfl ⟨Nat.le_of_ble_eq_true rfl, Nat.le_of_ble_eq_true rfl⟩) hK G hA (hx_M hRT G hA) 3 0 rfl rfl rfl hl.1 rfl (Nat.le_of_ble_eq_true rfl) ⟨Nat.zero_le _, Nat.zero_le _⟩ d_M_once_180 (fun H locs G => ?_)
      rw [← e49] at G
      refine lv_iinc (v := (7 : Int32)) (lv' := [(2, .int (7 : Int32)), (1, .int (5 : Int32)), (0, .ref (ad 0))]) hx hb d_M_once_183 hl (k := 0) rfl (by decide) (by decide) rfl (fun ls hl => ?_)
      refine lv_goto (tgt := 171) hx hb d_M_once_186 (by decide) ?_
      refine lv_iload_n hx hb d_M_once_171 rfl (lv_at hl 0 rfl) ?_
      refine lv_bipush (v := (8 : Int32)) hx hb d_M_once_172 (by decide) ?_
      refine lv_icmp_ge (tgt := 189) hx hb d_M_once_174 (by decide) (fun c0 => absurd c0 (by decide)) (fun _ => ?_)
      refine lv_aload_n hx hb d_M_once_177 rfl (lv_at hl 2 rfl) ?_
      refine lv_iload_n hx hb d_M_once_178 rfl (lv_at hl 1 rfl) ?_
      refine lv_iload_n hx hb d_M_once_179 rfl (lv_at hl 0 rfl) ?_
      obtain ⟨S50, e50⟩ : ∃ z : MS, z = f_M_hit_II S49 (5 : Int32) (7 : Int32) := ⟨_, rfl⟩
      refine hg_cv (As := [.int (5 : Int32), .int (7 : Int32)]) (rest := []) ⟨hx, hb, hml, hown, hts⟩ (c_M_hit_II l dC dI ad cJ cI t0 t1 t2 S49 (5 : Int32) (7 : Int32) (in_of (by decide) (by decide)) (in_of (by decide) (by decide)) _) (gw_callV (k := 2) hts tw_635 tw_637 tp_13 tw_4 tw_638 (by decide +kernel) rfl rfl ⟨Nat.le_of_ble_eq_true rfl, Nat.le_of_ble_eq_true rfl⟩) hK G hA (hx_M hRT G hA) 3 0 rfl rfl rfl hl.1 rfl (Nat.le_of_ble_eq_true rfl) ⟨Nat.zero_le _, Nat.zero_le _⟩ d_M_once_180 (fun H locs G => ?_)
      rw [← e50] at G
      refine lv_iinc (v := (8 : Int32)) (lv' := [(2, .int (8 : Int32)), (1, .int (5 : Int32)), (0, .ref (ad 0))]) hx hb d_M_once_183 hl (k := 0) rfl (by decide) (by decide) rfl (fun ls hl => ?_)
      refine lv_goto (tgt := 171) hx hb d_M_once_186 (by decide) ?_
      refine lv_iload_n hx hb d_M_once_171 rfl (lv_at hl 0 rfl) ?_
      refine lv_bipush (v := (8 : Int32)) hx hb d_M_once_172 (by decide) ?_
      refine lv_icmp_ge (tgt := 189) hx hb d_M_once_174 (by decide) (fun _ => ?_) (fun c0 => absurd c0 (by decide))
      refine lv_iinc (v := (6 : Int32)) (lv' := [(1, .int (6 : Int32)), (2, .int (8 : Int32)), (0, .ref (ad 0))]) hx hb d_M_once_189 hl (k := 1) rfl (by decide) (by decide) rfl (fun ls hl => ?_)
      refine lv_goto (tgt := 161) hx hb d_M_once_192 (by decide) ?_
      refine lv_iload_n hx hb d_M_once_161 rfl (lv_at hl 0 rfl) ?_
      refine lv_bipush (v := (8 : Int32)) hx hb d_M_once_162 (by decide) ?_
      refine lv_icmp_ge (tgt := 195) hx hb d_M_once_164 (by decide) (fun c0 => absurd c0 (by decide)) (fun _ => ?_)
      refine lv_iload_n hx hb d_M_once_167 rfl (lv_at hl 0 rfl) ?_
      refine lv_iconst (v := 1) hx hb d_M_once_168 (by decide) ?_
      refine lv_iadd hx hb d_M_once_169 ?_
      refine lv_topi (fun v51 e51 => ?_)
      obtain rfl : v51 = (7 : Int32) := by rw [e51]; decide
      refine lv_istore_n (lv' := [(2, .int (7 : Int32)), (1, .int (6 : Int32)), (0, .ref (ad 0))]) hx hb d_M_once_170 rfl hl (by decide) rfl (fun ls hl => ?_)
      refine lv_iload_n hx hb d_M_once_171 rfl (lv_at hl 0 rfl) ?_
      refine lv_bipush (v := (8 : Int32)) hx hb d_M_once_172 (by decide) ?_
      refine lv_icmp_ge (tgt := 189) hx hb d_M_once_174 (by decide) (fun c0 => absurd c0 (by decide)) (fun _ => ?_)
      refine lv_aload_n hx hb d_M_once_177 rfl (lv_at hl 2 rfl) ?_
      refine lv_iload_n hx hb d_M_once_178 rfl (lv_at hl 1 rfl) ?_
      refine lv_iload_n hx hb d_M_once_179 rfl (lv_at hl 0 rfl) ?_
      obtain ⟨S52, e52⟩ : ∃ z : MS, z = f_M_hit_II S50 (6 : Int32) (7 : Int32) := ⟨_, rfl⟩
      refine hg_cv (As := [.int (6 : Int32), .int (7 : Int32)]) (rest := []) ⟨hx, hb, hml, hown, hts⟩ (c_M_hit_II l dC dI ad cJ cI t0 t1 t2 S50 (6 : Int32) (7 : Int32) (in_of (by decide) (by decide)) (in_of (by decide) (by decide)) _) (gw_callV (k := 2) hts tw_635 tw_637 tp_13 tw_4 tw_638 (by decide +kernel) rfl rfl ⟨Nat.le_of_ble_eq_true rfl, Nat.le_of_ble_eq_true rfl⟩) hK G hA (hx_M hRT G hA) 3 0 rfl rfl rfl hl.1 rfl (Nat.le_of_ble_eq_true rfl) ⟨Nat.zero_le _, Nat.zero_le _⟩ d_M_once_180 (fun H locs G => ?_)
      rw [← e52] at G
      refine lv_iinc (v := (8 : Int32)) (lv' := [(2, .int (8 : Int32)), (1, .int (6 : Int32)), (0, .ref (ad 0))]) hx hb d_M_once_183 hl (k := 0) rfl (by decide) (by decide) rfl (fun ls hl => ?_)
      refine lv_goto (tgt := 171) hx hb d_M_once_186 (by decide) ?_
      refine lv_iload_n hx hb d_M_once_171 rfl (lv_at hl 0 rfl) ?_
      refine lv_bipush (v := (8 : Int32)) hx hb d_M_once_172 (by decide) ?_
      refine lv_icmp_ge (tgt := 189) hx hb d_M_once_174 (by decide) (fun _ => ?_) (fun c0 => absurd c0 (by decide))
      refine lv_iinc (v := (7 : Int32)) (lv' := [(1, .int (7 : Int32)), (2, .int (8 : Int32)), (0, .ref (ad 0))]) hx hb d_M_once_189 hl (k := 1) rfl (by decide) (by decide) rfl (fun ls hl => ?_)
      refine lv_goto (tgt := 161) hx hb d_M_once_192 (by decide) ?_
      refine lv_iload_n hx hb d_M_once_161 rfl (lv_at hl 0 rfl) ?_
      refine lv_bipush (v := (8 : Int32)) hx hb d_M_once_162 (by decide) ?_
      refine lv_icmp_ge (tgt := 195) hx hb d_M_once_164 (by decide) (fun c0 => absurd c0 (by decide)) (fun _ => ?_)
      refine lv_iload_n hx hb d_M_once_167 rfl (lv_at hl 0 rfl) ?_
      refine lv_iconst (v := 1) hx hb d_M_once_168 (by decide) ?_
      refine lv_iadd hx hb d_M_once_169 ?_
      refine lv_topi (fun v53 e53 => ?_)
      obtain rfl : v53 = (8 : Int32) := by rw [e53]; decide
      refine lv_istore_n (lv' := [(2, .int (8 : Int32)), (1, .int (7 : Int32)), (0, .ref (ad 0))]) hx hb d_M_once_170 rfl hl (by decide) rfl (fun ls hl => ?_)
      refine lv_iload_n hx hb d_M_once_171 rfl (lv_at hl 0 rfl) ?_
      refine lv_bipush (v := (8 : Int32)) hx hb d_M_once_172 (by decide) ?_
      refine lv_icmp_ge (tgt := 189) hx hb d_M_once_174 (by decide) (fun _ => ?_) (fun c0 => absurd c0 (by decide))
      refine lv_iinc (v := (8 : Int32)) (lv' := [(1, .int (8 : Int32)), (2, .int (8 : Int32)), (0, .ref (ad 0))]) hx hb d_M_once_189 hl (k := 1) rfl (by decide) (by decide) rfl (fun ls hl => ?_)
      refine lv_goto (tgt := 161) hx hb d_M_once_192 (by decide) ?_
      refine lv_iload_n hx hb d_M_once_161 rfl (lv_at hl 0 rfl) ?_
      refine lv_bipush (v := (8 : Int32)) hx hb d_M_once_162 (by decide) ?_
      refine lv_icmp_ge (tgt := 195) hx hb d_M_once_164 (by decide) (fun _ => ?_) (fun c0 => absurd c0 (by decide))
      exact hg_vret hx hb hr hlocks hK hAe G (by have qe2 := e2.symm; have qe3 := e3.symm; have qe4 := e4.symm; have qe5 := e5.symm; have qe6 := e6.symm; have qe7 := e7.symm; have qe8 := e8.symm; have qe9 := e9.symm; have qe10 := e10.symm; have qe11 := e11.symm; have qe12 := e12.symm; have qe13 := e13.symm; have qe14 := e14.symm; have qe15 := e15.symm; have qe16 := e16.symm; have qe17 := e17.symm; have qe19 := e19.symm; have qe20 := e20.symm; have qe21 := e21.symm; have qe22 := e22.symm; have qe23 := e23.symm; have qe24 := e24.symm; have qe25 := e25.symm; have qe27 := e27.symm; have qe28 := e28.symm; have qe29 := e29.symm; have qe30 := e30.symm; have qe31 := e31.symm; have qe32 := e32.symm; have qe34 := e34.symm; have qe35 := e35.symm; have qe36 := e36.symm; have qe37 := e37.symm; have qe38 := e38.symm; have qe40 := e40.symm; have qe41 := e41.symm; have qe42 := e42.symm; have qe43 := e43.symm; have qe45 := e45.symm; have qe46 := e46.symm; have qe47 := e47.symm; have qe49 := e49.symm; have qe50 := e50.symm; have qe52 := e52.symm; subst qe2 qe3 qe4 qe5 qe6 qe7 qe8 qe9 qe10 qe11 qe12 qe13 qe14 qe15 qe16 qe17 qe19 qe20 qe21 qe22 qe23 qe24 qe25 qe27 qe28 qe29 qe30 qe31 qe32 qe34 qe35 qe36 qe37 qe38 qe40 qe41 qe42 qe43 qe45 qe46 qe47 qe49 qe50 qe52; rw [hw, f_M_once_92, if_pos c1]) d_M_once_195
    · refine lv_aload_n hx hb d_M_once_100 rfl (lv_at hl 0 rfl) ?_
      refine lv_iload_n hx hb d_M_once_101 rfl (lv_at hl 1 rfl) ?_
      obtain ⟨S54, e54⟩ : ∃ z : MS, z = f_M_pull_I S x1 := ⟨_, rfl⟩
      refine hg_cv (As := [.int x1]) (rest := []) ⟨hx, hb, hml, hown, hts⟩ (c_M_pull_I l dC dI ad cJ cI t0 t1 t2 S x1 (mOK_at hOK hinv c1).1 (mOK_at hOK hinv c1).2.1 (mOK_at hOK hinv c1).2.2 _) (gw_callV (k := 1) hts tw_600 tw_602 tp_10 tw_4 tw_603 (by decide +kernel) rfl rfl ⟨Nat.le_of_ble_eq_true rfl, Nat.le_of_ble_eq_true rfl⟩) hK G hA (hx_M hRT G hA) 3 0 rfl rfl rfl hl.1 rfl (Nat.le_of_ble_eq_true rfl) ⟨Nat.zero_le _, Nat.zero_le _⟩ d_M_once_102 (fun H locs G => ?_)
      rw [← e54] at G
      obtain ⟨v55, e55⟩ : ∃ y : Int32, y = x1 + 1 := ⟨_, rfl⟩
      refine lv_iinc (v := v55) (lv' := [(1, .int v55), (0, .ref (ad 0))]) hx hb d_M_once_105 hl (k := 1) rfl (by rw [e55]; rfl) (by decide) rfl (fun ls hl => ?_)
      refine lv_goto (tgt := 92) hx hb d_M_once_108 (by decide) ?_
      exact ih S54 v55 (by rw [e54]; exact mOK_of (kq_pull _ _) hOK) (by rw [e54, (kq_pull _ _).2.2, e55]; exact fl_up hinv c1) _ _ G ls (lv_sub hl [1, 0] rfl) (by have qe54 := e54.symm; have qe55 := e55.symm; subst qe54 qe55; rw [hw, f_M_once_92, if_neg c1])
def f_M_once_2 : Nat → MS → Int32 → MS
  | 0, S, _ => S
  | n + 1, S, x1 =>
    if (8 : Int32) ≤ x1 then
      f_M_once_92 ((m_springs S).toNatClampNeg + 1) S (0 : Int32)
    else
      let S2 : MS := u_m_fx S (vp_updL (m_fx S) x1.toNatClampNeg (f_M_subtract_JJ (f_M_multiply_JJ (f_M_toDouble_J (m_m S x1.toNatClampNeg)) (m_gx S)) (f_M_multiply_JJ (m_drag S) (m_u S x1.toNatClampNeg))))
      let S3 : MS := u_m_fy S2 (vp_updL (m_fy S2) x1.toNatClampNeg (f_M_subtract_JJ (f_M_multiply_JJ (f_M_toDouble_J (m_m S2 x1.toNatClampNeg)) (m_gy S2)) (f_M_multiply_JJ (m_drag S2) (m_v S2 x1.toNatClampNeg))))
      let v4 : Int32 := x1 + 1
      f_M_once_2 n S3 v4
set_option maxHeartbeats 2000000 in
set_option maxRecDepth 100000 in
theorem k_M_once_2 {p : Program} {l : Launch} {e : Env} {s : State} {m : MethodId} {args : Array Value} {below : List Frame} {meth : Method} {c : Code} {A : Nat → Prop} {dC : Nat → ClassId} {dI : Nat → Nat → Nat} {ad : Nat → Nat} {cJ cI : ClassId} {W0 : va_W} {sz : Nat} (C0 : pu_C p s m args meth c b_M_once 3 "MotionLabModel" none (gw y_M_once b_M_once 3 none)) {t0 t1 t2 : Nat} (hRT : RTA t0 t1 t2 A s s.heap) (hK : va_K (dC, dI) classes (tysJI cJ cI) s) (hAe : va_A W0 sz = A) (hA : ∀ q : Nat, s.heap.size ≤ q → A q) (n : Nat) : ∀ (S : MS) (x1 : Int32) (hOK : mOK S) (hinv : ∃ j : Nat, x1 = nI j ∧ j ≤ (8 : Int32).toNatClampNeg ∧ (8 : Int32).toNatClampNeg - j < n) (H : Heap) (locs : List Loc) (G : hG (dC, dI) classes A s.heap (mW ad cJ cI S) H locs) (ls : Array Slot) (hl : lv_has ls 3 [(0, .ref (ad 0)), (1, .int x1)]) {w : MS} (hw : w = f_M_once_2 n S x1), W p l e (headSpec (gw y_M_once b_M_once 3 none) ({ frames := 9, cells := 0, slots := 0, locals := 245 } : Room)).room s m args below meth c H locs 0 0 (MQ below (hQv (dC, dI) classes (tysJI cJ cI) W0 sz (mW ad cJ cI w)) args s 0 0 A) (F0 m 2 ls []) := by
  obtain ⟨hx, hb, hml, hown, hts, hr, hlocks⟩ := id C0
  induction n with
  | zero => intro S x1 hOK hinv H locs G ls hl w hw; exact (fl_zero hinv).elim
  | succ n ih =>
    intro S x1 hOK hinv H locs G ls hl w hw
    refine lv_iload_n hx hb d_M_once_2 rfl (lv_at hl 1 rfl) ?_
    refine lv_bipush (v := (8 : Int32)) hx hb d_M_once_3 (by decide) ?_
    refine lv_icmp_ge (tgt := 90) hx hb d_M_once_5 (by decide) (fun c1 => ?_) (fun c1 => ?_)
    · refine lv_iconst (v := 0) hx hb d_M_once_90 (by decide) ?_
      refine lv_istore_n (lv' := [(1, .int (0 : Int32)), (0, .ref (ad 0))]) hx hb d_M_once_91 rfl hl (by decide) rfl (fun ls hl => ?_)
      exact k_M_once_92 C0 hRT hK hAe hA ((m_springs S).toNatClampNeg + 1) S (0 : Int32) hOK fl_first _ _ G ls (lv_sub hl [1, 0] rfl) (by rw [hw, f_M_once_2, if_pos c1])
    · refine lv_aload_n hx hb d_M_once_8 rfl (lv_at hl 0 rfl) ?_
      refine va_get (D := (dC, dI)) (ci := 3) (v := .ref (ad 7)) (C := R_M) (T := F_M) (N := 21) hx hb hts (fun w h => gm (i_M w h)) hown hK G.1 0 rfl rfl 6 (by decide) (hts _ (gm tw_427)) (fun _ h9 => h9) rfl d_M_once_9 ?_
      refine lv_iload_n hx hb d_M_once_12 rfl (lv_at hl 1 rfl) ?_
      refine lv_aload_n hx hb d_M_once_13 rfl (lv_at hl 0 rfl) ?_
      refine va_get (D := (dC, dI)) (ci := 3) (v := .ref (ad 5)) (C := R_M) (T := F_M) (N := 21) hx hb hts (fun w h => gm (i_M w h)) hown hK G.1 0 rfl rfl 4 (by decide) (hts _ (gm tw_425)) (fun _ h9 => h9) rfl d_M_once_14 ?_
      refine lv_iload_n hx hb d_M_once_17 rfl (lv_at hl 1 rfl) ?_
      refine va_lald hx hb hK G.1 5 0 rfl rfl (lp_lit hinv c1) d_M_once_18 ?_
      refine pu_l (As := [.long (m_m S x1.toNatClampNeg)]) (rest := [.int x1, .ref (ad 7)]) ⟨hx, hb, hml, hown, hts⟩ (c_M_toDouble_J l _ t0 t1 t2 (m_m S x1.toNatClampNeg)) (pr_pre (hx_R hRT G)) (gw_call (k := 1) hts tw_570 tw_571 tw_4 tw_572 (by decide +kernel) rfl rfl ⟨Nat.le_of_ble_eq_true rfl, Nat.le_of_ble_eq_true rfl⟩) rfl hl.1 rfl (Nat.le_of_ble_eq_true rfl) ⟨Nat.zero_le _, Nat.zero_le _⟩ d_M_once_19 ?_
      refine lv_aload_n hx hb d_M_once_22 rfl (lv_at hl 0 rfl) ?_
      refine va_get (D := (dC, dI)) (ci := 3) (v := .long (m_gx S)) (C := R_M) (T := F_M) (N := 21) hx hb hts (fun w h => gm (i_M w h)) hown hK G.1 0 rfl rfl 8 (by decide) (hts _ (gm tw_429)) (fun _ h9 => h9) rfl d_M_once_23 ?_
      refine pu_l (As := [.long (f_M_toDouble_J (m_m S x1.toNatClampNeg)), .long (m_gx S)]) (rest := [.int x1, .ref (ad 7)]) ⟨hx, hb, hml, hown, hts⟩ (c_M_multiply_JJ l _ t0 t1 t2 (f_M_toDouble_J (m_m S x1.toNatClampNeg)) (m_gx S)) (pr_pre (hx_R hRT G)) (gw_call (k := 2) hts tw_573 tw_574 tw_4 tw_575 (by decide +kernel) rfl rfl ⟨Nat.le_of_ble_eq_true rfl, Nat.le_of_ble_eq_true rfl⟩) rfl hl.1 rfl (Nat.le_of_ble_eq_true rfl) ⟨Nat.zero_le _, Nat.zero_le _⟩ d_M_once_26 ?_
      refine lv_aload_n hx hb d_M_once_29 rfl (lv_at hl 0 rfl) ?_
      refine va_get (D := (dC, dI)) (ci := 3) (v := .long (m_drag S)) (C := R_M) (T := F_M) (N := 21) hx hb hts (fun w h => gm (i_M w h)) hown hK G.1 0 rfl rfl 10 (by decide) (hts _ (gm tw_431)) (fun _ h9 => h9) rfl d_M_once_30 ?_
      refine lv_aload_n hx hb d_M_once_33 rfl (lv_at hl 0 rfl) ?_
      refine va_get (D := (dC, dI)) (ci := 3) (v := .ref (ad 3)) (C := R_M) (T := F_M) (N := 21) hx hb hts (fun w h => gm (i_M w h)) hown hK G.1 0 rfl rfl 2 (by decide) (hts _ (gm tw_423)) (fun _ h9 => h9) rfl d_M_once_34 ?_
      refine lv_iload_n hx hb d_M_once_37 rfl (lv_at hl 1 rfl) ?_
      refine va_lald hx hb hK G.1 3 0 rfl rfl (lp_lit hinv c1) d_M_once_38 ?_
      refine pu_l (As := [.long (m_drag S), .long (m_u S x1.toNatClampNeg)]) (rest := [.long (f_M_multiply_JJ (f_M_toDouble_J (m_m S x1.toNatClampNeg)) (m_gx S)), .int x1, .ref (ad 7)]) ⟨hx, hb, hml, hown, hts⟩ (c_M_multiply_JJ l _ t0 t1 t2 (m_drag S) (m_u S x1.toNatClampNeg)) (pr_pre (hx_R hRT G)) (gw_call (k := 2) hts tw_573 tw_574 tw_4 tw_575 (by decide +kernel) rfl rfl ⟨Nat.le_of_ble_eq_true rfl, Nat.le_of_ble_eq_true rfl⟩) rfl hl.1 rfl (Nat.le_of_ble_eq_true rfl) ⟨Nat.zero_le _, Nat.zero_le _⟩ d_M_once_39 ?_
      refine pu_l (As := [.long (f_M_multiply_JJ (f_M_toDouble_J (m_m S x1.toNatClampNeg)) (m_gx S)), .long (f_M_multiply_JJ (m_drag S) (m_u S x1.toNatClampNeg))]) (rest := [.int x1, .ref (ad 7)]) ⟨hx, hb, hml, hown, hts⟩ (c_M_subtract_JJ l _ t0 t1 t2 (f_M_multiply_JJ (f_M_toDouble_J (m_m S x1.toNatClampNeg)) (m_gx S)) (f_M_multiply_JJ (m_drag S) (m_u S x1.toNatClampNeg))) (pr_pre (hx_R hRT G)) (gw_call (k := 2) hts tw_588 tw_589 tw_4 tw_590 (by decide +kernel) rfl rfl ⟨Nat.le_of_ble_eq_true rfl, Nat.le_of_ble_eq_true rfl⟩) rfl hl.1 rfl (Nat.le_of_ble_eq_true rfl) ⟨Nat.zero_le _, Nat.zero_le _⟩ d_M_once_42 ?_
      obtain ⟨S2, e2⟩ : ∃ z : MS, z = u_m_fx S (vp_updL (m_fx S) x1.toNatClampNeg (f_M_subtract_JJ (f_M_multiply_JJ (f_M_toDouble_J (m_m S x1.toNatClampNeg)) (m_gx S)) (f_M_multiply_JJ (m_drag S) (m_u S x1.toNatClampNeg)))) := ⟨_, rfl⟩
      refine hg_last hx hb hK G 7 0 rfl rfl (lp_lit hinv c1) d_M_once_45 (mW ad cJ cI S2) (by rw [e2]; rfl) (fun H locs G => ?_)
      refine lv_aload_n hx hb d_M_once_46 rfl (lv_at hl 0 rfl) ?_
      refine va_get (D := (dC, dI)) (ci := 3) (v := .ref (ad 8)) (C := R_M) (T := F_M) (N := 21) hx hb hts (fun w h => gm (i_M w h)) hown hK G.1 0 rfl rfl 7 (by decide) (hts _ (gm tw_428)) (fun _ h9 => h9) rfl d_M_once_47 ?_
      refine lv_iload_n hx hb d_M_once_50 rfl (lv_at hl 1 rfl) ?_
      refine lv_aload_n hx hb d_M_once_51 rfl (lv_at hl 0 rfl) ?_
      refine va_get (D := (dC, dI)) (ci := 3) (v := .ref (ad 5)) (C := R_M) (T := F_M) (N := 21) hx hb hts (fun w h => gm (i_M w h)) hown hK G.1 0 rfl rfl 4 (by decide) (hts _ (gm tw_425)) (fun _ h9 => h9) rfl d_M_once_52 ?_
      refine lv_iload_n hx hb d_M_once_55 rfl (lv_at hl 1 rfl) ?_
      refine va_lald hx hb hK G.1 5 0 rfl rfl (lp_lit hinv c1) d_M_once_56 ?_
      refine pu_l (As := [.long (m_m S2 x1.toNatClampNeg)]) (rest := [.int x1, .ref (ad 8)]) ⟨hx, hb, hml, hown, hts⟩ (c_M_toDouble_J l _ t0 t1 t2 (m_m S2 x1.toNatClampNeg)) (pr_pre (hx_R hRT G)) (gw_call (k := 1) hts tw_570 tw_571 tw_4 tw_572 (by decide +kernel) rfl rfl ⟨Nat.le_of_ble_eq_true rfl, Nat.le_of_ble_eq_true rfl⟩) rfl hl.1 rfl (Nat.le_of_ble_eq_true rfl) ⟨Nat.zero_le _, Nat.zero_le _⟩ d_M_once_57 ?_
      refine lv_aload_n hx hb d_M_once_60 rfl (lv_at hl 0 rfl) ?_
      refine va_get (D := (dC, dI)) (ci := 3) (v := .long (m_gy S2)) (C := R_M) (T := F_M) (N := 21) hx hb hts (fun w h => gm (i_M w h)) hown hK G.1 0 rfl rfl 9 (by decide) (hts _ (gm tw_430)) (fun _ h9 => h9) rfl d_M_once_61 ?_
      refine pu_l (As := [.long (f_M_toDouble_J (m_m S2 x1.toNatClampNeg)), .long (m_gy S2)]) (rest := [.int x1, .ref (ad 8)]) ⟨hx, hb, hml, hown, hts⟩ (c_M_multiply_JJ l _ t0 t1 t2 (f_M_toDouble_J (m_m S2 x1.toNatClampNeg)) (m_gy S2)) (pr_pre (hx_R hRT G)) (gw_call (k := 2) hts tw_573 tw_574 tw_4 tw_575 (by decide +kernel) rfl rfl ⟨Nat.le_of_ble_eq_true rfl, Nat.le_of_ble_eq_true rfl⟩) rfl hl.1 rfl (Nat.le_of_ble_eq_true rfl) ⟨Nat.zero_le _, Nat.zero_le _⟩ d_M_once_64 ?_
      refine lv_aload_n hx hb d_M_once_67 rfl (lv_at hl 0 rfl) ?_
      refine va_get (D := (dC, dI)) (ci := 3) (v := .long (m_drag S2)) (C := R_M) (T := F_M) (N := 21) hx hb hts (fun w h => gm (i_M w h)) hown hK G.1 0 rfl rfl 10 (by decide) (hts _ (gm tw_431)) (fun _ h9 => h9) rfl d_M_once_68 ?_
      refine lv_aload_n hx hb d_M_once_71 rfl (lv_at hl 0 rfl) ?_
      refine va_get (D := (dC, dI)) (ci := 3) (v := .ref (ad 4)) (C := R_M) (T := F_M) (N := 21) hx hb hts (fun w h => gm (i_M w h)) hown hK G.1 0 rfl rfl 3 (by decide) (hts _ (gm tw_424)) (fun _ h9 => h9) rfl d_M_once_72 ?_
      refine lv_iload_n hx hb d_M_once_75 rfl (lv_at hl 1 rfl) ?_
      refine va_lald hx hb hK G.1 4 0 rfl rfl (lp_lit hinv c1) d_M_once_76 ?_
      refine pu_l (As := [.long (m_drag S2), .long (m_v S2 x1.toNatClampNeg)]) (rest := [.long (f_M_multiply_JJ (f_M_toDouble_J (m_m S2 x1.toNatClampNeg)) (m_gy S2)), .int x1, .ref (ad 8)]) ⟨hx, hb, hml, hown, hts⟩ (c_M_multiply_JJ l _ t0 t1 t2 (m_drag S2) (m_v S2 x1.toNatClampNeg)) (pr_pre (hx_R hRT G)) (gw_call (k := 2) hts tw_573 tw_574 tw_4 tw_575 (by decide +kernel) rfl rfl ⟨Nat.le_of_ble_eq_true rfl, Nat.le_of_ble_eq_true rfl⟩) rfl hl.1 rfl (Nat.le_of_ble_eq_true rfl) ⟨Nat.zero_le _, Nat.zero_le _⟩ d_M_once_77 ?_
      refine pu_l (As := [.long (f_M_multiply_JJ (f_M_toDouble_J (m_m S2 x1.toNatClampNeg)) (m_gy S2)), .long (f_M_multiply_JJ (m_drag S2) (m_v S2 x1.toNatClampNeg))]) (rest := [.int x1, .ref (ad 8)]) ⟨hx, hb, hml, hown, hts⟩ (c_M_subtract_JJ l _ t0 t1 t2 (f_M_multiply_JJ (f_M_toDouble_J (m_m S2 x1.toNatClampNeg)) (m_gy S2)) (f_M_multiply_JJ (m_drag S2) (m_v S2 x1.toNatClampNeg))) (pr_pre (hx_R hRT G)) (gw_call (k := 2) hts tw_588 tw_589 tw_4 tw_590 (by decide +kernel) rfl rfl ⟨Nat.le_of_ble_eq_true rfl, Nat.le_of_ble_eq_true rfl⟩) rfl hl.1 rfl (Nat.le_of_ble_eq_true rfl) ⟨Nat.zero_le _, Nat.zero_le _⟩ d_M_once_80 ?_
      obtain ⟨S3, e3⟩ : ∃ z : MS, z = u_m_fy S2 (vp_updL (m_fy S2) x1.toNatClampNeg (f_M_subtract_JJ (f_M_multiply_JJ (f_M_toDouble_J (m_m S2 x1.toNatClampNeg)) (m_gy S2)) (f_M_multiply_JJ (m_drag S2) (m_v S2 x1.toNatClampNeg)))) := ⟨_, rfl⟩
      refine hg_last hx hb hK G 8 0 rfl rfl (lp_lit hinv c1) d_M_once_83 (mW ad cJ cI S3) (by rw [e3]; rfl) (fun H locs G => ?_)
      obtain ⟨v4, e4⟩ : ∃ y : Int32, y = x1 + 1 := ⟨_, rfl⟩
      refine lv_iinc (v := v4) (lv' := [(1, .int v4), (0, .ref (ad 0))]) hx hb d_M_once_84 hl (k := 1) rfl (by rw [e4]; rfl) (by decide) rfl (fun ls hl => ?_)
      refine lv_goto (tgt := 2) hx hb d_M_once_87 (by decide) ?_
      exact ih S3 v4 (by have qe2 := e2.symm; have qe3 := e3.symm; have qe4 := e4.symm; subst qe2 qe3 qe4; exact hOK) (by rw [e4]; exact fl_up hinv c1) _ _ G ls (lv_sub hl [1, 0] rfl) (by have qe2 := e2.symm; have qe3 := e3.symm; have qe4 := e4.symm; subst qe2 qe3 qe4; rw [hw, f_M_once_2, if_neg c1])
def f_M_once (S : MS) : MS :=
  f_M_once_2 ((8 : Int32).toNatClampNeg + 1) S (0 : Int32)
set_option maxHeartbeats 2000000 in
set_option maxRecDepth 100000 in
theorem c_M_once (l : Launch) (dC : Nat → ClassId) (dI : Nat → Nat → Nat) (ad : Nat → Nat) (cJ cI : ClassId) (t0 t1 t2 : Nat) (S : MS)  (hOK : mOK S) (sz : Nat) : hMv l y_M_once (gw y_M_once b_M_once 3 none) { frames := 9, cells := 0, slots := 0, locals := 245 } [.ref (ad 0)] (dC, dI) classes (tysJI cJ cI) (hE_M t0 t1 t2 (mW ad cJ cI S) sz) (mW ad cJ cI S) sz (mW ad cJ cI (f_M_once S)) := by
  refine Met.ofW (cc := b_M_once) (maxL := 3) (ret := none) (by decide) rfl ?_
  intro p e s m args below meth c s₁ B hml hv
  obtain ⟨rfl, hsz, hP, hK, hD0, hRT⟩ := hv
  have hx := B.exec
  have hb := B.bytes
  have hr := B.returns
  have hts := atoms_spec (ws := (gw y_M_once b_M_once 3 none)) B.pre
  have hown : s.vm.findClass "MotionLabModel" = some m.cls := findClass_of_methodNamed B.named
  have hlocks := B.notSynchronized
  have C0 : pu_C p s m _ meth c b_M_once 3 "MotionLabModel" none (gw y_M_once b_M_once 3 none) := ⟨hx, hb, hml, hown, hts, hr, hlocks⟩
  subst hsz
  have hD := hD0.self (sz := s.heap.size)
  have hRT : RTA t0 t1 t2 (va_A (mW ad cJ cI S) s.heap.size) s s.heap := hRT
  generalize hAe : va_A (mW ad cJ cI S) s.heap.size = A at hD hRT
  have hA : ∀ q : Nat, s.heap.size ≤ q → A q := fun q h => by rw [← hAe]; exact Or.inr h
  have G : hG (dC, dI) classes A s.heap (mW ad cJ cI S) s.heap [] := ⟨hP, hD, va_S.rf⟩
  have hl := lv_entry ([.ref (ad 0)]) (n := 3) (Nat.le_of_ble_eq_true rfl)
  rw [lg_entry_eq]
  generalize (lg_sl ([.ref (ad 0)]) ++ List.replicate (3 - (lg_sl ([.ref (ad 0)])).length) Slot.unset).toArray = ls at hl ⊢
  have hl : lv_has ls 3 [(0, .ref (ad 0))] := hl
  refine lv_iconst (v := 0) hx hb d_M_once_0 (by decide) ?_
  refine lv_istore_n (lv' := [(1, .int (0 : Int32)), (0, .ref (ad 0))]) hx hb d_M_once_1 rfl hl (by decide) rfl (fun ls hl => ?_)
  exact k_M_once_2 C0 hRT hK hAe hA ((8 : Int32).toNatClampNeg + 1) S (0 : Int32) hOK fl_first _ _ G ls (lv_sub hl [1, 0] rfl) (by exact rfl)
theorem kq_onceL (n : Nat) : ∀ (S : MS) (x : Int32), m_left (f_M_once_92 n S x) = m_left S ∧ m_right (f_M_once_92 n S x) = m_right S ∧ m_springs (f_M_once_92 n S x) = m_springs S := by
  induction n with
  | zero => intro S x; exact ⟨rfl, rfl, rfl⟩
  | succ n ih =>
    intro S x
    rw [f_M_once_92]
    by_cases c : (m_springs S) ≤ x
    · rw [if_pos c]
      refine ⟨?_, ?_, ?_⟩
      · simp only [fun S x y => (kq_hit S x y).1, fun S x => (kq_go0 S x).1, fun S x => (kq_go1 S x).1]
      · simp only [fun S x y => (kq_hit S x y).2.1, fun S x => (kq_go0 S x).2.1, fun S x => (kq_go1 S x).2.1]
      · simp only [fun S x y => (kq_hit S x y).2.2, fun S x => (kq_go0 S x).2.2, fun S x => (kq_go1 S x).2.2]
    · rw [if_neg c]
      dsimp only
      rw [(ih _ _).1, (ih _ _).2.1, (ih _ _).2.2]
      exact kq_pull S x
theorem kq_onceF (n : Nat) : ∀ (S : MS) (x : Int32), m_left (f_M_once_2 n S x) = m_left S ∧ m_right (f_M_once_2 n S x) = m_right S ∧ m_springs (f_M_once_2 n S x) = m_springs S := by
  induction n with
  | zero => intro S x; exact ⟨rfl, rfl, rfl⟩
  | succ n ih =>
    intro S x
    rw [f_M_once_2]
    by_cases c : (8 : Int32) ≤ x
    · rw [if_pos c]; exact kq_onceL _ _ _
    · rw [if_neg c]
      dsimp only
      rw [(ih _ _).1, (ih _ _).2.1, (ih _ _).2.2]
      exact ⟨rfl, rfl, rfl⟩
theorem ok_once {S : MS} (h : mOK S) : mOK (f_M_once S) := by
  unfold f_M_once
  exact mOK_of (kq_onceF _ _ _) h
