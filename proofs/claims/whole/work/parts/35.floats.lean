/-! OUR OWN ROWS: product, quotient, remainder of floats by way of doubles; half and two -/
theorem enc_of {p L I V : Nat} (h : rnd p L V < I) : enc p L I V = rnd p L V := Nat.min_eq_right (Nat.le_of_lt h)
theorem mulV_val {p L a b : Nat} (hL : 1500 ≤ L) : mulV p L a b * 2 ^ 3000 = val p L a * val p L b := by
  have h1 := vexp_ge p L a
  have h2 := vexp_ge p L b
  unfold mulV val
  rw [Nat.mul_assoc, ← Nat.pow_add, Nat.mul_mul_mul_comm, ← Nat.pow_add]
  have e : vexp p L a + vexp p L b - 3000 + 3000 = vexp p L a + vexp p L b := by omega
  rw [e]
theorem mulV_cvt {a b : Nat} (ha : a < I32) (hb : b < I32) : mulV 53 1926 (cvt a) (cvt b) = mulV 24 2851 a b := by
  have h1 := mulV_val (p := 53) (L := 1926) (a := cvt a) (b := cvt b) (by decide)
  have h2 := mulV_val (p := 24) (L := 2851) (a := a) (b := b) (by decide)
  rw [cvt_val ha, cvt_val hb, ← h2] at h1
  exact Nat.eq_of_mul_eq_mul_right (q_pos 3000) h1
theorem fl_mul2 {a b : Nat} : rnd 24 2851 (val 53 1926 (rnd 53 1926 (mulV 24 2851 a b))) = rnd 24 2851 (mulV 24 2851 a b) := by
  have h1 := vexp_ge 24 2851 a
  have h2 := vexp_ge 24 2851 b
  have h3 := vsig_lt (p := 24) (b := a) (by decide)
  have h4 := vsig_lt (p := 24) (b := b) (by decide)
  unfold mulV
  refine fl_exact ?_ (by omega)
  have : vsig 24 a * vsig 24 b < 2 ^ 24 * 2 ^ 24 := Nat.mul_lt_mul'' h3 h4
  omega
theorem mul_fin {a b : Nat} (ha : a < I32) (hb : b < I32) : mulV 24 2851 a b < 2 ^ 3256 := by
  have h2 := mulV_val (p := 24) (L := 2851) (a := a) (b := b) (by decide)
  have h3 := Nat.mul_lt_mul'' (val_f_lt ha) (val_f_lt hb)
  rw [← h2] at h3
  have e : 2 ^ 3128 * 2 ^ 3128 = 2 ^ 3256 * 2 ^ 3000 := by rw [← Nat.pow_add, ← Nat.pow_add]
  rw [e] at h3
  exact Nat.lt_of_mul_lt_mul_right h3
theorem tD_sort {a : Nat} (h : ¬ I32 < a % W32) : tD a % W64 ≤ I64 ∧ (tD a % W64 = I64 ↔ a % W32 = I32) ∧ tD a / W64 = a / W32 ∧ (tD a % W64 = 0 ↔ a % W32 = 0) ∧ tD a % W64 = cvt (a % W32) := by
  have i1 : I64 = 9218868437227405312 := rfl
  have i2 : I32 = 2139095040 := rfl
  rcases Nat.lt_or_ge (a % W32) I32 with h | h
  · obtain ⟨q1, q2⟩ := tD_fin h
    have := cvt_lt h
    refine ⟨by omega, by omega, q1, ⟨fun c => cvt_pos h (by omega), fun c => by rw [q2, c, cvt_zero]⟩, q2⟩
  · have e : a % W32 = I32 := by omega
    obtain ⟨q1, q2⟩ := tD_inf (a := a) e
    exact ⟨by omega, by omega, q1, by omega, by rw [q2, e, cvt_I]⟩
theorem sg_tD {a b : Nat} (ha : ¬ I32 < a % W32) (hb : ¬ I32 < b % W32) : ∃ s, sgF W64 (tD a) (tD b) = s * W64 ∧ sgF W32 a b = s * W32 := by
  refine ⟨(a / W32 + b / W32) % 2, ?_, rfl⟩
  unfold sgF; rw [(tD_sort ha).2.2.1, (tD_sort hb).2.2.1]
theorem tD_nan2 {a b : Nat} (hn : I32 < a % W32 ∨ I32 < b % W32) : I64 < tD a % W64 ∨ I64 < tD b % W64 := by
  rcases hn with h | h
  · left; rw [tD_nan h]; decide
  · right; rw [tD_nan h]; decide
theorem flt_mul {a b : Nat} : toF (mulF 53 1926 I64 N64 W64 (tD a) (tD b)) = tD (mulF 24 2851 I32 N32 W32 a b) := by
  unfold mulF
  by_cases hn : I32 < a % W32 ∨ I32 < b % W32
  · rw [if_pos hn, tD_N, if_pos (tD_nan2 hn), toF_N]
  rw [if_neg hn]
  have hA := tD_sort (a := a) (by omega)
  have hB := tD_sort (a := b) (by omega)
  obtain ⟨s, e1, e2⟩ := sg_tD (a := a) (b := b) (by omega) (by omega)
  rw [if_neg (by omega), e1, e2]
  by_cases hi : a % W32 = I32 ∨ b % W32 = I32
  · rw [if_pos hi, if_pos (by omega)]
    by_cases hz : a % W32 = 0 ∨ b % W32 = 0
    · rw [if_pos hz, if_pos (by omega), toF_N, tD_N]
    · rw [if_neg hz, if_neg (by omega), toF_I, tD_I]
  · rw [if_neg hi, if_neg (by omega)]
    have fa : a % W32 < I32 := by omega
    have fb : b % W32 < I32 := by omega
    rw [hA.2.2.2.2, hB.2.2.2.2, mulV_cvt fa fb, toF_of (rnd_fin (mul_fin fa fb) (by decide)) fl_mul2, tD_of]
-- quotient
theorem nrm_rng {p c : Nat} (hp : 0 < p) (h : c < 2 ^ p) (h0 : c ≠ 0) : 2 ^ (p - 1) ≤ nrm p c ∧ nrm p c < 2 ^ p := by
  have h1 := (Nat.log2_lt h0).mpr h
  have h2 := q_loglo h0
  have h3 := q_loghi c
  unfold nrm
  constructor
  · have : 2 ^ (p - 1) = 2 ^ c.log2 * 2 ^ (p - 1 - c.log2) := by rw [← Nat.pow_add]; congr 1; omega
    rw [this]; exact Nat.mul_le_mul_right _ h2
  · have : 2 ^ p = 2 ^ (c.log2 + 1) * 2 ^ (p - 1 - c.log2) := by rw [← Nat.pow_add]; congr 1; omega
    rw [this]; exact Nat.mul_lt_mul_of_pos_right h3 (q_pos _)
theorem nrm_val {p c k : Nat} (hk : p - 1 ≤ k) : nrm p c * 2 ^ (k - (p - 1 - c.log2)) = c * 2 ^ k := by
  unfold nrm; rw [Nat.mul_assoc, ← Nat.pow_add]; congr 2; omega
theorem nrm_uni {x e x' e' : Nat} (h1 : 2 ^ 52 ≤ x) (h2 : x < 2 ^ 53) (h1' : 2 ^ 23 ≤ x') (h2' : x' < 2 ^ 24) (h : x * 2 ^ e = x' * 2 ^ e') : e' = e + 29 ∧ x = x' * 2 ^ 29 := by
  have l1 : (x * 2 ^ e).log2 = 52 + e := q_log (by rw [Nat.pow_add]; exact Nat.mul_le_mul_right _ h1) (by
    have : 52 + e + 1 = 53 + e := by omega
    rw [this, Nat.pow_add]; exact Nat.mul_lt_mul_of_pos_right h2 (q_pos e))
  have l2 : (x' * 2 ^ e').log2 = 23 + e' := q_log (by rw [Nat.pow_add]; exact Nat.mul_le_mul_right _ h1') (by
    have : 23 + e' + 1 = 24 + e' := by omega
    rw [this, Nat.pow_add]; exact Nat.mul_lt_mul_of_pos_right h2' (q_pos e'))
  have e1 : e' = e + 29 := by rw [h] at l1; omega
  refine ⟨e1, ?_⟩
  rw [e1, Nat.add_comm e 29, Nat.pow_add, ← Nat.mul_assoc] at h
  exact Nat.eq_of_mul_eq_mul_right (q_pos e) h
theorem quo_scale {x y k : Nat} : quoV (x * 2 ^ 29) (y * 2 ^ 29) k = quoV x y k := by
  unfold quoV
  have e : x * 2 ^ 29 * 2 ^ 60 = x * 2 ^ 60 * 2 ^ 29 := Nat.mul_right_comm _ _ _
  rw [e, Nat.mul_div_mul_right _ _ (by decide), Nat.mul_mod_mul_right]
  by_cases h : x * 2 ^ 60 % y = 0
  · rw [if_pos h, if_pos (by rw [h, Nat.zero_mul])]
  · rw [if_neg h, if_neg (by omega)]
theorem quo_lt {x y k P : Nat} (hP : 0 < P) (hx1 : P ≤ x) (hx2 : x < 2 * P) (hy1 : P ≤ y) (hy2 : y < 2 * P) (hk : 0 < k) : quoV x y k < 2 ^ (k + 61) := by
  obtain ⟨r1, r2⟩ := quo_rng hP hx1 hx2 hy1 hy2
  have hk1 : 2 ^ k = 2 * 2 ^ (k - 1) := by rw [← q_pw1]; congr 1; omega
  have b2 : quoV x y k < (x * 2 ^ 60 / y + 1) * 2 ^ k := by
    unfold quoV; split
    · exact Nat.mul_lt_mul_of_pos_right (by omega) (q_pos k)
    · rw [hk1, Nat.mul_left_comm, ← Nat.mul_assoc]; exact Nat.mul_lt_mul_of_pos_right (by omega) (q_pos _)
  rw [Nat.add_comm, Nat.pow_add]
  exact Nat.lt_of_lt_of_le b2 (Nat.mul_le_mul_right _ r2)
theorem vexp_f {m : Nat} (h : m < I32) : vexp 24 2851 m ≤ 3104 := by
  have : m / 2 ^ (24 - 1) < 255 := Nat.div_lt_of_lt_mul (by omega)
  unfold vexp; omega
theorem vsig_0 {p L b : Nat} (hp : 0 < p) (h : vsig p b = 0) : b = 0 := by
  refine val_eq_zero (p := p) (L := L) hp ?_
  unfold val; rw [h, Nat.zero_mul]
theorem fq_parts {a : Nat} (ha : a < I32) (h0 : a ≠ 0) : ∃ x e, 2 ^ 23 ≤ x ∧ x < 2 ^ 24 ∧ 2828 ≤ e ∧ e ≤ 3104 ∧ nrm 24 (vsig 24 a) = x ∧ vexp 24 2851 a = e + (24 - 1 - (vsig 24 a).log2) ∧ nrm 53 (vsig 53 (cvt a)) = x * 2 ^ 29 ∧ vexp 53 1926 (cvt a) = e - 29 + (53 - 1 - (vsig 53 (cvt a)).log2) := by
  have z1 : vsig 24 a ≠ 0 := fun c => h0 (vsig_0 (L := 2851) (by decide) c)
  have z2 : vsig 53 (cvt a) ≠ 0 := fun c => h0 (cvt_pos ha (vsig_0 (L := 1926) (by decide) c))
  have s1 := vsig_lt (p := 24) (b := a) (by decide)
  have s2 := vsig_lt (p := 53) (b := cvt a) (by decide)
  obtain ⟨n1, n2⟩ := nrm_rng (p := 24) (by decide) s1 z1
  obtain ⟨m1, m2⟩ := nrm_rng (p := 53) (by decide) s2 z2
  have k1 := vexp_ge 24 2851 a
  have k2 := vexp_ge 53 1926 (cvt a)
  have k3 := vexp_f ha
  have l1 := (Nat.log2_lt z1).mpr s1
  have l2 := (Nat.log2_lt z2).mpr s2
  have v1 := nrm_val (p := 24) (c := vsig 24 a) (k := vexp 24 2851 a) (by omega)
  have v2 := nrm_val (p := 53) (c := vsig 53 (cvt a)) (k := vexp 53 1926 (cvt a)) (by omega)
  have v3 := cvt_val ha
  unfold val at v3
  rw [← v1, ← v2] at v3
  obtain ⟨u1, u2⟩ := nrm_uni m1 m2 n1 n2 v3
  exact ⟨nrm 24 (vsig 24 a), vexp 24 2851 a - (24 - 1 - (vsig 24 a).log2), n1, n2, by omega, by omega, rfl, by omega, u2, by omega⟩
theorem flt_div {a b : Nat} : toF (divF 53 1926 I64 N64 W64 (tD a) (tD b)) = tD (divF 24 2851 I32 N32 W32 a b) := by
  unfold divF
  by_cases hn : I32 < a % W32 ∨ I32 < b % W32
  · rw [if_pos hn, tD_N, if_pos (tD_nan2 hn), toF_N]
  rw [if_neg hn]
  have hA := tD_sort (a := a) (by omega)
  have hB := tD_sort (a := b) (by omega)
  obtain ⟨s, e1, e2⟩ := sg_tD (a := a) (b := b) (by omega) (by omega)
  rw [if_neg (by omega), e1, e2]
  by_cases hi : a % W32 = I32
  · rw [if_pos hi, if_pos (by omega)]
    by_cases hj : b % W32 = I32
    · rw [if_pos hj, if_pos (by omega), toF_N, tD_N]
    · rw [if_neg hj, if_neg (by omega), toF_I, tD_I]
  rw [if_neg hi, if_neg (by omega)]
  by_cases hj : b % W32 = I32
  · rw [if_pos hj, if_pos (by omega), toF_Z, tD_Z]
  rw [if_neg hj, if_neg (by omega)]
  by_cases hz : b % W32 = 0
  · rw [if_pos hz, if_pos (by omega)]
    by_cases hy : a % W32 = 0
    · rw [if_pos hy, if_pos (by omega), toF_N, tD_N]
    · rw [if_neg hy, if_neg (by omega), toF_I, tD_I]
  rw [if_neg hz, if_neg (by omega)]
  by_cases hy : a % W32 = 0
  · rw [if_pos hy, if_pos (by omega), toF_Z, tD_Z]
  rw [if_neg hy, if_neg (by omega)]
  have fa : a % W32 < I32 := by omega
  have fb : b % W32 < I32 := by omega
  obtain ⟨x, e, x1, x2, x3, x4, x5, x6, x7, x8⟩ := fq_parts fa hy
  obtain ⟨y, f, y1, y2, y3, y4, y5, y6, y7, y8⟩ := fq_parts fb hz
  have d1 : divV 53 1926 (tD a % W64) (tD b % W64) = quoV x y (e + 2940 - f) := by
    rw [hA.2.2.2.2, hB.2.2.2.2]
    unfold divV; rw [x7, y7, quo_scale]; refine congrArg (quoV x y) ?_; omega
  have d2 : divV 24 2851 (a % W32) (b % W32) = quoV x y (e + 2940 - f) := by
    unfold divV; rw [x5, y5]; refine congrArg (quoV x y) ?_; omega
  rw [d1, d2]
  have q := quo_lt (P := 2 ^ 23) (k := e + 2940 - f) (by decide) x1 (by omega) y1 (by omega) (by omega)
  rw [toF_of (rnd_fin q (by omega)) (fl_quo x1 x2 y1 y2 (by omega)), tD_of]
theorem flt_rem {a b : Nat} : remF 53 1926 I64 N64 W64 (tD a) (tD b) = tD (remF 24 2851 I32 N32 W32 a b) := by
  unfold remF
  by_cases hn : I32 < a % W32 ∨ I32 < b % W32
  · have h1 := tD_nan2 hn
    rw [if_pos (show I64 < tD a % W64 ∨ I64 < tD b % W64 ∨ tD a % W64 = I64 ∨ tD b % W64 = 0 by omega), if_pos (show I32 < a % W32 ∨ I32 < b % W32 ∨ a % W32 = I32 ∨ b % W32 = 0 by omega), tD_N]
  have hA := tD_sort (a := a) (by omega)
  have hB := tD_sort (a := b) (by omega)
  by_cases hi : a % W32 = I32 ∨ b % W32 = 0
  · rw [if_pos (show I64 < tD a % W64 ∨ I64 < tD b % W64 ∨ tD a % W64 = I64 ∨ tD b % W64 = 0 by omega), if_pos (show I32 < a % W32 ∨ I32 < b % W32 ∨ a % W32 = I32 ∨ b % W32 = 0 by omega), tD_N]
  rw [if_neg (show ¬ (I64 < tD a % W64 ∨ I64 < tD b % W64 ∨ tD a % W64 = I64 ∨ tD b % W64 = 0) by omega), if_neg (show ¬ (I32 < a % W32 ∨ I32 < b % W32 ∨ a % W32 = I32 ∨ b % W32 = 0) by omega)]
  have fa : a % W32 < I32 := by omega
  have hlt : tD a % W64 < tD b % W64 ↔ a % W32 < b % W32 := by
    rcases Nat.lt_or_ge (b % W32) I32 with h | h
    · rw [← val_lt_iff (p := 53) (L := 1926) (by decide), hA.2.2.2.2, hB.2.2.2.2, cvt_val fa, cvt_val h, val_lt_iff (by decide)]
    · have := cvt_lt fa; omega
  by_cases hl : a % W32 < b % W32
  · rw [if_pos hl, if_pos (hlt.mpr hl)]
  rw [if_neg hl, if_neg (fun c => hl (hlt.mp c))]
  have fb : b % W32 < I32 := by omega
  rw [hA.2.2.2.2, hB.2.2.2.2, cvt_val fa, cvt_val fb]
  have hV : ∃ r, r < 2 ^ 24 ∧ val 24 2851 (a % W32) % val 24 2851 (b % W32) = r * 2 ^ vexp 24 2851 (b % W32) := by
    have hx : vexp 24 2851 (b % W32) ≤ vexp 24 2851 (a % W32) := by
      unfold vexp
      have := Nat.div_le_div_right (c := 2 ^ (24 - 1)) (show b % W32 ≤ a % W32 by omega)
      omega
    have e : vexp 24 2851 (a % W32) = (vexp 24 2851 (a % W32) - vexp 24 2851 (b % W32)) + vexp 24 2851 (b % W32) := by omega
    have hs := vsig_lt (p := 24) (b := b % W32) (by decide)
    have hp : 0 < vsig 24 (b % W32) := Nat.pos_of_ne_zero (fun c => by have := vsig_0 (L := 2851) (by decide) c; omega)
    refine ⟨vsig 24 (a % W32) * 2 ^ (vexp 24 2851 (a % W32) - vexp 24 2851 (b % W32)) % vsig 24 (b % W32), Nat.lt_trans (Nat.mod_lt _ hp) hs, ?_⟩
    unfold val; rw [e, rem_scale, Nat.add_sub_cancel]
  have hv : val 24 2851 (a % W32) % val 24 2851 (b % W32) < 2 ^ 3128 := Nat.lt_of_le_of_lt (Nat.mod_le _ _) (val_f_lt fa)
  obtain ⟨r, r1, r2⟩ := hV
  generalize val 24 2851 (a % W32) % val 24 2851 (b % W32) = V at hv r2
  have g1 : val 24 2851 (rnd 24 2851 V) = V := by rw [r2]; exact rnd_exact (by decide) r1 (vexp_ge _ _ _)
  have g2 : rnd 24 2851 V < I32 := by
    refine (val_lt_iff (p := 24) (L := 2851) (by decide)).mp ?_
    rw [g1, val_I32]; exact hv
  have g3 := rnd_fin hv (by decide)
  rw [tD_of, hA.2.2.1]
  have g4 : enc 24 2851 I32 V = rnd 24 2851 V := enc_of g2
  have g5 : enc 53 1926 I64 V = rnd 53 1926 V := enc_of g3
  rw [g4, g5]
  unfold cvt; rw [if_pos g2, g1]
-- half of a double
theorem half_two {a : Nat} (h0 : a % W64 ≠ 0) (hf : a % W64 < I64) : mulV 53 1926 (a % W64) 4602678819172646912 = divV 53 1926 (a % W64) 4611686018427387904 := by
  have z1 : vsig 53 (a % W64) ≠ 0 := fun c => h0 (vsig_0 (L := 1926) (by decide) c)
  have s1 := vsig_lt (p := 53) (b := a % W64) (by decide)
  have l1 := (Nat.log2_lt z1).mpr s1
  have k1 := vexp_ge 53 1926 (a % W64)
  have v1 : vsig 53 4602678819172646912 = 2 ^ 52 := by decide
  have v2 : vexp 53 1926 4602678819172646912 = 2947 := by decide
  have v3 : vsig 53 4611686018427387904 = 2 ^ 52 := by decide
  have v4 : vexp 53 1926 4611686018427387904 = 2949 := by decide
  have v5 : (2 ^ 52 : Nat).log2 = 52 := by decide
  unfold mulV divV
  rw [v1, v2, v3, v4]
  have n2 : nrm 53 (2 ^ 52) = 2 ^ 52 := by unfold nrm; rw [v5]
  rw [n2, v5]
  unfold quoV
  have e1 : nrm 53 (vsig 53 (a % W64)) * 2 ^ 60 = (nrm 53 (vsig 53 (a % W64)) * 2 ^ 8) * 2 ^ 52 := by rw [Nat.mul_assoc]
  rw [e1, Nat.mul_mod_left, if_pos rfl, Nat.mul_div_cancel _ (by decide)]
  unfold nrm
  rw [Nat.mul_assoc, Nat.mul_assoc, Nat.mul_assoc, ← Nat.pow_add, ← Nat.pow_add, ← Nat.pow_add]
  refine congrArg (fun z => vsig 53 (a % W64) * 2 ^ z) ?_
  omega
theorem flt_half {a : Nat} : mulF 53 1926 I64 N64 W64 a 4602678819172646912 = divF 53 1926 I64 N64 W64 a 4611686018427387904 := by
  have m1 : 4602678819172646912 % W64 = 4602678819172646912 := by decide
  have m2 : 4611686018427387904 % W64 = 4611686018427387904 := by decide
  have i1 : I64 = 9218868437227405312 := rfl
  unfold mulF divF
  rw [m1, m2]
  have d : sgF W64 a 4602678819172646912 = sgF W64 a 4611686018427387904 := rfl
  rw [d]
  by_cases hn : I64 < a % W64
  · rw [if_pos (Or.inl hn), if_pos (Or.inl hn)]
  rw [if_neg (show ¬ (I64 < a % W64 ∨ I64 < 4602678819172646912) by omega), if_neg (show ¬ (I64 < a % W64 ∨ I64 < 4611686018427387904) by omega)]
  by_cases hi : a % W64 = I64
  · rw [if_pos (show a % W64 = I64 ∨ 4602678819172646912 = I64 from Or.inl hi), if_pos hi, if_neg (show ¬ (a % W64 = 0 ∨ 4602678819172646912 = 0) by omega), if_neg (show ¬ 4611686018427387904 = I64 by omega)]
  rw [if_neg (show ¬ (a % W64 = I64 ∨ 4602678819172646912 = I64) by omega), if_neg hi, if_neg (show ¬ 4611686018427387904 = I64 by omega), if_neg (show ¬ (4611686018427387904 = 0) by omega)]
  by_cases h0 : a % W64 = 0
  · rw [if_pos h0, h0]
    have : mulV 53 1926 0 4602678819172646912 = 0 := by unfold mulV vsig; simp
    rw [this, enc_zero _ _ _ (by decide), Nat.add_zero]
  · rw [if_neg h0, half_two h0 (by omega)]
