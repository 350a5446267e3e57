/-! OUR OWN ROWS: the class's quotient, difference, remainder are the specification's -/
theorem l_div {a b : Nat} (ha : a < 2 ^ 63) (hb : b < 2 ^ 63) : lN a / lN b = lN (a / b) := (Int64.ofNat_div ha hb).symm
theorem l_rem {a b : Nat} (ha : a < 2 ^ 63) (hb : b < 2 ^ 63) : lN a - lN a / lN b * lN b = lN (a % b) := by
  have h := Nat.div_add_mod a b
  have h2 : b * (a / b) ≤ a := Nat.mul_div_le a b
  rw [l_div ha hb, lN_mul, lN_sub (by rw [Nat.mul_comm]; exact h2)]
  refine congrArg lN ?_
  rw [Nat.mul_comm]; omega
theorem l_rem2 {a b : Nat} : lN a - lN (a / b) * lN b = lN (a % b) := by
  have h := Nat.div_add_mod a b
  have h2 : b * (a / b) ≤ a := Nat.mul_div_le a b
  rw [lN_mul, lN_sub (by rw [Nat.mul_comm]; exact h2)]
  refine congrArg lN ?_
  rw [Nat.mul_comm]; omega
theorem qn_step {x y j : Nat} (hy : 0 < y) : x * 2 ^ (j + 10) / y = x * 2 ^ j / y * 2 ^ 10 + x * 2 ^ j % y * 2 ^ 10 / y ∧ x * 2 ^ (j + 10) % y = x * 2 ^ j % y * 2 ^ 10 % y := by
  have h1 := Nat.div_add_mod (x * 2 ^ j) y
  have h2 := Nat.div_add_mod (x * 2 ^ j % y * 2 ^ 10) y
  refine q_div ?_ (Nat.mod_lt _ hy)
  have e : x * 2 ^ (j + 10) = (y * (x * 2 ^ j / y) + x * 2 ^ j % y) * 2 ^ 10 := by rw [h1, Nat.pow_add, Nat.mul_assoc]
  have h3 : x * 2 ^ j / y * 2 ^ 10 * y = y * (x * 2 ^ j / y) * 2 ^ 10 := by rw [Nat.mul_comm (x * 2 ^ j / y * 2 ^ 10) y, Nat.mul_assoc]
  have h4 : x * 2 ^ j % y * 2 ^ 10 / y * y = y * (x * 2 ^ j % y * 2 ^ 10 / y) := Nat.mul_comm _ _
  rw [e, Nat.add_mul, Nat.add_mul, h3, h4, Nat.add_assoc, h2]
theorem qs_A {x y j : Nat} (hy : 0 < y) (hy2 : y < 2 ^ 53) : j_shl (lN (x * 2 ^ j % y)) (10 : Int32) / lN y = lN (x * 2 ^ j % y * 2 ^ 10 / y) := by
  have h := Nat.mod_lt (x * 2 ^ j) hy
  have e : j_shl (lN (x * 2 ^ j % y)) (10 : Int32) = lN (x * 2 ^ j % y * 2 ^ 10) := w_shl (k := 10) _ (by decide)
  rw [e, l_div (by omega) (by omega)]
theorem qs_B {x y j : Nat} (hy : 0 < y) (hx : x < 2 * y) (hj : j ≤ 50) : j_shl (lN (x * 2 ^ j / y)) (10 : Int32) ||| lN (x * 2 ^ j % y * 2 ^ 10 / y) = lN (x * 2 ^ (j + 10) / y) := by
  have h := Nat.mod_lt (x * 2 ^ j) hy
  have e : j_shl (lN (x * 2 ^ j / y)) (10 : Int32) = lN (x * 2 ^ j / y * 2 ^ 10) := w_shl (k := 10) _ (by decide)
  have d1 : x * 2 ^ j % y * 2 ^ 10 / y < 2 ^ 10 := Nat.div_lt_of_lt_mul (by
    have := Nat.mul_lt_mul_of_pos_right h (show 0 < 2 ^ 10 by decide)
    omega)
  have d2 : x * 2 ^ j / y < 2 * 2 ^ j := Nat.div_lt_of_lt_mul (by
    have := Nat.mul_lt_mul_of_pos_right hx (q_pos j)
    rw [Nat.mul_comm 2 y, Nat.mul_assoc] at this
    exact this)
  have d3 : 2 ^ j ≤ 2 ^ 50 := Nat.pow_le_pow_right (by decide) hj
  rw [e, wb_or (by omega) (by omega), n_or d1, (qn_step (x := x) (j := j) hy).1]
theorem qs_C {x y j : Nat} (hy : 0 < y) : j_shl (lN (x * 2 ^ j % y)) (10 : Int32) - lN (x * 2 ^ j % y * 2 ^ 10 / y) * lN y = lN (x * 2 ^ (j + 10) % y) := by
  have e : j_shl (lN (x * 2 ^ j % y)) (10 : Int32) = lN (x * 2 ^ j % y * 2 ^ 10) := w_shl (k := 10) _ (by decide)
  rw [e, l_rem2, (qn_step (x := x) (j := j) hy).2]
theorem t_unQ32 {a b : Nat} (ha : a < 2 ^ 64) (hb : b < 2 ^ 64) : f_I_unendingQuotient_JJ_32 (lN a) (lN b) = lN (if a % W64 = I64 then sgF W64 a b + I64 else sgF W64 a b) := by
  have ia := z_isInf ha
  have s2 : (a / W64 + b / W64) % 2 < 2 := Nat.mod_lt _ (by decide)
  unfold f_I_unendingQuotient_JJ_32
  simp only [t_sgx ha hb]
  by_cases h : a % W64 = I64
  · rw [if_neg (fun q => ia.mp q h), if_pos h, k_inf]
    unfold sgF
    generalize (a / W64 + b / W64) % 2 = s at s2
    exact or_sg s2 I64_lt
  · rw [if_pos (ia.mpr h), if_neg h]
theorem t_unQ {a b : Nat} (ha : a < 2 ^ 64) (hb : b < 2 ^ 64) (hn : I64 ≤ a % W64 ∨ I64 ≤ b % W64) : f_I_unendingQuotient_JJ (lN a) (lN b) = lN (divF 53 1926 I64 N64 W64 a b) := by
  have na := z_isNo ha
  have nb := z_isNo hb
  have ia := z_isInf ha
  have ib := z_isInf hb
  by_cases h1 : I64 < a % W64
  · have e1 : f_I_unendingQuotient_JJ (lN a) (lN b) = lN N64 := by
      unfold f_I_unendingQuotient_JJ
      rw [if_neg (fun q => na.mp q h1), k_nan]
    have e2 : divF 53 1926 I64 N64 W64 a b = N64 := if_pos (Or.inl h1)
    rw [e1, e2]
  by_cases h2 : I64 < b % W64
  · have e1 : f_I_unendingQuotient_JJ (lN a) (lN b) = lN N64 := by
      unfold f_I_unendingQuotient_JJ
      rw [if_pos (na.mpr h1), if_neg (fun q => nb.mp q h2), k_nan]
    have e2 : divF 53 1926 I64 N64 W64 a b = N64 := if_pos (Or.inr h2)
    rw [e1, e2]
  have hn1 : ¬ (I64 < a % W64 ∨ I64 < b % W64) := fun c => c.elim h1 h2
  have hn2 : a % W64 = I64 ∨ b % W64 = I64 := by
    rcases hn with c | c
    · exact Or.inl (Nat.le_antisymm (Nat.not_lt.mp h1) c)
    · exact Or.inr (Nat.le_antisymm (Nat.not_lt.mp h2) c)
  unfold f_I_unendingQuotient_JJ
  rw [if_pos (na.mpr h1), if_pos (nb.mpr h2), t_unQ32 ha hb]
  unfold divF
  rw [if_neg hn1]
  by_cases h3 : a % W64 = I64
  · rw [if_neg (fun q => ia.mp q h3), if_pos h3, if_pos h3]
    by_cases h4 : b % W64 = I64
    · rw [if_neg (fun q => ib.mp q h4), if_pos h4, k_nan]
    · rw [if_pos (ib.mpr h4), if_neg h4]
  · have h4 : b % W64 = I64 := hn2.elim (fun c => absurd c h3) id
    rw [if_pos (ia.mpr h3), if_neg h3, if_neg h3, if_pos h4]
theorem t_near0 (x : Int64) (p : Int32) : f_I_nearest_JIJ x p (lN 0) = x := by
  unfold f_I_nearest_JIJ
  exact if_pos ((lg_cmp_eq _ _).mpr rfl)
/-- the digits of the quotient, and one more that stands for the rest -/
def quoD (x y : Nat) : Nat := if x * 2 ^ 60 % y = 0 then x * 2 ^ 60 / y else x * 2 ^ 60 / y + (1 - x * 2 ^ 60 / y % 2)
theorem quoD_rnd {x y k P : Nat} (hP : 0 < P) (hx1 : P ≤ x) (hx2 : x < 2 * P) (hy1 : P ≤ y) (hy2 : y < 2 * P) (hk : 0 < k) : rnd 53 1926 (quoD x y * 2 ^ k) = rnd 53 1926 (quoV x y k) := by
  obtain ⟨r1, r2⟩ := quo_rng hP hx1 hx2 hy1 hy2
  unfold quoD quoV
  generalize x * 2 ^ 60 / y = Q at r1 r2
  by_cases h : x * 2 ^ 60 % y = 0
  · rw [if_pos h, if_pos h]
  · rw [if_neg h, if_neg h]
    have e : (2 * Q + 1) * 2 ^ (k - 1) = Q * 2 ^ k + 2 ^ (k - 1) := by
      rw [q_half hk, Nat.add_mul, Nat.one_mul, Nat.mul_assoc, Nat.mul_left_comm]
    rw [e, rnd_or1 (by omega) (q_pos _) (by rw [q_half hk]; have := q_pos (k - 1); omega)]
theorem t_divF {a b : Nat} (ha : a < 2 ^ 64) (hb : b < 2 ^ 64) : f_I_quotient_JJ (lN a) (lN b) = lN (divF 53 1926 I64 N64 W64 a b) := by
  have fa := z_isFin ha
  have fb := z_isFin hb
  have za := z_isZero ha
  by_cases h1 : I64 ≤ a % W64
  · unfold f_I_quotient_JJ; rw [if_pos (fa.mpr h1), t_unQ ha hb (Or.inl h1)]
  by_cases h2 : I64 ≤ b % W64
  · unfold f_I_quotient_JJ; rw [if_neg (fun q => h1 (fa.mp q)), if_pos (fb.mpr h2), t_unQ ha hb (Or.inr h2)]
  have s2 : (a / W64 + b / W64) % 2 < 2 := Nat.mod_lt _ (by decide)
  have sa := vsig_lt (p := 53) (b := a % W64) (by decide)
  have sb := vsig_lt (p := 53) (b := b % W64) (by decide)
  have ka := vexp_ge 53 1926 (a % W64)
  have kb := vexp_ge 53 1926 (b % W64)
  have ka2 := vexp_f64 (Nat.not_le.mp h1)
  have kb2 := vexp_f64 (Nat.not_le.mp h2)
  have d0 : divF 53 1926 I64 N64 W64 a b = if b % W64 = 0 then (if a % W64 = 0 then N64 else sgF W64 a b + I64) else if a % W64 = 0 then sgF W64 a b else sgF W64 a b + enc 53 1926 I64 (divV 53 1926 (a % W64) (b % W64)) := by
    unfold divF; rw [if_neg (by omega), if_neg (by omega), if_neg (by omega)]
  have bz : b % W64 = 0 ↔ nrm 53 (vsig 53 (b % W64)) = 0 := by
    constructor
    · intro q; rw [q]; decide
    · intro q
      by_cases g : vsig 53 (b % W64) = 0
      · exact vsig_0 (L := 1926) (by decide) g
      · have := (nrm_rng (p := 53) (by decide) sb g).1; omega
  have nb := nrm_lt sb
  have na := nrm_lt sa
  rw [d0]
  unfold f_I_quotient_JJ
  rw [if_neg (fun q => h1 (fa.mp q)), if_neg (fun q => h2 (fb.mp q)), t_rise ha, t_rise hb, t_pow ha, t_pow hb, t_sig ha, t_sig hb]
  simp only [t_sgx ha hb, t_norm sa, t_norm sb]
  have c : lg_cmp (lN (nrm 53 (vsig 53 (b % W64)))) (0 : Int64) = 0 ↔ nrm 53 (vsig 53 (b % W64)) = 0 := c_eq (b := 0) (by omega) (by decide)
  by_cases h3 : b % W64 = 0
  · rw [if_pos (c.mpr (bz.mp h3)), if_pos h3]
    by_cases h4 : a % W64 = 0
    · rw [if_neg (fun q => za.mp q h4), if_pos h4, k_nan]
    · rw [if_pos (za.mpr h4), if_neg h4, k_inf]
      unfold sgF
      generalize (a / W64 + b / W64) % 2 = s at s2
      exact or_sg s2 I64_lt
  rw [if_neg (fun q => h3 (bz.mpr (c.mp q))), if_neg h3]
  have b0 : ¬ vsig 53 (b % W64) = 0 := fun g => h3 (vsig_0 (L := 1926) (by decide) g)
  obtain ⟨rb1, rb2⟩ := nrm_rng (p := 53) (by decide) sb b0
  -- the rounds
  obtain ⟨x, hx⟩ : ∃ x, x = nrm 53 (vsig 53 (a % W64)) := ⟨_, rfl⟩
  obtain ⟨y, hy⟩ : ∃ y, y = nrm 53 (vsig 53 (b % W64)) := ⟨_, rfl⟩
  rw [← hx, ← hy]
  rw [← hx] at na
  rw [← hy] at nb rb1 rb2
  have y0 : 0 < y := by omega
  have xy : x < 2 * y := by omega
  have i0 : lN x / lN y = lN (x * 2 ^ 0 / y) := by rw [Nat.pow_zero, Nat.mul_one, l_div (by omega) (by omega)]
  have i1 : lN x - lN (x * 2 ^ 0 / y) * lN y = lN (x * 2 ^ 0 % y) := by rw [Nat.pow_zero, Nat.mul_one, l_rem2]
  simp only [i0, i1, qs_A y0 nb, qs_C y0, qs_B (j := 0) y0 xy (by decide), qs_B (j := 0 + 10) y0 xy (by decide), qs_B (j := 0 + 10 + 10) y0 xy (by decide), qs_B (j := 0 + 10 + 10 + 10) y0 xy (by decide), qs_B (j := 0 + 10 + 10 + 10 + 10) y0 xy (by decide), qs_B (j := 0 + 10 + 10 + 10 + 10 + 10) y0 xy (by decide)]
  have e60 : 0 + 10 + 10 + 10 + 10 + 10 + 10 = 60 := rfl
  rw [e60]
  have hr := Nat.mod_lt (x * 2 ^ 60) y0
  have hq : x * 2 ^ 60 / y < 2 ^ 61 := Nat.div_lt_of_lt_mul (by omega)
  have cr : lg_cmp (lN (x * 2 ^ 60 % y)) (0 : Int64) = 0 ↔ x * 2 ^ 60 % y = 0 := c_eq (b := 0) (by omega) (by decide)
  have join : ∀ (g : Int64) (p : Int32), (if lg_cmp (lN (x * 2 ^ 60 % y)) (0 : Int64) = 0 then f_I_nearest_JIJ g p (lN (x * 2 ^ 60 / y)) else f_I_nearest_JIJ g p (lN (x * 2 ^ 60 / y) ||| (1 : Int64))) = f_I_nearest_JIJ g p (lN (quoD x y)) := by
    intro g p
    unfold quoD
    by_cases h : x * 2 ^ 60 % y = 0
    · rw [if_pos (cr.mpr h), if_pos h]
    · rw [if_neg (fun q => h (cr.mp q)), if_neg h, l_or1 (by omega)]
  rw [join]
  by_cases h4 : a % W64 = 0
  · have x0 : x = 0 := by rw [hx, h4]; decide
    have q0 : quoD x y = 0 := by unfold quoD; rw [x0, Nat.zero_mul, Nat.zero_mod, if_pos rfl, Nat.zero_div]
    rw [if_pos h4, q0, t_near0]
  have a0 : ¬ vsig 53 (a % W64) = 0 := fun g => h4 (vsig_0 (L := 1926) (by decide) g)
  obtain ⟨ra1, ra2⟩ := nrm_rng (p := 53) (by decide) sa a0
  rw [← hx] at ra1 ra2
  have la := (Nat.log2_lt a0).mpr sa
  have lb := (Nat.log2_lt b0).mpr sb
  rw [if_neg h4, if_neg a0, if_neg b0, iZ_sub, iZ_sub, iZ_add, show (60 : Int32) = iZ 60 from rfl, iZ_sub]
  obtain ⟨K, hK⟩ : ∃ K : Nat, K = vexp 53 1926 (a % W64) + 2940 + (53 - 1 - (vsig 53 (b % W64)).log2) - vexp 53 1926 (b % W64) - (53 - 1 - (vsig 53 (a % W64)).log2) := ⟨_, rfl⟩
  have eK : (vexp 53 1926 (a % W64) : Int) - 3000 - (52 - ((vsig 53 (a % W64)).log2 : Int)) - ((vexp 53 1926 (b % W64) : Int) - 3000) + (52 - ((vsig 53 (b % W64)).log2 : Int)) - 60 = (K : Int) - 3000 := by omega
  have hD : quoD x y ≤ 2 ^ 63 := by
    unfold quoD
    generalize x * 2 ^ 60 / y = Q at hq
    split <;> omega
  have dv : divV 53 1926 (a % W64) (b % W64) = quoV x y K := by
    unfold divV; rw [hx, hy, hK]
  rw [eK, dv, ← enc_congr (quoD_rnd (P := 2 ^ 52) (by decide) ra1 (by omega) rb1 (by omega) (by omega))]
  unfold sgF
  generalize (a / W64 + b / W64) % 2 = s at s2
  exact t_nearest s2 hD (by omega)
