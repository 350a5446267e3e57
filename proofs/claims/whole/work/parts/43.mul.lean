/-! OUR OWN ROWS: the class's product and quotient are the specification's -/
theorem z_clz0 : f_jL_numberOfLeadingZeros_J (lN 0) = iZ 64 := by decide +kernel
theorem t_rise {n : Nat} (h : n < 2 ^ 64) : f_I_rise_J (lN n) = iZ (if vsig 53 (n % W64) = 0 then 53 else 52 - ((vsig 53 (n % W64)).log2 : Int)) := by
  have hs := vsig_lt (p := 53) (b := n % W64) (by decide)
  unfold f_I_rise_J
  rw [t_sig h, show (11 : Int32) = iZ 11 from rfl]
  by_cases h0 : vsig 53 (n % W64) = 0
  · rw [if_pos h0, h0, z_clz0, iZ_sub]; rfl
  · rw [if_neg h0, z_clz h0 (by omega), iZ_sub]
    exact congrArg iZ (by omega)
/-- the significand with all its digits -/
theorem t_norm {c : Nat} (h : c < 2 ^ 53) : j_shl (lN c) (iZ (if c = 0 then 53 else 52 - (c.log2 : Int))) = lN (nrm 53 c) := by
  by_cases h0 : c = 0
  · rw [if_pos h0, h0]
    have e : iZ 53 = nI 53 := rfl
    have e2 : nrm 53 0 = 0 := by unfold nrm; rw [Nat.zero_mul]
    rw [e, w_shl 0 (by decide), Nat.zero_mul, e2]
  · have hl := (Nat.log2_lt h0).mpr h
    have e : iZ (52 - (c.log2 : Int)) = nI (53 - 1 - c.log2) := by rw [← iZ_n]; exact congrArg iZ (by omega)
    rw [if_neg h0, e, w_shl c (by omega)]
    rfl
theorem nrm_lt {c : Nat} (h : c < 2 ^ 53) : nrm 53 c < 2 ^ 53 := by
  by_cases h0 : c = 0
  · rw [h0]; unfold nrm; rw [Nat.zero_mul]; decide
  · exact (nrm_rng (by decide) h h0).2
def hiP (P : Nat) : Nat := if P % 2 ^ 44 = 0 then P / 2 ^ 44 else P / 2 ^ 44 + (1 - P / 2 ^ 44 % 2)
theorem high_split {sh sl th tl : Nat} (h1 : sl < 2 ^ 27) (h2 : tl < 2 ^ 27) (h3 : sh < 2 ^ 26) (h4 : th < 2 ^ 26) :
    (sh * 2 ^ 27 + sl) * (th * 2 ^ 27 + tl) / 2 ^ 44 = sh * th * 2 ^ 10 + (sh * tl + sl * th + sl * tl / 2 ^ 27) / 2 ^ 17 ∧
    (sh * 2 ^ 27 + sl) * (th * 2 ^ 27 + tl) % 2 ^ 44 = (sh * tl + sl * th + sl * tl / 2 ^ 27) % 2 ^ 17 * 2 ^ 27 + sl * tl % 2 ^ 27 := by
  have e : (sh * 2 ^ 27 + sl) * (th * 2 ^ 27 + tl) = sh * th * 2 ^ 54 + (sh * tl + sl * th) * 2 ^ 27 + sl * tl := by grind
  have hm : (sh * tl + sl * th + sl * tl / 2 ^ 27) % 2 ^ 17 < 2 ^ 17 := Nat.mod_lt _ (by decide)
  have hl : sl * tl % 2 ^ 27 < 2 ^ 27 := Nat.mod_lt _ (by decide)
  have d1 := Nat.div_add_mod (sl * tl) (2 ^ 27)
  have d2 := Nat.div_add_mod (sh * tl + sl * th + sl * tl / 2 ^ 27) (2 ^ 17)
  refine q_div ?_ ?_
  · rw [e]
    generalize sh * th = A at *
    generalize sh * tl + sl * th = B at *
    generalize sl * tl / 2 ^ 27 = C at *
    generalize sl * tl % 2 ^ 27 = D at *
    generalize (B + C) / 2 ^ 17 = F at *
    generalize (B + C) % 2 ^ 17 = G at *
    generalize sl * tl = K at *
    omega
  · omega
theorem mul_lt {a b p q : Nat} (h1 : a < 2 ^ p) (h2 : b < 2 ^ q) : a * b < 2 ^ (p + q) := by
  rw [Nat.pow_add]; exact Nat.mul_lt_mul'' h1 h2
theorem t_high {s t : Nat} (hs : s < 2 ^ 53) (ht : t < 2 ^ 53) : f_I_highProduct_JJ (lN s) (lN t) = lN (hiP (s * t)) := by
  obtain ⟨sh, sl, es, hsl⟩ := q_mk s (D := 2 ^ 27) (by decide)
  obtain ⟨th, tl, et, htl⟩ := q_mk t (D := 2 ^ 27) (by decide)
  have h3 : sh < 2 ^ 26 := by omega
  have h4 : th < 2 ^ 26 := by omega
  obtain ⟨d1, d2⟩ := high_split hsl htl h3 h4
  have u1 : j_ushr (lN s) (27 : Int32) = lN sh := by
    rw [show (27 : Int32) = nI 27 from rfl, w_ushr (by omega) (by decide), (q_div es hsl).1]
  have u2 : lN s &&& (134217727 : Int64) = lN sl := by
    have : lN s &&& (134217727 : Int64) = lN (s % 2 ^ 27) := wb_mask (k := 27) (by omega) (by decide)
    rw [this, (q_div es hsl).2]
  have u3 : j_ushr (lN t) (27 : Int32) = lN th := by
    rw [show (27 : Int32) = nI 27 from rfl, w_ushr (by omega) (by decide), (q_div et htl).1]
  have u4 : lN t &&& (134217727 : Int64) = lN tl := by
    have : lN t &&& (134217727 : Int64) = lN (t % 2 ^ 27) := wb_mask (k := 27) (by omega) (by decide)
    rw [this, (q_div et htl).2]
  have b1 : sl * tl < 2 ^ 54 := mul_lt hsl htl
  have b2 : sh * tl < 2 ^ 53 := mul_lt h3 htl
  have b3 : sl * th < 2 ^ 53 := mul_lt hsl h4
  have b4 : sh * th < 2 ^ 52 := mul_lt h3 h4
  have u5 : j_ushr (lN (sl * tl)) (27 : Int32) = lN (sl * tl / 2 ^ 27) := w_ushr (k := 27) (by omega) (by decide)
  have u6 : j_shl (lN (sh * th)) (10 : Int32) = lN (sh * th * 2 ^ 10) := w_shl (k := 10) _ (by decide)
  have bm : sh * tl + sl * th + sl * tl / 2 ^ 27 < 2 ^ 55 := by omega
  have u7 : j_ushr (lN (sh * tl + sl * th + sl * tl / 2 ^ 27)) (17 : Int32) = lN ((sh * tl + sl * th + sl * tl / 2 ^ 27) / 2 ^ 17) := w_ushr (k := 17) (by omega) (by decide)
  have u8 : lN (sh * tl + sl * th + sl * tl / 2 ^ 27) &&& (131071 : Int64) = lN ((sh * tl + sl * th + sl * tl / 2 ^ 27) % 2 ^ 17) := wb_mask (k := 17) (by omega) (by decide)
  have u9 : lN (sl * tl) &&& (134217727 : Int64) = lN (sl * tl % 2 ^ 27) := wb_mask (k := 27) (by omega) (by decide)
  have bz : ∀ x y : Nat, x < 2 ^ 17 → y < 2 ^ 27 → (lg_cmp (lN x ||| lN y) (0 : Int64) = 0 ↔ x * 2 ^ 27 + y = 0) := by
    intro x y g1 g2
    have q1 : x ||| y < 2 ^ 64 := Nat.or_lt_two_pow (by omega) (by omega)
    rw [wb_or (by omega) (by omega)]
    have q2 : lg_cmp (lN (x ||| y)) (0 : Int64) = 0 ↔ x ||| y = 0 := c_eq (b := 0) q1 (by decide)
    rw [q2, Nat.or_eq_zero_iff]
    omega
  have hm : (sh * tl + sl * th + sl * tl / 2 ^ 27) % 2 ^ 17 < 2 ^ 17 := Nat.mod_lt _ (by decide)
  have hl : sl * tl % 2 ^ 27 < 2 ^ 27 := Nat.mod_lt _ (by decide)
  have c := bz _ _ hm hl
  unfold f_I_highProduct_JJ hiP
  simp only [u1, u2, u3, u4, lN_mul, u5, lN_add, u6, u7, u8, u9]
  rw [es, et, d1, d2]
  by_cases h0 : (sh * tl + sl * th + sl * tl / 2 ^ 27) % 2 ^ 17 * 2 ^ 27 + sl * tl % 2 ^ 27 = 0
  · rw [if_pos (c.mpr h0), if_pos h0]
  · rw [if_neg (fun q => h0 (c.mp q)), if_neg h0, l_or1 (by omega)]
theorem t_sgx {a b : Nat} (ha : a < 2 ^ 64) (hb : b < 2 ^ 64) : (lN a ^^^ lN b) &&& (-9223372036854775808 : Int64) = lN (sgF W64 a b) := by
  rw [w_xor ha hb, a_sgn (Nat.xor_lt_two_pow ha hb), sg_xor ha hb]
  rfl
theorem t_prod56 {s : Nat} (hs : s < 2) : f_I_product_JJ_56 (lN (s * W64)) (0 : Int32) = lN (s * W64 + I64) := by
  unfold f_I_product_JJ_56
  rw [if_pos rfl, k_inf, or_sg hs I64_lt]
theorem t_prod51 (x : Int64) : f_I_product_JJ_51 x = lN N64 := by
  unfold f_I_product_JJ_51 f_I_product_JJ_56
  rw [if_neg (by decide), k_nan]
theorem t_prod23 {a b : Nat} (ha : a < 2 ^ 64) (hb : b < 2 ^ 64) (hn : I64 ≤ a % W64 ∨ I64 ≤ b % W64) : f_I_product_JJ_23 (lN a) (lN b) (lN (sgF W64 a b)) = lN (mulF 53 1926 I64 N64 W64 a b) := by
  have na := z_isNo ha
  have nb := z_isNo hb
  have za := z_isZero ha
  have zb := z_isZero hb
  by_cases h1 : I64 < a % W64
  · have e1 : f_I_product_JJ_23 (lN a) (lN b) (lN (sgF W64 a b)) = lN N64 := by
      unfold f_I_product_JJ_23
      rw [if_neg (fun q => na.mp q h1), t_prod51]
    have e2 : mulF 53 1926 I64 N64 W64 a b = N64 := if_pos (Or.inl h1)
    rw [e1, e2]
  by_cases h2 : I64 < b % W64
  · have e1 : f_I_product_JJ_23 (lN a) (lN b) (lN (sgF W64 a b)) = lN N64 := by
      unfold f_I_product_JJ_23
      rw [if_pos (na.mpr h1), if_neg (fun q => nb.mp q h2), t_prod51]
    have e2 : mulF 53 1926 I64 N64 W64 a b = N64 := if_pos (Or.inr h2)
    rw [e1, e2]
  have hn1 : ¬ (I64 < a % W64 ∨ I64 < b % W64) := fun c => c.elim h1 h2
  have hn2 : a % W64 = I64 ∨ b % W64 = I64 := by
    rcases hn with c | c
    · exact Or.inl (Nat.le_antisymm (Nat.not_lt.mp h1) c)
    · exact Or.inr (Nat.le_antisymm (Nat.not_lt.mp h2) c)
  have e2 : mulF 53 1926 I64 N64 W64 a b = if a % W64 = 0 ∨ b % W64 = 0 then N64 else sgF W64 a b + I64 := by
    unfold mulF; rw [if_neg hn1, if_pos hn2]
  rw [e2]
  unfold f_I_product_JJ_23
  rw [if_pos (na.mpr h1), if_pos (nb.mpr h2)]
  by_cases h3 : a % W64 = 0
  · rw [if_neg (fun q => za.mp q h3), t_prod51, if_pos (Or.inl h3)]
  rw [if_pos (za.mpr h3)]
  by_cases h4 : b % W64 = 0
  · rw [if_neg (fun q => zb.mp q h4), t_prod51, if_pos (Or.inr h4)]
  rw [if_pos (zb.mpr h4), if_neg (fun c => c.elim h3 h4)]
  have s2 : (a / W64 + b / W64) % 2 < 2 := Nat.mod_lt _ (by decide)
  unfold sgF
  generalize (a / W64 + b / W64) % 2 = s at s2
  exact t_prod56 s2
theorem t_mul {a b : Nat} (ha : a < 2 ^ 64) (hb : b < 2 ^ 64) : f_I_product_JJ (lN a) (lN b) = lN (mulF 53 1926 I64 N64 W64 a b) := by
  have fa := z_isFin ha
  have fb := z_isFin hb
  unfold f_I_product_JJ
  simp only [t_sgx ha hb]
  by_cases h1 : I64 ≤ a % W64
  · rw [if_pos (fa.mpr h1), t_prod23 ha hb (Or.inl h1)]
  rw [if_neg (fun q => h1 (fa.mp q))]
  by_cases h2 : I64 ≤ b % W64
  · rw [if_pos (fb.mpr h2), t_prod23 ha hb (Or.inr h2)]
  rw [if_neg (fun q => h2 (fb.mp q))]
  have mf : mulF 53 1926 I64 N64 W64 a b = sgF W64 a b + enc 53 1926 I64 (mulV 53 1926 (a % W64) (b % W64)) := by
    unfold mulF; rw [if_neg (by omega), if_neg (by omega)]
  have sa := vsig_lt (p := 53) (b := a % W64) (by decide)
  have sb := vsig_lt (p := 53) (b := b % W64) (by decide)
  have ka := vexp_ge 53 1926 (a % W64)
  have kb := vexp_ge 53 1926 (b % W64)
  have ka2 := vexp_f64 (Nat.not_le.mp h1)
  have kb2 := vexp_f64 (Nat.not_le.mp h2)
  rw [mf, t_rise ha, t_rise hb, t_pow ha, t_pow hb, t_sig ha, t_sig hb, t_norm sa, t_norm sb, t_high (nrm_lt sa) (nrm_lt sb)]
  have s2 : (a / W64 + b / W64) % 2 < 2 := Nat.mod_lt _ (by decide)
  have hP := mul_lt (nrm_lt sa) (nrm_lt sb)
  have hq : hiP (nrm 53 (vsig 53 (a % W64)) * nrm 53 (vsig 53 (b % W64))) ≤ 2 ^ 63 := by
    generalize nrm 53 (vsig 53 (a % W64)) * nrm 53 (vsig 53 (b % W64)) = P at hP
    have : P / 2 ^ 44 < 2 ^ 62 := Nat.div_lt_of_lt_mul (by omega)
    unfold hiP; split <;> omega
  by_cases h0 : vsig 53 (a % W64) = 0 ∨ vsig 53 (b % W64) = 0
  · -- a factor is 0
    have p0 : nrm 53 (vsig 53 (a % W64)) * nrm 53 (vsig 53 (b % W64)) = 0 := by
      rcases h0 with c | c <;> rw [c] <;> unfold nrm <;> simp
    have v0 : mulV 53 1926 (a % W64) (b % W64) = 0 := by
      unfold mulV
      rcases h0 with c | c <;> rw [c] <;> simp
    have z0 : hiP 0 = 0 := by decide
    rw [p0, z0, v0, enc_zero _ _ _ (by decide), Nat.add_zero]
    unfold f_I_nearest_JIJ
    exact if_pos ((lg_cmp_eq _ _).mpr rfl)
  · have a0 : ¬ vsig 53 (a % W64) = 0 := fun c => h0 (Or.inl c)
    have b0 : ¬ vsig 53 (b % W64) = 0 := fun c => h0 (Or.inr c)
    have la := (Nat.log2_lt a0).mpr sa
    have lb := (Nat.log2_lt b0).mpr sb
    obtain ⟨ra1, ra2⟩ := nrm_rng (p := 53) (by decide) sa a0
    obtain ⟨rb1, rb2⟩ := nrm_rng (p := 53) (by decide) sb b0
    have hlo : 2 ^ 104 ≤ nrm 53 (vsig 53 (a % W64)) * nrm 53 (vsig 53 (b % W64)) := by
      have := Nat.mul_le_mul ra1 rb1
      omega
    rw [if_neg a0, if_neg b0, iZ_sub, iZ_add, iZ_sub, show (44 : Int32) = iZ 44 from rfl, iZ_add]
    obtain ⟨K, hK⟩ : ∃ K : Nat, K = vexp 53 1926 (a % W64) + vexp 53 1926 (b % W64) - 3000 - (52 - (vsig 53 (a % W64)).log2) - (52 - (vsig 53 (b % W64)).log2) := ⟨_, rfl⟩
    have eK : (vexp 53 1926 (a % W64) : Int) - 3000 - (52 - ((vsig 53 (a % W64)).log2 : Int)) + ((vexp 53 1926 (b % W64) : Int) - 3000) - (52 - ((vsig 53 (b % W64)).log2 : Int)) + 44 = ((K + 44 : Nat) : Int) - 3000 := by omega
    rw [eK]
    have tn := t_nearest (s := (a / W64 + b / W64) % 2) s2 hq (k := K + 44) (by omega)
    have g := cs_mul (L := 1926) (P := nrm 53 (vsig 53 (a % W64)) * nrm 53 (vsig 53 (b % W64))) (k := K) (Or.inr hlo)
    have gV : nrm 53 (vsig 53 (a % W64)) * nrm 53 (vsig 53 (b % W64)) * 2 ^ K = mulV 53 1926 (a % W64) (b % W64) := by
      unfold nrm mulV
      have e1 : 2 ^ (vexp 53 1926 (a % W64) + vexp 53 1926 (b % W64) - 3000) = 2 ^ (53 - 1 - (vsig 53 (a % W64)).log2) * 2 ^ (53 - 1 - (vsig 53 (b % W64)).log2) * 2 ^ K := by
        rw [← Nat.pow_add, ← Nat.pow_add]
        exact congrArg (fun z => 2 ^ z) (by omega)
      rw [e1, Nat.mul_mul_mul_comm, Nat.mul_assoc]
    rw [gV] at g
    rw [enc_congr (V := mulV 53 1926 (a % W64) (b % W64)) g.symm]
    exact tn
