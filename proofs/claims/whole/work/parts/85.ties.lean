/-! OUR OWN ROWS: class and reference reckon alike, on any longs -/
def tn (a : Nat) : Nat := if a < W64 then a + W64 else a - W64
theorem n_x63 {x : Nat} (h : x < 2 ^ 63) : x ^^^ 2 ^ 63 = 2 ^ 63 + x := by
  apply Nat.eq_of_testBit_eq
  intro i
  rw [Nat.testBit_xor, Nat.testBit_two_pow]
  rcases Nat.lt_trichotomy i 63 with c | c | c
  · rw [Nat.testBit_two_pow_add_gt c]
    simp [show ¬ 63 = i by omega]
  · subst c
    rw [Nat.testBit_two_pow_add_eq]
    simp
  · have a1 : 2 ^ 64 ≤ 2 ^ i := Nat.pow_le_pow_right (by decide) c
    rw [Nat.testBit_lt_two_pow (show 2 ^ 63 + x < 2 ^ i by omega), Nat.testBit_lt_two_pow (show x < 2 ^ i by omega)]
    simp [show ¬ 63 = i by omega]
theorem n_tn {a : Nat} (h : a < 2 ^ 64) : a ^^^ 2 ^ 63 = tn a := by
  unfold tn
  have w : W64 = 9223372036854775808 := rfl
  by_cases c : a < W64
  · rw [if_pos c, n_x63 (by omega), Nat.add_comm]
  · rw [if_neg c]
    obtain ⟨m, hm⟩ : ∃ m, a = 2 ^ 63 + m := ⟨a - 2 ^ 63, by omega⟩
    have h2 : m < 2 ^ 63 := by omega
    have e : a - W64 = m := by omega
    rw [e, hm, ← n_x63 h2, Nat.xor_assoc, Nat.xor_self, Nat.xor_zero]
theorem tn_lt {a : Nat} (h : a < 2 ^ 64) : tn a < 2 ^ 64 := by
  unfold tn
  have w : W64 = 9223372036854775808 := rfl
  split <;> omega
theorem tn_mod {a : Nat} (h : a < 2 ^ 64) : tn a % W64 = a % W64 := by
  unfold tn
  have s := sg_lt h
  by_cases c : a < W64
  · rw [if_pos c, Nat.add_mod_right]
  · rw [if_neg c, ← Nat.mod_eq_sub_mod (Nat.not_lt.mp c)]
theorem x_tn {a : Nat} (h : a < 2 ^ 64) : lN a ^^^ (-9223372036854775808 : Int64) = lN (tn a) := by
  rw [k_sgn, w_xor h (by decide)]
  exact congrArg lN (n_tn h)
theorem t_diff {a b : Nat} (ha : a < 2 ^ 64) (hb : b < 2 ^ 64) : f_I_difference_JJ (lN a) (lN b) = lN (addF 53 1926 I64 N64 W64 a (tn b)) := by
  unfold f_I_difference_JJ
  rw [x_tn hb, t_sum ha (tn_lt hb)]
theorem m_add0 {a b : Nat} (ha : a < 2 ^ 64) (hb : b < 2 ^ 64) : f_M_add_JJ (lN a) (lN b) = lN (addF 53 1926 I64 N64 W64 a b) := m_add (f := 0) (by decide) ha hb
theorem m_mul0 {a b : Nat} (ha : a < 2 ^ 64) (hb : b < 2 ^ 64) : f_M_multiply_JJ (lN a) (lN b) = lN (mulF 53 1926 I64 N64 W64 a b) := m_mul (f := 0) (by decide) ha hb
theorem m_div0 {a b : Nat} (ha : a < 2 ^ 64) (hb : b < 2 ^ 64) : f_M_divide_JJ (lN a) (lN b) = lN (divF 53 1926 I64 N64 W64 a b) := m_div (f := 0) (by decide) ha hb
theorem m_turned0 {a : Nat} (ha : a < 2 ^ 64) : f_M_turned_JI (lN a) (nI 0) = lN (tn a) := by
  unfold f_M_turned_JI
  rw [m_wide (f := 0) (by decide), l_pw (by decide), w_xor ha (by decide)]
  exact congrArg lN (n_tn ha)
theorem m_sub0 {a b : Nat} (ha : a < 2 ^ 64) (hb : b < 2 ^ 64) : f_M_subtract_JJ (lN a) (lN b) = lN (addF 53 1926 I64 N64 W64 a (tn b)) := by
  have nb := y_isNo (f := 0) (a := b) (by decide) hb
  have e0 : f_M_subtract_JJ (lN a) (lN b) = if f_M_isNone_JI (lN b) (nI 0) = 0 then f_M_add_JJI (lN a) (f_M_turned_JI (lN b) (nI 0)) (nI 0) else f_M_none_I (nI 0) := rfl
  rw [e0]
  by_cases g : I64 < b % W64
  · have e2 : addF 53 1926 I64 N64 W64 a (tn b) = N64 := if_pos (Or.inr (by rw [tn_mod hb]; exact g))
    rw [if_neg (fun q => nb.mp q g), e2, m_none (f := 0) (by decide)]
    rfl
  · rw [if_pos (nb.mpr g), m_turned0 hb]
    exact m_add0 ha (tn_lt hb)
theorem m_told0 {a : Nat} (ha : a < 2 ^ 64) : f_M_told_J (lN a) = lN (told a) := by
  have na := y_isNo (f := 0) (a := a) (by decide) ha
  have e0 : f_M_told_J (lN a) = if f_M_isNone_JI (lN a) (nI 0) = 0 then lN a else lN N64 := rfl
  rw [e0]
  unfold told
  by_cases g : I64 < a % W64
  · rw [if_neg (fun q => na.mp q g), if_pos g]
  · rw [if_pos (na.mpr g), if_neg g]
-- the same functions
theorem Q_told (x : Int64) : f_I_told_J x = f_M_told_J x := by
  obtain ⟨a, ha, rfl⟩ := l_of x
  rw [t_told ha, m_told0 ha]
theorem Q_sum (x y : Int64) : f_I_sum_JJ x y = f_M_add_JJ x y := by
  obtain ⟨a, ha, rfl⟩ := l_of x
  obtain ⟨b, hb, rfl⟩ := l_of y
  rw [t_sum ha hb, m_add0 ha hb]
theorem Q_diff (x y : Int64) : f_I_difference_JJ x y = f_M_subtract_JJ x y := by
  obtain ⟨a, ha, rfl⟩ := l_of x
  obtain ⟨b, hb, rfl⟩ := l_of y
  rw [t_diff ha hb, m_sub0 ha hb]
theorem Q_mul (x y : Int64) : f_I_product_JJ x y = f_M_multiply_JJ x y := by
  obtain ⟨a, ha, rfl⟩ := l_of x
  obtain ⟨b, hb, rfl⟩ := l_of y
  rw [t_mul ha hb, m_mul0 ha hb]
theorem Q_div (x y : Int64) : f_I_quotient_JJ x y = f_M_divide_JJ x y := by
  obtain ⟨a, ha, rfl⟩ := l_of x
  obtain ⟨b, hb, rfl⟩ := l_of y
  rw [t_divF ha hb, m_div0 ha hb]
theorem Q_products (a b c d : Int64) : f_I_products_JJJJ a b c d = f_M_add_JJ (f_M_multiply_JJ a b) (f_M_multiply_JJ c d) := by
  unfold f_I_products_JJJJ
  rw [Q_sum, Q_mul, Q_mul]
-- all that is no number is one
theorem told_lt {a : Nat} (h : a < 2 ^ 64) : told a < 2 ^ 64 := by
  unfold told; split
  · decide
  · exact h
theorem sW_lt {s m : Nat} (hs : s < 2) (hm : m ≤ I64) : s * W64 + m < 2 ^ 64 := by
  have h1 : s * W64 ≤ 1 * W64 := Nat.mul_le_mul_right _ (by omega)
  have w : W64 = 9223372036854775808 := rfl
  have i1 : I64 = 9218868437227405312 := rfl
  omega
theorem addF_lt {a b : Nat} (ha : a < 2 ^ 64) (hb : b < 2 ^ 64) : addF 53 1926 I64 N64 W64 a b < 2 ^ 64 := by
  have s1 := sg_lt ha
  have s2 := sg_lt hb
  unfold addF; split
  · decide
  · split
    · split
      · decide
      · split
        · exact ha
        · exact hb
    · split
      · exact sW_lt s1 (enc_le _ _ _ _)
      · split
        · decide
        · split
          · exact sW_lt s1 (enc_le _ _ _ _)
          · exact sW_lt s2 (enc_le _ _ _ _)
theorem mulF_lt {a b : Nat} : mulF 53 1926 I64 N64 W64 a b < 2 ^ 64 := by
  have s2 : (a / W64 + b / W64) % 2 < 2 := Nat.mod_lt _ (by decide)
  unfold mulF sgF; split
  · decide
  · split
    · split
      · decide
      · exact sW_lt s2 (Nat.le_refl _)
    · exact sW_lt s2 (enc_le _ _ _ _)
theorem divF_lt {a b : Nat} : divF 53 1926 I64 N64 W64 a b < 2 ^ 64 := by
  have s2 : (a / W64 + b / W64) % 2 < 2 := Nat.mod_lt _ (by decide)
  have s3 : (a / W64 + b / W64) % 2 * W64 < 2 ^ 64 := by
    have := sW_lt (m := 0) s2 (Nat.zero_le _)
    rwa [Nat.add_zero] at this
  unfold divF sgF; split
  · decide
  · split
    · split
      · decide
      · exact sW_lt s2 (Nat.le_refl _)
    · split
      · exact s3
      · split
        · split
          · decide
          · exact sW_lt s2 (Nat.le_refl _)
        · split
          · exact s3
          · exact sW_lt s2 (enc_le _ _ _ _)
theorem T_add (x y : Int64) : f_M_add_JJ (f_M_told_J x) (f_M_told_J y) = f_M_add_JJ x y ∧ f_M_told_J (f_M_add_JJ x y) = f_M_add_JJ x y := by
  obtain ⟨a, ha, rfl⟩ := l_of x
  obtain ⟨b, hb, rfl⟩ := l_of y
  constructor
  · rw [m_told0 ha, m_told0 hb, m_add0 (told_lt ha) (told_lt hb), m_add0 ha hb, addF_td]
  · rw [m_add0 ha hb, m_told0 (addF_lt ha hb), addF_to]
theorem tn_told (a b : Nat) (hb : b < 2 ^ 64) : addF 53 1926 I64 N64 W64 (told a) (tn (told b)) = addF 53 1926 I64 N64 W64 a (tn b) := by
  rcases told_sort b with ⟨g, f⟩ | ⟨g, f⟩
  · have e1 : addF 53 1926 I64 N64 W64 (told a) (tn (told b)) = N64 := if_pos (Or.inr (by rw [f, tn_mod (by decide)]; decide))
    have e2 : addF 53 1926 I64 N64 W64 a (tn b) = N64 := if_pos (Or.inr (by rw [tn_mod hb]; exact g))
    rw [e1, e2]
  · rw [f]
    have e := addF_td a (tn b)
    have e2 : told (tn b) = tn b := told_num (by rw [tn_mod hb]; exact g)
    rw [e2] at e
    exact e
theorem T_sub (x y : Int64) : f_M_subtract_JJ (f_M_told_J x) (f_M_told_J y) = f_M_subtract_JJ x y ∧ f_M_told_J (f_M_subtract_JJ x y) = f_M_subtract_JJ x y := by
  obtain ⟨a, ha, rfl⟩ := l_of x
  obtain ⟨b, hb, rfl⟩ := l_of y
  constructor
  · rw [m_told0 ha, m_told0 hb, m_sub0 (told_lt ha) (told_lt hb), m_sub0 ha hb, tn_told a b hb]
  · rw [m_sub0 ha hb, m_told0 (addF_lt ha (tn_lt hb)), addF_to]
theorem T_mul (x y : Int64) : f_M_multiply_JJ (f_M_told_J x) (f_M_told_J y) = f_M_multiply_JJ x y ∧ f_M_told_J (f_M_multiply_JJ x y) = f_M_multiply_JJ x y := by
  obtain ⟨a, ha, rfl⟩ := l_of x
  obtain ⟨b, hb, rfl⟩ := l_of y
  constructor
  · rw [m_told0 ha, m_told0 hb, m_mul0 (told_lt ha) (told_lt hb), m_mul0 ha hb, mulF_td]
  · rw [m_mul0 ha hb, m_told0 mulF_lt, mulF_to]
theorem T_div (x y : Int64) : f_M_divide_JJ (f_M_told_J x) (f_M_told_J y) = f_M_divide_JJ x y ∧ f_M_told_J (f_M_divide_JJ x y) = f_M_divide_JJ x y := by
  obtain ⟨a, ha, rfl⟩ := l_of x
  obtain ⟨b, hb, rfl⟩ := l_of y
  constructor
  · rw [m_told0 ha, m_told0 hb, m_div0 (told_lt ha) (told_lt hb), m_div0 ha hb, divF_td]
  · rw [m_div0 ha hb, m_told0 divF_lt, divF_to]
-- to the nearest float
theorem val_FE : val 53 1926 5183643171103440896 = 2 ^ 3128 := by
  have h1 : 5183643171103440896 / 2 ^ (53 - 1) = 1151 := by decide
  have h2 : vsig 53 5183643171103440896 = 2 ^ 52 := by decide
  have h3 : vexp 53 1926 5183643171103440896 = 3076 := by unfold vexp; rw [h1]
  unfold val; rw [h2, h3, ← Nat.pow_add]
theorem fe_lt {b : Nat} (h : b < I32) : enc 53 1926 I64 (val 24 2851 b) = cvt b ∧ cvt b < 5183643171103440896 := by
  have e : cvt b = rnd 53 1926 (val 24 2851 b) := by unfold cvt; rw [if_pos h]
  have h1 := rnd_fin (val_f_lt h) (by decide)
  refine ⟨by rw [enc_of h1, e], ?_⟩
  refine (val_lt_iff (p := 53) (L := 1926) (by decide)).mp ?_
  rw [cvt_val h, val_FE]
  exact val_f_lt h
theorem fe_ge {b : Nat} (h : I32 ≤ b) : 5183643171103440896 ≤ enc 53 1926 I64 (val 24 2851 b) := by
  have h1 : val 24 2851 I32 ≤ val 24 2851 b := val_le (by decide) h
  have h2 : rnd 53 1926 (val 53 1926 5183643171103440896) = 5183643171103440896 := rnd_val (by decide)
  rw [val_FE] at h2
  rw [val_I32] at h1
  have h3 := rnd_mono (p := 53) (L := 1926) (by decide) h1
  rw [h2] at h3
  unfold enc
  exact Nat.le_min.mpr ⟨by decide, h3⟩
theorem a_magS {s m : Nat} (hs : s < 2) (hm : m < 2 ^ 63) : lN (s * W64 + m) &&& (9223372036854775807 : Int64) = lN m := by
  have h1 : s * W64 ≤ 1 * W64 := Nat.mul_le_mul_right _ (by omega)
  have w : W64 = 9223372036854775808 := rfl
  rw [a_mag (by omega), (q_split (s := s) (m := m) (w := W64) (by omega)).2]
theorem t_nf {s m k : Nat} (hs : s < 2) (h0 : m ≠ 0) (hm : m ≤ 2 ^ 63) (hk : k < 500000) (hc : m < 2 ^ 24 → 2851 ≤ k → k ≤ 3100) :
    f_I_nearestFloat_JIJ (lN (s * W64)) (iZ ((k : Int) - 3000)) (lN m) = lN (s * W64 + cvt (enc 24 2851 I32 (m * 2 ^ k))) := by
  have hl : m.log2 < 64 := (Nat.log2_lt h0).mpr (by omega)
  obtain ⟨d, hd⟩ : ∃ d : Int, d = max ((m.log2 : Int) + 1 - (24 : Nat)) (((2851 : Nat) : Int) - k) := ⟨_, rfl⟩
  have e1 : f_jM_max_II ((40 : Int32) - f_jL_numberOfLeadingZeros_J (lN m)) ((-149 : Int32) - iZ ((k : Int) - 3000)) = iZ d := by
    rw [z_clz h0 (by omega), show (40 : Int32) = iZ 40 from rfl, show (-149 : Int32) = iZ (-149) from rfl, iZ_sub, iZ_sub, t_max (by omega) (by omega) (by omega) (by omega), hd]
    exact congrArg iZ (by omega)
  obtain ⟨r1, r2⟩ := t_round (p := 24) (L := 2851) h0 hm (by decide) (by decide) (by omega) (by decide) hd
  have cd : 0 < iZ d ↔ 0 < d := by rw [show (0 : Int32) = iZ 0 from rfl]; exact iZ_lt (by omega) (by omega) (by omega) (by omega)
  have vr : rD (m * 2 ^ k) (2 ^ rsh 24 2851 (m * 2 ^ k)) * 2 ^ rsh 24 2851 (m * 2 ^ k) = val 24 2851 (rnd 24 2851 (m * 2 ^ k)) := (val_rnd (by decide)).symm
  have rl := rD_rsh_le (p := 24) (L := 2851) (V := m * 2 ^ k)
  have hsh : rsh 24 2851 (m * 2 ^ k) < 1000000 := by omega
  unfold f_I_nearestFloat_JIJ
  simp only [e1]
  by_cases g : 0 < d
  · have e2 : iZ ((k : Int) - 3000) + iZ d = iZ ((rsh 24 2851 (m * 2 ^ k) : Int) - 3000) := by rw [iZ_add, r2]; exact congrArg iZ (by omega)
    rw [if_pos (cd.mpr g), r1, e2, t_nearest hs (Nat.le_trans rl (by decide)) hsh, vr]
    have el := enc_le 53 1926 I64 (val 24 2851 (rnd 24 2851 (m * 2 ^ k)))
    rw [a_magS hs (Nat.lt_of_le_of_lt el I64_lt)]
    have cl : lg_cmp (lN (enc 53 1926 I64 (val 24 2851 (rnd 24 2851 (m * 2 ^ k))))) (5183643171103440896 : Int64) < 0 ↔ enc 53 1926 I64 (val 24 2851 (rnd 24 2851 (m * 2 ^ k))) < 5183643171103440896 := c_lt (b := 5183643171103440896) (Nat.lt_of_le_of_lt el I64_lt) (by decide)
    by_cases q : rnd 24 2851 (m * 2 ^ k) < I32
    · obtain ⟨f1, f2⟩ := fe_lt q
      have f3 : enc 24 2851 I32 (m * 2 ^ k) = rnd 24 2851 (m * 2 ^ k) := enc_of q
      rw [if_pos (cl.mpr (by rw [f1]; exact f2)), f1, f3]
    · have f1 := fe_ge (Nat.not_lt.mp q)
      have f3 : enc 24 2851 I32 (m * 2 ^ k) = I32 := Nat.min_eq_left (Nat.not_lt.mp q)
      rw [if_neg (fun w => Nat.not_lt.mpr f1 (cl.mp w)), f3, cvt_I, k_inf]
      exact or_sg hs I64_lt
  · have g1 : m < 2 ^ 24 := (Nat.log2_lt h0).mp (by omega)
    have g2 : 2851 ≤ k := by omega
    have g3 := hc g1 g2
    rw [if_neg (fun w => g (cd.mp w)), t_nearest hs hm (by omega)]
    have v1 : val 24 2851 (rnd 24 2851 (m * 2 ^ k)) = m * 2 ^ k := rnd_exact (by decide) g1 g2
    have v2 : m * 2 ^ k < 2 ^ 3128 := by
      have a1 : m * 2 ^ k < 2 ^ 24 * 2 ^ k := Nat.mul_lt_mul_of_pos_right g1 (q_pos k)
      have a2 : 2 ^ 24 * 2 ^ k ≤ 2 ^ 3128 := by rw [← Nat.pow_add]; exact Nat.pow_le_pow_right (by decide) (by omega)
      exact Nat.lt_of_lt_of_le a1 a2
    have v3 : rnd 24 2851 (m * 2 ^ k) < I32 := by
      refine (val_lt_iff (p := 24) (L := 2851) (by decide)).mp ?_
      rw [v1, val_I32]; exact v2
    have v4 : enc 24 2851 I32 (m * 2 ^ k) = rnd 24 2851 (m * 2 ^ k) := enc_of v3
    have v5 := (fe_lt v3).1
    rw [v1] at v5
    rw [v5, v4]
theorem t_nf0 {s k : Nat} (hs : s < 2) (hk : k < 500000) : f_I_nearestFloat_JIJ (lN (s * W64)) (iZ ((k : Int) - 3000)) (lN 0) = lN (s * W64) := by
  obtain ⟨d, hd⟩ : ∃ d : Int, d = max (-24) ((2851 : Int) - k) := ⟨_, rfl⟩
  have e1 : f_jM_max_II ((40 : Int32) - f_jL_numberOfLeadingZeros_J (lN 0)) ((-149 : Int32) - iZ ((k : Int) - 3000)) = iZ d := by
    rw [z_clz0, show (40 : Int32) = iZ 40 from rfl, show (-149 : Int32) = iZ (-149) from rfl, iZ_sub, iZ_sub, t_max (by omega) (by omega) (by omega) (by omega), hd]
    exact congrArg iZ (by omega)
  have cd : 0 < iZ d ↔ 0 < d := by rw [show (0 : Int32) = iZ 0 from rfl]; exact iZ_lt (by omega) (by omega) (by omega) (by omega)
  unfold f_I_nearestFloat_JIJ
  simp only [e1]
  by_cases g : 0 < d
  · have r : f_I_rounded_JI (lN 0) (iZ d) = lN 0 := by
      obtain ⟨e, he⟩ : ∃ e : Nat, d = e := ⟨d.toNat, by omega⟩
      subst he
      rw [iZ_n]
      rcases Nat.lt_or_ge 63 e with q | q
      · exact t_rfar (by omega) (by omega)
      · rw [t_rmid (by decide) (by omega) q, rD_zero (q_pos e)]
    have am := a_magS (s := s) (m := 0) hs (by decide)
    rw [Nat.add_zero] at am
    have cf : lg_cmp (lN 0) (5183643171103440896 : Int64) < 0 := (c_lt (a := 0) (b := 5183643171103440896) (by decide) (by decide)).mpr (by decide)
    rw [if_pos (cd.mpr g), r, t_near0, am, if_pos cf]
  · rw [if_neg (fun w => g (cd.mp w)), t_near0]
theorem t_toFloat {a : Nat} (ha : a < 2 ^ 64) : f_I_toFloat_J (lN a) = lN (toF a) := by
  have fa := z_isFin ha
  have s1 := sg_lt ha
  unfold f_I_toFloat_J
  by_cases h1 : I64 ≤ a % W64
  · rw [if_pos (fa.mpr h1), t_told ha]
    unfold told toF
    by_cases h2 : I64 < a % W64
    · rw [if_pos h2, if_pos h2]
    · rw [if_neg h2, if_neg h2, if_pos (Nat.le_antisymm (Nat.not_lt.mp h2) h1)]
  · rw [if_neg (fun q => h1 (fa.mp q)), a_sgn ha, t_pow ha, t_sig ha]
    have h2 : a % W64 < I64 := Nat.not_le.mp h1
    have hv := vexp_f64 h2
    have hs := vsig_lt (p := 53) (b := a % W64) (by decide)
    have ef : toF a = a / W64 * W64 + cvt (enc 24 2851 I32 (val 53 1926 (a % W64))) := by
      unfold toF; rw [if_neg (fun q => h1 (Nat.le_of_lt q)), if_neg (fun q => h1 (Nat.le_of_eq q.symm))]
    rw [ef]
    by_cases h0 : vsig 53 (a % W64) = 0
    · have z := vsig_0 (L := 1926) (by decide) h0
      rw [h0, t_nf0 s1 (by omega), z, val_zero, enc_zero _ _ _ (by decide), cvt_zero, Nat.add_zero]
    · have hn := vsig_norm (p := 53) (L := 1926) (b := a % W64)
      refine t_nf s1 h0 (by omega) (by omega) (fun q1 q2 => ?_)
      rcases hn with c | c
      · omega
      · have : 2 ^ 52 ≤ vsig 53 (a % W64) := c
        omega
theorem Q_toFloat (x : Int64) : f_I_toFloat_J x = f_M_toDouble_J (f_M_toFloat_J x) := by
  obtain ⟨a, ha, rfl⟩ := l_of x
  rw [t_toFloat ha, m_toFloat ha, m_toDouble (tF_lt ha), toF_tD]
theorem T_toFloat (x : Int64) : f_M_toFloat_J (f_M_told_J x) = f_M_toFloat_J x := by
  obtain ⟨a, ha, rfl⟩ := l_of x
  rw [m_told0 ha, m_toFloat (told_lt ha), m_toFloat ha]
  refine congrArg lN ?_
  rcases told_sort a with ⟨h, e⟩ | ⟨h, e⟩
  · rw [e]
    have e1 : tF N64 = N32 := if_pos (by decide)
    have e2 : tF a = N32 := if_pos h
    rw [e1, e2]
  · rw [e]
-- floats: the class reckons with their doubles
theorem sg32 {a : Nat} (h : a < 2 ^ 32) : a / W32 < 2 := Nat.div_lt_of_lt_mul (by have : W32 = 2147483648 := rfl; omega)
theorem tD_lt {a : Nat} (h : a < 2 ^ 32) : tD a < 2 ^ 64 := by
  unfold tD; split
  · decide
  · next g => exact sW_lt (sg32 h) (cvt_le (Nat.not_lt.mp g))
theorem sW32 {s m : Nat} (hs : s < 2) (hm : m ≤ I32) : s * W32 + m < 2 ^ 32 := by
  have h1 : s * W32 ≤ 1 * W32 := Nat.mul_le_mul_right _ (by omega)
  have w : W32 = 2147483648 := rfl
  have i1 : I32 = 2139095040 := rfl
  omega
theorem addF32_lt {a b : Nat} (ha : a < 2 ^ 32) (hb : b < 2 ^ 32) : addF 24 2851 I32 N32 W32 a b < 2 ^ 32 := by
  have s1 := sg32 ha
  have s2 := sg32 hb
  unfold addF; split
  · decide
  · split
    · split
      · decide
      · split
        · exact ha
        · exact hb
    · split
      · exact sW32 s1 (enc_le _ _ _ _)
      · split
        · decide
        · split
          · exact sW32 s1 (enc_le _ _ _ _)
          · exact sW32 s2 (enc_le _ _ _ _)
theorem mulF32_lt {a b : Nat} : mulF 24 2851 I32 N32 W32 a b < 2 ^ 32 := by
  have s2 : (a / W32 + b / W32) % 2 < 2 := Nat.mod_lt _ (by decide)
  unfold mulF sgF; split
  · decide
  · split
    · split
      · decide
      · exact sW32 s2 (Nat.le_refl _)
    · exact sW32 s2 (enc_le _ _ _ _)
theorem divF32_lt {a b : Nat} : divF 24 2851 I32 N32 W32 a b < 2 ^ 32 := by
  have s2 : (a / W32 + b / W32) % 2 < 2 := Nat.mod_lt _ (by decide)
  have s3 : (a / W32 + b / W32) % 2 * W32 < 2 ^ 32 := by
    have := sW32 (m := 0) s2 (Nat.zero_le _)
    rwa [Nat.add_zero] at this
  unfold divF sgF; split
  · decide
  · split
    · split
      · decide
      · exact sW32 s2 (Nat.le_refl _)
    · split
      · exact s3
      · split
        · split
          · decide
          · exact sW32 s2 (Nat.le_refl _)
        · split
          · exact s3
          · exact sW32 s2 (enc_le _ _ _ _)
theorem m_add1 {a b : Nat} (ha : a < 2 ^ 32) (hb : b < 2 ^ 32) : f_M_add_JJI (lN a) (lN b) (1 : Int32) = lN (addF 24 2851 I32 N32 W32 a b) := m_add (f := 1) (by decide) ha hb
theorem m_mul1 {a b : Nat} (ha : a < 2 ^ 32) (hb : b < 2 ^ 32) : f_M_multiply_JJI (lN a) (lN b) (1 : Int32) = lN (mulF 24 2851 I32 N32 W32 a b) := m_mul (f := 1) (by decide) ha hb
theorem m_div1 {a b : Nat} (ha : a < 2 ^ 32) (hb : b < 2 ^ 32) : f_M_divide_JJI (lN a) (lN b) (1 : Int32) = lN (divF 24 2851 I32 N32 W32 a b) := m_div (f := 1) (by decide) ha hb
theorem Q_fadd {a b : Nat} (ha : a < 2 ^ 32) (hb : b < 2 ^ 32) : f_I_toFloat_J (f_I_sum_JJ (f_M_toDouble_J (lN a)) (f_M_toDouble_J (lN b))) = f_M_toDouble_J (f_M_add_JJI (lN a) (lN b) (1 : Int32)) := by
  rw [m_toDouble ha, m_toDouble hb, t_sum (tD_lt ha) (tD_lt hb), t_toFloat (addF_lt (tD_lt ha) (tD_lt hb)), m_add1 ha hb, m_toDouble (addF32_lt ha hb), flt_add]
theorem Q_fmul {a b : Nat} (ha : a < 2 ^ 32) (hb : b < 2 ^ 32) : f_I_toFloat_J (f_I_product_JJ (f_M_toDouble_J (lN a)) (f_M_toDouble_J (lN b))) = f_M_toDouble_J (f_M_multiply_JJI (lN a) (lN b) (1 : Int32)) := by
  rw [m_toDouble ha, m_toDouble hb, t_mul (tD_lt ha) (tD_lt hb), t_toFloat mulF_lt, m_mul1 ha hb, m_toDouble mulF32_lt, flt_mul]
theorem Q_fdiv {a b : Nat} (ha : a < 2 ^ 32) (hb : b < 2 ^ 32) : f_I_toFloat_J (f_I_quotient_JJ (f_M_toDouble_J (lN a)) (f_M_toDouble_J (lN b))) = f_M_toDouble_J (f_M_divide_JJI (lN a) (lN b) (1 : Int32)) := by
  rw [m_toDouble ha, m_toDouble hb, t_divF (tD_lt ha) (tD_lt hb), t_toFloat divF_lt, m_div1 ha hb, m_toDouble divF32_lt, flt_div]
theorem T_toDouble {a : Nat} (ha : a < 2 ^ 32) : f_M_told_J (f_M_toDouble_J (lN a)) = f_M_toDouble_J (lN a) := by
  rw [m_toDouble ha, m_told0 (tD_lt ha), tD_to]
