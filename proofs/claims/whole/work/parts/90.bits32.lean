/-! OUR OWN ROWS: floats from their bits, alike -/
theorem i_inj {a b : Int32} (h : a.toBitVec.toNat = b.toBitVec.toNat) : a = b := Int32.toBitVec_inj.mp (BitVec.eq_of_toNat_eq h)
theorem i_and {a b : Nat} (ha : a < 2 ^ 32) (hb : b < 2 ^ 32) : nI a &&& nI b = nI (a &&& b) := by
  apply i_inj
  rw [Int32.toBitVec_and, BitVec.toNat_and, nI_tn ha, nI_tn hb, nI_tn (Nat.and_lt_two_pow _ hb)]
theorem i_or {a b : Nat} (ha : a < 2 ^ 32) (hb : b < 2 ^ 32) : nI a ||| nI b = nI (a ||| b) := by
  apply i_inj
  rw [Int32.toBitVec_or, BitVec.toNat_or, nI_tn ha, nI_tn hb, nI_tn (Nat.or_lt_two_pow ha hb)]
theorem i_mask {n k : Nat} (hn : n < 2 ^ 32) (hk : k < 32) : nI n &&& nI (2 ^ k - 1) = nI (n % 2 ^ k) := by
  have : 2 ^ k < 2 ^ 32 := Nat.pow_lt_pow_right (by decide) hk
  rw [i_and hn (by omega), Nat.and_two_pow_sub_one_eq_mod]
theorem n_and_hi32 {a : Nat} (h : a < 2 ^ 32) : a &&& 2 ^ 31 = a / 2 ^ 31 * 2 ^ 31 := by
  apply Nat.eq_of_testBit_eq
  intro i
  rw [Nat.testBit_and, Nat.testBit_two_pow, Nat.testBit_mul_two_pow, Nat.testBit_div_two_pow]
  rcases Nat.lt_trichotomy i 31 with c | c | c
  · simp [show ¬ 31 = i by omega, show ¬ 31 ≤ i by omega]
  · subst c; simp
  · have : a.testBit (i - 31 + 31) = false := Nat.testBit_lt_two_pow (Nat.lt_of_lt_of_le h (Nat.pow_le_pow_right (by decide) (by omega)))
    simp [show ¬ 31 = i by omega, this]
theorem i_sgn {n : Nat} (h : n < 2 ^ 32) : j_shl ((nI n &&& (-2147483648 : Int32)).toInt64) (32 : Int32) = lN (n / W32 * W64) := by
  have e1 : nI n &&& (-2147483648 : Int32) = nI (n / W32 * W32) := by
    have e0 : (-2147483648 : Int32) = nI (2 ^ 31) := by decide
    rw [e0, i_and h (by decide), n_and_hi32 h]
  have s1 := sg32 h
  rw [e1]
  generalize n / W32 = s at s1
  rcases f2 s1 with e | e <;> subst e <;> decide
theorem t_ofBits {n : Nat} (h : n < 2 ^ 32) : f_I_ofFloatBits_I (nI n) = lN (tD n) := by
  have w : W32 = 2147483648 := rfl
  have i2 : I32 = 2139095040 := rfl
  have s1 := sg32 h
  have hm : n % W32 < 2 ^ 31 := Nat.mod_lt _ (by decide)
  have e2 : nI n &&& (2147483647 : Int32) = nI (n % W32) := i_mask (k := 31) h (by decide)
  unfold f_I_ofFloatBits_I
  simp only [i_sgn h, e2]
  unfold tD
  generalize n % W32 = m at hm
  generalize n / W32 = s at s1
  have c1 : nI m < (2139095040 : Int32) ↔ m < I32 := nI_ltI (b := 2139095040) (by omega) (by decide)
  have c2 : nI m = (2139095040 : Int32) ↔ m = I32 := nI_eq (b := 2139095040) (by omega) (by decide)
  by_cases g : m < I32
  · rw [if_pos (c1.mpr g), if_neg (show ¬ I32 < m by omega), ← (fe_lt g).1]
    have e4 : j_iushr (nI m) (23 : Int32) = nI (m / 2 ^ 23) := w_iushr (k := 23) (by omega) (by decide)
    have e5 : nI m &&& (8388607 : Int32) = nI (m % 2 ^ 23) := i_mask (k := 23) (by omega) (by decide)
    simp only [e4, e5]
    have hE : m / 2 ^ 23 < 255 := Nat.div_lt_of_lt_mul (by omega)
    have hF : m % 2 ^ 23 < 2 ^ 23 := Nat.mod_lt _ (by decide)
    have c3 : nI (m / 2 ^ 23) = 0 ↔ m / 2 ^ 23 = 0 := nI_zero (by omega)
    by_cases q : m / 2 ^ 23 = 0
    · have v : val 24 2851 m = m % 2 ^ 23 * 2 ^ 2851 := by
        have v1 : vsig 24 m = m := by unfold vsig; rw [if_pos q]
        have v2 : vexp 24 2851 m = 2851 := by
          have : m / 2 ^ (24 - 1) = 0 := q
          unfold vexp; rw [this]
        unfold val; rw [v1, v2, Nat.mod_eq_of_lt (Nat.lt_of_div_eq_zero (by decide) q)]
      have z1 : iZ (((2851 : Nat) : Int) - 3000) = (-149 : Int32) := by decide
      have tn := t_nearest (s := s) (m := m % 2 ^ 23) (k := 2851) s1 (by omega) (by decide)
      rw [z1] at tn
      rw [if_pos (c3.mpr q), nI_l (by omega), v]
      exact tn
    · have v1 : vsig 24 m = m % 2 ^ 23 + 2 ^ 23 := by unfold vsig; exact if_neg q
      have v2 : vexp 24 2851 m = m / 2 ^ 23 - 1 + 2851 := rfl
      have e6 : nI (m % 2 ^ 23) ||| (8388608 : Int32) = nI (m % 2 ^ 23 + 2 ^ 23) := by
        have := i_or (a := m % 2 ^ 23) (b := 2 ^ 23) (by omega) (by decide)
        have o := n_or (k := 23) (a := m % 2 ^ 23) (b := 1) hF
        rw [Nat.one_mul] at o
        rw [Nat.or_comm, o, Nat.add_comm] at this
        exact this
      have z1 : (-149 : Int32) + nI (m / 2 ^ 23) - (1 : Int32) = iZ (((m / 2 ^ 23 - 1 + 2851 : Nat) : Int) - 3000) := by
        rw [show (-149 : Int32) = iZ (-149) from rfl, show (1 : Int32) = iZ 1 from rfl, ← iZ_n, iZ_add, iZ_sub]
        exact congrArg iZ (by omega)
      rw [if_neg (fun r => q (c3.mp r)), e6, nI_l (by omega), z1, t_nearest s1 (by omega) (by omega)]
      unfold val; rw [v1, v2]
  · rw [if_neg (fun q => g (c1.mp q))]
    by_cases q : m = I32
    · rw [if_pos (c2.mpr q), if_neg (show ¬ I32 < m by omega), q, cvt_I, k_inf]
      exact or_sg s1 I64_lt
    · rw [if_neg (fun r => q (c2.mp r)), if_pos (show I32 < m by omega), k_nan]
theorem Q_ofBits (x : Int32) : f_I_ofFloatBits_I x = f_M_toDouble_J (f_M_floatOf_I x) := by
  obtain ⟨n, hn, e, rfl⟩ := n_fo_of x
  rw [e, t_ofBits hn, m_toDouble hn]
