/-! OUR OWN ROWS: bits of doubles in longs; leading zeros -/
theorem k_inf : (9218868437227405312 : Int64) = lN I64 := rfl
theorem k_nan : (9221120237041090560 : Int64) = lN N64 := rfl
theorem k_sgn : (-9223372036854775808 : Int64) = lN W64 := by decide
theorem k_zero : (0 : Int64) = lN 0 := rfl
theorem k_one : (1 : Int64) = lN 1 := rfl
theorem mg_lt (n : Nat) : n % W64 < 2 ^ 63 := Nat.mod_lt _ (by decide)
theorem mg_lt4 (n : Nat) : n % W64 < 2 ^ 64 := Nat.lt_trans (mg_lt n) (by decide)
theorem sg_lt {n : Nat} (h : n < 2 ^ 64) : n / W64 < 2 := Nat.div_lt_of_lt_mul (by have : W64 = 9223372036854775808 := rfl; omega)
theorem I64_lt : I64 < 2 ^ 63 := by decide
theorem a_mag {n : Nat} (h : n < 2 ^ 64) : lN n &&& (9223372036854775807 : Int64) = lN (n % W64) := wb_mask (k := 63) h (by decide)
theorem a_sgn {n : Nat} (h : n < 2 ^ 64) : lN n &&& (-9223372036854775808 : Int64) = lN (n / W64 * W64) := by
  rw [k_sgn, wb_and h (by decide)]
  exact congrArg lN (n_and_hi h)
theorem z_isNo {n : Nat} (h : n < 2 ^ 64) : f_I_isNoNumber_J (lN n) = 0 ↔ ¬ I64 < n % W64 := by
  unfold f_I_isNoNumber_J
  rw [a_mag h, k_inf]
  have c := c_le (a := n % W64) (b := I64) (mg_lt n) I64_lt
  by_cases h1 : n % W64 ≤ I64
  · rw [if_pos (c.mpr h1)]; exact ⟨fun _ => Nat.not_lt.mpr h1, fun _ => rfl⟩
  · rw [if_neg (fun q => h1 (c.mp q))]; exact ⟨fun q => absurd q (by decide), fun q => absurd (Nat.not_lt.mp q) h1⟩
theorem z_isFin {n : Nat} (h : n < 2 ^ 64) : f_I_isFinite_J (lN n) = 0 ↔ I64 ≤ n % W64 := by
  unfold f_I_isFinite_J
  rw [a_mag h, k_inf]
  have c := c_ge (a := n % W64) (b := I64) (mg_lt n) I64_lt
  by_cases h1 : I64 ≤ n % W64
  · rw [if_pos (c.mpr h1)]; exact ⟨fun _ => h1, fun _ => rfl⟩
  · rw [if_neg (fun q => h1 (c.mp q))]; exact ⟨fun q => absurd q (by decide), fun q => absurd q h1⟩
theorem z_isInf {n : Nat} (h : n < 2 ^ 64) : f_I_isInfinite_J (lN n) = 0 ↔ ¬ n % W64 = I64 := by
  unfold f_I_isInfinite_J
  rw [a_mag h, k_inf]
  have c := c_eq (a := n % W64) (b := I64) (mg_lt4 n) (by decide)
  by_cases h1 : n % W64 = I64
  · rw [if_pos (c.mpr h1)]; exact ⟨fun q => absurd q (by decide), fun q => absurd h1 q⟩
  · rw [if_neg (fun q => h1 (c.mp q))]; exact ⟨fun _ => h1, fun _ => rfl⟩
theorem z_isZero {n : Nat} (h : n < 2 ^ 64) : f_I_isZero_J (lN n) = 0 ↔ ¬ n % W64 = 0 := by
  unfold f_I_isZero_J
  rw [a_mag h, k_zero]
  have c := c_eq (a := n % W64) (b := 0) (mg_lt4 n) (by decide)
  by_cases h1 : n % W64 = 0
  · rw [if_pos (c.mpr h1)]; exact ⟨fun q => absurd q (by decide), fun q => absurd h1 q⟩
  · rw [if_neg (fun q => h1 (c.mp q))]; exact ⟨fun _ => h1, fun _ => rfl⟩
theorem t_told {n : Nat} (h : n < 2 ^ 64) : f_I_told_J (lN n) = lN (told n) := by
  unfold f_I_told_J told
  by_cases h1 : I64 < n % W64
  · rw [if_neg (fun q => (z_isNo h).mp q h1), if_pos h1, k_nan]
  · rw [if_pos ((z_isNo h).mpr h1), if_neg h1]
-- significand and power
theorem n_and_inf (n : Nat) : n &&& I64 = n % W64 / 2 ^ 52 * 2 ^ 52 := by
  have e : I64 = (2 ^ 11 - 1) * 2 ^ 52 := by decide
  have e2 : W64 = 2 ^ 63 := by decide
  rw [e, e2]
  apply Nat.eq_of_testBit_eq
  intro i
  rw [Nat.testBit_and, Nat.testBit_mul_two_pow, Nat.testBit_two_pow_sub_one, Nat.testBit_mul_two_pow, Nat.testBit_div_two_pow, Nat.testBit_mod_two_pow]
  by_cases h : 52 ≤ i
  · have e3 : i - 52 + 52 = i := by omega
    rw [e3]
    by_cases h2 : i < 63
    · simp [h, h2, show i - 52 < 11 by omega]
    · simp [h, h2, show ¬ i - 52 < 11 by omega]
  · simp [h]
theorem a_inf {n : Nat} (h : n < 2 ^ 64) : lN n &&& (9218868437227405312 : Int64) = lN (n % W64 / 2 ^ 52 * 2 ^ 52) := by
  rw [k_inf, wb_and h (by decide), n_and_inf]
theorem ef_lt (n : Nat) : n % W64 / 2 ^ 52 < 2 ^ 11 := Nat.div_lt_of_lt_mul (by have := mg_lt n; omega)
theorem t_sig {n : Nat} (h : n < 2 ^ 64) : f_I_significand_J (lN n) = lN (vsig 53 (n % W64)) := by
  have m1 : lN n &&& (4503599627370495 : Int64) = lN (n % 2 ^ 52) := wb_mask (k := 52) h (by decide)
  have m2 : n % 2 ^ 52 = n % W64 % 2 ^ 52 := (Nat.mod_mod_of_dvd n (by decide)).symm
  have hf := ef_lt n
  unfold f_I_significand_J vsig
  rw [a_inf h, m1, k_zero]
  have c := c_eq (a := n % W64 / 2 ^ 52 * 2 ^ 52) (b := 0) (by omega) (by decide)
  by_cases h1 : n % W64 / 2 ^ (53 - 1) = 0
  · rw [if_pos (c.mpr (by show n % W64 / 2 ^ (53 - 1) * 2 ^ 52 = 0; rw [h1, Nat.zero_mul])), if_pos h1, m2, Nat.mod_eq_of_lt (Nat.lt_of_div_eq_zero (by decide) h1)]
  · rw [if_neg (fun q => h1 (by have := c.mp q; show n % W64 / 2 ^ 52 = 0; omega)), if_neg h1, m2]
    have hm : n % W64 % 2 ^ 52 < 2 ^ 52 := Nat.mod_lt _ (by decide)
    show lN _ ||| lN (2 ^ 52) = _
    rw [wb_or (by omega) (by decide)]
    have := n_or (k := 52) (a := n % W64 % 2 ^ 52) (b := 1) hm
    rw [Nat.one_mul] at this
    rw [Nat.or_comm, this, Nat.add_comm]
theorem t_max {a b : Int} (h1 : -2147483648 ≤ a) (h2 : a < 2147483648) (h3 : -2147483648 ≤ b) (h4 : b < 2147483648) : f_jM_max_II (iZ a) (iZ b) = iZ (max a b) := by
  unfold f_jM_max_II
  have c := iZ_lt h1 h2 h3 h4
  by_cases h : a < b
  · rw [if_pos (c.mpr h), Int.max_eq_right (by omega)]
  · rw [if_neg (fun q => h (c.mp q)), Int.max_eq_left (by omega)]
theorem t_pow {n : Nat} (h : n < 2 ^ 64) : f_I_power_J (lN n) = iZ ((vexp 53 1926 (n % W64) : Int) - 3000) := by
  have hf := ef_lt n
  have e1 : j_ushr (lN (n % W64 / 2 ^ 52 * 2 ^ 52)) (52 : Int32) = lN (n % W64 / 2 ^ 52) := by
    rw [show (52 : Int32) = nI 52 from rfl, w_ushr (by omega) (by decide), Nat.mul_div_cancel _ (by decide)]
  unfold f_I_power_J
  rw [a_inf h]
  simp only [e1, lN_i]
  have e2 : nI (n % W64 / 2 ^ 52) = iZ ((n % W64 / 2 ^ 52 : Nat) : Int) := (iZ_nI _).symm
  have hv : vexp 53 1926 (n % W64) = n % W64 / 2 ^ 52 - 1 + 1926 := rfl
  rw [hv, e2, show (1 : Int32) = iZ 1 from rfl, show (-1074 : Int32) = iZ (-1074) from rfl]
  generalize n % W64 / 2 ^ 52 = E at hf
  rw [t_max (by omega) (by omega) (by omega) (by omega), iZ_sub, iZ_add]
  exact congrArg iZ (by omega)
-- leading zeros
theorem w_ic : ∀ k, k < 32 → ((nI k).toUInt32 &&& Int32.toUInt32 31) = UInt32.ofNat k := by decide +kernel
theorem nI_tn {n : Nat} (h : n < 2 ^ 32) : (nI n).toBitVec.toNat = n := by
  show (BitVec.ofNat 32 n).toNat = n
  rw [BitVec.toNat_ofNat, Nat.mod_eq_of_lt h]
theorem w_iushr {n k : Nat} (hn : n < 2 ^ 32) (hk : k < 32) : j_iushr (nI n) (nI k) = nI (n / 2 ^ k) := by
  unfold j_iushr
  rw [w_ic k hk]
  apply Int32.toBitVec_inj.mp
  apply BitVec.eq_of_toNat_eq
  show ((nI n).toUInt32 >>> UInt32.ofNat k).toNat = (BitVec.ofNat 32 _).toNat
  have h1 : (UInt32.ofNat k).toNat = k := by
    show (BitVec.ofNat 32 k).toNat = k
    rw [BitVec.toNat_ofNat, Nat.mod_eq_of_lt (by omega)]
  have h2 : (nI n).toUInt32.toNat = n := nI_tn hn
  rw [UInt32.toNat_shiftRight, h1, h2, Nat.mod_eq_of_lt hk, Nat.shiftRight_eq_div_pow, BitVec.toNat_ofNat, Nat.mod_eq_of_lt (Nat.lt_of_le_of_lt (Nat.div_le_self _ _) hn)]
theorem nI_ti {m : Nat} (h : m < 2 ^ 32) : (nI m).toInt = if m < 2 ^ 31 then (m : Int) else (m : Int) - 2 ^ 32 := by
  have e : (nI m).toInt = (nI m).toBitVec.toInt := rfl
  rw [e, BitVec.toInt_eq_toNat_cond, nI_tn h]
  split <;> split <;> omega
theorem nI_zero {m : Nat} (h : m < 2 ^ 32) : nI m = 0 ↔ m = 0 := by
  refine ⟨fun e => ?_, fun e => by rw [e]; rfl⟩
  have := congrArg (fun x : Int32 => x.toBitVec.toNat) e
  simp only [nI_tn h] at this
  exact this
theorem q_log_div {x k : Nat} (h : 2 ^ k ≤ x) : (x / 2 ^ k).log2 = x.log2 - k := by
  have h0 : x ≠ 0 := by have := q_pos k; omega
  have h1 := q_loglo h0
  have h2 := q_loghi x
  have hk : k ≤ x.log2 := by
    rcases Nat.lt_or_ge x.log2 k with c | c
    · have := (Nat.log2_lt h0).mp c; omega
    · exact c
  refine q_log ?_ ?_
  · rw [Nat.le_div_iff_mul_le (q_pos k), ← Nat.pow_add, Nat.sub_add_cancel hk]; exact h1
  · refine Nat.div_lt_of_lt_mul ?_
    have : 2 ^ k * 2 ^ (x.log2 - k + 1) = 2 ^ (x.log2 + 1) := by rw [← Nat.pow_add]; congr 1; omega
    rw [this]; exact h2
theorem lg16 : ∀ x, x < 16 → 0 < x → (x < 4 → x / 2 ^ 1 = x.log2) ∧ (4 ≤ x → x / 2 ^ 2 / 2 ^ 1 + 2 = x.log2) := by decide +kernel
theorem z61 {x : Nat} {c : Int} (h0 : 0 < x) (h : x < 16) : f_jI_numberOfLeadingZeros_I_61 (nI x) (iZ c) = iZ (c - x.log2) := by
  have hl := lg16 x h h0
  have hc : nI x < (4 : Int32) ↔ x < 4 := nI_ltI (a := x) (b := 4) (by omega) (by decide)
  have e1 : j_iushr (nI x) (1 : Int32) = nI (x / 2 ^ 1) := w_iushr (k := 1) (by omega) (by decide)
  have e2 : j_iushr (nI x) (2 : Int32) = nI (x / 2 ^ 2) := w_iushr (k := 2) (by omega) (by decide)
  have e3 : j_iushr (nI (x / 2 ^ 2)) (1 : Int32) = nI (x / 2 ^ 2 / 2 ^ 1) := w_iushr (k := 1) (by omega) (by decide)
  unfold f_jI_numberOfLeadingZeros_I_61
  by_cases h4 : x < 4
  · rw [if_pos (hc.mpr h4), e1, hl.1 h4, ← iZ_nI, iZ_sub]
  · rw [if_neg (fun q => h4 (hc.mp q))]
    simp only [e2, e3]
    rw [show (-2 : Int32) = iZ (-2) from rfl, iZ_add, ← iZ_nI, iZ_sub]
    have := hl.2 (by omega)
    exact congrArg iZ (by omega)
theorem z48 {x : Nat} {c : Int} (h0 : 0 < x) (h : x < 256) : f_jI_numberOfLeadingZeros_I_48 (nI x) (iZ c) = iZ (c - x.log2) := by
  have hc : nI x < (16 : Int32) ↔ x < 16 := nI_ltI (a := x) (b := 16) (by omega) (by decide)
  have e2 : j_iushr (nI x) (4 : Int32) = nI (x / 2 ^ 4) := w_iushr (k := 4) (by omega) (by decide)
  unfold f_jI_numberOfLeadingZeros_I_48
  by_cases h4 : x < 16
  · rw [if_pos (hc.mpr h4), z61 h0 h4]
  · rw [if_neg (fun q => h4 (hc.mp q))]
    simp only [e2]
    have hd := q_log_div (x := x) (k := 4) (by omega)
    have hg : 4 ≤ x.log2 := by
      rcases Nat.lt_or_ge x.log2 4 with q | q
      · have := (Nat.log2_lt (show x ≠ 0 by omega)).mp q; omega
      · exact q
    rw [show (-4 : Int32) = iZ (-4) from rfl, iZ_add, z61 (by omega) (by omega), hd]
    exact congrArg iZ (by omega)
theorem z33 {x : Nat} {c : Int} (h0 : 0 < x) (h : x < 65536) : f_jI_numberOfLeadingZeros_I_33 (nI x) (iZ c) = iZ (c - x.log2) := by
  have hc : nI x < (256 : Int32) ↔ x < 256 := nI_ltI (a := x) (b := 256) (by omega) (by decide)
  have e2 : j_iushr (nI x) (8 : Int32) = nI (x / 2 ^ 8) := w_iushr (k := 8) (by omega) (by decide)
  unfold f_jI_numberOfLeadingZeros_I_33
  by_cases h4 : x < 256
  · rw [if_pos (hc.mpr h4), z48 h0 h4]
  · rw [if_neg (fun q => h4 (hc.mp q))]
    simp only [e2]
    have hd := q_log_div (x := x) (k := 8) (by omega)
    have hg : 8 ≤ x.log2 := by
      rcases Nat.lt_or_ge x.log2 8 with q | q
      · have := (Nat.log2_lt (show x ≠ 0 by omega)).mp q; omega
      · exact q
    rw [show (-8 : Int32) = iZ (-8) from rfl, iZ_add, z48 (by omega) (by omega), hd]
    exact congrArg iZ (by omega)
theorem z_nlz {x : Nat} (h0 : 0 < x) (h : x < 2 ^ 32) : f_jI_numberOfLeadingZeros_I (nI x) = iZ (31 - x.log2) := by
  unfold f_jI_numberOfLeadingZeros_I
  have hp : 0 < nI x ↔ x < 2 ^ 31 := by
    rw [Int32.lt_iff_toInt_lt, nI_ti h]
    have : (0 : Int32).toInt = 0 := rfl
    rw [this]; split <;> omega
  by_cases h1 : x < 2 ^ 31
  · rw [if_pos (hp.mpr h1)]
    have hc : nI x < (65536 : Int32) ↔ x < 65536 := nI_ltI (a := x) (b := 65536) (by omega) (by decide)
    have e2 : j_iushr (nI x) (16 : Int32) = nI (x / 2 ^ 16) := w_iushr (k := 16) (by omega) (by decide)
    by_cases h4 : x < 65536
    · rw [if_pos (hc.mpr h4), show (31 : Int32) = iZ 31 from rfl, z33 h0 h4]
    · rw [if_neg (fun q => h4 (hc.mp q))]
      simp only [e2]
      have hd := q_log_div (x := x) (k := 16) (by omega)
      have hg : 16 ≤ x.log2 := by
        rcases Nat.lt_or_ge x.log2 16 with q | q
        · have := (Nat.log2_lt (show x ≠ 0 by omega)).mp q; omega
        · exact q
      rw [show (15 : Int32) = iZ 15 from rfl, z33 (by omega) (by omega), hd]
      exact congrArg iZ (by omega)
  · rw [if_neg (fun q => h1 (hp.mp q)), if_neg (fun q => by have := (nI_zero h).mp q; omega)]
    have : x.log2 = 31 := q_log (by omega) (by omega)
    rw [this]; rfl
theorem z_clz {n : Nat} (h0 : n ≠ 0) (h : n < 2 ^ 64) : f_jL_numberOfLeadingZeros_J (lN n) = iZ (63 - n.log2) := by
  have e1 : (j_ushr (lN n) (32 : Int32)).toInt32 = nI (n / 2 ^ 32) := by
    rw [show (32 : Int32) = nI 32 from rfl, w_ushr h (by decide), lN_i]
  unfold f_jL_numberOfLeadingZeros_J
  simp only [e1]
  have hq : n / 2 ^ 32 < 2 ^ 32 := Nat.div_lt_of_lt_mul (by omega)
  by_cases h1 : n / 2 ^ 32 = 0
  · rw [if_pos ((nI_zero hq).mpr h1), lN_i, z_nlz (by omega) (by omega), show (32 : Int32) = iZ 32 from rfl, iZ_add]
    exact congrArg iZ (by omega)
  · rw [if_neg (fun q => h1 ((nI_zero hq).mp q)), z_nlz (by omega) hq]
    have hn : 2 ^ 32 ≤ n := by omega
    have hd := q_log_div (x := n) (k := 32) hn
    have hg : 32 ≤ n.log2 := by
      rcases Nat.lt_or_ge n.log2 32 with q | q
      · have := (Nat.log2_lt h0).mp q; omega
      · exact q
    rw [hd]
    exact congrArg iZ (by omega)
