/-! OUR OWN ROWS: whole numbers alike -/
def abN (a : Nat) : Nat := if a < W64 then a else 2 ^ 64 - a
theorem abN_le {a : Nat} (h : a < 2 ^ 64) : abN a ≤ 2 ^ 63 := by
  have w : W64 = 9223372036854775808 := rfl
  unfold abN; split <;> omega
theorem ge0 {a : Nat} (h : a < 2 ^ 64) : 0 ≤ lg_cmp (lN a) (0 : Int64) ↔ a < W64 := by
  have w : W64 = 9223372036854775808 := rfl
  rw [lg_cmp_ge]
  have h1 := l_neg h
  have h3 : (0 : Int64) ≤ lN a ↔ ¬ lN a < 0 := by rw [Int64.le_iff_toInt_le, Int64.lt_iff_toInt_lt]; omega
  rw [h3, h1]; omega
theorem t_abs {a : Nat} (h : a < 2 ^ 64) : f_jM_abs_J (lN a) = lN (abN a) := by
  have w : W64 = 9223372036854775808 := rfl
  unfold f_jM_abs_J abN
  by_cases g : a < W64
  · rw [if_pos ((ge0 h).mpr g), if_pos g]
  · rw [if_neg (fun q => g ((ge0 h).mp q)), if_neg g, w_neg (by omega) (by omega)]
theorem t_whole0 {a : Nat} (h : a < 2 ^ 64) : f_I_ofWhole_J (lN a) = lN (a / W64 * W64 + enc 53 1926 I64 (abN a * 2 ^ 3000)) := by
  unfold f_I_ofWhole_J
  rw [a_sgn h, t_abs h]
  exact t_nearest (k := 3000) (sg_lt h) (abN_le h) (by decide)
theorem t_whole1 {a : Nat} (h : a < 2 ^ 64) : f_I_floatOfWhole_J (lN a) = lN (a / W64 * W64 + cvt (enc 24 2851 I32 (abN a * 2 ^ 3000))) := by
  unfold f_I_floatOfWhole_J
  rw [a_sgn h, t_abs h]
  by_cases g : abN a = 0
  · rw [g, Nat.zero_mul, enc_zero _ _ _ (by decide), cvt_zero, Nat.add_zero]
    exact t_nf0 (k := 3000) (sg_lt h) (by decide)
  · exact t_nf (k := 3000) (sg_lt h) g (abN_le h) (by decide) (fun _ _ => by decide)
/-- the reference's way to a whole number -/
def mWh (x : Int64) (f : Int32) : Int64 := if lg_cmp x (-9223372036854775808 : Int64) = 0 then f_M_exact_ZJII (1 : Int32) (4611686018427387904 : Int64) (1 : Int32) f else if 0 ≤ lg_cmp x (0 : Int64) then f_M_exact_ZJII (0 : Int32) (f_jM_abs_J x) (0 : Int32) f else f_M_exact_ZJII (1 : Int32) (f_jM_abs_J x) (0 : Int32) f
theorem m_wh {a f : Nat} (hf : f < 2) (h : a < 2 ^ 64) : mWh (lN a) (nI f) = lN (a / W64 * fW f + enc (fP f) (fL f) (fI f) (abN a * 2 ^ 3000)) := by
  have w : W64 = 9223372036854775808 := rfl
  unfold mWh
  have c : lg_cmp (lN a) (-9223372036854775808 : Int64) = 0 ↔ a = W64 := by rw [k_sgn]; exact c_eq h (by decide)
  by_cases g : a = W64
  · have e : f_M_exact_ZJII (1 : Int32) (4611686018427387904 : Int64) (1 : Int32) (nI f) = lN (1 * fW f + enc (fP f) (fL f) (fI f) (2 ^ 62 * 2 ^ 3001)) := by
      have e0 := m_exact (s := 1) (m := 2 ^ 62) (k := 3001) hf (by decide) (by decide) (by decide)
      have z1 : iZ (((3001 : Nat) : Int) - 3000) = (1 : Int32) := by decide
      have z2 : lN (2 ^ 62) = (4611686018427387904 : Int64) := by decide
      rw [z1, z2] at e0
      exact e0
    have e2 : abN a = 2 ^ 63 := by rw [g]; decide
    have e3 : a / W64 = 1 := by rw [g]; decide
    have e4 : 2 ^ 62 * 2 ^ 3001 = 2 ^ 63 * 2 ^ 3000 := by rw [← Nat.pow_add, ← Nat.pow_add]
    rw [if_pos (c.mpr g), e, e2, e3, e4]
  · rw [if_neg (fun q => g (c.mp q)), t_abs h]
    have hb : abN a < 2 ^ 63 := by unfold abN; split <;> omega
    by_cases g2 : a < W64
    · have e3 : a / W64 = 0 := Nat.div_eq_of_lt g2
      rw [if_pos ((ge0 h).mpr g2), e3]
      exact m_exact (s := 0) (k := 3000) hf (by decide) hb (by decide)
    · have e3 : a / W64 = 1 := by
        have s1 := sg_lt h
        have := (Nat.le_div_iff_mul_le (show 0 < W64 by decide)).mpr (show 1 * W64 ≤ a by omega)
        omega
      rw [if_neg (fun q => g2 ((ge0 h).mp q)), e3]
      exact m_exact (s := 1) (k := 3000) hf (by decide) hb (by decide)
theorem Q_whole0 (x : Int64) : f_I_ofWhole_J x = mWh x (0 : Int32) := by
  obtain ⟨a, ha, rfl⟩ := l_of x
  rw [t_whole0 ha]
  exact (m_wh (f := 0) (by decide) ha).symm
theorem Q_whole1 (x : Int64) : f_I_floatOfWhole_J x = f_M_toDouble_J (mWh x (1 : Int32)) := by
  obtain ⟨a, ha, rfl⟩ := l_of x
  have e : mWh (lN a) (1 : Int32) = lN (a / W64 * W32 + enc 24 2851 I32 (abN a * 2 ^ 3000)) := m_wh (f := 1) (by decide) ha
  rw [t_whole1 ha, e, m_toDouble (sW32 (sg_lt ha) (enc_le _ _ _ _)), tD_of]
theorem T_whole0 (x : Int64) : f_M_told_J (mWh x (0 : Int32)) = mWh x (0 : Int32) := by
  obtain ⟨a, ha, rfl⟩ := l_of x
  have e : mWh (lN a) (0 : Int32) = lN (a / W64 * W64 + enc 53 1926 I64 (abN a * 2 ^ 3000)) := m_wh (f := 0) (by decide) ha
  rw [e, m_told0 (sW_lt (sg_lt ha) (enc_le _ _ _ _)), told_fix (enc_le _ _ _ _)]
-- float codes
theorem n_fo {n : Nat} (h : n < 2 ^ 32) : f_M_floatOf_I (nI n) = lN n := by
  unfold f_M_floatOf_I
  have e : (nI n).toInt64 = lN (if n < 2 ^ 31 then n else n + (2 ^ 64 - 2 ^ 32)) := by
    apply Int64.toInt_inj.mp
    rw [Int32.toInt_toInt64, nI_ti h]
    by_cases g : n < 2 ^ 31
    · rw [if_pos g, if_pos g, l_toInt (by omega), if_pos (by omega)]
    · rw [if_neg g, if_neg g, l_toInt (by omega), if_neg (by omega)]; omega
  rw [e]
  by_cases g : n < 2 ^ 31
  · rw [if_pos g]
    have := wb_mask (n := n) (k := 32) (by omega) (by decide)
    rw [Nat.mod_eq_of_lt h] at this
    exact this
  · rw [if_neg g]
    have := wb_mask (n := n + (2 ^ 64 - 2 ^ 32)) (k := 32) (by omega) (by decide)
    have e2 : (n + (2 ^ 64 - 2 ^ 32)) % 2 ^ 32 = n := by omega
    rw [e2] at this
    exact this
theorem n_fo_of (x : Int32) : ∃ n, n < 2 ^ 32 ∧ f_M_floatOf_I x = lN n ∧ x = nI n := by
  obtain ⟨n, hn, rfl⟩ := wb_of32 x
  exact ⟨n, hn, n_fo hn, rfl⟩
