/-! OUR OWN ROWS: rounding of m times 2 to the k by a shift of m -/
theorem q_log_mul {m : Nat} (k : Nat) (hm : m ≠ 0) : (m * 2 ^ k).log2 = m.log2 + k := by
  have h1 := q_loglo hm
  have h2 := q_loghi m
  refine q_log ?_ ?_
  · rw [Nat.pow_add]; exact Nat.mul_le_mul_right _ h1
  · have : m.log2 + k + 1 = (m.log2 + 1) + k := by omega
    rw [this, Nat.pow_add]; exact Nat.mul_lt_mul_of_pos_right h2 (q_pos k)
theorem rs_sh {p L m k : Nat} (hm : m ≠ 0) : rsh p L (m * 2 ^ k) = max (m.log2 + k + 1 - p) L := by unfold rsh; rw [q_log_mul k hm]
theorem rs_lo {m k d : Nat} (hd : d ≤ k) : rD (m * 2 ^ k) (2 ^ (k - d)) = m * 2 ^ d := by
  have e : m * 2 ^ k = (m * 2 ^ d) * 2 ^ (k - d) := by rw [Nat.mul_assoc, ← Nat.pow_add]; congr 2; omega
  rw [e, rD_mul (q_pos _)]
theorem rs_mid {m k d : Nat} : rD (m * 2 ^ k) (2 ^ (k + d)) = rD m (2 ^ d) := by
  rw [Nat.add_comm, Nat.pow_add]; exact rD_scale (q_pos d) (q_pos k)
theorem rs_far {m k d : Nat} (hm : m ≤ 2 ^ 63) (hd : 64 ≤ d) : rD (m * 2 ^ k) (2 ^ (k + d)) = 0 := by
  rw [rs_mid]
  have h : 2 ^ 64 ≤ 2 ^ d := Nat.pow_le_pow_right (by decide) hd
  rw [rD_eq (q := 0) (r := m) (by omega) (by omega), if_neg (by omega)]
theorem rs_mlog {m k : Nat} (hk : 0 < k) (hm : m ≠ 0) : ((2 * m + 1) * 2 ^ (k - 1)).log2 = m.log2 + k := by
  have h1 := q_loglo hm
  have h2 := q_loghi m
  have hB := q_pos (k - 1)
  refine q_log ?_ ?_
  · have : 2 ^ (m.log2 + k) = (2 * 2 ^ m.log2) * 2 ^ (k - 1) := by rw [← q_pw1, ← Nat.pow_add]; congr 1; omega
    rw [this]; exact Nat.mul_le_mul_right _ (by omega)
  · have : 2 ^ (m.log2 + k + 1) = (2 * 2 ^ (m.log2 + 1)) * 2 ^ (k - 1) := by rw [← q_pw1, ← Nat.pow_add]; congr 1; omega
    rw [this]; exact Nat.mul_lt_mul_of_pos_right (by omega) hB
theorem rs_msh {p L m k : Nat} (hk : 0 < k) (hm : m ≠ 0) : rsh p L ((2 * m + 1) * 2 ^ (k - 1)) = max (m.log2 + k + 1 - p) L := by unfold rsh; rw [rs_mlog hk hm]
theorem rs_more {m k d : Nat} (hk : 0 < k) (hd : 0 < d) : rD ((2 * m + 1) * 2 ^ (k - 1)) (2 ^ (k + d)) = m / 2 ^ d + (if 2 ^ (d - 1) ≤ m % 2 ^ d then 1 else 0) := by
  have hk1 : 2 ^ k = 2 * 2 ^ (k - 1) := by rw [← q_pw1]; congr 1; omega
  have hd1 : 2 ^ d = 2 * 2 ^ (d - 1) := by rw [← q_pw1]; congr 1; omega
  have hB := q_pos (k - 1)
  have e0 := Nat.div_add_mod m (2 ^ d)
  have hr := Nat.mod_lt m (q_pos d)
  have e1 : (2 * m + 1) * 2 ^ (k - 1) = (m / 2 ^ d * (2 * 2 ^ (d - 1)) + m % 2 ^ d) * 2 ^ k + 2 ^ (k - 1) := by
    rw [← hd1, Nat.mul_comm (m / 2 ^ d), e0, hk1, Nat.add_mul, Nat.one_mul]
    congr 1
    rw [Nat.mul_comm 2 m, Nat.mul_assoc]
  have e2 : 2 ^ (k + d) = 2 * 2 ^ (d - 1) * 2 ^ k := by rw [Nat.add_comm, Nat.pow_add, hd1]
  rw [e1, e2, rD_stick hB (by omega) (by omega)]
  split <;> rfl
theorem rs_most {p L m k : Nat} (hm : 2 ^ p ≤ m) (hk : 0 < k) {V : Nat} (h1 : m * 2 ^ k < V) (h2 : V < (m + 1) * 2 ^ k) : rnd p L V = rnd p L ((2 * m + 1) * 2 ^ (k - 1)) := by
  have hk1 : 2 ^ k = 2 * 2 ^ (k - 1) := by rw [← q_pw1]; congr 1; omega
  have hB := q_pos (k - 1)
  have e1 : m * 2 ^ k = 2 * (m * 2 ^ (k - 1)) := by rw [hk1, Nat.mul_left_comm]
  have e2 : (m + 1) * 2 ^ k = 2 * (m * 2 ^ (k - 1)) + 2 * 2 ^ (k - 1) := by rw [hk1, Nat.add_mul, Nat.one_mul, Nat.mul_left_comm]
  have e3 : (2 * m + 1) * 2 ^ (k - 1) = 2 * (m * 2 ^ (k - 1)) + 2 ^ (k - 1) := by rw [Nat.add_mul, Nat.one_mul, Nat.mul_assoc]
  exact rnd_stick hm h1 h2 (by omega) (by omega)
