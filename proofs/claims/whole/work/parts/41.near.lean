/-! OUR OWN ROWS: the class's rounding is the specification's -/
theorem iZ_n (n : Nat) : iZ (n : Int) = nI n := iZ_nI n
theorem l_pw {k : Nat} (hk : k < 64) : j_shl (1 : Int64) (nI k) = lN (2 ^ k) := by
  rw [k_one, w_shl 1 hk, Nat.one_mul]
theorem l_msk {k : Nat} (hk : k < 64) : j_shl (1 : Int64) (nI k) - (1 : Int64) = lN (2 ^ k - 1) := by
  rw [l_pw hk, k_one, lN_sub (q_pos k)]
theorem l_msk1 {k : Nat} (h0 : 0 < k) : nI k - (1 : Int32) = nI (k - 1) := by
  obtain ⟨j, hj⟩ : ∃ j, k = j + 1 := ⟨k - 1, by omega⟩
  subst hj; exact nI_pred j
theorem t_rlo {m d : Nat} (hd : d < 64) : f_I_rounded_JI (lN m) (iZ (-(d : Int))) = lN (m * 2 ^ d) := by
  unfold f_I_rounded_JI
  have h0 : ¬ 0 < iZ (-(d : Int)) := by
    rw [show (0 : Int32) = iZ 0 from rfl, iZ_lt (by omega) (by omega) (by omega) (by omega)]; omega
  rw [if_neg h0, iZ_neg, Int.neg_neg, iZ_n, w_shl m hd]
theorem t_rmid {m d : Nat} (hm : m < 2 ^ 64) (h1 : 0 < d) (h2 : d ≤ 63) : f_I_rounded_JI (lN m) (nI d) = lN (rD m (2 ^ d)) := by
  have hd : d < 64 := by omega
  have p1 : 2 ^ d ≤ 2 ^ 63 := Nat.pow_le_pow_right (by decide) h2
  have p2 : 2 ^ (d - 1) ≤ 2 ^ 62 := Nat.pow_le_pow_right (by decide) (by omega)
  have pp := q_pos (d - 1)
  have hh : 2 ^ d = 2 * 2 ^ (d - 1) := q_half h1
  have hr := Nat.mod_lt m (q_pos d)
  have hq : m / 2 ^ d < 2 ^ 63 := by
    refine Nat.div_lt_of_lt_mul ?_
    have : 2 ^ 1 ≤ 2 ^ d := Nat.pow_le_pow_right (by decide) h1
    have := Nat.mul_le_mul_right (2 ^ 63) this
    omega
  have e1 : j_ushr (lN m) (nI d) = lN (m / 2 ^ d) := w_ushr hm hd
  have e2 : lN m &&& (j_shl (1 : Int64) (nI d) - (1 : Int64)) = lN (m % 2 ^ d) := by rw [l_msk hd, wb_mask hm hd]
  have e3 : j_shl (1 : Int64) (nI d - (1 : Int32)) = lN (2 ^ (d - 1)) := by rw [l_msk1 h1, l_pw (by omega)]
  have e4 : lN (m / 2 ^ d) &&& (1 : Int64) = lN (m / 2 ^ d % 2) := wb_a1 (by omega)
  have c0 : 0 < nI d := nI_lt (a := 0) h1 (by omega)
  have c1 : nI d ≤ (63 : Int32) := nI_le (b := 63) h2 (by decide)
  have cg := c_gt (a := m % 2 ^ d) (b := 2 ^ (d - 1)) (by omega) (by omega)
  have ce := c_eq (a := m % 2 ^ d) (b := 2 ^ (d - 1)) (by omega) (by omega)
  have c2 : lg_cmp (lN (m / 2 ^ d % 2)) (1 : Int64) = 0 ↔ m / 2 ^ d % 2 = 1 := c_eq (b := 1) (by omega) (by decide)
  have r1 : ∀ x : Int64, f_I_rounded_JI_61 x = x + 1 := fun x => by unfold f_I_rounded_JI_61 f_I_rounded_JI_66; exact if_neg (by decide)
  have r2 : ∀ x : Int64, f_I_rounded_JI_65 x = x := fun x => by unfold f_I_rounded_JI_65 f_I_rounded_JI_66; exact if_pos rfl
  unfold f_I_rounded_JI
  rw [if_pos c0, if_pos c1]
  simp only [e1, e2, e3, e4, r1, r2]
  rw [rD_eq (V := m) (D := 2 ^ d) (q := m / 2 ^ d) (r := m % 2 ^ d) (by rw [Nat.mul_comm]; exact (Nat.div_add_mod m _).symm) hr]
  by_cases g1 : 2 ^ (d - 1) < m % 2 ^ d
  · rw [if_pos (cg.mpr g1), if_pos (by omega), lN_1]
  · rw [if_neg (fun q => g1 (cg.mp q))]
    by_cases g2 : m % 2 ^ d = 2 ^ (d - 1)
    · rw [if_pos (ce.mpr g2)]
      by_cases g3 : m / 2 ^ d % 2 = 1
      · rw [if_pos (c2.mpr g3), if_pos (by omega), lN_1]
      · rw [if_neg (fun q => g3 (c2.mp q)), if_neg (by omega), Nat.add_zero]
    · rw [if_neg (fun q => g2 (ce.mp q)), if_neg (by omega), Nat.add_zero]
theorem t_rfar {m d : Nat} (h1 : 64 ≤ d) (h2 : d < 2 ^ 31) : f_I_rounded_JI (lN m) (nI d) = lN 0 := by
  unfold f_I_rounded_JI
  have c0 : 0 < nI d := nI_lt (a := 0) (by omega) h2
  have c1 : ¬ nI d ≤ (63 : Int32) := nI_ge (a := 63) (by omega) h2
  rw [if_pos c0, if_neg c1]
  rfl
/-- m times 2 to the k, rounded by the shift d that the class reckons -/
theorem t_round {p L m k : Nat} {d : Int} (hm : m ≠ 0) (hm2 : m ≤ 2 ^ 63) (hp : 0 < p) (hp2 : p ≤ 64) (hk : k < 1000000) (hL : L < 1000000) (hd : d = max ((m.log2 : Int) + 1 - p) ((L : Int) - k)) :
    f_I_rounded_JI (lN m) (iZ d) = lN (rD (m * 2 ^ k) (2 ^ rsh p L (m * 2 ^ k))) ∧ (rsh p L (m * 2 ^ k) : Int) = k + d := by
  have hl : m.log2 < 64 := (Nat.log2_lt hm).mpr (by omega)
  have es : (rsh p L (m * 2 ^ k) : Int) = k + d := by rw [rs_sh hm, hd]; omega
  refine ⟨?_, es⟩
  have hs := rsh_ge p L (m * 2 ^ k)
  generalize rsh p L (m * 2 ^ k) = s at es hs
  rcases Int.lt_or_le 0 d with c | c
  · obtain ⟨e, he⟩ : ∃ e : Nat, d = e := ⟨d.toNat, by omega⟩
    subst he
    have e1 : s = k + e := by omega
    rw [iZ_n, e1]
    rcases Nat.lt_or_ge 63 e with g | g
    · rw [t_rfar (by omega) (by omega), rs_far hm2 (by omega)]
    · rw [t_rmid (by omega) (by omega) g, rs_mid]
  · obtain ⟨e, he⟩ : ∃ e : Nat, d = -(e : Int) := ⟨(-d).toNat, by omega⟩
    subst he
    have e1 : s = k - e := by omega
    rw [t_rlo (by omega), e1, rs_lo (by omega)]
theorem or_sg {s r : Nat} (hs : s < 2) (hr : r < 2 ^ 63) : lN (s * W64) ||| lN r = lN (s * W64 + r) := by
  have h1 : s * W64 ≤ 1 * W64 := Nat.mul_le_mul_right _ (by omega)
  have h2 : W64 = 9223372036854775808 := rfl
  rw [wb_or (by omega) (by omega)]
  exact congrArg lN (n_or (k := 63) hr)
theorem p52 : (2 : Nat) ^ (53 - 1) = 4503599627370496 := by decide
theorem rnd_fit {V : Nat} (h : rsh 53 1926 V - 1926 ≤ 2045) : rnd 53 1926 V ≤ I64 := by
  have h1 := rD_rsh_le (p := 53) (L := 1926) (V := V)
  have h3 : I64 = 9218868437227405312 := rfl
  unfold rnd
  rw [p52]
  generalize rD V (2 ^ rsh 53 1926 V) = q at h1 ⊢
  generalize rsh 53 1926 V - 1926 = y at h ⊢
  omega
theorem rnd_big {V : Nat} (h : 2045 < rsh 53 1926 V - 1926) : I64 ≤ rnd 53 1926 V := by
  have h1 : 2 ^ (53 - 1) ≤ rD V (2 ^ rsh 53 1926 V) := by
    rcases rD_rsh_norm (p := 53) (L := 1926) (V := V) (by decide) with c | c
    · omega
    · exact c
  have h3 : I64 = 9218868437227405312 := rfl
  unfold rnd
  rw [p52] at h1 ⊢
  generalize rD V (2 ^ rsh 53 1926 V) = q at h1 ⊢
  generalize rsh 53 1926 V - 1926 = y at h ⊢
  omega
theorem t_nearest {s m k : Nat} (hs : s < 2) (hm : m ≤ 2 ^ 63) (hk : k < 1000000) : f_I_nearest_JIJ (lN (s * W64)) (iZ ((k : Int) - 3000)) (lN m) = lN (s * W64 + enc 53 1926 I64 (m * 2 ^ k)) := by
  unfold f_I_nearest_JIJ
  have c := c_eq (a := m) (b := 0) (by omega) (by decide)
  by_cases h0 : m = 0
  · rw [if_pos (by rw [k_zero]; exact c.mpr h0), h0, Nat.zero_mul, enc_zero _ _ _ (by decide), Nat.add_zero]
  · rw [if_neg (fun q => h0 (by rw [k_zero] at q; exact c.mp q))]
    have hl : m.log2 < 64 := (Nat.log2_lt h0).mpr (by omega)
    have e1 : f_jM_max_II ((11 : Int32) - f_jL_numberOfLeadingZeros_J (lN m)) ((-1074 : Int32) - iZ ((k : Int) - 3000)) = iZ (max ((m.log2 : Int) + 1 - (53 : Nat)) (((1926 : Nat) : Int) - k)) := by
      rw [z_clz h0 (by omega), show (11 : Int32) = iZ 11 from rfl, show (-1074 : Int32) = iZ (-1074) from rfl, iZ_sub, iZ_sub, t_max (by omega) (by omega) (by omega) (by omega)]
      exact congrArg iZ (by omega)
    obtain ⟨d, hd⟩ : ∃ d : Int, d = max ((m.log2 : Int) + 1 - (53 : Nat)) (((1926 : Nat) : Int) - k) := ⟨_, rfl⟩
    rw [← hd] at e1
    obtain ⟨r1, r2⟩ := t_round (p := 53) (L := 1926) h0 hm (by decide) (by decide) hk (by decide) hd
    have hge := rsh_ge 53 1926 (m * 2 ^ k)
    have e2 : iZ ((k : Int) - 3000) + iZ d - (-1074 : Int32) = nI (rsh 53 1926 (m * 2 ^ k) - 1926) := by
      rw [show (-1074 : Int32) = iZ (-1074) from rfl, iZ_add, iZ_sub, ← iZ_n]
      exact congrArg iZ (by omega)
    simp only [e1, e2, r1]
    have hsh : rsh 53 1926 (m * 2 ^ k) < 2000000 := by omega
    have c2 : nI (rsh 53 1926 (m * 2 ^ k) - 1926) ≤ (2045 : Int32) ↔ rsh 53 1926 (m * 2 ^ k) - 1926 ≤ 2045 := nI_leI (b := 2045) (by omega) (by decide)
    by_cases h1 : rsh 53 1926 (m * 2 ^ k) - 1926 ≤ 2045
    · have hf := rnd_fit h1
      have he : enc 53 1926 I64 (m * 2 ^ k) = rnd 53 1926 (m * 2 ^ k) := Nat.min_eq_right hf
      rw [if_pos (c2.mpr h1), nI_l (by omega), show (52 : Int32) = nI 52 from rfl, w_shl _ (by decide), lN_add, he]
      exact or_sg hs (Nat.lt_of_le_of_lt hf I64_lt)
    · have hf := rnd_big (Nat.not_le.mp h1)
      have he : enc 53 1926 I64 (m * 2 ^ k) = I64 := Nat.min_eq_left hf
      rw [if_neg (fun q => h1 (c2.mp q)), k_inf, he]
      exact or_sg hs I64_lt
