/-! OUR OWN ROWS: casts, alike -/
def ZS (n : Nat) : Nat := if vexp 53 1926 (n % W64) < 3000 then vsig 53 (n % W64) / 2 ^ (3000 - vexp 53 1926 (n % W64)) else vsig 53 (n % W64) * 2 ^ (vexp 53 1926 (n % W64) - 3000)
theorem e_lt (n : Nat) : vexp 53 1926 (n % W64) < 4000 := by
  have := ef_lt n
  have e : vexp 53 1926 (n % W64) = n % W64 / 2 ^ 52 - 1 + 1926 := rfl
  rw [e]
  have : (2 : Nat) ^ 11 = 2048 := rfl
  omega
theorem ZS_lt {n : Nat} (h : ¬ 3010 < vexp 53 1926 (n % W64)) : ZS n < 2 ^ 63 := by
  have g := vsig_lt (p := 53) (b := n % W64) (by decide)
  unfold ZS
  split
  · exact Nat.lt_of_le_of_lt (Nat.div_le_self _ _) (Nat.lt_trans g (by decide))
  · have h1 : 2 ^ (vexp 53 1926 (n % W64) - 3000) ≤ 2 ^ 10 := Nat.pow_le_pow_right (by decide) (by omega)
    have h2 : vsig 53 (n % W64) * 2 ^ (vexp 53 1926 (n % W64) - 3000) ≤ vsig 53 (n % W64) * 2 ^ 10 := Nat.mul_le_mul_left _ h1
    have h3 : vsig 53 (n % W64) * 2 ^ 10 < 2 ^ 53 * 2 ^ 10 := Nat.mul_lt_mul_of_pos_right g (by decide)
    exact Nat.lt_of_le_of_lt h2 h3
theorem ZS_0 {n : Nat} (h : vexp 53 1926 (n % W64) < 2948) : ZS n = 0 := by
  have g := vsig_lt (p := 53) (b := n % W64) (by decide)
  unfold ZS
  rw [if_pos (by omega)]
  exact Nat.div_eq_of_lt (Nat.lt_of_lt_of_le g (Nat.pow_le_pow_right (by decide) (by omega)))
theorem t_tl {n : Nat} (h : n < 2 ^ 64) : f_I_toLong_J (lN n) = if I64 < n % W64 then lN 0 else if 3010 < vexp 53 1926 (n % W64) then (if n < W64 then (9223372036854775807 : Int64) else (-9223372036854775808 : Int64)) else if n < W64 then lN (ZS n) else -lN (ZS n) := by
  have na := z_isNo h
  have g := vsig_lt (p := 53) (b := n % W64) (by decide)
  have hE := e_lt n
  have hg := ge0 h
  have c64 : ∀ z, f_I_toLong_J_64 (lN n) z = if n < W64 then z else -z := by
    intro z
    unfold f_I_toLong_J_64
    by_cases q : n < W64
    · rw [if_pos (hg.mpr q), if_pos q]
    · rw [if_neg (fun r => q (hg.mp r)), if_neg q]
  unfold f_I_toLong_J
  by_cases g1 : I64 < n % W64
  · rw [if_neg (fun q => na.mp q g1), if_pos g1]; rfl
  rw [if_pos (na.mpr g1), if_neg g1, t_pow h, t_sig h]
  dsimp only
  have k1 : iZ ((vexp 53 1926 (n % W64) : Int) - 3000) ≤ (10 : Int32) ↔ (vexp 53 1926 (n % W64) : Int) - 3000 ≤ 10 := iZ_le (b := 10) (by omega) (by omega) (by decide) (by decide)
  have k2 : (-52 : Int32) ≤ iZ ((vexp 53 1926 (n % W64) : Int) - 3000) ↔ -52 ≤ (vexp 53 1926 (n % W64) : Int) - 3000 := by
    rw [show (-52 : Int32) = iZ (-52) from by decide]; exact iZ_le (by decide) (by decide) (by omega) (by omega)
  have k3 : (0 : Int32) ≤ iZ ((vexp 53 1926 (n % W64) : Int) - 3000) ↔ 0 ≤ (vexp 53 1926 (n % W64) : Int) - 3000 := iZ_le (a := 0) (by decide) (by decide) (by omega) (by omega)
  by_cases g2 : 3010 < vexp 53 1926 (n % W64)
  · rw [if_neg (fun q => absurd (k1.mp q) (by omega)), if_pos g2]
    by_cases q : n < W64
    · rw [if_pos (hg.mpr q), if_pos q]
    · rw [if_neg (fun r => q (hg.mp r)), if_neg q]
  rw [if_pos (k1.mpr (by omega)), if_neg g2]
  by_cases g3 : vexp 53 1926 (n % W64) < 2948
  · rw [if_neg (fun q => absurd (k2.mp q) (by omega)), ZS_0 g3]
    split <;> rfl
  rw [if_pos (k2.mpr (by omega))]
  by_cases g4 : vexp 53 1926 (n % W64) < 3000
  · have z1 : -iZ ((vexp 53 1926 (n % W64) : Int) - 3000) = nI (3000 - vexp 53 1926 (n % W64)) := by
      rw [iZ_neg, ← iZ_n]; exact congrArg iZ (by omega)
    have zs : ZS n = vsig 53 (n % W64) / 2 ^ (3000 - vexp 53 1926 (n % W64)) := by unfold ZS; rw [if_pos g4]
    rw [if_neg (fun q => absurd (k3.mp q) (by omega)), z1, w_ushr (Nat.lt_trans g (by decide)) (by omega), c64, zs]
  · have z1 : iZ ((vexp 53 1926 (n % W64) : Int) - 3000) = nI (vexp 53 1926 (n % W64) - 3000) := by
      rw [← iZ_n]; exact congrArg iZ (by omega)
    have zs : ZS n = vsig 53 (n % W64) * 2 ^ (vexp 53 1926 (n % W64) - 3000) := by unfold ZS; rw [if_neg g4]
    rw [if_pos (k3.mpr (by omega)), z1, w_shl _ (by omega), c64, zs]
theorem m_cut {n : Nat} (h : n < 2 ^ 64) (L G : Int64) : f_M_cutTo_JJJ (lN n) L G = if I64 < n % W64 then lN 0 else if 3010 < vexp 53 1926 (n % W64) then (if n < W64 then G else L) else if n < W64 then (if lg_cmp (lN (ZS n)) G ≤ 0 then lN (ZS n) else G) else (if 0 ≤ lg_cmp (-lN (ZS n)) L then -lN (ZS n) else L) := by
  have na : f_M_isNone_JI (lN n) (0 : Int32) = 0 ↔ ¬ I64 < n % W64 := y_isNo (f := 0) (by decide) h
  have ni : f_M_isInfinite_JI (lN n) (0 : Int32) = 0 ↔ ¬ n % W64 = I64 := y_isInf (f := 0) (by decide) h
  have g := vsig_lt (p := 53) (b := n % W64) (by decide)
  have hE := e_lt n
  have mn : f_M_minus_JI (lN n) (0 : Int32) = nI (n / W64) := m_minus (f := 0) (by decide) h
  have mw : f_M_whole_JI (lN n) (0 : Int32) = lN (vsig 53 (n % W64)) := m_whole (f := 0) (by decide) h
  have mp : f_M_power_JI (lN n) (0 : Int32) = iZ ((vexp 53 1926 (n % W64) : Int) - 3000) := m_power (f := 0) (by decide) h
  have s1 := sg_lt h
  have sq : n / W64 = 0 ↔ n < W64 := by
    constructor
    · exact fun q => Nat.lt_of_div_eq_zero (by decide) q
    · exact fun q => Nat.div_eq_of_lt q
  have sz : nI (n / W64) = 0 ↔ n < W64 := (nI_zero (by omega)).trans sq
  have c102 : ∀ z, f_M_cutTo_JJJ_102 L G (nI (n / W64)) z = if n < W64 then (if lg_cmp z G ≤ 0 then z else G) else (if 0 ≤ lg_cmp (-z) L then -z else L) := by
    intro z
    unfold f_M_cutTo_JJJ_102
    by_cases q : n < W64
    · rw [if_pos (sz.mpr q), if_pos q]
    · rw [if_neg (fun r => q (sz.mp r)), if_neg q]
  have c28 : ∀ z, f_M_cutTo_JJJ_28 (lN n) L G (nI (n / W64)) z = if 3010 < vexp 53 1926 (n % W64) then z else if n < W64 then (if lg_cmp (lN (ZS n)) G ≤ 0 then lN (ZS n) else G) else (if 0 ≤ lg_cmp (-lN (ZS n)) L then -lN (ZS n) else L) := by
    intro z
    unfold f_M_cutTo_JJJ_28
    by_cases g1 : n % W64 = I64
    · have : 3010 < vexp 53 1926 (n % W64) := by rw [g1]; decide
      rw [if_neg (fun q => ni.mp q g1), if_pos this]
    rw [if_pos (ni.mpr g1), mw, mp]
    dsimp only
    have k1 : iZ ((vexp 53 1926 (n % W64) : Int) - 3000) ≤ (10 : Int32) ↔ (vexp 53 1926 (n % W64) : Int) - 3000 ≤ 10 := iZ_le (b := 10) (by omega) (by omega) (by decide) (by decide)
    have k2 : (-62 : Int32) ≤ iZ ((vexp 53 1926 (n % W64) : Int) - 3000) ↔ -62 ≤ (vexp 53 1926 (n % W64) : Int) - 3000 := by
      rw [show (-62 : Int32) = iZ (-62) from by decide]; exact iZ_le (by decide) (by decide) (by omega) (by omega)
    have k3 : iZ ((vexp 53 1926 (n % W64) : Int) - 3000) < (0 : Int32) ↔ (vexp 53 1926 (n % W64) : Int) - 3000 < 0 := iZ_lt (b := 0) (by omega) (by omega) (by decide) (by decide)
    by_cases g2 : 3010 < vexp 53 1926 (n % W64)
    · have hs : ¬ lg_cmp (lN (vsig 53 (n % W64))) (0 : Int64) = 0 := by
        intro q
        have := (c_eq (a := vsig 53 (n % W64)) (b := 0) (Nat.lt_trans g (by decide)) (by decide)).mp q
        rcases vsig_norm (p := 53) (L := 1926) (b := n % W64) with c | c
        · omega
        · have p0 : 0 < 2 ^ (53 - 1) := q_pos _
          omega
      rw [if_neg (fun q => absurd (k1.mp q) (by omega)), if_neg hs, if_pos g2]
    rw [if_pos (k1.mpr (by omega)), if_neg g2, ← c102]
    unfold f_M_cutTo_JJJ_72
    by_cases g4 : vexp 53 1926 (n % W64) < 3000
    · rw [if_pos (k3.mpr (by omega))]
      by_cases g3 : vexp 53 1926 (n % W64) < 2938
      · rw [if_neg (fun q => absurd (k2.mp q) (by omega)), ZS_0 (by omega)]; rfl
      · have z1 : -iZ ((vexp 53 1926 (n % W64) : Int) - 3000) = nI (3000 - vexp 53 1926 (n % W64)) := by
          rw [iZ_neg, ← iZ_n]; exact congrArg iZ (by omega)
        have zs : ZS n = vsig 53 (n % W64) / 2 ^ (3000 - vexp 53 1926 (n % W64)) := by unfold ZS; rw [if_pos g4]
        rw [if_pos (k2.mpr (by omega)), z1, w_shr (Nat.lt_trans g (by decide)) (by omega), zs]
    · have z1 : iZ ((vexp 53 1926 (n % W64) : Int) - 3000) = nI (vexp 53 1926 (n % W64) - 3000) := by
        rw [← iZ_n]; exact congrArg iZ (by omega)
      have zs : ZS n = vsig 53 (n % W64) * 2 ^ (vexp 53 1926 (n % W64) - 3000) := by unfold ZS; rw [if_neg g4]
      rw [if_neg (fun q => absurd (k3.mp q) (by omega)), z1, w_shl _ (by omega), zs]
  unfold f_M_cutTo_JJJ
  by_cases g1 : I64 < n % W64
  · rw [if_neg (fun q => na.mp q g1), if_pos g1]; rfl
  rw [if_pos (na.mpr g1), if_neg g1, mn]
  dsimp only
  rw [c28, c28]
  by_cases q : n < W64
  · rw [if_pos (sz.mpr q), if_pos q, if_pos q]
  · rw [if_neg (fun r => q (sz.mp r)), if_neg q, if_neg q]
theorem Q_toLong (x : Int64) : f_I_toLong_J x = f_M_cutTo_JJJ x (-9223372036854775808 : Int64) (9223372036854775807 : Int64) := by
  obtain ⟨n, h, rfl⟩ := l_of x
  rw [t_tl h, m_cut h]
  by_cases g1 : I64 < n % W64
  · rw [if_pos g1, if_pos g1]
  rw [if_neg g1, if_neg g1]
  by_cases g2 : 3010 < vexp 53 1926 (n % W64)
  · rw [if_pos g2, if_pos g2]
  rw [if_neg g2, if_neg g2]
  have hz := ZS_lt g2
  by_cases q : n < W64
  · have : lg_cmp (lN (ZS n)) (9223372036854775807 : Int64) ≤ 0 := (c_le (b := 9223372036854775807) hz (by decide)).mpr (by omega)
    rw [if_pos q, if_pos q, if_pos this]
  · have : 0 ≤ lg_cmp (-lN (ZS n)) (-9223372036854775808 : Int64) := by
      rw [lg_cmp_ge, Int64.le_iff_toInt_le, l_tni hz]
      have e : (-9223372036854775808 : Int64).toInt = -9223372036854775808 := by decide
      rw [e]; omega
    rw [if_neg q, if_neg q, if_pos this]
theorem max_ti (x y : Int64) : (f_jM_max_JJ x y).toInt = max x.toInt y.toInt := by
  unfold f_jM_max_JJ
  split
  · next q => rw [lg_cmp_lt, Int64.lt_iff_toInt_lt] at q; omega
  · next q => rw [lg_cmp_lt, Int64.lt_iff_toInt_lt] at q; omega
theorem min_ti (x y : Int64) : (f_jM_min_JJ x y).toInt = min x.toInt y.toInt := by
  unfold f_jM_min_JJ
  split
  · next q => rw [lg_cmp_gt, Int64.lt_iff_toInt_lt] at q; omega
  · next q => rw [lg_cmp_gt, Int64.lt_iff_toInt_lt] at q; omega
theorem Q_toInt (x : Int64) : f_I_toInt_J x = (f_M_cutTo_JJJ x (-2147483648 : Int64) (2147483647 : Int64)).toInt32 := by
  unfold f_I_toInt_J
  refine congrArg Int64.toInt32 ?_
  apply Int64.toInt_inj.mp
  obtain ⟨n, h, rfl⟩ := l_of x
  have e1 : (-2147483648 : Int64).toInt = -2147483648 := by decide
  have e2 : (2147483647 : Int64).toInt = 2147483647 := by decide
  have e3 : (-9223372036854775808 : Int64).toInt = -9223372036854775808 := by decide
  have e4 : (9223372036854775807 : Int64).toInt = 9223372036854775807 := by decide
  rw [max_ti, min_ti, t_tl h, m_cut h, e1, e2]
  by_cases g1 : I64 < n % W64
  · rw [if_pos g1, if_pos g1]; decide
  rw [if_neg g1, if_neg g1]
  by_cases g2 : 3010 < vexp 53 1926 (n % W64)
  · rw [if_pos g2, if_pos g2]
    by_cases q : n < W64
    · rw [if_pos q, if_pos q]; decide
    · rw [if_neg q, if_neg q]; decide
  rw [if_neg g2, if_neg g2]
  have hz := ZS_lt g2
  by_cases q : n < W64
  · rw [if_pos q, if_pos q, l_ti hz]
    by_cases r : lg_cmp (lN (ZS n)) (2147483647 : Int64) ≤ 0
    · rw [if_pos r, l_ti hz]
      rw [lg_cmp_le, Int64.le_iff_toInt_le, l_ti hz, e2] at r
      omega
    · rw [if_neg r, e2]
      rw [lg_cmp_le, Int64.le_iff_toInt_le, l_ti hz, e2] at r
      omega
  · rw [if_neg q, if_neg q, l_tni hz]
    by_cases r : 0 ≤ lg_cmp (-lN (ZS n)) (-2147483648 : Int64)
    · rw [if_pos r, l_tni hz]
      rw [lg_cmp_ge, Int64.le_iff_toInt_le, l_tni hz, e1] at r
      omega
    · rw [if_neg r, e1]
      rw [lg_cmp_ge, Int64.le_iff_toInt_le, l_tni hz, e1] at r
      omega
theorem T_cut (x L G : Int64) : f_M_cutTo_JJJ (f_M_told_J x) L G = f_M_cutTo_JJJ x L G := by
  obtain ⟨n, h, rfl⟩ := l_of x
  rw [m_told0 h]
  rcases told_sort n with ⟨g, e⟩ | ⟨g, e⟩
  · rw [e, m_cut (by decide), m_cut h, if_pos N64_gt, if_pos g]
  · rw [e]
