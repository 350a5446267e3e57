/-! OUR OWN ROWS: the reference's remainder; remainders alike -/
theorem m_rest {f a b : Nat} (h : f < 2) (ha : a < 2 * fW f) (hb : b < 2 * fW f) : f_M_rest_JJI (lN a) (lN b) (nI f) = lN (remF (fP f) (fL f) (fI f) (fN f) (fW f) a b) := by
  have hn := f_num h
  have a64 := m_ok h ha
  have b64 := m_ok h hb
  have na := y_isNo h a64
  have nb := y_isNo h b64
  have ia := y_isInf h a64
  have ib := y_isInf h b64
  have zb := y_isZero h b64
  have sa := m_slt ha
  unfold f_M_rest_JJI
  by_cases h1 : fI f < a % fW f
  · have e : remF (fP f) (fL f) (fI f) (fN f) (fW f) a b = fN f := if_pos (Or.inl h1)
    rw [if_neg (fun q => na.mp q h1), e, m_none h]
  rw [if_pos (na.mpr h1)]
  by_cases h2 : fI f < b % fW f
  · have e : remF (fP f) (fL f) (fI f) (fN f) (fW f) a b = fN f := if_pos (Or.inr (Or.inl h2))
    rw [if_neg (fun q => nb.mp q h2), e, m_none h]
  rw [if_pos (nb.mpr h2)]
  by_cases h3 : a % fW f = fI f
  · have e : remF (fP f) (fL f) (fI f) (fN f) (fW f) a b = fN f := if_pos (Or.inr (Or.inr (Or.inl h3)))
    rw [if_neg (fun q => ia.mp q h3), e, m_none h]
  rw [if_pos (ia.mpr h3)]
  by_cases h4 : b % fW f = 0
  · have e : remF (fP f) (fL f) (fI f) (fN f) (fW f) a b = fN f := if_pos (Or.inr (Or.inr (Or.inr h4)))
    rw [if_neg (fun q => zb.mp q h4), e, m_none h]
  rw [if_pos (zb.mpr h4)]
  have er : remF (fP f) (fL f) (fI f) (fN f) (fW f) a b = if a % fW f < b % fW f then a else a / fW f * fW f + enc (fP f) (fL f) (fI f) (val (fP f) (fL f) (a % fW f) % val (fP f) (fL f) (b % fW f)) := by
    unfold remF; rw [if_neg (show ¬ (fI f < a % fW f ∨ fI f < b % fW f ∨ a % fW f = fI f ∨ b % fW f = 0) by omega)]
  rw [er]
  have fa : a % fW f < fI f := by omega
  by_cases h5 : b % fW f = fI f
  · rw [if_neg (fun q => ib.mp q h5), if_pos (by omega)]
  rw [if_pos (ib.mpr h5), m_size h a64, m_size h b64]
  have c := c_ge (m_mlt3 h a) (m_mlt3 h b)
  by_cases h6 : a % fW f < b % fW f
  · rw [if_neg (fun q => by have := c.mp q; omega), if_pos h6]
  rw [if_pos (c.mpr (Nat.not_lt.mp h6)), if_neg h6]
  have fb : b % fW f < fI f := by omega
  have sX := vsig_lt (p := fP f) (b := a % fW f) hn.2.1
  have sY := vsig_lt (p := fP f) (b := b % fW f) hn.2.1
  have hp53 : 2 ^ fP f ≤ 2 ^ 53 := Nat.pow_le_pow_right (by decide) hn.2.2.1
  have Y0 : vsig (fP f) (b % fW f) ≠ 0 := fun q => h4 (vsig_0 (L := fL f) hn.2.1 q)
  have ka := m_sh h fa
  have kb := vexp_ge (fP f) (fL f) (b % fW f)
  have kl := vexp_le (p := fP f) (L := fL f) (Nat.not_lt.mp h6)
  have ed : iZ ((vexp (fP f) (fL f) (a % fW f) : Int) - 3000) - iZ ((vexp (fP f) (fL f) (b % fW f) : Int) - 3000) = nI (vexp (fP f) (fL f) (a % fW f) - vexp (fP f) (fL f) (b % fW f)) := by
    rw [iZ_sub, ← iZ_n]; exact congrArg iZ (by omega)
  have hr := Nat.mod_lt (vsig (fP f) (a % fW f)) (Nat.pos_of_ne_zero Y0)
  have c0 : 0 ≤ nI (vexp (fP f) (fL f) (a % fW f) - vexp (fP f) (fL f) (b % fW f)) := nI_pos' (by omega)
  have lp := m_142 (f := f) (a := a) (b := b) (x := lN a) (y := lN b) (Y := vsig (fP f) (b % fW f)) (Nat.pos_of_ne_zero Y0) (by omega) (D := vexp (fP f) (fL f) (a % fW f) - vexp (fP f) (fL f) (b % fW f)) (by omega) (nI f) (vexp (fP f) (fL f) (a % fW f) - vexp (fP f) (fL f) (b % fW f) + 1) 0 (vsig (fP f) (a % fW f) % vsig (fP f) (b % fW f)) (Nat.zero_le _) (by omega) hr
  have ex := l_rem (a := vsig (fP f) (a % fW f)) (b := vsig (fP f) (b % fW f)) (by omega) (by omega)
  have cl : (nI (vexp (fP f) (fL f) (a % fW f) - vexp (fP f) (fL f) (b % fW f))).toNatClampNeg = vexp (fP f) (fL f) (a % fW f) - vexp (fP f) (fL f) (b % fW f) := nI_clamp (by omega)
  have e2 : vsig (fP f) (a % fW f) % vsig (fP f) (b % fW f) * 2 ^ (vexp (fP f) (fL f) (a % fW f) - vexp (fP f) (fL f) (b % fW f)) % vsig (fP f) (b % fW f) = vsig (fP f) (a % fW f) * 2 ^ (vexp (fP f) (fL f) (a % fW f) - vexp (fP f) (fL f) (b % fW f)) % vsig (fP f) (b % fW f) := Nat.mod_mul_mod ..
  have hm := Nat.mod_lt (vsig (fP f) (a % fW f) * 2 ^ (vexp (fP f) (fL f) (a % fW f) - vexp (fP f) (fL f) (b % fW f))) (Nat.pos_of_ne_zero Y0)
  have e3 : vexp (fP f) (fL f) (a % fW f) - vexp (fP f) (fL f) (b % fW f) + vexp (fP f) (fL f) (b % fW f) = vexp (fP f) (fL f) (a % fW f) := by omega
  rw [m_whole h a64, m_whole h b64, m_power h a64, m_power h b64]
  dsimp only
  rw [ed, if_pos c0, ex, cl]
  rw [show (0 : Int32) = nI 0 from rfl, lp, Nat.sub_zero, e2, m_minus h ha, m_power h b64]
  have fin := m_exact (k := vexp (fP f) (fL f) (b % fW f)) h sa (Nat.lt_of_lt_of_le hm (by omega)) (by omega)
  rw [fin, ← rem_scale, e3]
  rfl
theorem Q_rem (x y : Int64) : f_I_remainder_JJ (f_M_told_J x) (f_M_told_J y) = f_M_told_J (f_M_rest_JJI x y (0 : Int32)) := by
  obtain ⟨a, ha, rfl⟩ := l_of x
  obtain ⟨b, hb, rfl⟩ := l_of y
  have e1 : f_M_rest_JJI (lN a) (lN b) (0 : Int32) = lN (remF 53 1926 I64 N64 W64 a b) := m_rest (f := 0) (by decide) ha hb
  have hl : remF 53 1926 I64 N64 W64 a b < 2 ^ 64 := by
    unfold remF; split
    · decide
    · split
      · exact ha
      · exact sW_lt (sg_lt ha) (enc_le _ _ _ _)
  rw [m_told0 ha, m_told0 hb, t_rem (told_lt ha) (told_lt hb), e1, m_told0 hl, remF_td]
theorem Q_frem {a b : Nat} (ha : a < 2 ^ 32) (hb : b < 2 ^ 32) : f_I_remainder_JJ (f_M_toDouble_J (lN a)) (f_M_toDouble_J (lN b)) = f_M_toDouble_J (f_M_rest_JJI (lN a) (lN b) (1 : Int32)) := by
  have e1 : f_M_rest_JJI (lN a) (lN b) (1 : Int32) = lN (remF 24 2851 I32 N32 W32 a b) := m_rest (f := 1) (by decide) ha hb
  have hl : remF 24 2851 I32 N32 W32 a b < 2 ^ 32 := by
    unfold remF; split
    · decide
    · split
      · exact ha
      · exact sW32 (sg32 ha) (enc_le _ _ _ _)
  rw [m_toDouble ha, m_toDouble hb, t_rem (tD_lt ha) (tD_lt hb), e1, m_toDouble hl, flt_rem]
