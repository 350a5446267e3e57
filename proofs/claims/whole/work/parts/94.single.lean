/-! OUR OWN ROWS: the difference of floats, and a float's bits, alike -/
def tn32 (a : Nat) : Nat := if a < W32 then a + W32 else a - W32
theorem n_x31 {x : Nat} (h : x < 2 ^ 31) : x ^^^ 2 ^ 31 = 2 ^ 31 + x := by
  apply Nat.eq_of_testBit_eq
  intro i
  rw [Nat.testBit_xor, Nat.testBit_two_pow]
  rcases Nat.lt_trichotomy i 31 with c | c | c
  · rw [Nat.testBit_two_pow_add_gt c]
    simp [show ¬ 31 = i by omega]
  · subst c
    rw [Nat.testBit_two_pow_add_eq]
    simp
  · have a1 : 2 ^ 32 ≤ 2 ^ i := Nat.pow_le_pow_right (by decide) c
    rw [Nat.testBit_lt_two_pow (show 2 ^ 31 + x < 2 ^ i by omega), Nat.testBit_lt_two_pow (show x < 2 ^ i by omega)]
    simp [show ¬ 31 = i by omega]
theorem n_tn32 {a : Nat} (h : a < 2 ^ 32) : a ^^^ 2 ^ 31 = tn32 a := by
  unfold tn32
  have w : W32 = 2147483648 := rfl
  by_cases c : a < W32
  · rw [if_pos c, n_x31 (by omega), Nat.add_comm]
  · rw [if_neg c]
    obtain ⟨m, hm⟩ : ∃ m, a = 2 ^ 31 + m := ⟨a - 2 ^ 31, by omega⟩
    have h2 : m < 2 ^ 31 := by omega
    have e : a - W32 = m := by omega
    rw [e, hm, ← n_x31 h2, Nat.xor_assoc, Nat.xor_self, Nat.xor_zero]
theorem tn32_lt {a : Nat} (h : a < 2 ^ 32) : tn32 a < 2 ^ 32 := by
  unfold tn32
  have w : W32 = 2147483648 := rfl
  split <;> omega
theorem m_turned1 {a : Nat} (ha : a < 2 ^ 32) : f_M_turned_JI (lN a) (nI 1) = lN (tn32 a) := by
  unfold f_M_turned_JI
  rw [m_wide (f := 1) (by decide), l_pw (by decide), w_xor (by omega) (by decide)]
  exact congrArg lN (n_tn32 ha)
theorem tD_tn {b : Nat} (hb : b < 2 ^ 32) (h : ¬ I32 < b % W32) : tn (tD b) = tD (tn32 b) := by
  have w : W32 = 2147483648 := rfl
  have w6 : W64 = 9223372036854775808 := rfl
  have i6 : I64 = 9218868437227405312 := rfl
  have c := cvt_le (Nat.not_lt.mp h)
  have e0 : tD b = b / W32 * W64 + cvt (b % W32) := by unfold tD; rw [if_neg h]
  by_cases g : b < W32
  · have e1 : tn32 b = b + W32 := by unfold tn32; rw [if_pos g]
    have e2 : (b + W32) % W32 = b % W32 := Nat.add_mod_right _ _
    have e3 : (b + W32) / W32 = 1 := by rw [Nat.add_div_right _ (by decide), Nat.div_eq_of_lt g]
    have e4 : b / W32 = 0 := Nat.div_eq_of_lt g
    have e5 : tD (b + W32) = (b + W32) / W32 * W64 + cvt ((b + W32) % W32) := by unfold tD; rw [e2, if_neg h]
    rw [e1, e5, e2, e3, e0, e4, Nat.zero_mul, Nat.zero_add]
    unfold tn
    rw [if_pos (show cvt (b % W32) < W64 by omega)]
    omega
  · have e1 : tn32 b = b - W32 := by unfold tn32; rw [if_neg g]
    have e2 : b % W32 = b - W32 := by rw [Nat.mod_eq_sub_mod (Nat.not_lt.mp g), Nat.mod_eq_of_lt (by omega)]
    have e3 : b / W32 = 1 := by
      have a1 := sg32 hb
      have a2 : b / W32 ≠ 0 := fun q => g (Nat.lt_of_div_eq_zero (by decide) q)
      exact Nat.le_antisymm (Nat.le_of_lt_succ a1) (Nat.pos_of_ne_zero a2)
    have e6 : (b - W32) % W32 = b - W32 := Nat.mod_eq_of_lt (by omega)
    have e7 : (b - W32) / W32 = 0 := Nat.div_eq_of_lt (by omega)
    have e5 : tD (b - W32) = (b - W32) / W32 * W64 + cvt ((b - W32) % W32) := by unfold tD; rw [e6, ← e2, if_neg h]
    rw [e1, e5, e6, e7, e0, e3, Nat.zero_mul, Nat.zero_add, Nat.one_mul, e2]
    unfold tn
    rw [if_neg (show ¬ W64 + cvt (b - W32) < W64 by omega)]
    omega
theorem m_sub1 {a b : Nat} (ha : a < 2 ^ 32) (hb : b < 2 ^ 32) : f_M_subtract_JJI (lN a) (lN b) (1 : Int32) = lN (if I32 < b % W32 then N32 else addF 24 2851 I32 N32 W32 a (tn32 b)) := by
  have nb := y_isNo (f := 1) (a := b) (by decide) (by omega)
  have e0 : f_M_subtract_JJI (lN a) (lN b) (1 : Int32) = if f_M_isNone_JI (lN b) (nI 1) = 0 then f_M_add_JJI (lN a) (f_M_turned_JI (lN b) (nI 1)) (nI 1) else f_M_none_I (nI 1) := rfl
  rw [e0]
  by_cases g : I32 < b % W32
  · rw [if_neg (fun q => nb.mp q g), if_pos g, m_none (f := 1) (by decide)]; rfl
  · rw [if_pos (nb.mpr g), if_neg g, m_turned1 hb]
    exact m_add1 ha (tn32_lt hb)
theorem sub1_lt {a b : Nat} (ha : a < 2 ^ 32) (hb : b < 2 ^ 32) : (if I32 < b % W32 then N32 else addF 24 2851 I32 N32 W32 a (tn32 b)) < 2 ^ 32 := by
  split
  · decide
  · exact addF32_lt ha (tn32_lt hb)
theorem Q_fsub {a b : Nat} (ha : a < 2 ^ 32) (hb : b < 2 ^ 32) : f_I_toFloat_J (f_I_difference_JJ (f_M_toDouble_J (lN a)) (f_M_toDouble_J (lN b))) = f_M_toDouble_J (f_M_subtract_JJI (lN a) (lN b) (1 : Int32)) := by
  rw [m_toDouble ha, m_toDouble hb, t_diff (tD_lt ha) (tD_lt hb), t_toFloat (addF_lt (tD_lt ha) (tn_lt (tD_lt hb))), m_sub1 ha hb, m_toDouble (sub1_lt ha hb)]
  refine congrArg lN ?_
  by_cases g : I32 < b % W32
  · have e1 : tD b = N64 := by unfold tD; rw [if_pos g]
    have e2 : addF 53 1926 I64 N64 W64 (tD a) (tn N64) = N64 := if_pos (Or.inr (by decide))
    have e3 : tD N32 = N64 := if_pos (by decide)
    have e4 : toF N64 = N64 := if_pos (by decide)
    rw [if_pos g, e1, e2, e3, e4]
  · rw [if_neg g, tD_tn hb g, flt_add]
-- a float's bits
theorem cvt_norm {m : Nat} (h1 : 2 ^ 23 ≤ m) (h : m < I32) : cvt m = m * 2 ^ 29 + 896 * 2 ^ 52 := by
  apply val_inj (p := 53) (L := 1926) (by decide)
  rw [cvt_val h]
  obtain ⟨E, F, hm, hF⟩ := q_mk (D := 2 ^ 23) m (by decide)
  have i2 : I32 = 2139095040 := rfl
  have hE : 0 < E := by
    rcases Nat.eq_zero_or_pos E with q | q
    · subst q; omega
    · exact q
  obtain ⟨d1, d2⟩ := q_div hm hF
  have hX : m * 2 ^ 29 + 896 * 2 ^ 52 = (E + 896) * 2 ^ 52 + F * 2 ^ 29 := by omega
  obtain ⟨d3, d4⟩ := q_div hX (by omega)
  have v1 : val 24 2851 m = (F + 2 ^ 23) * 2 ^ (E - 1 + 2851) := by
    show vsig 24 m * 2 ^ (m / 2 ^ 23 - 1 + 2851) = _
    have : vsig 24 m = m % 2 ^ 23 + 2 ^ 23 := if_neg (show ¬ m / 2 ^ 23 = 0 by omega)
    rw [this, d1, d2]
  have v2 : val 53 1926 (m * 2 ^ 29 + 896 * 2 ^ 52) = (F * 2 ^ 29 + 2 ^ 52) * 2 ^ (E + 896 - 1 + 1926) := by
    show vsig 53 (m * 2 ^ 29 + 896 * 2 ^ 52) * 2 ^ ((m * 2 ^ 29 + 896 * 2 ^ 52) / 2 ^ 52 - 1 + 1926) = _
    have : vsig 53 (m * 2 ^ 29 + 896 * 2 ^ 52) = (m * 2 ^ 29 + 896 * 2 ^ 52) % 2 ^ 52 + 2 ^ 52 := if_neg (show ¬ (m * 2 ^ 29 + 896 * 2 ^ 52) / 2 ^ 52 = 0 by omega)
    rw [this, d3, d4]
  have e1 : F * 2 ^ 29 + 2 ^ 52 = (F + 2 ^ 23) * 2 ^ 29 := by
    rw [Nat.add_mul, ← Nat.pow_add]
  rw [v1, v2, e1, Nat.mul_assoc, ← Nat.pow_add]
  exact congrArg (fun k => (F + 2 ^ 23) * 2 ^ k) (by omega)
theorem cvt_sub {m : Nat} (h0 : m ≠ 0) (h1 : m < 2 ^ 23) : vexp 53 1926 (cvt m) < 2851 ∧ 2790 < vexp 53 1926 (cvt m) ∧ vsig 53 (cvt m) / 2 ^ (2851 - vexp 53 1926 (cvt m)) = m := by
  have i2 : I32 = 2139095040 := rfl
  have hv := cvt_val (m := m) (by omega)
  have v1 : val 24 2851 m = m * 2 ^ 2851 := by
    have q : m / 2 ^ 23 = 0 := Nat.div_eq_of_lt h1
    show vsig 24 m * 2 ^ (m / 2 ^ 23 - 1 + 2851) = _
    have : vsig 24 m = m := if_pos q
    rw [this, q]
  have v2 : val 53 1926 (cvt m) = vsig 53 (cvt m) * 2 ^ vexp 53 1926 (cvt m) := rfl
  rw [v1, v2] at hv
  have hs := vsig_lt (p := 53) (b := cvt m) (by decide)
  have hn := vsig_norm (p := 53) (L := 1926) (b := cvt m)
  generalize vsig 53 (cvt m) = g at hv hs hn ⊢
  generalize vexp 53 1926 (cvt m) = e at hv hn ⊢
  have k1 : 2798 < e := by
    rcases Nat.lt_or_ge 2798 e with c | c
    · exact c
    · exfalso
      have a1 : g * 2 ^ e ≤ g * 2 ^ 2798 := Nat.mul_le_mul_left _ (Nat.pow_le_pow_right (by decide) c)
      have a2 : g * 2 ^ 2798 < 2 ^ 53 * 2 ^ 2798 := Nat.mul_lt_mul_of_pos_right hs (q_pos _)
      have a3 : 2 ^ 2851 = 2 ^ 53 * 2 ^ 2798 := q_pm rfl
      have a4 : 1 * 2 ^ 2851 ≤ m * 2 ^ 2851 := Nat.mul_le_mul_right _ (by omega)
      rw [Nat.one_mul, a3] at a4
      rw [hv, a3] at a1
      exact absurd (Nat.lt_of_le_of_lt (Nat.le_trans a4 a1) a2) (Nat.lt_irrefl _)
  have k2 : 2 ^ 52 ≤ g := hn.elim (fun q => by omega) (fun q => q)
  have k3 : e < 2822 := by
    rcases Nat.lt_or_ge e 2822 with c | c
    · exact c
    · exfalso
      have a1 : g * 2 ^ 2822 ≤ g * 2 ^ e := Nat.mul_le_mul_left _ (Nat.pow_le_pow_right (by decide) c)
      have a2 : 2 ^ 52 * 2 ^ 2822 ≤ g * 2 ^ 2822 := Nat.mul_le_mul_right _ k2
      have a3 : 2 ^ 2874 = 2 ^ 52 * 2 ^ 2822 := q_pm rfl
      have a4 : 2 ^ 2874 = 2 ^ 23 * 2 ^ 2851 := q_pm rfl
      have a5 : m * 2 ^ 2851 < 2 ^ 23 * 2 ^ 2851 := Nat.mul_lt_mul_of_pos_right h1 (q_pos _)
      rw [← a4] at a5
      rw [hv] at a1
      rw [← a3] at a2
      exact absurd (Nat.lt_of_le_of_lt (Nat.le_trans a2 a1) a5) (Nat.lt_irrefl _)
  refine ⟨by omega, by omega, ?_⟩
  have a1 : 2 ^ 2851 = 2 ^ (2851 - e) * 2 ^ e := q_pm (by omega)
  rw [a1, ← Nat.mul_assoc] at hv
  have a2 := Nat.eq_of_mul_eq_mul_right (q_pos e) hv
  rw [a2]
  exact Nat.mul_div_cancel _ (q_pos _)
theorem l2i {k : Nat} (h : k < 2 ^ 32) : (lN k).toInt32 = nI k := by
  apply i_inj
  show ((lN k).toBitVec.signExtend 32).toNat = _
  rw [nI_tn h]
  rw [BitVec.signExtend_eq_setWidth_of_le _ (by decide), BitVec.toNat_setWidth, wb_tn (by omega)]
  exact Nat.mod_eq_of_lt h
theorem i_org {s m : Nat} (hs : s < 2) (hm : m < 2 ^ 31) : nI (s * 2 ^ 31) ||| nI m = nI (s * W32 + m) := by
  rw [i_or (by omega) (by omega), n_or hm]
theorem t_fn {m : Nat} (g2 : 2 ^ 23 ≤ m) (cn : cvt m = m * 2 ^ 29 + 896 * 2 ^ 52) : lN (cvt m) - (4039728865751334912 : Int64) = lN ((m - 2 ^ 23) * 2 ^ 29) := by
  have q : m * 2 ^ 29 = (m - 2 ^ 23) * 2 ^ 29 + 2 ^ 23 * 2 ^ 29 := by rw [← Nat.add_mul, Nat.sub_add_cancel g2]
  have q2 : 2 ^ 23 * 2 ^ 29 + 896 * 2 ^ 52 = 4039728865751334912 := by decide
  have c1 : cvt m = (m - 2 ^ 23) * 2 ^ 29 + 4039728865751334912 := cn.trans ((congrArg (fun z => z + 896 * 2 ^ 52) q).trans ((Nat.add_assoc _ _ _).trans (congrArg (fun z => (m - 2 ^ 23) * 2 ^ 29 + z) q2)))
  rw [c1]
  generalize (m - 2 ^ 23) * 2 ^ 29 = d
  have a : lN (d + 4039728865751334912) = lN d + lN 4039728865751334912 := Int64.ofNat_add _ _
  rw [a]
  exact Int64.add_sub_cancel _ _
theorem t_fb22 {s m : Nat} (hs : s < 2) (hm : m ≤ I32) : f_I_floatBits_J_22 (lN (s * W64 + cvt m)) (nI (s * 2 ^ 31)) = nI (s * W32 + m) := by
  have i2 : I32 = 2139095040 := rfl
  have i6 : I64 = 9218868437227405312 := rfl
  have w6 : W64 = 9223372036854775808 := rfl
  have c0 := cvt_le hm
  have h64 : s * W64 + cvt m < 2 ^ 64 := sW_lt hs c0
  have hmod : (s * W64 + cvt m) % W64 = cvt m := (q_split (by omega)).2
  have e1 : lN (s * W64 + cvt m) &&& (9223372036854775807 : Int64) = lN (cvt m) := a_magS hs (by omega)
  unfold f_I_floatBits_J_22
  rw [e1, t_sig h64, t_pow h64, hmod]
  dsimp only
  have k1 : lg_cmp (lN (cvt m)) (9218868437227405312 : Int64) = 0 ↔ cvt m = I64 := c_eq (b := I64) (by omega) (by decide)
  have k2 : lg_cmp (lN (cvt m)) (4039728865751334912 : Int64) < 0 ↔ cvt m < 4039728865751334912 := c_lt (b := 4039728865751334912) (by omega) (by decide)
  have k3 : lg_cmp (lN (cvt m)) (0 : Int64) = 0 ↔ cvt m = 0 := c_eq (b := 0) (by omega) (by decide)
  by_cases g1 : m = I32
  · have : cvt m = I64 := by rw [g1, cvt_I]
    rw [if_pos (k1.mpr this), g1]
    exact i_org hs (by decide)
  have hlt : m < I32 := by omega
  have cl := cvt_lt hlt
  rw [if_neg (fun q => absurd (k1.mp q) (by omega))]
  by_cases g2 : m < 2 ^ 23
  · have cn : cvt (2 ^ 23) = 4039728865751334912 := by
      have q2 : 2 ^ 23 * 2 ^ 29 + 896 * 2 ^ 52 = 4039728865751334912 := by decide
      rw [cvt_norm (by decide) (by decide), q2]
    have lt1 : cvt m < cvt (2 ^ 23) := by
      apply (val_lt_iff (p := 53) (L := 1926) (by decide)).mp
      rw [cvt_val hlt, cvt_val (by decide)]
      exact val_lt (by decide) g2
    rw [if_pos (k2.mpr (by omega))]
    by_cases g3 : m = 0
    · have : cvt m = 0 := by rw [g3, cvt_zero]
      rw [if_pos (k3.mpr this), g3, Nat.add_zero]
    · have cs := cvt_sub g3 g2
      have z1 : (-149 : Int32) - iZ ((vexp 53 1926 (cvt m) : Int) - 3000) = nI (2851 - vexp 53 1926 (cvt m)) := by
        rw [show (-149 : Int32) = iZ (-149) from by decide, iZ_sub, ← iZ_n]
        exact congrArg iZ (by omega)
      have hsg := vsig_lt (p := 53) (b := cvt m) (by decide)
      rw [if_neg (fun q => g3 (cvt_pos hlt (k3.mp q))), z1, w_ushr (Nat.lt_trans hsg (by decide)) (by omega), cs.2.2, l2i (by omega)]
      exact i_org hs (by omega)
  · have cn := cvt_norm (Nat.not_lt.mp g2) hlt
    have e2 : lN (cvt m) - (4039728865751334912 : Int64) = lN ((m - 2 ^ 23) * 2 ^ 29) := t_fn (Nat.not_lt.mp g2) cn
    have hq : (m - 2 ^ 23) * 2 ^ 29 < 2 ^ 64 := by
      have : 2 ^ 64 = 2 ^ 35 * 2 ^ 29 := q_pm rfl
      rw [this]
      exact Nat.mul_lt_mul_of_pos_right (Nat.lt_of_le_of_lt (Nat.sub_le _ _) (Nat.lt_trans hlt (by decide))) (q_pos _)
    have e3 : j_ushr (lN ((m - 2 ^ 23) * 2 ^ 29)) (29 : Int32) = lN (m - 2 ^ 23) := by
      rw [show (29 : Int32) = nI 29 from rfl, w_ushr hq (by decide), Nat.mul_div_cancel _ (q_pos _)]
    have e4 : nI (m - 2 ^ 23) + (8388608 : Int32) = nI m := by
      rw [show (8388608 : Int32) = iZ 8388608 from by decide, ← iZ_n, iZ_add, ← iZ_n]
      exact congrArg iZ (by omega)
    rw [if_neg (fun q => absurd (k2.mp q) (by omega)), e2, e3, l2i (by omega), e4]
    exact i_org hs (by omega)
theorem t_fbits {f : Nat} (hf : f < 2 ^ 32) (h : f = N32 ∨ ¬ I32 < f % W32) : f_I_floatBits_J (lN (tD f)) = nI f := by
  rcases h with h | h
  · subst h
    have e3 : tD N32 = N64 := if_pos (by decide)
    have nn := z_isNo (n := N64) (by decide)
    unfold f_I_floatBits_J
    rw [e3, if_neg (fun q => nn.mp q (by decide))]; rfl
  · have hs := sg32 hf
    have c0 := cvt_le (Nat.not_lt.mp h)
    have i6 : I64 = 9218868437227405312 := rfl
    have w6 : W64 = 9223372036854775808 := rfl
    have h64 : f / W32 * W64 + cvt (f % W32) < 2 ^ 64 := sW_lt hs c0
    have hsp := q_split (s := f / W32) (m := cvt (f % W32)) (w := W64) (by omega)
    have e0 : tD f = f / W32 * W64 + cvt (f % W32) := by unfold tD; rw [if_neg h]
    have nn := z_isNo h64
    have hg := ge0 h64
    have t22 := t_fb22 hs (Nat.not_lt.mp h)
    have ef : f / W32 * W32 + f % W32 = f := by rw [Nat.mul_comm]; exact Nat.div_add_mod f W32
    rw [ef] at t22
    rw [e0]
    unfold f_I_floatBits_J
    rw [if_pos (nn.mpr (by rw [hsp.2]; exact Nat.not_lt.mpr c0))]
    rcases f2 hs with q | q
    · rw [q] at t22 hg ⊢
      rw [if_pos (hg.mpr (by rw [Nat.zero_mul, Nat.zero_add]; exact Nat.lt_of_le_of_lt c0 i64_lt))]
      exact t22
    · rw [q] at t22 hg ⊢
      rw [if_neg (fun r => absurd (hg.mp r) (by rw [Nat.one_mul]; exact Nat.not_lt.mpr (Nat.le_add_right _ _)))]
      exact t22
theorem tF_ok {a : Nat} (h : a < 2 ^ 64) : tF a = N32 ∨ ¬ I32 < tF a % W32 := by
  unfold tF
  split
  · exact Or.inl rfl
  · right
    split
    · rw [(q_split (s := a / W64) (m := I32) (w := W32) (by decide)).2]; exact Nat.lt_irrefl _
    · have := enc_le 24 2851 I32 (val 53 1926 (a % W64))
      rw [(q_split (s := a / W64) (w := W32) (Nat.lt_of_le_of_lt this (by decide))).2]
      exact Nat.not_lt.mpr this
theorem Q_single (x : Int64) : f_I_floatBits_J (f_I_toFloat_J (f_M_told_J x)) = (f_M_toFloat_J x).toInt32 := by
  obtain ⟨a, ha, rfl⟩ := l_of x
  rw [Q_toFloat, T_toFloat, m_toFloat ha, m_toDouble (tF_lt ha), t_fbits (tF_lt ha) (tF_ok ha), l2i (tF_lt ha)]
