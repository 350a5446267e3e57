/-! OUR OWN ROWS: the reference's product and quotient are the specification's; why its remainder never divides by 0 -/
theorem m_sg {f a b : Nat} (h : f < 2) (ha : a < 2 * fW f) (hb : b < 2 * fW f) {α : Type} (x y : α) : (if f_M_minus_JI (lN a) (nI f) = f_M_minus_JI (lN b) (nI f) then x else y) = if (a / fW f + b / fW f) % 2 = 0 then x else y := by
  have sa := m_slt ha
  have sb := m_slt hb
  have e : f_M_minus_JI (lN a) (nI f) = f_M_minus_JI (lN b) (nI f) ↔ (a / fW f + b / fW f) % 2 = 0 := by
    rw [m_minus h ha, m_minus h hb, nI_e2 sa sb]
    generalize a / fW f = p at *
    generalize b / fW f = q at *
    omega
  by_cases g : (a / fW f + b / fW f) % 2 = 0
  · rw [if_pos (e.mpr g), if_pos g]
  · rw [if_neg (fun q => g (e.mp q)), if_neg g]
theorem m_nrm2 {f c : Nat} (h : f < 2) (h0 : c ≠ 0) (hc : c < 2 ^ fP f) : j_shl (lN c) (nI (fP f - 1 - c.log2)) = lN (nrm (fP f) c) := by
  have := m_nrm h h0 hc
  rwa [m_moved h h0 hc] at this
theorem m_sn {n : Nat} (h : n < 2) {α : Type} (g : Int32 → α) : (if n = 0 then g (0 : Int32) else g (1 : Int32)) = g (nI n) := by
  rcases f2 h with e | e <;> subst e <;> rfl
theorem m_mulV {f a b : Nat} (h : f < 2) (fa : a % fW f < fI f) (fb : b % fW f < fI f) (a0 : vsig (fP f) (a % fW f) ≠ 0) (b0 : vsig (fP f) (b % fW f) ≠ 0) :
    ∃ K : Nat, K < 10000 ∧ 700 ≤ K ∧ (K : Int) - 3000 = ((vexp (fP f) (fL f) (a % fW f) : Int) - 3000) + ((vexp (fP f) (fL f) (b % fW f) : Int) - 3000) - ((fP f - 1 - (vsig (fP f) (a % fW f)).log2 : Nat) : Int) - ((fP f - 1 - (vsig (fP f) (b % fW f)).log2 : Nat) : Int) ∧
      nrm (fP f) (vsig (fP f) (a % fW f)) * nrm (fP f) (vsig (fP f) (b % fW f)) * 2 ^ K = mulV (fP f) (fL f) (a % fW f) (b % fW f) := by
  have hn := f_num h
  have ka := m_sh h fa
  have kb := m_sh h fb
  have la := vexp_ge (fP f) (fL f) (a % fW f)
  have lb := vexp_ge (fP f) (fL f) (b % fW f)
  refine ⟨vexp (fP f) (fL f) (a % fW f) + vexp (fP f) (fL f) (b % fW f) - 3000 - (fP f - 1 - (vsig (fP f) (a % fW f)).log2) - (fP f - 1 - (vsig (fP f) (b % fW f)).log2), by omega, by omega, by omega, ?_⟩
  unfold nrm mulV
  have e1 : 2 ^ (vexp (fP f) (fL f) (a % fW f) + vexp (fP f) (fL f) (b % fW f) - 3000) = 2 ^ (fP f - 1 - (vsig (fP f) (a % fW f)).log2) * 2 ^ (fP f - 1 - (vsig (fP f) (b % fW f)).log2) * 2 ^ (vexp (fP f) (fL f) (a % fW f) + vexp (fP f) (fL f) (b % fW f) - 3000 - (fP f - 1 - (vsig (fP f) (a % fW f)).log2) - (fP f - 1 - (vsig (fP f) (b % fW f)).log2)) := by
    rw [← Nat.pow_add, ← Nat.pow_add]
    exact congrArg (fun z => 2 ^ z) (by omega)
  rw [e1, Nat.mul_mul_mul_comm, Nat.mul_assoc]
theorem m_mul {f a b : Nat} (h : f < 2) (ha : a < 2 * fW f) (hb : b < 2 * fW f) : f_M_multiply_JJI (lN a) (lN b) (nI f) = lN (mulF (fP f) (fL f) (fI f) (fN f) (fW f) a b) := by
  have hn := f_num h
  have a64 := m_ok h ha
  have b64 := m_ok h hb
  have na := y_isNo h a64
  have nb := y_isNo h b64
  have ia := y_isInf h a64
  have ib := y_isInf h b64
  have za := y_isZero h a64
  have zb := y_isZero h b64
  have s2 : (a / fW f + b / fW f) % 2 < 2 := Nat.mod_lt _ (by decide)
  unfold f_M_multiply_JJI
  rw [m_sg h ha hb, m_sn s2 (fun z => f_M_multiply_JJI_20 (lN a) (lN b) (nI f) z)]
  unfold mulF sgF
  generalize (a / fW f + b / fW f) % 2 = s at s2
  by_cases h1 : fI f < a % fW f
  · rw [if_pos (show fI f < a % fW f ∨ fI f < b % fW f from Or.inl h1)]
    unfold f_M_multiply_JJI_20; rw [if_neg (fun q => na.mp q h1), m_none h]
  by_cases h2 : fI f < b % fW f
  · rw [if_pos (show fI f < a % fW f ∨ fI f < b % fW f from Or.inr h2)]
    unfold f_M_multiply_JJI_20; rw [if_pos (na.mpr h1), if_neg (fun q => nb.mp q h2), m_none h]
  rw [if_neg (show ¬ (fI f < a % fW f ∨ fI f < b % fW f) from fun q => q.elim h1 h2)]
  have e64 : f_M_multiply_JJI_64 (lN a) (lN b) (nI f) (nI s) = lN (if a % fW f = 0 ∨ b % fW f = 0 then fN f else s * fW f + fI f) := by
    unfold f_M_multiply_JJI_64
    by_cases h3 : a % fW f = 0
    · rw [if_neg (fun q => za.mp q h3), if_pos (Or.inl h3), m_none h]
    by_cases h4 : b % fW f = 0
    · rw [if_pos (za.mpr h3), if_neg (fun q => zb.mp q h4), if_pos (Or.inr h4), m_none h]
    rw [if_pos (za.mpr h3), if_pos (zb.mpr h4), if_neg (fun q => q.elim h3 h4), m_inf h, m_signed h s2 hn.2.2.2.2.2.1]
  unfold f_M_multiply_JJI_20
  rw [if_pos (na.mpr h1), if_pos (nb.mpr h2)]
  by_cases h3 : a % fW f = fI f
  · rw [if_neg (fun q => ia.mp q h3), e64, if_pos (show a % fW f = fI f ∨ b % fW f = fI f from Or.inl h3)]
  rw [if_pos (ia.mpr h3)]
  by_cases h4 : b % fW f = fI f
  · rw [if_neg (fun q => ib.mp q h4), e64, if_pos (show a % fW f = fI f ∨ b % fW f = fI f from Or.inr h4)]
  rw [if_pos (ib.mpr h4), if_neg (show ¬ (a % fW f = fI f ∨ b % fW f = fI f) from fun q => q.elim h3 h4)]
  have fa : a % fW f < fI f := by omega
  have fb : b % fW f < fI f := by omega
  have sz : f_M_signed_JZI (0 : Int64) (nI s) (nI f) = lN (s * fW f) := by
    have := m_signed (r := 0) h s2 (q_pos _)
    rwa [Nat.add_zero] at this
  have v0 : a % fW f = 0 ∨ b % fW f = 0 → mulV (fP f) (fL f) (a % fW f) (b % fW f) = 0 := by
    intro q
    unfold mulV vsig
    rcases q with q | q <;> rw [q] <;> simp
  by_cases h5 : a % fW f = 0
  · rw [if_neg (fun q => za.mp q h5), sz, v0 (Or.inl h5), enc_zero _ _ _ hn.2.1, Nat.add_zero]
  rw [if_pos (za.mpr h5)]
  by_cases h6 : b % fW f = 0
  · rw [if_neg (fun q => zb.mp q h6), sz, v0 (Or.inr h6), enc_zero _ _ _ hn.2.1, Nat.add_zero]
  rw [if_pos (zb.mpr h6)]
  have a0 : vsig (fP f) (a % fW f) ≠ 0 := fun q => h5 (vsig_0 (L := fL f) hn.2.1 q)
  have b0 : vsig (fP f) (b % fW f) ≠ 0 := fun q => h6 (vsig_0 (L := fL f) hn.2.1 q)
  have sa := vsig_lt (p := fP f) (b := a % fW f) hn.2.1
  have sb := vsig_lt (p := fP f) (b := b % fW f) hn.2.1
  obtain ⟨ra1, ra2⟩ := nrm_rng hn.2.1 sa a0
  obtain ⟨rb1, rb2⟩ := nrm_rng hn.2.1 sb b0
  obtain ⟨K, K1, K2, K3, K4⟩ := m_mulV h fa fb a0 b0
  rw [m_whole h a64, m_whole h b64, m_power h a64, m_power h b64]
  simp only [m_moved h a0 sa, m_moved h b0 sb, m_nrm2 h a0 sa, m_nrm2 h b0 sb]
  have eK : iZ ((vexp (fP f) (fL f) (a % fW f) : Int) - 3000) + iZ ((vexp (fP f) (fL f) (b % fW f) : Int) - 3000) - nI (fP f - 1 - (vsig (fP f) (a % fW f)).log2) - nI (fP f - 1 - (vsig (fP f) (b % fW f)).log2) = iZ ((K : Int) - 3000) := by
    rw [← iZ_n, ← iZ_n, iZ_add, iZ_sub, iZ_sub, K3]
  rw [eK, ← K4]
  generalize nrm (fP f) (vsig (fP f) (a % fW f)) = x at ra1 ra2
  generalize nrm (fP f) (vsig (fP f) (b % fW f)) = y at rb1 rb2
  rcases f2 h with e | e
  · subst e
    rw [if_neg (show ¬ nI 0 = (1 : Int32) by decide)]
    have e46 : iZ ((K : Int) - 3000) + (46 : Int32) = iZ (((K + 46 : Nat) : Int) - 3000) := by
      rw [show (46 : Int32) = iZ 46 from rfl, iZ_add]; exact congrArg iZ (by omega)
    rw [e46]
    refine (m_halves ra2 rb2 (nI s) (iZ (((K + 46 : Nat) : Int) - 3000)) (nI 0)).trans ?_
    have hlo : 2 ^ 104 ≤ x * y := by
      have := Nat.mul_le_mul ra1 rb1
      exact this
    have hhi : x * y < 2 ^ 106 := mul_lt ra2 rb2
    generalize x * y = P at hlo hhi
    have b1 : P / 2 ^ 46 < 2 ^ 60 := Nat.div_lt_of_lt_mul (by omega)
    have b2 : 2 ^ 58 ≤ P / 2 ^ 46 := (Nat.le_div_iff_mul_le (by decide)).mpr (by omega)
    have ek : 2 ^ (K + 46) = 2 ^ 46 * 2 ^ K := q_pm (by omega)
    have dm := Nat.div_add_mod P (2 ^ 46)
    have b1' : P / 2 ^ 46 < 2 ^ 63 := Nat.lt_trans b1 (by decide)
    have b2' : 2 ^ fP 0 ≤ P / 2 ^ 46 := Nat.le_trans (by decide) b2
    have bK : K + 46 < 100000 := by omega
    have r0 := m_rV (f := 0) (s := s) (m := P / 2 ^ 46) (e := K + 46) (t := 0) (V := P * 2 ^ K) (by decide) s2 b1' bK
    have r1 := m_rV (f := 0) (s := s) (m := P / 2 ^ 46) (e := K + 46) (t := 1) (V := P * 2 ^ K) (by decide) s2 b1' bK
    have hpk := q_pos K
    have hml := Nat.mod_lt P (show 0 < 2 ^ 46 by decide)
    have PV : P * 2 ^ K = P / 2 ^ 46 * 2 ^ (K + 46) + P % 2 ^ 46 * 2 ^ K := by
      rw [ek, ← Nat.mul_assoc, ← Nat.add_mul, Nat.mul_comm (P / 2 ^ 46), dm]
    by_cases g : P % 2 ^ 46 = 0
    · rw [if_pos g]
      exact r0 (Or.inl ⟨rfl, by rw [PV, g, Nat.zero_mul, Nat.add_zero]⟩)
    · rw [if_neg g]
      refine r1 (Or.inr ⟨rfl, b2', by omega, ?_, ?_⟩)
      · rw [PV]
        have := Nat.mul_pos (Nat.pos_of_ne_zero g) hpk
        exact Nat.lt_add_of_pos_right this
      · rw [PV, Nat.add_mul, Nat.one_mul, ek]
        exact Nat.add_lt_add_left (Nat.mul_lt_mul_of_pos_right hml hpk) _
  · subst e
    rw [if_pos (show nI 1 = (1 : Int32) from rfl), lN_mul]
    have hhi : x * y < 2 ^ 48 := mul_lt ra2 rb2
    exact m_exact h s2 (Nat.lt_trans hhi (by decide)) (by omega)
-- quotient
theorem qb_step {x y j : Nat} (hy : 0 < y) : x * 2 ^ (j + 1) / y = 2 * (x * 2 ^ j / y) + (if y ≤ 2 * (x * 2 ^ j % y) then 1 else 0) ∧ x * 2 ^ (j + 1) % y = 2 * (x * 2 ^ j % y) - (if y ≤ 2 * (x * 2 ^ j % y) then y else 0) := by
  have h1 := Nat.div_add_mod (x * 2 ^ j) y
  have h2 := Nat.mod_lt (x * 2 ^ j) hy
  have e : x * 2 ^ (j + 1) = 2 * (x * 2 ^ j) := by rw [q_pw1, Nat.mul_left_comm]
  rw [e]
  generalize x * 2 ^ j / y = D at *
  generalize x * 2 ^ j % y = r at *
  by_cases g : y ≤ 2 * r
  · rw [if_pos g, if_pos g]
    have e3 : (2 * D + 1) * y = 2 * (y * D) + y := by rw [Nat.mul_comm, Nat.mul_add, Nat.mul_one, Nat.mul_left_comm]
    exact q_div (by rw [e3]; omega) (by omega)
  · rw [if_neg g, if_neg g]
    have e3 : (2 * D + 0) * y = 2 * (y * D) := by rw [Nat.add_zero, Nat.mul_comm, Nat.mul_left_comm]
    exact q_div (by rw [e3]; omega) (by omega)
theorem m_268 {x y : Nat} (f s e : Int32) (hy : 0 < y) (hy2 : y < 2 ^ 53) (hx : x < 2 * y) : ∀ (n j : Nat), j ≤ 60 → 60 - j < n →
    f_M_divide_JJI_268 n f s (lN y) e (lN (x * 2 ^ j / y)) (lN (x * 2 ^ j % y)) (nI j) = if x * 2 ^ 60 % y = 0 then f_M_rounded_ZJIZI s (lN (x * 2 ^ 60 / y)) (e - (60 : Int32)) (0 : Int32) f else f_M_rounded_ZJIZI s (lN (x * 2 ^ 60 / y)) (e - (60 : Int32)) (1 : Int32) f := by
  intro n
  induction n with
  | zero => intro j _ h; exact absurd h (Nat.not_lt_zero _)
  | succ n ih =>
    intro j hj hn
    have hr := Nat.mod_lt (x * 2 ^ j) hy
    rw [f_M_divide_JJI_268]
    have c60 : (60 : Int32) ≤ nI j ↔ 60 ≤ j := nI_leI (a := 60) (by decide) (by omega)
    by_cases g : 60 ≤ j
    · have j60 : j = 60 := by omega
      subst j60
      have cr : lg_cmp (lN (x * 2 ^ 60 % y)) (0 : Int64) = 0 ↔ x * 2 ^ 60 % y = 0 := c_eq (b := 0) (by omega) (by decide)
      rw [if_pos (c60.mpr g)]
      by_cases z : x * 2 ^ 60 % y = 0
      · rw [if_pos (cr.mpr z), if_pos z]
      · rw [if_neg (fun q => z (cr.mp q)), if_neg z]
    · rw [if_neg (fun q => g (c60.mp q))]
      obtain ⟨s1, s2⟩ := qb_step (x := x) (j := j) hy
      have e1 : j_shl (lN (x * 2 ^ j % y)) (1 : Int32) = lN (2 * (x * 2 ^ j % y)) := (w_shl (k := 1) _ (by decide)).trans (congrArg lN (by rw [Nat.pow_one]; exact Nat.mul_comm _ _))
      have e2 : j_shl (lN (x * 2 ^ j / y)) (1 : Int32) = lN (2 * (x * 2 ^ j / y)) := (w_shl (k := 1) _ (by decide)).trans (congrArg lN (by rw [Nat.pow_one]; exact Nat.mul_comm _ _))
      have d2 : x * 2 ^ j / y < 2 * 2 ^ j := Nat.div_lt_of_lt_mul (by
        have := Nat.mul_lt_mul_of_pos_right hx (q_pos j)
        rw [Nat.mul_comm 2 y, Nat.mul_assoc] at this
        exact this)
      have d3 : 2 ^ j ≤ 2 ^ 60 := Nat.pow_le_pow_right (by decide) hj
      have e3 : nI j + 1 = nI (j + 1) := nI_1 j
      have cg : 0 ≤ lg_cmp (lN (2 * (x * 2 ^ j % y))) (lN y) ↔ y ≤ 2 * (x * 2 ^ j % y) := c_ge (by omega) (by omega)
      simp only [e1, e2, e3]
      by_cases w : y ≤ 2 * (x * 2 ^ j % y)
      · rw [if_pos w] at s1 s2
        have e4 : lN (2 * (x * 2 ^ j / y)) ||| (1 : Int64) = lN (x * 2 ^ (j + 1) / y) := by
          rw [l_or1 (by omega), s1]; exact congrArg lN (by omega)
        have e5 : lN (2 * (x * 2 ^ j % y)) - lN y = lN (x * 2 ^ (j + 1) % y) := by rw [lN_sub w, s2]
        rw [if_pos (cg.mpr w), e4, e5]
        exact ih (j + 1) (by omega) (by omega)
      · rw [if_neg w] at s1 s2
        have s3 : x * 2 ^ (j + 1) / y = 2 * (x * 2 ^ j / y) := s1
        have s4 : x * 2 ^ (j + 1) % y = 2 * (x * 2 ^ j % y) := s2
        rw [if_neg (fun q => w (cg.mp q)), ← s3, ← s4]
        exact ih (j + 1) (by omega) (by omega)
theorem m_div {f a b : Nat} (h : f < 2) (ha : a < 2 * fW f) (hb : b < 2 * fW f) : f_M_divide_JJI (lN a) (lN b) (nI f) = lN (divF (fP f) (fL f) (fI f) (fN f) (fW f) a b) := by
  have hn := f_num h
  have a64 := m_ok h ha
  have b64 := m_ok h hb
  have na := y_isNo h a64
  have nb := y_isNo h b64
  have ia := y_isInf h a64
  have ib := y_isInf h b64
  have za := y_isZero h a64
  have zb := y_isZero h b64
  have s2 : (a / fW f + b / fW f) % 2 < 2 := Nat.mod_lt _ (by decide)
  unfold f_M_divide_JJI
  rw [m_sg h ha hb, m_sn s2 (fun z => f_M_divide_JJI_20 (lN a) (lN b) (nI f) z)]
  unfold divF sgF
  generalize (a / fW f + b / fW f) % 2 = s at s2
  by_cases h1 : fI f < a % fW f
  · rw [if_pos (show fI f < a % fW f ∨ fI f < b % fW f from Or.inl h1)]
    unfold f_M_divide_JJI_20; rw [if_neg (fun q => na.mp q h1), m_none h]
  by_cases h2 : fI f < b % fW f
  · rw [if_pos (show fI f < a % fW f ∨ fI f < b % fW f from Or.inr h2)]
    unfold f_M_divide_JJI_20; rw [if_pos (na.mpr h1), if_neg (fun q => nb.mp q h2), m_none h]
  rw [if_neg (show ¬ (fI f < a % fW f ∨ fI f < b % fW f) from fun q => q.elim h1 h2)]
  have sz : f_M_signed_JZI (0 : Int64) (nI s) (nI f) = lN (s * fW f) := by
    have := m_signed (r := 0) h s2 (q_pos _)
    rwa [Nat.add_zero] at this
  have si : f_M_signed_JZI (f_M_infinite_I (nI f)) (nI s) (nI f) = lN (s * fW f + fI f) := by rw [m_inf h, m_signed h s2 hn.2.2.2.2.2.1]
  unfold f_M_divide_JJI_20
  rw [if_pos (na.mpr h1), if_pos (nb.mpr h2)]
  by_cases h3 : a % fW f = fI f
  · rw [if_neg (fun q => ia.mp q h3), if_pos h3]
    by_cases h4 : b % fW f = fI f
    · rw [if_neg (fun q => ib.mp q h4), if_pos h4, m_none h]
    · rw [if_pos (ib.mpr h4), if_neg h4, si]
  rw [if_pos (ia.mpr h3), if_neg h3]
  by_cases h4 : b % fW f = fI f
  · rw [if_neg (fun q => ib.mp q h4), if_pos h4, sz]
  rw [if_pos (ib.mpr h4), if_neg h4]
  by_cases h6 : b % fW f = 0
  · rw [if_neg (fun q => zb.mp q h6), if_pos h6]
    by_cases h5 : a % fW f = 0
    · rw [if_neg (fun q => za.mp q h5), if_pos h5, m_none h]
    · rw [if_pos (za.mpr h5), if_neg h5, si]
  rw [if_pos (zb.mpr h6), if_neg h6]
  by_cases h5 : a % fW f = 0
  · rw [if_neg (fun q => za.mp q h5), if_pos h5, sz]
  rw [if_pos (za.mpr h5), if_neg h5]
  have fa : a % fW f < fI f := by omega
  have fb : b % fW f < fI f := by omega
  have a0 : vsig (fP f) (a % fW f) ≠ 0 := fun q => h5 (vsig_0 (L := fL f) hn.2.1 q)
  have b0 : vsig (fP f) (b % fW f) ≠ 0 := fun q => h6 (vsig_0 (L := fL f) hn.2.1 q)
  have sa := vsig_lt (p := fP f) (b := a % fW f) hn.2.1
  have sb := vsig_lt (p := fP f) (b := b % fW f) hn.2.1
  obtain ⟨ra1, ra2⟩ := nrm_rng hn.2.1 sa a0
  obtain ⟨rb1, rb2⟩ := nrm_rng hn.2.1 sb b0
  have ka := m_sh h fa
  have kb := m_sh h fb
  have la := vexp_ge (fP f) (fL f) (a % fW f)
  have lb := vexp_ge (fP f) (fL f) (b % fW f)
  have lga := (Nat.log2_lt a0).mpr sa
  have lgb := (Nat.log2_lt b0).mpr sb
  have hp53 : 2 ^ fP f ≤ 2 ^ 53 := Nat.pow_le_pow_right (by decide) hn.2.2.1
  have hPh : 2 ^ fP f = 2 * 2 ^ (fP f - 1) := q_half hn.2.1
  have hpp := q_pos (fP f - 1)
  rw [m_whole h a64, m_whole h b64, m_power h a64, m_power h b64]
  simp only [m_moved h a0 sa, m_moved h b0 sb, m_nrm2 h a0 sa, m_nrm2 h b0 sb]
  unfold divV
  obtain ⟨K, hK⟩ : ∃ K : Nat, K = vexp (fP f) (fL f) (a % fW f) + 2940 + (fP f - 1 - (vsig (fP f) (b % fW f)).log2) - vexp (fP f) (fL f) (b % fW f) - (fP f - 1 - (vsig (fP f) (a % fW f)).log2) := ⟨_, rfl⟩
  have eK : iZ ((vexp (fP f) (fL f) (a % fW f) : Int) - 3000) - nI (fP f - 1 - (vsig (fP f) (a % fW f)).log2) - iZ ((vexp (fP f) (fL f) (b % fW f) : Int) - 3000) + nI (fP f - 1 - (vsig (fP f) (b % fW f)).log2) = iZ (((K + 60 : Nat) : Int) - 3000) := by
    rw [← iZ_n, ← iZ_n, iZ_sub, iZ_sub, iZ_add]
    exact congrArg iZ (by omega)
  have bK : K < 100000 ∧ 0 < K := by omega
  rw [← hK, eK]
  clear hK eK ka kb la lb lga lgb fa fb
  generalize nrm (fP f) (vsig (fP f) (a % fW f)) = x at ra1 ra2
  generalize nrm (fP f) (vsig (fP f) (b % fW f)) = y at rb1 rb2
  have y0 : 0 < y := by omega
  have hy2 : y < 2 ^ 53 := by omega
  have hx2 : x < 2 * y := by omega
  have hx53 : x < 2 ^ 53 := by omega
  have e60 : iZ (((K + 60 : Nat) : Int) - 3000) - (60 : Int32) = iZ ((K : Int) - 3000) := by
    rw [show (60 : Int32) = iZ 60 from rfl, iZ_sub]; exact congrArg iZ (by omega)
  have loop := m_268 (nI f) (nI s) (iZ (((K + 60 : Nat) : Int) - 3000)) y0 hy2 hx2 ((60 : Int32).toNatClampNeg + 1) 0 (by decide) (by decide)
  rw [Nat.pow_zero, Nat.mul_one, e60] at loop
  have start : (if lg_cmp (lN x) (lN y) < 0 then f_M_divide_JJI_244 (nI f) (nI s) (lN x) (lN y) (iZ (((K + 60 : Nat) : Int) - 3000)) (0 : Int64) else f_M_divide_JJI_244 (nI f) (nI s) (lN x) (lN y) (iZ (((K + 60 : Nat) : Int) - 3000)) (1 : Int64)) = f_M_divide_JJI_268 ((60 : Int32).toNatClampNeg + 1) (nI f) (nI s) (lN y) (iZ (((K + 60 : Nat) : Int) - 3000)) (lN (x / y)) (lN (x % y)) (nI 0) := by
    have cl := c_lt (a := x) (b := y) (by omega) (by omega)
    by_cases g : x < y
    · have q0 : x / y = 0 := Nat.div_eq_of_lt g
      have r0 : x % y = x := Nat.mod_eq_of_lt g
      rw [if_pos (cl.mpr g), q0, r0]
      unfold f_M_divide_JJI_244 f_M_divide_JJI_263
      rw [if_neg (fun q => absurd ((lg_cmp_eq _ _).mp q) (by decide))]
      rfl
    · have ex : x = 1 * y + (x - y) := by omega
      obtain ⟨q0, r0⟩ := q_div ex (by omega)
      rw [if_neg (fun q => g (cl.mp q)), q0, r0]
      unfold f_M_divide_JJI_244 f_M_divide_JJI_263
      rw [if_pos ((lg_cmp_eq _ _).mpr rfl), lN_sub (by omega)]
      rfl
  rw [start, loop]
  obtain ⟨q1, q2⟩ := quo_rng (P := 2 ^ (fP f - 1)) hpp ra1 (by omega) rb1 (by omega)
  have b63 : x * 2 ^ 60 / y < 2 ^ 63 := Nat.lt_trans q2 (by decide)
  have r0 := m_rV (f := f) (s := s) (m := x * 2 ^ 60 / y) (e := K) (t := 0) (V := quoV x y K) h s2 b63 bK.1
  have r1 := m_rV (f := f) (s := s) (m := x * 2 ^ 60 / y) (e := K) (t := 1) (V := quoV x y K) h s2 b63 bK.1
  have hk1 := q_half bK.2
  have hkp := q_pos (K - 1)
  by_cases g : x * 2 ^ 60 % y = 0
  · rw [if_pos g]
    exact r0 (Or.inl ⟨rfl, by unfold quoV; rw [if_pos g]⟩)
  · rw [if_neg g]
    have eV : quoV x y K = 2 * (x * 2 ^ 60 / y * 2 ^ (K - 1)) + 2 ^ (K - 1) := by unfold quoV; rw [if_neg g, Nat.add_mul, Nat.one_mul, Nat.mul_assoc]
    have e1 : x * 2 ^ 60 / y * 2 ^ K = 2 * (x * 2 ^ 60 / y * 2 ^ (K - 1)) := by rw [hk1, Nat.mul_left_comm]
    have e2 : (x * 2 ^ 60 / y + 1) * 2 ^ K = 2 * (x * 2 ^ 60 / y * 2 ^ (K - 1)) + 2 * 2 ^ (K - 1) := by rw [hk1, Nat.add_mul, Nat.one_mul, Nat.mul_left_comm]
    have hp59 : 2 ^ fP f ≤ x * 2 ^ 60 / y := Nat.le_trans hp53 (Nat.le_trans (by decide) q1)
    refine r1 (Or.inr ⟨rfl, hp59, bK.2, ?_, ?_⟩)
    · rw [eV, e1]; omega
    · rw [eV, e2]; omega
-- the remainder's divisor
theorem rest_nz {f : Int32} {b : Int64} (hk : vp_in f 2) (c : f_M_isZero_JI b f = 0) : ¬ f_M_whole_JI b f = 0 := by
  obtain ⟨n, hn, rfl⟩ := l_of b
  obtain ⟨i0, i1, i2⟩ := in_to hk
  have ef : f = nI f.toNatClampNeg := by
    have := iZ_of f
    rw [← i2, iZ_n] at this
    exact this.symm
  have hf : f.toNatClampNeg < 2 := by omega
  rw [ef] at c ⊢
  have g := (y_isZero hf hn).mp c
  rw [m_whole hf hn, k_zero]
  intro q
  have hn2 := f_num hf
  have s1 := vsig_lt (p := fP f.toNatClampNeg) (b := n % fW f.toNatClampNeg) hn2.2.1
  have hp53 : 2 ^ fP f.toNatClampNeg ≤ 2 ^ 53 := Nat.pow_le_pow_right (by decide) hn2.2.2.1
  have q2 := (l_eq (by omega) (by decide)).mp q
  exact g (vsig_0 (L := fL f.toNatClampNeg) hn2.2.1 q2)
theorem rest_pw {f : Int32} {a b : Int64} (hk : vp_in f 2) (c : 0 ≤ lg_cmp (f_M_size_JI a f) (f_M_size_JI b f)) : 0 ≤ f_M_power_JI a f - f_M_power_JI b f := by
  obtain ⟨x, hx, rfl⟩ := l_of a
  obtain ⟨y, hy, rfl⟩ := l_of b
  obtain ⟨i0, i1, i2⟩ := in_to hk
  have ef : f = nI f.toNatClampNeg := by
    have := iZ_of f
    rw [← i2, iZ_n] at this
    exact this.symm
  have hf : f.toNatClampNeg < 2 := by omega
  rw [ef] at c ⊢
  generalize f.toNatClampNeg = g at *
  rw [m_size hf hx, m_size hf hy, c_ge (m_mlt3 hf x) (m_mlt3 hf y)] at c
  rw [m_power hf hx, m_power hf hy, iZ_sub, show (0 : Int32) = iZ 0 from rfl]
  have hv := vexp_le (p := fP g) (L := fL g) c
  have e1 := m_eflt hf x
  have e2 := m_eflt hf y
  have hn := f_num hf
  have v1 : vexp (fP g) (fL g) (x % fW g) < 10000 := by unfold vexp; omega
  have v2 : vexp (fP g) (fL g) (y % fW g) < 10000 := by unfold vexp; omega
  rw [iZ_le (by omega) (by omega) (by omega) (by omega)]
  omega
