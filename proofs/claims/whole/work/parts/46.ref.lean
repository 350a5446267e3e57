/-! OUR OWN ROWS: the reference's arithmetic is the specification's: parts of a number, rounding; f is 0 (double) or 1 (float) -/
def fP (f : Nat) : Nat := if f = 0 then 53 else 24
def fL (f : Nat) : Nat := if f = 0 then 1926 else 2851
def fI (f : Nat) : Nat := if f = 0 then I64 else I32
def fN (f : Nat) : Nat := if f = 0 then N64 else N32
def fB (f : Nat) : Nat := if f = 0 then 63 else 31
def fW (f : Nat) : Nat := 2 ^ fB f
def fG (f : Nat) : Nat := if f = 0 then 2045 else 253
theorem f2 {f : Nat} (h : f < 2) : f = 0 ∨ f = 1 := by omega
/-- the numbers of the two forms -/
theorem f_num {f : Nat} (h : f < 2) : fB f < 64 ∧ 0 < fP f ∧ fP f ≤ 53 ∧ 1926 ≤ fL f ∧ fL f < 3000 ∧ fI f < fW f ∧ fW f ≤ 2 ^ 63 ∧ fP f - 1 < 64 ∧ 0 < fI f := by
  rcases f2 h with e | e <;> subst e <;> decide
theorem f_inf {f : Nat} (h : f < 2) : fI f = (fG f + 2) * 2 ^ (fP f - 1) := by
  rcases f2 h with e | e <;> subst e <;> decide
theorem f_w0 : fW 0 = W64 := rfl
theorem f_w1 : fW 1 = W32 := rfl
theorem m_wide {f : Nat} (h : f < 2) : f_M_wide_I (nI f) - (1 : Int32) = nI (fB f) := by
  rcases f2 h with e | e <;> subst e <;> decide
theorem m_none {f : Nat} (h : f < 2) : f_M_none_I (nI f) = lN (fN f) := by
  rcases f2 h with e | e <;> subst e <;> decide
theorem m_inf {f : Nat} (h : f < 2) : f_M_infinite_I (nI f) = lN (fI f) := by
  rcases f2 h with e | e <;> subst e <;> decide
theorem m_tP {f : Nat} (h : f < 2) : tP_at (nI f) = nI (fP f) := by
  rcases f2 h with e | e <;> subst e <;> decide
theorem m_tL {f : Nat} (h : f < 2) : tL_at (nI f) = iZ ((fL f : Int) - 3000) := by
  rcases f2 h with e | e <;> subst e <;> decide
theorem m_tG {f : Nat} (h : f < 2) : tG_at (nI f) = iZ ((fG f : Int) + fL f - 3000) := by
  rcases f2 h with e | e <;> subst e <;> decide
theorem m_ok {f a : Nat} (h : f < 2) (ha : a < 2 * fW f) : a < 2 ^ 64 := by
  have := f_num h
  omega
theorem m_size {f a : Nat} (h : f < 2) (ha : a < 2 ^ 64) : f_M_size_JI (lN a) (nI f) = lN (a % fW f) := by
  have hn := f_num h
  unfold f_M_size_JI
  rw [m_wide h, l_msk hn.1, wb_mask ha hn.1]
  rfl
theorem m_mlt {f : Nat} (h : f < 2) (a : Nat) : a % fW f < fW f := Nat.mod_lt _ (q_pos _)
theorem m_mlt3 {f : Nat} (h : f < 2) (a : Nat) : a % fW f < 2 ^ 63 := by
  have := m_mlt h a
  have := f_num h
  omega
theorem y_isNo {f a : Nat} (h : f < 2) (ha : a < 2 ^ 64) : f_M_isNone_JI (lN a) (nI f) = 0 ↔ ¬ fI f < a % fW f := by
  have hn := f_num h
  unfold f_M_isNone_JI
  rw [m_size h ha, m_inf h]
  have c := c_le (a := a % fW f) (b := fI f) (m_mlt3 h a) (by omega)
  by_cases h1 : a % fW f ≤ fI f
  · rw [if_pos (c.mpr h1)]; exact ⟨fun _ => Nat.not_lt.mpr h1, fun _ => rfl⟩
  · rw [if_neg (fun q => h1 (c.mp q))]; exact ⟨fun q => absurd q (by decide), fun q => absurd (Nat.not_lt.mp q) h1⟩
theorem y_isInf {f a : Nat} (h : f < 2) (ha : a < 2 ^ 64) : f_M_isInfinite_JI (lN a) (nI f) = 0 ↔ ¬ a % fW f = fI f := by
  have hn := f_num h
  have hm := m_mlt3 h a
  unfold f_M_isInfinite_JI
  rw [m_size h ha, m_inf h]
  have c := c_eq (a := a % fW f) (b := fI f) (by omega) (by omega)
  by_cases h1 : a % fW f = fI f
  · rw [if_pos (c.mpr h1)]; exact ⟨fun q => absurd q (by decide), fun q => absurd h1 q⟩
  · rw [if_neg (fun q => h1 (c.mp q))]; exact ⟨fun _ => h1, fun _ => rfl⟩
theorem y_isZero {f a : Nat} (h : f < 2) (ha : a < 2 ^ 64) : f_M_isZero_JI (lN a) (nI f) = 0 ↔ ¬ a % fW f = 0 := by
  have hm := m_mlt3 h a
  unfold f_M_isZero_JI
  rw [m_size h ha, k_zero]
  have c := c_eq (a := a % fW f) (b := 0) (by omega) (by decide)
  by_cases h1 : a % fW f = 0
  · rw [if_pos (c.mpr h1)]; exact ⟨fun q => absurd q (by decide), fun q => absurd h1 q⟩
  · rw [if_neg (fun q => h1 (c.mp q))]; exact ⟨fun _ => h1, fun _ => rfl⟩
theorem m_slt {f a : Nat} (ha : a < 2 * fW f) : a / fW f < 2 := Nat.div_lt_of_lt_mul (by rw [Nat.mul_comm]; exact ha)
theorem m_minus {f a : Nat} (h : f < 2) (ha : a < 2 * fW f) : f_M_minus_JI (lN a) (nI f) = nI (a / fW f) := by
  have hn := f_num h
  have hs := m_slt ha
  have h64 := m_ok h ha
  have e1 : j_ushr (lN a) (nI (fB f)) = lN (a / fW f) := w_ushr h64 hn.1
  have e2 : lN (a / fW f) &&& (1 : Int64) = lN (a / fW f % 2) := wb_a1 (by omega)
  unfold f_M_minus_JI
  rw [m_wide h, e1, e2]
  generalize a / fW f = s at hs
  rcases f2 hs with e | e <;> subst e <;> decide
theorem m_signed {f s r : Nat} (h : f < 2) (hs : s < 2) (hr : r < fW f) : f_M_signed_JZI (lN r) (nI s) (nI f) = lN (s * fW f + r) := by
  have hn := f_num h
  unfold f_M_signed_JZI
  rcases f2 hs with e | e
  · subst e; rw [if_pos (show nI 0 = (0 : Int32) from rfl), Nat.zero_mul, Nat.zero_add]
  · subst e
    rw [if_neg (by decide), m_wide h, l_pw hn.1, wb_or (by omega) (by have := q_pos (fB f); show fW f < _; omega)]
    refine congrArg lN ?_
    have := n_or (k := fB f) (a := r) (b := 1) hr
    rw [Nat.one_mul] at this
    rw [Nat.or_comm, this, Nat.one_mul]
    rfl
theorem m_whole {f a : Nat} (h : f < 2) (ha : a < 2 ^ 64) : f_M_whole_JI (lN a) (nI f) = lN (vsig (fP f) (a % fW f)) := by
  have hn := f_num h
  have hm := m_mlt3 h a
  have hp1 : nI (fP f) - (1 : Int32) = nI (fP f - 1) := l_msk1 hn.2.1
  have e1 : lN (a % fW f) &&& (j_shl (1 : Int64) (nI (fP f - 1)) - (1 : Int64)) = lN (a % fW f % 2 ^ (fP f - 1)) := by rw [l_msk (by omega), wb_mask (by omega) (by omega)]
  have e2 : j_ushr (lN (a % fW f)) (nI (fP f - 1)) = lN (a % fW f / 2 ^ (fP f - 1)) := w_ushr (by omega) (by omega)
  have hq : a % fW f / 2 ^ (fP f - 1) ≤ a % fW f := Nat.div_le_self _ _
  have hr := Nat.mod_lt (a % fW f) (q_pos (fP f - 1))
  have hp2 : 2 ^ (fP f - 1) ≤ 2 ^ 52 := Nat.pow_le_pow_right (by decide) (by omega)
  have c : lg_cmp (lN (a % fW f / 2 ^ (fP f - 1))) (0 : Int64) = 0 ↔ a % fW f / 2 ^ (fP f - 1) = 0 := c_eq (b := 0) (by omega) (by decide)
  unfold f_M_whole_JI vsig
  rw [m_tP h, m_size h ha]
  simp only [hp1, e1, e2]
  by_cases h0 : a % fW f / 2 ^ (fP f - 1) = 0
  · rw [if_pos (c.mpr h0), if_pos h0, Nat.mod_eq_of_lt (Nat.lt_of_div_eq_zero (q_pos _) h0)]
  · rw [if_neg (fun q => h0 (c.mp q)), if_neg h0, l_pw (by omega), wb_or (by omega) (by omega)]
    refine congrArg lN ?_
    have := n_or (k := fP f - 1) (a := a % fW f % 2 ^ (fP f - 1)) (b := 1) hr
    rw [Nat.one_mul] at this
    rw [Nat.or_comm, this, Nat.add_comm]
theorem t_maxL {a b : Nat} (ha : a < 2 ^ 63) (hb : b < 2 ^ 63) : f_jM_max_JJ (lN a) (lN b) = lN (max a b) := by
  unfold f_jM_max_JJ
  have c := c_lt ha hb
  by_cases h : a < b
  · rw [if_pos (c.mpr h), Nat.max_eq_right (by omega)]
  · rw [if_neg (fun q => h (c.mp q)), Nat.max_eq_left (by omega)]
theorem m_eflt {f : Nat} (h : f < 2) (a : Nat) : a % fW f / 2 ^ (fP f - 1) < 2048 := by
  have hm := m_mlt h a
  refine Nat.div_lt_of_lt_mul ?_
  rcases f2 h with e | e <;> subst e
  · have : fW 0 ≤ 2 ^ (fP 0 - 1) * 2048 := by decide
    exact Nat.lt_of_lt_of_le hm this
  · have : fW 1 ≤ 2 ^ (fP 1 - 1) * 2048 := by decide
    exact Nat.lt_of_lt_of_le hm this
theorem m_power {f a : Nat} (h : f < 2) (ha : a < 2 ^ 64) : f_M_power_JI (lN a) (nI f) = iZ ((vexp (fP f) (fL f) (a % fW f) : Int) - 3000) := by
  have hn := f_num h
  have hm := m_mlt3 h a
  have he := m_eflt h a
  have hp1 : nI (fP f) - (1 : Int32) = nI (fP f - 1) := l_msk1 hn.2.1
  have e2 : j_ushr (lN (a % fW f)) (nI (fP f - 1)) = lN (a % fW f / 2 ^ (fP f - 1)) := w_ushr (by omega) (by omega)
  unfold f_M_power_JI vexp
  rw [m_tP h, m_tL h, m_size h ha]
  simp only [hp1, e2]
  generalize a % fW f / 2 ^ (fP f - 1) = E at he
  have e3 : f_jM_max_JJ (lN E) (1 : Int64) = lN (max E 1) := t_maxL (b := 1) (by omega) (by decide)
  rw [e3, lN_i, ← iZ_n, show (1 : Int32) = iZ 1 from rfl, iZ_add, iZ_sub]
  exact congrArg iZ (by omega)
/-- the code of x times 2 to the sh, or infinite -/
theorem m_162 {f s x sh : Nat} (h : f < 2) (hs : s < 2) (hx : x < 2 ^ fP f) (hL : fL f ≤ sh) (hsh : sh < 2000000) (hn2 : sh = fL f ∨ 2 ^ (fP f - 1) ≤ x) :
    f_M_rounded_ZJIZI_162 (nI s) (nI f) (nI (fP f)) (lN x) (iZ ((sh : Int) - 3000)) = lN (s * fW f + min (fI f) ((sh - fL f) * 2 ^ (fP f - 1) + x)) := by
  have hn := f_num h
  have hinf := f_inf h
  have hP : 2 ^ fP f = 2 * 2 ^ (fP f - 1) := q_half hn.2.1
  have hp0 := q_pos (fP f - 1)
  have hp2 : 2 ^ (fP f - 1) ≤ 2 ^ 52 := Nat.pow_le_pow_right (by decide) (by omega)
  have hG : fG f < 3000 := by rcases f2 h with e | e <;> subst e <;> decide
  have hp1 : nI (fP f) - (1 : Int32) = nI (fP f - 1) := l_msk1 hn.2.1
  unfold f_M_rounded_ZJIZI_162
  rw [m_tG h, m_tL h, hp1]
  have c := iZ_le (a := (sh : Int) - 3000) (b := (fG f : Int) + fL f - 3000) (by omega) (by omega) (by omega) (by omega)
  have e1 : j_shr (lN x) (nI (fP f - 1)) = lN (x / 2 ^ (fP f - 1)) := w_shr (by omega) (by omega)
  have hq : x / 2 ^ (fP f - 1) < 2 := Nat.div_lt_of_lt_mul (by omega)
  have c2 : lg_cmp (lN (x / 2 ^ (fP f - 1))) (0 : Int64) = 0 ↔ x / 2 ^ (fP f - 1) = 0 := c_eq (b := 0) (by omega) (by decide)
  by_cases g : sh - fL f ≤ fG f
  · rw [if_pos (c.mpr (by omega)), e1]
    have hfit : (sh - fL f) * 2 ^ (fP f - 1) + x < fI f := by
      have m1 : (sh - fL f) * 2 ^ (fP f - 1) ≤ fG f * 2 ^ (fP f - 1) := Nat.mul_le_mul_right _ g
      rw [hinf, Nat.add_mul]
      omega
    rw [Nat.min_eq_right (Nat.le_of_lt hfit)]
    by_cases g2 : x / 2 ^ (fP f - 1) = 0
    · have g3 : x < 2 ^ (fP f - 1) := Nat.lt_of_div_eq_zero hp0 g2
      have g4 : sh - fL f = 0 := by omega
      rw [if_pos (c2.mpr g2), m_signed h hs (by rw [g4] at hfit; omega), g4, Nat.zero_mul, Nat.zero_add]
    · have g3 : 2 ^ (fP f - 1) ≤ x := by
        rcases Nat.lt_or_ge x (2 ^ (fP f - 1)) with q | q
        · exact absurd (Nat.div_eq_of_lt q) g2
        · exact q
      rw [if_neg (fun q => g2 (c2.mp q))]
      have e2 : iZ ((sh : Int) - 3000) - iZ ((fL f : Int) - 3000) + (1 : Int32) = nI (sh - fL f + 1) := by
        rw [show (1 : Int32) = iZ 1 from rfl, iZ_sub, iZ_add, ← iZ_n]
        exact congrArg iZ (by omega)
      have e3 : lN x &&& (j_shl (1 : Int64) (nI (fP f - 1)) - (1 : Int64)) = lN (x - 2 ^ (fP f - 1)) := by
        rw [l_msk (by omega), wb_mask (by omega) (by omega)]
        have : x = 1 * 2 ^ (fP f - 1) + (x - 2 ^ (fP f - 1)) := by omega
        rw [(q_div this (by omega)).2]
      simp only [e2, e3]
      have e4 : (sh - fL f + 1) * 2 ^ (fP f - 1) + (x - 2 ^ (fP f - 1)) = (sh - fL f) * 2 ^ (fP f - 1) + x := by rw [Nat.add_mul, Nat.one_mul]; omega
      have b1 : (sh - fL f + 1) * 2 ^ (fP f - 1) < 2 ^ 64 := by omega
      rw [nI_l (by omega), w_shl _ (by omega), wb_or b1 (by omega), n_or (by omega), e4]
      exact m_signed h hs (by omega)
  · rw [if_neg (fun q => g (by have := c.mp q; omega)), m_inf h, m_signed h hs hn.2.2.2.2.2.1]
    refine congrArg (fun z => lN (s * fW f + z)) ?_
    have m1 : (fG f + 1) * 2 ^ (fP f - 1) ≤ (sh - fL f) * 2 ^ (fP f - 1) := Nat.mul_le_mul_right _ (by omega)
    rw [Nat.add_mul, Nat.one_mul] at m1
    have g3 : 2 ^ (fP f - 1) ≤ x := by omega
    refine (Nat.min_eq_left ?_).symm
    rw [hinf, Nat.add_mul]
    omega
theorem m_137 {f s x sh k : Nat} {d : Int} (h : f < 2) (hs : s < 2) (hx : x ≤ 2 ^ fP f) (hL : fL f ≤ sh) (hsh : sh < 1000000) (hn2 : sh = fL f ∨ 2 ^ (fP f - 1) ≤ x) (hd : (sh : Int) = k + d) :
    f_M_rounded_ZJIZI_137 (nI s) (iZ ((k : Int) - 3000)) (nI f) (nI (fP f)) (iZ d) (lN x) = lN (s * fW f + min (fI f) ((sh - fL f) * 2 ^ (fP f - 1) + x)) := by
  have hn := f_num h
  have hP : 2 ^ fP f = 2 * 2 ^ (fP f - 1) := q_half hn.2.1
  have hp0 := q_pos (fP f - 1)
  have hp2 : 2 ^ (fP f - 1) ≤ 2 ^ 52 := Nat.pow_le_pow_right (by decide) (by omega)
  have e0 : iZ ((k : Int) - 3000) + iZ d = iZ ((sh : Int) - 3000) := by rw [iZ_add]; exact congrArg iZ (by omega)
  have e1 : j_shr (lN x) (nI (fP f)) = lN (x / 2 ^ fP f) := w_shr (by omega) (by omega)
  have e2 : j_shr (lN x) (1 : Int32) = lN (x / 2 ^ 1) := w_shr (k := 1) (by omega) (by decide)
  have hq : x / 2 ^ fP f < 2 := Nat.div_lt_of_lt_mul (by omega)
  have c2 : lg_cmp (lN (x / 2 ^ fP f)) (0 : Int64) = 0 ↔ x / 2 ^ fP f = 0 := c_eq (b := 0) (by omega) (by decide)
  unfold f_M_rounded_ZJIZI_137
  simp only [e0, e1, e2]
  by_cases g : x < 2 ^ fP f
  · rw [if_pos (c2.mpr (Nat.div_eq_of_lt g)), m_162 h hs g hL (by omega) hn2]
  · have gx : x = 2 ^ fP f := by omega
    have g2 : ¬ x / 2 ^ fP f = 0 := by rw [gx, Nat.div_self (q_pos _)]; decide
    have e3 : iZ ((sh : Int) - 3000) + 1 = iZ (((sh + 1 : Nat) : Int) - 3000) := by
      rw [show (1 : Int32) = iZ 1 from rfl, iZ_add]; exact congrArg iZ (by omega)
    have e4 : x / 2 ^ 1 = 2 ^ (fP f - 1) := by rw [gx, hP]; omega
    rw [if_neg (fun q => g2 (c2.mp q)), e3, e4, m_162 h hs (by omega) (by omega) (by omega) (Or.inr (Nat.le_refl _))]
    have e5 : (sh + 1 - fL f) * 2 ^ (fP f - 1) + 2 ^ (fP f - 1) = (sh - fL f) * 2 ^ (fP f - 1) + x := by
      have : sh + 1 - fL f = (sh - fL f) + 1 := by omega
      rw [this, Nat.add_mul, Nat.one_mul, gx, hP]; omega
    rw [e5]
theorem m_131 (a b c d e : Int32) (x : Nat) : f_M_rounded_ZJIZI_131 a b c d e (lN x) = f_M_rounded_ZJIZI_137 a b c d e (lN (x + 1)) := by
  unfold f_M_rounded_ZJIZI_131; simp only [lN_1]
/-- rounding, with or without more below -/
theorem m_rounded {f s m k : Nat} (h : f < 2) (hs : s < 2) (hm : m < 2 ^ 63) (hk : k < 100000) :
    f_M_rounded_ZJIZI (nI s) (lN m) (iZ ((k : Int) - 3000)) (0 : Int32) (nI f) = lN (s * fW f + enc (fP f) (fL f) (fI f) (m * 2 ^ k)) ∧
    (2 ^ fP f ≤ m → 0 < k → f_M_rounded_ZJIZI (nI s) (lN m) (iZ ((k : Int) - 3000)) (1 : Int32) (nI f) = lN (s * fW f + enc (fP f) (fL f) (fI f) ((2 * m + 1) * 2 ^ (k - 1)))) := by
  have hn := f_num h
  by_cases h0 : m = 0
  · subst h0
    refine ⟨?_, fun c => by have := q_pos (fP f); omega⟩
    unfold f_M_rounded_ZJIZI
    rw [if_pos ((lg_cmp_eq (lN 0) (0 : Int64)).mpr rfl), Nat.zero_mul, enc_zero _ _ _ hn.2.1]
    exact m_signed (r := 0) h hs (q_pos _)
  have hl : m.log2 < 63 := (Nat.log2_lt h0).mpr hm
  have c0 : lg_cmp (lN m) (0 : Int64) = 0 ↔ m = 0 := c_eq (b := 0) (by omega) (by decide)
  obtain ⟨d, hd⟩ : ∃ d : Int, d = max ((m.log2 : Int) + 1 - fP f) ((fL f : Int) - k) := ⟨_, rfl⟩
  have e1 : f_jM_max_II ((64 : Int32) - f_jL_numberOfLeadingZeros_J (lN m) - nI (fP f)) (iZ ((fL f : Int) - 3000) - iZ ((k : Int) - 3000)) = iZ d := by
    rw [z_clz h0 (by omega), show (64 : Int32) = iZ 64 from rfl, ← iZ_n, iZ_sub, iZ_sub, iZ_sub, t_max (by omega) (by omega) (by omega) (by omega), hd]
    exact congrArg iZ (by omega)
  have es : ((max (m.log2 + k + 1 - fP f) (fL f) : Nat) : Int) = k + d := by rw [hd]; omega
  have s1 : rsh (fP f) (fL f) (m * 2 ^ k) = max (m.log2 + k + 1 - fP f) (fL f) := rs_sh h0
  have hb : max (m.log2 + k + 1 - fP f) (fL f) < 1000000 := by omega
  obtain ⟨sh, hsh⟩ : ∃ sh, sh = max (m.log2 + k + 1 - fP f) (fL f) := ⟨_, rfl⟩
  rw [← hsh] at es s1 hb
  have key : ∀ V, rsh (fP f) (fL f) V = sh → f_M_rounded_ZJIZI_137 (nI s) (iZ ((k : Int) - 3000)) (nI f) (nI (fP f)) (iZ d) (lN (rD V (2 ^ sh))) = lN (s * fW f + enc (fP f) (fL f) (fI f) V) := by
    intro V hV
    have r1 := rD_rsh_le (p := fP f) (L := fL f) (V := V)
    have r2 := rD_rsh_norm (p := fP f) (L := fL f) (V := V) hn.2.1
    have r3 := rsh_ge (fP f) (fL f) V
    rw [hV] at r1 r2 r3
    rw [m_137 h hs r1 r3 hb r2 es]
    unfold enc rnd
    rw [hV]
  have keym := fun hk0 : 0 < k => key ((2 * m + 1) * 2 ^ (k - 1)) (by rw [rs_msh hk0 h0, hsh])
  have keye := key (m * 2 ^ k) s1
  have hge : fL f ≤ sh := by omega
  have hdlo : -53 ≤ d := by omega
  have hdhi : d < 200000 := by omega
  clear key
  unfold f_M_rounded_ZJIZI
  rw [m_tP h, m_tL h]
  simp only [e1]
  rw [if_neg (fun q => h0 (c0.mp q)), if_neg (fun q => h0 (c0.mp q))]
  have cd : 0 < iZ d ↔ 0 < d := by rw [show (0 : Int32) = iZ 0 from rfl]; exact iZ_lt (by omega) (by omega) (by omega) (by omega)
  have c63 : iZ d ≤ (63 : Int32) ↔ d ≤ 63 := by rw [show (63 : Int32) = iZ 63 from rfl]; exact iZ_le (by omega) (by omega) (by omega) (by omega)
  by_cases g1 : 0 < d
  · obtain ⟨e, he⟩ : ∃ e : Nat, d = e := ⟨d.toNat, by omega⟩
    subst he
    have g1 : 0 < e := by omega
    have esh : sh = k + e := by omega
    rw [if_pos (cd.mpr (by omega)), if_pos (cd.mpr (by omega))]
    by_cases g2 : e ≤ 63
    · have hd64 : e < 64 := by omega
      have pp := q_pos (e - 1)
      have hh : 2 ^ e = 2 * 2 ^ (e - 1) := q_half g1
      have p1 : 2 ^ e ≤ 2 ^ 63 := Nat.pow_le_pow_right (by decide) g2
      have hr := Nat.mod_lt m (q_pos e)
      have hrm : m % 2 ^ e ≤ m := Nat.mod_le _ _
      have hqm : m / 2 ^ e ≤ m := Nat.div_le_self _ _
      have u1 : j_shr (lN m) (iZ (e : Int)) = lN (m / 2 ^ e) := by rw [iZ_n]; exact w_shr hm hd64
      have u2 : lN m &&& (j_shl (1 : Int64) (iZ (e : Int)) - (1 : Int64)) = lN (m % 2 ^ e) := by rw [iZ_n, l_msk hd64, wb_mask (by omega) hd64]
      have u3 : j_shl (1 : Int64) (iZ (e : Int) - (1 : Int32)) = lN (2 ^ (e - 1)) := by rw [iZ_n, l_msk1 g1, l_pw (by omega)]
      have u4 : lN (m / 2 ^ e) &&& (1 : Int64) = lN (m / 2 ^ e % 2) := wb_a1 (by omega)
      have cg := c_gt (a := m % 2 ^ e) (b := 2 ^ (e - 1)) (by omega) (by omega)
      have ce := c_eq (a := m % 2 ^ e) (b := 2 ^ (e - 1)) (by omega) (by omega)
      have c2 : lg_cmp (lN (m / 2 ^ e % 2)) (1 : Int64) = 0 ↔ m / 2 ^ e % 2 = 1 := c_eq (b := 1) (by omega) (by decide)
      rw [if_pos (c63.mpr (by omega)), if_pos (c63.mpr (by omega))]
      simp only [u1, u2, u3, u4, m_131]
      have v1 : rD (m * 2 ^ k) (2 ^ sh) = m / 2 ^ e + (if 2 ^ e < 2 * (m % 2 ^ e) ∨ (2 * (m % 2 ^ e) = 2 ^ e ∧ m / 2 ^ e % 2 = 1) then 1 else 0) := by rw [esh, rs_mid]; rfl
      rw [v1] at keye
      constructor
      · rw [← keye]
        by_cases q1 : 2 ^ (e - 1) < m % 2 ^ e
        · rw [if_pos (cg.mpr q1), if_pos (by omega)]
        · rw [if_neg (fun q => q1 (cg.mp q))]
          by_cases q2 : m % 2 ^ e = 2 ^ (e - 1)
          · rw [if_pos (ce.mpr q2), if_pos trivial]
            by_cases q3 : m / 2 ^ e % 2 = 1
            · rw [if_pos (c2.mpr q3), if_pos (by omega)]
            · rw [if_neg (fun q => q3 (c2.mp q)), if_neg (by omega), Nat.add_zero]
          · rw [if_neg (fun q => q2 (ce.mp q)), if_neg (by omega), Nat.add_zero]
      · intro hmp hk0
        have km := keym hk0
        rw [esh, rs_more hk0 g1] at km
        rw [← km]
        by_cases q1 : 2 ^ (e - 1) < m % 2 ^ e
        · rw [if_pos (cg.mpr q1), if_pos (Nat.le_of_lt q1)]
        · rw [if_neg (fun q => q1 (cg.mp q))]
          by_cases q2 : m % 2 ^ e = 2 ^ (e - 1)
          · rw [if_pos (ce.mpr q2), if_neg (by decide), if_pos (by omega)]
          · rw [if_neg (fun q => q2 (ce.mp q)), if_neg (by omega), Nat.add_zero]
    · rw [if_neg (fun q => g2 (by have := c63.mp q; omega)), if_neg (fun q => g2 (by have := c63.mp q; omega))]
      have v1 : rD (m * 2 ^ k) (2 ^ sh) = 0 := by rw [esh]; exact rs_far (by omega) (by omega)
      rw [v1] at keye
      refine ⟨keye, fun hmp hk0 => ?_⟩
      have km := keym hk0
      rw [esh, rs_more hk0 g1] at km
      have z1 : m < 2 ^ (e - 1) := Nat.lt_of_lt_of_le hm (Nat.pow_le_pow_right (by decide) (by omega))
      have z2 : 2 ^ e = 2 * 2 ^ (e - 1) := q_half g1
      rw [Nat.div_eq_of_lt (by omega), Nat.mod_eq_of_lt (by omega), if_neg (by omega)] at km
      exact km
  · obtain ⟨e, he⟩ : ∃ e : Nat, d = -(e : Int) := ⟨(-d).toNat, by omega⟩
    subst he
    have esh : sh = k - e := by omega
    have ek : e ≤ k := by omega
    rw [if_neg (fun q => g1 (cd.mp q)), if_neg (fun q => g1 (cd.mp q)), iZ_neg, Int.neg_neg, iZ_n, w_shl m (by omega)]
    have v1 : rD (m * 2 ^ k) (2 ^ sh) = m * 2 ^ e := by rw [esh]; exact rs_lo ek
    rw [v1] at keye
    refine ⟨keye, fun hmp hk0 => ?_⟩
    exfalso
    have : fP f ≤ m.log2 := by
      rcases Nat.lt_or_ge m.log2 (fP f) with q | q
      · have := (Nat.log2_lt h0).mp q; omega
      · exact q
    omega
