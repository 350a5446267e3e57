/-! OUR OWN ROWS: the lesser and the greater, alike -/
theorem sv_eq {a b : Nat} (ha : a < 2 ^ 64) (hb : b < 2 ^ 64) (h : sv a = sv b) : a = b ∨ (a = 0 ∧ b = W64) ∨ (a = W64 ∧ b = 0) := by
  have w : W64 = 9223372036854775808 := rfl
  unfold sv at h
  by_cases g1 : a < W64 <;> by_cases g2 : b < W64
  · rw [if_pos g1, if_pos g2, Nat.mod_eq_of_lt g1, Nat.mod_eq_of_lt g2] at h; omega
  · rw [if_pos g1, if_neg g2, Nat.mod_eq_of_lt g1, hi_mod hb g2] at h; omega
  · rw [if_neg g1, if_pos g2, hi_mod ha g1, Nat.mod_eq_of_lt g2] at h; omega
  · rw [if_neg g1, if_neg g2, hi_mod ha g1, hi_mod hb g2] at h; omega
theorem sv_tn {a : Nat} (ha : a < 2 ^ 64) : sv (tn a) = -sv a := by
  have w : W64 = 9223372036854775808 := rfl
  have hm := tn_mod ha
  unfold sv
  rw [hm]
  by_cases g : a < W64
  · have : ¬ tn a < W64 := by unfold tn; rw [if_pos g]; omega
    rw [if_pos g, if_neg this]
  · have : tn a < W64 := by unfold tn; rw [if_neg g]; omega
    rw [if_neg g, if_pos this]; omega
theorem tn_tn {a : Nat} (ha : a < 2 ^ 64) : tn (tn a) = a := by
  have w : W64 = 9223372036854775808 := rfl
  unfold tn
  by_cases g : a < W64
  · rw [if_pos g, if_neg (by omega)]; omega
  · rw [if_neg g, if_pos (by omega)]; omega
def leN (a b : Nat) : Nat := if sv a = sv b then a ||| b else if sv a < sv b then a else b
theorem t_lesser {a b : Nat} (ha : a < 2 ^ 64) (hb : b < 2 ^ 64) : f_I_lesser_JJ (lN a) (lN b) = lN (if I64 < a % W64 ∨ I64 < b % W64 then N64 else leN a b) := by
  have na := z_isNo ha
  have nb := z_isNo hb
  unfold f_I_lesser_JJ
  by_cases g1 : I64 < a % W64
  · rw [if_neg (fun q => na.mp q g1), if_pos (show I64 < a % W64 ∨ I64 < b % W64 from Or.inl g1), k_nan]
  by_cases g2 : I64 < b % W64
  · rw [if_pos (na.mpr g1), if_neg (fun q => nb.mp q g2), if_pos (show I64 < a % W64 ∨ I64 < b % W64 from Or.inr g2), k_nan]
  rw [if_pos (na.mpr g1), if_pos (nb.mpr g2), if_neg (show ¬ (I64 < a % W64 ∨ I64 < b % W64) from fun q => q.elim g1 g2)]
  have c1 : lg_cmp (f_I_order_J (lN a)) (f_I_order_J (lN b)) = 0 ↔ sv a = sv b := by rw [lg_cmp_eq, ← Int64.toInt_inj, t_ord ha, t_ord hb]
  have c2 : 0 ≤ lg_cmp (f_I_order_J (lN a)) (f_I_order_J (lN b)) ↔ ¬ sv a < sv b := by
    rw [lg_cmp_ge, Int64.le_iff_toInt_le, t_ord ha, t_ord hb]; omega
  unfold leN
  by_cases g : sv a = sv b
  · rw [if_pos (c1.mpr g), if_pos g, wb_or ha hb]
  · rw [if_neg (fun q => g (c1.mp q)), if_neg g]
    by_cases g3 : sv a < sv b
    · rw [if_neg (fun q => c2.mp q g3), if_pos g3]
    · rw [if_pos (c2.mpr g3), if_neg g3]
theorem m_end {a b t : Nat} (ht : t < 2) (ha : a < 2 ^ 64) (hb : b < 2 ^ 64) : f_M_end_JJZ (lN a) (lN b) (nI t) = lN (if I64 < a % W64 ∨ I64 < b % W64 then N64 else if sv a = sv b then (if a / W64 = t then b else a) else if sv a < sv b then (if t = 1 then b else a) else (if t = 0 then b else a)) := by
  have mn : f_M_minus_JI (lN a) (0 : Int32) = nI (a / W64) := m_minus (f := 0) (by decide) ha
  have c0 : nI (a / W64) = nI t ↔ a / W64 = t := nI_e2 (sg_lt ha) ht
  have c1 : (1 : Int32) = nI t ↔ t = 1 := by rw [show (1 : Int32) = nI 1 from rfl, nI_e2 (by decide) ht]; omega
  have c2 : (0 : Int32) = nI t ↔ t = 0 := by rw [show (0 : Int32) = nI 0 from rfl, nI_e2 (by decide) ht]; omega
  unfold f_M_end_JJZ
  rw [m_order ha hb, mn]
  dsimp only
  by_cases g1 : I64 < a % W64 ∨ I64 < b % W64
  · rw [if_pos g1, if_pos g1, if_pos rfl, k_nan]
  rw [if_neg g1, if_neg g1]
  rcases Int.lt_trichotomy (sv a) (sv b) with g | g | g
  · rw [if_pos g, if_neg (show ¬ (-1 : Int32) = 2 by decide), if_neg (show ¬ (-1 : Int32) = 0 by decide), if_neg (show ¬ (0 : Int32) ≤ -1 by decide), if_neg (show ¬ sv a = sv b by omega), if_pos g]
    by_cases q : t = 1
    · rw [if_pos (c1.mpr q), if_pos q]
    · rw [if_neg (fun r => q (c1.mp r)), if_neg q]
  · rw [if_neg (show ¬ sv a < sv b by omega), if_pos g, if_neg (show ¬ (0 : Int32) = 2 by decide), if_pos rfl, if_pos g]
    by_cases q : a / W64 = t
    · rw [if_pos (c0.mpr q), if_pos q]
    · rw [if_neg (fun r => q (c0.mp r)), if_neg q]
  · rw [if_neg (show ¬ sv a < sv b by omega), if_neg (show ¬ sv a = sv b by omega), if_neg (show ¬ (1 : Int32) = 2 by decide), if_neg (show ¬ (1 : Int32) = 0 by decide), if_pos (show (0 : Int32) ≤ 1 by decide), if_neg (show ¬ sv a = sv b by omega), if_neg (show ¬ sv a < sv b by omega)]
    by_cases q : t = 0
    · rw [if_pos (c2.mpr q), if_pos q]
    · rw [if_neg (fun r => q (c2.mp r)), if_neg q]
theorem Q_lesser (x y : Int64) : f_I_lesser_JJ (f_M_told_J x) (f_M_told_J y) = f_M_told_J (f_M_end_JJZ x y (0 : Int32)) := by
  obtain ⟨a, ha, rfl⟩ := l_of x
  obtain ⟨b, hb, rfl⟩ := l_of y
  have e1 := m_end (t := 0) (by decide) ha hb
  rw [show nI 0 = (0 : Int32) from rfl] at e1
  rw [m_told0 ha, m_told0 hb, t_lesser (told_lt ha) (told_lt hb), e1]
  by_cases g1 : I64 < a % W64
  · rw [told_nan g1, if_pos (Or.inl N64_gt), if_pos (Or.inl g1), m_told0 (by decide), told_N]
  by_cases g2 : I64 < b % W64
  · rw [told_nan g2, if_pos (Or.inr N64_gt), if_pos (Or.inr g2), m_told0 (by decide), told_N]
  have hn : ¬ (I64 < a % W64 ∨ I64 < b % W64) := fun q => q.elim g1 g2
  rw [told_num g1, told_num g2, if_neg hn, if_neg hn]
  unfold leN
  by_cases g : sv a = sv b
  · rw [if_pos g, if_pos g]
    rcases sv_eq ha hb g with e | ⟨e, f⟩ | ⟨e, f⟩
    · subst e
      have : (if a / W64 = 0 then a else a) = a := by split <;> rfl
      rw [this, Nat.or_self, m_told0 ha, told_num g1]
    · rw [e, f]; decide
    · rw [e, f]; decide
  · rw [if_neg g, if_neg g]
    by_cases g3 : sv a < sv b
    · rw [if_pos g3, if_pos g3, if_neg (by decide), m_told0 ha, told_num g1]
    · rw [if_neg g3, if_neg g3, if_pos rfl, m_told0 hb, told_num g2]
