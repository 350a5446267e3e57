/-! OUR OWN ROWS: the greater of two, alike -/
theorem tn_sg {a : Nat} (ha : a < 2 ^ 64) : tn a / W64 = 0 ↔ a / W64 = 1 := by
  have w : W64 = 9223372036854775808 := rfl
  have s1 := sg_lt ha
  by_cases g : a < W64
  · have e1 : a / W64 = 0 := Nat.div_eq_of_lt g
    have e2 : ¬ tn a < W64 := by unfold tn; rw [if_pos g]; omega
    have e3 : ¬ tn a / W64 = 0 := fun q => e2 (Nat.lt_of_div_eq_zero (by decide) q)
    rw [e1]; exact ⟨fun q => absurd q e3, fun q => absurd q (by decide)⟩
  · have e2 : tn a < W64 := by unfold tn; rw [if_neg g]; omega
    have e3 : a / W64 = 1 := by
      have := (Nat.le_div_iff_mul_le (show 0 < W64 by decide)).mpr (show 1 * W64 ≤ a by omega)
      omega
    rw [e3, Nat.div_eq_of_lt e2]
    exact ⟨fun _ => rfl, fun _ => rfl⟩
theorem Q_greater (x y : Int64) : f_I_greater_JJ (f_M_told_J x) (f_M_told_J y) = f_M_told_J (f_M_end_JJZ x y (1 : Int32)) := by
  obtain ⟨a, ha, rfl⟩ := l_of x
  obtain ⟨b, hb, rfl⟩ := l_of y
  have e0 : ∀ n, n < 2 ^ 64 → f_M_turned_JI (lN n) (0 : Int32) = lN (tn n) := fun n hn => m_turned0 hn
  have e1 := m_end (t := 1) (by decide) ha hb
  rw [show nI 1 = (1 : Int32) from rfl] at e1
  have e2 := m_end (t := 0) (by decide) (tn_lt ha) (tn_lt hb)
  rw [show nI 0 = (0 : Int32) from rfl] at e2
  unfold f_I_greater_JJ
  rw [Q_neg, Q_neg, e0 a ha, e0 b hb, Q_lesser, Q_neg, e1, e2, tn_mod ha, tn_mod hb, sv_tn ha, sv_tn hb]
  by_cases hn : I64 < a % W64 ∨ I64 < b % W64
  · rw [if_pos hn, if_pos hn, e0 N64 (by decide), m_told0 (tn_lt (by decide)), m_told0 (by decide)]
    decide
  rw [if_neg hn, if_neg hn]
  have ta := e0 (tn a) (tn_lt ha)
  have tb := e0 (tn b) (tn_lt hb)
  rw [tn_tn ha] at ta
  rw [tn_tn hb] at tb
  rcases Int.lt_trichotomy (sv a) (sv b) with g | g | g
  · rw [if_neg (show ¬ -sv a = -sv b by omega), if_neg (show ¬ -sv a < -sv b by omega), if_pos rfl, if_neg (show ¬ sv a = sv b by omega), if_pos g, if_pos rfl, tb]
  · rw [if_pos (show -sv a = -sv b by omega), if_pos g]
    by_cases q : a / W64 = 1
    · rw [if_pos ((tn_sg ha).mpr q), if_pos q, tb]
    · rw [if_neg (fun r => q ((tn_sg ha).mp r)), if_neg q, ta]
  · rw [if_neg (show ¬ -sv a = -sv b by omega), if_pos (show -sv a < -sv b by omega), if_neg (by decide), if_neg (show ¬ sv a = sv b by omega), if_neg (show ¬ sv a < sv b by omega), if_neg (by decide), ta]
