/-! OUR OWN ROWS: order, sign, root -/
def sv (a : Nat) : Int := if a < W64 then ((a % W64 : Nat) : Int) else -((a % W64 : Nat) : Int)
theorem l_ti {m : Nat} (h : m < 2 ^ 63) : (lN m).toInt = (m : Int) := lg_ofNat_toInt h
theorem l_tni {m : Nat} (h : m < 2 ^ 63) : (-lN m).toInt = -(m : Int) := Int64.toInt_neg_ofNat_of_le (Nat.le_of_lt h)
theorem hi_mod {a : Nat} (h : a < 2 ^ 64) (c : ¬ a < W64) : a % W64 = a - W64 := by
  have w : W64 = 9223372036854775808 := rfl
  rw [Nat.mod_eq_sub_mod (Nat.not_lt.mp c), Nat.mod_eq_of_lt (by omega)]
theorem t_ord {a : Nat} (h : a < 2 ^ 64) : (f_I_order_J (lN a)).toInt = sv a := by
  have w : W64 = 9223372036854775808 := rfl
  have c : 0 ≤ lg_cmp (lN a) (0 : Int64) ↔ a < W64 := by
    rw [lg_cmp_ge]
    have h1 := l_neg h
    have h3 : (0 : Int64) ≤ lN a ↔ ¬ lN a < 0 := by rw [Int64.le_iff_toInt_le, Int64.lt_iff_toInt_lt]; omega
    rw [h3, h1]; omega
  unfold f_I_order_J sv
  by_cases g : a < W64
  · rw [if_pos (c.mpr g), if_pos g, l_ti (by omega), Nat.mod_eq_of_lt g]
  · rw [if_neg (fun q => g (c.mp q)), if_neg g, k_sgn, ← Int64.neg_sub, lN_sub (Nat.not_lt.mp g), l_tni (by omega), hi_mod h g]
theorem m_sv {a : Nat} (h : a < 2 ^ 64) : (if f_M_minus_JI (lN a) (nI 0) = 0 then f_M_size_JI (lN a) (nI 0) else -f_M_size_JI (lN a) (nI 0)).toInt = sv a := by
  have w : W64 = 9223372036854775808 := rfl
  have e1 : f_M_minus_JI (lN a) (nI 0) = nI (a / W64) := m_minus (f := 0) (by decide) h
  have e2 : f_M_size_JI (lN a) (nI 0) = lN (a % W64) := m_size (f := 0) (by decide) h
  have s1 := sg_lt h
  have ml := mg_lt a
  rw [e1, e2]
  unfold sv
  by_cases g : a < W64
  · have : a / W64 = 0 := Nat.div_eq_of_lt g
    rw [this, if_pos (show nI 0 = (0 : Int32) from rfl), if_pos g, l_ti ml]
  · have : a / W64 = 1 := by
      have := (Nat.le_div_iff_mul_le (show 0 < W64 by decide)).mpr (show 1 * W64 ≤ a by omega)
      omega
    rw [this, if_neg (show ¬ nI 1 = (0 : Int32) by decide), if_neg g, l_tni ml]
theorem cmp_ti (x y : Int64) : f_jL_compare_JJ x y = if x.toInt < y.toInt then (-1) else if x.toInt = y.toInt then 0 else 1 := by
  unfold f_jL_compare_JJ
  have c1 : 0 ≤ lg_cmp x y ↔ ¬ x.toInt < y.toInt := by rw [lg_cmp_ge, Int64.le_iff_toInt_le]; omega
  have c2 : lg_cmp x y = 0 ↔ x.toInt = y.toInt := by rw [lg_cmp_eq, Int64.toInt_inj]
  by_cases g : x.toInt < y.toInt
  · rw [if_neg (fun q => c1.mp q g), if_pos g]
  · rw [if_pos (c1.mpr g), if_neg g]
    by_cases g2 : x.toInt = y.toInt
    · rw [if_pos (c2.mpr g2), if_pos g2]
    · rw [if_neg (fun q => g2 (c2.mp q)), if_neg g2]
theorem m_order {a b : Nat} (ha : a < 2 ^ 64) (hb : b < 2 ^ 64) : f_M_order_JJ (lN a) (lN b) = if I64 < a % W64 ∨ I64 < b % W64 then 2 else if sv a < sv b then (-1) else if sv a = sv b then 0 else 1 := by
  have na := y_isNo (f := 0) (a := a) (by decide) ha
  have nb := y_isNo (f := 0) (a := b) (by decide) hb
  have e0 : f_M_order_JJ (lN a) (lN b) = if f_M_isNone_JI (lN a) (nI 0) = 0 then (if f_M_isNone_JI (lN b) (nI 0) = 0 then f_jL_compare_JJ (if f_M_minus_JI (lN a) (nI 0) = 0 then f_M_size_JI (lN a) (nI 0) else -f_M_size_JI (lN a) (nI 0)) (if f_M_minus_JI (lN b) (nI 0) = 0 then f_M_size_JI (lN b) (nI 0) else -f_M_size_JI (lN b) (nI 0)) else 2) else 2 := by
    unfold f_M_order_JJ f_M_order_JJ_40
    rw [show (0 : Int32) = nI 0 from rfl]
    by_cases g1 : f_M_minus_JI (lN a) (nI 0) = nI 0
    · rw [if_pos g1, if_pos g1]
      by_cases g2 : f_M_minus_JI (lN b) (nI 0) = nI 0
      · rw [if_pos g2, if_pos g2]
      · rw [if_neg g2, if_neg g2]
    · rw [if_neg g1, if_neg g1]
      by_cases g2 : f_M_minus_JI (lN b) (nI 0) = nI 0
      · rw [if_pos g2, if_pos g2]
      · rw [if_neg g2, if_neg g2]
  rw [e0]
  by_cases g1 : I64 < a % W64
  · rw [if_neg (fun q => na.mp q g1), if_pos (Or.inl g1)]
  by_cases g2 : I64 < b % W64
  · rw [if_pos (na.mpr g1), if_neg (fun q => nb.mp q g2), if_pos (Or.inr g2)]
  rw [if_pos (na.mpr g1), if_pos (nb.mpr g2), if_neg (show ¬ (I64 < a % W64 ∨ I64 < b % W64) from fun q => q.elim g1 g2), cmp_ti, m_sv ha, m_sv hb]
theorem t_less {a b : Nat} (ha : a < 2 ^ 64) (hb : b < 2 ^ 64) : f_I_less_JJ (lN a) (lN b) = if I64 < a % W64 ∨ I64 < b % W64 then 0 else if sv a < sv b then 1 else 0 := by
  have na := z_isNo ha
  have nb := z_isNo hb
  unfold f_I_less_JJ
  by_cases g1 : I64 < a % W64
  · rw [if_neg (fun q => na.mp q g1), if_pos (Or.inl g1)]
  by_cases g2 : I64 < b % W64
  · rw [if_pos (na.mpr g1), if_neg (fun q => nb.mp q g2), if_pos (Or.inr g2)]
  have c1 : 0 ≤ lg_cmp (f_I_order_J (lN a)) (f_I_order_J (lN b)) ↔ ¬ sv a < sv b := by
    rw [lg_cmp_ge, Int64.le_iff_toInt_le, t_ord ha, t_ord hb]; omega
  rw [if_pos (na.mpr g1), if_pos (nb.mpr g2), if_neg (show ¬ (I64 < a % W64 ∨ I64 < b % W64) from fun q => q.elim g1 g2)]
  by_cases g : sv a < sv b
  · rw [if_neg (fun q => c1.mp q g), if_pos g]
  · rw [if_pos (c1.mpr g), if_neg g]
theorem Q_less (x y : Int64) : f_I_less_JJ x y = if f_M_order_JJ x y = -1 then 1 else 0 := by
  obtain ⟨a, ha, rfl⟩ := l_of x
  obtain ⟨b, hb, rfl⟩ := l_of y
  rw [t_less ha hb, m_order ha hb]
  by_cases g1 : I64 < a % W64 ∨ I64 < b % W64
  · rw [if_pos g1, if_pos g1, if_neg (by decide)]
  · rw [if_neg g1, if_neg g1]
    by_cases g : sv a < sv b
    · rw [if_pos g, if_pos g, if_pos rfl]
    · rw [if_neg g, if_neg g]
      by_cases g2 : sv a = sv b
      · rw [if_pos g2, if_neg (by decide)]
      · rw [if_neg g2, if_neg (by decide)]
theorem Q_lessR (x y : Int64) : f_I_less_JJ x y = if f_M_order_JJ y x = 1 then 1 else 0 := by
  obtain ⟨a, ha, rfl⟩ := l_of x
  obtain ⟨b, hb, rfl⟩ := l_of y
  rw [t_less ha hb, m_order hb ha]
  by_cases g1 : I64 < a % W64 ∨ I64 < b % W64
  · rw [if_pos g1, if_pos g1.symm, if_neg (by decide)]
  · rw [if_neg g1, if_neg (show ¬ (I64 < b % W64 ∨ I64 < a % W64) from fun q => g1 q.symm)]
    rcases Int.lt_trichotomy (sv a) (sv b) with g | g | g
    · rw [if_pos g, if_neg (show ¬ sv b < sv a by omega), if_neg (show ¬ sv b = sv a by omega), if_pos rfl]
    · rw [if_neg (show ¬ sv a < sv b by omega), if_neg (show ¬ sv b < sv a by omega), if_pos g.symm, if_neg (by decide)]
    · rw [if_neg (show ¬ sv a < sv b by omega), if_pos g, if_neg (by decide)]
theorem T_order (x y : Int64) : f_M_order_JJ (f_M_told_J x) (f_M_told_J y) = f_M_order_JJ x y := by
  obtain ⟨a, ha, rfl⟩ := l_of x
  obtain ⟨b, hb, rfl⟩ := l_of y
  rw [m_told0 ha, m_told0 hb, m_order (told_lt ha) (told_lt hb), m_order ha hb]
  rcases told_sort a with ⟨h, e⟩ | ⟨h, e⟩ <;> rcases told_sort b with ⟨g, f⟩ | ⟨g, f⟩ <;> rw [e, f]
  · rw [if_pos (Or.inl N64_gt), if_pos (Or.inl h)]
  · rw [if_pos (Or.inl N64_gt), if_pos (Or.inl h)]
  · rw [if_pos (Or.inr N64_gt), if_pos (Or.inr g)]
theorem Q_neg (x : Int64) : f_I_negated_J (f_M_told_J x) = f_M_told_J (f_M_turned_JI x (0 : Int32)) := by
  obtain ⟨a, ha, rfl⟩ := l_of x
  have e1 : f_M_turned_JI (lN a) (0 : Int32) = lN (tn a) := m_turned0 ha
  unfold f_I_negated_J
  rw [e1, m_told0 ha, x_tn (told_lt ha), Q_told, m_told0 (tn_lt (told_lt ha)), m_told0 (tn_lt ha)]
  refine congrArg lN ?_
  rcases told_sort a with ⟨h, e⟩ | ⟨h, e⟩
  · rw [e, told_nan (by rw [tn_mod (by decide)]; decide), told_nan (by rw [tn_mod ha]; exact h)]
  · rw [e]
-- root
theorem Q_half (x : Int64) : f_I_product_JJ x (4602678819172646912 : Int64) = f_M_divide_JJ x (4611686018427387904 : Int64) := by
  obtain ⟨a, ha, rfl⟩ := l_of x
  have e1 : f_I_product_JJ (lN a) (4602678819172646912 : Int64) = lN (mulF 53 1926 I64 N64 W64 a 4602678819172646912) := t_mul (b := 4602678819172646912) ha (by decide)
  have e2 : f_M_divide_JJ (lN a) (4611686018427387904 : Int64) = lN (divF 53 1926 I64 N64 W64 a 4611686018427387904) := m_div0 (b := 4611686018427387904) ha (by decide)
  rw [e1, e2, flt_half]
theorem Q_root (x : Int64) : f_I_root_J (f_M_told_J x) = f_M_told_J (f_M_root_J x) := by
  obtain ⟨a, ha, rfl⟩ := l_of x
  have w : W64 = 9223372036854775808 := rfl
  have i1 : I64 = 9218868437227405312 := rfl
  have so : sv 0 = 0 := by decide
  have mo : f_M_order_JJ (lN a) (0 : Int64) = 1 ↔ (¬ I64 < a % W64 ∧ a < W64 ∧ a ≠ 0) := by
    have e : f_M_order_JJ (lN a) (0 : Int64) = if I64 < a % W64 ∨ I64 < 0 % W64 then 2 else if sv a < sv 0 then (-1) else if sv a = sv 0 then 0 else 1 := m_order (b := 0) ha (by decide)
    rw [e, so]
    by_cases g1 : I64 < a % W64
    · rw [if_pos (Or.inl g1)]; exact ⟨fun q => absurd q (by decide), fun q => absurd g1 q.1⟩
    · rw [if_neg (show ¬ (I64 < a % W64 ∨ I64 < 0 % W64) from fun q => q.elim g1 (by decide))]
      unfold sv
      by_cases g2 : a < W64
      · rw [if_pos g2, Nat.mod_eq_of_lt g2, if_neg (by omega)]
        by_cases g3 : a = 0
        · rw [if_pos (by omega)]; exact ⟨fun q => absurd q (by decide), fun q => absurd g3 q.2.2⟩
        · rw [if_neg (by omega)]; exact ⟨fun _ => ⟨by rw [Nat.mod_eq_of_lt g2] at g1; exact g1, g2, g3⟩, fun _ => rfl⟩
      · rw [if_neg g2]
        by_cases g3 : a % W64 = 0
        · rw [g3]; exact ⟨fun q => absurd q (by decide), fun q => absurd q.2.1 g2⟩
        · rw [if_pos (by omega)]; exact ⟨fun q => absurd q (by decide), fun q => absurd q.2.1 g2⟩
  have ia : f_M_isInfinite_JI (lN a) (0 : Int32) = 0 ↔ ¬ a % W64 = I64 := y_isInf (f := 0) (a := a) (by decide) ha
  have c1 : ∀ n, n < 2 ^ 64 → (lg_cmp (lN n) (0 : Int64) ≤ 0 ↔ ¬ (n < W64 ∧ n ≠ 0)) := by
    intro n hn
    rw [lg_cmp_le, Int64.le_iff_toInt_le, l_toInt hn]
    have z : (0 : Int64).toInt = 0 := rfl
    rw [z]; split <;> omega
  rw [m_told0 ha]
  by_cases g1 : I64 < a % W64
  · have e1 : f_M_root_J (lN a) = lN a := by
      unfold f_M_root_J; rw [if_neg (fun q => (mo.mp q).1 g1)]
    have e2 : f_I_root_J (lN N64) = lN N64 := by
      unfold f_I_root_J
      have cn : ¬ lg_cmp (lN N64) (9218868437227405312 : Int64) < 0 := by rw [lg_cmp_lt]; decide
      rw [if_neg (fun q => (c1 N64 (by decide)).mp q (by decide)), if_neg cn]
    rw [e1, told_nan g1, e2, m_told0 ha, told_nan g1]
  rw [told_num g1]
  by_cases g2 : a < W64 ∧ a ≠ 0
  · have am : a % W64 = a := Nat.mod_eq_of_lt g2.1
    by_cases g3 : a = I64
    · have e1 : f_M_root_J (lN a) = lN a := by
        unfold f_M_root_J; rw [if_pos (mo.mpr ⟨g1, g2⟩), if_neg (fun q => ia.mp q (by rw [am]; exact g3))]
      have e2 : f_I_root_J (lN a) = lN a := by
        unfold f_I_root_J
        have cn : ¬ lg_cmp (lN a) (9218868437227405312 : Int64) < 0 := by rw [lg_cmp_lt, g3]; decide
        rw [if_neg (fun q => (c1 a ha).mp q g2), if_neg cn]
      rw [e1, e2, m_told0 ha, told_num g1]
    · have cl : lg_cmp (lN a) (9218868437227405312 : Int64) < 0 := (c_lt (b := I64) (by omega) (by decide)).mpr (by omega)
      have e0 : j_ushr (lN a) (1 : Int32) = j_shr (lN a) (1 : Int32) := by
        have q1 : j_ushr (lN a) (1 : Int32) = lN (a / 2 ^ 1) := w_ushr (k := 1) ha (by decide)
        have q2 : j_shr (lN a) (1 : Int32) = lN (a / 2 ^ 1) := w_shr (k := 1) (by omega) (by decide)
        rw [q1, q2]
      have e1 : f_I_root_J (lN a) = f_M_root_J (lN a) := by
        unfold f_I_root_J f_M_root_J
        rw [if_neg (fun q => (c1 a ha).mp q g2), if_pos cl, if_pos (mo.mpr ⟨g1, g2⟩), if_pos (ia.mpr (fun q => g3 (by rw [← am]; exact q)))]
        simp only [Q_half, Q_sum, Q_div, e0]
      rw [e1]
      unfold f_M_root_J
      rw [if_pos (mo.mpr ⟨g1, g2⟩), if_pos (ia.mpr (fun q => g3 (by rw [← am]; exact q)))]
      exact (T_div _ _).2.symm
  · have e1 : f_M_root_J (lN a) = lN a := by
      unfold f_M_root_J; rw [if_neg (fun q => g2 (mo.mp q).2)]
    have e2 : f_I_root_J (lN a) = lN a := by
      unfold f_I_root_J
      rw [if_pos ((c1 a ha).mpr g2)]
    rw [e1, e2, m_told0 ha, told_num g1]
