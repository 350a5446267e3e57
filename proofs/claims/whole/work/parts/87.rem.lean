/-! OUR OWN ROWS: the remainder -/
theorem rm_step (r Y s t : Nat) : (r * 2 ^ s % Y) * 2 ^ t % Y = r * 2 ^ (s + t) % Y := by
  rw [Nat.pow_add, ← Nat.mul_assoc, Nat.mod_mul_mod]
theorem t_67x {x b Y r : Int64} {z : Int} (n : Nat) (h1 : -100000 < z) (h2 : z ≤ 0) : f_I_remainder_JJ_67 (n + 1) x b Y r (iZ z) = f_I_nearest_JIJ (x &&& (-9223372036854775808 : Int64)) (f_I_power_J b) r := by
  rw [f_I_remainder_JJ_67]
  have c : iZ z ≤ 0 := by
    rw [show (0 : Int32) = iZ 0 from rfl, iZ_le (by omega) (by omega) (by omega) (by omega)]; exact h2
  rw [if_pos c]
theorem t_67 {x b : Int64} {Y : Nat} (hY0 : 0 < Y) (hY : Y < 2 ^ 53) : ∀ (n l r : Nat), l < n → l < 50000 → r < Y → f_I_remainder_JJ_67 n x b (lN Y) (lN r) (nI l) = f_I_nearest_JIJ (x &&& (-9223372036854775808 : Int64)) (f_I_power_J b) (lN (r * 2 ^ l % Y)) := by
  intro n
  induction n with
  | zero => intro l r h; exact absurd h (Nat.not_lt_zero _)
  | succ n ih =>
    intro l r hl hb hr
    rcases Nat.eq_zero_or_pos l with e | hp
    · subst e
      have := t_67x (x := x) (b := b) (Y := lN Y) (r := lN r) (z := 0) n (by decide) (by decide)
      rw [Nat.pow_zero, Nat.mul_one, Nat.mod_eq_of_lt hr]
      exact this
    · rw [f_I_remainder_JJ_67]
      have c : ¬ nI l ≤ 0 := by
        rw [show (0 : Int32) = nI 0 from rfl]; exact nI_ge hp (by omega)
      rw [if_neg c]
      have em : f_jM_min_II (nI l) (10 : Int32) = nI (min l 10) := by
        unfold f_jM_min_II
        have cl : (10 : Int32) < nI l ↔ 10 < l := nI_ltI (a := 10) (by decide) (by omega)
        by_cases g : 10 < l
        · rw [if_pos (cl.mpr g), Nat.min_eq_right (by omega)]; rfl
        · rw [if_neg (fun q => g (cl.mp q)), Nat.min_eq_left (by omega)]
      have p10 : 2 ^ min l 10 ≤ 2 ^ 10 := Nat.pow_le_pow_right (by decide) (Nat.min_le_right _ _)
      have hm : r * 2 ^ min l 10 < 2 ^ 63 := by
        have := Nat.mul_le_mul_left r p10
        omega
      have es : j_shl (lN r) (nI (min l 10)) = lN (r * 2 ^ min l 10) := w_shl _ (by omega)
      have ex : nI l + (-10) = iZ ((l : Int) - 10) := by
        rw [show (-10 : Int32) = iZ (-10) from rfl, ← iZ_n, iZ_add]; exact congrArg iZ (by omega)
      simp only [em, es, ex]
      rw [l_rem hm (by omega)]
      have hr2 := Nat.mod_lt (r * 2 ^ min l 10) hY0
      rcases Nat.lt_or_ge 10 l with g | g
      · have e10 : min l 10 = 10 := Nat.min_eq_right (by omega)
        have e1 : iZ ((l : Int) - 10) = nI (l - 10) := by rw [← iZ_n]; exact congrArg iZ (by omega)
        rw [e10] at hr2 ⊢
        rw [e1, ih (l - 10) _ (by omega) (by omega) hr2, rm_step]
        have e2 : 10 + (l - 10) = l := by omega
        rw [e2]
      · have e10 : min l 10 = l := Nat.min_eq_left g
        obtain ⟨k, hk⟩ : ∃ k, n = k + 1 := ⟨n - 1, by omega⟩
        subst hk
        rw [e10, t_67x k (by omega) (by omega)]
theorem t_rem {a b : Nat} (ha : a < 2 ^ 64) (hb : b < 2 ^ 64) : f_I_remainder_JJ (lN a) (lN b) = lN (remF 53 1926 I64 N64 W64 a b) := by
  have nb := z_isNo hb
  have fa := z_isFin ha
  have sY := vsig_lt (p := 53) (b := b % W64) (by decide)
  have sX := vsig_lt (p := 53) (b := a % W64) (by decide)
  have cY : lg_cmp (lN (vsig 53 (b % W64))) (0 : Int64) = 0 ↔ vsig 53 (b % W64) = 0 := c_eq (b := 0) (by omega) (by decide)
  have i1 : I64 = 9218868437227405312 := rfl
  unfold f_I_remainder_JJ
  rw [t_sig hb]
  dsimp only
  by_cases h1 : I64 < b % W64
  · have e : remF 53 1926 I64 N64 W64 a b = N64 := if_pos (Or.inr (Or.inl h1))
    rw [if_neg (fun q => nb.mp q h1), e, k_nan]
  rw [if_pos (nb.mpr h1)]
  by_cases h2 : I64 ≤ a % W64
  · have e : remF 53 1926 I64 N64 W64 a b = N64 := if_pos (by rcases Nat.lt_or_eq_of_le h2 with c | c; exact Or.inl c; exact Or.inr (Or.inr (Or.inl c.symm)))
    rw [if_pos (fa.mpr h2), e, k_nan]
  rw [if_neg (fun q => h2 (fa.mp q))]
  by_cases h3 : b % W64 = 0
  · have e : remF 53 1926 I64 N64 W64 a b = N64 := if_pos (Or.inr (Or.inr (Or.inr h3)))
    have v0 : vsig 53 (b % W64) = 0 := by rw [h3]; decide
    rw [if_pos (cY.mpr v0), e, k_nan]
  have Y0 : vsig 53 (b % W64) ≠ 0 := fun q => h3 (vsig_0 (L := 1926) (by decide) q)
  rw [if_neg (fun q => Y0 (cY.mp q)), a_mag ha, a_mag hb]
  have er : remF 53 1926 I64 N64 W64 a b = if a % W64 < b % W64 then a else a / W64 * W64 + enc 53 1926 I64 (val 53 1926 (a % W64) % val 53 1926 (b % W64)) := by
    unfold remF; rw [if_neg (show ¬ (I64 < a % W64 ∨ I64 < b % W64 ∨ a % W64 = I64 ∨ b % W64 = 0) by omega)]
  rw [er]
  have c := c_ge (mg_lt a) (mg_lt b)
  by_cases h4 : a % W64 < b % W64
  · rw [if_neg (fun q => by have := c.mp q; omega), if_pos h4]
  rw [if_pos (c.mpr (Nat.not_lt.mp h4)), if_neg h4]
  have ka := vexp_f64 (Nat.not_le.mp h2)
  have kb := vexp_ge 53 1926 (b % W64)
  have kl := vexp_le (p := 53) (L := 1926) (Nat.not_lt.mp h4)
  rw [t_sig ha, l_rem (by omega) (by omega), t_pow ha, t_pow hb, iZ_sub]
  have ed : iZ ((vexp 53 1926 (a % W64) : Int) - 3000 - ((vexp 53 1926 (b % W64) : Int) - 3000)) = nI (vexp 53 1926 (a % W64) - vexp 53 1926 (b % W64)) := by
    rw [← iZ_n]; exact congrArg iZ (by omega)
  rw [ed, nI_clamp (by omega)]
  have hr := Nat.mod_lt (vsig 53 (a % W64)) (Nat.pos_of_ne_zero Y0)
  rw [t_67 (Nat.pos_of_ne_zero Y0) (by omega) _ _ _ (Nat.lt_succ_self _) (by omega) hr, a_sgn ha, t_pow hb]
  have e2 : vsig 53 (a % W64) % vsig 53 (b % W64) * 2 ^ (vexp 53 1926 (a % W64) - vexp 53 1926 (b % W64)) % vsig 53 (b % W64) = vsig 53 (a % W64) * 2 ^ (vexp 53 1926 (a % W64) - vexp 53 1926 (b % W64)) % vsig 53 (b % W64) := Nat.mod_mul_mod ..
  rw [e2]
  have hm := Nat.mod_lt (vsig 53 (a % W64) * 2 ^ (vexp 53 1926 (a % W64) - vexp 53 1926 (b % W64))) (Nat.pos_of_ne_zero Y0)
  rw [t_nearest (sg_lt ha) (by omega) (by omega), ← rem_scale]
  have e3 : vexp 53 1926 (a % W64) - vexp 53 1926 (b % W64) + vexp 53 1926 (b % W64) = vexp 53 1926 (a % W64) := by omega
  rw [e3]
  rfl
-- the reference's
theorem m_142 {f a b : Nat} {x y : Int64} {Y : Nat} (hY0 : 0 < Y) (hY : Y < 2 ^ 53) {D : Nat} (hD : D < 50000) (F : Int32) : ∀ (n j r : Nat), j ≤ D → D - j < n → r < Y →
    f_M_rest_JJI_142 n x y F (lN Y) (nI D) (lN r) (nI j) = f_M_exact_ZJII (f_M_minus_JI x F) (lN (r * 2 ^ (D - j) % Y)) (f_M_power_JI y F) F := by
  intro n
  induction n with
  | zero => intro j r _ h; exact absurd h (Nat.not_lt_zero _)
  | succ n ih =>
    intro j r hj hn hr
    rw [f_M_rest_JJI_142]
    have c : nI D ≤ nI j ↔ D ≤ j := nI_leI (by omega) (by omega)
    by_cases g : D ≤ j
    · have e : D - j = 0 := by omega
      rw [if_pos (c.mpr g), e, Nat.pow_zero, Nat.mul_one, Nat.mod_eq_of_lt hr]
    · have es : j_shl (lN r) (1 : Int32) = lN (r * 2 ^ 1) := w_shl (k := 1) _ (by decide)
      have e3 : nI j + 1 = nI (j + 1) := nI_1 j
      rw [if_neg (fun q => g (c.mp q))]
      simp only [es, e3]
      rw [l_rem (by omega) (by omega), ih (j + 1) _ (by omega) (by omega) (Nat.mod_lt _ hY0), rm_step]
      have e2 : 1 + (D - (j + 1)) = D - j := by omega
      rw [e2]
