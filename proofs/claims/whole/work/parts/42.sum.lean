/-! OUR OWN ROWS: the class's sum is the specification's -/
theorem n_or1 (a : Nat) : a ||| 1 = a + (1 - a % 2) := by
  obtain ⟨q, r, e, hr⟩ := q_mk a (D := 2) (by decide)
  have h1 : q * 2 ^ 1 ||| r = q * 2 ^ 1 + r := n_or (by omega)
  have h2 : q * 2 ^ 1 ||| 1 = q * 2 ^ 1 + 1 := n_or (by decide)
  have h3 : r ||| 1 = 1 := by
    rcases (show r = 0 ∨ r = 1 by omega) with c | c <;> subst c <;> rfl
  have e1 : a = q * 2 ^ 1 ||| r := by rw [h1]; omega
  have e2 : a ||| 1 = q * 2 ^ 1 + 1 := by rw [e1, Nat.or_assoc, h3, h2]
  omega
theorem l_or1 {a : Nat} (h : a < 2 ^ 64) : lN a ||| (1 : Int64) = lN (a + (1 - a % 2)) := by
  rw [k_one, wb_or h (by decide), n_or1]
theorem t_low {m d : Nat} (hm : m < 2 ^ 63) (hd : d < 2 ^ 31) : f_I_lowered_JI (lN m) (nI d) = lN (lowN m d) := by
  unfold f_I_lowered_JI lowN
  have c : nI d ≤ (62 : Int32) ↔ d ≤ 62 := nI_leI (b := 62) hd (by decide)
  by_cases h : d ≤ 62
  · have h64 : d < 64 := by omega
    have e2 : lN m &&& (j_shl (1 : Int64) (nI d) - (1 : Int64)) = lN (m % 2 ^ d) := by rw [l_msk h64, wb_mask (by omega) h64]
    have e1 : j_ushr (lN m) (nI d) = lN (m / 2 ^ d) := w_ushr (by omega) h64
    have hr : m % 2 ^ d ≤ m := Nat.mod_le _ _
    have hq : m / 2 ^ d ≤ m := Nat.div_le_self _ _
    have c0 : lg_cmp (lN (m % 2 ^ d)) (0 : Int64) = 0 ↔ m % 2 ^ d = 0 := c_eq (b := 0) (by omega) (by decide)
    rw [if_pos (c.mpr h), if_neg (show ¬ 62 < d by omega)]
    simp only [e2, e1]
    by_cases h0 : m % 2 ^ d = 0
    · rw [if_pos (c0.mpr h0), if_pos h0]
    · rw [if_neg (fun q => h0 (c0.mp q)), if_neg h0, l_or1 (by omega)]
  · rw [if_neg (fun q => h (c.mp q)), if_pos (by omega)]
    rfl
-- signs
theorem sg_bit {x : Nat} (h : x < 2 ^ 64) : x.testBit 63 = decide (x / W64 = 1) := by
  rw [Nat.testBit_eq_decide_div_mod_eq]
  have h1 := sg_lt h
  have h2 : x / 2 ^ 63 = x / W64 := rfl
  rw [h2]
  congr 1
  apply propext
  omega
theorem sg_xor {a b : Nat} (ha : a < 2 ^ 64) (hb : b < 2 ^ 64) : (a ^^^ b) / W64 = (a / W64 + b / W64) % 2 := by
  have hx : a ^^^ b < 2 ^ 64 := Nat.xor_lt_two_pow ha hb
  have h1 := sg_bit hx
  rw [Nat.testBit_xor, sg_bit ha, sg_bit hb] at h1
  have g1 := sg_lt ha
  have g2 := sg_lt hb
  have g3 := sg_lt hx
  generalize (a ^^^ b) / W64 = x at *
  generalize a / W64 = y at *
  generalize b / W64 = z at *
  rcases (show x = 0 ∨ x = 1 by omega) with e | e <;> rcases (show y = 0 ∨ y = 1 by omega) with f | f <;> rcases (show z = 0 ∨ z = 1 by omega) with g | g <;> subst e f g <;> simp at h1 ⊢
theorem sg_and {a b : Nat} (ha : a < 2 ^ 64) (hb : b < 2 ^ 64) : (a &&& b) / W64 = a / W64 * (b / W64) := by
  have hx : a &&& b < 2 ^ 64 := Nat.and_lt_two_pow a hb
  have h1 := sg_bit hx
  rw [Nat.testBit_and, sg_bit ha, sg_bit hb] at h1
  have g1 := sg_lt ha
  have g2 := sg_lt hb
  have g3 := sg_lt hx
  generalize (a &&& b) / W64 = x at *
  generalize a / W64 = y at *
  generalize b / W64 = z at *
  rcases (show x = 0 ∨ x = 1 by omega) with e | e <;> rcases (show y = 0 ∨ y = 1 by omega) with f | f <;> rcases (show z = 0 ∨ z = 1 by omega) with g | g <;> subst e f g <;> simp at h1 ⊢
theorem t_xneg {a b : Nat} (ha : a < 2 ^ 64) (hb : b < 2 ^ 64) : 0 ≤ lg_cmp (lN a ^^^ lN b) (0 : Int64) ↔ a / W64 = b / W64 := by
  have hx : a ^^^ b < 2 ^ 64 := Nat.xor_lt_two_pow ha hb
  rw [w_xor ha hb, lg_cmp_ge]
  have h1 := l_neg hx
  have h2 := sg_xor ha hb
  have g1 := sg_lt ha
  have g2 := sg_lt hb
  have e : 2 ^ 63 ≤ a ^^^ b ↔ (a ^^^ b) / W64 = 1 := by
    have g3 := sg_lt hx
    have hd := Nat.div_add_mod (a ^^^ b) W64
    have hm := mg_lt (a ^^^ b)
    have w : W64 = 9223372036854775808 := rfl
    generalize (a ^^^ b) / W64 = q at *
    generalize (a ^^^ b) % W64 = r at *
    rcases (show q = 0 ∨ q = 1 by omega) with c | c <;> subst c <;> omega
  have h3 : (0 : Int64) ≤ lN (a ^^^ b) ↔ ¬ lN (a ^^^ b) < 0 := by rw [Int64.le_iff_toInt_le, Int64.lt_iff_toInt_lt]; omega
  rw [h3, h1, e, h2]
  generalize a / W64 = y at *
  generalize b / W64 = z at *
  omega
theorem t_unSum {a b : Nat} (ha : a < 2 ^ 64) (hb : b < 2 ^ 64) (hn : I64 ≤ a % W64 ∨ I64 ≤ b % W64) : f_I_unendingSum_JJ (lN a) (lN b) = lN (addF 53 1926 I64 N64 W64 a b) := by
  unfold f_I_unendingSum_JJ addF
  have na := z_isNo ha
  have nb := z_isNo hb
  have ia := z_isInf ha
  have ib := z_isInf hb
  have ce := c_eq ha hb
  by_cases h1 : I64 < a % W64
  · simp only [eq_false (fun q => na.mp q h1), ite_false]
    rw [if_pos (Or.inl h1), k_nan]
  by_cases h2 : I64 < b % W64
  · simp only [eq_true (na.mpr h1), eq_false (fun q => nb.mp q h2), ite_true, ite_false]
    rw [if_pos (Or.inr h2), k_nan]
  rw [if_neg (show ¬ (I64 < a % W64 ∨ I64 < b % W64) by omega)]
  simp only [eq_true (na.mpr h1), eq_true (nb.mpr h2), ite_true]
  by_cases h3 : a % W64 = I64
  · rw [if_pos (show a % W64 = I64 ∨ b % W64 = I64 from Or.inl h3)]
    simp only [eq_false (fun q => ia.mp q h3), ite_false]
    by_cases h4 : b % W64 = I64
    · simp only [eq_false (fun q => ib.mp q h4), ite_false]
      by_cases h5 : a = b
      · rw [if_pos (ce.mpr h5), if_neg (fun q => q.2.2 h5), if_pos h3]
      · rw [if_neg (fun q => h5 (ce.mp q)), if_pos ⟨h3, h4, h5⟩, k_nan]
    · simp only [eq_true (ib.mpr h4), ite_true]
      rw [if_neg (fun q => h4 q.2.1), if_pos h3]
  · have h4 : b % W64 = I64 := by omega
    simp only [eq_true (ia.mpr h3), ite_true]
    rw [if_pos (show a % W64 = I64 ∨ b % W64 = I64 from Or.inr h4), if_neg (fun q => h3 q.1), if_neg h3]
theorem vexp_f64 {m : Nat} (h : m < I64) : vexp 53 1926 m ≤ 3971 := by
  have i1 : I64 = 9218868437227405312 := rfl
  have : m / 2 ^ (53 - 1) < 2047 := Nat.div_lt_of_lt_mul (by omega)
  unfold vexp; omega
theorem vexp_le {p L a b : Nat} (h : a ≤ b) : vexp p L a ≤ vexp p L b := by
  unfold vexp
  have := Nat.div_le_div_right (c := 2 ^ (p - 1)) h
  omega
theorem rnd_one {p L V : Nat} (hp : 0 < p) (h : 2 ^ L ≤ V) : 1 ≤ rnd p L V := by
  have h1 : rnd p L (2 ^ L) = 1 := by
    rw [rnd_at (sh := L) hp (Nat.le_refl _) (Nat.pow_le_pow_right (by decide) (by omega)) (Or.inl rfl), Nat.sub_self, Nat.zero_mul, Nat.zero_add]
    have := rD_mul (q := 1) (q_pos L)
    rwa [Nat.one_mul] at this
  rw [← h1]; exact rnd_mono hp h
theorem lowN_le {m d : Nat} (hm : m < 2 ^ 62) : lowN m d ≤ 2 ^ 62 := by
  unfold lowN
  have hq : m / 2 ^ d ≤ m := Nat.div_le_self _ _
  split
  · omega
  · split <;> omega
/-- the sum or difference with the larger first -/
theorem t_s124 {a b x m k : Nat} (ha : a < 2 ^ 64) (hb : b < 2 ^ 64) (hx : x < 2 ^ 64) (hm : m ≤ 2 ^ 63) (hk : k < 1000000) (h9 : 9 ≤ k) :
    f_I_sum_JJ_124 (lN a) (lN b) (lN x) (iZ ((k : Int) - 3000)) (lN m) = lN (if m = 0 then a / W64 * (b / W64) * W64 else x / W64 * W64 + enc 53 1926 I64 (m * 2 ^ (k - 9))) := by
  unfold f_I_sum_JJ_124
  have c := c_eq (a := m) (b := 0) (by omega) (by decide)
  by_cases h : m = 0
  · rw [if_pos (by rw [k_zero]; exact c.mpr h), if_pos h, wb_and ha hb, a_sgn (Nat.and_lt_two_pow a hb), sg_and ha hb]
  · rw [if_neg (fun q => h (by rw [k_zero] at q; exact c.mp q)), if_neg h, a_sgn hx]
    have e : iZ ((k : Int) - 3000) - (9 : Int32) = iZ (((k - 9 : Nat) : Int) - 3000) := by
      rw [show (9 : Int32) = iZ 9 from rfl, iZ_sub]
      exact congrArg iZ (by omega)
    rw [e]
    exact t_nearest (sg_lt hx) hm (by omega)
theorem enc_congr {p L I V V' : Nat} (h : rnd p L V = rnd p L V') : enc p L I V = enc p L I V' := by unfold enc; rw [h]
theorem t_s63 {a b x y : Nat} (ha : a < 2 ^ 64) (hb : b < 2 ^ 64) (hx : x < 2 ^ 64) (hy : y < 2 ^ 64) (hf : x % W64 < I64) (hle : y % W64 ≤ x % W64) :
    f_I_sum_JJ_63 (lN a) (lN b) (lN x) (lN y) = lN (if a / W64 = b / W64 then (if val 53 1926 (x % W64) + val 53 1926 (y % W64) = 0 then a / W64 * (b / W64) * W64 else x / W64 * W64 + enc 53 1926 I64 (val 53 1926 (x % W64) + val 53 1926 (y % W64)))
      else (if val 53 1926 (x % W64) = val 53 1926 (y % W64) then a / W64 * (b / W64) * W64 else x / W64 * W64 + enc 53 1926 I64 (val 53 1926 (x % W64) - val 53 1926 (y % W64)))) := by
  have hkx := vexp_f64 hf
  have hgx := vexp_ge 53 1926 (x % W64)
  have hgy := vexp_ge 53 1926 (y % W64)
  have hkl := vexp_le (p := 53) (L := 1926) hle
  have sx := vsig_lt (p := 53) (b := x % W64) (by decide)
  have sy := vsig_lt (p := 53) (b := y % W64) (by decide)
  have e1 : j_shl (lN (vsig 53 (x % W64))) (9 : Int32) = lN (vsig 53 (x % W64) * 512) := w_shl (k := 9) _ (by decide)
  have e2 : j_shl (lN (vsig 53 (y % W64))) (9 : Int32) = lN (vsig 53 (y % W64) * 512) := w_shl (k := 9) _ (by decide)
  have e3 : iZ ((vexp 53 1926 (x % W64) : Int) - 3000) - iZ ((vexp 53 1926 (y % W64) : Int) - 3000) = nI (vexp 53 1926 (x % W64) - vexp 53 1926 (y % W64)) := by
    rw [iZ_sub, ← iZ_n]
    exact congrArg iZ (by omega)
  have e4 : f_I_lowered_JI (lN (vsig 53 (y % W64) * 512)) (nI (vexp 53 1926 (x % W64) - vexp 53 1926 (y % W64))) = lN (lowN (vsig 53 (y % W64) * 512) (vexp 53 1926 (x % W64) - vexp 53 1926 (y % W64))) := t_low (by omega) (by omega)
  have hn : vexp 53 1926 (x % W64) - vexp 53 1926 (y % W64) = 0 ∨ 2 ^ 52 ≤ vsig 53 (x % W64) := by
    rcases vsig_norm (p := 53) (L := 1926) (b := x % W64) with c | c
    · left; omega
    · right; exact c
  have lw := lowN_le (m := vsig 53 (y % W64) * 512) (d := vexp 53 1926 (x % W64) - vexp 53 1926 (y % W64)) (by omega)
  have hks : vexp 53 1926 (x % W64) - (vexp 53 1926 (x % W64) - vexp 53 1926 (y % W64)) = vexp 53 1926 (y % W64) := by omega
  have vx : val 53 1926 (x % W64) = vsig 53 (x % W64) * 2 ^ vexp 53 1926 (x % W64) := rfl
  have vy : val 53 1926 (y % W64) = vsig 53 (y % W64) * 2 ^ vexp 53 1926 (y % W64) := rfl
  have hvl := val_le (p := 53) (L := 1926) (by decide) hle
  have c := t_xneg ha hb
  unfold f_I_sum_JJ_63
  rw [t_pow hx, t_sig hx, t_pow hy, t_sig hy]
  simp only [e1, e2, e3, e4]
  by_cases hs : a / W64 = b / W64
  · rw [if_pos (c.mpr hs), if_pos hs, lN_add, t_s124 ha hb hx (by omega) (by omega) (by omega)]
    have g := cs_add (L := 1926) (X := vsig 53 (x % W64)) (Y := vsig 53 (y % W64)) (kl := vexp 53 1926 (x % W64)) (d := vexp 53 1926 (x % W64) - vexp 53 1926 (y % W64)) (by omega) (by omega) sx sy hn
    rw [hks, ← vx, ← vy] at g
    have gi : vsig 53 (x % W64) * 512 + lowN (vsig 53 (y % W64) * 512) (vexp 53 1926 (x % W64) - vexp 53 1926 (y % W64)) = 0 ↔ val 53 1926 (x % W64) + val 53 1926 (y % W64) = 0 := by
      constructor
      · intro q
        have q1 : vsig 53 (x % W64) = 0 := by omega
        have q2 := vsig_0 (L := 1926) (by decide) q1
        have q3 : y % W64 = 0 := by omega
        rw [q2, q3, val_zero]
      · intro q
        have q1 := val_eq_zero (p := 53) (L := 1926) (b := x % W64) (by decide) (by omega)
        have q2 := val_eq_zero (p := 53) (L := 1926) (b := y % W64) (by decide) (by omega)
        rw [q1, q2]; decide
    by_cases h0 : val 53 1926 (x % W64) + val 53 1926 (y % W64) = 0
    · rw [if_pos h0, if_pos (gi.mpr h0)]
    · rw [if_neg h0, if_neg (fun q => h0 (gi.mp q)), enc_congr g]
  · rw [if_neg (fun q => hs (c.mp q)), if_neg hs]
    obtain ⟨g0, g⟩ := cs_sub (L := 1926) (X := vsig 53 (x % W64)) (Y := vsig 53 (y % W64)) (kl := vexp 53 1926 (x % W64)) (d := vexp 53 1926 (x % W64) - vexp 53 1926 (y % W64)) (by omega) (by omega) sx sy hn (by rw [hks, ← vx, ← vy]; exact hvl)
    rw [hks, ← vx, ← vy] at g
    rw [lN_sub g0, t_s124 ha hb hx (by omega) (by omega) (by omega)]
    by_cases h0 : val 53 1926 (x % W64) = val 53 1926 (y % W64)
    · have q1 := val_inj (p := 53) (L := 1926) (by decide) h0
      have q2 : vsig 53 (x % W64) * 512 - lowN (vsig 53 (y % W64) * 512) (vexp 53 1926 (x % W64) - vexp 53 1926 (y % W64)) = 0 := by
        rw [q1, Nat.sub_self]
        have : lowN (vsig 53 (y % W64) * 512) 0 = vsig 53 (y % W64) * 512 := by
          unfold lowN
          rw [if_neg (by decide), if_pos (Nat.mod_one _), Nat.pow_zero, Nat.div_one]
        rw [this, Nat.sub_self]
      rw [if_pos h0, if_pos q2]
    · have q2 : ¬ vsig 53 (x % W64) * 512 - lowN (vsig 53 (y % W64) * 512) (vexp 53 1926 (x % W64) - vexp 53 1926 (y % W64)) = 0 := by
        intro q
        rw [q, Nat.zero_mul, rnd_zero _ _ (by decide)] at g
        have q3 : 2 ^ 1926 ≤ val 53 1926 (x % W64) - val 53 1926 (y % W64) := by
          have k1 : vsig 53 (y % W64) * 2 ^ vexp 53 1926 (y % W64) < vsig 53 (x % W64) * 2 ^ (vexp 53 1926 (x % W64) - vexp 53 1926 (y % W64)) * 2 ^ vexp 53 1926 (y % W64) := by
            rw [Nat.mul_assoc, ← q_pw hkl, ← vx, ← vy]; omega
          have k2 := Nat.lt_of_mul_lt_mul_right k1
          have k3 : (vsig 53 (y % W64) + 1) * 2 ^ vexp 53 1926 (y % W64) ≤ vsig 53 (x % W64) * 2 ^ (vexp 53 1926 (x % W64) - vexp 53 1926 (y % W64)) * 2 ^ vexp 53 1926 (y % W64) := Nat.mul_le_mul_right _ k2
          rw [Nat.mul_assoc, ← q_pw hkl, ← vx, Nat.add_mul, Nat.one_mul, ← vy] at k3
          have k4 : 2 ^ 1926 ≤ 2 ^ vexp 53 1926 (y % W64) := Nat.pow_le_pow_right (by decide) hgy
          exact Nat.le_sub_of_add_le (by rw [Nat.add_comm]; exact Nat.le_trans (Nat.add_le_add_left k4 _) k3)
        have := rnd_one (p := 53) (L := 1926) (by decide) q3
        omega
      rw [if_neg h0, if_neg q2, enc_congr g]
theorem tw_ne {x y : Nat} (hx : x < 2) (hy : y < 2) (h : ¬ x = y) : x * y = 0 := by
  rcases (show x = 0 ∨ x = 1 by omega) with c | c
  · rw [c, Nat.zero_mul]
  · have : y = 0 := by omega
    rw [this, Nat.mul_zero]
theorem tw_eq {x : Nat} (hx : x < 2) : x * x = x := by
  rcases (show x = 0 ∨ x = 1 by omega) with c | c <;> rw [c]
theorem t_sum {a b : Nat} (ha : a < 2 ^ 64) (hb : b < 2 ^ 64) : f_I_sum_JJ (lN a) (lN b) = lN (addF 53 1926 I64 N64 W64 a b) := by
  have fa := z_isFin ha
  have fb := z_isFin hb
  have s1 := sg_lt ha
  have s2 := sg_lt hb
  unfold f_I_sum_JJ
  by_cases h1 : I64 ≤ a % W64
  · rw [if_pos (fa.mpr h1), t_unSum ha hb (Or.inl h1)]
  rw [if_neg (fun q => h1 (fa.mp q))]
  by_cases h2 : I64 ≤ b % W64
  · rw [if_pos (fb.mpr h2), t_unSum ha hb (Or.inr h2)]
  rw [if_neg (fun q => h2 (fb.mp q)), a_mag ha, a_mag hb]
  have c := c_ge (mg_lt a) (mg_lt b)
  have ad : addF 53 1926 I64 N64 W64 a b = if a / W64 = b / W64 then a / W64 * W64 + enc 53 1926 I64 (val 53 1926 (a % W64) + val 53 1926 (b % W64))
    else if val 53 1926 (a % W64) = val 53 1926 (b % W64) then 0
    else if val 53 1926 (b % W64) < val 53 1926 (a % W64) then a / W64 * W64 + enc 53 1926 I64 (val 53 1926 (a % W64) - val 53 1926 (b % W64))
    else b / W64 * W64 + enc 53 1926 I64 (val 53 1926 (b % W64) - val 53 1926 (a % W64)) := by
    unfold addF; rw [if_neg (by omega), if_neg (by omega)]
  rw [ad]
  by_cases h3 : b % W64 ≤ a % W64
  · rw [if_pos (c.mpr h3)]
    have e : f_I_sum_JJ_39 (lN a) (lN b) (0 : Int32) = f_I_sum_JJ_63 (lN a) (lN b) (lN a) (lN b) := by
      unfold f_I_sum_JJ_39 f_I_sum_JJ_51; rw [if_pos rfl, if_pos rfl]
    rw [e, t_s63 ha hb ha hb (by omega) h3]
    have hv := val_le (p := 53) (L := 1926) (by decide) h3
    refine congrArg lN ?_
    by_cases hs : a / W64 = b / W64
    · rw [if_pos hs, if_pos hs]
      by_cases h0 : val 53 1926 (a % W64) + val 53 1926 (b % W64) = 0
      · rw [if_pos h0, h0, enc_zero _ _ _ (by decide), ← hs, tw_eq s1, Nat.add_zero]
      · rw [if_neg h0]
    · rw [if_neg hs, if_neg hs]
      by_cases h0 : val 53 1926 (a % W64) = val 53 1926 (b % W64)
      · rw [if_pos h0, if_pos h0, tw_ne s1 s2 hs, Nat.zero_mul]
      · rw [if_neg h0, if_neg h0, if_pos (by omega)]
  · rw [if_neg (fun q => h3 (c.mp q))]
    have e : f_I_sum_JJ_39 (lN a) (lN b) (1 : Int32) = f_I_sum_JJ_63 (lN a) (lN b) (lN b) (lN a) := by
      unfold f_I_sum_JJ_39 f_I_sum_JJ_51; rw [if_neg (by decide), if_neg (by decide)]
    rw [e, t_s63 ha hb hb ha (by omega) (by omega)]
    have hv := val_lt (p := 53) (L := 1926) (by decide) (Nat.not_le.mp h3)
    refine congrArg lN ?_
    by_cases hs : a / W64 = b / W64
    · rw [if_pos hs, if_pos hs, if_neg (by omega), Nat.add_comm (val 53 1926 (a % W64)), hs]
    · rw [if_neg hs, if_neg hs, if_neg (by omega), if_neg (by omega), if_neg (by omega)]
