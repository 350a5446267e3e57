/-! OUR OWN ROWS: float results by way of doubles -/
theorem q_pm {a b c : Nat} (h : a + b = c) : 2 ^ c = 2 ^ a * 2 ^ b := by rw [← h, Nat.pow_add]
theorem q_half {k : Nat} (h : 0 < k) : 2 ^ k = 2 * 2 ^ (k - 1) := by
  have e : 2 ^ k = 2 ^ 1 * 2 ^ (k - 1) := q_pm (by omega)
  rw [e, Nat.pow_one]
theorem q_x32 {X k : Nat} (h : 5 ≤ k) : 32 * X * 2 ^ (k - 5) = X * 2 ^ k := by
  have e : 2 ^ k = 2 ^ 5 * 2 ^ (k - 5) := q_pm (by omega)
  rw [e, Nat.mul_comm 32 X, Nat.mul_assoc]
theorem rsh_two (V : Nat) : rsh 53 1926 V < rsh 24 2851 V := by unfold rsh; omega
theorem fl_of {V : Nat} (hm : ∀ j, val 53 1926 (rnd 53 1926 V) = (2 * j + 1) * 2 ^ (rsh 24 2851 V - 1) → val 53 1926 (rnd 53 1926 V) = V) :
    rnd 24 2851 (val 53 1926 (rnd 53 1926 V)) = rnd 24 2851 V := by
  rw [val_rnd (by decide)] at hm ⊢
  exact rnd_twice (by decide) (rsh_two V) hm
theorem fl_exact {c k : Nat} (hc : c < 2 ^ 53) (hk : 1926 ≤ k) : rnd 24 2851 (val 53 1926 (rnd 53 1926 (c * 2 ^ k))) = rnd 24 2851 (c * 2 ^ k) := by
  rw [rnd_exact (by decide) hc hk]
/-- between points of a grid that a double can tell -/
theorem val_rnd_up {V t k : Nat} (hV : V < 2 ^ (k + 53)) (hk : 1926 ≤ k) (h : V ≤ t * 2 ^ k) : val 53 1926 (rnd 53 1926 V) ≤ t * 2 ^ k := by
  rw [val_rnd (by decide)]
  have hs : rsh 53 1926 V ≤ k := by
    by_cases h0 : V = 0
    · subst h0; unfold rsh; simp; omega
    · have := (Nat.log2_lt h0).mpr hV
      unfold rsh; omega
  generalize rsh 53 1926 V = s at hs ⊢
  rw [q_pw hs, ← Nat.mul_assoc] at h ⊢
  exact Nat.mul_le_mul_right _ (rD_le (q_pos s) h)
theorem val_rnd_dn {V t k : Nat} (hV : V < 2 ^ (k + 53)) (hk : 1926 ≤ k) (h : t * 2 ^ k ≤ V) : t * 2 ^ k ≤ val 53 1926 (rnd 53 1926 V) := by
  rw [val_rnd (by decide)]
  have hs : rsh 53 1926 V ≤ k := by
    by_cases h0 : V = 0
    · subst h0; unfold rsh; simp; omega
    · have := (Nat.log2_lt h0).mpr hV
      unfold rsh; omega
  generalize rsh 53 1926 V = s at hs ⊢
  rw [q_pw hs, ← Nat.mul_assoc] at h ⊢
  exact Nat.mul_le_mul_right _ (rD_ge (q_pos s) h)
/-- a float and something far below its last digit: no double of it is a middle of two floats -/
theorem fl_far {V X k : Nat} (hk : 2851 < k) (hX : X < 2 ^ 24) (hX2 : 2 ^ 23 ≤ X) (h1 : (32 * X - 1) * 2 ^ (k - 5) ≤ V) (h2 : V ≤ (32 * X + 1) * 2 ^ (k - 5)) :
    rnd 24 2851 (val 53 1926 (rnd 53 1926 V)) = rnd 24 2851 V := by
  refine fl_of (fun j hj => ?_)
  exfalso
  have hB := q_pos (k - 5)
  have e24 : 2 ^ (k + 24) = 2 ^ 29 * 2 ^ (k - 5) := q_pm (by omega)
  have e22 : 2 ^ (k + 22) = 2 ^ 27 * 2 ^ (k - 5) := q_pm (by omega)
  have a1 : (32 * X + 1) * 2 ^ (k - 5) < 2 ^ 29 * 2 ^ (k - 5) := Nat.mul_lt_mul_of_pos_right (by omega) hB
  have a2 : 2 ^ 27 * 2 ^ (k - 5) ≤ (32 * X - 1) * 2 ^ (k - 5) := Nat.mul_le_mul_right _ (by omega)
  have v1 : V < 2 ^ (k + 24) := by omega
  have v2 : 2 ^ (k + 22) ≤ V := by omega
  have v3 : V < 2 ^ (k - 5 + 53) := Nat.lt_of_lt_of_le v1 (Nat.pow_le_pow_right (by decide) (by omega))
  have h0 : V ≠ 0 := by have := q_pos (k + 22); omega
  have l1 := (Nat.log2_lt h0).mpr v1
  have l2 : ¬ V.log2 < k + 22 := fun c => by have := (Nat.log2_lt h0).mp c; omega
  have hs : rsh 24 2851 V - 1 = k - 1 ∨ rsh 24 2851 V - 1 = k - 2 := by unfold rsh; omega
  have w1 := val_rnd_dn v3 (by omega) h1
  have w2 := val_rnd_up v3 (by omega) h2
  rw [hj] at w1 w2
  rcases hs with hs | hs
  · have e : 2 ^ (k - 1) = 2 ^ 4 * 2 ^ (k - 5) := q_pm (by omega)
    rw [hs, e, ← Nat.mul_assoc] at w1 w2
    have := Nat.le_of_mul_le_mul_right w1 hB
    have := Nat.le_of_mul_le_mul_right w2 hB
    omega
  · have e : 2 ^ (k - 2) = 2 ^ 3 * 2 ^ (k - 5) := q_pm (by omega)
    rw [hs, e, ← Nat.mul_assoc] at w1 w2
    have := Nat.le_of_mul_le_mul_right w1 hB
    have := Nat.le_of_mul_le_mul_right w2 hB
    omega
theorem fl_add {X Y k l : Nat} (hl : 2851 ≤ l) (hkl : l ≤ k) (hX : X < 2 ^ 24) (hY : Y < 2 ^ 24) (hn : k = 2851 ∨ 2 ^ 23 ≤ X) :
    rnd 24 2851 (val 53 1926 (rnd 53 1926 (X * 2 ^ k + Y * 2 ^ l))) = rnd 24 2851 (X * 2 ^ k + Y * 2 ^ l) := by
  rcases Nat.lt_or_ge 28 (k - l) with c | c
  · refine fl_far (X := X) (k := k) (by omega) hX (by omega) ?_ ?_
    · have e : 32 * X * 2 ^ (k - 5) = X * 2 ^ k := q_x32 (by omega)
      have : (32 * X - 1) * 2 ^ (k - 5) ≤ 32 * X * 2 ^ (k - 5) := Nat.mul_le_mul_right _ (by omega)
      omega
    · have e : 32 * X * 2 ^ (k - 5) = X * 2 ^ k := q_x32 (by omega)
      have a1 : Y * 2 ^ l ≤ 2 ^ 24 * 2 ^ l := Nat.mul_le_mul_right _ (Nat.le_of_lt hY)
      have a2 : 2 ^ 24 * 2 ^ l ≤ 2 ^ (k - 5) := by rw [← Nat.pow_add]; exact Nat.pow_le_pow_right (by decide) (by omega)
      rw [Nat.add_mul, Nat.one_mul, e]; omega
  · have e : X * 2 ^ k + Y * 2 ^ l = (X * 2 ^ (k - l) + Y) * 2 ^ l := by rw [Nat.add_mul, Nat.mul_assoc, ← q_pw hkl]
    rw [e]
    refine fl_exact ?_ (by omega)
    have a1 : X * 2 ^ (k - l) ≤ X * 2 ^ 28 := Nat.mul_le_mul_left _ (Nat.pow_le_pow_right (by decide) c)
    omega
theorem fl_sub {X Y k l : Nat} (hl : 2851 ≤ l) (hkl : l ≤ k) (hX : X < 2 ^ 24) (hY : Y < 2 ^ 24) (hn : k = 2851 ∨ 2 ^ 23 ≤ X) :
    rnd 24 2851 (val 53 1926 (rnd 53 1926 (X * 2 ^ k - Y * 2 ^ l))) = rnd 24 2851 (X * 2 ^ k - Y * 2 ^ l) := by
  rcases Nat.lt_or_ge 28 (k - l) with c | c
  · have e : 32 * X * 2 ^ (k - 5) = X * 2 ^ k := q_x32 (by omega)
    refine fl_far (X := X) (k := k) (by omega) hX (by omega) ?_ ?_
    · have a1 : Y * 2 ^ l ≤ 2 ^ 24 * 2 ^ l := Nat.mul_le_mul_right _ (Nat.le_of_lt hY)
      have a2 : 2 ^ 24 * 2 ^ l ≤ 2 ^ (k - 5) := by rw [← Nat.pow_add]; exact Nat.pow_le_pow_right (by decide) (by omega)
      rw [Nat.sub_mul, Nat.one_mul, e]; omega
    · have : 32 * X * 2 ^ (k - 5) ≤ (32 * X + 1) * 2 ^ (k - 5) := Nat.mul_le_mul_right _ (by omega)
      omega
  · have e : X * 2 ^ k - Y * 2 ^ l = (X * 2 ^ (k - l) - Y) * 2 ^ l := by rw [Nat.sub_mul, Nat.mul_assoc, ← q_pw hkl]
    rw [e]
    refine fl_exact ?_ (by omega)
    have a1 : X * 2 ^ (k - l) ≤ X * 2 ^ 28 := Nat.mul_le_mul_left _ (Nat.pow_le_pow_right (by decide) c)
    omega
-- a smaller number less a larger one of the same last place, both small
theorem fl_sub' {X Y k l : Nat} (hl : 2851 ≤ l) (hkl : l ≤ k) (hX : X < 2 ^ 24) (hY : Y < 2 ^ 24) (hn : k = 2851 ∨ 2 ^ 23 ≤ X) :
    rnd 24 2851 (val 53 1926 (rnd 53 1926 (Y * 2 ^ l - X * 2 ^ k))) = rnd 24 2851 (Y * 2 ^ l - X * 2 ^ k) := by
  have e : Y * 2 ^ l - X * 2 ^ k = (Y - X * 2 ^ (k - l)) * 2 ^ l := by rw [Nat.sub_mul, Nat.mul_assoc, ← q_pw hkl]
  rw [e]; exact fl_exact (by omega) (by omega)
-- the quotient of two full significands, with sixty digits and a sign that there is more
def quoV (x y k : Nat) : Nat := if x * 2 ^ 60 % y = 0 then x * 2 ^ 60 / y * 2 ^ k else (2 * (x * 2 ^ 60 / y) + 1) * 2 ^ (k - 1)
theorem quo_rng {x y P : Nat} (hP : 0 < P) (hx1 : P ≤ x) (hx2 : x < 2 * P) (hy1 : P ≤ y) (hy2 : y < 2 * P) : 2 ^ 59 ≤ x * 2 ^ 60 / y ∧ x * 2 ^ 60 / y < 2 ^ 61 := by
  constructor
  · rw [Nat.le_div_iff_mul_le (by omega)]; omega
  · refine Nat.div_lt_of_lt_mul ?_; omega
theorem quo_mid {x y Q r M : Nat} (hd : y * Q + r = x * 2 ^ 60) (hr : r < y) (hy : y < 2 ^ 24) (m1 : M * 2 ^ 35 ≤ Q + 256) (m2 : Q ≤ M * 2 ^ 35 + 256) : x * 2 ^ 60 = M * 2 ^ 35 * y := by
  have n1 : y * (M * 2 ^ 35) ≤ y * (Q + 256) := Nat.mul_le_mul_left y m1
  have n2 : y * Q ≤ y * (M * 2 ^ 35 + 256) := Nat.mul_le_mul_left y m2
  rw [Nat.mul_add] at n1 n2
  have n3 : y * (M * 2 ^ 35) = y * M * 2 ^ 35 := (Nat.mul_assoc y M (2 ^ 35)).symm
  have n4 : M * 2 ^ 35 * y = y * M * 2 ^ 35 := by rw [Nat.mul_comm, n3]
  rw [n3] at n1 n2
  rw [n4]
  generalize y * M = A at n1 n2
  generalize y * Q = P at hd n1 n2
  clear n3 n4 m1 m2
  have p1 : (2 : Nat) ^ 60 = 1152921504606846976 := by decide
  have p2 : (2 : Nat) ^ 35 = 34359738368 := by decide
  rw [p1] at hd ⊢
  rw [p2] at n1 n2 ⊢
  omega
theorem quo_b {Q A : Nat} (m1 : Q / 256 * 2 ^ 8 ≤ A) (m2 : A ≤ (Q / 256 + 1) * 2 ^ 8) : A ≤ Q + 256 ∧ Q ≤ A + 256 := by omega
theorem fl_quo {x y k : Nat} (hx1 : 2 ^ 23 ≤ x) (hx2 : x < 2 ^ 24) (hy1 : 2 ^ 23 ≤ y) (hy2 : y < 2 ^ 24) (hk : 2000 ≤ k) :
    rnd 24 2851 (val 53 1926 (rnd 53 1926 (quoV x y k))) = rnd 24 2851 (quoV x y k) := by
  obtain ⟨r1, r2⟩ := quo_rng (P := 2 ^ 23) (by decide) hx1 (by omega) hy1 (by omega)
  have hd := Nat.div_add_mod (x * 2 ^ 60) y
  have hm := Nat.mod_lt (x * 2 ^ 60) (show 0 < y by omega)
  refine fl_of (fun j hj => ?_)
  generalize hV : quoV x y k = V at hj ⊢
  have hk1 : 2 ^ k = 2 * 2 ^ (k - 1) := q_half (by omega)
  have hB := q_pos (k - 1)
  -- V lies in [Q, Q + 1) of 2 ^ k
  have b1 : x * 2 ^ 60 / y * 2 ^ k ≤ V := by
    rw [← hV]; unfold quoV; split
    · exact Nat.le_refl _
    · rw [hk1, Nat.add_mul, Nat.mul_left_comm, Nat.mul_assoc]; omega
  have b2 : V < (x * 2 ^ 60 / y + 1) * 2 ^ k := by
    rw [← hV]; unfold quoV; split
    · exact Nat.mul_lt_mul_of_pos_right (by omega) (q_pos k)
    · rw [hk1, Nat.mul_left_comm, ← Nat.mul_assoc]; exact Nat.mul_lt_mul_of_pos_right (by omega) hB
  generalize hQ : x * 2 ^ 60 / y = Q at r1 r2 hd b1 b2
  have v1 : V < 2 ^ (k + 61) := by
    rw [Nat.add_comm, Nat.pow_add]; exact Nat.lt_of_lt_of_le b2 (Nat.mul_le_mul_right _ r2)
  have v2 : 2 ^ (k + 59) ≤ V := by
    rw [Nat.add_comm, Nat.pow_add]; exact Nat.le_trans (Nat.mul_le_mul_right _ r1) b1
  have h0 : V ≠ 0 := by have := q_pos (k + 59); omega
  have l1 := (Nat.log2_lt h0).mpr v1
  have l2 : ¬ V.log2 < k + 59 := fun c => by have := (Nat.log2_lt h0).mp c; omega
  have s2 : k + 36 ≤ rsh 24 2851 V := by unfold rsh; omega
  -- the middle is a multiple of 2 ^ (k + 35)
  have eM : (2 * j + 1) * 2 ^ (rsh 24 2851 V - 1) = ((2 * j + 1) * 2 ^ (rsh 24 2851 V - k - 36) * 2 ^ 35) * 2 ^ k := by
    have h1 : 2 ^ (rsh 24 2851 V - 1) = 2 ^ (rsh 24 2851 V - k - 36) * 2 ^ (35 + k) := q_pm (by omega)
    have h2 : 2 ^ (35 + k) = 2 ^ 35 * 2 ^ k := q_pm rfl
    rw [h1, h2, ← Nat.mul_assoc, ← Nat.mul_assoc]
  rw [eM] at hj
  generalize (2 * j + 1) * 2 ^ (rsh 24 2851 V - k - 36) = M at hj
  -- a double in between is off by at most 2 ^ (k + 8)
  have w1 : (Q / 256) * 2 ^ (k + 8) ≤ val 53 1926 (rnd 53 1926 V) := by
    refine val_rnd_dn (by rw [show k + 8 + 53 = k + 61 from by omega]; exact v1) (by omega) ?_
    refine Nat.le_trans ?_ b1
    rw [Nat.add_comm k 8, Nat.pow_add, ← Nat.mul_assoc]; exact Nat.mul_le_mul_right _ (by omega)
  have w2 : val 53 1926 (rnd 53 1926 V) ≤ (Q / 256 + 1) * 2 ^ (k + 8) := by
    refine val_rnd_up (by rw [show k + 8 + 53 = k + 61 from by omega]; exact v1) (by omega) ?_
    refine Nat.le_trans (Nat.le_of_lt b2) ?_
    rw [Nat.add_comm k 8, Nat.pow_add, ← Nat.mul_assoc]; exact Nat.mul_le_mul_right _ (by omega)
  rw [hj, Nat.add_comm k 8, Nat.pow_add, ← Nat.mul_assoc] at w1 w2
  have m1 := Nat.le_of_mul_le_mul_right w1 (q_pos k)
  have m2 := Nat.le_of_mul_le_mul_right w2 (q_pos k)
  have n5 : x * 2 ^ 60 = M * 2 ^ 35 * y + 0 := by rw [Nat.add_zero]; exact quo_mid (x := x) (y := y) (Q := Q) (M := M) hd hm hy2 (quo_b m1 m2).1 (quo_b m1 m2).2
  obtain ⟨c1, c2⟩ := q_div n5 (by omega)
  rw [hj, ← hV]; unfold quoV; rw [c2, if_pos rfl, c1]
/-- the remainder -/
theorem rem_scale {X Y d kb : Nat} : (X * 2 ^ (d + kb)) % (Y * 2 ^ kb) = (X * 2 ^ d % Y) * 2 ^ kb := by
  rw [Nat.pow_add, ← Nat.mul_assoc, Nat.mul_mod_mul_right]
