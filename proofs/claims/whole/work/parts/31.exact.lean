/-! OUR OWN ROWS: exact numbers, order of codes, the lost last digits of sum, product, quotient -/
theorem rnd_exact {p L c k : Nat} (hp : 0 < p) (hc : c < 2 ^ p) (hk : L ≤ k) : val p L (rnd p L (c * 2 ^ k)) = c * 2 ^ k := by
  rw [val_rnd hp]
  have hs : rsh p L (c * 2 ^ k) ≤ k := by
    by_cases h0 : c * 2 ^ k = 0
    · rw [h0]; unfold rsh; simp; omega
    · have : c * 2 ^ k < 2 ^ (p + k) := by rw [Nat.pow_add]; exact Nat.mul_lt_mul_of_pos_right hc (q_pos k)
      have := (Nat.log2_lt h0).mpr this
      unfold rsh; omega
  have e : c * 2 ^ k = (c * 2 ^ (k - rsh p L (c * 2 ^ k))) * 2 ^ rsh p L (c * 2 ^ k) := by rw [Nat.mul_assoc, ← q_pw hs]
  generalize rsh p L (c * 2 ^ k) = s at hs e ⊢
  rw [e, rD_mul (q_pos s)]
theorem val_step {p L b : Nat} (hp : 0 < p) : val p L (b + 1) = val p L b + 2 ^ vexp p L b := by
  have h1 := vsig_lt (p := p) (b := b) hp
  have h2 : vexp p L b = L ∨ 2 ^ (p - 1) ≤ vsig p b + 1 := by
    rcases vsig_norm (p := p) (L := L) (b := b) with h | h
    · exact Or.inl h
    · right; omega
  have h3 := val_code hp (vexp_ge p L b) (c := vsig p b + 1) (by omega) h2
  rw [← Nat.add_assoc, vcode] at h3
  rw [h3, Nat.add_mul, Nat.one_mul]; rfl
theorem val_mono1 {p L b : Nat} (hp : 0 < p) (n : Nat) : val p L b ≤ val p L (b + n) := by
  induction n with
  | zero => exact Nat.le_refl _
  | succ n ih => rw [← Nat.add_assoc, val_step hp]; exact Nat.le_trans ih (Nat.le_add_right _ _)
theorem val_le {p L a b : Nat} (hp : 0 < p) (h : a ≤ b) : val p L a ≤ val p L b := by
  have := val_mono1 (p := p) (L := L) (b := a) hp (b - a)
  rwa [Nat.add_sub_cancel' h] at this
theorem val_lt {p L a b : Nat} (hp : 0 < p) (h : a < b) : val p L a < val p L b := by
  have h1 := val_le (p := p) (L := L) hp (show a + 1 ≤ b from h)
  rw [val_step hp] at h1
  have := q_pos (vexp p L a)
  omega
theorem val_lt_iff {p L a b : Nat} (hp : 0 < p) : val p L a < val p L b ↔ a < b :=
  ⟨fun h => by rcases Nat.lt_or_ge a b with c | c; exact c; have := val_le (p := p) (L := L) hp c; omega, val_lt hp⟩
theorem val_le_iff {p L a b : Nat} (hp : 0 < p) : val p L a ≤ val p L b ↔ a ≤ b :=
  ⟨fun h => by rcases Nat.lt_or_ge b a with c | c; have := val_lt (p := p) (L := L) hp c; omega; exact c, val_le hp⟩
theorem val_inj {p L a b : Nat} (hp : 0 < p) (h : val p L a = val p L b) : a = b := by
  have h1 := (val_le_iff (p := p) (L := L) (a := a) (b := b) hp).mp (by omega)
  have h2 := (val_le_iff (p := p) (L := L) (a := b) (b := a) hp).mp (by omega)
  omega
theorem val_zero {p L : Nat} : val p L 0 = 0 := by unfold val vsig; simp
theorem val_eq_zero {p L b : Nat} (hp : 0 < p) (h : val p L b = 0) : b = 0 := val_inj (L := L) hp (by rw [h, val_zero])
theorem rnd_mono {p L V V' : Nat} (hp : 0 < p) (h : V ≤ V') : rnd p L V ≤ rnd p L V' := by
  have hs : rsh p L V ≤ rsh p L V' := by
    have : V.log2 ≤ V'.log2 := by
      by_cases h0 : V = 0
      · subst h0; simp
      · rcases Nat.lt_or_ge V'.log2 V.log2 with c | c
        · have h1 := q_loglo h0
          have h2 := (Nat.log2_lt (show V' ≠ 0 by omega)).mp c
          omega
        · exact c
    unfold rsh; omega
  refine (val_le_iff (L := L) hp).mp ?_
  rw [val_rnd hp, val_rnd hp]
  -- the point of the coarser grid between them
  rcases Nat.eq_or_lt_of_le hs with e | hs
  · rw [← e]
    refine Nat.mul_le_mul_right _ ?_
    have hD := q_pos (rsh p L V)
    obtain ⟨q, r, e1, hr⟩ := q_mk V hD
    obtain ⟨q', r', e1', hr'⟩ := q_mk V' hD
    rw [rD_eq e1 hr, rD_eq e1' hr']
    rcases Nat.lt_trichotomy q q' with c | c | c
    · split <;> split <;> omega
    · subst c
      split <;> split <;> omega
    · have : (q' + 1) * 2 ^ rsh p L V ≤ q * 2 ^ rsh p L V := Nat.mul_le_mul_right _ c
      rw [Nat.add_mul, Nat.one_mul] at this
      omega
  · have a1 : V < 2 ^ (rsh p L V + p) := rsh_hi
    have a2 : 2 ^ (rsh p L V' + p - 1) ≤ V' := by
      rcases rsh_lo (p := p) (L := L) (V := V') hp with c | c
      · have := rsh_ge p L V; omega
      · exact c
    have b1 : rD V (2 ^ rsh p L V) * 2 ^ rsh p L V ≤ 2 ^ (rsh p L V + p) := by
      rw [Nat.add_comm, Nat.pow_add]; exact Nat.mul_le_mul_right _ rD_rsh_le
    have b2 : 2 ^ (rsh p L V' + p - 1) ≤ rD V' (2 ^ rsh p L V') * 2 ^ rsh p L V' := by
      have : rsh p L V' + p - 1 = (p - 1) + rsh p L V' := by omega
      rw [this, Nat.pow_add] at a2 ⊢
      exact Nat.mul_le_mul_right _ (rD_ge (q_pos _) a2)
    have b3 : 2 ^ (rsh p L V + p) ≤ 2 ^ (rsh p L V' + p - 1) := Nat.pow_le_pow_right (by decide) (by omega)
    omega
/-- a last digit that is set for all that is lost below it -/
theorem rnd_or1 {p L M k ε : Nat} (hM : 2 ^ (p + 1) ≤ M) (h0 : 0 < ε) (h1 : ε < 2 ^ k) : rnd p L (M * 2 ^ k + ε) = rnd p L ((M + (1 - M % 2)) * 2 ^ k) := by
  have hB := q_pos k
  have e2 : 2 ^ (k + 1) = 2 * 2 ^ k := q_pw1 k
  have e3 : 2 ^ (p + 1) = 2 * 2 ^ p := q_pw1 p
  obtain ⟨m, c, hm, hc⟩ : ∃ m c, M = m * 2 + c ∧ c < 2 := q_mk M (by decide)
  have x1 : m * 2 ^ (k + 1) = 2 * (m * 2 ^ k) := by rw [e2, Nat.mul_left_comm]
  have x2 : (m + 1) * 2 ^ (k + 1) = 2 * (m * 2 ^ k) + 2 * 2 ^ k := by rw [e2, Nat.add_mul, Nat.one_mul, Nat.mul_left_comm]
  have x3 : M * 2 ^ k = 2 * (m * 2 ^ k) + c * 2 ^ k := by rw [hm, Nat.add_mul, Nat.mul_right_comm, Nat.mul_comm (m * 2 ^ k) 2]
  have x4 : (M + (1 - M % 2)) * 2 ^ k = 2 * (m * 2 ^ k) + 2 ^ k := by
    have : M + (1 - M % 2) = m * 2 + 1 := by omega
    rw [this, Nat.add_mul, Nat.one_mul, Nat.mul_right_comm, Nat.mul_comm (m * 2 ^ k) 2]
  have x5 : c * 2 ^ k ≤ 2 ^ k := by
    have : c ≤ 1 := by omega
    have := Nat.mul_le_mul_right (2 ^ k) this
    omega
  exact rnd_stick (m := m) (k := k + 1) (by omega) (by omega) (by omega) (by omega) (by omega)
/-- a number and what is far below its last digit -/
theorem rnd_near_add {p L X k t : Nat} (hp : 0 < p) (hL : L ≤ k) (hX : X < 2 ^ p) (hX2 : 2 ^ (p - 1) ≤ X) (ht : 2 * t < 2 ^ k) : rnd p L (X * 2 ^ k + t) = rnd p L (X * 2 ^ k) := by
  have e0 : 2 ^ (k + p) = 2 ^ p * 2 ^ k := by rw [Nat.add_comm, Nat.pow_add]
  have e1 : 2 ^ (k + p - 1) = 2 ^ (p - 1) * 2 ^ k := by rw [← Nat.pow_add]; congr 1; omega
  have h1 : (X + 1) * 2 ^ k ≤ 2 ^ p * 2 ^ k := Nat.mul_le_mul_right _ hX
  have h2 : 2 ^ (p - 1) * 2 ^ k ≤ X * 2 ^ k := Nat.mul_le_mul_right _ hX2
  rw [Nat.add_mul, Nat.one_mul] at h1
  rw [rnd_at hp hL (by omega) (by omega), rnd_at (V := X * 2 ^ k) hp hL (by omega) (by omega), rD_mul (q_pos k)]
  rw [rD_lo (q := X) (q_pos k) (by omega) (by rw [Nat.add_mul, Nat.one_mul, Nat.mul_assoc]; omega)]
theorem rnd_near_sub {p L X k t : Nat} (hp : 1 < p) (hL : L < k) (hX : X < 2 ^ p) (hX2 : 2 ^ (p - 1) ≤ X) (ht : 4 * t < 2 ^ k) : rnd p L (X * 2 ^ k - t) = rnd p L (X * 2 ^ k) := by
  have e0 : 2 ^ (k + p) = 2 ^ p * 2 ^ k := by rw [Nat.add_comm, Nat.pow_add]
  have e1 : 2 ^ (k + p - 1) = 2 ^ (p - 1) * 2 ^ k := by rw [← Nat.pow_add]; congr 1; omega
  have h1 : (X + 1) * 2 ^ k ≤ 2 ^ p * 2 ^ k := Nat.mul_le_mul_right _ hX
  have h2 : 2 ^ (p - 1) * 2 ^ k ≤ X * 2 ^ k := Nat.mul_le_mul_right _ hX2
  have hB := q_pos k
  have hP := q_pos (p - 1)
  rw [Nat.add_mul, Nat.one_mul] at h1
  rw [rnd_at (V := X * 2 ^ k) (by omega) (Nat.le_of_lt hL) (by omega) (by omega), rD_mul hB]
  have hx1 : 1 * 2 ^ k ≤ X * 2 ^ k := Nat.mul_le_mul_right _ (by omega)
  rcases Nat.eq_or_lt_of_le hX2 with c | c
  · -- the least of its row: the digits below are half as wide
    have f1 : 2 ^ k = 2 * 2 ^ (k - 1) := by rw [← q_pw1]; congr 1; omega
    have f2 : k - 1 + p = (p - 1) + k := by omega
    have f3 : k - 1 + p - 1 = (p - 2) + k := by omega
    have f4 : 2 ^ (p - 1) = 2 * 2 ^ (p - 2) := by rw [← q_pw1]; congr 1; omega
    have f5 : 2 ^ p = 2 * 2 ^ (p - 1) := by rw [← q_pw1]; congr 1; omega
    have hQ := q_pos (p - 2)
    have g1 : 2 ^ (k - 1 + p) = X * 2 ^ k := by rw [f2, Nat.pow_add, c]
    have g2 : 2 ^ (k - 1 + p - 1) = 2 ^ (p - 2) * 2 ^ k := by rw [f3, Nat.pow_add]
    have g3 : X * 2 ^ k = 2 * (2 ^ (p - 2) * 2 ^ k) := by rw [← c, f4, Nat.mul_assoc]
    have g4 : 1 * 2 ^ k ≤ 2 ^ (p - 2) * 2 ^ k := Nat.mul_le_mul_right _ (by omega)
    rw [rnd_at (sh := k - 1) (by omega) (by omega) (by omega) (by omega)]
    have g5 : X * 2 ^ k = 2 ^ p * 2 ^ (k - 1) := by rw [f5, ← c, f1, Nat.mul_left_comm, Nat.mul_assoc]
    have g6 : 2 ^ p - 1 + 1 = 2 ^ p := by omega
    rw [rD_hi (q := 2 ^ p - 1) (q_pos _) (by rw [g6]; omega) (by
      have : (2 * (2 ^ p - 1) + 1) * 2 ^ (k - 1) + 2 ^ (k - 1) = 2 * (2 ^ p * 2 ^ (k - 1)) := by
        rw [← Nat.mul_assoc, ← Nat.succ_mul]; congr 1; omega
      omega), g6]
    have g7 : k - L = (k - 1 - L) + 1 := by omega
    rw [g7, Nat.add_mul, ← c]; omega
  · have hx2 : (2 ^ (p - 1) + 1) * 2 ^ k ≤ X * 2 ^ k := Nat.mul_le_mul_right _ c
    rw [Nat.add_mul, Nat.one_mul] at hx2
    rw [rnd_at (sh := k) (by omega) (Nat.le_of_lt hL) (by omega) (by omega)]
    obtain ⟨Y, hY⟩ : ∃ Y, X = Y + 1 := ⟨X - 1, by omega⟩
    subst hY
    rw [rD_hi (q := Y) hB (by omega) (by
      have : (2 * Y + 1) * 2 ^ k + 2 ^ k = 2 * ((Y + 1) * 2 ^ k) := by rw [← Nat.mul_assoc, ← Nat.succ_mul]; congr 1
      omega)]
-- the smaller summand, moved down
def lowN (s d : Nat) : Nat := if 62 < d then 0 else if s % 2 ^ d = 0 then s / 2 ^ d else s / 2 ^ d + (1 - s / 2 ^ d % 2)
theorem lowN_ex {Y kl d : Nat} (hk : d + 9 ≤ kl) (h : Y * 512 % 2 ^ d = 0) : Y * 512 / 2 ^ d * 2 ^ (kl - 9) = Y * 2 ^ (kl - d) := by
  have e1 : 2 ^ (kl - 9) = 2 ^ d * 2 ^ (kl - d - 9) := by rw [← Nat.pow_add]; congr 1; omega
  have e2 : 2 ^ (kl - d) = 512 * 2 ^ (kl - d - 9) := by rw [show 512 = 2 ^ 9 from rfl, ← Nat.pow_add]; congr 1; omega
  have e3 := Nat.div_add_mod (Y * 512) (2 ^ d)
  rw [h, Nat.add_zero, Nat.mul_comm] at e3
  rw [e1, e2, ← Nat.mul_assoc, e3, Nat.mul_assoc]
theorem lowN_in {Y kl d : Nat} (hk : d + 9 ≤ kl) (h : Y * 512 % 2 ^ d ≠ 0) : ∃ ε, 0 < ε ∧ ε < 2 ^ (kl - 9) ∧ Y * 2 ^ (kl - d) = Y * 512 / 2 ^ d * 2 ^ (kl - 9) + ε := by
  have e1 : 2 ^ (kl - 9) = 2 ^ d * 2 ^ (kl - d - 9) := by rw [← Nat.pow_add]; congr 1; omega
  have e2 : 2 ^ (kl - d) = 512 * 2 ^ (kl - d - 9) := by rw [show 512 = 2 ^ 9 from rfl, ← Nat.pow_add]; congr 1; omega
  have e3 := Nat.div_add_mod (Y * 512) (2 ^ d)
  refine ⟨Y * 512 % 2 ^ d * 2 ^ (kl - d - 9), Nat.mul_pos (by omega) (q_pos _), ?_, ?_⟩
  · rw [e1]; exact Nat.mul_lt_mul_of_pos_right (Nat.mod_lt _ (q_pos d)) (q_pos _)
  · rw [e1, e2, ← Nat.mul_assoc, ← Nat.mul_assoc, ← Nat.add_mul, Nat.mul_comm (Y * 512 / 2 ^ d), e3]
theorem lowN_d {Y d : Nat} (h : Y * 512 % 2 ^ d ≠ 0) : 9 < d := by
  rcases Nat.lt_or_ge 9 d with c | c
  · exact c
  · exact absurd (Nat.mod_eq_zero_of_dvd (Nat.dvd_mul_left_of_dvd (by rw [show 512 = 2 ^ 9 from rfl]; exact Nat.pow_dvd_pow 2 c) Y)) h
theorem cs_add {L X Y kl d : Nat} (hL : L + d ≤ kl) (hk : d + 9 ≤ kl) (hX : X < 2 ^ 53) (hY : Y < 2 ^ 53) (hn : d = 0 ∨ 2 ^ 52 ≤ X) :
    rnd 53 L ((X * 512 + lowN (Y * 512) d) * 2 ^ (kl - 9)) = rnd 53 L (X * 2 ^ kl + Y * 2 ^ (kl - d)) := by
  have e0 : X * 512 * 2 ^ (kl - 9) = X * 2 ^ kl := by rw [Nat.mul_assoc, show 512 = 2 ^ 9 from rfl, ← Nat.pow_add]; congr 2; omega
  unfold lowN
  split
  · next h62 =>
    rw [Nat.add_zero, e0]
    refine (rnd_near_add (by decide) (by omega) hX (by omega) ?_).symm
    have a1 : Y * 2 ^ (kl - d) < 2 ^ 53 * 2 ^ (kl - d) := Nat.mul_lt_mul_of_pos_right hY (q_pos _)
    have a2 : 2 ^ 53 * 2 ^ (kl - d) ≤ 2 ^ (kl - 10) := by rw [← Nat.pow_add]; exact Nat.pow_le_pow_right (by decide) (by omega)
    have a3 : 2 ^ kl = 1024 * 2 ^ (kl - 10) := by rw [show 1024 = 2 ^ 10 from rfl, ← Nat.pow_add]; congr 1; omega
    omega
  · split
    · next h => rw [Nat.add_mul, e0, lowN_ex hk h]
    · next h =>
      obtain ⟨ε, h1, h2, h3⟩ := lowN_in hk h
      have hd := lowN_d h
      have hx : 2 ^ 52 ≤ X := by omega
      have e5 : X * 512 * 2 ^ (kl - 9) + (Y * 512 / 2 ^ d * 2 ^ (kl - 9) + ε) = (X * 512 + Y * 512 / 2 ^ d) * 2 ^ (kl - 9) + ε := by rw [Nat.add_mul, Nat.add_assoc]
      rw [h3, ← e0, e5]
      generalize Y * 512 / 2 ^ d = q
      rw [rnd_or1 (by omega) h1 h2]
      have e6 : X * 512 + (q + (1 - q % 2)) = X * 512 + q + (1 - (X * 512 + q) % 2) := by omega
      rw [e6]
theorem cs_sub {L X Y kl d : Nat} (hL : L + d ≤ kl) (hk : d + 9 ≤ kl) (hX : X < 2 ^ 53) (hY : Y < 2 ^ 53) (hn : d = 0 ∨ 2 ^ 52 ≤ X) (hle : Y * 2 ^ (kl - d) ≤ X * 2 ^ kl) :
    lowN (Y * 512) d ≤ X * 512 ∧ rnd 53 L ((X * 512 - lowN (Y * 512) d) * 2 ^ (kl - 9)) = rnd 53 L (X * 2 ^ kl - Y * 2 ^ (kl - d)) := by
  have e0 : X * 512 * 2 ^ (kl - 9) = X * 2 ^ kl := by rw [Nat.mul_assoc, show 512 = 2 ^ 9 from rfl, ← Nat.pow_add]; congr 2; omega
  unfold lowN
  split
  · next h62 =>
    refine ⟨Nat.zero_le _, ?_⟩
    rw [Nat.sub_zero, e0]
    refine (rnd_near_sub (by decide) (by omega) hX (by omega) ?_).symm
    have a1 : Y * 2 ^ (kl - d) < 2 ^ 53 * 2 ^ (kl - d) := Nat.mul_lt_mul_of_pos_right hY (q_pos _)
    have a2 : 2 ^ 53 * 2 ^ (kl - d) ≤ 2 ^ (kl - 10) := by rw [← Nat.pow_add]; exact Nat.pow_le_pow_right (by decide) (by omega)
    have a3 : 2 ^ kl = 1024 * 2 ^ (kl - 10) := by rw [show 1024 = 2 ^ 10 from rfl, ← Nat.pow_add]; congr 1; omega
    omega
  · split
    · next h =>
      have e1 := lowN_ex hk h
      refine ⟨?_, by rw [Nat.sub_mul, e0, e1]⟩
      rw [← e1, ← e0] at hle
      exact Nat.le_of_mul_le_mul_right hle (q_pos _)
    · next h =>
      obtain ⟨ε, h1, h2, h3⟩ := lowN_in hk h
      have hd := lowN_d h
      have hx : 2 ^ 52 ≤ X := by omega
      have hl : Y * 512 / 2 ^ d < 2 ^ 52 := by
        refine Nat.div_lt_of_lt_mul ?_
        have : 2 ^ 10 ≤ 2 ^ d := Nat.pow_le_pow_right (by decide) hd
        have := Nat.mul_le_mul_right (2 ^ 52) this
        omega
      refine ⟨by generalize Y * 512 / 2 ^ d = q at hl; omega, ?_⟩
      have e4 : X * 2 ^ kl - Y * 2 ^ (kl - d) = (X * 512 - Y * 512 / 2 ^ d - 1) * 2 ^ (kl - 9) + (2 ^ (kl - 9) - ε) := by
        rw [h3, ← e0]
        have : X * 512 * 2 ^ (kl - 9) = (X * 512 - Y * 512 / 2 ^ d - 1) * 2 ^ (kl - 9) + Y * 512 / 2 ^ d * 2 ^ (kl - 9) + 2 ^ (kl - 9) := by
          rw [← Nat.add_mul, ← Nat.succ_mul]
          generalize Y * 512 / 2 ^ d = q at hl
          have e7 : X * 512 = (X * 512 - q - 1 + q).succ := by omega
          rw [← e7]
        omega
      rw [e4]
      generalize Y * 512 / 2 ^ d = q at hl
      rw [rnd_or1 (by omega) (by omega) (by omega)]
      have e6 : X * 512 - (q + (1 - q % 2)) = X * 512 - q - 1 + (1 - (X * 512 - q - 1) % 2) := by omega
      rw [e6]
/-- the product without its low digits -/
theorem cs_mul {L P k : Nat} (hP : P = 0 ∨ 2 ^ 104 ≤ P) : rnd 53 L ((if P % 2 ^ 44 = 0 then P / 2 ^ 44 else P / 2 ^ 44 + (1 - P / 2 ^ 44 % 2)) * 2 ^ (k + 44)) = rnd 53 L (P * 2 ^ k) := by
  have e3 := Nat.div_add_mod P (2 ^ 44)
  have e1 : 2 ^ (k + 44) = 2 ^ 44 * 2 ^ k := by rw [Nat.add_comm, Nat.pow_add]
  split
  · next h =>
    rw [h, Nat.add_zero, Nat.mul_comm] at e3
    rw [e1, ← Nat.mul_assoc, e3]
  · next h =>
    have : P * 2 ^ k = P / 2 ^ 44 * 2 ^ (k + 44) + P % 2 ^ 44 * 2 ^ k := by
      rw [e1, ← Nat.mul_assoc, ← Nat.add_mul, Nat.mul_comm (P / 2 ^ 44), e3]
    rw [this]
    refine (rnd_or1 ?_ (Nat.mul_pos (by omega) (q_pos k)) ?_).symm
    · omega
    · rw [e1]; exact Nat.mul_lt_mul_of_pos_right (Nat.mod_lt _ (by decide)) (q_pos k)
