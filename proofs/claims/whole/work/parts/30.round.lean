/-! OUR OWN ROWS: rounding to nearest, ties to even, of a natural number of smallest units; codes of floating numbers as naturals -/
def rD (V D : Nat) : Nat := V / D + (if D < 2 * (V % D) ∨ (2 * (V % D) = D ∧ V / D % 2 = 1) then 1 else 0)
def rsh (p L V : Nat) : Nat := max (V.log2 + 1 - p) L
def rnd (p L V : Nat) : Nat := (rsh p L V - L) * 2 ^ (p - 1) + rD V (2 ^ rsh p L V)
def enc (p L I V : Nat) : Nat := min I (rnd p L V)
def vsig (p b : Nat) : Nat := if b / 2 ^ (p - 1) = 0 then b else b % 2 ^ (p - 1) + 2 ^ (p - 1)
def vexp (p L b : Nat) : Nat := b / 2 ^ (p - 1) - 1 + L
def val (p L b : Nat) : Nat := vsig p b * 2 ^ vexp p L b
theorem q_pos (n : Nat) : 0 < 2 ^ n := Nat.two_pow_pos n
theorem q_pw {a b : Nat} (h : a ≤ b) : 2 ^ b = 2 ^ (b - a) * 2 ^ a := by rw [← Nat.pow_add]; congr 1; omega
theorem q_pw1 (n : Nat) : 2 ^ (n + 1) = 2 * 2 ^ n := by rw [Nat.pow_succ, Nat.mul_comm]
theorem q_div {V D q r : Nat} (h : V = q * D + r) (hr : r < D) : V / D = q ∧ V % D = r := by
  have hD : 0 < D := by omega
  subst h
  constructor
  · rw [Nat.add_comm, Nat.add_mul_div_right _ _ hD, Nat.div_eq_of_lt hr, Nat.zero_add]
  · rw [Nat.add_comm, Nat.add_mul_mod_self_right, Nat.mod_eq_of_lt hr]
theorem rD_eq {V D q r : Nat} (h : V = q * D + r) (hr : r < D) : rD V D = q + (if D < 2 * r ∨ (2 * r = D ∧ q % 2 = 1) then 1 else 0) := by
  obtain ⟨h1, h2⟩ := q_div h hr
  unfold rD; rw [h1, h2]
theorem q_mk {D : Nat} (V : Nat) (hD : 0 < D) : ∃ q r, V = q * D + r ∧ r < D := ⟨V / D, V % D, by rw [Nat.mul_comm]; exact (Nat.div_add_mod V D).symm, Nat.mod_lt V hD⟩
theorem rD_mul {q D : Nat} (hD : 0 < D) : rD (q * D) D = q := by
  rw [rD_eq (q := q) (r := 0) (by omega) hD, if_neg (by omega), Nat.add_zero]
theorem rD_zero {D : Nat} (hD : 0 < D) : rD 0 D = 0 := by
  have := rD_mul (q := 0) hD; rwa [Nat.zero_mul] at this
theorem rD_scale {V D c : Nat} (hD : 0 < D) (hc : 0 < c) : rD (V * c) (D * c) = rD V D := by
  obtain ⟨q, r, h, hr⟩ := q_mk V hD
  have e1 : V * c = q * (D * c) + r * c := by rw [h, Nat.add_mul, Nat.mul_assoc]
  have e2 : r * c < D * c := Nat.mul_lt_mul_of_pos_right hr hc
  rw [rD_eq e1 e2, rD_eq h hr]
  have e3 : (D * c < 2 * (r * c)) ↔ D < 2 * r := by
    rw [← Nat.mul_assoc]; exact Nat.mul_lt_mul_right hc
  have e4 : (2 * (r * c) = D * c) ↔ 2 * r = D := by
    rw [← Nat.mul_assoc]; exact ⟨fun h => Nat.eq_of_mul_eq_mul_right hc h, fun h => by rw [h]⟩
  simp only [e3, e4]
theorem rD_le {V D t : Nat} (hD : 0 < D) (h : V ≤ t * D) : rD V D ≤ t := by
  obtain ⟨q, r, e, hr⟩ := q_mk V hD
  rw [rD_eq e hr]
  rcases Nat.lt_or_ge q t with h1 | h1
  · split <;> omega
  · have h2 : t * D ≤ q * D := Nat.mul_le_mul_right D h1
    have h3 : r = 0 := by omega
    have h4 : q * D = t * D := by omega
    have h5 : q = t := Nat.eq_of_mul_eq_mul_right hD h4
    rw [if_neg (by omega)]; omega
theorem rD_ge {V D t : Nat} (hD : 0 < D) (h : t * D ≤ V) : t ≤ rD V D := by
  have h1 : t ≤ V / D := (Nat.le_div_iff_mul_le hD).mpr h
  unfold rD; omega
theorem rD_lo {V D q : Nat} (hD : 0 < D) (h : q * D ≤ V) (h2 : 2 * V < (2 * q + 1) * D) : rD V D = q := by
  have e0 : (2 * q + 1) * D = 2 * (q * D) + D := by rw [Nat.add_mul, Nat.one_mul, Nat.mul_assoc]
  have e : V = q * D + (V - q * D) := by omega
  rw [rD_eq e (by omega), if_neg (by omega), Nat.add_zero]
theorem rD_hi {V D q : Nat} (hD : 0 < D) (h : V ≤ (q + 1) * D) (h2 : (2 * q + 1) * D < 2 * V) : rD V D = q + 1 := by
  have e0 : (2 * q + 1) * D = 2 * (q * D) + D := by rw [Nat.add_mul, Nat.one_mul, Nat.mul_assoc]
  have e1 : (q + 1) * D = q * D + D := by rw [Nat.add_mul, Nat.one_mul]
  rcases Nat.lt_or_ge V ((q + 1) * D) with h3 | h3
  · have e : V = q * D + (V - q * D) := by omega
    rw [rD_eq e (by omega), if_pos (by omega)]
  · have : V = (q + 1) * D := by omega
    rw [this, rD_mul hD]
theorem rD_stick {q h r B t : Nat} (ht : 0 < t) (htB : t < B) (hr : r < 2 * h) : rD ((q * (2 * h) + r) * B + t) (2 * h * B) = if h ≤ r then q + 1 else q := by
  have e : (q * (2 * h) + r) * B + t = q * (2 * h * B) + (r * B + t) := by
    rw [Nat.add_mul, Nat.mul_assoc q (2 * h) B]; omega
  have e1 : (r + 1) * B = r * B + B := by rw [Nat.add_mul, Nat.one_mul]
  have e2 : (r + 1) * B ≤ 2 * h * B := Nat.mul_le_mul_right B hr
  have e3 : 2 * h * B = 2 * (h * B) := Nat.mul_assoc 2 h B
  rw [rD_eq e (by omega)]
  rcases Nat.lt_or_ge r h with h1 | h1
  · have e4 : (r + 1) * B ≤ h * B := Nat.mul_le_mul_right B h1
    rw [if_neg (by omega), if_neg (by omega), Nat.add_zero]
  · have e4 : h * B ≤ r * B := Nat.mul_le_mul_right B h1
    rw [if_pos (by omega), if_pos h1]
-- the place of the last digit
theorem q_log {n V : Nat} (h1 : 2 ^ n ≤ V) (h2 : V < 2 ^ (n + 1)) : V.log2 = n := by
  have h0 : V ≠ 0 := by have := q_pos n; omega
  have a := (Nat.log2_lt h0 (k := n + 1)).mpr h2
  have b : ¬ V.log2 < n := fun c => by have := (Nat.log2_lt h0).mp c; omega
  omega
theorem q_loglo {V : Nat} (h : V ≠ 0) : 2 ^ V.log2 ≤ V := by
  rcases Nat.lt_or_ge V (2 ^ V.log2) with c | c
  · have := (Nat.log2_lt h).mpr c; omega
  · exact c
theorem q_loghi (V : Nat) : V < 2 ^ (V.log2 + 1) := Nat.lt_log2_self
theorem rsh_ge (p L V : Nat) : L ≤ rsh p L V := Nat.le_max_right _ _
theorem rsh_hi {p L V : Nat} : V < 2 ^ (rsh p L V + p) := by
  have h : V.log2 + 1 ≤ rsh p L V + p := by unfold rsh; omega
  exact Nat.lt_of_lt_of_le (q_loghi V) (Nat.pow_le_pow_right (by decide) h)
theorem rsh_lo {p L V : Nat} (hp : 0 < p) : rsh p L V = L ∨ 2 ^ (rsh p L V + p - 1) ≤ V := by
  rcases Nat.lt_or_ge L (V.log2 + 1 - p) with h | h
  · right
    have e : rsh p L V + p - 1 = V.log2 := by unfold rsh; omega
    rw [e]
    by_cases h0 : V = 0
    · subst h0; simp at h; omega
    · exact q_loglo h0
  · left; unfold rsh; omega
theorem rnd_at {p L V sh : Nat} (hp : 0 < p) (hL : L ≤ sh) (h1 : V ≤ 2 ^ (sh + p)) (h2 : sh = L ∨ 2 ^ (sh + p - 1) ≤ V) : rnd p L V = (sh - L) * 2 ^ (p - 1) + rD V (2 ^ sh) := by
  rcases Nat.lt_or_ge V (2 ^ (sh + p)) with h3 | h3
  · have e : rsh p L V = sh := by
      by_cases h0 : V = 0
      · subst h0
        rcases h2 with h2 | h2
        · unfold rsh; simp; omega
        · have := q_pos (sh + p - 1); omega
      · have a := (Nat.log2_lt h0).mpr h3
        rcases h2 with h2 | h2
        · unfold rsh; omega
        · have b : ¬ V.log2 < sh + p - 1 := fun c => by have := (Nat.log2_lt h0).mp c; omega
          unfold rsh; omega
    unfold rnd; rw [e]
  · have hV : V = 2 ^ (sh + p) := by omega
    have el : V.log2 = sh + p := q_log (by omega) (by rw [hV, q_pw1]; have := q_pos (sh + p); omega)
    have e : rsh p L V = sh + 1 := by unfold rsh; omega
    have a1 : rD V (2 ^ sh) = 2 ^ p := by rw [hV, Nat.add_comm, Nat.pow_add]; exact rD_mul (q_pos sh)
    have a2 : rD V (2 ^ (sh + 1)) = 2 ^ (p - 1) := by
      have : sh + p = (p - 1) + (sh + 1) := by omega
      rw [hV, this, Nat.pow_add]; exact rD_mul (q_pos _)
    unfold rnd; rw [e, a1, a2]
    have a3 : 2 ^ p = 2 * 2 ^ (p - 1) := by rw [← q_pw1]; congr 1; omega
    have a4 : sh + 1 - L = (sh - L) + 1 := by omega
    rw [a3, a4, Nat.add_mul]; omega
theorem val_code {p L c sh : Nat} (hp : 0 < p) (hL : L ≤ sh) (h1 : c ≤ 2 ^ p) (h2 : sh = L ∨ 2 ^ (p - 1) ≤ c) : val p L ((sh - L) * 2 ^ (p - 1) + c) = c * 2 ^ sh := by
  have hP := q_pos (p - 1)
  have a3 : 2 ^ p = 2 * 2 ^ (p - 1) := by rw [← q_pw1]; congr 1; omega
  rcases Nat.lt_or_ge c (2 ^ (p - 1)) with h3 | h3
  · have hs : sh = L := by omega
    subst hs
    have e0 : (sh - sh) * 2 ^ (p - 1) + c = c := by rw [Nat.sub_self, Nat.zero_mul, Nat.zero_add]
    rw [e0]
    have e1 : c / 2 ^ (p - 1) = 0 := Nat.div_eq_of_lt h3
    unfold val vsig vexp; rw [e1, if_pos rfl, Nat.zero_sub, Nat.zero_add]
  · rcases Nat.lt_or_ge c (2 ^ p) with h4 | h4
    · have e0 : (sh - L) * 2 ^ (p - 1) + c = (sh - L + 1) * 2 ^ (p - 1) + (c - 2 ^ (p - 1)) := by rw [Nat.add_mul (sh - L) 1]; omega
      obtain ⟨d1, d2⟩ := q_div e0 (by omega)
      have e2 : vsig p ((sh - L) * 2 ^ (p - 1) + c) = c := by unfold vsig; rw [d1, d2, if_neg (by omega)]; omega
      have e3 : vexp p L ((sh - L) * 2 ^ (p - 1) + c) = sh := by unfold vexp; rw [d1]; omega
      unfold val; rw [e2, e3]
    · have hc : c = 2 * 2 ^ (p - 1) := by omega
      have e0 : (sh - L) * 2 ^ (p - 1) + c = (sh - L + 2) * 2 ^ (p - 1) + 0 := by rw [Nat.add_mul (sh - L) 2]; omega
      obtain ⟨d1, d2⟩ := q_div e0 hP
      have e2 : vsig p ((sh - L) * 2 ^ (p - 1) + c) = 2 ^ (p - 1) := by unfold vsig; rw [d1, d2, if_neg (by omega)]; omega
      have e3 : vexp p L ((sh - L) * 2 ^ (p - 1) + c) = sh + 1 := by unfold vexp; rw [d1]; omega
      unfold val; rw [e2, e3, hc, q_pw1]
      rw [Nat.mul_left_comm, Nat.mul_assoc]
theorem vsig_lt {p b : Nat} (hp : 0 < p) : vsig p b < 2 ^ p := by
  have hP := q_pos (p - 1)
  have a3 : 2 ^ p = 2 * 2 ^ (p - 1) := by rw [← q_pw1]; congr 1; omega
  unfold vsig; split
  · next h => have := Nat.lt_of_div_eq_zero hP h; omega
  · have := Nat.mod_lt b hP; omega
theorem vexp_ge (p L b : Nat) : L ≤ vexp p L b := by unfold vexp; omega
theorem vsig_norm {p L b : Nat} : vexp p L b = L ∨ 2 ^ (p - 1) ≤ vsig p b := by
  unfold vexp vsig
  rcases Nat.eq_zero_or_pos (b / 2 ^ (p - 1)) with h | h
  · left; omega
  · right; rw [if_neg (by omega)]; omega
theorem vcode (p L b : Nat) : (vexp p L b - L) * 2 ^ (p - 1) + vsig p b = b := by
  have hd := Nat.div_add_mod b (2 ^ (p - 1))
  have e : vexp p L b - L = b / 2 ^ (p - 1) - 1 := by unfold vexp; omega
  rw [e]; unfold vsig
  rcases Nat.eq_zero_or_pos (b / 2 ^ (p - 1)) with h | h
  · rw [if_pos h, h]; omega
  · rw [if_neg (by omega)]
    obtain ⟨k, hk⟩ : ∃ k, b / 2 ^ (p - 1) = k + 1 := ⟨b / 2 ^ (p - 1) - 1, by omega⟩
    rw [hk] at hd ⊢
    rw [Nat.mul_add, Nat.mul_one, Nat.mul_comm] at hd
    rw [Nat.add_sub_cancel]; omega
/-- what is a number already is rounded to itself -/
theorem rnd_val {p L b : Nat} (hp : 0 < p) : rnd p L (val p L b) = b := by
  have h1 := vsig_lt (p := p) (b := b) hp
  have hx : val p L b ≤ 2 ^ (vexp p L b + p) := by
    unfold val; rw [Nat.add_comm, Nat.pow_add]; exact Nat.mul_le_mul_right _ (Nat.le_of_lt h1)
  have hy : vexp p L b = L ∨ 2 ^ (vexp p L b + p - 1) ≤ val p L b := by
    rcases vsig_norm (p := p) (L := L) (b := b) with h | h
    · exact Or.inl h
    · right
      have : vexp p L b + p - 1 = (p - 1) + vexp p L b := by omega
      rw [this, Nat.pow_add]; unfold val; exact Nat.mul_le_mul_right _ h
  rw [rnd_at hp (vexp_ge p L b) hx hy]
  have : rD (val p L b) (2 ^ vexp p L b) = vsig p b := by unfold val; exact rD_mul (q_pos _)
  rw [this, vcode]
theorem rD_rsh_le {p L V : Nat} : rD V (2 ^ rsh p L V) ≤ 2 ^ p := by
  refine rD_le (q_pos _) ?_
  rw [← Nat.pow_add, Nat.add_comm]; exact Nat.le_of_lt rsh_hi
theorem rD_rsh_norm {p L V : Nat} (hp : 0 < p) : rsh p L V = L ∨ 2 ^ (p - 1) ≤ rD V (2 ^ rsh p L V) := by
  rcases rsh_lo (p := p) (L := L) (V := V) hp with h | h
  · exact Or.inl h
  · right
    refine rD_ge (q_pos _) ?_
    rw [← Nat.pow_add]
    have : p - 1 + rsh p L V = rsh p L V + p - 1 := by omega
    rw [this]; exact h
/-- the value of a rounded number -/
theorem val_rnd {p L V : Nat} (hp : 0 < p) : val p L (rnd p L V) = rD V (2 ^ rsh p L V) * 2 ^ rsh p L V :=
  val_code hp (rsh_ge p L V) rD_rsh_le (rD_rsh_norm hp)
theorem rnd_zero (p L : Nat) (hp : 0 < p) : rnd p L 0 = 0 := by
  have : rsh p L 0 = L := by unfold rsh; simp; omega
  unfold rnd; rw [this, rD_zero (q_pos _), Nat.sub_self, Nat.zero_mul]
/-- all that lies between two neighbours of more digits is rounded alike -/
theorem rnd_stick {p L m k V V' : Nat} (hm : 2 ^ p ≤ m) (h1 : m * 2 ^ k < V) (h2 : V < (m + 1) * 2 ^ k) (h1' : m * 2 ^ k < V') (h2' : V' < (m + 1) * 2 ^ k) : rnd p L V = rnd p L V' := by
  have hm0 : m ≠ 0 := by have := q_pos p; omega
  have hlo := q_loglo hm0
  have hhi := q_loghi m
  have hn : p ≤ m.log2 := by
    rcases Nat.lt_or_ge m.log2 p with c | c
    · have := (Nat.log2_lt hm0).mp c; omega
    · exact c
  have aux : ∀ U, m * 2 ^ k < U → U < (m + 1) * 2 ^ k → U.log2 = m.log2 + k := by
    intro U g1 g2
    refine q_log ?_ ?_
    · rw [Nat.pow_add]; exact Nat.le_trans (Nat.mul_le_mul_right _ hlo) (Nat.le_of_lt g1)
    · have : m.log2 + k + 1 = (m.log2 + 1) + k := by omega
      rw [this, Nat.pow_add]; exact Nat.lt_of_lt_of_le g2 (Nat.mul_le_mul_right _ hhi)
  have es : rsh p L V = rsh p L V' := by unfold rsh; rw [aux V h1 h2, aux V' h1' h2']
  have hs : k + 1 ≤ rsh p L V := by unfold rsh; rw [aux V h1 h2]; omega
  unfold rnd; rw [← es]
  congr 1
  generalize rsh p L V = sh at hs
  have e1 : 2 ^ sh = 2 * 2 ^ (sh - k - 1) * 2 ^ k := by
    rw [← q_pw1, ← Nat.pow_add]; congr 1; omega
  have hh := q_pos (sh - k - 1)
  obtain ⟨q, r, e, hr⟩ := q_mk m (D := 2 * 2 ^ (sh - k - 1)) (by omega)
  have em : (m + 1) * 2 ^ k = m * 2 ^ k + 2 ^ k := by rw [Nat.add_mul, Nat.one_mul]
  have key : ∀ U, m * 2 ^ k < U → U < (m + 1) * 2 ^ k → rD U (2 ^ sh) = if 2 ^ (sh - k - 1) ≤ r then q + 1 else q := by
    intro U g1 g2
    obtain ⟨t, ht⟩ : ∃ t, U = m * 2 ^ k + t := ⟨U - m * 2 ^ k, by omega⟩
    subst ht
    rw [e1]
    have t0 : 0 < t := by omega
    have t1 : t < 2 ^ k := by omega
    have := rD_stick (q := q) (h := 2 ^ (sh - k - 1)) (r := r) t0 t1 hr
    rw [← e] at this
    exact this
  rw [key V h1 h2, key V' h1' h2']
/-- rounding twice -/
theorem rnd_twice {p L p2 L2 V : Nat} (hp2 : 0 < p2) (hs : rsh p L V < rsh p2 L2 V)
    (hm : ∀ j, rD V (2 ^ rsh p L V) * 2 ^ rsh p L V = (2 * j + 1) * 2 ^ (rsh p2 L2 V - 1) → rD V (2 ^ rsh p L V) * 2 ^ rsh p L V = V) :
    rnd p2 L2 (rD V (2 ^ rsh p L V) * 2 ^ rsh p L V) = rnd p2 L2 V := by
  generalize hW : rD V (2 ^ rsh p L V) * 2 ^ rsh p L V = W at hm ⊢
  generalize hs1 : rsh p L V = s1 at hs hW hm
  have hlo := rsh_lo (p := p2) (L := L2) (V := V) hp2
  have hhi := rsh_hi (p := p2) (L := L2) (V := V)
  have hge := rsh_ge p2 L2 V
  generalize hs2 : rsh p2 L2 V = s2 at hs hm hlo hhi hge
  have hD1 := q_pos s1
  -- monotone at the points of the finer grid
  have up : ∀ t, V ≤ t * 2 ^ s1 → W ≤ t * 2 ^ s1 := fun t h => by rw [← hW]; exact Nat.mul_le_mul_right _ (rD_le hD1 h)
  have dn : ∀ t, t * 2 ^ s1 ≤ V → t * 2 ^ s1 ≤ W := fun t h => by rw [← hW]; exact Nat.mul_le_mul_right _ (rD_ge hD1 h)
  have g : ∀ n, s1 ≤ n → 2 ^ n = 2 ^ (n - s1) * 2 ^ s1 := fun n h => q_pw h
  have w1 : W ≤ 2 ^ (s2 + p2) := by rw [g _ (by omega)]; refine up _ ?_; rw [← g _ (by omega)]; exact Nat.le_of_lt hhi
  have w2 : s2 = L2 ∨ 2 ^ (s2 + p2 - 1) ≤ W := by
    rcases hlo with h | h
    · exact Or.inl h
    · right; rw [g _ (by omega)]; refine dn _ ?_; rw [← g _ (by omega)]; exact h
  rw [rnd_at hp2 hge w1 w2, rnd_at hp2 hge (Nat.le_of_lt hhi) hlo]
  congr 1
  obtain ⟨q, r, e, hr⟩ := q_mk V (q_pos s2)
  have hh : 2 ^ s2 = 2 * 2 ^ (s2 - 1) := by rw [← q_pw1]; congr 1; omega
  have hz : 2 ^ (s2 - 1) = 2 ^ (s2 - 1 - s1) * 2 ^ s1 := g _ (by omega)
  have hmid : (2 * q + 1) * 2 ^ (s2 - 1) = q * 2 ^ s2 + 2 ^ (s2 - 1) := by rw [Nat.add_mul, Nat.one_mul, hh, Nat.mul_left_comm, ← Nat.mul_assoc]
  have hmid2 : (2 * q + 1) * 2 ^ s2 = 2 * (q * 2 ^ s2 + 2 ^ (s2 - 1)) := by rw [Nat.add_mul, Nat.one_mul, Nat.mul_assoc]; omega
  have hq : q * 2 ^ s2 = (q * 2 ^ (s2 - s1)) * 2 ^ s1 := by rw [Nat.mul_assoc, ← g _ (by omega)]
  have hq1 : (q + 1) * 2 ^ s2 = ((q + 1) * 2 ^ (s2 - s1)) * 2 ^ s1 := by rw [Nat.mul_assoc, ← g _ (by omega)]
  have hq2 : (q + 1) * 2 ^ s2 = q * 2 ^ s2 + 2 ^ s2 := by rw [Nat.add_mul, Nat.one_mul]
  have hm2 : q * 2 ^ s2 + 2 ^ (s2 - 1) = ((2 * q + 1) * 2 ^ (s2 - 1 - s1)) * 2 ^ s1 := by rw [← hmid, Nat.mul_assoc, ← g _ (by omega)]
  have k1 : q * 2 ^ s2 ≤ W := by rw [hq]; refine dn _ ?_; rw [← hq]; omega
  have k2 : W ≤ (q + 1) * 2 ^ s2 := by rw [hq1]; refine up _ ?_; rw [← hq1]; omega
  rcases Nat.lt_trichotomy r (2 ^ (s2 - 1)) with c | c | c
  · have k3 : W ≤ q * 2 ^ s2 + 2 ^ (s2 - 1) := by rw [hm2]; refine up _ ?_; rw [← hm2]; omega
    have k4 : W ≠ q * 2 ^ s2 + 2 ^ (s2 - 1) := by
      intro h
      have := hm q (by rw [hmid]; exact h)
      omega
    rw [rD_lo (q_pos s2) k1 (by rw [hmid2]; omega), rD_lo (V := V) (q := q) (q_pos s2) (by omega) (by rw [hmid2]; omega)]
  · have : W = V := by
      rw [← hW, e, c, hm2, rD_mul hD1]
    rw [this]
  · have k3 : q * 2 ^ s2 + 2 ^ (s2 - 1) ≤ W := by rw [hm2]; refine dn _ ?_; rw [← hm2]; omega
    have k4 : W ≠ q * 2 ^ s2 + 2 ^ (s2 - 1) := by
      intro h
      have := hm q (by rw [hmid]; exact h)
      omega
    rw [rD_hi (q_pos s2) k2 (by rw [hmid2]; omega), rD_hi (V := V) (q := q) (q_pos s2) (by omega) (by rw [hmid2]; omega)]
