/-! OUR OWN ROWS: what the operations answer, on codes as naturals; floats by way of doubles -/
abbrev I64 : Nat := 9218868437227405312
abbrev N64 : Nat := 9221120237041090560
abbrev I32 : Nat := 2139095040
abbrev N32 : Nat := 2143289344
abbrev W64 : Nat := 9223372036854775808
abbrev W32 : Nat := 2147483648
def addF (p L I N w a b : Nat) : Nat :=
  if I < a % w ∨ I < b % w then N
  else if a % w = I ∨ b % w = I then (if a % w = I ∧ b % w = I ∧ a ≠ b then N else if a % w = I then a else b)
  else if a / w = b / w then a / w * w + enc p L I (val p L (a % w) + val p L (b % w))
  else if val p L (a % w) = val p L (b % w) then 0
  else if val p L (b % w) < val p L (a % w) then a / w * w + enc p L I (val p L (a % w) - val p L (b % w))
  else b / w * w + enc p L I (val p L (b % w) - val p L (a % w))
def sgF (w a b : Nat) : Nat := (a / w + b / w) % 2 * w
def mulV (p L a b : Nat) : Nat := vsig p a * vsig p b * 2 ^ (vexp p L a + vexp p L b - 3000)
def mulF (p L I N w a b : Nat) : Nat :=
  if I < a % w ∨ I < b % w then N
  else if a % w = I ∨ b % w = I then (if a % w = 0 ∨ b % w = 0 then N else sgF w a b + I)
  else sgF w a b + enc p L I (mulV p L (a % w) (b % w))
def nrm (p c : Nat) : Nat := c * 2 ^ (p - 1 - c.log2)
def divV (p L a b : Nat) : Nat := quoV (nrm p (vsig p a)) (nrm p (vsig p b)) (vexp p L a + 2940 + (p - 1 - (vsig p b).log2) - vexp p L b - (p - 1 - (vsig p a).log2))
def divF (p L I N w a b : Nat) : Nat :=
  if I < a % w ∨ I < b % w then N
  else if a % w = I then (if b % w = I then N else sgF w a b + I)
  else if b % w = I then sgF w a b
  else if b % w = 0 then (if a % w = 0 then N else sgF w a b + I)
  else if a % w = 0 then sgF w a b
  else sgF w a b + enc p L I (divV p L (a % w) (b % w))
def remF (p L I N w a b : Nat) : Nat :=
  if I < a % w ∨ I < b % w ∨ a % w = I ∨ b % w = 0 then N
  else if a % w < b % w then a
  else a / w * w + enc p L I (val p L (a % w) % val p L (b % w))
def told (a : Nat) : Nat := if I64 < a % W64 then N64 else a
-- from a float's code to the double's
def cvt (m : Nat) : Nat := if m < I32 then rnd 53 1926 (val 24 2851 m) else if m = I32 then I64 else N64
def tD (a : Nat) : Nat := if I32 < a % W32 then N64 else a / W32 * W64 + cvt (a % W32)
-- from a double's code to the double's code of the nearest float
def toF (a : Nat) : Nat := if I64 < a % W64 then N64 else if a % W64 = I64 then a else a / W64 * W64 + cvt (enc 24 2851 I32 (val 53 1926 (a % W64)))
theorem i64_lt : I64 < W64 := by decide
theorem i32_lt : I32 < W32 := by decide
theorem val_I64 : val 53 1926 I64 = 2 ^ 4024 := by
  have h1 : I64 / 2 ^ (53 - 1) = 2047 := by decide
  have h2 : vsig 53 I64 = 2 ^ 52 := by decide
  have h3 : vexp 53 1926 I64 = 3972 := by unfold vexp; rw [h1]
  unfold val; rw [h2, h3, ← Nat.pow_add]
theorem val_I32 : val 24 2851 I32 = 2 ^ 3128 := by
  have h1 : I32 / 2 ^ (24 - 1) = 255 := by decide
  have h2 : vsig 24 I32 = 2 ^ 23 := by decide
  have h3 : vexp 24 2851 I32 = 3105 := by unfold vexp; rw [h1]
  unfold val; rw [h2, h3, ← Nat.pow_add]
theorem val_f_lt {m : Nat} (h : m < I32) : val 24 2851 m < 2 ^ 3128 := by
  rw [← val_I32]; exact val_lt (by decide) h
/-- a sum of doubles below the greatest: rounded it isn't infinite -/
theorem rnd_fin {V n : Nat} (h : V < 2 ^ n) (hn : n ≤ 4023) : rnd 53 1926 V < I64 := by
  refine (val_lt_iff (L := 1926) (p := 53) (by decide)).mp ?_
  rw [val_I64]
  have h1 : V ≤ 2 ^ 4023 := Nat.le_trans (Nat.le_of_lt h) (Nat.pow_le_pow_right (by decide) hn)
  have h2 : rnd 53 1926 V ≤ rnd 53 1926 (2 ^ 4023) := rnd_mono (by decide) h1
  have h3 := val_le (p := 53) (L := 1926) (by decide) h2
  have h4 : val 53 1926 (rnd 53 1926 (2 ^ 4023)) = 2 ^ 4023 := by
    have := rnd_exact (p := 53) (L := 1926) (c := 1) (k := 4023) (by decide) (by decide) (by decide)
    rwa [Nat.one_mul] at this
  have h5 : 2 ^ 4023 < 2 ^ 4024 := Nat.pow_lt_pow_right (by decide) (by decide)
  omega
theorem val_cvt {m : Nat} (h : m < I32) : val 53 1926 (rnd 53 1926 (val 24 2851 m)) = val 24 2851 m := by
  have h1 := vsig_lt (p := 24) (b := m) (by decide)
  have h2 := vexp_ge 24 2851 m
  unfold val
  exact rnd_exact (by decide) (by omega) (by omega)
theorem cvt_lt {m : Nat} (h : m < I32) : cvt m < I64 := by
  unfold cvt; rw [if_pos h]; exact rnd_fin (val_f_lt h) (by decide)
theorem cvt_I : cvt I32 = I64 := rfl
theorem cvt_zero : cvt 0 = 0 := by
  unfold cvt; rw [if_pos (by decide), val_zero, rnd_zero _ _ (by decide)]
theorem cvt_val {m : Nat} (h : m < I32) : val 53 1926 (cvt m) = val 24 2851 m := by
  unfold cvt; rw [if_pos h]; exact val_cvt h
theorem cvt_pos {m : Nat} (h : m < I32) (h0 : cvt m = 0) : m = 0 := by
  have := cvt_val h
  rw [h0, val_zero] at this
  exact val_eq_zero (by decide) this.symm
theorem q_split {s m w : Nat} (h : m < w) : (s * w + m) / w = s ∧ (s * w + m) % w = m := q_div rfl h
theorem enc_le (p L I V : Nat) : enc p L I V ≤ I := Nat.min_le_left _ _
theorem enc_zero (p L I : Nat) (hp : 0 < p) : enc p L I 0 = 0 := by unfold enc; rw [rnd_zero p L hp]; omega
/-- what a float's code is as a double -/
theorem tD_fin {a : Nat} (h : a % W32 < I32) : tD a / W64 = a / W32 ∧ tD a % W64 = cvt (a % W32) := by
  unfold tD; rw [if_neg (by omega)]
  exact q_split (Nat.lt_trans (cvt_lt h) i64_lt)
theorem tD_inf {a : Nat} (h : a % W32 = I32) : tD a / W64 = a / W32 ∧ tD a % W64 = I64 := by
  unfold tD; rw [if_neg (by omega), h, cvt_I]
  exact q_split (by decide)
theorem tD_nan {a : Nat} (h : I32 < a % W32) : tD a = N64 := by unfold tD; rw [if_pos h]
theorem toF_of {s V : Nat} (h : rnd 53 1926 V < I64) (h2 : rnd 24 2851 (val 53 1926 (rnd 53 1926 V)) = rnd 24 2851 V) : toF (s * W64 + enc 53 1926 I64 V) = s * W64 + cvt (enc 24 2851 I32 V) := by
  have he : enc 53 1926 I64 V = rnd 53 1926 V := by unfold enc; omega
  rw [he]
  obtain ⟨q1, q2⟩ := q_split (s := s) (m := rnd 53 1926 V) (w := W64) (Nat.lt_trans h i64_lt)
  unfold toF; rw [q1, q2, if_neg (by omega), if_neg (by omega)]
  unfold enc; rw [h2]
theorem tD_of {s V : Nat} : tD (s * W32 + enc 24 2851 I32 V) = s * W64 + cvt (enc 24 2851 I32 V) := by
  have := enc_le 24 2851 I32 V
  obtain ⟨q1, q2⟩ := q_split (s := s) (m := enc 24 2851 I32 V) (w := W32) (Nat.lt_of_le_of_lt this i32_lt)
  unfold tD; rw [q1, q2, if_neg (by omega)]
theorem tD_I {s : Nat} : tD (s * W32 + I32) = s * W64 + I64 := by
  obtain ⟨q1, q2⟩ := q_split (s := s) (m := I32) (w := W32) (by decide)
  unfold tD; rw [q1, q2, if_neg (by omega), cvt_I]
theorem tD_Z {s : Nat} : tD (s * W32) = s * W64 := by
  obtain ⟨q1, q2⟩ := q_split (s := s) (m := 0) (w := W32) (by decide)
  rw [Nat.add_zero] at q1 q2
  unfold tD; rw [q1, q2, if_neg (by omega), cvt_zero, Nat.add_zero]
theorem tD_N : tD N32 = N64 := tD_nan (by decide)
theorem toF_N : toF N64 = N64 := by unfold toF; rw [if_pos (by decide)]
theorem toF_I {s : Nat} : toF (s * W64 + I64) = s * W64 + I64 := by
  obtain ⟨q1, q2⟩ := q_split (s := s) (m := I64) (w := W64) (by decide)
  unfold toF; rw [q2, if_neg (by omega), if_pos rfl]
theorem toF_Z {s : Nat} : toF (s * W64) = s * W64 := by
  obtain ⟨q1, q2⟩ := q_split (s := s) (m := 0) (w := W64) (by decide)
  rw [Nat.add_zero] at q1 q2
  unfold toF; rw [q1, q2, if_neg (by decide), if_neg (by decide), val_zero, enc_zero _ _ _ (by decide), cvt_zero, Nat.add_zero]
theorem N64_m : N64 % W64 = N64 := rfl
theorem toF_inf {a : Nat} (h : a % W64 = I64) : toF a = a := by unfold toF; rw [if_neg (by omega), if_pos h]
theorem tD_eq_inf {a : Nat} (h : a % W32 = I32) : tD a = a / W32 * W64 + I64 := by unfold tD; rw [if_neg (by omega), h, cvt_I]
-- the sum of two floats' values, either way round
theorem fl_add2 {a b : Nat} : rnd 24 2851 (val 53 1926 (rnd 53 1926 (val 24 2851 a + val 24 2851 b))) = rnd 24 2851 (val 24 2851 a + val 24 2851 b) := by
  rcases Nat.le_total (vexp 24 2851 b) (vexp 24 2851 a) with h | h
  · exact fl_add (vexp_ge _ _ _) h (vsig_lt (by decide)) (vsig_lt (by decide)) vsig_norm
  · rw [Nat.add_comm]; exact fl_add (vexp_ge _ _ _) h (vsig_lt (by decide)) (vsig_lt (by decide)) vsig_norm
theorem fl_sub2 {a b : Nat} : rnd 24 2851 (val 53 1926 (rnd 53 1926 (val 24 2851 a - val 24 2851 b))) = rnd 24 2851 (val 24 2851 a - val 24 2851 b) := by
  rcases Nat.le_total (vexp 24 2851 b) (vexp 24 2851 a) with h | h
  · exact fl_sub (vexp_ge _ _ _) h (vsig_lt (by decide)) (vsig_lt (by decide)) vsig_norm
  · exact fl_sub' (vexp_ge _ _ _) h (vsig_lt (by decide)) (vsig_lt (by decide)) vsig_norm
theorem sum_fin {a b : Nat} (ha : a < I32) (hb : b < I32) : val 24 2851 a + val 24 2851 b < 2 ^ 3129 := by
  have h1 := val_f_lt ha
  have h2 := val_f_lt hb
  have h3 : 2 ^ 3129 = 2 * 2 ^ 3128 := q_pw1 3128
  omega
theorem flt_add {a b : Nat} : toF (addF 53 1926 I64 N64 W64 (tD a) (tD b)) = tD (addF 24 2851 I32 N32 W32 a b) := by
  unfold addF
  by_cases hn : I32 < a % W32 ∨ I32 < b % W32
  · rw [if_pos hn, tD_N]
    rw [if_pos (by
      rcases hn with h | h
      · left; rw [tD_nan h]; decide
      · right; rw [tD_nan h]; decide), toF_N]
  rw [if_neg hn]
  have ha : a % W32 ≤ I32 := by omega
  have hb : b % W32 ≤ I32 := by omega
  have hA : tD a % W64 ≤ I64 ∧ (tD a % W64 = I64 ↔ a % W32 = I32) ∧ tD a / W64 = a / W32 := by
    rcases Nat.lt_or_ge (a % W32) I32 with h | h
    · obtain ⟨q1, q2⟩ := tD_fin h
      have := cvt_lt h
      exact ⟨by omega, by omega, q1⟩
    · obtain ⟨q1, q2⟩ := tD_inf (a := a) (by omega)
      exact ⟨by omega, by omega, q1⟩
  have hB : tD b % W64 ≤ I64 ∧ (tD b % W64 = I64 ↔ b % W32 = I32) ∧ tD b / W64 = b / W32 := by
    rcases Nat.lt_or_ge (b % W32) I32 with h | h
    · obtain ⟨q1, q2⟩ := tD_fin h
      have := cvt_lt h
      exact ⟨by omega, by omega, q1⟩
    · obtain ⟨q1, q2⟩ := tD_inf (a := b) (by omega)
      exact ⟨by omega, by omega, q1⟩
  rw [if_neg (by omega)]
  by_cases hi : a % W32 = I32 ∨ b % W32 = I32
  · rw [if_pos hi, if_pos (by omega)]
    have hd : ∀ x, x = x / W64 * W64 + x % W64 := fun x => by rw [Nat.mul_comm]; exact (Nat.div_add_mod x W64).symm
    have hf : ∀ x, x = x / W32 * W32 + x % W32 := fun x => by rw [Nat.mul_comm]; exact (Nat.div_add_mod x W32).symm
    by_cases hab : a % W32 = I32 ∧ b % W32 = I32 ∧ a ≠ b
    · rw [if_pos hab, if_pos ⟨by omega, by omega, fun e => hab.2.2 (by rw [hf a, hf b, ← hA.2.2, ← hB.2.2, e]; omega)⟩, toF_N, tD_N]
    · rw [if_neg hab]
      rw [if_neg (fun c => hab ⟨by omega, by omega, fun e => c.2.2 (by rw [e])⟩)]
      by_cases h1 : a % W32 = I32
      · rw [if_pos h1, if_pos (by omega), toF_inf (by omega)]
      · rw [if_neg h1, if_neg (by omega), toF_inf (by omega)]
  · rw [if_neg hi, if_neg (by omega)]
    have fa : a % W32 < I32 := by omega
    have fb : b % W32 < I32 := by omega
    have va : val 53 1926 (tD a % W64) = val 24 2851 (a % W32) := by rw [(tD_fin fa).2, cvt_val fa]
    have vb : val 53 1926 (tD b % W64) = val 24 2851 (b % W32) := by rw [(tD_fin fb).2, cvt_val fb]
    rw [va, vb, hA.2.2, hB.2.2]
    have sf := sum_fin fa fb
    by_cases hs : a / W32 = b / W32
    · rw [if_pos hs, if_pos hs, toF_of (rnd_fin sf (by decide)) fl_add2, tD_of]
    · rw [if_neg hs, if_neg hs]
      by_cases h0 : val 24 2851 (a % W32) = val 24 2851 (b % W32)
      · rw [if_pos h0, if_pos h0]
        have h1 := toF_Z (s := 0)
        have h2 := tD_Z (s := 0)
        rw [Nat.zero_mul] at h1 h2
        rw [Nat.zero_mul] at h2
        rw [h1, h2]
      · rw [if_neg h0, if_neg h0]
        by_cases h1 : val 24 2851 (b % W32) < val 24 2851 (a % W32)
        · rw [if_pos h1, if_pos h1, toF_of (rnd_fin (n := 3129) (by omega) (by decide)) fl_sub2, tD_of]
        · rw [if_neg h1, if_neg h1, toF_of (rnd_fin (n := 3129) (by omega) (by decide)) fl_sub2, tD_of]
