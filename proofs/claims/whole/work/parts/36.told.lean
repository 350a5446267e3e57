/-! OUR OWN ROWS: one code for all that is no number: what goes in and what comes out -/
theorem told_num {a : Nat} (h : ¬ I64 < a % W64) : told a = a := by unfold told; rw [if_neg h]
theorem told_nan {a : Nat} (h : I64 < a % W64) : told a = N64 := by unfold told; rw [if_pos h]
theorem told_sort (a : Nat) : (I64 < a % W64 ∧ told a = N64) ∨ (¬ I64 < a % W64 ∧ told a = a) := by
  by_cases h : I64 < a % W64
  · exact Or.inl ⟨h, told_nan h⟩
  · exact Or.inr ⟨h, told_num h⟩
theorem told_fix {s m : Nat} (h : m ≤ I64) : told (s * W64 + m) = s * W64 + m := by
  obtain ⟨q1, q2⟩ := q_split (s := s) (m := m) (w := W64) (Nat.lt_of_le_of_lt h i64_lt)
  exact told_num (by rw [q2]; omega)
theorem told_fixZ {s : Nat} : told (s * W64) = s * W64 := by
  have := told_fix (s := s) (m := 0) (Nat.zero_le _)
  rwa [Nat.add_zero] at this
theorem told_N : told N64 = N64 := by decide
theorem told_0 : told 0 = 0 := by decide
theorem told_told (a : Nat) : told (told a) = told a := by
  rcases told_sort a with ⟨h, e⟩ | ⟨h, e⟩
  · rw [e, told_N]
  · rw [e, e]
theorem N64_gt : I64 < N64 % W64 := by decide
theorem addF_td (a b : Nat) : addF 53 1926 I64 N64 W64 (told a) (told b) = addF 53 1926 I64 N64 W64 a b := by
  rcases told_sort a with ⟨h, e⟩ | ⟨h, e⟩ <;> rcases told_sort b with ⟨g, f⟩ | ⟨g, f⟩ <;> rw [e, f]
  · unfold addF; rw [if_pos (Or.inl N64_gt), if_pos (Or.inl h)]
  · unfold addF; rw [if_pos (Or.inl N64_gt), if_pos (Or.inl h)]
  · unfold addF; rw [if_pos (Or.inr N64_gt), if_pos (Or.inr g)]
theorem mulF_td (a b : Nat) : mulF 53 1926 I64 N64 W64 (told a) (told b) = mulF 53 1926 I64 N64 W64 a b := by
  rcases told_sort a with ⟨h, e⟩ | ⟨h, e⟩ <;> rcases told_sort b with ⟨g, f⟩ | ⟨g, f⟩ <;> rw [e, f]
  · unfold mulF; rw [if_pos (Or.inl N64_gt), if_pos (Or.inl h)]
  · unfold mulF; rw [if_pos (Or.inl N64_gt), if_pos (Or.inl h)]
  · unfold mulF; rw [if_pos (Or.inr N64_gt), if_pos (Or.inr g)]
theorem divF_td (a b : Nat) : divF 53 1926 I64 N64 W64 (told a) (told b) = divF 53 1926 I64 N64 W64 a b := by
  rcases told_sort a with ⟨h, e⟩ | ⟨h, e⟩ <;> rcases told_sort b with ⟨g, f⟩ | ⟨g, f⟩ <;> rw [e, f]
  · unfold divF; rw [if_pos (Or.inl N64_gt), if_pos (Or.inl h)]
  · unfold divF; rw [if_pos (Or.inl N64_gt), if_pos (Or.inl h)]
  · unfold divF; rw [if_pos (Or.inr N64_gt), if_pos (Or.inr g)]
theorem remF_td (a b : Nat) : remF 53 1926 I64 N64 W64 (told a) (told b) = told (remF 53 1926 I64 N64 W64 a b) := by
  rcases told_sort a with ⟨h, e⟩ | ⟨h, e⟩ <;> rcases told_sort b with ⟨g, f⟩ | ⟨g, f⟩ <;> rw [e, f]
  · unfold remF; rw [if_pos (Or.inl N64_gt), if_pos (Or.inl h), told_N]
  · unfold remF; rw [if_pos (Or.inl N64_gt), if_pos (Or.inl h), told_N]
  · unfold remF; rw [if_pos (Or.inr (Or.inl N64_gt)), if_pos (Or.inr (Or.inl g)), told_N]
  · unfold remF; split
    · exact told_N.symm
    · split
      · exact e.symm
      · exact (told_fix (enc_le _ _ _ _)).symm
theorem addF_to (a b : Nat) : told (addF 53 1926 I64 N64 W64 a b) = addF 53 1926 I64 N64 W64 a b := by
  unfold addF; split
  · exact told_N
  · next hn =>
    split
    · split
      · exact told_N
      · split
        · exact told_num (by omega)
        · exact told_num (by omega)
    · split
      · exact told_fix (enc_le _ _ _ _)
      · split
        · exact told_0
        · split
          · exact told_fix (enc_le _ _ _ _)
          · exact told_fix (enc_le _ _ _ _)
theorem mulF_to (a b : Nat) : told (mulF 53 1926 I64 N64 W64 a b) = mulF 53 1926 I64 N64 W64 a b := by
  unfold mulF sgF; split
  · exact told_N
  · split
    · split
      · exact told_N
      · exact told_fix (Nat.le_refl _)
    · exact told_fix (enc_le _ _ _ _)
theorem divF_to (a b : Nat) : told (divF 53 1926 I64 N64 W64 a b) = divF 53 1926 I64 N64 W64 a b := by
  unfold divF sgF; split
  · exact told_N
  · split
    · split
      · exact told_N
      · exact told_fix (Nat.le_refl _)
    · split
      · exact told_fixZ
      · split
        · split
          · exact told_N
          · exact told_fix (Nat.le_refl _)
        · split
          · exact told_fixZ
          · exact told_fix (enc_le _ _ _ _)
theorem cvt_le {m : Nat} (h : m ≤ I32) : cvt m ≤ I64 := by
  rcases Nat.lt_or_ge m I32 with c | c
  · exact Nat.le_of_lt (cvt_lt c)
  · have : m = I32 := by omega
    rw [this, cvt_I]; exact Nat.le_refl _
theorem tD_to (a : Nat) : told (tD a) = tD a := by
  unfold tD; split
  · exact told_N
  · exact told_fix (cvt_le (by omega))
-- from a double to the float's code
def tF (a : Nat) : Nat := if I64 < a % W64 then N32 else if a % W64 = I64 then a / W64 * W32 + I32 else a / W64 * W32 + enc 24 2851 I32 (val 53 1926 (a % W64))
theorem toF_tD (a : Nat) : toF a = tD (tF a) := by
  unfold toF tF; split
  · exact tD_N.symm
  · split
    · next h =>
      rw [tD_I]
      have := Nat.div_add_mod a W64
      rw [h, Nat.mul_comm] at this
      exact this.symm
    · exact tD_of.symm
theorem toF_td (a : Nat) : toF (told a) = toF a := by
  rcases told_sort a with ⟨h, e⟩ | ⟨h, e⟩
  · rw [e, toF_N]; unfold toF; rw [if_pos h]
  · rw [e]
theorem tF_lt {a : Nat} (h : a < 2 ^ 64) : tF a < 2 ^ 32 := by
  have h1 : a / W64 < 2 := Nat.div_lt_of_lt_mul (by omega)
  have h2 := enc_le 24 2851 I32 (val 53 1926 (a % W64))
  have i2 : I32 = 2139095040 := rfl
  have w2 : W32 = 2147483648 := rfl
  unfold tF; split
  · decide
  · split
    · have := Nat.mul_le_mul_right W32 (show a / W64 ≤ 1 by omega)
      omega
    · have := Nat.mul_le_mul_right W32 (show a / W64 ≤ 1 by omega)
      omega
