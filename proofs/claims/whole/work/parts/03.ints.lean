theorem wb_tb (n : Nat) : (lN n).toBitVec = BitVec.ofNat 64 n := rfl
theorem wb_inj {a b : Int64} (h : a.toBitVec = b.toBitVec) : a = b := Int64.toBitVec_inj.mp h
theorem wb_tn {n : Nat} (h : n < 2 ^ 64) : (lN n).toBitVec.toNat = n := by rw [wb_tb, BitVec.toNat_ofNat, Nat.mod_eq_of_lt h]
theorem wb_of (x : Int64) : ∃ n, n < 2 ^ 64 ∧ x = lN n := ⟨x.toBitVec.toNat, x.toBitVec.isLt, wb_inj (by rw [wb_tb]; simp)⟩
theorem wb_of32 (x : Int32) : ∃ n, n < 2 ^ 32 ∧ x = nI n := ⟨x.toBitVec.toNat, x.toBitVec.isLt, Int32.toBitVec_inj.mp (by show _ = BitVec.ofNat 32 _; simp)⟩
theorem wb_c : ∀ k, k < 64 → ((nI k).toInt64 &&& 63) = lN k := by decide +kernel
theorem wb_cu : ∀ k, k < 64 → ((nI k).toInt64.toUInt64 &&& Int64.toUInt64 63) = UInt64.ofNat k := by decide +kernel
theorem wb_sm : ∀ k, k < 64 → (BitVec.ofNat 64 k).smod 64 = BitVec.ofNat 64 k := by decide +kernel
theorem wb_pw {a b : Nat} (h : a ≤ b) : 2 ^ b = 2 ^ a * 2 ^ (b - a) := by rw [← Nat.pow_add]; congr 1; omega
theorem wb_lt2 {a b : Nat} (h : a < b) : 2 ^ a < 2 ^ b := Nat.pow_lt_pow_right (by decide) h
theorem wb_mod (n : Nat) : lN n = lN (n % 2 ^ 64) := wb_inj (by rw [wb_tb, wb_tb]; apply BitVec.eq_of_toNat_eq; rw [BitVec.toNat_ofNat, BitVec.toNat_ofNat, Nat.mod_mod])
theorem wb_shr {n k : Nat} (hn : n < 2 ^ 64) (hk : k < 64) : ((lN n).toUInt64 >>> ((nI k).toInt64.toUInt64 &&& Int64.toUInt64 63)).toInt64 = lN (n / 2 ^ k) := by
  rw [wb_cu k hk]
  apply wb_inj
  apply BitVec.eq_of_toNat_eq
  show ((lN n).toUInt64 >>> UInt64.ofNat k).toNat = (BitVec.ofNat 64 _).toNat
  have h1 : (UInt64.ofNat k).toNat = k := by
    show (BitVec.ofNat 64 k).toNat = k
    rw [BitVec.toNat_ofNat, Nat.mod_eq_of_lt (by omega)]
  have h2 : (lN n).toUInt64.toNat = n := wb_tn hn
  rw [UInt64.toNat_shiftRight, h1, h2, Nat.mod_eq_of_lt hk, Nat.shiftRight_eq_div_pow, BitVec.toNat_ofNat, Nat.mod_eq_of_lt (Nat.lt_of_le_of_lt (Nat.div_le_self _ _) hn)]
theorem wb_shl (n : Nat) {k : Nat} (hk : k < 64) : lN n <<< ((nI k).toInt64 &&& 63) = lN (n * 2 ^ k) := by
  rw [wb_c k hk]
  apply wb_inj
  rw [Int64.toBitVec_shiftLeft, wb_tb, wb_tb, wb_tb, wb_sm k hk]
  apply BitVec.eq_of_toNat_eq
  rw [BitVec.shiftLeft_eq', BitVec.toNat_shiftLeft, BitVec.toNat_ofNat, BitVec.toNat_ofNat, BitVec.toNat_ofNat, Nat.mod_eq_of_lt (show k < 2 ^ 64 by omega), Nat.shiftLeft_eq, Nat.mul_mod, Nat.mod_mod, ← Nat.mul_mod]
theorem wb_and {a b : Nat} (ha : a < 2 ^ 64) (hb : b < 2 ^ 64) : lN a &&& lN b = lN (a &&& b) := by
  apply wb_inj
  rw [Int64.toBitVec_and, wb_tb, wb_tb, wb_tb]
  apply BitVec.eq_of_toNat_eq
  rw [BitVec.toNat_and, BitVec.toNat_ofNat, BitVec.toNat_ofNat, BitVec.toNat_ofNat, Nat.mod_eq_of_lt ha, Nat.mod_eq_of_lt hb, Nat.mod_eq_of_lt (Nat.and_lt_two_pow _ hb)]
theorem wb_or {a b : Nat} (ha : a < 2 ^ 64) (hb : b < 2 ^ 64) : lN a ||| lN b = lN (a ||| b) := by
  apply wb_inj
  rw [Int64.toBitVec_or, wb_tb, wb_tb, wb_tb]
  apply BitVec.eq_of_toNat_eq
  rw [BitVec.toNat_or, BitVec.toNat_ofNat, BitVec.toNat_ofNat, BitVec.toNat_ofNat, Nat.mod_eq_of_lt ha, Nat.mod_eq_of_lt hb, Nat.mod_eq_of_lt (Nat.or_lt_two_pow ha hb)]
theorem wb_mask {n k : Nat} (hn : n < 2 ^ 64) (hk : k < 64) : lN n &&& lN (2 ^ k - 1) = lN (n % 2 ^ k) := by
  rw [wb_and hn (by have := wb_lt2 hk; omega), Nat.and_two_pow_sub_one_eq_mod]
theorem wb_a1 {n : Nat} (hn : n < 2 ^ 64) : lN n &&& 1 = lN (n % 2) := wb_mask (k := 1) hn (by decide)
theorem wb_bit {n k : Nat} (hn : n < 2 ^ 64) (hk : k < 64) : ((lN n).toUInt64 >>> ((nI k).toInt64.toUInt64 &&& Int64.toUInt64 63)).toInt64 &&& 1 = lN (n / 2 ^ k % 2) := by
  rw [wb_shr hn hk, wb_a1 (Nat.lt_of_le_of_lt (Nat.div_le_self _ _) hn)]
theorem wb_xor {q k : Nat} (hk : k < 63) (h : 2 ^ k ≤ q) (h2 : q < 2 ^ (k + 1)) : lN q ^^^ lN (2 ^ k) = lN (q - 2 ^ k) := by
  obtain ⟨r, rfl⟩ : ∃ r, q = 2 ^ k + r := ⟨q - 2 ^ k, by omega⟩
  have hr : r < 2 ^ k := by rw [Nat.pow_succ] at h2; omega
  have hx : (2 ^ k + r) ^^^ 2 ^ k = r := by
    apply Nat.eq_of_testBit_eq
    intro i
    rw [Nat.testBit_xor, Nat.testBit_two_pow]
    rcases Nat.lt_trichotomy i k with h | h | h
    · rw [Nat.testBit_two_pow_add_gt h]
      simp [show ¬ k = i by omega]
    · subst h
      rw [Nat.testBit_two_pow_add_eq]
      simp
    · have a1 : 2 ^ (k + 1) ≤ 2 ^ i := Nat.pow_le_pow_right (by decide) h
      rw [Nat.testBit_lt_two_pow (show 2 ^ k + r < 2 ^ i by omega), Nat.testBit_lt_two_pow (show r < 2 ^ i by omega)]
      simp [show ¬ k = i by omega]
  have b1 := wb_lt2 (show k + 1 < 64 by omega)
  have b2 := wb_lt2 (show k < 64 by omega)
  apply wb_inj
  rw [Int64.toBitVec_xor, wb_tb, wb_tb, wb_tb]
  apply BitVec.eq_of_toNat_eq
  rw [BitVec.toNat_xor, BitVec.toNat_ofNat, BitVec.toNat_ofNat, BitVec.toNat_ofNat, Nat.mod_eq_of_lt (by omega : 2 ^ k + r < 2 ^ 64), Nat.mod_eq_of_lt b2, hx, Nat.add_sub_cancel_left, Nat.mod_eq_of_lt (by omega)]
/-! OUR OWN ROWS: ints and longs as whole numbers -/
def iZ (z : Int) : Int32 := Int32.ofInt z
theorem iZ_nI (n : Nat) : iZ n = nI n := Int32.ofInt_eq_ofNat
theorem iZ_add (a b : Int) : iZ a + iZ b = iZ (a + b) := (Int32.ofInt_add a b).symm
theorem iZ_sub (a b : Int) : iZ a - iZ b = iZ (a - b) := (Int32.ofInt_sub a b).symm
theorem iZ_mul (a b : Int) : iZ a * iZ b = iZ (a * b) := (Int32.ofInt_mul a b).symm
theorem iZ_neg (a : Int) : -iZ a = iZ (-a) := (Int32.ofInt_neg a).symm
theorem iZ_of (x : Int32) : iZ x.toInt = x := Int32.ofInt_toInt x
theorem iZ_toInt {a : Int} (h1 : -2147483648 ≤ a) (h2 : a < 2147483648) : (iZ a).toInt = a := Int32.toInt_ofInt_of_le (by omega) (by omega)
theorem iZ_lt {a b : Int} (h1 : -2147483648 ≤ a) (h2 : a < 2147483648) (h3 : -2147483648 ≤ b) (h4 : b < 2147483648) : iZ a < iZ b ↔ a < b := by
  rw [Int32.lt_iff_toInt_lt, iZ_toInt h1 h2, iZ_toInt h3 h4]
theorem iZ_le {a b : Int} (h1 : -2147483648 ≤ a) (h2 : a < 2147483648) (h3 : -2147483648 ≤ b) (h4 : b < 2147483648) : iZ a ≤ iZ b ↔ a ≤ b := by
  rw [Int32.le_iff_toInt_le, iZ_toInt h1 h2, iZ_toInt h3 h4]
theorem iZ_eq {a b : Int} (h1 : -2147483648 ≤ a) (h2 : a < 2147483648) (h3 : -2147483648 ≤ b) (h4 : b < 2147483648) : iZ a = iZ b ↔ a = b := by
  rw [← Int32.toInt_inj, iZ_toInt h1 h2, iZ_toInt h3 h4]
theorem ti_add {a b : Int32} (h1 : -2147483648 ≤ a.toInt + b.toInt) (h2 : a.toInt + b.toInt < 2147483648) : (a + b).toInt = a.toInt + b.toInt := by
  have e : iZ (a.toInt + b.toInt) = a + b := by rw [← iZ_add, iZ_of, iZ_of]
  rw [← e]; exact iZ_toInt h1 h2
theorem ti_mul {a b : Int32} (h1 : -2147483648 ≤ a.toInt * b.toInt) (h2 : a.toInt * b.toInt < 2147483648) : (a * b).toInt = a.toInt * b.toInt := by
  have e : iZ (a.toInt * b.toInt) = a * b := by rw [← iZ_mul, iZ_of, iZ_of]
  rw [← e]; exact iZ_toInt h1 h2
theorem in_of {i : Int32} {n : Nat} (h0 : 0 ≤ i.toInt) (h1 : i.toInt < n) : vp_in i n := by
  intro h
  rcases h with h | h
  · rw [Int32.lt_iff_toInt_lt] at h
    have : (0 : Int32).toInt = 0 := rfl
    omega
  · have : (i.toNatClampNeg : Int) = i.toInt := by
      show ((i.toInt.toNat : Nat) : Int) = _
      omega
    omega
theorem in_to {i : Int32} {n : Nat} (h : vp_in i n) : 0 ≤ i.toInt ∧ i.toInt < n ∧ (i.toNatClampNeg : Int) = i.toInt := by
  have h0 : ¬ i < 0 := fun c => h (Or.inl c)
  have h1 : ¬ n ≤ i.toNatClampNeg := fun c => h (Or.inr c)
  rw [Int32.lt_iff_toInt_lt] at h0
  have z : (0 : Int32).toInt = 0 := rfl
  have e : (i.toNatClampNeg : Int) = i.toInt := by
    show ((i.toInt.toNat : Nat) : Int) = _
    omega
  omega
theorem in_w {i : Int32} {n k : Nat} (h : vp_in i n) (hk : n ≤ k) : vp_in i k := by
  obtain ⟨a, b, c⟩ := in_to h
  exact in_of a (by omega)
theorem in_al {c i : Int32} {k n : Nat} (h : vp_in i k) (hc : 0 ≤ c.toInt ∧ c.toInt + k ≤ n ∧ n < 2147483648) : vp_in (c + i) n := by
  obtain ⟨a, b, d⟩ := in_to h
  have e := ti_add (a := c) (b := i) (by omega) (by omega)
  exact in_of (by omega) (by omega)
theorem in_ml {c i : Int32} {k n : Nat} (h : vp_in i k) (hc : 0 < c.toInt ∧ c.toInt * k ≤ n ∧ n < 2147483648) : vp_in (i * c) n := by
  obtain ⟨a, b, d⟩ := in_to h
  have m1 : 0 ≤ i.toInt * c.toInt := Int.mul_nonneg a (by omega)
  have m2 : (i.toInt + 1) * c.toInt ≤ k * c.toInt := Int.mul_le_mul_of_nonneg_right (by omega) (by omega)
  rw [Int.add_mul, Int.one_mul] at m2
  rw [Int.mul_comm (k : Int)] at m2
  have e := ti_mul (a := i) (b := c) (by omega) (by omega)
  exact in_of (by omega) (by omega)
theorem in_mla {c i d : Int32} {k n : Nat} (h : vp_in i k) (hc : 0 < c.toInt ∧ 0 ≤ d.toInt ∧ d.toInt < c.toInt ∧ c.toInt * k ≤ n ∧ n < 2147483648) : vp_in (i * c + d) n := by
  obtain ⟨a, b, f⟩ := in_to h
  have m1 : 0 ≤ i.toInt * c.toInt := Int.mul_nonneg a (by omega)
  have m2 : (i.toInt + 1) * c.toInt ≤ k * c.toInt := Int.mul_le_mul_of_nonneg_right (by omega) (by omega)
  rw [Int.add_mul, Int.one_mul] at m2
  rw [Int.mul_comm (k : Int)] at m2
  have e := ti_mul (a := i) (b := c) (by omega) (by omega)
  have e2 := ti_add (a := i * c) (b := d) (by omega) (by omega)
  exact in_of (by omega) (by omega)
theorem in_rb {w b : Int32} (hw : vp_in w 6) (hb : vp_in b 8) : vp_in (w * 8 + b) 64 := by
  obtain ⟨a1, b1, c1⟩ := in_to hw
  obtain ⟨a2, b2, c2⟩ := in_to hb
  have z : (8 : Int32).toInt = 8 := rfl
  have e := ti_mul (a := w) (b := 8) (by rw [z]; omega) (by rw [z]; omega)
  rw [z] at e
  have e2 := ti_add (a := w * 8) (b := b) (by omega) (by omega)
  exact in_of (by omega) (by omega)
-- longs
theorem l_of (x : Int64) : ∃ n, n < 2 ^ 64 ∧ x = lN n := ⟨x.toBitVec.toNat, x.toBitVec.isLt, Int64.toBitVec_inj.mp (by show _ = BitVec.ofNat 64 _; simp)⟩
theorem l_lt {a b : Nat} (ha : a < 2 ^ 63) (hb : b < 2 ^ 63) : lN a < lN b ↔ a < b := by
  rw [Int64.lt_iff_toInt_lt]
  have h1 : (lN a).toInt = a := lg_ofNat_toInt ha
  have h2 : (lN b).toInt = b := lg_ofNat_toInt hb
  rw [h1, h2]; omega
theorem l_le {a b : Nat} (ha : a < 2 ^ 63) (hb : b < 2 ^ 63) : lN a ≤ lN b ↔ a ≤ b := by
  rw [Int64.le_iff_toInt_le]
  have h1 : (lN a).toInt = a := lg_ofNat_toInt ha
  have h2 : (lN b).toInt = b := lg_ofNat_toInt hb
  rw [h1, h2]; omega
theorem l_tn {n : Nat} (h : n < 2 ^ 64) : (lN n).toBitVec.toNat = n := by
  show (BitVec.ofNat 64 n).toNat = n
  rw [BitVec.toNat_ofNat, Nat.mod_eq_of_lt h]
theorem l_eq {a b : Nat} (ha : a < 2 ^ 64) (hb : b < 2 ^ 64) : lN a = lN b ↔ a = b := by
  refine ⟨fun h => ?_, fun h => by rw [h]⟩
  have := congrArg (fun x : Int64 => x.toBitVec.toNat) h
  simp only [l_tn ha, l_tn hb] at this
  exact this
theorem l_toInt {m : Nat} (h : m < 2 ^ 64) : (lN m).toInt = if m < 2 ^ 63 then (m : Int) else (m : Int) - 2 ^ 64 := by
  have e : (lN m).toInt = (lN m).toBitVec.toInt := rfl
  rw [e, BitVec.toInt_eq_toNat_cond, l_tn h]
  split <;> split <;> omega
theorem l_neg {a : Nat} (h : a < 2 ^ 64) : lN a < 0 ↔ 2 ^ 63 ≤ a := by
  rw [Int64.lt_iff_toInt_lt, l_toInt h]
  have : (0 : Int64).toInt = 0 := rfl
  rw [this]; split <;> omega
-- counters of loops
theorem fl_first {d : Int32} : ∃ j : Nat, (0 : Int32) = nI j ∧ j ≤ d.toNatClampNeg ∧ d.toNatClampNeg - j < d.toNatClampNeg + 1 := ⟨0, rfl, Nat.zero_le _, by omega⟩
theorem fl_zero {x d : Int32} (h : ∃ j : Nat, x = nI j ∧ j ≤ d.toNatClampNeg ∧ d.toNatClampNeg - j < 0) : False := by
  obtain ⟨j, _, _, h⟩ := h; omega
theorem fl_up {x d : Int32} {n : Nat} (h : ∃ j : Nat, x = nI j ∧ j ≤ d.toNatClampNeg ∧ d.toNatClampNeg - j < n + 1) (c : ¬ d ≤ x) : ∃ j : Nat, x + 1 = nI j ∧ j ≤ d.toNatClampNeg ∧ d.toNatClampNeg - j < n := by
  obtain ⟨j, h1, h2, h3⟩ := h
  have hd := Int32.toNatClampNeg_lt d
  have hj : (nI j).toInt = j := nI_toInt (by omega)
  rw [Int32.le_iff_toInt_le, h1, hj] at c
  have hc : (d.toNatClampNeg : Int) = d.toInt := by
    show ((d.toInt.toNat : Nat) : Int) = _
    omega
  exact ⟨j + 1, by rw [h1]; exact nI_1 j, by omega, by omega⟩
theorem fl_dn {x : Int32} {n : Nat} (h : x.toNatClampNeg < n + 1) (c : ¬ x ≤ 0) : (x + (-10)).toNatClampNeg < n := by
  rw [Int32.le_iff_toInt_le] at c
  have z : (0 : Int32).toInt = 0 := rfl
  have t : (-10 : Int32).toInt = -10 := rfl
  have hx := Int32.toInt_lt x
  have e := ti_add (a := x) (b := -10) (by omega) (by omega)
  have e1 : (x.toNatClampNeg : Int) = x.toInt := by
    show ((x.toInt.toNat : Nat) : Int) = _
    omega
  have e2 : ((x + (-10)).toNatClampNeg) = (x + (-10)).toInt.toNat := rfl
  omega
-- compares of longs that are not below 0
theorem c_lt {a b : Nat} (ha : a < 2 ^ 63) (hb : b < 2 ^ 63) : lg_cmp (lN a) (lN b) < 0 ↔ a < b := (lg_cmp_lt _ _).trans (l_lt ha hb)
theorem c_le {a b : Nat} (ha : a < 2 ^ 63) (hb : b < 2 ^ 63) : lg_cmp (lN a) (lN b) ≤ 0 ↔ a ≤ b := (lg_cmp_le _ _).trans (l_le ha hb)
theorem c_gt {a b : Nat} (ha : a < 2 ^ 63) (hb : b < 2 ^ 63) : 0 < lg_cmp (lN a) (lN b) ↔ b < a := (lg_cmp_gt _ _).trans (l_lt hb ha)
theorem c_ge {a b : Nat} (ha : a < 2 ^ 63) (hb : b < 2 ^ 63) : 0 ≤ lg_cmp (lN a) (lN b) ↔ b ≤ a := (lg_cmp_ge _ _).trans (l_le hb ha)
theorem c_eq {a b : Nat} (ha : a < 2 ^ 64) (hb : b < 2 ^ 64) : lg_cmp (lN a) (lN b) = 0 ↔ a = b := (lg_cmp_eq _ _).trans (l_eq ha hb)
-- shifts
theorem w_shl (n : Nat) {k : Nat} (hk : k < 64) : j_shl (lN n) (nI k) = lN (n * 2 ^ k) := wb_shl n hk
theorem w_ushr {n k : Nat} (hn : n < 2 ^ 64) (hk : k < 64) : j_ushr (lN n) (nI k) = lN (n / 2 ^ k) := wb_shr hn hk
theorem w_shr {n k : Nat} (hn : n < 2 ^ 63) (hk : k < 64) : j_shr (lN n) (nI k) = lN (n / 2 ^ k) := by
  have hd : n / 2 ^ k ≤ n := Nat.div_le_self _ _
  unfold j_shr; rw [wb_c k hk]
  apply Int64.toInt_inj.mp
  have hD : ((lN k).toBitVec.smod 64).toNat = k := by
    rw [wb_tb, wb_sm k hk, BitVec.toNat_ofNat, Nat.mod_eq_of_lt (by omega)]
  have e : (lN n >>> lN k).toInt = (lN n).toInt >>> ((lN k).toBitVec.smod 64).toNat := BitVec.toInt_sshiftRight ..
  have p1 : (lN n).toInt = (n : Int) := lg_ofNat_toInt hn
  have p2 : (lN (n / 2 ^ k)).toInt = ((n / 2 ^ k : Nat) : Int) := lg_ofNat_toInt (by omega)
  rw [e, hD, Int.shiftRight_eq_div_pow, p1, p2]
  rfl
theorem w_xor {a b : Nat} (ha : a < 2 ^ 64) (hb : b < 2 ^ 64) : lN a ^^^ lN b = lN (a ^^^ b) := by
  apply wb_inj
  rw [Int64.toBitVec_xor, wb_tb, wb_tb, wb_tb]
  apply BitVec.eq_of_toNat_eq
  rw [BitVec.toNat_xor, BitVec.toNat_ofNat, BitVec.toNat_ofNat, BitVec.toNat_ofNat, Nat.mod_eq_of_lt ha, Nat.mod_eq_of_lt hb, Nat.mod_eq_of_lt (Nat.xor_lt_two_pow ha hb)]
theorem w_neg {a : Nat} (h0 : 0 < a) (ha : a ≤ 2 ^ 64) : -lN a = lN (2 ^ 64 - a) := by
  apply wb_inj
  rw [Int64.toBitVec_neg, wb_tb, wb_tb]
  apply BitVec.eq_of_toNat_eq
  rw [BitVec.toNat_neg, BitVec.toNat_ofNat, BitVec.toNat_ofNat]
  rcases Nat.eq_or_lt_of_le ha with c | c
  · subst c; decide
  · rw [Nat.mod_eq_of_lt c]
-- a bit above and what is below it
theorem n_or {k a b : Nat} (ha : a < 2 ^ k) : b * 2 ^ k ||| a = b * 2 ^ k + a := by rw [← Nat.shiftLeft_eq, Nat.shiftLeft_add_eq_or_of_lt ha]
theorem n_and_hi {a : Nat} (h : a < 2 ^ 64) : a &&& 2 ^ 63 = a / 2 ^ 63 * 2 ^ 63 := by
  apply Nat.eq_of_testBit_eq
  intro i
  rw [Nat.testBit_and, Nat.testBit_two_pow, Nat.testBit_mul_two_pow, Nat.testBit_div_two_pow]
  rcases Nat.lt_trichotomy i 63 with c | c | c
  · simp [show ¬ 63 = i by omega, show ¬ 63 ≤ i by omega]
  · subst c; simp
  · have : a.testBit (i - 63 + 63) = false := Nat.testBit_lt_two_pow (Nat.lt_of_lt_of_le h (Nat.pow_le_pow_right (by decide) (by omega)))
    simp [show ¬ 63 = i by omega, this]
