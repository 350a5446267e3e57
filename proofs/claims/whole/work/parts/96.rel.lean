/-! OUR OWN ROWS: the relation of the class's numbers to the reference's; reading and writing one number -/
def isFlt (x : Int64) : Prop := ∃ n : Nat, n < 2 ^ 32 ∧ x = lN n
theorem T_told (x : Int64) : f_M_told_J (f_M_told_J x) = f_M_told_J x := by
  obtain ⟨a, ha, rfl⟩ := l_of x
  rw [m_told0 ha, m_told0 (told_lt ha), told_told]
theorem L_add (x y : Int64) : f_M_add_JJ (f_M_told_J x) y = f_M_add_JJ x y := by
  have h := (T_add (f_M_told_J x) y).1
  rw [T_told, (T_add x y).1] at h
  exact h.symm
theorem R_add (x y : Int64) : f_M_add_JJ x (f_M_told_J y) = f_M_add_JJ x y := by
  have h := (T_add x (f_M_told_J y)).1
  rw [T_told, (T_add x y).1] at h
  exact h.symm
theorem D_add (x y : Int64) : f_M_told_J (f_M_add_JJ x y) = f_M_add_JJ x y := (T_add x y).2
theorem L_sub (x y : Int64) : f_M_subtract_JJ (f_M_told_J x) y = f_M_subtract_JJ x y := by
  have h := (T_sub (f_M_told_J x) y).1
  rw [T_told, (T_sub x y).1] at h
  exact h.symm
theorem R_sub (x y : Int64) : f_M_subtract_JJ x (f_M_told_J y) = f_M_subtract_JJ x y := by
  have h := (T_sub x (f_M_told_J y)).1
  rw [T_told, (T_sub x y).1] at h
  exact h.symm
theorem D_sub (x y : Int64) : f_M_told_J (f_M_subtract_JJ x y) = f_M_subtract_JJ x y := (T_sub x y).2
theorem L_mul (x y : Int64) : f_M_multiply_JJ (f_M_told_J x) y = f_M_multiply_JJ x y := by
  have h := (T_mul (f_M_told_J x) y).1
  rw [T_told, (T_mul x y).1] at h
  exact h.symm
theorem R_mul (x y : Int64) : f_M_multiply_JJ x (f_M_told_J y) = f_M_multiply_JJ x y := by
  have h := (T_mul x (f_M_told_J y)).1
  rw [T_told, (T_mul x y).1] at h
  exact h.symm
theorem D_mul (x y : Int64) : f_M_told_J (f_M_multiply_JJ x y) = f_M_multiply_JJ x y := (T_mul x y).2
theorem L_div (x y : Int64) : f_M_divide_JJ (f_M_told_J x) y = f_M_divide_JJ x y := by
  have h := (T_div (f_M_told_J x) y).1
  rw [T_told, (T_div x y).1] at h
  exact h.symm
theorem R_div (x y : Int64) : f_M_divide_JJ x (f_M_told_J y) = f_M_divide_JJ x y := by
  have h := (T_div x (f_M_told_J y)).1
  rw [T_told, (T_div x y).1] at h
  exact h.symm
theorem D_div (x y : Int64) : f_M_told_J (f_M_divide_JJ x y) = f_M_divide_JJ x y := (T_div x y).2
theorem L_ord (x y : Int64) : f_M_order_JJ (f_M_told_J x) y = f_M_order_JJ x y := by
  have h := T_order (f_M_told_J x) y
  rw [T_told, T_order x y] at h
  exact h.symm
theorem R_ord (x y : Int64) : f_M_order_JJ x (f_M_told_J y) = f_M_order_JJ x y := by
  have h := T_order x (f_M_told_J y)
  rw [T_told, T_order x y] at h
  exact h.symm
theorem Q_rootA (a b : Int64) : f_I_root_J (f_M_add_JJ a b) = f_M_told_J (f_M_root_J (f_M_add_JJ a b)) := by
  have h := Q_root (f_M_add_JJ a b)
  rw [D_add] at h
  exact h
theorem Q_negM (a b : Int64) : f_I_negated_J (f_M_multiply_JJ a b) = f_M_told_J (f_M_turned_JI (f_M_multiply_JJ a b) (0 : Int32)) := by
  have h := Q_neg (f_M_multiply_JJ a b)
  rw [D_mul] at h
  exact h
theorem V_sub (x y : Int64) : f_M_subtract_JJ x (f_M_turned_JI y (0 : Int32)) = f_M_add_JJ x y := by
  obtain ⟨a, ha, rfl⟩ := l_of x
  obtain ⟨b, hb, rfl⟩ := l_of y
  have e1 : f_M_turned_JI (lN b) (0 : Int32) = lN (tn b) := m_turned0 hb
  rw [e1, m_sub0 ha (tn_lt hb), tn_tn hb, m_add0 ha hb]
theorem D_dd {x : Int64} (h : isFlt x) : f_M_told_J (f_M_toDouble_J x) = f_M_toDouble_J x := by
  obtain ⟨n, hn, rfl⟩ := h
  exact T_toDouble hn
theorem F_of (x : Int64) : isFlt (f_M_toFloat_J x) := flt_of x
theorem F_bits (x : Int32) : isFlt (f_M_floatOf_I x) := by
  obtain ⟨n, hn, e, _⟩ := n_fo_of x
  exact ⟨n, hn, e⟩
theorem F_add {a b : Int64} (ha : isFlt a) (hb : isFlt b) : f_I_toFloat_J (f_M_add_JJ (f_M_toDouble_J a) (f_M_toDouble_J b)) = f_M_toDouble_J (f_M_add_JJI a b (1 : Int32)) := by
  obtain ⟨n, hn, rfl⟩ := ha
  obtain ⟨k, hk, rfl⟩ := hb
  have h := Q_fadd hn hk
  rw [Q_sum] at h
  exact h
theorem F_mul {a b : Int64} (ha : isFlt a) (hb : isFlt b) : f_I_toFloat_J (f_M_multiply_JJ (f_M_toDouble_J a) (f_M_toDouble_J b)) = f_M_toDouble_J (f_M_multiply_JJI a b (1 : Int32)) := by
  obtain ⟨n, hn, rfl⟩ := ha
  obtain ⟨k, hk, rfl⟩ := hb
  have h := Q_fmul hn hk
  rw [Q_mul] at h
  exact h
theorem F_addF {a b : Int64} (ha : isFlt a) (hb : isFlt b) : isFlt (f_M_add_JJI a b (1 : Int32)) := by
  obtain ⟨n, hn, rfl⟩ := ha
  obtain ⟨k, hk, rfl⟩ := hb
  exact ⟨_, addF32_lt hn hk, m_add1 hn hk⟩
-- places
theorem ix_of {c i : Int32} {n : Nat} (h : vp_in i n) (hc : 0 ≤ c.toInt) (hs : c.toInt + n < 2147483648) : (c + i).toNatClampNeg = c.toNatClampNeg + i.toNatClampNeg := by
  obtain ⟨a, b, d⟩ := in_to h
  have e := ti_add (a := c) (b := i) (by omega) (by omega)
  show (c + i).toInt.toNat = c.toInt.toNat + i.toInt.toNat
  rw [e]; omega
theorem ix0 {i : Int32} (h : vp_in i 8) : ((0 : Int32) + i).toNatClampNeg = 0 + i.toNatClampNeg := ix_of (c := 0) h (by decide) (by decide)
theorem ix8 {i : Int32} (h : vp_in i 8) : ((8 : Int32) + i).toNatClampNeg = 8 + i.toNatClampNeg := ix_of (c := 8) h (by decide) (by decide)
theorem ix16 {i : Int32} (h : vp_in i 8) : ((16 : Int32) + i).toNatClampNeg = 16 + i.toNatClampNeg := ix_of (c := 16) h (by decide) (by decide)
theorem ix24 {i : Int32} (h : vp_in i 8) : ((24 : Int32) + i).toNatClampNeg = 24 + i.toNatClampNeg := ix_of (c := 24) h (by decide) (by decide)
theorem ix32 {i : Int32} (h : vp_in i 8) : ((32 : Int32) + i).toNatClampNeg = 32 + i.toNatClampNeg := ix_of (c := 32) h (by decide) (by decide)
theorem ix40 {i : Int32} (h : vp_in i 8) : ((40 : Int32) + i).toNatClampNeg = 40 + i.toNatClampNeg := ix_of (c := 40) h (by decide) (by decide)
theorem ix48 {i : Int32} (h : vp_in i 8) : ((48 : Int32) + i).toNatClampNeg = 48 + i.toNatClampNeg := ix_of (c := 48) h (by decide) (by decide)
theorem ix56 {i : Int32} (h : vp_in i 8) : ((56 : Int32) + i).toNatClampNeg = 56 + i.toNatClampNeg := ix_of (c := 56) h (by decide) (by decide)
theorem in_n {i : Int32} {n : Nat} (h : vp_in i n) : i.toNatClampNeg < n := by
  obtain ⟨a, b, d⟩ := in_to h
  omega
-- rows
def RRow (f : Nat → Int64) (b n : Nat) (t : Int64 → Int64) (g : Nat → Int64) : Prop := ∀ j, j < n → f (b + j) = t (g j)
theorem row_same {f g : Nat → Int64} {b n k i : Nat} {t : Int64 → Int64} {a c : Int64} (h : RRow f b n t g) (hk : k = b + i) (e : a = t c) : RRow (vp_updL f k a) b n t (vp_updL g i c) := by
  intro j hj
  subst hk
  show (if b + j = b + i then a else f (b + j)) = t (if j = i then c else g j)
  by_cases q : j = i
  · subst q; rw [if_pos rfl, if_pos rfl]; exact e
  · rw [if_neg (by omega), if_neg q]; exact h j hj
theorem row_off {f g : Nat → Int64} {b n k : Nat} {t : Int64 → Int64} {a : Int64} (h : RRow f b n t g) (hk : k < b ∨ b + n ≤ k) : RRow (vp_updL f k a) b n t g := by
  intro j hj
  show (if b + j = k then a else f (b + j)) = t (g j)
  rw [if_neg (by omega)]; exact h j hj
theorem row_ext {f g : Nat → Int64} {b n k : Nat} {t : Int64 → Int64} {a c : Int64} (h : RRow f b n t g) (hk : k = b + n) (e : a = t c) : RRow (vp_updL f k a) b (n + 1) t (vp_updL g n c) := by
  intro j hj
  subst hk
  show (if b + j = b + n then a else f (b + j)) = t (if j = n then c else g j)
  by_cases q : j = n
  · subst q; rw [if_pos rfl, if_pos rfl]; exact e
  · rw [if_neg (by omega), if_neg q]; exact h j (by omega)
theorem row_less {f g : Nat → Int64} {b n k : Nat} {t : Int64 → Int64} (h : RRow f b n t g) (hk : k ≤ n) : RRow f b k t g := fun j hj => h j (by omega)
def RFlt (g : Nat → Int64) : Prop := ∀ j, j < 8 → isFlt (g j)
theorem flt_upd {g : Nat → Int64} {i : Nat} {c : Int64} (h : RFlt g) (hc : isFlt c) : RFlt (vp_updL g i c) := by
  intro j hj
  show isFlt (if j = i then c else g j)
  by_cases q : j = i
  · rw [if_pos q]; exact hc
  · rw [if_neg q]; exact h j hj
def SpAt (B : Nat → Int32) (N : Nat → Int64) (lf rt : Nat → Int32) (ks ls cs : Nat → Int64) (j : Nat) : Prop := (B (2 * j) = lf j ∧ B (2 * j + 1) = rt j ∧ vp_in (lf j) 8 ∧ vp_in (rt j) 8) ∧ (N (3 * j) = f_M_toDouble_J (ks j) ∧ N (3 * j + 1) = f_M_toDouble_J (ls j) ∧ N (3 * j + 2) = f_M_toDouble_J (cs j)) ∧ isFlt (ks j) ∧ isFlt (ls j) ∧ isFlt (cs j)
abbrev RelR (n : Nat) (f x y u v m q fx fy : Nat → Int64) : Prop := RRow f 0 8 f_M_told_J x ∧ RRow f 8 8 f_M_told_J y ∧ RRow f 16 8 f_M_told_J u ∧ RRow f 24 8 f_M_told_J v ∧ RRow f 32 8 f_M_toDouble_J m ∧ RRow f 40 8 f_M_toDouble_J q ∧ RRow f 48 n f_M_told_J fx ∧ RRow f 56 n f_M_told_J fy
abbrev RelF (f : Nat → Int64) (gx gy dr dt wl bk : Int64) : Prop := f 0 = f_M_told_J gx ∧ f 1 = f_M_told_J gy ∧ f 2 = f_M_told_J dr ∧ f 3 = f_M_toDouble_J dt ∧ f 4 = f_M_told_J wl ∧ f 5 = f_M_toDouble_J bk
abbrev RelS (B : Nat → Int32) (N : Nat → Int64) (C : Int32) (lf rt : Nat → Int32) (ks ls cs : Nat → Int64) (sp : Int32) : Prop := C = sp ∧ vp_in C 11 ∧ ∀ j, j < C.toNatClampNeg → SpAt B N lf rt ks ls cs j
abbrev RelX (m q : Nat → Int64) (dt bk : Int64) : Prop := RFlt m ∧ RFlt q ∧ isFlt dt ∧ isFlt bk
abbrev Rel (n : Nat) (S : CS) (M : MS) : Prop :=
  RelR n (sR S) (m_x M) (m_y M) (m_u M) (m_v M) (m_m M) (m_r M) (m_fx M) (m_fy M) ∧ RelF (sF S) (m_gx M) (m_gy M) (m_drag M) (m_dt M) (m_wall M) (m_back M) ∧ RRow (sT S) 0 8 f_M_told_J (m_store M) ∧ RelS (sB S) (sN S) (sC S) (m_left M) (m_right M) (m_k M) (m_l M) (m_c M) (m_springs M) ∧ RelX (m_m M) (m_r M) (m_dt M) (m_back M)
theorem rel_less {n k : Nat} {S : CS} {M : MS} (h : Rel n S M) (hk : k ≤ n) : Rel k S M := by
  obtain ⟨⟨h1, h2, h3, h4, h5, h6, h7, h8⟩, hF, hT, hS, hX⟩ := h
  exact ⟨⟨h1, h2, h3, h4, h5, h6, row_less h7 hk, row_less h8 hk⟩, hF, hT, hS, hX⟩
theorem set_x {n : Nat} {S : CS} {M : MS} {k i : Nat} {a c : Int64} (h : Rel n S M) (hi : i < 8) (hk : k = 0 + i) (e : a = f_M_told_J c) : Rel n (u_sR S (vp_updL (sR S) k a)) (u_m_x M (vp_updL (m_x M) i c)) := by
  obtain ⟨⟨h1, h2, h3, h4, h5, h6, h7, h8⟩, hF, hT, hS, hX⟩ := h
  exact ⟨⟨row_same h1 hk e, row_off h2 (by omega), row_off h3 (by omega), row_off h4 (by omega), row_off h5 (by omega), row_off h6 (by omega), row_off h7 (by omega), row_off h8 (by omega)⟩, hF, hT, hS, hX⟩
theorem at_x {n : Nat} {S : CS} {M : MS} {k i : Nat} (h : Rel n S M) (hi : i < 8) (hk : k = 0 + i) : sR S k = f_M_told_J (m_x M i) := by rw [hk]; exact h.1.1 i hi
theorem g_x {n : Nat} {S : CS} {M : MS} {i : Int32} (h : Rel n S M) (hi : vp_in i 8) : sR S ((0 : Int32) + i).toNatClampNeg = f_M_told_J (m_x M i.toNatClampNeg) := at_x h (in_n hi) (ix0 hi)
theorem set_y {n : Nat} {S : CS} {M : MS} {k i : Nat} {a c : Int64} (h : Rel n S M) (hi : i < 8) (hk : k = 8 + i) (e : a = f_M_told_J c) : Rel n (u_sR S (vp_updL (sR S) k a)) (u_m_y M (vp_updL (m_y M) i c)) := by
  obtain ⟨⟨h1, h2, h3, h4, h5, h6, h7, h8⟩, hF, hT, hS, hX⟩ := h
  exact ⟨⟨row_off h1 (by omega), row_same h2 hk e, row_off h3 (by omega), row_off h4 (by omega), row_off h5 (by omega), row_off h6 (by omega), row_off h7 (by omega), row_off h8 (by omega)⟩, hF, hT, hS, hX⟩
theorem at_y {n : Nat} {S : CS} {M : MS} {k i : Nat} (h : Rel n S M) (hi : i < 8) (hk : k = 8 + i) : sR S k = f_M_told_J (m_y M i) := by rw [hk]; exact h.1.2.1 i hi
theorem g_y {n : Nat} {S : CS} {M : MS} {i : Int32} (h : Rel n S M) (hi : vp_in i 8) : sR S ((8 : Int32) + i).toNatClampNeg = f_M_told_J (m_y M i.toNatClampNeg) := at_y h (in_n hi) (ix8 hi)
theorem set_u {n : Nat} {S : CS} {M : MS} {k i : Nat} {a c : Int64} (h : Rel n S M) (hi : i < 8) (hk : k = 16 + i) (e : a = f_M_told_J c) : Rel n (u_sR S (vp_updL (sR S) k a)) (u_m_u M (vp_updL (m_u M) i c)) := by
  obtain ⟨⟨h1, h2, h3, h4, h5, h6, h7, h8⟩, hF, hT, hS, hX⟩ := h
  exact ⟨⟨row_off h1 (by omega), row_off h2 (by omega), row_same h3 hk e, row_off h4 (by omega), row_off h5 (by omega), row_off h6 (by omega), row_off h7 (by omega), row_off h8 (by omega)⟩, hF, hT, hS, hX⟩
theorem at_u {n : Nat} {S : CS} {M : MS} {k i : Nat} (h : Rel n S M) (hi : i < 8) (hk : k = 16 + i) : sR S k = f_M_told_J (m_u M i) := by rw [hk]; exact h.1.2.2.1 i hi
theorem g_u {n : Nat} {S : CS} {M : MS} {i : Int32} (h : Rel n S M) (hi : vp_in i 8) : sR S ((16 : Int32) + i).toNatClampNeg = f_M_told_J (m_u M i.toNatClampNeg) := at_u h (in_n hi) (ix16 hi)
theorem set_v {n : Nat} {S : CS} {M : MS} {k i : Nat} {a c : Int64} (h : Rel n S M) (hi : i < 8) (hk : k = 24 + i) (e : a = f_M_told_J c) : Rel n (u_sR S (vp_updL (sR S) k a)) (u_m_v M (vp_updL (m_v M) i c)) := by
  obtain ⟨⟨h1, h2, h3, h4, h5, h6, h7, h8⟩, hF, hT, hS, hX⟩ := h
  exact ⟨⟨row_off h1 (by omega), row_off h2 (by omega), row_off h3 (by omega), row_same h4 hk e, row_off h5 (by omega), row_off h6 (by omega), row_off h7 (by omega), row_off h8 (by omega)⟩, hF, hT, hS, hX⟩
theorem at_v {n : Nat} {S : CS} {M : MS} {k i : Nat} (h : Rel n S M) (hi : i < 8) (hk : k = 24 + i) : sR S k = f_M_told_J (m_v M i) := by rw [hk]; exact h.1.2.2.2.1 i hi
theorem g_v {n : Nat} {S : CS} {M : MS} {i : Int32} (h : Rel n S M) (hi : vp_in i 8) : sR S ((24 : Int32) + i).toNatClampNeg = f_M_told_J (m_v M i.toNatClampNeg) := at_v h (in_n hi) (ix24 hi)
theorem set_m {n : Nat} {S : CS} {M : MS} {k i : Nat} {a c : Int64} (h : Rel n S M) (hi : i < 8) (hk : k = 32 + i) (e : a = f_M_toDouble_J c) (hc : isFlt c) : Rel n (u_sR S (vp_updL (sR S) k a)) (u_m_m M (vp_updL (m_m M) i c)) := by
  obtain ⟨⟨h1, h2, h3, h4, h5, h6, h7, h8⟩, hF, hT, hS, hX⟩ := h
  exact ⟨⟨row_off h1 (by omega), row_off h2 (by omega), row_off h3 (by omega), row_off h4 (by omega), row_same h5 hk e, row_off h6 (by omega), row_off h7 (by omega), row_off h8 (by omega)⟩, hF, hT, hS, ⟨flt_upd hX.1 hc, hX.2⟩⟩
theorem at_m {n : Nat} {S : CS} {M : MS} {k i : Nat} (h : Rel n S M) (hi : i < 8) (hk : k = 32 + i) : sR S k = f_M_toDouble_J (m_m M i) := by rw [hk]; exact h.1.2.2.2.2.1 i hi
theorem g_m {n : Nat} {S : CS} {M : MS} {i : Int32} (h : Rel n S M) (hi : vp_in i 8) : sR S ((32 : Int32) + i).toNatClampNeg = f_M_toDouble_J (m_m M i.toNatClampNeg) := at_m h (in_n hi) (ix32 hi)
theorem set_r {n : Nat} {S : CS} {M : MS} {k i : Nat} {a c : Int64} (h : Rel n S M) (hi : i < 8) (hk : k = 40 + i) (e : a = f_M_toDouble_J c) (hc : isFlt c) : Rel n (u_sR S (vp_updL (sR S) k a)) (u_m_r M (vp_updL (m_r M) i c)) := by
  obtain ⟨⟨h1, h2, h3, h4, h5, h6, h7, h8⟩, hF, hT, hS, hX⟩ := h
  exact ⟨⟨row_off h1 (by omega), row_off h2 (by omega), row_off h3 (by omega), row_off h4 (by omega), row_off h5 (by omega), row_same h6 hk e, row_off h7 (by omega), row_off h8 (by omega)⟩, hF, hT, hS, ⟨hX.1, flt_upd hX.2.1 hc, hX.2.2⟩⟩
theorem at_r {n : Nat} {S : CS} {M : MS} {k i : Nat} (h : Rel n S M) (hi : i < 8) (hk : k = 40 + i) : sR S k = f_M_toDouble_J (m_r M i) := by rw [hk]; exact h.1.2.2.2.2.2.1 i hi
theorem g_r {n : Nat} {S : CS} {M : MS} {i : Int32} (h : Rel n S M) (hi : vp_in i 8) : sR S ((40 : Int32) + i).toNatClampNeg = f_M_toDouble_J (m_r M i.toNatClampNeg) := at_r h (in_n hi) (ix40 hi)
theorem set_fx {S : CS} {M : MS} {k i : Nat} {a c : Int64} (h : Rel 8 S M) (hi : i < 8) (hk : k = 48 + i) (e : a = f_M_told_J c) : Rel 8 (u_sR S (vp_updL (sR S) k a)) (u_m_fx M (vp_updL (m_fx M) i c)) := by
  obtain ⟨⟨h1, h2, h3, h4, h5, h6, h7, h8⟩, hF, hT, hS, hX⟩ := h
  exact ⟨⟨row_off h1 (by omega), row_off h2 (by omega), row_off h3 (by omega), row_off h4 (by omega), row_off h5 (by omega), row_off h6 (by omega), row_same h7 hk e, row_off h8 (by omega)⟩, hF, hT, hS, hX⟩
theorem at_fx {S : CS} {M : MS} {k i : Nat} (h : Rel 8 S M) (hi : i < 8) (hk : k = 48 + i) : sR S k = f_M_told_J (m_fx M i) := by rw [hk]; exact h.1.2.2.2.2.2.2.1 i hi
theorem g_fx {S : CS} {M : MS} {i : Int32} (h : Rel 8 S M) (hi : vp_in i 8) : sR S ((48 : Int32) + i).toNatClampNeg = f_M_told_J (m_fx M i.toNatClampNeg) := at_fx h (in_n hi) (ix48 hi)
theorem set_fy {S : CS} {M : MS} {k i : Nat} {a c : Int64} (h : Rel 8 S M) (hi : i < 8) (hk : k = 56 + i) (e : a = f_M_told_J c) : Rel 8 (u_sR S (vp_updL (sR S) k a)) (u_m_fy M (vp_updL (m_fy M) i c)) := by
  obtain ⟨⟨h1, h2, h3, h4, h5, h6, h7, h8⟩, hF, hT, hS, hX⟩ := h
  exact ⟨⟨row_off h1 (by omega), row_off h2 (by omega), row_off h3 (by omega), row_off h4 (by omega), row_off h5 (by omega), row_off h6 (by omega), row_off h7 (by omega), row_same h8 hk e⟩, hF, hT, hS, hX⟩
theorem at_fy {S : CS} {M : MS} {k i : Nat} (h : Rel 8 S M) (hi : i < 8) (hk : k = 56 + i) : sR S k = f_M_told_J (m_fy M i) := by rw [hk]; exact h.1.2.2.2.2.2.2.2 i hi
theorem g_fy {S : CS} {M : MS} {i : Int32} (h : Rel 8 S M) (hi : vp_in i 8) : sR S ((56 : Int32) + i).toNatClampNeg = f_M_told_J (m_fy M i.toNatClampNeg) := at_fy h (in_n hi) (ix56 hi)
theorem n_gx {n : Nat} {S : CS} {M : MS} (h : Rel n S M) : sF S 0 = f_M_told_J (m_gx M) := h.2.1.1
theorem g_gx {n : Nat} {S : CS} {M : MS} (h : Rel n S M) : sF S (0 : Int32).toNatClampNeg = f_M_told_J (m_gx M) := h.2.1.1
theorem set_gx {n : Nat} {S : CS} {M : MS} {a c : Int64} (h : Rel n S M) (e : a = f_M_told_J c) : Rel n (u_sF S (vp_updL (sF S) (0 : Int32).toNatClampNeg a)) (u_m_gx M c) := by
  obtain ⟨hR, ⟨f0, f1, f2, f3, f4, f5⟩, hT, hS, hX⟩ := h
  exact ⟨hR, ⟨e, f1, f2, f3, f4, f5⟩, hT, hS, hX⟩
theorem n_gy {n : Nat} {S : CS} {M : MS} (h : Rel n S M) : sF S 1 = f_M_told_J (m_gy M) := h.2.1.2.1
theorem g_gy {n : Nat} {S : CS} {M : MS} (h : Rel n S M) : sF S (1 : Int32).toNatClampNeg = f_M_told_J (m_gy M) := h.2.1.2.1
theorem set_gy {n : Nat} {S : CS} {M : MS} {a c : Int64} (h : Rel n S M) (e : a = f_M_told_J c) : Rel n (u_sF S (vp_updL (sF S) (1 : Int32).toNatClampNeg a)) (u_m_gy M c) := by
  obtain ⟨hR, ⟨f0, f1, f2, f3, f4, f5⟩, hT, hS, hX⟩ := h
  exact ⟨hR, ⟨f0, e, f2, f3, f4, f5⟩, hT, hS, hX⟩
theorem n_drag {n : Nat} {S : CS} {M : MS} (h : Rel n S M) : sF S 2 = f_M_told_J (m_drag M) := h.2.1.2.2.1
theorem g_drag {n : Nat} {S : CS} {M : MS} (h : Rel n S M) : sF S (2 : Int32).toNatClampNeg = f_M_told_J (m_drag M) := h.2.1.2.2.1
theorem set_drag {n : Nat} {S : CS} {M : MS} {a c : Int64} (h : Rel n S M) (e : a = f_M_told_J c) : Rel n (u_sF S (vp_updL (sF S) (2 : Int32).toNatClampNeg a)) (u_m_drag M c) := by
  obtain ⟨hR, ⟨f0, f1, f2, f3, f4, f5⟩, hT, hS, hX⟩ := h
  exact ⟨hR, ⟨f0, f1, e, f3, f4, f5⟩, hT, hS, hX⟩
theorem n_dt {n : Nat} {S : CS} {M : MS} (h : Rel n S M) : sF S 3 = f_M_toDouble_J (m_dt M) := h.2.1.2.2.2.1
theorem g_dt {n : Nat} {S : CS} {M : MS} (h : Rel n S M) : sF S (3 : Int32).toNatClampNeg = f_M_toDouble_J (m_dt M) := h.2.1.2.2.2.1
theorem set_dt {n : Nat} {S : CS} {M : MS} {a c : Int64} (h : Rel n S M) (e : a = f_M_toDouble_J c) (hc : isFlt c) : Rel n (u_sF S (vp_updL (sF S) (3 : Int32).toNatClampNeg a)) (u_m_dt M c) := by
  obtain ⟨hR, ⟨f0, f1, f2, f3, f4, f5⟩, hT, hS, hX⟩ := h
  exact ⟨hR, ⟨f0, f1, f2, e, f4, f5⟩, hT, hS, ⟨hX.1, hX.2.1, hc, hX.2.2.2⟩⟩
theorem n_wall {n : Nat} {S : CS} {M : MS} (h : Rel n S M) : sF S 4 = f_M_told_J (m_wall M) := h.2.1.2.2.2.2.1
theorem g_wall {n : Nat} {S : CS} {M : MS} (h : Rel n S M) : sF S (4 : Int32).toNatClampNeg = f_M_told_J (m_wall M) := h.2.1.2.2.2.2.1
theorem set_wall {n : Nat} {S : CS} {M : MS} {a c : Int64} (h : Rel n S M) (e : a = f_M_told_J c) : Rel n (u_sF S (vp_updL (sF S) (4 : Int32).toNatClampNeg a)) (u_m_wall M c) := by
  obtain ⟨hR, ⟨f0, f1, f2, f3, f4, f5⟩, hT, hS, hX⟩ := h
  exact ⟨hR, ⟨f0, f1, f2, f3, e, f5⟩, hT, hS, hX⟩
theorem n_back {n : Nat} {S : CS} {M : MS} (h : Rel n S M) : sF S 5 = f_M_toDouble_J (m_back M) := h.2.1.2.2.2.2.2
theorem g_back {n : Nat} {S : CS} {M : MS} (h : Rel n S M) : sF S (5 : Int32).toNatClampNeg = f_M_toDouble_J (m_back M) := h.2.1.2.2.2.2.2
theorem set_back {n : Nat} {S : CS} {M : MS} {a c : Int64} (h : Rel n S M) (e : a = f_M_toDouble_J c) (hc : isFlt c) : Rel n (u_sF S (vp_updL (sF S) (5 : Int32).toNatClampNeg a)) (u_m_back M c) := by
  obtain ⟨hR, ⟨f0, f1, f2, f3, f4, f5⟩, hT, hS, hX⟩ := h
  exact ⟨hR, ⟨f0, f1, f2, f3, f4, e⟩, hT, hS, ⟨hX.1, hX.2.1, hX.2.2.1, hc⟩⟩
theorem f_m {n : Nat} {S : CS} {M : MS} {i : Int32} (h : Rel n S M) (hi : vp_in i 8) : isFlt (m_m M i.toNatClampNeg) := h.2.2.2.2.1 _ (in_n hi)
theorem f_r {n : Nat} {S : CS} {M : MS} {i : Int32} (h : Rel n S M) (hi : vp_in i 8) : isFlt (m_r M i.toNatClampNeg) := h.2.2.2.2.2.1 _ (in_n hi)
theorem g_store {n : Nat} {S : CS} {M : MS} {i : Int32} (h : Rel n S M) (hi : vp_in i 8) : sT S i.toNatClampNeg = f_M_told_J (m_store M i.toNatClampNeg) := by
  have e := h.2.2.1 _ (in_n hi)
  rw [Nat.zero_add] at e
  exact e
theorem n_store {n : Nat} {S : CS} {M : MS} {i : Nat} (h : Rel n S M) (hi : i < 8) : sT S i = f_M_told_J (m_store M i) := by
  have e := h.2.2.1 _ hi
  rw [Nat.zero_add] at e
  exact e
theorem rd_off {S : CS} {k j : Nat} {a : Int64} (h : ¬ j = k) : sR (u_sR S (vp_updL (sR S) k a)) j = sR S j := if_neg h
theorem set_store {n : Nat} {S : CS} {M : MS} {i : Nat} {a c : Int64} (h : Rel n S M) (e : a = f_M_told_J c) : Rel n (u_sT S (vp_updL (sT S) i a)) (u_m_store M (vp_updL (m_store M) i c)) := by
  obtain ⟨hR, hF, hT, hS, hX⟩ := h
  exact ⟨hR, hF, row_same hT (Nat.zero_add i).symm e, hS, hX⟩
-- the forces of one body more
theorem set_force {n : Nat} {S : CS} {M : MS} {k1 k2 : Nat} {a b c d : Int64} (h : Rel n S M) (hn : n < 8) (h1k : k1 = 48 + n) (h2k : k2 = 56 + n) (e1 : a = f_M_told_J c) (e2 : b = f_M_told_J d) :
    Rel (n + 1) (u_sR (u_sR S (vp_updL (sR S) k1 a)) (vp_updL (sR (u_sR S (vp_updL (sR S) k1 a))) k2 b)) (u_m_fy (u_m_fx M (vp_updL (m_fx M) n c)) (vp_updL (m_fy (u_m_fx M (vp_updL (m_fx M) n c))) n d)) := by
  obtain ⟨⟨h1, h2, h3, h4, h5, h6, h7, h8⟩, hF, hT, hS, hX⟩ := h
  exact ⟨⟨row_off (row_off h1 (by omega)) (by omega), row_off (row_off h2 (by omega)) (by omega), row_off (row_off h3 (by omega)) (by omega), row_off (row_off h4 (by omega)) (by omega), row_off (row_off h5 (by omega)) (by omega), row_off (row_off h6 (by omega)) (by omega), row_off (row_ext h7 h1k e1) (by omega), row_ext (row_off h8 (by omega)) h2k e2⟩, hF, hT, hS, hX⟩
-- read, reckon, write

theorem rw_fx_add {S : CS} {M : MS} {k i : Nat} {a : Int64} (h : Rel 8 S M) (hi : i < 8) (hk : k = 48 + i) : Rel 8 (u_sR S (vp_updL (sR S) k (f_M_add_JJ (sR S k) a))) (u_m_fx M (vp_updL (m_fx M) i (f_M_add_JJ (m_fx M i) a))) := set_fx h hi hk (by rw [at_fx h hi hk, L_add, D_add])
theorem rw_fx_sub {S : CS} {M : MS} {k i : Nat} {a : Int64} (h : Rel 8 S M) (hi : i < 8) (hk : k = 48 + i) : Rel 8 (u_sR S (vp_updL (sR S) k (f_M_subtract_JJ (sR S k) a))) (u_m_fx M (vp_updL (m_fx M) i (f_M_subtract_JJ (m_fx M i) a))) := set_fx h hi hk (by rw [at_fx h hi hk, L_sub, D_sub])
theorem rw_fy_add {S : CS} {M : MS} {k i : Nat} {a : Int64} (h : Rel 8 S M) (hi : i < 8) (hk : k = 56 + i) : Rel 8 (u_sR S (vp_updL (sR S) k (f_M_add_JJ (sR S k) a))) (u_m_fy M (vp_updL (m_fy M) i (f_M_add_JJ (m_fy M i) a))) := set_fy h hi hk (by rw [at_fy h hi hk, L_add, D_add])
theorem rw_fy_sub {S : CS} {M : MS} {k i : Nat} {a : Int64} (h : Rel 8 S M) (hi : i < 8) (hk : k = 56 + i) : Rel 8 (u_sR S (vp_updL (sR S) k (f_M_subtract_JJ (sR S k) a))) (u_m_fy M (vp_updL (m_fy M) i (f_M_subtract_JJ (m_fy M i) a))) := set_fy h hi hk (by rw [at_fy h hi hk, L_sub, D_sub])
theorem rw_u_add {S : CS} {M : MS} {k i : Nat} {a : Int64} (h : Rel 8 S M) (hi : i < 8) (hk : k = 16 + i) : Rel 8 (u_sR S (vp_updL (sR S) k (f_M_add_JJ (sR S k) a))) (u_m_u M (vp_updL (m_u M) i (f_M_add_JJ (m_u M i) a))) := set_u h hi hk (by rw [at_u h hi hk, L_add, D_add])
theorem rw_u_sub {S : CS} {M : MS} {k i : Nat} {a : Int64} (h : Rel 8 S M) (hi : i < 8) (hk : k = 16 + i) : Rel 8 (u_sR S (vp_updL (sR S) k (f_M_subtract_JJ (sR S k) a))) (u_m_u M (vp_updL (m_u M) i (f_M_subtract_JJ (m_u M i) a))) := set_u h hi hk (by rw [at_u h hi hk, L_sub, D_sub])
theorem rw_v_add {S : CS} {M : MS} {k i : Nat} {a : Int64} (h : Rel 8 S M) (hi : i < 8) (hk : k = 24 + i) : Rel 8 (u_sR S (vp_updL (sR S) k (f_M_add_JJ (sR S k) a))) (u_m_v M (vp_updL (m_v M) i (f_M_add_JJ (m_v M i) a))) := set_v h hi hk (by rw [at_v h hi hk, L_add, D_add])
theorem rw_v_sub {S : CS} {M : MS} {k i : Nat} {a : Int64} (h : Rel 8 S M) (hi : i < 8) (hk : k = 24 + i) : Rel 8 (u_sR S (vp_updL (sR S) k (f_M_subtract_JJ (sR S k) a))) (u_m_v M (vp_updL (m_v M) i (f_M_subtract_JJ (m_v M i) a))) := set_v h hi hk (by rw [at_v h hi hk, L_sub, D_sub])
theorem rw_u_back {S : CS} {M : MS} {k i : Nat} (h : Rel 8 S M) (hi : i < 8) (hk : k = 16 + i) : Rel 8 (u_sR S (vp_updL (sR S) k (f_I_negated_J (f_M_multiply_JJ (sR S k) (sF S (5 : Int32).toNatClampNeg))))) (u_m_u M (vp_updL (m_u M) i (f_M_turned_JI (f_M_multiply_JJ (m_u M i) (f_M_toDouble_J (m_back M))) (0 : Int32)))) := set_u h hi hk (by rw [at_u h hi hk, g_back h, L_mul, Q_negM])
theorem rw_v_back {S : CS} {M : MS} {k i : Nat} (h : Rel 8 S M) (hi : i < 8) (hk : k = 24 + i) : Rel 8 (u_sR S (vp_updL (sR S) k (f_I_negated_J (f_M_multiply_JJ (sR S k) (sF S (5 : Int32).toNatClampNeg))))) (u_m_v M (vp_updL (m_v M) i (f_M_turned_JI (f_M_multiply_JJ (m_v M i) (f_M_toDouble_J (m_back M))) (0 : Int32)))) := set_v h hi hk (by rw [at_v h hi hk, g_back h, L_mul, Q_negM])
theorem rel_if {n : Nat} {c : Prop} [Decidable c] {A B : CS} {A' B' : MS} (h1 : c → Rel n A A') (h2 : ¬ c → Rel n B B') : Rel n (if c then A else B) (if c then A' else B') := by
  by_cases h : c
  · rw [if_pos h, if_pos h]; exact h1 h
  · rw [if_neg h, if_neg h]; exact h2 h
theorem le_if {α : Type} {c : Prop} [Decidable c] (A B : α) : (if (if c then (1 : Int32) else 0) = 0 then A else B) = if c then B else A := by
  by_cases h : c
  · rw [if_pos h, if_pos h, if_neg (by decide)]
  · rw [if_neg h, if_neg h, if_pos rfl]
-- springs
theorem ix_three {j : Nat} (h : j < 1000) : (nI j * (3 : Int32)).toNatClampNeg = 3 * j ∧ (nI j * (3 : Int32) + (1 : Int32)).toNatClampNeg = 3 * j + 1 ∧ (nI j * (3 : Int32) + (2 : Int32)).toNatClampNeg = 3 * j + 2 := by
  have e : nI j * (3 : Int32) = nI (3 * j) := by
    rw [show (3 : Int32) = iZ 3 from rfl, ← iZ_nI, iZ_mul, ← iZ_nI]; exact congrArg iZ (by omega)
  have e2 : nI (3 * j) + (2 : Int32) = nI (3 * j + 2) := by
    rw [show (2 : Int32) = iZ 2 from rfl, ← iZ_nI, iZ_add, ← iZ_nI]; exact congrArg iZ (by omega)
  rw [e, nI_1, e2]
  exact ⟨nI_clamp (by omega), nI_clamp (by omega), nI_clamp (by omega)⟩
theorem sp_at {n : Nat} {S : CS} {M : MS} {x : Int32} {j : Nat} (h : Rel n S M) (hx : x = nI j) (hj : j < (sC S).toNatClampNeg) : (f_S_firstBody_I S x = m_left M x.toNatClampNeg ∧ f_S_secondBody_I S x = m_right M x.toNatClampNeg ∧ vp_in (m_left M x.toNatClampNeg) 8 ∧ vp_in (m_right M x.toNatClampNeg) 8) ∧ f_S_stiffness_I S x = f_M_toDouble_J (m_k M x.toNatClampNeg) ∧ f_S_length_I S x = f_M_toDouble_J (m_l M x.toNatClampNeg) ∧ f_S_damping_I S x = f_M_toDouble_J (m_c M x.toNatClampNeg) := by
  obtain ⟨_, _, _, ⟨_, hc, hs⟩, _⟩ := h
  have hb := in_n hc
  obtain ⟨⟨b1, b2, b3, b4⟩, ⟨n1, n2, n3⟩, _⟩ := hs j hj
  have c : x.toNatClampNeg = j := by rw [hx]; exact nI_clamp (by omega)
  obtain ⟨i1, i2⟩ := ix_two (j := j) (by omega)
  obtain ⟨i3, i4, i5⟩ := ix_three (j := j) (by omega)
  unfold f_S_firstBody_I f_S_secondBody_I f_S_stiffness_I f_S_length_I f_S_damping_I
  rw [c, hx, i1, i2, i3, i4, i5]
  exact ⟨⟨b1, b2, b3, b4⟩, n1, n2, n3⟩

