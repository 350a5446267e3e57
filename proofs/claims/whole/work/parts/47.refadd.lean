/-! OUR OWN ROWS: the reference's sum is the specification's -/
theorem m_rV {f s m e t V : Nat} (h : f < 2) (hs : s < 2) (hm : m < 2 ^ 63) (he : e < 100000)
    (ht : (t = 0 ∧ V = m * 2 ^ e) ∨ (t = 1 ∧ 2 ^ fP f ≤ m ∧ 0 < e ∧ m * 2 ^ e < V ∧ V < (m + 1) * 2 ^ e)) :
    f_M_rounded_ZJIZI (nI s) (lN m) (iZ ((e : Int) - 3000)) (nI t) (nI f) = lN (s * fW f + enc (fP f) (fL f) (fI f) V) := by
  obtain ⟨r1, r2⟩ := m_rounded (k := e) h hs hm he
  rcases ht with ⟨t0, hV⟩ | ⟨t1, h1, h2, h3, h4⟩
  · subst t0; subst hV; exact r1
  · subst t1
    rw [enc_congr (rs_most h1 h2 h3 h4)]
    exact r2 h1 h2
theorem nI_e2 {a b : Nat} (ha : a < 2) (hb : b < 2) : nI a = nI b ↔ a = b := nI_eq (by omega) (by omega)
theorem m_314p {f x y A B t : Nat} {e : Int32} (h : f < 2) (hx : x < 2 * fW f) (hy : y < 2 * fW f) (hs : x / fW f = y / fW f) :
    f_M_add_JJI_314 (nI f) (lN x) (lN y) (lN A) (lN B) e (nI t) = f_M_rounded_ZJIZI (nI (x / fW f)) (lN (A + B)) e (nI t) (nI f) := by
  unfold f_M_add_JJI_314
  rw [m_minus h hx, m_minus h hy, if_pos (by rw [hs]), lN_add]
theorem m_314m {f x y A B t : Nat} {e : Int32} (h : f < 2) (hx : x < 2 * fW f) (hy : y < 2 * fW f) (hs : ¬ x / fW f = y / fW f) (hA : A < 2 ^ 63) (hB : B < 2 ^ 63) (ht : t < 2) (hAB : B + t ≤ A) (htz : t = 1 → B + t < A) :
    f_M_add_JJI_314 (nI f) (lN x) (lN y) (lN A) (lN B) e (nI t) = if A = B then (0 : Int64) else f_M_rounded_ZJIZI (nI (x / fW f)) (lN (A - B - t)) e (nI t) (nI f) := by
  have c : ∀ n : Nat, n < 2 ^ 63 → 0 ≤ lg_cmp (lN n) (0 : Int64) := fun n hn => (c_ge (b := 0) hn (by decide)).mpr (Nat.zero_le _)
  have hc : lg_cmp (lN (A - B - t)) (0 : Int64) = 0 ↔ A - B - t = 0 := c_eq (b := 0) (by omega) (by decide)
  have e386 : f_M_add_JJI_386 (nI f) (lN x) (lN y) e (nI t) (lN (A - B - t)) = f_M_rounded_ZJIZI (nI (x / fW f)) (lN (A - B - t)) e (nI t) (nI f) := by
    unfold f_M_add_JJI_386
    rw [if_pos (c _ (by omega)), m_minus h hx]
  unfold f_M_add_JJI_314
  rw [m_minus h hx, m_minus h hy, if_neg (fun q => hs ((nI_e2 (m_slt hx) (m_slt hy)).mp q))]
  rcases f2 ht with t0 | t1
  · subst t0
    rw [if_pos (show nI 0 = (0 : Int32) from rfl)]
    unfold f_M_add_JJI_368
    have e0 : lN A - lN B - (0 : Int32).toInt64 = lN (A - B - 0) := by
      rw [lN_sub (by omega), show (0 : Int32).toInt64 = lN 0 from rfl, lN_sub (by omega)]
    simp only [e0]
    by_cases g : A = B
    · rw [if_pos g, if_pos (hc.mpr (by omega)), if_pos (show nI 0 = (0 : Int32) from rfl)]
    · rw [if_neg g, if_neg (fun q => g (by have := hc.mp q; omega))]
      exact e386
  · subst t1
    rw [if_neg (show ¬ nI 1 = (0 : Int32) by decide)]
    unfold f_M_add_JJI_368
    have e0 : lN A - lN B - (1 : Int32).toInt64 = lN (A - B - 1) := by
      rw [lN_sub (by omega), show (1 : Int32).toInt64 = lN 1 from rfl, lN_sub (by omega)]
    simp only [e0]
    rw [if_neg (fun q => by have := hc.mp q; have := htz rfl; omega), if_neg (show ¬ A = B by omega)]
    exact e386
theorem m_314n {f x y A B : Nat} {e : Int32} (h : f < 2) (hx : x < 2 * fW f) (hy : y < 2 * fW f) (hs : ¬ x / fW f = y / fW f) (hA : A < 2 ^ 62) (hB : B < 2 ^ 62) (hAB : A < B) :
    f_M_add_JJI_314 (nI f) (lN x) (lN y) (lN A) (lN B) e (nI 0) = f_M_rounded_ZJIZI (nI (y / fW f)) (lN (B - A)) e (0 : Int32) (nI f) := by
  have e0 : lN A - lN B = lN (2 ^ 64 - (B - A)) := by
    have e1 : -lN (B - A) = lN (2 ^ 64 - (B - A)) := w_neg (by omega) (by omega)
    rw [← e1, ← lN_sub (Nat.le_of_lt hAB), Int64.neg_sub]
  have e1 : -lN (2 ^ 64 - (B - A)) = lN (B - A) := by
    rw [w_neg (by omega) (by omega)]
    exact congrArg lN (by omega)
  have c1 : ¬ lg_cmp (lN (2 ^ 64 - (B - A))) (0 : Int64) = 0 := by
    rw [k_zero, c_eq (by omega) (by decide)]; omega
  have c2 : ¬ 0 ≤ lg_cmp (lN (2 ^ 64 - (B - A))) (0 : Int64) := by
    rw [lg_cmp_ge]
    have h1 := (l_neg (a := 2 ^ 64 - (B - A)) (by omega)).mpr (by omega)
    rw [Int64.lt_iff_toInt_lt] at h1
    rw [Int64.le_iff_toInt_le]
    omega
  unfold f_M_add_JJI_314
  rw [m_minus h hx, m_minus h hy, if_neg (fun q => hs ((nI_e2 (m_slt hx) (m_slt hy)).mp q)), if_pos (show nI 0 = (0 : Int32) from rfl)]
  unfold f_M_add_JJI_368
  have e2 : lN A - lN B - (0 : Int32).toInt64 = lN (2 ^ 64 - (B - A)) := by
    rw [e0, show (0 : Int32).toInt64 = lN 0 from rfl, lN_sub (Nat.zero_le _), Nat.sub_zero]
  simp only [e2]
  rw [if_neg c1]
  unfold f_M_add_JJI_386
  rw [if_neg c2, m_minus h hy, e1]
theorem m_sh {f a : Nat} (h : f < 2) (hf : a % fW f < fI f) : vexp (fP f) (fL f) (a % fW f) ≤ 3971 := by
  rcases f2 h with e | e
  · subst e; exact vexp_f64 hf
  · subst e
    have := vexp_f (m := a % fW 1) hf
    exact Nat.le_trans this (by decide)
set_option maxRecDepth 100000 in
theorem m_far {f x y X Y K k q r b t : Nat} (h : f < 2) (hx : x < 2 * fW f) (hy : y < 2 * fW f) (ssx : x / fW f < 2) (bK : K - 9 < 100000) (bK2 : 9 < K) (hX : 2 ^ (fP f - 1) ≤ X) (hP0 : 0 < fP f) (sx : X < 2 ^ fP f) (sy : Y < 2 ^ fP f) (hp53 : 2 ^ fP f ≤ 2 ^ 53)
    (eq : Y = q * 2 ^ b + r) (hr : r < 2 ^ b) (hq2 : 2 * q ≤ Y) (hby : b = K - k - 9) (hle : k ≤ K) (g9 : 9 < K - k) (ht : t = if r = 0 then 0 else 1) :
    f_M_add_JJI_314 (nI f) (lN x) (lN y) (lN (X * 512)) (lN q) (iZ (((K - 9 : Nat) : Int) - 3000)) (nI t) = lN (if x / fW f = y / fW f then x / fW f * fW f + enc (fP f) (fL f) (fI f) (X * 2 ^ K + Y * 2 ^ k)
      else if X * 2 ^ K = Y * 2 ^ k then 0
      else if Y * 2 ^ k < X * 2 ^ K then x / fW f * fW f + enc (fP f) (fL f) (fI f) (X * 2 ^ K - Y * 2 ^ k)
      else y / fW f * fW f + enc (fP f) (fL f) (fI f) (Y * 2 ^ k - X * 2 ^ K)) := by
  have ht2 : t < 2 := by rw [ht]; split <;> decide
  have hPh : 2 ^ fP f = 2 * 2 ^ (fP f - 1) := q_half hP0
  have hpp := q_pos (fP f - 1)
  have hXb : X * 512 < 2 ^ 62 := by omega
  have hXl : 2 ^ fP f * 256 ≤ X * 512 := by omega
  have hqs : q * 2 ≤ 2 ^ fP f := by omega
  have q53 : q ≤ 2 ^ 53 := by omega
  have bm : X * 512 + q < 2 ^ 63 := Nat.lt_of_lt_of_le (Nat.add_lt_add_of_lt_of_le hXb q53) (by decide)
  have qX : q + 1 < X * 512 := by omega
  have qX2 : 2 ^ fP f ≤ X * 512 - q - 1 := by omega
  have qX3 : 2 ^ fP f ≤ X * 512 + q := by omega
  have bE : 0 < K - 9 := by omega
  clear hPh hpp hXl hqs sx hX
  have eK : 2 ^ K = 512 * 2 ^ (K - 9) := q_pm (a := 9) (by omega)
  have ek : 2 ^ (K - 9) = 2 ^ b * 2 ^ k := q_pm (by omega)
  have XV : X * 2 ^ K = X * 512 * 2 ^ (K - 9) := by rw [eK, Nat.mul_assoc]
  have YV : Y * 2 ^ k = q * 2 ^ (K - 9) + r * 2 ^ k := by rw [ek, eq, Nat.add_mul, Nat.mul_assoc]
  have hr2 : r * 2 ^ k < 2 ^ (K - 9) := by rw [ek]; exact Nat.mul_lt_mul_of_pos_right hr (q_pos k)
  have hrz : r ≠ 0 → 0 < r * 2 ^ k := fun w => Nat.mul_pos (Nat.pos_of_ne_zero w) (q_pos k)
  rw [XV, YV]
  have key : ∀ s m, s < 2 → m < 2 ^ 63 → ∀ V, ((t = 0 ∧ V = m * 2 ^ (K - 9)) ∨ (t = 1 ∧ 2 ^ fP f ≤ m ∧ 0 < K - 9 ∧ m * 2 ^ (K - 9) < V ∧ V < (m + 1) * 2 ^ (K - 9))) → f_M_rounded_ZJIZI (nI s) (lN m) (iZ (((K - 9 : Nat) : Int) - 3000)) (nI t) (nI f) = lN (s * fW f + enc (fP f) (fL f) (fI f) V) := fun s m h1 h2 V h3 => m_rV h h1 h2 bK h3
  have z0 : r = 0 → r * 2 ^ k = 0 := fun w => by rw [w, Nat.zero_mul]
  clear eK ek XV YV sy hp53 eq hr hq2 hby hle g9 bK bK2
  generalize 2 ^ (K - 9) = E at hr2 key ⊢
  generalize r * 2 ^ k = R at hr2 hrz z0 ⊢
  by_cases hs : x / fW f = y / fW f
  · rw [if_pos hs, m_314p h hx hy hs]
    refine key _ _ ssx bm _ ?_
    by_cases r0 : r = 0
    · left
      rw [ht, if_pos r0, z0 r0, Nat.add_zero, Nat.add_mul]; exact ⟨rfl, rfl⟩
    · right
      have := hrz r0
      rw [ht, if_neg r0, Nat.add_mul, Nat.add_mul (X * 512 + q), Nat.add_mul, Nat.one_mul]
      exact ⟨rfl, qX3, bE, by omega, by omega⟩
  · have YX : q * E + R < X * 512 * E := by
      have : (q + 1) * E ≤ X * 512 * E := Nat.mul_le_mul_right _ (Nat.le_of_lt qX)
      rw [Nat.add_mul, Nat.one_mul] at this
      omega
    rw [if_neg hs, m_314m h hx hy hs (Nat.lt_trans hXb (by decide)) (Nat.lt_of_le_of_lt q53 (by decide)) ht2 (by omega) (fun w => by omega), if_neg (show ¬ X * 512 = q by omega)]
    rw [if_neg (show ¬ X * 512 * E = q * E + R from fun w => by omega), if_pos YX]
    refine key _ _ ssx (Nat.lt_of_le_of_lt (Nat.le_trans (Nat.sub_le _ _) (Nat.sub_le _ _)) (Nat.lt_trans hXb (by decide))) _ ?_
    have w0 : (X * 512 - q) * E = X * 512 * E - q * E := Nat.sub_mul _ _ _
    by_cases r0 : r = 0
    · left
      have t0 : t = 0 := by rw [ht, if_pos r0]
      rw [t0, z0 r0, Nat.add_zero, Nat.sub_zero, Nat.sub_mul]; exact ⟨rfl, rfl⟩
    · right
      have r1 := hrz r0
      have t1 : t = 1 := by rw [ht, if_neg r0]
      have w1 : (X * 512 - q - 1 + 1) * E = X * 512 * E - q * E := by
        have : X * 512 - q - 1 + 1 = X * 512 - q := by omega
        rw [this, Nat.sub_mul]
      have w2 : (X * 512 - q - 1) * E + E = (X * 512 - q - 1 + 1) * E := by rw [Nat.add_mul, Nat.one_mul]
      rw [t1]
      exact ⟨rfl, qX2, bE, by omega, by omega⟩
theorem m_join {f x y A Y q r b t : Nat} {e : Int32} (hb : b < 2 ^ 31) (hY : Y < 2 ^ 60) (eq : Y = q * 2 ^ b + r) (hr : r < 2 ^ b) (ht : t = if r = 0 then 0 else 1) :
    (if nI b ≤ (62 : Int32) then
        if lg_cmp (lN Y &&& (j_shl (1 : Int64) (nI b) - (1 : Int64))) (0 : Int64) = 0 then
          f_M_add_JJI_294 (nI f) (lN x) (lN y) (lN A) (lN Y) e (nI b) (0 : Int32)
        else f_M_add_JJI_294 (nI f) (lN x) (lN y) (lN A) (lN Y) e (nI b) (1 : Int32)
      else if lg_cmp (lN Y) (0 : Int64) = 0 then
          f_M_add_JJI_294 (nI f) (lN x) (lN y) (lN A) (lN Y) e (nI b) (0 : Int32)
        else f_M_add_JJI_294 (nI f) (lN x) (lN y) (lN A) (lN Y) e (nI b) (1 : Int32)) =
        f_M_add_JJI_314 (nI f) (lN x) (lN y) (lN A) (lN q) e (nI t) := by
  obtain ⟨dq, dr⟩ := q_div eq hr
  have c62 : nI b ≤ (62 : Int32) ↔ b ≤ 62 := nI_leI (b := 62) hb (by decide)
  have hrY : r ≤ Y := by rw [← dr]; exact Nat.mod_le _ _
  by_cases g : b ≤ 62
  · have u1 : lN Y &&& (j_shl (1 : Int64) (nI b) - (1 : Int64)) = lN r := by rw [l_msk (by omega), wb_mask (by omega) (by omega), dr]
    have u2 : j_shr (lN Y) (nI b) = lN q := by rw [w_shr (by omega) (by omega), dq]
    have cr : lg_cmp (lN r) (0 : Int64) = 0 ↔ r = 0 := c_eq (b := 0) (by omega) (by decide)
    have e9 : ∀ z : Int32, f_M_add_JJI_294 (nI f) (lN x) (lN y) (lN A) (lN Y) e (nI b) z = f_M_add_JJI_314 (nI f) (lN x) (lN y) (lN A) (lN q) e z := by
      intro z
      unfold f_M_add_JJI_294
      rw [if_pos (c62.mpr g), u2]
      rfl
    rw [if_pos (c62.mpr g), u1, e9, e9]
    by_cases r0 : r = 0
    · have t0 : t = 0 := by rw [ht, if_pos r0]
      rw [if_pos (cr.mpr r0), t0]
      rfl
    · have t0 : t = 1 := by rw [ht, if_neg r0]
      rw [if_neg (fun w => r0 (cr.mp w)), t0]
      rfl
  · have hbig : 2 ^ 63 ≤ 2 ^ b := Nat.pow_le_pow_right (by decide) (by omega)
    have q0 : q = 0 := by rw [← dq]; exact Nat.div_eq_of_lt (by omega)
    have rY : r = Y := by rw [← dr]; exact Nat.mod_eq_of_lt (by omega)
    have cY : lg_cmp (lN Y) (0 : Int64) = 0 ↔ Y = 0 := c_eq (b := 0) (by omega) (by decide)
    have e9 : ∀ z : Int32, f_M_add_JJI_294 (nI f) (lN x) (lN y) (lN A) (lN Y) e (nI b) z = f_M_add_JJI_314 (nI f) (lN x) (lN y) (lN A) (lN q) e z := by
      intro z
      unfold f_M_add_JJI_294
      rw [if_neg (fun w => g (c62.mp w)), q0]
      rfl
    rw [if_neg (fun w => g (c62.mp w)), e9, e9]
    by_cases r0 : Y = 0
    · have t0 : t = 0 := by rw [ht, if_pos (rY.trans r0)]
      rw [if_pos (cY.mpr r0), t0]
      rfl
    · have t0 : t = 1 := by rw [ht, if_neg (fun w => r0 (rY.symm.trans w))]
      rw [if_neg (fun w => r0 (cY.mp w)), t0]
      rfl
theorem m_close {f x y X Y K k : Nat} (h : f < 2) (hx : x < 2 * fW f) (hy : y < 2 * fW f) (ssx : x / fW f < 2) (ssy : y / fW f < 2) (sx : X < 2 ^ fP f) (sy : Y < 2 ^ fP f) (hp53 : 2 ^ fP f ≤ 2 ^ 53) (ky : k ≤ 3971) (hle : k ≤ K) (g9 : K - k ≤ 9) :
    f_M_add_JJI_314 (nI f) (lN x) (lN y) (lN (X * 2 ^ (K - k))) (lN Y) (iZ ((k : Int) - 3000)) (0 : Int32) = lN (if x / fW f = y / fW f then x / fW f * fW f + enc (fP f) (fL f) (fI f) (X * 2 ^ K + Y * 2 ^ k)
      else if X * 2 ^ K = Y * 2 ^ k then 0
      else if Y * 2 ^ k < X * 2 ^ K then x / fW f * fW f + enc (fP f) (fL f) (fI f) (X * 2 ^ K - Y * 2 ^ k)
      else y / fW f * fW f + enc (fP f) (fL f) (fI f) (Y * 2 ^ k - X * 2 ^ K)) := by
  have p9 : 2 ^ (K - k) ≤ 2 ^ 9 := Nat.pow_le_pow_right (by decide) g9
  have hA : X * 2 ^ (K - k) < 2 ^ 62 := by
    have := Nat.mul_le_mul_left X p9
    omega
  have hB : Y < 2 ^ 62 := by omega
  have XV : X * 2 ^ K = X * 2 ^ (K - k) * 2 ^ k := by rw [q_pw hle, Nat.mul_assoc]
  have hE := q_pos k
  have hk : k < 100000 := by omega
  have z : (0 : Int32) = nI 0 := rfl
  rw [XV, z]
  clear XV p9 sx sy hp53 ky hle g9 z
  generalize X * 2 ^ (K - k) = A at hA ⊢
  have hA3 : A < 2 ^ 63 := Nat.lt_trans hA (by decide)
  have hB3 : Y < 2 ^ 63 := Nat.lt_trans hB (by decide)
  by_cases hs : x / fW f = y / fW f
  · have e1 := m_314p (t := 0) (e := iZ ((k : Int) - 3000)) (A := A) (B := Y) h hx hy hs
    rw [if_pos hs, e1]
    exact m_rV h ssx (by omega) hk (Or.inl ⟨rfl, by rw [Nat.add_mul]⟩)
  · rw [if_neg hs]
    rcases Nat.lt_trichotomy A Y with c | c | c
    · have v1 : A * 2 ^ k < Y * 2 ^ k := Nat.mul_lt_mul_of_pos_right c hE
      have e1 := m_314n (e := iZ ((k : Int) - 3000)) h hx hy hs hA hB c
      rw [e1, if_neg (Nat.ne_of_lt v1), if_neg (Nat.not_lt.mpr (Nat.le_of_lt v1))]
      exact m_rV (t := 0) h ssy (Nat.lt_of_le_of_lt (Nat.sub_le _ _) hB3) hk (Or.inl ⟨rfl, by rw [Nat.sub_mul]⟩)
    · have e1 := m_314m (t := 0) (e := iZ ((k : Int) - 3000)) (A := A) (B := Y) h hx hy hs hA3 hB3 (by decide) (by omega) (fun w => absurd w (by decide))
      rw [e1, if_pos c, c, if_pos rfl]
      exact k_zero
    · have v1 : Y * 2 ^ k < A * 2 ^ k := Nat.mul_lt_mul_of_pos_right c hE
      have e1 := m_314m (t := 0) (e := iZ ((k : Int) - 3000)) (A := A) (B := Y) h hx hy hs hA3 hB3 (by decide) (by omega) (fun w => absurd w (by decide))
      rw [e1, if_neg (Nat.ne_of_gt c), if_neg (Nat.ne_of_gt v1), if_pos v1]
      exact m_rV (t := 0) h ssx (Nat.lt_of_le_of_lt (Nat.le_trans (Nat.sub_le _ _) (Nat.sub_le _ _)) hA3) hk (Or.inl ⟨rfl, by rw [Nat.sub_zero, Nat.sub_mul]⟩)
set_option maxRecDepth 100000 in
theorem m_161 {f x y : Nat} (h : f < 2) (hx : x < 2 * fW f) (hy : y < 2 * fW f) (fx : x % fW f < fI f) (fy : y % fW f < fI f) (hle : vexp (fP f) (fL f) (y % fW f) ≤ vexp (fP f) (fL f) (x % fW f)) :
    f_M_add_JJI_161 (nI f) (lN x) (lN y) = lN (if x / fW f = y / fW f then x / fW f * fW f + enc (fP f) (fL f) (fI f) (val (fP f) (fL f) (x % fW f) + val (fP f) (fL f) (y % fW f))
      else if val (fP f) (fL f) (x % fW f) = val (fP f) (fL f) (y % fW f) then 0
      else if val (fP f) (fL f) (y % fW f) < val (fP f) (fL f) (x % fW f) then x / fW f * fW f + enc (fP f) (fL f) (fI f) (val (fP f) (fL f) (x % fW f) - val (fP f) (fL f) (y % fW f))
      else y / fW f * fW f + enc (fP f) (fL f) (fI f) (val (fP f) (fL f) (y % fW f) - val (fP f) (fL f) (x % fW f))) := by
  have hn := f_num h
  have x64 := m_ok h hx
  have y64 := m_ok h hy
  have sx := vsig_lt (p := fP f) (b := x % fW f) hn.2.1
  have sy := vsig_lt (p := fP f) (b := y % fW f) hn.2.1
  have kx := m_sh h fx
  have ky := m_sh h fy
  have lx := vexp_ge (fP f) (fL f) (x % fW f)
  have ly := vexp_ge (fP f) (fL f) (y % fW f)
  have hnx := vsig_norm (p := fP f) (L := fL f) (b := x % fW f)
  have hp53 : 2 ^ fP f ≤ 2 ^ 53 := Nat.pow_le_pow_right (by decide) hn.2.2.1
  have ssx := m_slt hx
  have ssy := m_slt hy
  have vx : val (fP f) (fL f) (x % fW f) = vsig (fP f) (x % fW f) * 2 ^ vexp (fP f) (fL f) (x % fW f) := rfl
  have vy : val (fP f) (fL f) (y % fW f) = vsig (fP f) (y % fW f) * 2 ^ vexp (fP f) (fL f) (y % fW f) := rfl
  rw [vx, vy]
  unfold f_M_add_JJI_161
  rw [m_power h x64, m_power h y64, m_whole h x64, m_whole h y64]
  generalize vsig (fP f) (x % fW f) = X at sx hnx
  generalize vsig (fP f) (y % fW f) = Y at sy
  generalize vexp (fP f) (fL f) (x % fW f) = K at kx lx hnx hle
  generalize vexp (fP f) (fL f) (y % fW f) = k at ky ly hle
  have e1 : iZ ((K : Int) - 3000) - iZ ((k : Int) - 3000) = nI (K - k) := by
    rw [iZ_sub, ← iZ_n]; exact congrArg iZ (by omega)
  simp only [e1]
  have c9 : (9 : Int32) < nI (K - k) ↔ 9 < K - k := nI_ltI (a := 9) (by decide) (by omega)
  have hK : 2 ^ K = 2 ^ (K - k) * 2 ^ k := q_pw hle
  by_cases g9 : 9 < K - k
  · -- far apart
    rw [if_pos (c9.mpr g9)]
    have hX : 2 ^ (fP f - 1) ≤ X := by omega
    have hPh : 2 ^ fP f = 2 * 2 ^ (fP f - 1) := q_half hn.2.1
    have b9 : nI (K - k) - (9 : Int32) = nI (K - k - 9) := by
      rw [show (9 : Int32) = iZ 9 from rfl, ← iZ_n, ← iZ_n, iZ_sub]; exact congrArg iZ (by omega)
    have e9 : iZ ((K : Int) - 3000) - (9 : Int32) = iZ (((K - 9 : Nat) : Int) - 3000) := by
      rw [show (9 : Int32) = iZ 9 from rfl, iZ_sub]; exact congrArg iZ (by omega)
    have s9 : j_shl (lN X) (9 : Int32) = lN (X * 512) := w_shl (k := 9) _ (by decide)
    simp only [b9, e9, s9]
    obtain ⟨by', hby⟩ : ∃ q, q = K - k - 9 := ⟨_, rfl⟩
    rw [← hby]
    have hb0 : 0 < by' := by omega
    have c62 : nI by' ≤ (62 : Int32) ↔ by' ≤ 62 := nI_leI (b := 62) (by omega) (by decide)
    -- what is kept of the smaller one, and whether there is more
    obtain ⟨q, r, eq, hr⟩ := q_mk Y (q_pos by')
    obtain ⟨dq, dr⟩ := q_div eq hr
    have hqY : q ≤ Y := by rw [← dq]; exact Nat.div_le_self _ _
    have hq2 : 2 * q ≤ Y := by
      have h1 : 2 ^ 1 ≤ 2 ^ by' := Nat.pow_le_pow_right (by decide) hb0
      have h2 := Nat.mul_le_mul_left q h1
      omega
    have hrY : r ≤ Y := by omega
    obtain ⟨t, ht⟩ : ∃ t, t = if r = 0 then 0 else 1 := ⟨_, rfl⟩
    have ht2 : t < 2 := by rw [ht]; split <;> decide
    have join := m_join (f := f) (x := x) (y := y) (A := X * 512) (e := iZ (((K - 9 : Nat) : Int) - 3000)) (b := by') (Y := Y) (q := q) (r := r) (t := t) (by omega) (by omega) eq hr ht
    rw [join]
    exact m_far h hx hy ssx (by omega) (by omega) hX hn.2.1 sx sy hp53 eq hr hq2 hby hle g9 ht
  · -- near
    rw [if_neg (fun w => g9 (c9.mp w))]
    have s1 : j_shl (lN X) (nI (K - k)) = lN (X * 2 ^ (K - k)) := w_shl _ (by omega)
    simp only [s1]
    exact m_close h hx hy ssx ssy sx sy hp53 ky hle (by omega)
