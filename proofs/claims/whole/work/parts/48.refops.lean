/-! OUR OWN ROWS: the reference's operations are the specification's -/
theorem m_117 {f a b : Nat} (h : f < 2) (ha : a < 2 * fW f) (hb : b < 2 * fW f) (fa : a % fW f < fI f) (fb : b % fW f < fI f) :
    f_M_add_JJI_117 (lN a) (lN b) (nI f) = lN (if a / fW f = b / fW f then a / fW f * fW f + enc (fP f) (fL f) (fI f) (val (fP f) (fL f) (a % fW f) + val (fP f) (fL f) (b % fW f))
      else if val (fP f) (fL f) (a % fW f) = val (fP f) (fL f) (b % fW f) then 0
      else if val (fP f) (fL f) (b % fW f) < val (fP f) (fL f) (a % fW f) then a / fW f * fW f + enc (fP f) (fL f) (fI f) (val (fP f) (fL f) (a % fW f) - val (fP f) (fL f) (b % fW f))
      else b / fW f * fW f + enc (fP f) (fL f) (fI f) (val (fP f) (fL f) (b % fW f) - val (fP f) (fL f) (a % fW f))) := by
  have a64 := m_ok h ha
  have b64 := m_ok h hb
  have ka := m_sh h fa
  have kb := m_sh h fb
  unfold f_M_add_JJI_117
  rw [m_power h a64, m_power h b64]
  have c := iZ_lt (a := (vexp (fP f) (fL f) (a % fW f) : Int) - 3000) (b := (vexp (fP f) (fL f) (b % fW f) : Int) - 3000) (by omega) (by omega) (by omega) (by omega)
  by_cases g : vexp (fP f) (fL f) (a % fW f) < vexp (fP f) (fL f) (b % fW f)
  · rw [if_pos (c.mpr (by omega))]
    have e : f_M_add_JJI_137 (lN a) (lN b) (nI f) (0 : Int32) = f_M_add_JJI_161 (nI f) (lN b) (lN a) := by
      unfold f_M_add_JJI_137 f_M_add_JJI_149; rw [if_pos rfl, if_pos rfl]
    rw [e, m_161 h hb ha fb fa (Nat.le_of_lt g)]
    refine congrArg lN ?_
    generalize val (fP f) (fL f) (a % fW f) = A
    generalize val (fP f) (fL f) (b % fW f) = B
    by_cases hs : a / fW f = b / fW f
    · rw [if_pos hs.symm, if_pos hs, hs, Nat.add_comm A B]
    · rw [if_neg (fun q => hs q.symm), if_neg hs]
      rcases Nat.lt_trichotomy A B with q | q | q
      · rw [if_neg (Nat.ne_of_gt q), if_pos q, if_neg (Nat.ne_of_lt q), if_neg (Nat.not_lt.mpr (Nat.le_of_lt q))]
      · rw [if_pos q.symm, if_pos q]
      · rw [if_neg (Nat.ne_of_lt q), if_neg (Nat.not_lt.mpr (Nat.le_of_lt q)), if_neg (Nat.ne_of_gt q), if_pos q]
  · rw [if_neg (fun q => g (by have := c.mp q; omega))]
    have e : f_M_add_JJI_137 (lN a) (lN b) (nI f) (1 : Int32) = f_M_add_JJI_161 (nI f) (lN a) (lN b) := by
      unfold f_M_add_JJI_137 f_M_add_JJI_149; rw [if_neg (by decide), if_neg (by decide)]
    rw [e, m_161 h ha hb fa fb (Nat.not_lt.mp g)]
theorem m_add {f a b : Nat} (h : f < 2) (ha : a < 2 * fW f) (hb : b < 2 * fW f) : f_M_add_JJI (lN a) (lN b) (nI f) = lN (addF (fP f) (fL f) (fI f) (fN f) (fW f) a b) := by
  have hn := f_num h
  have a64 := m_ok h ha
  have b64 := m_ok h hb
  have na := y_isNo h a64
  have nb := y_isNo h b64
  have ia := y_isInf h a64
  have ib := y_isInf h b64
  have za := y_isZero h a64
  have zb := y_isZero h b64
  have ce := c_eq a64 b64
  have sa := m_slt ha
  have sb := m_slt hb
  have e72a : a % fW f = fI f → f_M_add_JJI_72 (lN a) (lN b) (nI f) = lN a := fun q => by unfold f_M_add_JJI_72; exact if_neg (fun w => ia.mp w q)
  have e72b : ¬ a % fW f = fI f → f_M_add_JJI_72 (lN a) (lN b) (nI f) = lN b := fun q => by unfold f_M_add_JJI_72; exact if_pos (ia.mpr q)
  by_cases h1 : fI f < a % fW f
  · have e1 : f_M_add_JJI (lN a) (lN b) (nI f) = lN (fN f) := by
      unfold f_M_add_JJI; rw [if_neg (fun q => na.mp q h1), m_none h]
    have e2 : addF (fP f) (fL f) (fI f) (fN f) (fW f) a b = fN f := if_pos (Or.inl h1)
    rw [e1, e2]
  by_cases h2 : fI f < b % fW f
  · have e1 : f_M_add_JJI (lN a) (lN b) (nI f) = lN (fN f) := by
      unfold f_M_add_JJI; rw [if_pos (na.mpr h1), if_neg (fun q => nb.mp q h2), m_none h]
    have e2 : addF (fP f) (fL f) (fI f) (fN f) (fW f) a b = fN f := if_pos (Or.inr h2)
    rw [e1, e2]
  have hn1 : ¬ (fI f < a % fW f ∨ fI f < b % fW f) := fun q => q.elim h1 h2
  unfold addF
  rw [if_neg hn1]
  unfold f_M_add_JJI
  rw [if_pos (na.mpr h1), if_pos (nb.mpr h2)]
  by_cases h3 : a % fW f = fI f
  · rw [if_neg (fun q => ia.mp q h3), if_pos (show a % fW f = fI f ∨ b % fW f = fI f from Or.inl h3)]
    unfold f_M_add_JJI_42
    rw [if_neg (fun q => ia.mp q h3), e72a h3]
    by_cases h4 : b % fW f = fI f
    · rw [if_neg (fun q => ib.mp q h4)]
      by_cases h5 : a = b
      · rw [if_pos (ce.mpr h5), if_neg (fun q => q.2.2 h5), if_pos h3]
      · rw [if_neg (fun q => h5 (ce.mp q)), if_pos ⟨h3, h4, h5⟩, m_none h]
    · rw [if_pos (ib.mpr h4), if_neg (fun q => h4 q.2.1), if_pos h3]
  rw [if_pos (ia.mpr h3)]
  by_cases h4 : b % fW f = fI f
  · rw [if_neg (fun q => ib.mp q h4), if_pos (show a % fW f = fI f ∨ b % fW f = fI f from Or.inr h4), if_neg (show ¬ (a % fW f = fI f ∧ b % fW f = fI f ∧ a ≠ b) from fun q => h3 q.1), if_neg h3]
    unfold f_M_add_JJI_42
    rw [if_pos (ia.mpr h3), e72b h3]
  rw [if_pos (ib.mpr h4), if_neg (show ¬ (a % fW f = fI f ∨ b % fW f = fI f) from fun q => q.elim h3 h4)]
  have fa : a % fW f < fI f := by omega
  have fb : b % fW f < fI f := by omega
  have m7 := m_117 h ha hb fa fb
  by_cases h5 : a % fW f = 0
  · rw [if_neg (fun q => za.mp q h5)]
    by_cases h6 : b % fW f = 0
    · rw [if_neg (fun q => zb.mp q h6), h5, h6, val_zero]
      have da := Nat.div_add_mod a (fW f)
      have db := Nat.div_add_mod b (fW f)
      rw [h5, Nat.add_zero, Nat.mul_comm] at da
      rw [h6, Nat.add_zero, Nat.mul_comm] at db
      by_cases h7 : a = b
      · rw [if_pos (ce.mpr h7), if_pos (by rw [h7]), Nat.add_zero, enc_zero _ _ _ hn.2.1, Nat.add_zero, da]
      · rw [if_neg (fun q => h7 (ce.mp q)), if_neg (fun q => h7 (by rw [← da, ← db, q])), if_pos rfl, k_zero]
    · rw [if_pos (zb.mpr h6), m7]
  · rw [if_pos (za.mpr h5), m7]
-- changed
theorem m_exact {f s m k : Nat} (h : f < 2) (hs : s < 2) (hm : m < 2 ^ 63) (hk : k < 100000) : f_M_exact_ZJII (nI s) (lN m) (iZ ((k : Int) - 3000)) (nI f) = lN (s * fW f + enc (fP f) (fL f) (fI f) (m * 2 ^ k)) := (m_rounded h hs hm hk).1
theorem m_changed {f g a : Nat} (h : f < 2) (hg : g < 2) (ha : a < 2 * fW f) : f_M_changed_JII (lN a) (nI f) (nI g) = lN (if fI f < a % fW f then fN g else if a % fW f = fI f then a / fW f * fW g + fI g else a / fW f * fW g + enc (fP g) (fL g) (fI g) (val (fP f) (fL f) (a % fW f))) := by
  have hn := f_num h
  have a64 := m_ok h ha
  have na := y_isNo h a64
  have ia := y_isInf h a64
  have sa := m_slt ha
  unfold f_M_changed_JII
  by_cases h1 : fI f < a % fW f
  · rw [if_neg (fun q => na.mp q h1), if_pos h1, m_none hg]
  rw [if_pos (na.mpr h1), if_neg h1]
  by_cases h3 : a % fW f = fI f
  · rw [if_neg (fun q => ia.mp q h3), if_pos h3, m_inf hg, m_minus h ha, m_signed hg sa (f_num hg).2.2.2.2.2.1]
  rw [if_pos (ia.mpr h3), if_neg h3, m_minus h ha, m_whole h a64, m_power h a64]
  have fa : a % fW f < fI f := by omega
  have k1 := m_sh h fa
  have s1 := vsig_lt (p := fP f) (b := a % fW f) hn.2.1
  have hp53 : 2 ^ fP f ≤ 2 ^ 53 := Nat.pow_le_pow_right (by decide) hn.2.2.1
  exact m_exact hg sa (Nat.lt_of_lt_of_le s1 (Nat.le_trans hp53 (by decide))) (by omega)
theorem m_toFloat {a : Nat} (ha : a < 2 ^ 64) : f_M_toFloat_J (lN a) = lN (tF a) := m_changed (f := 0) (g := 1) (by decide) (by decide) ha
theorem m_toDouble {a : Nat} (ha : a < 2 ^ 32) : f_M_toDouble_J (lN a) = lN (tD a) := by
  have e : f_M_toDouble_J (lN a) = lN (if I32 < a % W32 then N64 else if a % W32 = I32 then a / W32 * W64 + I64 else a / W32 * W64 + enc 53 1926 I64 (val 24 2851 (a % W32))) := m_changed (f := 1) (g := 0) (by decide) (by decide) ha
  rw [e]
  refine congrArg lN ?_
  unfold tD
  by_cases h1 : I32 < a % W32
  · rw [if_pos h1, if_pos h1]
  rw [if_neg h1, if_neg h1]
  by_cases h2 : a % W32 = I32
  · rw [if_pos h2, h2, cvt_I]
  rw [if_neg h2]
  have h3 : a % W32 < I32 := by omega
  have h4 : cvt (a % W32) = rnd 53 1926 (val 24 2851 (a % W32)) := by unfold cvt; rw [if_pos h3]
  rw [h4, enc_of (rnd_fin (val_f_lt h3) (by decide))]
-- product
theorem m_moved {f c : Nat} (h : f < 2) (h0 : c ≠ 0) (hc : c < 2 ^ fP f) : f_M_moved_JI (lN c) (nI f) = nI (fP f - 1 - c.log2) := by
  have hn := f_num h
  have hl := (Nat.log2_lt h0).mpr hc
  have hp53 : 2 ^ fP f ≤ 2 ^ 53 := Nat.pow_le_pow_right (by decide) hn.2.2.1
  unfold f_M_moved_JI
  rw [z_clz h0 (by omega), m_tP h, show (64 : Int32) = iZ 64 from rfl, ← iZ_n, ← iZ_n, iZ_sub, iZ_add]
  exact congrArg iZ (by omega)
theorem m_nrm {f c : Nat} (h : f < 2) (h0 : c ≠ 0) (hc : c < 2 ^ fP f) : j_shl (lN c) (f_M_moved_JI (lN c) (nI f)) = lN (nrm (fP f) c) := by
  have hn := f_num h
  rw [m_moved h h0 hc, w_shl c (by omega)]
  rfl
theorem high54 {xh xl yh yl : Nat} : (xh * 2 ^ 27 + xl) * (yh * 2 ^ 27 + yl) = (xh * yh + (xh * yl + xl * yh) / 2 ^ 27 + (xl * yl + (xh * yl + xl * yh) % 2 ^ 27 * 2 ^ 27) / 2 ^ 54) * 2 ^ 54 + (xl * yl + (xh * yl + xl * yh) % 2 ^ 27 * 2 ^ 27) % 2 ^ 54 := by
  have e : (xh * 2 ^ 27 + xl) * (yh * 2 ^ 27 + yl) = xh * yh * 2 ^ 54 + (xh * yl + xl * yh) * 2 ^ 27 + xl * yl := by grind
  rw [e]
  have d1 := Nat.div_add_mod (xh * yl + xl * yh) (2 ^ 27)
  generalize xh * yh = A at *
  generalize xh * yl + xl * yh = B at *
  generalize xl * yl = C at *
  generalize B / 2 ^ 27 = D at *
  generalize B % 2 ^ 27 = F at *
  have d2 := Nat.div_add_mod (C + F * 2 ^ 27) (2 ^ 54)
  generalize (C + F * 2 ^ 27) / 2 ^ 54 = G at *
  generalize (C + F * 2 ^ 27) % 2 ^ 54 = H at *
  omega
/-- the digits of a product by halves -/
theorem m_halves {x y : Nat} (hx : x < 2 ^ 53) (hy : y < 2 ^ 53) (s : Int32) (e : Int32) (f : Int32) :
    (let v13 : Int64 := j_shr (lN x) (27 : Int32)
     let v14 : Int64 := lN x &&& (134217727 : Int64)
     let v15 : Int64 := j_shr (lN y) (27 : Int32)
     let v16 : Int64 := lN y &&& (134217727 : Int64)
     let v17 : Int64 := (v13 * v16) + (v14 * v15)
     let v18 : Int64 := (v14 * v16) + (j_shl (v17 &&& (134217727 : Int64)) (27 : Int32))
     let v19 : Int64 := ((v13 * v15) + (j_shr v17 (27 : Int32))) + (j_shr v18 (54 : Int32))
     let v20 : Int64 := v18 &&& (18014398509481983 : Int64)
     if (lg_cmp (v20 &&& (70368744177663 : Int64)) (0 : Int64)) = 0 then
       f_M_rounded_ZJIZI s ((j_shl v19 (8 : Int32)) ||| (j_shr v20 (46 : Int32))) e (0 : Int32) f
     else
       f_M_rounded_ZJIZI s ((j_shl v19 (8 : Int32)) ||| (j_shr v20 (46 : Int32))) e (1 : Int32) f) =
    if x * y % 2 ^ 46 = 0 then f_M_rounded_ZJIZI s (lN (x * y / 2 ^ 46)) e (0 : Int32) f else f_M_rounded_ZJIZI s (lN (x * y / 2 ^ 46)) e (1 : Int32) f := by
  obtain ⟨xh, xl, ex, hxl⟩ := q_mk x (D := 2 ^ 27) (by decide)
  obtain ⟨yh, yl, ey, hyl⟩ := q_mk y (D := 2 ^ 27) (by decide)
  have h3 : xh < 2 ^ 26 := by omega
  have h4 : yh < 2 ^ 26 := by omega
  have u1 : j_shr (lN x) (27 : Int32) = lN xh := by
    rw [show (27 : Int32) = nI 27 from rfl, w_shr (by omega) (by decide), (q_div ex hxl).1]
  have u2 : lN x &&& (134217727 : Int64) = lN xl := by
    have : lN x &&& (134217727 : Int64) = lN (x % 2 ^ 27) := wb_mask (k := 27) (by omega) (by decide)
    rw [this, (q_div ex hxl).2]
  have u3 : j_shr (lN y) (27 : Int32) = lN yh := by
    rw [show (27 : Int32) = nI 27 from rfl, w_shr (by omega) (by decide), (q_div ey hyl).1]
  have u4 : lN y &&& (134217727 : Int64) = lN yl := by
    have : lN y &&& (134217727 : Int64) = lN (y % 2 ^ 27) := wb_mask (k := 27) (by omega) (by decide)
    rw [this, (q_div ey hyl).2]
  have b1 : xl * yl < 2 ^ 54 := mul_lt hxl hyl
  have b2 : xh * yl < 2 ^ 53 := mul_lt h3 hyl
  have b3 : xl * yh < 2 ^ 53 := mul_lt hxl h4
  have b4 : xh * yh < 2 ^ 52 := mul_lt h3 h4
  have bm : xh * yl + xl * yh < 2 ^ 54 := by omega
  have hf := high54 (xh := xh) (xl := xl) (yh := yh) (yl := yl)
  have u5 : lN (xh * yl + xl * yh) &&& (134217727 : Int64) = lN ((xh * yl + xl * yh) % 2 ^ 27) := wb_mask (k := 27) (by omega) (by decide)
  have u6 : j_shl (lN ((xh * yl + xl * yh) % 2 ^ 27)) (27 : Int32) = lN ((xh * yl + xl * yh) % 2 ^ 27 * 2 ^ 27) := w_shl (k := 27) _ (by decide)
  have hm27 := Nat.mod_lt (xh * yl + xl * yh) (show 0 < 2 ^ 27 by decide)
  have u7 : j_shr (lN (xh * yl + xl * yh)) (27 : Int32) = lN ((xh * yl + xl * yh) / 2 ^ 27) := w_shr (k := 27) (by omega) (by decide)
  have bl : xl * yl + (xh * yl + xl * yh) % 2 ^ 27 * 2 ^ 27 < 2 ^ 55 := by omega
  have u8 : j_shr (lN (xl * yl + (xh * yl + xl * yh) % 2 ^ 27 * 2 ^ 27)) (54 : Int32) = lN ((xl * yl + (xh * yl + xl * yh) % 2 ^ 27 * 2 ^ 27) / 2 ^ 54) := w_shr (k := 54) (by omega) (by decide)
  have u9 : lN (xl * yl + (xh * yl + xl * yh) % 2 ^ 27 * 2 ^ 27) &&& (18014398509481983 : Int64) = lN ((xl * yl + (xh * yl + xl * yh) % 2 ^ 27 * 2 ^ 27) % 2 ^ 54) := wb_mask (k := 54) (by omega) (by decide)
  have hd27 : (xh * yl + xl * yh) / 2 ^ 27 < 2 ^ 27 := Nat.div_lt_of_lt_mul (by omega)
  have hd54 : (xl * yl + (xh * yl + xl * yh) % 2 ^ 27 * 2 ^ 27) / 2 ^ 54 < 2 := Nat.div_lt_of_lt_mul (by omega)
  have hm54 := Nat.mod_lt (xl * yl + (xh * yl + xl * yh) % 2 ^ 27 * 2 ^ 27) (show 0 < 2 ^ 54 by decide)
  simp only [u1, u2, u3, u4, lN_mul, lN_add, u5, u6, u7, u8, u9]
  rw [ex, ey]
  generalize hH : xh * yh + (xh * yl + xl * yh) / 2 ^ 27 + (xl * yl + (xh * yl + xl * yh) % 2 ^ 27 * 2 ^ 27) / 2 ^ 54 = Hi at hf
  have bH : Hi < 2 ^ 53 := by omega
  generalize (xl * yl + (xh * yl + xl * yh) % 2 ^ 27 * 2 ^ 27) % 2 ^ 54 = Lo at hf hm54
  rw [hf]
  have w1 : lN Lo &&& (70368744177663 : Int64) = lN (Lo % 2 ^ 46) := wb_mask (k := 46) (by omega) (by decide)
  have w2 : j_shl (lN Hi) (8 : Int32) = lN (Hi * 2 ^ 8) := w_shl (k := 8) _ (by decide)
  have w3 : j_shr (lN Lo) (46 : Int32) = lN (Lo / 2 ^ 46) := w_shr (k := 46) (by omega) (by decide)
  have l8 : Lo / 2 ^ 46 < 2 ^ 8 := Nat.div_lt_of_lt_mul (by omega)
  have l46 := Nat.mod_lt Lo (show 0 < 2 ^ 46 by decide)
  have w4 : lN (Hi * 2 ^ 8) ||| lN (Lo / 2 ^ 46) = lN (Hi * 2 ^ 8 + Lo / 2 ^ 46) := by
    rw [wb_or (by omega) (by omega), n_or l8]
  have dl := Nat.div_add_mod Lo (2 ^ 46)
  obtain ⟨d1, d2⟩ := q_div (V := Hi * 2 ^ 54 + Lo) (D := 2 ^ 46) (q := Hi * 2 ^ 8 + Lo / 2 ^ 46) (r := Lo % 2 ^ 46) (by omega) l46
  have cz : lg_cmp (lN (Lo % 2 ^ 46)) (0 : Int64) = 0 ↔ Lo % 2 ^ 46 = 0 := c_eq (b := 0) (by omega) (by decide)
  rw [w1, w2, w3, w4, d1, d2]
  by_cases g : Lo % 2 ^ 46 = 0
  · rw [if_pos (cz.mpr g), if_pos g]
  · rw [if_neg (fun q => g (cz.mp q)), if_neg g]
