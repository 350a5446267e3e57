/-! OUR OWN ROWS: every call answers alike and keeps the relation -/
theorem b_body (x : Int32) : f_P_isBody_I x = f_M_in_II x (8 : Int32) := rfl
theorem b_store (x : Int32) : f_L_isStore_I x = f_M_in_II x (8 : Int32) := rfl
theorem b_num (x : Int32) : f_P_isBodyNumber_I x = f_M_in_II x (6 : Int32) := rfl
theorem b_fld (x : Int32) : f_P_isFieldNumber_I x = f_M_in_II x (6 : Int32) := rfl
theorem in_8 {x : Int32} (h : ¬ f_M_in_II x (8 : Int32) = 0) : vp_in x 8 := in_in h (by decide) (by decide)
theorem in_6 {x : Int32} (h : ¬ f_M_in_II x (6 : Int32) = 0) : vp_in x 6 := in_in h (by decide) (by decide)
theorem in_e {x : Int32} {n : Nat} (h : vp_in x n) : ∃ j : Nat, j < n ∧ x = nI j := by
  obtain ⟨a, b, d⟩ := in_to h
  refine ⟨x.toNatClampNeg, in_n h, ?_⟩
  rw [← iZ_nI, d, iZ_of]
theorem in_c6 {x : Int32} (h : vp_in x 6) : x = 0 ∨ x = 1 ∨ x = 2 ∨ x = 3 ∨ x = 4 ∨ x = 5 := by
  obtain ⟨j, hj, e⟩ := in_e h
  rw [e]
  match j, hj with
  | 0, _ => exact Or.inl rfl
  | 1, _ => exact Or.inr (Or.inl rfl)
  | 2, _ => exact Or.inr (Or.inr (Or.inl rfl))
  | 3, _ => exact Or.inr (Or.inr (Or.inr (Or.inl rfl)))
  | 4, _ => exact Or.inr (Or.inr (Or.inr (Or.inr (Or.inl rfl))))
  | 5, _ => exact Or.inr (Or.inr (Or.inr (Or.inr (Or.inr rfl))))
theorem in_cut {x : Int32} {b : Int32} (h : ¬ f_M_in_II x b = 0) : ¬ x < 0 ∧ ¬ b ≤ x := by
  unfold f_M_in_II at h
  by_cases h0 : x < 0
  · rw [if_pos h0] at h; exact absurd rfl h
  · rw [if_neg h0] at h
    by_cases h1 : b ≤ x
    · rw [if_pos h1] at h; exact absurd rfl h
    · exact ⟨h0, h1⟩
theorem in_out {x : Int32} {b : Int32} (h : f_M_in_II x b = 0) : x < 0 ∨ b ≤ x := by
  unfold f_M_in_II at h
  by_cases h0 : x < 0
  · exact Or.inl h0
  · rw [if_neg h0] at h
    by_cases h1 : b ≤ x
    · exact Or.inr h1
    · rw [if_neg h1] at h; exact absurd h (by decide)
-- body
theorem Z_set {S : CS} {M : MS} (h : Rel 0 S M) (x1 x2 : Int32) (x3 : Int64) : RelP (f_L_body_IIJ S x1 x2 x3) (f_M_body_IIJ M x1 x2 x3) := by
  unfold f_L_body_IIJ f_M_body_IIJ
  rw [b_body, b_num]
  by_cases c1 : f_M_in_II x1 (8 : Int32) = 0
  · rw [if_pos c1, if_pos c1]; exact ⟨rfl, h⟩
  rw [if_neg c1, if_neg c1]
  by_cases c2 : f_M_in_II x2 (6 : Int32) = 0
  · rw [if_pos c2, if_pos c2]; exact ⟨rfl, h⟩
  rw [if_neg c2, if_neg c2]
  have v1 := in_8 c1
  unfold f_P_setBodyNumber_IIJ
  rcases in_c6 (in_6 c2) with e | e | e | e | e | e <;> subst e
  · dsimp only
    simp only [if_neg (show ¬ (0 : Int32) * (8 : Int32) = (32 : Int32) by decide), if_neg (show ¬ (0 : Int32) * (8 : Int32) = (40 : Int32) by decide), if_pos (show (0 : Int32) = 0 from rfl)]
    exact ⟨rfl, set_x h (in_n v1) (show (((0 : Int32) * 8) + x1).toNatClampNeg = 0 + x1.toNatClampNeg from ix0 v1) (Q_told x3)⟩
  · dsimp only
    simp only [if_neg (show ¬ (1 : Int32) * (8 : Int32) = (32 : Int32) by decide), if_neg (show ¬ (1 : Int32) * (8 : Int32) = (40 : Int32) by decide), if_neg (show ¬ (1 : Int32) = 0 by decide), if_pos (show (1 : Int32) = 1 from rfl)]
    exact ⟨rfl, set_y h (in_n v1) (show (((1 : Int32) * 8) + x1).toNatClampNeg = 8 + x1.toNatClampNeg from ix8 v1) (Q_told x3)⟩
  · dsimp only
    simp only [if_neg (show ¬ (2 : Int32) * (8 : Int32) = (32 : Int32) by decide), if_neg (show ¬ (2 : Int32) * (8 : Int32) = (40 : Int32) by decide), if_neg (show ¬ (2 : Int32) = 0 by decide), if_neg (show ¬ (2 : Int32) = 1 by decide), if_pos (show (2 : Int32) = 2 from rfl)]
    exact ⟨rfl, set_u h (in_n v1) (show (((2 : Int32) * 8) + x1).toNatClampNeg = 16 + x1.toNatClampNeg from ix16 v1) (Q_told x3)⟩
  · dsimp only
    simp only [if_neg (show ¬ (3 : Int32) * (8 : Int32) = (32 : Int32) by decide), if_neg (show ¬ (3 : Int32) * (8 : Int32) = (40 : Int32) by decide), if_neg (show ¬ (3 : Int32) = 0 by decide), if_neg (show ¬ (3 : Int32) = 1 by decide), if_neg (show ¬ (3 : Int32) = 2 by decide), if_pos (show (3 : Int32) = 3 from rfl)]
    exact ⟨rfl, set_v h (in_n v1) (show (((3 : Int32) * 8) + x1).toNatClampNeg = 24 + x1.toNatClampNeg from ix24 v1) (Q_told x3)⟩
  · dsimp only
    simp only [if_pos (show (4 : Int32) * (8 : Int32) = (32 : Int32) by decide), if_neg (show ¬ (4 : Int32) = 0 by decide), if_neg (show ¬ (4 : Int32) = 1 by decide), if_neg (show ¬ (4 : Int32) = 2 by decide), if_neg (show ¬ (4 : Int32) = 3 by decide), if_pos (show (4 : Int32) = 4 from rfl)]
    exact ⟨rfl, set_m h (in_n v1) (show (((4 : Int32) * 8) + x1).toNatClampNeg = 32 + x1.toNatClampNeg from ix32 v1) (Q_toFloat x3) (F_of x3)⟩
  · dsimp only
    simp only [if_neg (show ¬ (5 : Int32) * (8 : Int32) = (32 : Int32) by decide), if_pos (show (5 : Int32) * (8 : Int32) = (40 : Int32) by decide), if_neg (show ¬ (5 : Int32) = 0 by decide), if_neg (show ¬ (5 : Int32) = 1 by decide), if_neg (show ¬ (5 : Int32) = 2 by decide), if_neg (show ¬ (5 : Int32) = 3 by decide), if_neg (show ¬ (5 : Int32) = 4 by decide)]
    exact ⟨rfl, set_r h (in_n v1) (show (((5 : Int32) * 8) + x1).toNatClampNeg = 40 + x1.toNatClampNeg from ix40 v1) (Q_toFloat x3) (F_of x3)⟩
-- field
theorem Z_fld {S : CS} {M : MS} (h : Rel 0 S M) (x1 : Int32) (x2 : Int64) : RelP (f_L_field_IJ S x1 x2) (f_M_field_IJ M x1 x2) := by
  unfold f_L_field_IJ f_M_field_IJ
  rw [b_fld]
  by_cases c1 : f_M_in_II x1 (6 : Int32) = 0
  · have o := in_out c1
    have ne : ∀ k : Nat, k < 6 → ¬ x1 = nI k := by
      intro k hk e
      rw [Int32.lt_iff_toInt_lt, Int32.le_iff_toInt_le, e, nI_toInt (by omega), show (0 : Int32).toInt = 0 from rfl, show (6 : Int32).toInt = 6 from rfl] at o
      omega
    rw [if_pos c1, if_neg (show ¬ x1 = (0 : Int32) from ne 0 (by decide)), if_neg (show ¬ x1 = (1 : Int32) from ne 1 (by decide)), if_neg (show ¬ x1 = (2 : Int32) from ne 2 (by decide)), if_neg (show ¬ x1 = (3 : Int32) from ne 3 (by decide)), if_neg (show ¬ x1 = (4 : Int32) from ne 4 (by decide)), if_neg (show ¬ x1 = (5 : Int32) from ne 5 (by decide))]
    exact ⟨rfl, h⟩
  rw [if_neg c1]
  unfold f_P_setFieldNumber_IJ
  rcases in_c6 (in_6 c1) with e | e | e | e | e | e <;> subst e
  · dsimp only
    simp only [if_neg (show ¬ (0 : Int32) = (3 : Int32) by decide), if_neg (show ¬ (0 : Int32) = (5 : Int32) by decide), if_pos (show (0 : Int32) = 0 from rfl)]
    exact ⟨rfl, set_gx h (Q_told x2)⟩
  · dsimp only
    simp only [if_neg (show ¬ (1 : Int32) = (3 : Int32) by decide), if_neg (show ¬ (1 : Int32) = (5 : Int32) by decide), if_neg (show ¬ (1 : Int32) = 0 by decide), if_pos (show (1 : Int32) = 1 from rfl)]
    exact ⟨rfl, set_gy h (Q_told x2)⟩
  · dsimp only
    simp only [if_neg (show ¬ (2 : Int32) = (3 : Int32) by decide), if_neg (show ¬ (2 : Int32) = (5 : Int32) by decide), if_neg (show ¬ (2 : Int32) = 0 by decide), if_neg (show ¬ (2 : Int32) = 1 by decide), if_pos (show (2 : Int32) = 2 from rfl)]
    exact ⟨rfl, set_drag h (Q_told x2)⟩
  · dsimp only
    simp only [if_pos (show (3 : Int32) = (3 : Int32) from rfl), if_neg (show ¬ (3 : Int32) = 0 by decide), if_neg (show ¬ (3 : Int32) = 1 by decide), if_neg (show ¬ (3 : Int32) = 2 by decide)]
    exact ⟨rfl, set_dt h (Q_toFloat x2) (F_of x2)⟩
  · dsimp only
    simp only [if_neg (show ¬ (4 : Int32) = (3 : Int32) by decide), if_neg (show ¬ (4 : Int32) = (5 : Int32) by decide), if_neg (show ¬ (4 : Int32) = 0 by decide), if_neg (show ¬ (4 : Int32) = 1 by decide), if_neg (show ¬ (4 : Int32) = 2 by decide), if_neg (show ¬ (4 : Int32) = 3 by decide), if_pos (show (4 : Int32) = 4 from rfl)]
    exact ⟨rfl, set_wall h (Q_told x2)⟩
  · dsimp only
    simp only [if_neg (show ¬ (5 : Int32) = (3 : Int32) by decide), if_pos (show (5 : Int32) = (5 : Int32) from rfl), if_neg (show ¬ (5 : Int32) = 0 by decide), if_neg (show ¬ (5 : Int32) = 1 by decide), if_neg (show ¬ (5 : Int32) = 2 by decide), if_neg (show ¬ (5 : Int32) = 4 by decide)]
    exact ⟨rfl, set_back h (Q_toFloat x2) (F_of x2)⟩
-- springs
theorem sp_upd {B : Nat → Int32} {N : Nat → Int64} {lf rt : Nat → Int32} {ks ls cs : Nat → Int64} {j c : Nat} {p q : Int32} {k1 k2 k3 d1 d2 d3 : Int64} (hj : j < c + 1) (h : j < c → SpAt B N lf rt ks ls cs j) (hp : vp_in p 8) (hq : vp_in q 8) (f1 : isFlt d1) (f2 : isFlt d2) (f3 : isFlt d3) (e1 : k1 = f_M_toDouble_J d1) (e2 : k2 = f_M_toDouble_J d2) (e3 : k3 = f_M_toDouble_J d3) :
    SpAt (upd (upd B (2 * c) p) (2 * c + 1) q) (vp_updL (vp_updL (vp_updL N (3 * c) k1) (3 * c + 1) k2) (3 * c + 2) k3) (upd lf c p) (upd rt c q) (vp_updL ks c d1) (vp_updL ls c d2) (vp_updL cs c d3) j := by
  by_cases g : j = c
  · subst g
    unfold SpAt upd vp_updL
    rw [if_neg (show ¬ 2 * j = 2 * j + 1 by omega), if_pos (show 2 * j = 2 * j from rfl), if_pos (show 2 * j + 1 = 2 * j + 1 from rfl), if_neg (show ¬ 3 * j = 3 * j + 2 by omega), if_neg (show ¬ 3 * j = 3 * j + 1 by omega), if_pos (show 3 * j = 3 * j from rfl), if_neg (show ¬ 3 * j + 1 = 3 * j + 2 by omega), if_pos (show 3 * j + 1 = 3 * j + 1 from rfl), if_pos (show 3 * j + 2 = 3 * j + 2 from rfl)]
    simp only [if_true]
    exact ⟨⟨trivial, trivial, hp, hq⟩, ⟨e1, e2, e3⟩, f1, f2, f3⟩
  · have hh := h (by omega)
    unfold SpAt upd vp_updL
    simp only [if_neg g, if_neg (show ¬ 2 * j = 2 * c + 1 by omega), if_neg (show ¬ 2 * j = 2 * c by omega), if_neg (show ¬ 2 * j + 1 = 2 * c + 1 by omega), if_neg (show ¬ 2 * j + 1 = 2 * c by omega), if_neg (show ¬ 3 * j = 3 * c + 2 by omega), if_neg (show ¬ 3 * j = 3 * c + 1 by omega), if_neg (show ¬ 3 * j = 3 * c by omega), if_neg (show ¬ 3 * j + 1 = 3 * c + 2 by omega), if_neg (show ¬ 3 * j + 1 = 3 * c + 1 by omega), if_neg (show ¬ 3 * j + 1 = 3 * c by omega), if_neg (show ¬ 3 * j + 2 = 3 * c + 2 by omega), if_neg (show ¬ 3 * j + 2 = 3 * c + 1 by omega), if_neg (show ¬ 3 * j + 2 = 3 * c by omega)]
    exact hh
theorem pj_x_left (M : MS) (v : Nat → Int32) : m_x (u_m_left M v) = m_x M := rfl
theorem pj_y_left (M : MS) (v : Nat → Int32) : m_y (u_m_left M v) = m_y M := rfl
theorem pj_u_left (M : MS) (v : Nat → Int32) : m_u (u_m_left M v) = m_u M := rfl
theorem pj_v_left (M : MS) (v : Nat → Int32) : m_v (u_m_left M v) = m_v M := rfl
theorem pj_m_left (M : MS) (v : Nat → Int32) : m_m (u_m_left M v) = m_m M := rfl
theorem pj_r_left (M : MS) (v : Nat → Int32) : m_r (u_m_left M v) = m_r M := rfl
theorem pj_fx_left (M : MS) (v : Nat → Int32) : m_fx (u_m_left M v) = m_fx M := rfl
theorem pj_fy_left (M : MS) (v : Nat → Int32) : m_fy (u_m_left M v) = m_fy M := rfl
theorem pj_gx_left (M : MS) (v : Nat → Int32) : m_gx (u_m_left M v) = m_gx M := rfl
theorem pj_gy_left (M : MS) (v : Nat → Int32) : m_gy (u_m_left M v) = m_gy M := rfl
theorem pj_drag_left (M : MS) (v : Nat → Int32) : m_drag (u_m_left M v) = m_drag M := rfl
theorem pj_dt_left (M : MS) (v : Nat → Int32) : m_dt (u_m_left M v) = m_dt M := rfl
theorem pj_wall_left (M : MS) (v : Nat → Int32) : m_wall (u_m_left M v) = m_wall M := rfl
theorem pj_back_left (M : MS) (v : Nat → Int32) : m_back (u_m_left M v) = m_back M := rfl
theorem pj_left_left (M : MS) (v : Nat → Int32) : m_left (u_m_left M v) = v := rfl
theorem pj_right_left (M : MS) (v : Nat → Int32) : m_right (u_m_left M v) = m_right M := rfl
theorem pj_k_left (M : MS) (v : Nat → Int32) : m_k (u_m_left M v) = m_k M := rfl
theorem pj_l_left (M : MS) (v : Nat → Int32) : m_l (u_m_left M v) = m_l M := rfl
theorem pj_c_left (M : MS) (v : Nat → Int32) : m_c (u_m_left M v) = m_c M := rfl
theorem pj_springs_left (M : MS) (v : Nat → Int32) : m_springs (u_m_left M v) = m_springs M := rfl
theorem pj_store_left (M : MS) (v : Nat → Int32) : m_store (u_m_left M v) = m_store M := rfl
theorem pj_x_right (M : MS) (v : Nat → Int32) : m_x (u_m_right M v) = m_x M := rfl
theorem pj_y_right (M : MS) (v : Nat → Int32) : m_y (u_m_right M v) = m_y M := rfl
theorem pj_u_right (M : MS) (v : Nat → Int32) : m_u (u_m_right M v) = m_u M := rfl
theorem pj_v_right (M : MS) (v : Nat → Int32) : m_v (u_m_right M v) = m_v M := rfl
theorem pj_m_right (M : MS) (v : Nat → Int32) : m_m (u_m_right M v) = m_m M := rfl
theorem pj_r_right (M : MS) (v : Nat → Int32) : m_r (u_m_right M v) = m_r M := rfl
theorem pj_fx_right (M : MS) (v : Nat → Int32) : m_fx (u_m_right M v) = m_fx M := rfl
theorem pj_fy_right (M : MS) (v : Nat → Int32) : m_fy (u_m_right M v) = m_fy M := rfl
theorem pj_gx_right (M : MS) (v : Nat → Int32) : m_gx (u_m_right M v) = m_gx M := rfl
theorem pj_gy_right (M : MS) (v : Nat → Int32) : m_gy (u_m_right M v) = m_gy M := rfl
theorem pj_drag_right (M : MS) (v : Nat → Int32) : m_drag (u_m_right M v) = m_drag M := rfl
theorem pj_dt_right (M : MS) (v : Nat → Int32) : m_dt (u_m_right M v) = m_dt M := rfl
theorem pj_wall_right (M : MS) (v : Nat → Int32) : m_wall (u_m_right M v) = m_wall M := rfl
theorem pj_back_right (M : MS) (v : Nat → Int32) : m_back (u_m_right M v) = m_back M := rfl
theorem pj_left_right (M : MS) (v : Nat → Int32) : m_left (u_m_right M v) = m_left M := rfl
theorem pj_right_right (M : MS) (v : Nat → Int32) : m_right (u_m_right M v) = v := rfl
theorem pj_k_right (M : MS) (v : Nat → Int32) : m_k (u_m_right M v) = m_k M := rfl
theorem pj_l_right (M : MS) (v : Nat → Int32) : m_l (u_m_right M v) = m_l M := rfl
theorem pj_c_right (M : MS) (v : Nat → Int32) : m_c (u_m_right M v) = m_c M := rfl
theorem pj_springs_right (M : MS) (v : Nat → Int32) : m_springs (u_m_right M v) = m_springs M := rfl
theorem pj_store_right (M : MS) (v : Nat → Int32) : m_store (u_m_right M v) = m_store M := rfl
theorem pj_x_k (M : MS) (v : Nat → Int64) : m_x (u_m_k M v) = m_x M := rfl
theorem pj_y_k (M : MS) (v : Nat → Int64) : m_y (u_m_k M v) = m_y M := rfl
theorem pj_u_k (M : MS) (v : Nat → Int64) : m_u (u_m_k M v) = m_u M := rfl
theorem pj_v_k (M : MS) (v : Nat → Int64) : m_v (u_m_k M v) = m_v M := rfl
theorem pj_m_k (M : MS) (v : Nat → Int64) : m_m (u_m_k M v) = m_m M := rfl
theorem pj_r_k (M : MS) (v : Nat → Int64) : m_r (u_m_k M v) = m_r M := rfl
theorem pj_fx_k (M : MS) (v : Nat → Int64) : m_fx (u_m_k M v) = m_fx M := rfl
theorem pj_fy_k (M : MS) (v : Nat → Int64) : m_fy (u_m_k M v) = m_fy M := rfl
theorem pj_gx_k (M : MS) (v : Nat → Int64) : m_gx (u_m_k M v) = m_gx M := rfl
theorem pj_gy_k (M : MS) (v : Nat → Int64) : m_gy (u_m_k M v) = m_gy M := rfl
theorem pj_drag_k (M : MS) (v : Nat → Int64) : m_drag (u_m_k M v) = m_drag M := rfl
theorem pj_dt_k (M : MS) (v : Nat → Int64) : m_dt (u_m_k M v) = m_dt M := rfl
theorem pj_wall_k (M : MS) (v : Nat → Int64) : m_wall (u_m_k M v) = m_wall M := rfl
theorem pj_back_k (M : MS) (v : Nat → Int64) : m_back (u_m_k M v) = m_back M := rfl
theorem pj_left_k (M : MS) (v : Nat → Int64) : m_left (u_m_k M v) = m_left M := rfl
theorem pj_right_k (M : MS) (v : Nat → Int64) : m_right (u_m_k M v) = m_right M := rfl
theorem pj_k_k (M : MS) (v : Nat → Int64) : m_k (u_m_k M v) = v := rfl
theorem pj_l_k (M : MS) (v : Nat → Int64) : m_l (u_m_k M v) = m_l M := rfl
theorem pj_c_k (M : MS) (v : Nat → Int64) : m_c (u_m_k M v) = m_c M := rfl
theorem pj_springs_k (M : MS) (v : Nat → Int64) : m_springs (u_m_k M v) = m_springs M := rfl
theorem pj_store_k (M : MS) (v : Nat → Int64) : m_store (u_m_k M v) = m_store M := rfl
theorem pj_x_l (M : MS) (v : Nat → Int64) : m_x (u_m_l M v) = m_x M := rfl
theorem pj_y_l (M : MS) (v : Nat → Int64) : m_y (u_m_l M v) = m_y M := rfl
theorem pj_u_l (M : MS) (v : Nat → Int64) : m_u (u_m_l M v) = m_u M := rfl
theorem pj_v_l (M : MS) (v : Nat → Int64) : m_v (u_m_l M v) = m_v M := rfl
theorem pj_m_l (M : MS) (v : Nat → Int64) : m_m (u_m_l M v) = m_m M := rfl
theorem pj_r_l (M : MS) (v : Nat → Int64) : m_r (u_m_l M v) = m_r M := rfl
theorem pj_fx_l (M : MS) (v : Nat → Int64) : m_fx (u_m_l M v) = m_fx M := rfl
theorem pj_fy_l (M : MS) (v : Nat → Int64) : m_fy (u_m_l M v) = m_fy M := rfl
theorem pj_gx_l (M : MS) (v : Nat → Int64) : m_gx (u_m_l M v) = m_gx M := rfl
theorem pj_gy_l (M : MS) (v : Nat → Int64) : m_gy (u_m_l M v) = m_gy M := rfl
theorem pj_drag_l (M : MS) (v : Nat → Int64) : m_drag (u_m_l M v) = m_drag M := rfl
theorem pj_dt_l (M : MS) (v : Nat → Int64) : m_dt (u_m_l M v) = m_dt M := rfl
theorem pj_wall_l (M : MS) (v : Nat → Int64) : m_wall (u_m_l M v) = m_wall M := rfl
theorem pj_back_l (M : MS) (v : Nat → Int64) : m_back (u_m_l M v) = m_back M := rfl
theorem pj_left_l (M : MS) (v : Nat → Int64) : m_left (u_m_l M v) = m_left M := rfl
theorem pj_right_l (M : MS) (v : Nat → Int64) : m_right (u_m_l M v) = m_right M := rfl
theorem pj_k_l (M : MS) (v : Nat → Int64) : m_k (u_m_l M v) = m_k M := rfl
theorem pj_l_l (M : MS) (v : Nat → Int64) : m_l (u_m_l M v) = v := rfl
theorem pj_c_l (M : MS) (v : Nat → Int64) : m_c (u_m_l M v) = m_c M := rfl
theorem pj_springs_l (M : MS) (v : Nat → Int64) : m_springs (u_m_l M v) = m_springs M := rfl
theorem pj_store_l (M : MS) (v : Nat → Int64) : m_store (u_m_l M v) = m_store M := rfl
theorem pj_x_c (M : MS) (v : Nat → Int64) : m_x (u_m_c M v) = m_x M := rfl
theorem pj_y_c (M : MS) (v : Nat → Int64) : m_y (u_m_c M v) = m_y M := rfl
theorem pj_u_c (M : MS) (v : Nat → Int64) : m_u (u_m_c M v) = m_u M := rfl
theorem pj_v_c (M : MS) (v : Nat → Int64) : m_v (u_m_c M v) = m_v M := rfl
theorem pj_m_c (M : MS) (v : Nat → Int64) : m_m (u_m_c M v) = m_m M := rfl
theorem pj_r_c (M : MS) (v : Nat → Int64) : m_r (u_m_c M v) = m_r M := rfl
theorem pj_fx_c (M : MS) (v : Nat → Int64) : m_fx (u_m_c M v) = m_fx M := rfl
theorem pj_fy_c (M : MS) (v : Nat → Int64) : m_fy (u_m_c M v) = m_fy M := rfl
theorem pj_gx_c (M : MS) (v : Nat → Int64) : m_gx (u_m_c M v) = m_gx M := rfl
theorem pj_gy_c (M : MS) (v : Nat → Int64) : m_gy (u_m_c M v) = m_gy M := rfl
theorem pj_drag_c (M : MS) (v : Nat → Int64) : m_drag (u_m_c M v) = m_drag M := rfl
theorem pj_dt_c (M : MS) (v : Nat → Int64) : m_dt (u_m_c M v) = m_dt M := rfl
theorem pj_wall_c (M : MS) (v : Nat → Int64) : m_wall (u_m_c M v) = m_wall M := rfl
theorem pj_back_c (M : MS) (v : Nat → Int64) : m_back (u_m_c M v) = m_back M := rfl
theorem pj_left_c (M : MS) (v : Nat → Int64) : m_left (u_m_c M v) = m_left M := rfl
theorem pj_right_c (M : MS) (v : Nat → Int64) : m_right (u_m_c M v) = m_right M := rfl
theorem pj_k_c (M : MS) (v : Nat → Int64) : m_k (u_m_c M v) = m_k M := rfl
theorem pj_l_c (M : MS) (v : Nat → Int64) : m_l (u_m_c M v) = m_l M := rfl
theorem pj_c_c (M : MS) (v : Nat → Int64) : m_c (u_m_c M v) = v := rfl
theorem pj_springs_c (M : MS) (v : Nat → Int64) : m_springs (u_m_c M v) = m_springs M := rfl
theorem pj_store_c (M : MS) (v : Nat → Int64) : m_store (u_m_c M v) = m_store M := rfl
theorem pj_x_springs (M : MS) (v : Int32) : m_x (u_m_springs M v) = m_x M := rfl
theorem pj_y_springs (M : MS) (v : Int32) : m_y (u_m_springs M v) = m_y M := rfl
theorem pj_u_springs (M : MS) (v : Int32) : m_u (u_m_springs M v) = m_u M := rfl
theorem pj_v_springs (M : MS) (v : Int32) : m_v (u_m_springs M v) = m_v M := rfl
theorem pj_m_springs (M : MS) (v : Int32) : m_m (u_m_springs M v) = m_m M := rfl
theorem pj_r_springs (M : MS) (v : Int32) : m_r (u_m_springs M v) = m_r M := rfl
theorem pj_fx_springs (M : MS) (v : Int32) : m_fx (u_m_springs M v) = m_fx M := rfl
theorem pj_fy_springs (M : MS) (v : Int32) : m_fy (u_m_springs M v) = m_fy M := rfl
theorem pj_gx_springs (M : MS) (v : Int32) : m_gx (u_m_springs M v) = m_gx M := rfl
theorem pj_gy_springs (M : MS) (v : Int32) : m_gy (u_m_springs M v) = m_gy M := rfl
theorem pj_drag_springs (M : MS) (v : Int32) : m_drag (u_m_springs M v) = m_drag M := rfl
theorem pj_dt_springs (M : MS) (v : Int32) : m_dt (u_m_springs M v) = m_dt M := rfl
theorem pj_wall_springs (M : MS) (v : Int32) : m_wall (u_m_springs M v) = m_wall M := rfl
theorem pj_back_springs (M : MS) (v : Int32) : m_back (u_m_springs M v) = m_back M := rfl
theorem pj_left_springs (M : MS) (v : Int32) : m_left (u_m_springs M v) = m_left M := rfl
theorem pj_right_springs (M : MS) (v : Int32) : m_right (u_m_springs M v) = m_right M := rfl
theorem pj_k_springs (M : MS) (v : Int32) : m_k (u_m_springs M v) = m_k M := rfl
theorem pj_l_springs (M : MS) (v : Int32) : m_l (u_m_springs M v) = m_l M := rfl
theorem pj_c_springs (M : MS) (v : Int32) : m_c (u_m_springs M v) = m_c M := rfl
theorem pj_springs_springs (M : MS) (v : Int32) : m_springs (u_m_springs M v) = v := rfl
theorem pj_store_springs (M : MS) (v : Int32) : m_store (u_m_springs M v) = m_store M := rfl
theorem pj_sR_sB (S : CS) (v : Nat → Int32) : sR (u_sB S v) = sR S := rfl
theorem pj_sF_sB (S : CS) (v : Nat → Int32) : sF (u_sB S v) = sF S := rfl
theorem pj_sT_sB (S : CS) (v : Nat → Int32) : sT (u_sB S v) = sT S := rfl
theorem pj_sB_sB (S : CS) (v : Nat → Int32) : sB (u_sB S v) = v := rfl
theorem pj_sN_sB (S : CS) (v : Nat → Int32) : sN (u_sB S v) = sN S := rfl
theorem pj_sC_sB (S : CS) (v : Nat → Int32) : sC (u_sB S v) = sC S := rfl
theorem pj_sR_sN (S : CS) (v : Nat → Int64) : sR (u_sN S v) = sR S := rfl
theorem pj_sF_sN (S : CS) (v : Nat → Int64) : sF (u_sN S v) = sF S := rfl
theorem pj_sT_sN (S : CS) (v : Nat → Int64) : sT (u_sN S v) = sT S := rfl
theorem pj_sB_sN (S : CS) (v : Nat → Int64) : sB (u_sN S v) = sB S := rfl
theorem pj_sN_sN (S : CS) (v : Nat → Int64) : sN (u_sN S v) = v := rfl
theorem pj_sC_sN (S : CS) (v : Nat → Int64) : sC (u_sN S v) = sC S := rfl
theorem pj_sR_sC (S : CS) (v : Int32) : sR (u_sC S v) = sR S := rfl
theorem pj_sF_sC (S : CS) (v : Int32) : sF (u_sC S v) = sF S := rfl
theorem pj_sT_sC (S : CS) (v : Int32) : sT (u_sC S v) = sT S := rfl
theorem pj_sB_sC (S : CS) (v : Int32) : sB (u_sC S v) = sB S := rfl
theorem pj_sN_sC (S : CS) (v : Int32) : sN (u_sC S v) = sN S := rfl
theorem pj_sC_sC (S : CS) (v : Int32) : sC (u_sC S v) = v := rfl
theorem join_rel {S : CS} {M : MS} {p q : Int32} {a1 a2 a3 d1 d2 d3 : Int64} (hR : RelR 0 (sR S) (m_x M) (m_y M) (m_u M) (m_v M) (m_m M) (m_r M) (m_fx M) (m_fy M)) (hF : RelF (sF S) (m_gx M) (m_gy M) (m_drag M) (m_dt M) (m_wall M) (m_back M)) (hT : RRow (sT S) 0 8 f_M_told_J (m_store M)) (hX : RelX (m_m M) (m_r M) (m_dt M) (m_back M)) (ec : sC S = m_springs M) (n1 : vp_in (sC S + (1 : Int32)) 11)
    (sp : ∀ k, k < (sC S + (1 : Int32)).toNatClampNeg → SpAt (upd (upd (sB S) (sC S * (2 : Int32)).toNatClampNeg p) (sC S * (2 : Int32) + (1 : Int32)).toNatClampNeg q) (vp_updL (vp_updL (vp_updL (sN S) (sC S * (3 : Int32)).toNatClampNeg a1) (sC S * (3 : Int32) + (1 : Int32)).toNatClampNeg a2) (sC S * (3 : Int32) + (2 : Int32)).toNatClampNeg a3) (upd (m_left M) (m_springs M).toNatClampNeg p) (upd (m_right M) (m_springs M).toNatClampNeg q) (vp_updL (m_k M) (m_springs M).toNatClampNeg d1) (vp_updL (m_l M) (m_springs M).toNatClampNeg d2) (vp_updL (m_c M) (m_springs M).toNatClampNeg d3) k) :
    RelP ((f_S_add_IIJJJ S p q a1 a2 a3).1, (f_S_add_IIJJJ S p q a1 a2 a3).2)
      (let S5 : MS := u_m_left M (upd (m_left M) (m_springs M).toNatClampNeg p)
       let S6 : MS := u_m_right S5 (upd (m_right S5) (m_springs S5).toNatClampNeg q)
       let S7 : MS := u_m_k S6 (vp_updL (m_k S6) (m_springs S6).toNatClampNeg d1)
       let S8 : MS := u_m_l S7 (vp_updL (m_l S7) (m_springs S7).toNatClampNeg d2)
       let S9 : MS := u_m_c S8 (vp_updL (m_c S8) (m_springs S8).toNatClampNeg d3)
       let S10 : MS := u_m_springs S9 ((m_springs S9) + (1 : Int32))
       ((m_springs S10) - (1 : Int32), S10)) := by
  have e1 : sC S + (1 : Int32) = m_springs M + (1 : Int32) := by rw [ec]
  have e0 : sC S + (1 : Int32) - (1 : Int32) = m_springs M + (1 : Int32) - (1 : Int32) := by rw [ec]
  have hS : RelS (upd (upd (sB S) (sC S * (2 : Int32)).toNatClampNeg p) (sC S * (2 : Int32) + (1 : Int32)).toNatClampNeg q) (vp_updL (vp_updL (vp_updL (sN S) (sC S * (3 : Int32)).toNatClampNeg a1) (sC S * (3 : Int32) + (1 : Int32)).toNatClampNeg a2) (sC S * (3 : Int32) + (2 : Int32)).toNatClampNeg a3) (sC S + (1 : Int32)) (upd (m_left M) (m_springs M).toNatClampNeg p) (upd (m_right M) (m_springs M).toNatClampNeg q) (vp_updL (m_k M) (m_springs M).toNatClampNeg d1) (vp_updL (m_l M) (m_springs M).toNatClampNeg d2) (vp_updL (m_c M) (m_springs M).toNatClampNeg d3) (m_springs M + (1 : Int32)) := ⟨e1, n1, sp⟩
  unfold f_S_add_IIJJJ
  refine ⟨?_, ?_, ?_, ?_, ?_, ?_⟩ <;> (try dsimp only) <;> simp only [pj_x_left, pj_y_left, pj_u_left, pj_v_left, pj_m_left, pj_r_left, pj_fx_left, pj_fy_left, pj_gx_left, pj_gy_left, pj_drag_left, pj_dt_left, pj_wall_left, pj_back_left, pj_left_left, pj_right_left, pj_k_left, pj_l_left, pj_c_left, pj_springs_left, pj_store_left, pj_x_right, pj_y_right, pj_u_right, pj_v_right, pj_m_right, pj_r_right, pj_fx_right, pj_fy_right, pj_gx_right, pj_gy_right, pj_drag_right, pj_dt_right, pj_wall_right, pj_back_right, pj_left_right, pj_right_right, pj_k_right, pj_l_right, pj_c_right, pj_springs_right, pj_store_right, pj_x_k, pj_y_k, pj_u_k, pj_v_k, pj_m_k, pj_r_k, pj_fx_k, pj_fy_k, pj_gx_k, pj_gy_k, pj_drag_k, pj_dt_k, pj_wall_k, pj_back_k, pj_left_k, pj_right_k, pj_k_k, pj_l_k, pj_c_k, pj_springs_k, pj_store_k, pj_x_l, pj_y_l, pj_u_l, pj_v_l, pj_m_l, pj_r_l, pj_fx_l, pj_fy_l, pj_gx_l, pj_gy_l, pj_drag_l, pj_dt_l, pj_wall_l, pj_back_l, pj_left_l, pj_right_l, pj_k_l, pj_l_l, pj_c_l, pj_springs_l, pj_store_l, pj_x_c, pj_y_c, pj_u_c, pj_v_c, pj_m_c, pj_r_c, pj_fx_c, pj_fy_c, pj_gx_c, pj_gy_c, pj_drag_c, pj_dt_c, pj_wall_c, pj_back_c, pj_left_c, pj_right_c, pj_k_c, pj_l_c, pj_c_c, pj_springs_c, pj_store_c, pj_x_springs, pj_y_springs, pj_u_springs, pj_v_springs, pj_m_springs, pj_r_springs, pj_fx_springs, pj_fy_springs, pj_gx_springs, pj_gy_springs, pj_drag_springs, pj_dt_springs, pj_wall_springs, pj_back_springs, pj_left_springs, pj_right_springs, pj_k_springs, pj_l_springs, pj_c_springs, pj_springs_springs, pj_store_springs, pj_sR_sB, pj_sF_sB, pj_sT_sB, pj_sB_sB, pj_sN_sB, pj_sC_sB, pj_sR_sN, pj_sF_sN, pj_sT_sN, pj_sB_sN, pj_sN_sN, pj_sC_sN, pj_sR_sC, pj_sF_sC, pj_sT_sC, pj_sB_sC, pj_sN_sC, pj_sC_sC]
  · exact e0
  · exact hR
  · exact hF
  · exact hT
  · exact hS
  · exact hX
theorem Z_join {S : CS} {M : MS} (h : Rel 0 S M) (x1 x2 x3 x4 x5 : Int32) : RelP (f_L_spring_IIIII S x1 x2 x3 x4 x5) (f_M_spring_IIIII M x1 x2 x3 x4 x5) := by
  obtain ⟨hR, hF, hT, ⟨ec, hc, hs⟩, hX⟩ := h
  have h : Rel 0 S M := ⟨hR, hF, hT, ⟨ec, hc, hs⟩, hX⟩
  unfold f_L_spring_IIIII f_M_spring_IIIII
  rw [b_body, b_body]
  by_cases c1 : f_M_in_II x1 (8 : Int32) = 0
  · rw [if_pos c1, if_pos c1]; exact ⟨rfl, h⟩
  rw [if_neg c1, if_neg c1]
  by_cases c2 : f_M_in_II x2 (8 : Int32) = 0
  · rw [if_pos c2, if_pos c2]; exact ⟨rfl, h⟩
  rw [if_neg c2, if_neg c2]
  by_cases c3 : x1 = x2
  · rw [if_pos c3, if_pos c3]; exact ⟨rfl, h⟩
  rw [if_neg c3, if_neg c3]
  obtain ⟨j, hj, ej⟩ := in_e hc
  have cj : (sC S).toNatClampNeg = j := by rw [ej]; exact nI_clamp (by omega)
  by_cases c4 : m_springs M = (10 : Int32)
  · have f1 : ¬ f_S_isFull S = 0 := by
      unfold f_S_isFull
      rw [ec, c4, if_neg (by decide)]; decide
    rw [if_neg f1, if_pos c4]; exact ⟨rfl, h⟩
  have j10 : j < 10 := by
    rcases Nat.lt_or_ge j 10 with q | q
    · exact q
    · have : j = 10 := by omega
      subst this
      exact absurd (ec.symm.trans ej) c4
  have f1 : f_S_isFull S = 0 := by
    unfold f_S_isFull
    rw [if_pos ?_]
    rw [Int32.lt_iff_toInt_lt, ej, nI_toInt (by omega)]
    have : (10 : Int32).toInt = 10 := rfl
    omega
  rw [if_pos f1, if_neg c4]
  obtain ⟨i1, i2⟩ := ix_two (j := j) (by omega)
  obtain ⟨i3, i4, i5⟩ := ix_three (j := j) (by omega)
  rw [← ej] at i1 i2 i3 i4 i5
  have cm : (m_springs M).toNatClampNeg = j := by rw [← ec]; exact cj
  have ec1 : sC S + (1 : Int32) = nI (j + 1) := by rw [ej, nI_1]
  have n1 : vp_in (sC S + (1 : Int32)) 11 := by
    rw [ec1]
    refine in_of ?_ ?_ <;> rw [nI_toInt (by omega)] <;> omega
  have sp : ∀ k, k < (sC S + (1 : Int32)).toNatClampNeg → SpAt (upd (upd (sB S) (sC S * (2 : Int32)).toNatClampNeg x1) (sC S * (2 : Int32) + (1 : Int32)).toNatClampNeg x2) (vp_updL (vp_updL (vp_updL (sN S) (sC S * (3 : Int32)).toNatClampNeg (f_I_ofFloatBits_I x3)) (sC S * (3 : Int32) + (1 : Int32)).toNatClampNeg (f_I_ofFloatBits_I x4)) (sC S * (3 : Int32) + (2 : Int32)).toNatClampNeg (f_I_ofFloatBits_I x5)) (upd (m_left M) (m_springs M).toNatClampNeg x1) (upd (m_right M) (m_springs M).toNatClampNeg x2) (vp_updL (m_k M) (m_springs M).toNatClampNeg (f_M_floatOf_I x3)) (vp_updL (m_l M) (m_springs M).toNatClampNeg (f_M_floatOf_I x4)) (vp_updL (m_c M) (m_springs M).toNatClampNeg (f_M_floatOf_I x5)) k := by
    intro k hk
    rw [ec1, nI_clamp (by omega)] at hk
    rw [i1, i2, i3, i4, i5, cm]
    exact sp_upd hk (fun q => hs k (by rw [cj]; exact q)) (in_8 c1) (in_8 c2) (F_bits _) (F_bits _) (F_bits _) (Q_ofBits _) (Q_ofBits _) (Q_ofBits _)
  exact join_rel hR hF hT hX ec n1 sp
theorem Z_cut {S : CS} {M : MS} (h : Rel 0 S M) : RelP (f_L_cut S) (f_M_cut M) := by
  obtain ⟨hR, hF, hT, ⟨ec, hc, hs⟩, hX⟩ := h
  unfold f_L_cut f_M_cut
  by_cases c : m_springs M = 0
  · rw [if_pos (ec.trans c), if_pos c]; exact ⟨rfl, hR, hF, hT, ⟨ec, hc, hs⟩, hX⟩
  rw [if_neg (fun q => c (ec.symm.trans q)), if_neg c]
  obtain ⟨j, hj, ej⟩ := in_e hc
  have cj : (sC S).toNatClampNeg = j := by rw [ej]; exact nI_clamp (by omega)
  have j0 : j ≠ 0 := by
    intro q
    subst q
    exact c (ec.symm.trans ej)
  have ed : sC S - (1 : Int32) = nI (j - 1) := by
    have e1 : nI j = nI (j - 1) + 1 := by rw [nI_1]; exact congrArg nI (by omega)
    rw [ej, e1, Int32.add_sub_cancel]
  have n1 : vp_in (sC S - (1 : Int32)) 11 := by
    rw [ed]
    refine in_of ?_ ?_ <;> rw [nI_toInt (by omega)] <;> omega
  refine ⟨?_, hR, hF, hT, ⟨?_, n1, ?_⟩, hX⟩
  · show sC S - (1 : Int32) = m_springs M - (1 : Int32)
    rw [ec]
  · show sC S - (1 : Int32) = m_springs M - (1 : Int32)
    rw [ec]
  · show ∀ k, k < (sC S - (1 : Int32)).toNatClampNeg → SpAt (sB S) (sN S) (m_left M) (m_right M) (m_k M) (m_l M) (m_c M) k
    intro k hk
    rw [ed, nI_clamp (by omega)] at hk
    exact hs k (by rw [cj]; omega)
-- telling
theorem Z_num {S : CS} {M : MS} (h : Rel 0 S M) {x1 x2 : Int32} (v1 : vp_in x1 8) (v2 : vp_in x2 6) : f_P_bodyNumber_II S x1 x2 = f_M_told_J (f_M_number_II M x1 x2) := by
  unfold f_P_bodyNumber_II f_M_number_II
  rcases in_c6 v2 with e | e | e | e | e | e <;> subst e
  · rw [if_pos (show (0 : Int32) = 0 from rfl)]
    exact g_x h v1
  · rw [if_neg (show ¬ (1 : Int32) = 0 by decide), if_pos (show (1 : Int32) = 1 from rfl)]
    exact g_y h v1
  · rw [if_neg (show ¬ (2 : Int32) = 0 by decide), if_neg (show ¬ (2 : Int32) = 1 by decide), if_pos (show (2 : Int32) = 2 from rfl)]
    exact g_u h v1
  · rw [if_neg (show ¬ (3 : Int32) = 0 by decide), if_neg (show ¬ (3 : Int32) = 1 by decide), if_neg (show ¬ (3 : Int32) = 2 by decide), if_pos (show (3 : Int32) = 3 from rfl)]
    exact g_v h v1
  · rw [if_neg (show ¬ (4 : Int32) = 0 by decide), if_neg (show ¬ (4 : Int32) = 1 by decide), if_neg (show ¬ (4 : Int32) = 2 by decide), if_neg (show ¬ (4 : Int32) = 3 by decide), if_pos (show (4 : Int32) = 4 from rfl), D_dd (f_m h v1)]
    exact g_m h v1
  · rw [if_neg (show ¬ (5 : Int32) = 0 by decide), if_neg (show ¬ (5 : Int32) = 1 by decide), if_neg (show ¬ (5 : Int32) = 2 by decide), if_neg (show ¬ (5 : Int32) = 3 by decide), if_neg (show ¬ (5 : Int32) = 4 by decide), D_dd (f_r h v1)]
    exact g_r h v1
theorem Z_tell {S : CS} {M : MS} (h : Rel 0 S M) (x1 x2 : Int32) : f_L_tell_II S x1 x2 = f_M_tell_II M x1 x2 := by
  unfold f_L_tell_II f_M_tell_II
  rw [b_body, b_num]
  by_cases c1 : f_M_in_II x1 (8 : Int32) = 0
  · rw [if_pos c1, if_pos c1]
  rw [if_neg c1, if_neg c1]
  by_cases c2 : f_M_in_II x2 (6 : Int32) = 0
  · rw [if_pos c2, if_pos c2]
  rw [if_neg c2, if_neg c2]
  exact Z_num h (in_8 c1) (in_6 c2)
theorem Z_about {S : CS} {M : MS} (h : Rel 0 S M) (x1 : Int32) : f_L_about_I S x1 = f_M_about_I M x1 := by
  unfold f_L_about_I f_M_about_I
  rw [b_fld]
  by_cases c1 : f_M_in_II x1 (6 : Int32) = 0
  · have o := in_out c1
    have ne : ∀ k : Nat, k < 6 → ¬ x1 = nI k := by
      intro k hk e
      rw [Int32.lt_iff_toInt_lt, Int32.le_iff_toInt_le, e, nI_toInt (by omega), show (0 : Int32).toInt = 0 from rfl, show (6 : Int32).toInt = 6 from rfl] at o
      omega
    rw [if_pos c1, if_neg (show ¬ x1 = (0 : Int32) from ne 0 (by decide)), if_neg (show ¬ x1 = (1 : Int32) from ne 1 (by decide)), if_neg (show ¬ x1 = (2 : Int32) from ne 2 (by decide)), if_neg (show ¬ x1 = (3 : Int32) from ne 3 (by decide)), if_neg (show ¬ x1 = (4 : Int32) from ne 4 (by decide)), if_neg (show ¬ x1 = (5 : Int32) from ne 5 (by decide))]
  rw [if_neg c1]
  unfold f_P_fieldNumber_I
  rcases in_c6 (in_6 c1) with e | e | e | e | e | e <;> subst e
  · rw [if_pos (show (0 : Int32) = 0 from rfl)]; exact g_gx h
  · rw [if_neg (show ¬ (1 : Int32) = 0 by decide), if_pos (show (1 : Int32) = 1 from rfl)]; exact g_gy h
  · rw [if_neg (show ¬ (2 : Int32) = 0 by decide), if_neg (show ¬ (2 : Int32) = 1 by decide), if_pos (show (2 : Int32) = 2 from rfl)]; exact g_drag h
  · rw [if_neg (show ¬ (3 : Int32) = 0 by decide), if_neg (show ¬ (3 : Int32) = 1 by decide), if_neg (show ¬ (3 : Int32) = 2 by decide), if_pos (show (3 : Int32) = 3 from rfl), D_dd h.2.2.2.2.2.2.1]; exact g_dt h
  · rw [if_neg (show ¬ (4 : Int32) = 0 by decide), if_neg (show ¬ (4 : Int32) = 1 by decide), if_neg (show ¬ (4 : Int32) = 2 by decide), if_neg (show ¬ (4 : Int32) = 3 by decide), if_pos (show (4 : Int32) = 4 from rfl)]; exact g_wall h
  · rw [if_neg (show ¬ (5 : Int32) = 0 by decide), if_neg (show ¬ (5 : Int32) = 1 by decide), if_neg (show ¬ (5 : Int32) = 2 by decide), if_neg (show ¬ (5 : Int32) = 3 by decide), if_neg (show ¬ (5 : Int32) = 4 by decide), if_pos (show (5 : Int32) = 5 from rfl), D_dd h.2.2.2.2.2.2.2]; exact g_back h
-- stores
theorem Z_keep {S : CS} {M : MS} (h : Rel 0 S M) (x1 : Int32) (x2 : Int64) : RelP (f_L_keep_IJ S x1 x2) (f_M_keep_IJ M x1 x2) := by
  unfold f_L_keep_IJ f_M_keep_IJ
  rw [b_store]
  by_cases c1 : f_M_in_II x1 (8 : Int32) = 0
  · rw [if_pos c1, if_pos c1]; exact ⟨rfl, h⟩
  rw [if_neg c1, if_neg c1]
  exact ⟨rfl, set_store h (Q_told x2)⟩
theorem Z_put {S : CS} {M : MS} (h : Rel 0 S M) {x1 : Int32} {a c : Int64} (e : a = f_M_told_J c) : RelP (sT (u_sT S (vp_updL (sT S) x1.toNatClampNeg a)) x1.toNatClampNeg, u_sT S (vp_updL (sT S) x1.toNatClampNeg a)) (f_M_told_J (m_store (u_m_store M (vp_updL (m_store M) x1.toNatClampNeg c)) x1.toNatClampNeg), u_m_store M (vp_updL (m_store M) x1.toNatClampNeg c)) := by
  refine ⟨?_, set_store h e⟩
  show (if x1.toNatClampNeg = x1.toNatClampNeg then a else _) = f_M_told_J (if x1.toNatClampNeg = x1.toNatClampNeg then c else _)
  rw [if_pos rfl, if_pos rfl]
  exact e
theorem Z_reckon {S : CS} {M : MS} (h : Rel 0 S M) (x1 x2 x3 x4 : Int32) : RelP (f_L_reckon_IIII S x1 x2 x3 x4) (f_M_reckon_IIII M x1 x2 x3 x4) := by
  unfold f_L_reckon_IIII f_M_reckon_IIII
  rw [b_store, b_store, b_store]
  by_cases c1 : f_M_in_II x1 (15 : Int32) = 0
  · rw [if_pos c1]
    rcases in_out c1 with q | q
    · rw [if_pos q]; exact ⟨rfl, h⟩
    · by_cases q0 : x1 < 0
      · rw [if_pos q0]; exact ⟨rfl, h⟩
      · rw [if_neg q0, if_pos q]; exact ⟨rfl, h⟩
  have q := in_cut c1
  rw [if_neg c1, if_neg q.1, if_neg q.2]
  by_cases c2 : f_M_in_II x2 (8 : Int32) = 0
  · rw [if_pos c2, if_pos c2]; exact ⟨rfl, h⟩
  rw [if_neg c2, if_neg c2]
  by_cases c3 : f_M_in_II x3 (8 : Int32) = 0
  · rw [if_pos c3, if_pos c3]; exact ⟨rfl, h⟩
  rw [if_neg c3, if_neg c3]
  by_cases c4 : f_M_in_II x4 (8 : Int32) = 0
  · rw [if_pos c4, if_pos c4]; exact ⟨rfl, h⟩
  rw [if_neg c4, if_neg c4]
  rw [g_store h (in_8 c3), g_store h (in_8 c4), Q_result (in_in c1 (by decide) (by decide))]
  exact Z_put h rfl
theorem w_M (M : MS) (x1 x2 : Int32) (x3 : Int64) (c1 : ¬ f_M_in_II x1 (8 : Int32) = 0) (c2 : ¬ f_M_in_II x2 (2 : Int32) = 0) : f_M_whole_IIJ M x1 x2 x3 = if x2 = 0 then (f_M_told_J (m_store (u_m_store M (vp_updL (m_store M) x1.toNatClampNeg (mWh x3 x2))) x1.toNatClampNeg), u_m_store M (vp_updL (m_store M) x1.toNatClampNeg (mWh x3 x2))) else (f_M_told_J (m_store (u_m_store M (vp_updL (m_store M) x1.toNatClampNeg (f_M_toDouble_J (mWh x3 x2)))) x1.toNatClampNeg), u_m_store M (vp_updL (m_store M) x1.toNatClampNeg (f_M_toDouble_J (mWh x3 x2)))) := by
  unfold f_M_whole_IIJ mWh
  rw [if_neg c1, if_neg c2]
  by_cases d1 : lg_cmp x3 (-9223372036854775808 : Int64) = 0
  · rw [if_pos d1, if_pos d1]
  · rw [if_neg d1, if_neg d1]
    by_cases d2 : 0 ≤ lg_cmp x3 (0 : Int64)
    · rw [if_pos d2, if_pos d2]
    · rw [if_neg d2, if_neg d2]
theorem in_c2 {x : Int32} (h : ¬ f_M_in_II x (2 : Int32) = 0) : x = 0 ∨ x = 1 := by
  obtain ⟨j, hj, e⟩ := in_e (in_in (n := 2) h (by decide) (by decide))
  rw [e]
  match j, hj with
  | 0, _ => exact Or.inl rfl
  | 1, _ => exact Or.inr rfl
theorem wh_flt (x : Int64) : ∃ n : Nat, n < 2 ^ 32 ∧ mWh x (1 : Int32) = lN n := by
  obtain ⟨a, ha, rfl⟩ := l_of x
  have e : mWh (lN a) (1 : Int32) = lN (a / W64 * W32 + enc 24 2851 I32 (abN a * 2 ^ 3000)) := m_wh (f := 1) (by decide) ha
  exact ⟨_, sW32 (sg_lt ha) (enc_le _ _ _ _), e⟩
theorem Z_whole {S : CS} {M : MS} (h : Rel 0 S M) (x1 x2 : Int32) (x3 : Int64) : RelP (f_L_whole_IIJ S x1 x2 x3) (f_M_whole_IIJ M x1 x2 x3) := by
  by_cases c1 : f_M_in_II x1 (8 : Int32) = 0
  · unfold f_L_whole_IIJ f_M_whole_IIJ
    rw [b_store, if_pos c1, if_pos c1]; exact ⟨rfl, h⟩
  by_cases c2 : f_M_in_II x2 (2 : Int32) = 0
  · unfold f_L_whole_IIJ f_M_whole_IIJ
    rw [b_store, if_neg c1, if_neg c1, if_pos c2]
    rcases in_out c2 with q | q
    · rw [if_pos q]; exact ⟨rfl, h⟩
    · by_cases q0 : x2 < 0
      · rw [if_pos q0]; exact ⟨rfl, h⟩
      · have q1 : ¬ x2 ≤ (1 : Int32) := by
          rw [Int32.le_iff_toInt_le] at q ⊢
          have a : (1 : Int32).toInt = 1 := rfl
          have b : (2 : Int32).toInt = 2 := rfl
          omega
        rw [if_neg q0, if_neg q1]; exact ⟨rfl, h⟩
  rw [w_M M x1 x2 x3 c1 c2]
  unfold f_L_whole_IIJ
  rw [b_store, if_neg c1]
  rcases in_c2 c2 with e | e <;> subst e
  · rw [if_neg (show ¬ (0 : Int32) < 0 by decide), if_pos (show (0 : Int32) ≤ 1 by decide), if_pos (show (0 : Int32) = 0 from rfl), if_pos (show (0 : Int32) = 0 from rfl)]
    exact Z_put h (by rw [Q_whole0, T_whole0])
  · rw [if_neg (show ¬ (1 : Int32) < 0 by decide), if_pos (show (1 : Int32) ≤ 1 by decide), if_neg (show ¬ (1 : Int32) = 0 by decide), if_neg (show ¬ (1 : Int32) = 0 by decide)]
    obtain ⟨n, hn, en⟩ := wh_flt x3
    exact Z_put h (by rw [Q_whole1, en, T_toDouble hn])
theorem Z_cast {S : CS} {M : MS} (h : Rel 0 S M) (x1 x2 : Int32) : f_L_cast_II S x1 x2 = f_M_cast_II M x1 x2 := by
  unfold f_L_cast_II f_M_cast_II
  rw [b_store]
  by_cases c1 : f_M_in_II x1 (8 : Int32) = 0
  · rw [if_pos c1, if_pos c1]
  rw [if_neg c1, if_neg c1]
  rw [g_store h (in_8 c1), Q_toLong, Q_toInt, T_cut, T_cut]
  by_cases c2 : f_M_in_II x2 (5 : Int32) = 0
  · have o := in_out c2
    have ne : ∀ k : Nat, k < 5 → ¬ x2 = nI k := by
      intro k hk e
      rw [Int32.lt_iff_toInt_lt, Int32.le_iff_toInt_le, e, nI_toInt (by omega), show (0 : Int32).toInt = 0 from rfl, show (5 : Int32).toInt = 5 from rfl] at o
      omega
    rw [if_pos c2, if_neg (show ¬ x2 = (0 : Int32) from ne 0 (by decide)), if_neg (show ¬ x2 = (1 : Int32) from ne 1 (by decide)), if_neg (show ¬ x2 = (2 : Int32) from ne 2 (by decide)), if_neg (show ¬ x2 = (3 : Int32) from ne 3 (by decide)), if_neg (show ¬ x2 = (4 : Int32) from ne 4 (by decide))]
  rw [if_neg c2]
  obtain ⟨j, hj, e⟩ := in_e (in_in (n := 5) c2 (by decide) (by decide))
  subst e
  match j, hj with
  | 0, _ => rw [if_pos (show nI 0 = 0 from rfl), if_neg (show ¬ nI 0 = 1 by decide)]; dsimp only; rw [if_pos (show nI 0 = 0 from rfl)]
  | 1, _ => rw [if_neg (show ¬ nI 1 = 0 by decide), if_pos (show nI 1 = 1 from rfl), if_pos (show nI 1 = 1 from rfl)]
  | 2, _ => rw [if_neg (show ¬ nI 2 = 0 by decide), if_neg (show ¬ nI 2 = 1 by decide), if_pos (show nI 2 = 2 from rfl), if_neg (show ¬ nI 2 = 1 by decide)]; dsimp only; rw [if_neg (show ¬ nI 2 = 0 by decide), if_pos (show nI 2 = 2 from rfl)]
  | 3, _ => rw [if_neg (show ¬ nI 3 = 0 by decide), if_neg (show ¬ nI 3 = 1 by decide), if_neg (show ¬ nI 3 = 2 by decide), if_pos (show nI 3 = 3 from rfl), if_neg (show ¬ nI 3 = 1 by decide)]; dsimp only; rw [if_neg (show ¬ nI 3 = 0 by decide), if_neg (show ¬ nI 3 = 2 by decide), if_pos (show nI 3 = 3 from rfl)]
  | 4, _ => rw [if_neg (show ¬ nI 4 = 0 by decide), if_neg (show ¬ nI 4 = 1 by decide), if_neg (show ¬ nI 4 = 2 by decide), if_neg (show ¬ nI 4 = 3 by decide), if_pos (show nI 4 = 4 from rfl), if_neg (show ¬ nI 4 = 1 by decide)]; dsimp only; rw [if_neg (show ¬ nI 4 = 0 by decide), if_neg (show ¬ nI 4 = 2 by decide), if_neg (show ¬ nI 4 = 3 by decide)]
-- comparing
theorem Q_cmp (x y : Int64) : (if f_I_isNoNumber_J (f_M_told_J x) = 0 then if f_I_isNoNumber_J (f_M_told_J y) = 0 then if f_M_order_JJ x y = -1 then (11 : Int32) else if f_M_order_JJ x y = 1 then (56 : Int32) else (22 : Int32) else (8 : Int32) else (8 : Int32)) = if f_M_order_JJ x y = -1 then (11 : Int32) else if f_M_order_JJ x y = 0 then (22 : Int32) else if f_M_order_JJ x y = 1 then (56 : Int32) else (8 : Int32) := by
  rw [← T_order x y]
  obtain ⟨a, ha, ea⟩ := l_of (f_M_told_J x)
  obtain ⟨b, hb, eb⟩ := l_of (f_M_told_J y)
  rw [ea, eb, m_order ha hb]
  have na := z_isNo ha
  have nb := z_isNo hb
  by_cases g1 : I64 < a % W64
  · rw [if_neg (fun q => na.mp q g1), if_pos (Or.inl g1)]; rfl
  rw [if_pos (na.mpr g1)]
  by_cases g2 : I64 < b % W64
  · rw [if_neg (fun q => nb.mp q g2), if_pos (Or.inr g2)]; rfl
  rw [if_pos (nb.mpr g2), if_neg (show ¬ (I64 < a % W64 ∨ I64 < b % W64) from fun q => q.elim g1 g2)]
  by_cases s1 : sv a < sv b
  · rw [if_pos s1]; rfl
  rw [if_neg s1]
  by_cases s2 : sv a = sv b
  · rw [if_pos s2]; rfl
  rw [if_neg s2]; rfl
theorem Z_compare {S : CS} {M : MS} (h : Rel 0 S M) (x1 x2 : Int32) : f_L_compare_II S x1 x2 = f_M_compare_II M x1 x2 := by
  unfold f_L_compare_II f_M_compare_II
  rw [b_store, b_store]
  by_cases c1 : f_M_in_II x1 (8 : Int32) = 0
  · rw [if_pos c1, if_pos c1]
  rw [if_neg c1, if_neg c1]
  by_cases c2 : f_M_in_II x2 (8 : Int32) = 0
  · rw [if_pos c2, if_pos c2]
  rw [if_neg c2, if_neg c2]
  rw [g_store h (in_8 c1), g_store h (in_8 c2), Q_less (f_M_told_J (m_store M x1.toNatClampNeg)), Q_lessR (f_M_told_J (m_store M x2.toNatClampNeg)), T_order, le_if, le_if]
  exact Q_cmp _ _
-- energy
theorem Z_motion {S : CS} {M : MS} (h : Rel 0 S M) {x : Int32} (v : vp_in x 8) : f_P_energyOfMotion_I S x = f_M_multiply_JJ (f_M_multiply_JJ (4602678819172646912 : Int64) (f_M_toDouble_J (m_m M x.toNatClampNeg))) (f_M_square_JJ (m_u M x.toNatClampNeg) (m_v M x.toNatClampNeg)) := by
  unfold f_P_energyOfMotion_I f_M_square_JJ
  simp only [g_u h v, g_v h v, g_m h v, Q_diff, Q_mul, Q_sum, Q_div, Q_products, L_add, R_add, L_sub, R_sub, L_mul, R_mul, L_div, R_div, L_ord, R_ord]
theorem Z_place {S : CS} {M : MS} (h : Rel 0 S M) {x : Int32} (v : vp_in x 8) : f_P_energyOfPlace_I S x = f_M_multiply_JJ (f_M_toDouble_J (m_m M x.toNatClampNeg)) (f_M_add_JJ (f_M_multiply_JJ (m_gx M) (m_x M x.toNatClampNeg)) (f_M_multiply_JJ (m_gy M) (m_y M x.toNatClampNeg))) := by
  unfold f_P_energyOfPlace_I
  simp only [g_x h v, g_y h v, g_m h v, g_gx h, g_gy h, n_gx h, n_gy h, Q_diff, Q_mul, Q_sum, Q_div, Q_products, L_add, R_add, L_sub, R_sub, L_mul, R_mul, L_div, R_div, L_ord, R_ord]
theorem Z_spr {S : CS} {M : MS} (h : Rel 0 S M) {x : Int32} {j : Nat} (hx : x = nI j) (hj : j < (sC S).toNatClampNeg) : f_P_energyOfSpring_I S x = f_M_multiply_JJ (f_M_multiply_JJ (f_M_multiply_JJ (4602678819172646912 : Int64) (f_M_toDouble_J (m_k M x.toNatClampNeg))) (f_M_subtract_JJ (f_M_distance_I M x) (f_M_toDouble_J (m_l M x.toNatClampNeg)))) (f_M_subtract_JJ (f_M_distance_I M x) (f_M_toDouble_J (m_l M x.toNatClampNeg))) := by
  obtain ⟨⟨e1, e2, v1, v2⟩, e3, e4, e5⟩ := sp_at h hx hj
  unfold f_P_energyOfSpring_I f_M_distance_I f_M_square_JJ
  simp only [e1, e2, e3, e4, e5, g_x h v1, g_x h v2, g_y h v1, g_y h v2, Q_diff, Q_mul, Q_sum, Q_div, Q_products, L_add, R_add, L_sub, R_sub, L_mul, R_mul, L_div, R_div, L_ord, R_ord, Q_rootA]
theorem Z_enL {S : CS} {M : MS} (h : Rel 0 S M) : ∀ (n : Nat) (e : Int64) (x : Int32) (j : Nat), x = nI j → j ≤ (sC S).toNatClampNeg → f_M_told_J e = e → f_P_wholeEnergy_36 n S e x = f_M_energy_99 n M e x
  | 0, e, x, j, _, _, _ => by rw [f_P_wholeEnergy_36, f_M_energy_99]
  | n + 1, e, x, j, hx, hj, he => by
    have ec : sC S = m_springs M := h.2.2.2.1.1
    rw [f_P_wholeEnergy_36, f_M_energy_99]
    by_cases c : m_springs M ≤ x
    · rw [if_pos (show sC S ≤ x by rw [ec]; exact c), if_pos c]; exact he.symm
    · have c' : ¬ sC S ≤ x := by rw [ec]; exact c
      have hb := h.2.2.2.1.2.1
      obtain ⟨a, b, d⟩ := in_to hb
      have hj' : j < (sC S).toNatClampNeg := by
        have t : (nI j).toInt = j := nI_toInt (by omega)
        have c2 := c'
        rw [Int32.le_iff_toInt_le, hx, t] at c2
        omega
      rw [if_neg c', if_neg c]
      dsimp only
      rw [Z_spr h hx hj', Q_sum]
      exact Z_enL h n _ _ (j + 1) (by rw [hx, nI_1]) (by omega) (D_add _ _)
theorem Z_energy {S : CS} {M : MS} (h : Rel 0 S M) : f_L_energy S = f_M_energy M := by
  have ec : sC S = m_springs M := h.2.2.2.1.1
  unfold f_L_energy f_P_wholeEnergy f_M_energy
  simp only [Z_motion h v8_0, Z_place h v8_0, Z_motion h v8_1, Z_place h v8_1, Z_motion h v8_2, Z_place h v8_2, Z_motion h v8_3, Z_place h v8_3, Z_motion h v8_4, Z_place h v8_4, Z_motion h v8_5, Z_place h v8_5, Z_motion h v8_6, Z_place h v8_6, Z_motion h v8_7, Z_place h v8_7, Q_sum, Q_diff]
  rw [← ec]
  exact Z_enL h _ _ _ 0 rfl (Nat.zero_le _) (D_sub _ _)
-- mean
theorem k_w0 : f_I_ofWhole_J ((1 : Int32).toInt64) = f_M_add_JJ (f_M_exact_ZJII (0 : Int32) ((0 : Int32).toInt64) (0 : Int32) (0 : Int32)) (4607182418800017408 : Int64) := by decide +kernel
theorem k_v0 : f_I_ofWhole_J (1 : Int64) = f_M_add_JJ (f_M_exact_ZJII (0 : Int32) (0 : Int64) (0 : Int32) (0 : Int32)) (4607182418800017408 : Int64) := by decide +kernel
theorem k_w1 : f_I_ofWhole_J ((2 : Int32).toInt64) = f_M_add_JJ (f_M_exact_ZJII (0 : Int32) ((1 : Int32).toInt64) (0 : Int32) (0 : Int32)) (4607182418800017408 : Int64) := by decide +kernel
theorem k_v1 : f_I_ofWhole_J (2 : Int64) = f_M_add_JJ (f_M_exact_ZJII (0 : Int32) (1 : Int64) (0 : Int32) (0 : Int32)) (4607182418800017408 : Int64) := by decide +kernel
theorem k_w2 : f_I_ofWhole_J ((3 : Int32).toInt64) = f_M_add_JJ (f_M_exact_ZJII (0 : Int32) ((2 : Int32).toInt64) (0 : Int32) (0 : Int32)) (4607182418800017408 : Int64) := by decide +kernel
theorem k_v2 : f_I_ofWhole_J (3 : Int64) = f_M_add_JJ (f_M_exact_ZJII (0 : Int32) (2 : Int64) (0 : Int32) (0 : Int32)) (4607182418800017408 : Int64) := by decide +kernel
theorem k_w3 : f_I_ofWhole_J ((4 : Int32).toInt64) = f_M_add_JJ (f_M_exact_ZJII (0 : Int32) ((3 : Int32).toInt64) (0 : Int32) (0 : Int32)) (4607182418800017408 : Int64) := by decide +kernel
theorem k_v3 : f_I_ofWhole_J (4 : Int64) = f_M_add_JJ (f_M_exact_ZJII (0 : Int32) (3 : Int64) (0 : Int32) (0 : Int32)) (4607182418800017408 : Int64) := by decide +kernel
theorem k_w4 : f_I_ofWhole_J ((5 : Int32).toInt64) = f_M_add_JJ (f_M_exact_ZJII (0 : Int32) ((4 : Int32).toInt64) (0 : Int32) (0 : Int32)) (4607182418800017408 : Int64) := by decide +kernel
theorem k_v4 : f_I_ofWhole_J (5 : Int64) = f_M_add_JJ (f_M_exact_ZJII (0 : Int32) (4 : Int64) (0 : Int32) (0 : Int32)) (4607182418800017408 : Int64) := by decide +kernel
theorem k_w5 : f_I_ofWhole_J ((6 : Int32).toInt64) = f_M_add_JJ (f_M_exact_ZJII (0 : Int32) ((5 : Int32).toInt64) (0 : Int32) (0 : Int32)) (4607182418800017408 : Int64) := by decide +kernel
theorem k_v5 : f_I_ofWhole_J (6 : Int64) = f_M_add_JJ (f_M_exact_ZJII (0 : Int32) (5 : Int64) (0 : Int32) (0 : Int32)) (4607182418800017408 : Int64) := by decide +kernel
theorem k_w6 : f_I_ofWhole_J ((7 : Int32).toInt64) = f_M_add_JJ (f_M_exact_ZJII (0 : Int32) ((6 : Int32).toInt64) (0 : Int32) (0 : Int32)) (4607182418800017408 : Int64) := by decide +kernel
theorem k_v6 : f_I_ofWhole_J (7 : Int64) = f_M_add_JJ (f_M_exact_ZJII (0 : Int32) (6 : Int64) (0 : Int32) (0 : Int32)) (4607182418800017408 : Int64) := by decide +kernel
theorem k_w7 : f_I_ofWhole_J ((8 : Int32).toInt64) = f_M_add_JJ (f_M_exact_ZJII (0 : Int32) ((7 : Int32).toInt64) (0 : Int32) (0 : Int32)) (4607182418800017408 : Int64) := by decide +kernel
theorem k_v7 : f_I_ofWhole_J (8 : Int64) = f_M_add_JJ (f_M_exact_ZJII (0 : Int32) (7 : Int64) (0 : Int32) (0 : Int32)) (4607182418800017408 : Int64) := by decide +kernel
theorem Z_meanS {S : CS} {M : MS} (h : Rel 0 S M) {x1 : Int32} (v : vp_in x1 6) (x2 : Int32) (c1 : ¬ f_M_in_II x1 (6 : Int32) = 0) (c2 : ¬ f_M_in_II x2 (2 : Int32) = 0) : f_P_meanOrSquares_IZ S x1 x2 = f_M_mean_II M x1 x2 := by
  unfold f_P_meanOrSquares_IZ f_M_mean_II
  rw [if_neg c1, if_neg c2]
  simp only [Z_num h v8_0 v, Z_num h v8_1 v, Z_num h v8_2 v, Z_num h v8_3 v, Z_num h v8_4 v, Z_num h v8_5 v, Z_num h v8_6 v, Z_num h v8_7 v, k_w0, k_v0, k_w1, k_v1, k_w2, k_v2, k_w3, k_v3, k_w4, k_v4, k_w5, k_v5, k_w6, k_v6, k_w7, k_v7, Q_diff, Q_mul, Q_sum, Q_div, Q_products, L_add, R_add, L_sub, R_sub, L_mul, R_mul, L_div, R_div, L_ord, R_ord, D_add]
theorem Z_mean {S : CS} {M : MS} (h : Rel 0 S M) (x1 x2 : Int32) : f_L_mean_II S x1 x2 = f_M_mean_II M x1 x2 := by
  by_cases c1 : f_M_in_II x1 (6 : Int32) = 0
  · unfold f_L_mean_II f_M_mean_II
    rw [b_num, if_pos c1, if_pos c1]
  by_cases c2 : f_M_in_II x2 (2 : Int32) = 0
  · unfold f_L_mean_II f_M_mean_II
    rw [b_num, if_neg c1, if_neg c1, if_pos c2]
    rcases in_out c2 with q | q
    · rw [if_pos q]
    · by_cases q0 : x2 < 0
      · rw [if_pos q0]
      · have q1 : ¬ x2 ≤ (1 : Int32) := by
          rw [Int32.le_iff_toInt_le] at q ⊢
          have a : (1 : Int32).toInt = 1 := rfl
          have b : (2 : Int32).toInt = 2 := rfl
          omega
        rw [if_neg q0, if_neg q1]
  have z := Z_meanS h (in_6 c1)
  unfold f_L_mean_II
  rw [b_num, if_neg c1]
  rcases in_c2 c2 with e | e <;> subst e
  · rw [if_neg (show ¬ (0 : Int32) < 0 by decide), if_pos (show (0 : Int32) ≤ 1 by decide), if_neg (show ¬ (0 : Int32) = 1 by decide)]; exact z _ c1 c2
  · rw [if_neg (show ¬ (1 : Int32) < 0 by decide), if_pos (show (1 : Int32) ≤ 1 by decide), if_pos (show (1 : Int32) = 1 from rfl)]; exact z _ c1 c2
theorem Z_horner {S : CS} {M : MS} (h : Rel 0 S M) (x1 : Int32) : f_L_horner_I S x1 = f_M_horner_I M x1 := by
  unfold f_L_horner_I f_M_horner_I
  rw [b_store]
  by_cases c1 : f_M_in_II x1 (8 : Int32) = 0
  · rw [if_pos c1, if_pos c1]
  rw [if_neg c1, if_neg c1]
  simp only [g_store h v8_0, n_store h (show 0 < 8 by decide), g_store h v8_1, n_store h (show 1 < 8 by decide), g_store h v8_2, n_store h (show 2 < 8 by decide), g_store h v8_3, n_store h (show 3 < 8 by decide), g_store h v8_4, n_store h (show 4 < 8 by decide), g_store h v8_5, n_store h (show 5 < 8 by decide), g_store h v8_6, n_store h (show 6 < 8 by decide), g_store h v8_7, n_store h (show 7 < 8 by decide), g_store h (in_8 c1), Q_diff, Q_mul, Q_sum, Q_div, Q_products, L_add, R_add, L_sub, R_sub, L_mul, R_mul, L_div, R_div, L_ord, R_ord, D_add]
theorem Z_single {S : CS} {M : MS} (h : Rel 0 S M) (x1 : Int32) : f_L_single_I S x1 = f_M_single_I M x1 := by
  unfold f_L_single_I f_M_single_I
  rw [b_store]
  by_cases c1 : f_M_in_II x1 (8 : Int32) = 0
  · rw [if_pos c1, if_pos c1]
  rw [if_neg c1, if_neg c1, g_store h (in_8 c1), Q_single]
theorem Z_from {S : CS} {M : MS} (h : Rel 0 S M) (x1 x2 : Int32) : RelP (f_L_fromSingle_II S x1 x2) (f_M_fromSingle_II M x1 x2) := by
  unfold f_L_fromSingle_II f_M_fromSingle_II
  rw [b_store]
  by_cases c1 : f_M_in_II x1 (8 : Int32) = 0
  · rw [if_pos c1, if_pos c1]; exact ⟨rfl, h⟩
  rw [if_neg c1, if_neg c1]
  exact Z_put h (by rw [D_dd (F_bits x2), Q_ofBits])
