/-! OUR OWN ROWS: forces, springs, moves, walls, hits, steps: the relation is kept -/
def fld (M : MS) (x : Int32) : MS :=
  let S2 : MS := u_m_fx M (vp_updL (m_fx M) x.toNatClampNeg (f_M_subtract_JJ (f_M_multiply_JJ (f_M_toDouble_J (m_m M x.toNatClampNeg)) (m_gx M)) (f_M_multiply_JJ (m_drag M) (m_u M x.toNatClampNeg))))
  u_m_fy S2 (vp_updL (m_fy S2) x.toNatClampNeg (f_M_subtract_JJ (f_M_multiply_JJ (f_M_toDouble_J (m_m S2 x.toNatClampNeg)) (m_gy S2)) (f_M_multiply_JJ (m_drag S2) (m_v S2 x.toNatClampNeg))))
theorem Z_field {n : Nat} {S : CS} {M : MS} {x : Int32} (h : Rel n S M) (hx : vp_in x 8) (e : x.toNatClampNeg = n) : Rel (n + 1) (f_P_pullByField_I S x) (fld M x) := by
  have hn : n < 8 := by rw [← e]; exact in_n hx
  have k1 : ((48 : Int32) + x).toNatClampNeg = 48 + n := by rw [ix48 hx, e]
  have k2 : ((56 : Int32) + x).toNatClampNeg = 56 + n := by rw [ix56 hx, e]
  have e1 : f_I_difference_JJ (f_I_product_JJ (sR S ((32 : Int32) + x).toNatClampNeg) (sF S (0 : Int32).toNatClampNeg)) (f_I_product_JJ (sF S (2 : Int32).toNatClampNeg) (sR S ((16 : Int32) + x).toNatClampNeg)) = f_M_told_J (f_M_subtract_JJ (f_M_multiply_JJ (f_M_toDouble_J (m_m M n)) (m_gx M)) (f_M_multiply_JJ (m_drag M) (m_u M n))) := by
    rw [g_m h hx, g_gx h, g_drag h, g_u h hx, e]
    simp only [Q_diff, Q_mul, Q_sum, Q_div, Q_products, L_add, R_add, L_sub, R_sub, L_mul, R_mul, L_div, R_div, L_ord, R_ord, D_sub]
  have e2 : f_I_difference_JJ (f_I_product_JJ (sR S ((32 : Int32) + x).toNatClampNeg) (sF S (1 : Int32).toNatClampNeg)) (f_I_product_JJ (sF S (2 : Int32).toNatClampNeg) (sR S ((24 : Int32) + x).toNatClampNeg)) = f_M_told_J (f_M_subtract_JJ (f_M_multiply_JJ (f_M_toDouble_J (m_m M n)) (m_gy M)) (f_M_multiply_JJ (m_drag M) (m_v M n))) := by
    rw [g_m h hx, g_gy h, g_drag h, g_v h hx, e]
    simp only [Q_diff, Q_mul, Q_sum, Q_div, Q_products, L_add, R_add, L_sub, R_sub, L_mul, R_mul, L_div, R_div, L_ord, R_ord, D_sub]
  have e3 : sR (u_sR S (vp_updL (sR S) ((48 : Int32) + x).toNatClampNeg (f_I_difference_JJ (f_I_product_JJ (sR S ((32 : Int32) + x).toNatClampNeg) (sF S (0 : Int32).toNatClampNeg)) (f_I_product_JJ (sF S (2 : Int32).toNatClampNeg) (sR S ((16 : Int32) + x).toNatClampNeg))))) ((24 : Int32) + x).toNatClampNeg = sR S ((24 : Int32) + x).toNatClampNeg := by
    exact rd_off (by rw [ix24 hx, ix48 hx]; omega)
  unfold f_P_pullByField_I fld
  dsimp only
  rw [e3, e]
  exact set_force h hn k1 k2 e1 e2
theorem Z_pull {S : CS} {M : MS} {x : Int32} {j : Nat} (h : Rel 8 S M) (hx : x = nI j) (hj : j < (sC S).toNatClampNeg) : Rel 8 (f_P_pullBySpring_I S x) (f_M_pull_I M x) := by
  obtain ⟨⟨e1, e2, v1, v2⟩, e3, e4, e5⟩ := sp_at h hx hj
  unfold f_P_pullBySpring_I f_M_pull_I f_M_distance_I f_M_square_JJ
  simp only [e1, e2, e3, e4, e5, g_x h v1, g_x h v2, g_y h v1, g_y h v2, g_u h v1, g_u h v2, g_v h v1, g_v h v2, Q_diff, Q_mul, Q_sum, Q_div, Q_products, L_add, R_add, L_sub, R_sub, L_mul, R_mul, L_div, R_div, L_ord, R_ord, Q_rootA, Q_lessR (0 : Int64), le_if]
  refine rel_if (fun _ => ?_) (fun _ => h)
  exact rw_fy_sub (rw_fx_sub (rw_fy_add (rw_fx_add h (in_n v1) (ix48 v1)) (in_n v1) (ix56 v1)) (in_n v2) (ix48 v2)) (in_n v2) (ix56 v2)
theorem Z_hit {S : CS} {M : MS} {x y : Int32} (h : Rel 8 S M) (v1 : vp_in x 8) (v2 : vp_in y 8) : Rel 8 (f_P_collide_II S x y) (f_M_hit_II M x y) := by
  have a1 := f_r h v1
  have a2 := f_r h v2
  unfold f_P_collide_II f_M_hit_II f_M_square_JJ
  simp only [g_x h v1, g_x h v2, g_y h v1, g_y h v2, g_u h v1, g_u h v2, g_v h v1, g_v h v2, g_m h v1, g_m h v2, g_r h v1, g_r h v2, Q_diff, Q_mul, Q_sum, Q_div, Q_products, L_add, R_add, L_sub, R_sub, L_mul, R_mul, L_div, R_div, L_ord, R_ord, F_add a1 a2, F_add (f_m h v1) (f_m h v2), F_mul (F_addF a1 a2) (F_addF a1 a2), Q_lessR (0 : Int64), le_if]
  simp only [Q_less, le_if]
  refine rel_if (fun _ => ?_) (fun _ => h)
  refine rel_if (fun _ => ?_) (fun _ => h)
  refine rel_if (fun _ => ?_) (fun _ => h)
  exact rw_v_add (rw_u_add (rw_v_sub (set_u h (in_n v1) (ix16 v1) (D_sub _ _).symm) (in_n v1) (ix24 v1)) (in_n v2) (ix16 v2)) (in_n v2) (ix24 v2)
-- moves: the reference's halves, one after the other or both at once
def gu (M : MS) (i : Nat) : MS := u_m_u M (vp_updL (m_u M) i (f_M_add_JJ (m_u M i) (f_M_multiply_JJ (f_M_divide_JJ (m_fx M i) (f_M_toDouble_J (m_m M i))) (f_M_toDouble_J (m_dt M)))))
def gv (M : MS) (i : Nat) : MS := u_m_v M (vp_updL (m_v M) i (f_M_add_JJ (m_v M i) (f_M_multiply_JJ (f_M_divide_JJ (m_fy M i) (f_M_toDouble_J (m_m M i))) (f_M_toDouble_J (m_dt M)))))
def gx (M : MS) (i : Nat) : MS := u_m_x M (vp_updL (m_x M) i (f_M_add_JJ (m_x M i) (f_M_multiply_JJ (m_u M i) (f_M_toDouble_J (m_dt M)))))
def gy (M : MS) (i : Nat) : MS := u_m_y M (vp_updL (m_y M) i (f_M_add_JJ (m_y M i) (f_M_multiply_JJ (m_v M i) (f_M_toDouble_J (m_dt M)))))
def hix (M : MS) (i : Nat) : MS := u_m_x M (vp_updL (m_x M) i (f_M_subtract_JJ (m_wall M) (f_M_multiply_JJ (f_M_subtract_JJ (m_x M i) (m_wall M)) (f_M_toDouble_J (m_back M)))))
def lox (M : MS) (i : Nat) : MS := u_m_x M (vp_updL (m_x M) i (f_M_subtract_JJ (f_M_turned_JI (m_wall M) (0 : Int32)) (f_M_multiply_JJ (f_M_add_JJ (m_x M i) (m_wall M)) (f_M_toDouble_J (m_back M)))))
def tbx (M : MS) (i : Nat) : MS := u_m_u M (vp_updL (m_u M) i (f_M_turned_JI (f_M_multiply_JJ (m_u M i) (f_M_toDouble_J (m_back M))) (0 : Int32)))
def wx (M : MS) (i : Nat) : MS := if f_M_order_JJ (m_x M i) (m_wall M) = (1 : Int32) then tbx (hix M i) i else if f_M_order_JJ (m_x M i) (f_M_turned_JI (m_wall M) (0 : Int32)) = (-1 : Int32) then tbx (lox M i) i else M
def hiy (M : MS) (i : Nat) : MS := u_m_y M (vp_updL (m_y M) i (f_M_subtract_JJ (m_wall M) (f_M_multiply_JJ (f_M_subtract_JJ (m_y M i) (m_wall M)) (f_M_toDouble_J (m_back M)))))
def loy (M : MS) (i : Nat) : MS := u_m_y M (vp_updL (m_y M) i (f_M_subtract_JJ (f_M_turned_JI (m_wall M) (0 : Int32)) (f_M_multiply_JJ (f_M_add_JJ (m_y M i) (m_wall M)) (f_M_toDouble_J (m_back M)))))
def tby (M : MS) (i : Nat) : MS := u_m_v M (vp_updL (m_v M) i (f_M_turned_JI (f_M_multiply_JJ (m_v M i) (f_M_toDouble_J (m_back M))) (0 : Int32)))
def wy (M : MS) (i : Nat) : MS := if f_M_order_JJ (m_y M i) (m_wall M) = (1 : Int32) then tby (hiy M i) i else if f_M_order_JJ (m_y M i) (f_M_turned_JI (m_wall M) (0 : Int32)) = (-1 : Int32) then tby (loy M i) i else M
theorem go0 (M : MS) (x : Int32) : f_M_go_AJAJAJI_0 M x = wx (gx (gu M x.toNatClampNeg) x.toNatClampNeg) x.toNatClampNeg := rfl
theorem go1 (M : MS) (x : Int32) : f_M_go_AJAJAJI_1 M x = wy (gy (gv M x.toNatClampNeg) x.toNatClampNeg) x.toNatClampNeg := rfl
theorem gv_gx (M : MS) (i : Nat) : gv (gx M i) i = gx (gv M i) i := rfl
theorem gv_wx (M : MS) (i : Nat) : gv (wx M i) i = wx (gv M i) i := by
  by_cases c1 : f_M_order_JJ (m_x M i) (m_wall M) = (1 : Int32)
  · have a : wx M i = tbx (hix M i) i := if_pos c1
    have b : wx (gv M i) i = tbx (hix (gv M i) i) i := if_pos (show f_M_order_JJ (m_x (gv M i) i) (m_wall (gv M i)) = (1 : Int32) from c1)
    rw [a, b]; rfl
  · by_cases c2 : f_M_order_JJ (m_x M i) (f_M_turned_JI (m_wall M) (0 : Int32)) = (-1 : Int32)
    · have a : wx M i = tbx (lox M i) i := by unfold wx; rw [if_neg c1, if_pos c2]
      have b : wx (gv M i) i = tbx (lox (gv M i) i) i := by
        unfold wx
        rw [if_neg (show ¬ f_M_order_JJ (m_x (gv M i) i) (m_wall (gv M i)) = (1 : Int32) from c1), if_pos (show f_M_order_JJ (m_x (gv M i) i) (f_M_turned_JI (m_wall (gv M i)) (0 : Int32)) = (-1 : Int32) from c2)]
      rw [a, b]; rfl
    · have a : wx M i = M := by unfold wx; rw [if_neg c1, if_neg c2]
      have b : wx (gv M i) i = gv M i := by
        unfold wx
        rw [if_neg (show ¬ f_M_order_JJ (m_x (gv M i) i) (m_wall (gv M i)) = (1 : Int32) from c1), if_neg (show ¬ f_M_order_JJ (m_x (gv M i) i) (f_M_turned_JI (m_wall (gv M i)) (0 : Int32)) = (-1 : Int32) from c2)]
      rw [a, b]
theorem gy_wx (M : MS) (i : Nat) : gy (wx M i) i = wx (gy M i) i := by
  by_cases c1 : f_M_order_JJ (m_x M i) (m_wall M) = (1 : Int32)
  · have a : wx M i = tbx (hix M i) i := if_pos c1
    have b : wx (gy M i) i = tbx (hix (gy M i) i) i := if_pos (show f_M_order_JJ (m_x (gy M i) i) (m_wall (gy M i)) = (1 : Int32) from c1)
    rw [a, b]; rfl
  · by_cases c2 : f_M_order_JJ (m_x M i) (f_M_turned_JI (m_wall M) (0 : Int32)) = (-1 : Int32)
    · have a : wx M i = tbx (lox M i) i := by unfold wx; rw [if_neg c1, if_pos c2]
      have b : wx (gy M i) i = tbx (lox (gy M i) i) i := by
        unfold wx
        rw [if_neg (show ¬ f_M_order_JJ (m_x (gy M i) i) (m_wall (gy M i)) = (1 : Int32) from c1), if_pos (show f_M_order_JJ (m_x (gy M i) i) (f_M_turned_JI (m_wall (gy M i)) (0 : Int32)) = (-1 : Int32) from c2)]
      rw [a, b]; rfl
    · have a : wx M i = M := by unfold wx; rw [if_neg c1, if_neg c2]
      have b : wx (gy M i) i = gy M i := by
        unfold wx
        rw [if_neg (show ¬ f_M_order_JJ (m_x (gy M i) i) (m_wall (gy M i)) = (1 : Int32) from c1), if_neg (show ¬ f_M_order_JJ (m_x (gy M i) i) (f_M_turned_JI (m_wall (gy M i)) (0 : Int32)) = (-1 : Int32) from c2)]
      rw [a, b]
theorem go_both (M : MS) (x : Int32) : f_M_go_AJAJAJI_1 (f_M_go_AJAJAJI_0 M x) x = wy (wx (gy (gx (gv (gu M x.toNatClampNeg) x.toNatClampNeg) x.toNatClampNeg) x.toNatClampNeg) x.toNatClampNeg) x.toNatClampNeg := by
  rw [go1, go0, gv_wx, gy_wx, gv_gx]
theorem Z_gu {S : CS} {M : MS} {x : Int32} (h : Rel 8 S M) (hx : vp_in x 8) : Rel 8 (u_sR S (vp_updL (sR S) ((16 : Int32) + x).toNatClampNeg (f_P_afterDt_JJ S (sR S ((16 : Int32) + x).toNatClampNeg) (f_I_quotient_JJ (sR S ((48 : Int32) + x).toNatClampNeg) (sR S ((32 : Int32) + x).toNatClampNeg))))) (gu M x.toNatClampNeg) := by
  refine set_u h (in_n hx) (ix16 hx) ?_
  unfold f_P_afterDt_JJ
  rw [g_u h hx, g_fx h hx, g_m h hx, g_dt h]
  simp only [Q_diff, Q_mul, Q_sum, Q_div, Q_products, L_add, R_add, L_sub, R_sub, L_mul, R_mul, L_div, R_div, L_ord, R_ord, D_add]
theorem Z_gv {S : CS} {M : MS} {x : Int32} (h : Rel 8 S M) (hx : vp_in x 8) : Rel 8 (u_sR S (vp_updL (sR S) ((24 : Int32) + x).toNatClampNeg (f_P_afterDt_JJ S (sR S ((24 : Int32) + x).toNatClampNeg) (f_I_quotient_JJ (sR S ((56 : Int32) + x).toNatClampNeg) (sR S ((32 : Int32) + x).toNatClampNeg))))) (gv M x.toNatClampNeg) := by
  refine set_v h (in_n hx) (ix24 hx) ?_
  unfold f_P_afterDt_JJ
  rw [g_v h hx, g_fy h hx, g_m h hx, g_dt h]
  simp only [Q_diff, Q_mul, Q_sum, Q_div, Q_products, L_add, R_add, L_sub, R_sub, L_mul, R_mul, L_div, R_div, L_ord, R_ord, D_add]
theorem Z_gx {S : CS} {M : MS} {x : Int32} (h : Rel 8 S M) (hx : vp_in x 8) : Rel 8 (u_sR S (vp_updL (sR S) ((0 : Int32) + x).toNatClampNeg (f_P_afterDt_JJ S (sR S ((0 : Int32) + x).toNatClampNeg) (sR S ((16 : Int32) + x).toNatClampNeg)))) (gx M x.toNatClampNeg) := by
  refine set_x h (in_n hx) (ix0 hx) ?_
  unfold f_P_afterDt_JJ
  rw [g_x h hx, g_u h hx, g_dt h]
  simp only [Q_diff, Q_mul, Q_sum, Q_div, Q_products, L_add, R_add, L_sub, R_sub, L_mul, R_mul, L_div, R_div, L_ord, R_ord, D_add]
theorem Z_gy {S : CS} {M : MS} {x : Int32} (h : Rel 8 S M) (hx : vp_in x 8) : Rel 8 (u_sR S (vp_updL (sR S) ((8 : Int32) + x).toNatClampNeg (f_P_afterDt_JJ S (sR S ((8 : Int32) + x).toNatClampNeg) (sR S ((24 : Int32) + x).toNatClampNeg)))) (gy M x.toNatClampNeg) := by
  refine set_y h (in_n hx) (ix8 hx) ?_
  unfold f_P_afterDt_JJ
  rw [g_y h hx, g_v h hx, g_dt h]
  simp only [Q_diff, Q_mul, Q_sum, Q_div, Q_products, L_add, R_add, L_sub, R_sub, L_mul, R_mul, L_div, R_div, L_ord, R_ord, D_add]
theorem Z_move {S : CS} {M : MS} {x : Int32} (h : Rel 8 S M) (hx : vp_in x 8) : Rel 8 (f_P_move_I S x) (gy (gx (gv (gu M x.toNatClampNeg) x.toNatClampNeg) x.toNatClampNeg) x.toNatClampNeg) := by
  unfold f_P_move_I
  exact Z_gy (Z_gx (Z_gv (Z_gu h hx) hx) hx) hx
theorem Z_wx {S : CS} {M : MS} {p q : Int32} {i : Nat} (h : Rel 8 S M) (hi : i < 8) (hp : p.toNatClampNeg = 0 + i) (hq : q.toNatClampNeg = 16 + i) : Rel 8 (f_P_keepInside_II S p q) (wx M i) := by
  have e1 := at_x h hi hp
  have e2 := g_wall h
  have e3 := g_back h
  have e6 := n_wall h
  have e7 := n_back h
  have e4 : f_I_less_JJ (f_M_told_J (m_wall M)) (f_M_told_J (m_x M i)) = if f_M_order_JJ (m_x M i) (m_wall M) = (1 : Int32) then 1 else 0 := by rw [Q_lessR, T_order]
  have e5 : f_I_less_JJ (f_M_told_J (m_x M i)) (f_M_told_J (f_M_turned_JI (m_wall M) (0 : Int32))) = if f_M_order_JJ (m_x M i) (f_M_turned_JI (m_wall M) (0 : Int32)) = (-1 : Int32) then 1 else 0 := by rw [Q_less, T_order]
  have kH : Rel 8 (u_sR S (vp_updL (sR S) p.toNatClampNeg (f_M_subtract_JJ (m_wall M) (f_M_multiply_JJ (f_M_subtract_JJ (m_x M i) (m_wall M)) (f_M_toDouble_J (m_back M)))))) (hix M i) := set_x h hi hp (D_sub _ _).symm
  have kL : Rel 8 (u_sR S (vp_updL (sR S) p.toNatClampNeg (f_M_subtract_JJ (f_M_turned_JI (m_wall M) (0 : Int32)) (f_M_multiply_JJ (f_M_add_JJ (m_x M i) (m_wall M)) (f_M_toDouble_J (m_back M)))))) (lox M i) := set_x h hi hp (D_sub _ _).symm
  have jH := rw_u_back kH hi hq
  have jL := rw_u_back kL hi hq
  unfold f_P_keepInside_II wx
  simp only [e1, e2, e3, e6, e7, Q_neg, e4, e5, Q_diff, Q_mul, Q_sum, Q_div, Q_products, L_add, R_add, L_sub, R_sub, L_mul, R_mul, L_div, R_div, L_ord, R_ord, V_sub]
  by_cases c1 : f_M_order_JJ (m_x M i) (m_wall M) = (1 : Int32)
  · simp only [if_pos c1, if_neg (show ¬ (1 : Int32) = 0 by decide)]
    exact jH
  · simp only [if_neg c1, if_pos (show (0 : Int32) = 0 from rfl)]
    by_cases c2 : f_M_order_JJ (m_x M i) (f_M_turned_JI (m_wall M) (0 : Int32)) = (-1 : Int32)
    · simp only [if_pos c2, if_neg (show ¬ (1 : Int32) = 0 by decide)]
      exact jL
    · simp only [if_neg c2, if_pos (show (0 : Int32) = 0 from rfl)]
      exact h
theorem Z_wy {S : CS} {M : MS} {p q : Int32} {i : Nat} (h : Rel 8 S M) (hi : i < 8) (hp : p.toNatClampNeg = 8 + i) (hq : q.toNatClampNeg = 24 + i) : Rel 8 (f_P_keepInside_II S p q) (wy M i) := by
  have e1 := at_y h hi hp
  have e2 := g_wall h
  have e3 := g_back h
  have e6 := n_wall h
  have e7 := n_back h
  have e4 : f_I_less_JJ (f_M_told_J (m_wall M)) (f_M_told_J (m_y M i)) = if f_M_order_JJ (m_y M i) (m_wall M) = (1 : Int32) then 1 else 0 := by rw [Q_lessR, T_order]
  have e5 : f_I_less_JJ (f_M_told_J (m_y M i)) (f_M_told_J (f_M_turned_JI (m_wall M) (0 : Int32))) = if f_M_order_JJ (m_y M i) (f_M_turned_JI (m_wall M) (0 : Int32)) = (-1 : Int32) then 1 else 0 := by rw [Q_less, T_order]
  have kH : Rel 8 (u_sR S (vp_updL (sR S) p.toNatClampNeg (f_M_subtract_JJ (m_wall M) (f_M_multiply_JJ (f_M_subtract_JJ (m_y M i) (m_wall M)) (f_M_toDouble_J (m_back M)))))) (hiy M i) := set_y h hi hp (D_sub _ _).symm
  have kL : Rel 8 (u_sR S (vp_updL (sR S) p.toNatClampNeg (f_M_subtract_JJ (f_M_turned_JI (m_wall M) (0 : Int32)) (f_M_multiply_JJ (f_M_add_JJ (m_y M i) (m_wall M)) (f_M_toDouble_J (m_back M)))))) (loy M i) := set_y h hi hp (D_sub _ _).symm
  have jH := rw_v_back kH hi hq
  have jL := rw_v_back kL hi hq
  unfold f_P_keepInside_II wy
  simp only [e1, e2, e3, e6, e7, Q_neg, e4, e5, Q_diff, Q_mul, Q_sum, Q_div, Q_products, L_add, R_add, L_sub, R_sub, L_mul, R_mul, L_div, R_div, L_ord, R_ord, V_sub]
  by_cases c1 : f_M_order_JJ (m_y M i) (m_wall M) = (1 : Int32)
  · simp only [if_pos c1, if_neg (show ¬ (1 : Int32) = 0 by decide)]
    exact jH
  · simp only [if_neg c1, if_pos (show (0 : Int32) = 0 from rfl)]
    by_cases c2 : f_M_order_JJ (m_y M i) (f_M_turned_JI (m_wall M) (0 : Int32)) = (-1 : Int32)
    · simp only [if_pos c2, if_neg (show ¬ (1 : Int32) = 0 by decide)]
      exact jL
    · simp only [if_neg c2, if_pos (show (0 : Int32) = 0 from rfl)]
      exact h
theorem Z_body {S : CS} {M : MS} {x p q p' q' : Int32} (h : Rel 8 S M) (hx : vp_in x 8) (hp : p.toNatClampNeg = 0 + x.toNatClampNeg) (hq : q.toNatClampNeg = 16 + x.toNatClampNeg) (hp' : p'.toNatClampNeg = 8 + x.toNatClampNeg) (hq' : q'.toNatClampNeg = 24 + x.toNatClampNeg) :
    Rel 8 (f_P_keepInside_II (f_P_keepInside_II (f_P_move_I S x) p q) p' q') (f_M_go_AJAJAJI_1 (f_M_go_AJAJAJI_0 M x) x) := by
  rw [go_both]
  exact Z_wy (Z_wx (Z_move h hx) (in_n hx) hp hq) (in_n hx) hp' hq'
-- one step
theorem v8_0 : vp_in (0 : Int32) 8 := in_of (by decide) (by decide)
theorem Z_b0 {S : CS} {M : MS} (h : Rel 8 S M) : Rel 8 (f_P_keepInside_II (f_P_keepInside_II (f_P_move_I S (0 : Int32)) (0 : Int32) (16 : Int32)) (8 : Int32) (24 : Int32)) (f_M_go_AJAJAJI_1 (f_M_go_AJAJAJI_0 M (0 : Int32)) (0 : Int32)) := Z_body h v8_0 (by decide) (by decide) (by decide) (by decide)
theorem v8_1 : vp_in (1 : Int32) 8 := in_of (by decide) (by decide)
theorem Z_b1 {S : CS} {M : MS} (h : Rel 8 S M) : Rel 8 (f_P_keepInside_II (f_P_keepInside_II (f_P_move_I S (1 : Int32)) (1 : Int32) (17 : Int32)) (9 : Int32) (25 : Int32)) (f_M_go_AJAJAJI_1 (f_M_go_AJAJAJI_0 M (1 : Int32)) (1 : Int32)) := Z_body h v8_1 (by decide) (by decide) (by decide) (by decide)
theorem v8_2 : vp_in (2 : Int32) 8 := in_of (by decide) (by decide)
theorem Z_b2 {S : CS} {M : MS} (h : Rel 8 S M) : Rel 8 (f_P_keepInside_II (f_P_keepInside_II (f_P_move_I S (2 : Int32)) (2 : Int32) (18 : Int32)) (10 : Int32) (26 : Int32)) (f_M_go_AJAJAJI_1 (f_M_go_AJAJAJI_0 M (2 : Int32)) (2 : Int32)) := Z_body h v8_2 (by decide) (by decide) (by decide) (by decide)
theorem v8_3 : vp_in (3 : Int32) 8 := in_of (by decide) (by decide)
theorem Z_b3 {S : CS} {M : MS} (h : Rel 8 S M) : Rel 8 (f_P_keepInside_II (f_P_keepInside_II (f_P_move_I S (3 : Int32)) (3 : Int32) (19 : Int32)) (11 : Int32) (27 : Int32)) (f_M_go_AJAJAJI_1 (f_M_go_AJAJAJI_0 M (3 : Int32)) (3 : Int32)) := Z_body h v8_3 (by decide) (by decide) (by decide) (by decide)
theorem v8_4 : vp_in (4 : Int32) 8 := in_of (by decide) (by decide)
theorem Z_b4 {S : CS} {M : MS} (h : Rel 8 S M) : Rel 8 (f_P_keepInside_II (f_P_keepInside_II (f_P_move_I S (4 : Int32)) (4 : Int32) (20 : Int32)) (12 : Int32) (28 : Int32)) (f_M_go_AJAJAJI_1 (f_M_go_AJAJAJI_0 M (4 : Int32)) (4 : Int32)) := Z_body h v8_4 (by decide) (by decide) (by decide) (by decide)
theorem v8_5 : vp_in (5 : Int32) 8 := in_of (by decide) (by decide)
theorem Z_b5 {S : CS} {M : MS} (h : Rel 8 S M) : Rel 8 (f_P_keepInside_II (f_P_keepInside_II (f_P_move_I S (5 : Int32)) (5 : Int32) (21 : Int32)) (13 : Int32) (29 : Int32)) (f_M_go_AJAJAJI_1 (f_M_go_AJAJAJI_0 M (5 : Int32)) (5 : Int32)) := Z_body h v8_5 (by decide) (by decide) (by decide) (by decide)
theorem v8_6 : vp_in (6 : Int32) 8 := in_of (by decide) (by decide)
theorem Z_b6 {S : CS} {M : MS} (h : Rel 8 S M) : Rel 8 (f_P_keepInside_II (f_P_keepInside_II (f_P_move_I S (6 : Int32)) (6 : Int32) (22 : Int32)) (14 : Int32) (30 : Int32)) (f_M_go_AJAJAJI_1 (f_M_go_AJAJAJI_0 M (6 : Int32)) (6 : Int32)) := Z_body h v8_6 (by decide) (by decide) (by decide) (by decide)
theorem v8_7 : vp_in (7 : Int32) 8 := in_of (by decide) (by decide)
theorem Z_b7 {S : CS} {M : MS} (h : Rel 8 S M) : Rel 8 (f_P_keepInside_II (f_P_keepInside_II (f_P_move_I S (7 : Int32)) (7 : Int32) (23 : Int32)) (15 : Int32) (31 : Int32)) (f_M_go_AJAJAJI_1 (f_M_go_AJAJAJI_0 M (7 : Int32)) (7 : Int32)) := Z_body h v8_7 (by decide) (by decide) (by decide) (by decide)
theorem Z_all {n : Nat} {S : CS} {M : MS} {x : Int32} (h : Rel 8 S M) (c : sC S ≤ x) (c' : m_springs M ≤ x) : Rel 8 (f_P_advance_21 (n + 1) S x) (f_M_once_92 (n + 1) M x) := by
  rw [f_P_advance_21, f_M_once_92]
  rw [if_pos c, if_pos c']
  dsimp only
  exact Z_hit (Z_hit (Z_hit (Z_hit (Z_hit (Z_hit (Z_hit (Z_hit (Z_hit (Z_hit (Z_hit (Z_hit (Z_hit (Z_hit (Z_hit (Z_hit (Z_hit (Z_hit (Z_hit (Z_hit (Z_hit (Z_hit (Z_hit (Z_hit (Z_hit (Z_hit (Z_hit (Z_hit (Z_b7 (Z_b6 (Z_b5 (Z_b4 (Z_b3 (Z_b2 (Z_b1 (Z_b0 (h))))))))) v8_0 v8_1) v8_0 v8_2) v8_0 v8_3) v8_0 v8_4) v8_0 v8_5) v8_0 v8_6) v8_0 v8_7) v8_1 v8_2) v8_1 v8_3) v8_1 v8_4) v8_1 v8_5) v8_1 v8_6) v8_1 v8_7) v8_2 v8_3) v8_2 v8_4) v8_2 v8_5) v8_2 v8_6) v8_2 v8_7) v8_3 v8_4) v8_3 v8_5) v8_3 v8_6) v8_3 v8_7) v8_4 v8_5) v8_4 v8_6) v8_4 v8_7) v8_5 v8_6) v8_5 v8_7) v8_6 v8_7
theorem Z_adv : ∀ (n : Nat) (S : CS) (M : MS) (x : Int32) (j : Nat), Rel 8 S M → x = nI j → j ≤ (sC S).toNatClampNeg → Rel 8 (f_P_advance_21 n S x) (f_M_once_92 n M x)
  | 0, S, M, x, j, h, _, _ => by rw [f_P_advance_21, f_M_once_92]; exact h
  | n + 1, S, M, x, j, h, hx, hj => by
    have ec : sC S = m_springs M := h.2.2.2.1.1
    by_cases c : sC S ≤ x
    · exact Z_all h c (by rw [← ec]; exact c)
    · have hb := h.2.2.2.1.2.1
      obtain ⟨a, b, d⟩ := in_to hb
      have hj' : j < (sC S).toNatClampNeg := by
        have t : (nI j).toInt = j := nI_toInt (by omega)
        have c2 := c
        rw [Int32.le_iff_toInt_le, hx, t] at c2
        omega
      have hp := Z_pull h hx hj'
      have c3 : ¬ m_springs M ≤ x := by rw [← ec]; exact c
      rw [f_P_advance_21, f_M_once_92]
      rw [if_neg c, if_neg c3]
      exact Z_adv n _ _ _ (j + 1) hp (by rw [hx, nI_1]) (by rw [(kp_pull S x).2]; omega)
theorem on_step {n : Nat} {M : MS} {x : Int32} (c : ¬ (8 : Int32) ≤ x) : f_M_once_2 (n + 1) M x = f_M_once_2 n (fld M x) (x + 1) := by
  rw [f_M_once_2]; exact (if_neg c).trans rfl
theorem on_end {n : Nat} {M : MS} {x : Int32} (c : (8 : Int32) ≤ x) : f_M_once_2 (n + 1) M x = f_M_once_92 ((m_springs M).toNatClampNeg + 1) M (0 : Int32) := by
  rw [f_M_once_2]; exact if_pos c
theorem on_all (M : MS) : f_M_once M = f_M_once_92 ((m_springs (fld (fld (fld (fld (fld (fld (fld (fld M 0) 1) 2) 3) 4) 5) 6) 7)).toNatClampNeg + 1) (fld (fld (fld (fld (fld (fld (fld (fld M 0) 1) 2) 3) 4) 5) 6) 7) (0 : Int32) := by
  have e8 : (8 : Int32).toNatClampNeg + 1 = 9 := rfl
  unfold f_M_once
  rw [e8, on_step (x := (0 : Int32)) (by decide), show (0 : Int32) + 1 = 1 from rfl, on_step (x := (1 : Int32)) (by decide), show (1 : Int32) + 1 = 2 from rfl, on_step (x := (2 : Int32)) (by decide), show (2 : Int32) + 1 = 3 from rfl, on_step (x := (3 : Int32)) (by decide), show (3 : Int32) + 1 = 4 from rfl, on_step (x := (4 : Int32)) (by decide), show (4 : Int32) + 1 = 5 from rfl, on_step (x := (5 : Int32)) (by decide), show (5 : Int32) + 1 = 6 from rfl, on_step (x := (6 : Int32)) (by decide), show (6 : Int32) + 1 = 7 from rfl, on_step (x := (7 : Int32)) (by decide), show (7 : Int32) + 1 = 8 from rfl, on_end (x := (8 : Int32)) (by decide)]
theorem Z_once {n : Nat} {S : CS} {M : MS} (h : Rel n S M) : Rel 8 (f_P_advance S) (f_M_once M) := by
  have h0 : Rel 0 S M := rel_less h (Nat.zero_le _)
  have h8 := Z_field (Z_field (Z_field (Z_field (Z_field (Z_field (Z_field (Z_field h0 v8_0 rfl) v8_1 rfl) v8_2 rfl) v8_3 rfl) v8_4 rfl) v8_5 rfl) v8_6 rfl) v8_7 rfl
  have ec := h8.2.2.2.1.1
  rw [on_all, ← ec]
  unfold f_P_advance
  dsimp only
  exact Z_adv _ _ _ _ 0 h8 rfl (Nat.zero_le _)
abbrev RelP {α : Type} (p : α × CS) (q : α × MS) : Prop := p.1 = q.1 ∧ Rel 0 p.2 q.2
theorem Z_stepL : ∀ (n : Nat) (S : CS) (M : MS) (x y : Int32), Rel 0 S M → RelP (f_L_step_I_14 n S x y) (f_M_step_I_14 n M x y)
  | 0, S, M, x, y, h => by rw [f_L_step_I_14, f_M_step_I_14]; exact ⟨rfl, h⟩
  | n + 1, S, M, x, y, h => by
    rw [f_L_step_I_14, f_M_step_I_14]
    by_cases c : x ≤ y
    · rw [if_pos c, if_pos c]; exact ⟨rfl, h⟩
    · rw [if_neg c, if_neg c]; exact Z_stepL n _ _ _ _ (rel_less (Z_once h) (Nat.zero_le _))
theorem Z_step {S : CS} {M : MS} (h : Rel 0 S M) (x : Int32) : RelP (f_L_step_I S x) (f_M_step_I M x) := by
  unfold f_L_step_I f_M_step_I
  by_cases c : x < 0
  · rw [if_pos c, if_pos c]; exact ⟨rfl, h⟩
  · rw [if_neg c, if_neg c]
    by_cases d : x ≤ (20 : Int32)
    · rw [if_pos d, if_pos d]; exact Z_stepL _ _ _ _ _ h
    · rw [if_neg d, if_neg d]; exact ⟨rfl, h⟩
