/-! OUR OWN ROWS: what is reckoned, alike -/
theorem rL_0 (a b : Int64) : f_L_result_IJJ (0 : Int32) a b = f_I_sum_JJ a b := by
  unfold f_L_result_IJJ; rw [if_pos rfl]
theorem rL_1 (a b : Int64) : f_L_result_IJJ (1 : Int32) a b = f_I_difference_JJ a b := by
  unfold f_L_result_IJJ; rw [if_neg (show ¬ (1 : Int32) = 0 by decide), if_pos rfl]
theorem rL_2 (a b : Int64) : f_L_result_IJJ (2 : Int32) a b = f_I_product_JJ a b := by
  unfold f_L_result_IJJ; rw [if_neg (show ¬ (2 : Int32) = 0 by decide), if_neg (show ¬ (2 : Int32) = 1 by decide), if_pos rfl]
theorem rL_3 (a b : Int64) : f_L_result_IJJ (3 : Int32) a b = f_I_quotient_JJ a b := by
  unfold f_L_result_IJJ; rw [if_neg (show ¬ (3 : Int32) = 0 by decide), if_neg (show ¬ (3 : Int32) = 1 by decide), if_neg (show ¬ (3 : Int32) = 2 by decide), if_pos rfl]
theorem rL_4 (a b : Int64) : f_L_result_IJJ (4 : Int32) a b = f_I_remainder_JJ a b := by
  unfold f_L_result_IJJ; rw [if_neg (show ¬ (4 : Int32) = 0 by decide), if_neg (show ¬ (4 : Int32) = 1 by decide), if_neg (show ¬ (4 : Int32) = 2 by decide), if_neg (show ¬ (4 : Int32) = 3 by decide), if_pos rfl]
theorem rL_5 (a b : Int64) : f_L_result_IJJ (5 : Int32) a b = f_I_root_J a := by
  unfold f_L_result_IJJ; rw [if_neg (show ¬ (5 : Int32) = 0 by decide), if_neg (show ¬ (5 : Int32) = 1 by decide), if_neg (show ¬ (5 : Int32) = 2 by decide), if_neg (show ¬ (5 : Int32) = 3 by decide), if_neg (show ¬ (5 : Int32) = 4 by decide), if_pos rfl]
theorem rL_6 (a b : Int64) : f_L_result_IJJ (6 : Int32) a b = f_I_negated_J a := by
  unfold f_L_result_IJJ; rw [if_neg (show ¬ (6 : Int32) = 0 by decide), if_neg (show ¬ (6 : Int32) = 1 by decide), if_neg (show ¬ (6 : Int32) = 2 by decide), if_neg (show ¬ (6 : Int32) = 3 by decide), if_neg (show ¬ (6 : Int32) = 4 by decide), if_neg (show ¬ (6 : Int32) = 5 by decide), if_pos rfl]
theorem rL_7 (a b : Int64) : f_L_result_IJJ (7 : Int32) a b = f_I_toFloat_J a := by
  unfold f_L_result_IJJ; rw [if_neg (show ¬ (7 : Int32) = 0 by decide), if_neg (show ¬ (7 : Int32) = 1 by decide), if_neg (show ¬ (7 : Int32) = 2 by decide), if_neg (show ¬ (7 : Int32) = 3 by decide), if_neg (show ¬ (7 : Int32) = 4 by decide), if_neg (show ¬ (7 : Int32) = 5 by decide), if_neg (show ¬ (7 : Int32) = 6 by decide), if_pos rfl]
theorem rL_8 (a b : Int64) : f_L_result_IJJ (8 : Int32) a b = f_I_toFloat_J (f_I_sum_JJ (f_I_toFloat_J a) (f_I_toFloat_J b)) := by
  unfold f_L_result_IJJ; rw [if_neg (show ¬ (8 : Int32) = 0 by decide), if_neg (show ¬ (8 : Int32) = 1 by decide), if_neg (show ¬ (8 : Int32) = 2 by decide), if_neg (show ¬ (8 : Int32) = 3 by decide), if_neg (show ¬ (8 : Int32) = 4 by decide), if_neg (show ¬ (8 : Int32) = 5 by decide), if_neg (show ¬ (8 : Int32) = 6 by decide), if_neg (show ¬ (8 : Int32) = 7 by decide), if_pos rfl]
  unfold f_L_floatResult_IJJ; rw [if_pos rfl]
theorem rL_9 (a b : Int64) : f_L_result_IJJ (9 : Int32) a b = f_I_toFloat_J (f_I_difference_JJ (f_I_toFloat_J a) (f_I_toFloat_J b)) := by
  unfold f_L_result_IJJ; rw [if_neg (show ¬ (9 : Int32) = 0 by decide), if_neg (show ¬ (9 : Int32) = 1 by decide), if_neg (show ¬ (9 : Int32) = 2 by decide), if_neg (show ¬ (9 : Int32) = 3 by decide), if_neg (show ¬ (9 : Int32) = 4 by decide), if_neg (show ¬ (9 : Int32) = 5 by decide), if_neg (show ¬ (9 : Int32) = 6 by decide), if_neg (show ¬ (9 : Int32) = 7 by decide), if_neg (show ¬ (9 : Int32) = 8 by decide), if_pos rfl]
  unfold f_L_floatResult_IJJ; rw [if_neg (show ¬ (9 : Int32) = 8 by decide), if_pos rfl]
theorem rL_10 (a b : Int64) : f_L_result_IJJ (10 : Int32) a b = f_I_toFloat_J (f_I_product_JJ (f_I_toFloat_J a) (f_I_toFloat_J b)) := by
  unfold f_L_result_IJJ; rw [if_neg (show ¬ (10 : Int32) = 0 by decide), if_neg (show ¬ (10 : Int32) = 1 by decide), if_neg (show ¬ (10 : Int32) = 2 by decide), if_neg (show ¬ (10 : Int32) = 3 by decide), if_neg (show ¬ (10 : Int32) = 4 by decide), if_neg (show ¬ (10 : Int32) = 5 by decide), if_neg (show ¬ (10 : Int32) = 6 by decide), if_neg (show ¬ (10 : Int32) = 7 by decide), if_neg (show ¬ (10 : Int32) = 8 by decide), if_neg (show ¬ (10 : Int32) = 9 by decide), if_pos rfl]
  unfold f_L_floatResult_IJJ; rw [if_neg (show ¬ (10 : Int32) = 8 by decide), if_neg (show ¬ (10 : Int32) = 9 by decide), if_pos rfl]
theorem rL_11 (a b : Int64) : f_L_result_IJJ (11 : Int32) a b = f_I_toFloat_J (f_I_quotient_JJ (f_I_toFloat_J a) (f_I_toFloat_J b)) := by
  unfold f_L_result_IJJ; rw [if_neg (show ¬ (11 : Int32) = 0 by decide), if_neg (show ¬ (11 : Int32) = 1 by decide), if_neg (show ¬ (11 : Int32) = 2 by decide), if_neg (show ¬ (11 : Int32) = 3 by decide), if_neg (show ¬ (11 : Int32) = 4 by decide), if_neg (show ¬ (11 : Int32) = 5 by decide), if_neg (show ¬ (11 : Int32) = 6 by decide), if_neg (show ¬ (11 : Int32) = 7 by decide), if_neg (show ¬ (11 : Int32) = 8 by decide), if_neg (show ¬ (11 : Int32) = 9 by decide), if_neg (show ¬ (11 : Int32) = 10 by decide), if_pos rfl]
  unfold f_L_floatResult_IJJ; rw [if_neg (show ¬ (11 : Int32) = 8 by decide), if_neg (show ¬ (11 : Int32) = 9 by decide), if_neg (show ¬ (11 : Int32) = 10 by decide), if_pos rfl]
theorem rL_12 (a b : Int64) : f_L_result_IJJ (12 : Int32) a b = f_I_remainder_JJ (f_I_toFloat_J a) (f_I_toFloat_J b) := by
  unfold f_L_result_IJJ; rw [if_neg (show ¬ (12 : Int32) = 0 by decide), if_neg (show ¬ (12 : Int32) = 1 by decide), if_neg (show ¬ (12 : Int32) = 2 by decide), if_neg (show ¬ (12 : Int32) = 3 by decide), if_neg (show ¬ (12 : Int32) = 4 by decide), if_neg (show ¬ (12 : Int32) = 5 by decide), if_neg (show ¬ (12 : Int32) = 6 by decide), if_neg (show ¬ (12 : Int32) = 7 by decide), if_neg (show ¬ (12 : Int32) = 8 by decide), if_neg (show ¬ (12 : Int32) = 9 by decide), if_neg (show ¬ (12 : Int32) = 10 by decide), if_neg (show ¬ (12 : Int32) = 11 by decide), if_pos rfl]
  unfold f_L_floatResult_IJJ; rw [if_neg (show ¬ (12 : Int32) = 8 by decide), if_neg (show ¬ (12 : Int32) = 9 by decide), if_neg (show ¬ (12 : Int32) = 10 by decide), if_neg (show ¬ (12 : Int32) = 11 by decide)]
theorem rL_13 (a b : Int64) : f_L_result_IJJ (13 : Int32) a b = f_I_lesser_JJ a b := by
  unfold f_L_result_IJJ; rw [if_neg (show ¬ (13 : Int32) = 0 by decide), if_neg (show ¬ (13 : Int32) = 1 by decide), if_neg (show ¬ (13 : Int32) = 2 by decide), if_neg (show ¬ (13 : Int32) = 3 by decide), if_neg (show ¬ (13 : Int32) = 4 by decide), if_neg (show ¬ (13 : Int32) = 5 by decide), if_neg (show ¬ (13 : Int32) = 6 by decide), if_neg (show ¬ (13 : Int32) = 7 by decide), if_neg (show ¬ (13 : Int32) = 8 by decide), if_neg (show ¬ (13 : Int32) = 9 by decide), if_neg (show ¬ (13 : Int32) = 10 by decide), if_neg (show ¬ (13 : Int32) = 11 by decide), if_neg (show ¬ (13 : Int32) = 12 by decide), if_pos rfl]
theorem rL_14 (a b : Int64) : f_L_result_IJJ (14 : Int32) a b = f_I_greater_JJ a b := by
  unfold f_L_result_IJJ; rw [if_neg (show ¬ (14 : Int32) = 0 by decide), if_neg (show ¬ (14 : Int32) = 1 by decide), if_neg (show ¬ (14 : Int32) = 2 by decide), if_neg (show ¬ (14 : Int32) = 3 by decide), if_neg (show ¬ (14 : Int32) = 4 by decide), if_neg (show ¬ (14 : Int32) = 5 by decide), if_neg (show ¬ (14 : Int32) = 6 by decide), if_neg (show ¬ (14 : Int32) = 7 by decide), if_neg (show ¬ (14 : Int32) = 8 by decide), if_neg (show ¬ (14 : Int32) = 9 by decide), if_neg (show ¬ (14 : Int32) = 10 by decide), if_neg (show ¬ (14 : Int32) = 11 by decide), if_neg (show ¬ (14 : Int32) = 12 by decide), if_neg (show ¬ (14 : Int32) = 13 by decide), if_pos rfl]
theorem m239_0 (z : Int64) : f_M_reckoned_IJJ_239 (0 : Int32) z = z := if_neg (by decide)
theorem m239_1 (z : Int64) : f_M_reckoned_IJJ_239 (1 : Int32) z = f_M_toDouble_J z := if_pos rfl
theorem m17_0 (k : Int32) (a b : Int64) : f_M_reckoned_IJJ_17 k a b (0 : Int32) = f_M_reckoned_IJJ_49 k a b (0 : Int32) a b := by
  unfold f_M_reckoned_IJJ_17; rw [if_neg (by decide)]; unfold f_M_reckoned_IJJ_33; rw [if_neg (by decide)]
theorem m17_1 (k : Int32) (a b : Int64) : f_M_reckoned_IJJ_17 k a b (1 : Int32) = f_M_reckoned_IJJ_49 k a b (1 : Int32) (f_M_toFloat_J a) (f_M_toFloat_J b) := by
  unfold f_M_reckoned_IJJ_17; rw [if_pos rfl]; unfold f_M_reckoned_IJJ_33; rw [if_pos rfl]
theorem rM_0 (a b : Int64) : f_M_reckoned_IJJ (0 : Int32) a b = f_M_add_JJ a b := by
  unfold f_M_reckoned_IJJ; rw [if_pos (by decide)]; unfold f_M_reckoned_IJJ_16
  rw [m17_0]; unfold f_M_reckoned_IJJ_49; rw [if_pos rfl]
  exact m239_0 _
theorem rM_1 (a b : Int64) : f_M_reckoned_IJJ (1 : Int32) a b = f_M_subtract_JJ a b := by
  unfold f_M_reckoned_IJJ; rw [if_pos (by decide)]; unfold f_M_reckoned_IJJ_16
  rw [m17_0]; unfold f_M_reckoned_IJJ_49; rw [if_neg (show ¬ (1 : Int32) = 0 by decide), if_pos rfl]
  exact m239_0 _
theorem rM_2 (a b : Int64) : f_M_reckoned_IJJ (2 : Int32) a b = f_M_multiply_JJ a b := by
  unfold f_M_reckoned_IJJ; rw [if_pos (by decide)]; unfold f_M_reckoned_IJJ_16
  rw [m17_0]; unfold f_M_reckoned_IJJ_49; rw [if_neg (show ¬ (2 : Int32) = 0 by decide), if_neg (show ¬ (2 : Int32) = 1 by decide), if_pos rfl]
  exact m239_0 _
theorem rM_3 (a b : Int64) : f_M_reckoned_IJJ (3 : Int32) a b = f_M_divide_JJ a b := by
  unfold f_M_reckoned_IJJ; rw [if_pos (by decide)]; unfold f_M_reckoned_IJJ_16
  rw [m17_0]; unfold f_M_reckoned_IJJ_49; rw [if_neg (show ¬ (3 : Int32) = 0 by decide), if_neg (show ¬ (3 : Int32) = 1 by decide), if_neg (show ¬ (3 : Int32) = 2 by decide), if_pos rfl]
  exact m239_0 _
theorem rM_4 (a b : Int64) : f_M_reckoned_IJJ (4 : Int32) a b = f_M_rest_JJI a b (0 : Int32) := by
  unfold f_M_reckoned_IJJ; rw [if_pos (by decide)]; unfold f_M_reckoned_IJJ_16
  rw [m17_0]; unfold f_M_reckoned_IJJ_49; rw [if_neg (show ¬ (4 : Int32) = 0 by decide), if_neg (show ¬ (4 : Int32) = 1 by decide), if_neg (show ¬ (4 : Int32) = 2 by decide), if_neg (show ¬ (4 : Int32) = 3 by decide), if_pos rfl]
  exact m239_0 _
theorem rM_5 (a b : Int64) : f_M_reckoned_IJJ (5 : Int32) a b = f_M_root_J a := by
  unfold f_M_reckoned_IJJ; rw [if_pos (by decide)]; unfold f_M_reckoned_IJJ_16
  rw [m17_0]; unfold f_M_reckoned_IJJ_49; rw [if_neg (show ¬ (5 : Int32) = 0 by decide), if_neg (show ¬ (5 : Int32) = 1 by decide), if_neg (show ¬ (5 : Int32) = 2 by decide), if_neg (show ¬ (5 : Int32) = 3 by decide), if_neg (show ¬ (5 : Int32) = 4 by decide), if_pos rfl]
  exact m239_0 _
theorem rM_6 (a b : Int64) : f_M_reckoned_IJJ (6 : Int32) a b = f_M_turned_JI a (0 : Int32) := by
  unfold f_M_reckoned_IJJ; rw [if_pos (by decide)]; unfold f_M_reckoned_IJJ_16
  rw [m17_0]; unfold f_M_reckoned_IJJ_49; rw [if_neg (show ¬ (6 : Int32) = 0 by decide), if_neg (show ¬ (6 : Int32) = 1 by decide), if_neg (show ¬ (6 : Int32) = 2 by decide), if_neg (show ¬ (6 : Int32) = 3 by decide), if_neg (show ¬ (6 : Int32) = 4 by decide), if_neg (show ¬ (6 : Int32) = 5 by decide), if_pos rfl]
  exact m239_0 _
theorem rM_7 (a b : Int64) : f_M_reckoned_IJJ (7 : Int32) a b = f_M_toDouble_J (f_M_toFloat_J a) := by
  unfold f_M_reckoned_IJJ; rw [if_pos (by decide)]; unfold f_M_reckoned_IJJ_16
  rw [m17_0]; unfold f_M_reckoned_IJJ_49; rw [if_neg (show ¬ (7 : Int32) = 0 by decide), if_neg (show ¬ (7 : Int32) = 1 by decide), if_neg (show ¬ (7 : Int32) = 2 by decide), if_neg (show ¬ (7 : Int32) = 3 by decide), if_neg (show ¬ (7 : Int32) = 4 by decide), if_neg (show ¬ (7 : Int32) = 5 by decide), if_neg (show ¬ (7 : Int32) = 6 by decide), if_pos rfl]
  exact m239_0 _
theorem rM_8 (a b : Int64) : f_M_reckoned_IJJ (8 : Int32) a b = f_M_toDouble_J (f_M_add_JJI (f_M_toFloat_J a) (f_M_toFloat_J b) (1 : Int32)) := by
  unfold f_M_reckoned_IJJ; rw [if_neg (show ¬ (8 : Int32) < 8 by decide), if_neg (by decide)]
  rw [m17_1]; unfold f_M_reckoned_IJJ_49; rw [if_neg (show ¬ (8 : Int32) = 0 by decide), if_neg (show ¬ (8 : Int32) = 1 by decide), if_neg (show ¬ (8 : Int32) = 2 by decide), if_neg (show ¬ (8 : Int32) = 3 by decide), if_neg (show ¬ (8 : Int32) = 4 by decide), if_neg (show ¬ (8 : Int32) = 5 by decide), if_neg (show ¬ (8 : Int32) = 6 by decide), if_neg (show ¬ (8 : Int32) = 7 by decide), if_pos rfl]
  exact m239_1 _
theorem rM_9 (a b : Int64) : f_M_reckoned_IJJ (9 : Int32) a b = f_M_toDouble_J (f_M_subtract_JJI (f_M_toFloat_J a) (f_M_toFloat_J b) (1 : Int32)) := by
  unfold f_M_reckoned_IJJ; rw [if_neg (show ¬ (9 : Int32) < 8 by decide), if_neg (by decide)]
  rw [m17_1]; unfold f_M_reckoned_IJJ_49; rw [if_neg (show ¬ (9 : Int32) = 0 by decide), if_neg (show ¬ (9 : Int32) = 1 by decide), if_neg (show ¬ (9 : Int32) = 2 by decide), if_neg (show ¬ (9 : Int32) = 3 by decide), if_neg (show ¬ (9 : Int32) = 4 by decide), if_neg (show ¬ (9 : Int32) = 5 by decide), if_neg (show ¬ (9 : Int32) = 6 by decide), if_neg (show ¬ (9 : Int32) = 7 by decide), if_neg (show ¬ (9 : Int32) = 8 by decide), if_pos rfl]
  exact m239_1 _
theorem rM_10 (a b : Int64) : f_M_reckoned_IJJ (10 : Int32) a b = f_M_toDouble_J (f_M_multiply_JJI (f_M_toFloat_J a) (f_M_toFloat_J b) (1 : Int32)) := by
  unfold f_M_reckoned_IJJ; rw [if_neg (show ¬ (10 : Int32) < 8 by decide), if_neg (by decide)]
  rw [m17_1]; unfold f_M_reckoned_IJJ_49; rw [if_neg (show ¬ (10 : Int32) = 0 by decide), if_neg (show ¬ (10 : Int32) = 1 by decide), if_neg (show ¬ (10 : Int32) = 2 by decide), if_neg (show ¬ (10 : Int32) = 3 by decide), if_neg (show ¬ (10 : Int32) = 4 by decide), if_neg (show ¬ (10 : Int32) = 5 by decide), if_neg (show ¬ (10 : Int32) = 6 by decide), if_neg (show ¬ (10 : Int32) = 7 by decide), if_neg (show ¬ (10 : Int32) = 8 by decide), if_neg (show ¬ (10 : Int32) = 9 by decide), if_pos rfl]
  exact m239_1 _
theorem rM_11 (a b : Int64) : f_M_reckoned_IJJ (11 : Int32) a b = f_M_toDouble_J (f_M_divide_JJI (f_M_toFloat_J a) (f_M_toFloat_J b) (1 : Int32)) := by
  unfold f_M_reckoned_IJJ; rw [if_neg (show ¬ (11 : Int32) < 8 by decide), if_neg (by decide)]
  rw [m17_1]; unfold f_M_reckoned_IJJ_49; rw [if_neg (show ¬ (11 : Int32) = 0 by decide), if_neg (show ¬ (11 : Int32) = 1 by decide), if_neg (show ¬ (11 : Int32) = 2 by decide), if_neg (show ¬ (11 : Int32) = 3 by decide), if_neg (show ¬ (11 : Int32) = 4 by decide), if_neg (show ¬ (11 : Int32) = 5 by decide), if_neg (show ¬ (11 : Int32) = 6 by decide), if_neg (show ¬ (11 : Int32) = 7 by decide), if_neg (show ¬ (11 : Int32) = 8 by decide), if_neg (show ¬ (11 : Int32) = 9 by decide), if_neg (show ¬ (11 : Int32) = 10 by decide), if_pos rfl]
  exact m239_1 _
theorem rM_12 (a b : Int64) : f_M_reckoned_IJJ (12 : Int32) a b = f_M_toDouble_J (f_M_rest_JJI (f_M_toFloat_J a) (f_M_toFloat_J b) (1 : Int32)) := by
  unfold f_M_reckoned_IJJ; rw [if_neg (show ¬ (12 : Int32) < 8 by decide), if_neg (by decide)]
  rw [m17_1]; unfold f_M_reckoned_IJJ_49; rw [if_neg (show ¬ (12 : Int32) = 0 by decide), if_neg (show ¬ (12 : Int32) = 1 by decide), if_neg (show ¬ (12 : Int32) = 2 by decide), if_neg (show ¬ (12 : Int32) = 3 by decide), if_neg (show ¬ (12 : Int32) = 4 by decide), if_neg (show ¬ (12 : Int32) = 5 by decide), if_neg (show ¬ (12 : Int32) = 6 by decide), if_neg (show ¬ (12 : Int32) = 7 by decide), if_neg (show ¬ (12 : Int32) = 8 by decide), if_neg (show ¬ (12 : Int32) = 9 by decide), if_neg (show ¬ (12 : Int32) = 10 by decide), if_neg (show ¬ (12 : Int32) = 11 by decide), if_pos rfl]
  exact m239_1 _
theorem rM_13 (a b : Int64) : f_M_reckoned_IJJ (13 : Int32) a b = f_M_end_JJZ a b (0 : Int32) := by
  unfold f_M_reckoned_IJJ; rw [if_neg (show ¬ (13 : Int32) < 8 by decide), if_pos (by decide)]; unfold f_M_reckoned_IJJ_16
  rw [m17_0]; unfold f_M_reckoned_IJJ_49; rw [if_neg (show ¬ (13 : Int32) = 0 by decide), if_neg (show ¬ (13 : Int32) = 1 by decide), if_neg (show ¬ (13 : Int32) = 2 by decide), if_neg (show ¬ (13 : Int32) = 3 by decide), if_neg (show ¬ (13 : Int32) = 4 by decide), if_neg (show ¬ (13 : Int32) = 5 by decide), if_neg (show ¬ (13 : Int32) = 6 by decide), if_neg (show ¬ (13 : Int32) = 7 by decide), if_neg (show ¬ (13 : Int32) = 8 by decide), if_neg (show ¬ (13 : Int32) = 9 by decide), if_neg (show ¬ (13 : Int32) = 10 by decide), if_neg (show ¬ (13 : Int32) = 11 by decide), if_neg (show ¬ (13 : Int32) = 12 by decide), if_neg (show ¬ (13 : Int32) = 14 by decide)]
  unfold f_M_reckoned_IJJ_234
  exact m239_0 _
theorem rM_14 (a b : Int64) : f_M_reckoned_IJJ (14 : Int32) a b = f_M_end_JJZ a b (1 : Int32) := by
  unfold f_M_reckoned_IJJ; rw [if_neg (show ¬ (14 : Int32) < 8 by decide), if_pos (by decide)]; unfold f_M_reckoned_IJJ_16
  rw [m17_0]; unfold f_M_reckoned_IJJ_49; rw [if_neg (show ¬ (14 : Int32) = 0 by decide), if_neg (show ¬ (14 : Int32) = 1 by decide), if_neg (show ¬ (14 : Int32) = 2 by decide), if_neg (show ¬ (14 : Int32) = 3 by decide), if_neg (show ¬ (14 : Int32) = 4 by decide), if_neg (show ¬ (14 : Int32) = 5 by decide), if_neg (show ¬ (14 : Int32) = 6 by decide), if_neg (show ¬ (14 : Int32) = 7 by decide), if_neg (show ¬ (14 : Int32) = 8 by decide), if_neg (show ¬ (14 : Int32) = 9 by decide), if_neg (show ¬ (14 : Int32) = 10 by decide), if_neg (show ¬ (14 : Int32) = 11 by decide), if_neg (show ¬ (14 : Int32) = 12 by decide), if_pos rfl]
  unfold f_M_reckoned_IJJ_234
  exact m239_0 _
theorem flt_of (x : Int64) : ∃ n, n < 2 ^ 32 ∧ f_M_toFloat_J x = lN n := by
  obtain ⟨a, ha, rfl⟩ := l_of x
  exact ⟨tF a, tF_lt ha, m_toFloat ha⟩
theorem remF32_lt {a b : Nat} (ha : a < 2 ^ 32) : remF 24 2851 I32 N32 W32 a b < 2 ^ 32 := by
  unfold remF; split
  · decide
  · split
    · exact ha
    · exact sW32 (sg32 ha) (enc_le _ _ _ _)
theorem frem_to {a b : Nat} (ha : a < 2 ^ 32) (hb : b < 2 ^ 32) : f_M_told_J (f_M_toDouble_J (f_M_rest_JJI (lN a) (lN b) (1 : Int32))) = f_M_toDouble_J (f_M_rest_JJI (lN a) (lN b) (1 : Int32)) := by
  have e : f_M_rest_JJI (lN a) (lN b) (1 : Int32) = lN (remF 24 2851 I32 N32 W32 a b) := m_rest (f := 1) (by decide) ha hb
  rw [e]
  exact T_toDouble (remF32_lt ha)
theorem Q_toFt (x : Int64) : f_I_toFloat_J (f_M_told_J x) = f_M_toDouble_J (f_M_toFloat_J x) := by rw [Q_toFloat, T_toFloat]
theorem Qr_0 (x y : Int64) : f_L_result_IJJ (0 : Int32) (f_M_told_J x) (f_M_told_J y) = f_M_told_J (f_M_reckoned_IJJ (0 : Int32) x y) := by
  rw [rL_0, rM_0]
  rw [Q_sum, (T_add x y).1, (T_add x y).2]
theorem Qr_1 (x y : Int64) : f_L_result_IJJ (1 : Int32) (f_M_told_J x) (f_M_told_J y) = f_M_told_J (f_M_reckoned_IJJ (1 : Int32) x y) := by
  rw [rL_1, rM_1]
  rw [Q_diff, (T_sub x y).1, (T_sub x y).2]
theorem Qr_2 (x y : Int64) : f_L_result_IJJ (2 : Int32) (f_M_told_J x) (f_M_told_J y) = f_M_told_J (f_M_reckoned_IJJ (2 : Int32) x y) := by
  rw [rL_2, rM_2]
  rw [Q_mul, (T_mul x y).1, (T_mul x y).2]
theorem Qr_3 (x y : Int64) : f_L_result_IJJ (3 : Int32) (f_M_told_J x) (f_M_told_J y) = f_M_told_J (f_M_reckoned_IJJ (3 : Int32) x y) := by
  rw [rL_3, rM_3]
  rw [Q_div, (T_div x y).1, (T_div x y).2]
theorem Qr_4 (x y : Int64) : f_L_result_IJJ (4 : Int32) (f_M_told_J x) (f_M_told_J y) = f_M_told_J (f_M_reckoned_IJJ (4 : Int32) x y) := by
  rw [rL_4, rM_4]
  exact Q_rem x y
theorem Qr_5 (x y : Int64) : f_L_result_IJJ (5 : Int32) (f_M_told_J x) (f_M_told_J y) = f_M_told_J (f_M_reckoned_IJJ (5 : Int32) x y) := by
  rw [rL_5, rM_5]
  exact Q_root x
theorem Qr_6 (x y : Int64) : f_L_result_IJJ (6 : Int32) (f_M_told_J x) (f_M_told_J y) = f_M_told_J (f_M_reckoned_IJJ (6 : Int32) x y) := by
  rw [rL_6, rM_6]
  exact Q_neg x
theorem Qr_7 (x y : Int64) : f_L_result_IJJ (7 : Int32) (f_M_told_J x) (f_M_told_J y) = f_M_told_J (f_M_reckoned_IJJ (7 : Int32) x y) := by
  rw [rL_7, rM_7]
  obtain ⟨n, hn, e⟩ := flt_of x; rw [Q_toFt, e, T_toDouble hn]
theorem Qr_8 (x y : Int64) : f_L_result_IJJ (8 : Int32) (f_M_told_J x) (f_M_told_J y) = f_M_told_J (f_M_reckoned_IJJ (8 : Int32) x y) := by
  rw [rL_8, rM_8]
  obtain ⟨a, ha, e1⟩ := flt_of x
  obtain ⟨b, hb, e2⟩ := flt_of y
  rw [Q_toFt, Q_toFt, e1, e2, Q_fadd ha hb, m_add1 ha hb, T_toDouble (addF32_lt ha hb)]
theorem Qr_9 (x y : Int64) : f_L_result_IJJ (9 : Int32) (f_M_told_J x) (f_M_told_J y) = f_M_told_J (f_M_reckoned_IJJ (9 : Int32) x y) := by
  rw [rL_9, rM_9]
  obtain ⟨a, ha, e1⟩ := flt_of x
  obtain ⟨b, hb, e2⟩ := flt_of y
  rw [Q_toFt, Q_toFt, e1, e2, Q_fsub ha hb, m_sub1 ha hb, T_toDouble (sub1_lt ha hb)]
theorem Qr_10 (x y : Int64) : f_L_result_IJJ (10 : Int32) (f_M_told_J x) (f_M_told_J y) = f_M_told_J (f_M_reckoned_IJJ (10 : Int32) x y) := by
  rw [rL_10, rM_10]
  obtain ⟨a, ha, e1⟩ := flt_of x
  obtain ⟨b, hb, e2⟩ := flt_of y
  rw [Q_toFt, Q_toFt, e1, e2, Q_fmul ha hb, m_mul1 ha hb, T_toDouble mulF32_lt]
theorem Qr_11 (x y : Int64) : f_L_result_IJJ (11 : Int32) (f_M_told_J x) (f_M_told_J y) = f_M_told_J (f_M_reckoned_IJJ (11 : Int32) x y) := by
  rw [rL_11, rM_11]
  obtain ⟨a, ha, e1⟩ := flt_of x
  obtain ⟨b, hb, e2⟩ := flt_of y
  rw [Q_toFt, Q_toFt, e1, e2, Q_fdiv ha hb, m_div1 ha hb, T_toDouble divF32_lt]
theorem Qr_12 (x y : Int64) : f_L_result_IJJ (12 : Int32) (f_M_told_J x) (f_M_told_J y) = f_M_told_J (f_M_reckoned_IJJ (12 : Int32) x y) := by
  rw [rL_12, rM_12]
  obtain ⟨a, ha, e1⟩ := flt_of x
  obtain ⟨b, hb, e2⟩ := flt_of y
  rw [Q_toFt, Q_toFt, e1, e2, Q_frem ha hb, frem_to ha hb]
theorem Qr_13 (x y : Int64) : f_L_result_IJJ (13 : Int32) (f_M_told_J x) (f_M_told_J y) = f_M_told_J (f_M_reckoned_IJJ (13 : Int32) x y) := by
  rw [rL_13, rM_13]
  exact Q_lesser x y
theorem Qr_14 (x y : Int64) : f_L_result_IJJ (14 : Int32) (f_M_told_J x) (f_M_told_J y) = f_M_told_J (f_M_reckoned_IJJ (14 : Int32) x y) := by
  rw [rL_14, rM_14]
  exact Q_greater x y
theorem Q_result {k : Int32} (h : vp_in k 15) (x y : Int64) : f_L_result_IJJ k (f_M_told_J x) (f_M_told_J y) = f_M_told_J (f_M_reckoned_IJJ k x y) := by
  obtain ⟨h0, h1, -⟩ := in_to h
  have e := iZ_of k
  have h2 : k.toInt = 0 ∨ k.toInt = 1 ∨ k.toInt = 2 ∨ k.toInt = 3 ∨ k.toInt = 4 ∨ k.toInt = 5 ∨ k.toInt = 6 ∨ k.toInt = 7 ∨ k.toInt = 8 ∨ k.toInt = 9 ∨ k.toInt = 10 ∨ k.toInt = 11 ∨ k.toInt = 12 ∨ k.toInt = 13 ∨ k.toInt = 14 := by omega
  rcases h2 with q | q | q | q | q | q | q | q | q | q | q | q | q | q | q <;> rw [q] at e <;> subst e
  · exact Qr_0 x y
  · exact Qr_1 x y
  · exact Qr_2 x y
  · exact Qr_3 x y
  · exact Qr_4 x y
  · exact Qr_5 x y
  · exact Qr_6 x y
  · exact Qr_7 x y
  · exact Qr_8 x y
  · exact Qr_9 x y
  · exact Qr_10 x y
  · exact Qr_11 x y
  · exact Qr_12 x y
  · exact Qr_13 x y
  · exact Qr_14 x y
