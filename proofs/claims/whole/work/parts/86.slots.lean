/-! counts, slots -/
def cT (T : Nat → Nat → Int) : Int := sm 40 (fun t => sm 6 (fun k => if T k t = -9 then 0 else 1))
def cB (B : Nat → Int) : Int := sm 48 (fun i => if B i = -9 then 0 else 1)
theorem cT_c (T : Nat → Nat → Int) : sm 240 (fun i => if T (i % 6) (i / 6) = -9 then 0 else 1) = cT T := by
  have h := sm_dbl 6 (fun i => if T (i % 6) (i / 6) = -9 then 0 else 1) 40
  refine h.trans (sm_cg 40 (fun t _ => sm_cg 6 (fun k hk => ?_)))
  show (if T ((6 * t + k) % 6) ((6 * t + k) / 6) = -9 then (0 : Int) else 1) = _
  rw [show (6 * t + k) % 6 = k by omega, show (6 * t + k) / 6 = t by omega]
theorem cT_m (T : Nat → Nat → Int) : sm 240 (fun i => if T (i / 40) (i % 40) = -9 then 0 else 1) = cT T := by
  have h := sm_dbl 40 (fun i => if T (i / 40) (i % 40) = -9 then 0 else 1) 6
  refine h.trans ?_
  unfold cT
  rw [sm_swap (fun t k => if T k t = -9 then 0 else 1) 6 40]
  refine sm_cg 6 (fun k _ => sm_cg 40 (fun t ht => ?_))
  show (if T ((40 * k + t) / 40) ((40 * k + t) % 40) = -9 then (0 : Int) else 1) = _
  rw [show (40 * k + t) / 40 = k by omega, show (40 * k + t) % 40 = t by omega]
theorem c_countT {M : mMI} {T : Nat → Nat → Int} (h : ∀ k t, k < 6 → t < 40 → M 12 (6 * t + k) = zI (T k t)) (hb : ∀ k t, k < 6 → t < 40 → T k t = -9 ∨ (0 ≤ T k t ∧ T k t ≤ 20)) (J : mMJ) : k_Pot_countTold_T M J = rI (zI (cT T)) M J := by
  rw [← cT_c]
  simp only [e_Pot_countTold_T, li_0, li_1, li_2, li_3, li_4, li_5, li_6, li_7, li_8, li_9, li_10, li_16, li_20, li_22, li_32, li_36, li_39, li_40, li_42, li_48, li_60, li_67, li_69, li_70, li_71, li_76, li_77, li_80, li_83, li_86, li_90, li_100, li_120, li_200, li_209, li_234, li_240, li_255, li_300, li_309, li_310, ll_0, ll_1, ll_3, ll_5, ll_7, ll_8, ll_9, ll_20, ll_39, ll_40, ll_60, ll_100, ll_120, ll_200, ll_209, ll_300, ll_309, ll_600, ll_1000000000, zI_neg, zI_add, zI_sub, zI_mul, zL_add, zL_sub, zL_mul, zL_neg, zI_suc, zN_I, zI_ofNat]
  refine lp_seq (fun j => k_Pot_countTold_T_4 (zI (sm j (fun i => if T (i % 6) (i / 6) = -9 then 0 else 1))) (zI (j : Int)) M J) 240 (fun j hj => ?_) ?_
  · rw [e_Pot_countTold_T_4]
    have e := h (j % 6) (j / 6) (by omega) (by omega)
    have b := hb (j % 6) (j / 6) (by omega) (by omega)
    rw [show 6 * (j / 6) + j % 6 = j by omega] at e
    by_cases a : T (j % 6) (j / 6) = -9
    · simp (disch := omega) only [Int.reduceEq, Int.reduceLT, Int.reduceLE, Int.reduceAdd, Int.reduceMul, Int.reduceSub, Int.reduceNeg, Int.reduceDiv, li_0, li_1, li_2, li_3, li_4, li_5, li_6, li_7, li_8, li_9, li_10, li_16, li_20, li_22, li_32, li_36, li_39, li_40, li_42, li_48, li_60, li_67, li_69, li_70, li_71, li_76, li_77, li_80, li_83, li_86, li_90, li_100, li_120, li_200, li_209, li_234, li_240, li_255, li_300, li_309, li_310, ll_0, ll_1, ll_3, ll_5, ll_7, ll_8, ll_9, ll_20, ll_39, ll_40, ll_60, ll_100, ll_120, ll_200, ll_209, ll_300, ll_309, ll_600, ll_1000000000, zI_neg, zI_add, zI_sub, zI_mul, zL_add, zL_sub, zL_mul, zL_neg, zI_suc, zN_I, zI_ofNat, zI_le_t, zI_le_f, zI_lt_t, zI_lt_f, zI_eq_t, zI_eq_f, zL_le_t, zL_le_f, zL_lt_t, zL_lt_f, zL_eq_t, zL_eq_f, zI_cl, zI_L, mI_t, Int.reduceToNat, nt_le_f, nt_le_t, lc_le, lc_lt, lc_gt, lc_eq, zI_div, Int.toNat_natCast, zI_max, zI_min, or_false, false_or, or_true, true_or, not_false_eq_true, not_true_eq_false, ↓reduceIte, and_self, and_true, true_and, and_false, false_and, not_or, gt_iff_lt, ge_iff_le, mBI_rI, mBJ_rJ, mBR_rV, mBR_rR, rZ_0, rZ_1, e, sm_s, a, Int.add_zero]
    · simp (disch := omega) only [Int.reduceEq, Int.reduceLT, Int.reduceLE, Int.reduceAdd, Int.reduceMul, Int.reduceSub, Int.reduceNeg, Int.reduceDiv, li_0, li_1, li_2, li_3, li_4, li_5, li_6, li_7, li_8, li_9, li_10, li_16, li_20, li_22, li_32, li_36, li_39, li_40, li_42, li_48, li_60, li_67, li_69, li_70, li_71, li_76, li_77, li_80, li_83, li_86, li_90, li_100, li_120, li_200, li_209, li_234, li_240, li_255, li_300, li_309, li_310, ll_0, ll_1, ll_3, ll_5, ll_7, ll_8, ll_9, ll_20, ll_39, ll_40, ll_60, ll_100, ll_120, ll_200, ll_209, ll_300, ll_309, ll_600, ll_1000000000, zI_neg, zI_add, zI_sub, zI_mul, zL_add, zL_sub, zL_mul, zL_neg, zI_suc, zN_I, zI_ofNat, zI_le_t, zI_le_f, zI_lt_t, zI_lt_f, zI_eq_t, zI_eq_f, zL_le_t, zL_le_f, zL_lt_t, zL_lt_f, zL_eq_t, zL_eq_f, zI_cl, zI_L, mI_t, Int.reduceToNat, nt_le_f, nt_le_t, lc_le, lc_lt, lc_gt, lc_eq, zI_div, Int.toNat_natCast, zI_max, zI_min, or_false, false_or, or_true, true_or, not_false_eq_true, not_true_eq_false, ↓reduceIte, and_self, and_true, true_and, and_false, false_and, not_or, gt_iff_lt, ge_iff_le, mBI_rI, mBJ_rJ, mBR_rV, mBR_rR, rZ_0, rZ_1, e, sm_s, a]
  · rw [e_Pot_countTold_T_4]
    simp (disch := omega) only [Int.reduceEq, Int.reduceLT, Int.reduceLE, Int.reduceAdd, Int.reduceMul, Int.reduceSub, Int.reduceNeg, Int.reduceDiv, li_0, li_1, li_2, li_3, li_4, li_5, li_6, li_7, li_8, li_9, li_10, li_16, li_20, li_22, li_32, li_36, li_39, li_40, li_42, li_48, li_60, li_67, li_69, li_70, li_71, li_76, li_77, li_80, li_83, li_86, li_90, li_100, li_120, li_200, li_209, li_234, li_240, li_255, li_300, li_309, li_310, ll_0, ll_1, ll_3, ll_5, ll_7, ll_8, ll_9, ll_20, ll_39, ll_40, ll_60, ll_100, ll_120, ll_200, ll_209, ll_300, ll_309, ll_600, ll_1000000000, zI_neg, zI_add, zI_sub, zI_mul, zL_add, zL_sub, zL_mul, zL_neg, zI_suc, zN_I, zI_ofNat, zI_le_t, zI_le_f, zI_lt_t, zI_lt_f, zI_eq_t, zI_eq_f, zL_le_t, zL_le_f, zL_lt_t, zL_lt_f, zL_eq_t, zL_eq_f, zI_cl, zI_L, mI_t, Int.reduceToNat, nt_le_f, nt_le_t, lc_le, lc_lt, lc_gt, lc_eq, zI_div, Int.toNat_natCast, zI_max, zI_min, or_false, false_or, or_true, true_or, not_false_eq_true, not_true_eq_false, ↓reduceIte, and_self, and_true, true_and, and_false, false_and, not_or, gt_iff_lt, ge_iff_le, mBI_rI, mBJ_rJ, mBR_rV, mBR_rR, rZ_0, rZ_1]
theorem c_countB {M : mMI} {B : Nat → Int} (h : ∀ i, i < 48 → M 36 i = zI (B i)) (hb : okB B) (J : mMJ) : k_Pot_countTold_B M J = rI (zI (cB B)) M J := by
  simp only [e_Pot_countTold_B, li_0, li_1, li_2, li_3, li_4, li_5, li_6, li_7, li_8, li_9, li_10, li_16, li_20, li_22, li_32, li_36, li_39, li_40, li_42, li_48, li_60, li_67, li_69, li_70, li_71, li_76, li_77, li_80, li_83, li_86, li_90, li_100, li_120, li_200, li_209, li_234, li_240, li_255, li_300, li_309, li_310, ll_0, ll_1, ll_3, ll_5, ll_7, ll_8, ll_9, ll_20, ll_39, ll_40, ll_60, ll_100, ll_120, ll_200, ll_209, ll_300, ll_309, ll_600, ll_1000000000, zI_neg, zI_add, zI_sub, zI_mul, zL_add, zL_sub, zL_mul, zL_neg, zI_suc, zN_I, zI_ofNat]
  refine lp_seq (fun j => k_Pot_countTold_B_4 (zI (sm j (fun i => if B i = -9 then 0 else 1))) (zI (j : Int)) M J) 48 (fun j hj => ?_) ?_
  · rw [e_Pot_countTold_B_4]
    have e := h j hj
    have b := hb j hj
    by_cases a : B j = -9
    · simp (disch := omega) only [Int.reduceEq, Int.reduceLT, Int.reduceLE, Int.reduceAdd, Int.reduceMul, Int.reduceSub, Int.reduceNeg, Int.reduceDiv, li_0, li_1, li_2, li_3, li_4, li_5, li_6, li_7, li_8, li_9, li_10, li_16, li_20, li_22, li_32, li_36, li_39, li_40, li_42, li_48, li_60, li_67, li_69, li_70, li_71, li_76, li_77, li_80, li_83, li_86, li_90, li_100, li_120, li_200, li_209, li_234, li_240, li_255, li_300, li_309, li_310, ll_0, ll_1, ll_3, ll_5, ll_7, ll_8, ll_9, ll_20, ll_39, ll_40, ll_60, ll_100, ll_120, ll_200, ll_209, ll_300, ll_309, ll_600, ll_1000000000, zI_neg, zI_add, zI_sub, zI_mul, zL_add, zL_sub, zL_mul, zL_neg, zI_suc, zN_I, zI_ofNat, zI_le_t, zI_le_f, zI_lt_t, zI_lt_f, zI_eq_t, zI_eq_f, zL_le_t, zL_le_f, zL_lt_t, zL_lt_f, zL_eq_t, zL_eq_f, zI_cl, zI_L, mI_t, Int.reduceToNat, nt_le_f, nt_le_t, lc_le, lc_lt, lc_gt, lc_eq, zI_div, Int.toNat_natCast, zI_max, zI_min, or_false, false_or, or_true, true_or, not_false_eq_true, not_true_eq_false, ↓reduceIte, and_self, and_true, true_and, and_false, false_and, not_or, gt_iff_lt, ge_iff_le, mBI_rI, mBJ_rJ, mBR_rV, mBR_rR, rZ_0, rZ_1, e, sm_s, a, Int.add_zero]
    · simp (disch := omega) only [Int.reduceEq, Int.reduceLT, Int.reduceLE, Int.reduceAdd, Int.reduceMul, Int.reduceSub, Int.reduceNeg, Int.reduceDiv, li_0, li_1, li_2, li_3, li_4, li_5, li_6, li_7, li_8, li_9, li_10, li_16, li_20, li_22, li_32, li_36, li_39, li_40, li_42, li_48, li_60, li_67, li_69, li_70, li_71, li_76, li_77, li_80, li_83, li_86, li_90, li_100, li_120, li_200, li_209, li_234, li_240, li_255, li_300, li_309, li_310, ll_0, ll_1, ll_3, ll_5, ll_7, ll_8, ll_9, ll_20, ll_39, ll_40, ll_60, ll_100, ll_120, ll_200, ll_209, ll_300, ll_309, ll_600, ll_1000000000, zI_neg, zI_add, zI_sub, zI_mul, zL_add, zL_sub, zL_mul, zL_neg, zI_suc, zN_I, zI_ofNat, zI_le_t, zI_le_f, zI_lt_t, zI_lt_f, zI_eq_t, zI_eq_f, zL_le_t, zL_le_f, zL_lt_t, zL_lt_f, zL_eq_t, zL_eq_f, zI_cl, zI_L, mI_t, Int.reduceToNat, nt_le_f, nt_le_t, lc_le, lc_lt, lc_gt, lc_eq, zI_div, Int.toNat_natCast, zI_max, zI_min, or_false, false_or, or_true, true_or, not_false_eq_true, not_true_eq_false, ↓reduceIte, and_self, and_true, true_and, and_false, false_and, not_or, gt_iff_lt, ge_iff_le, mBI_rI, mBJ_rJ, mBR_rV, mBR_rR, rZ_0, rZ_1, e, sm_s, a]
  · rw [e_Pot_countTold_B_4]
    simp (disch := omega) only [Int.reduceEq, Int.reduceLT, Int.reduceLE, Int.reduceAdd, Int.reduceMul, Int.reduceSub, Int.reduceNeg, Int.reduceDiv, li_0, li_1, li_2, li_3, li_4, li_5, li_6, li_7, li_8, li_9, li_10, li_16, li_20, li_22, li_32, li_36, li_39, li_40, li_42, li_48, li_60, li_67, li_69, li_70, li_71, li_76, li_77, li_80, li_83, li_86, li_90, li_100, li_120, li_200, li_209, li_234, li_240, li_255, li_300, li_309, li_310, ll_0, ll_1, ll_3, ll_5, ll_7, ll_8, ll_9, ll_20, ll_39, ll_40, ll_60, ll_100, ll_120, ll_200, ll_209, ll_300, ll_309, ll_600, ll_1000000000, zI_neg, zI_add, zI_sub, zI_mul, zL_add, zL_sub, zL_mul, zL_neg, zI_suc, zN_I, zI_ofNat, zI_le_t, zI_le_f, zI_lt_t, zI_lt_f, zI_eq_t, zI_eq_f, zL_le_t, zL_le_f, zL_lt_t, zL_lt_f, zL_eq_t, zL_eq_f, zI_cl, zI_L, mI_t, Int.reduceToNat, nt_le_f, nt_le_t, lc_le, lc_lt, lc_gt, lc_eq, zI_div, Int.toNat_natCast, zI_max, zI_min, or_false, false_or, or_true, true_or, not_false_eq_true, not_true_eq_false, ↓reduceIte, and_self, and_true, true_and, and_false, false_and, not_or, gt_iff_lt, ge_iff_le, mBI_rI, mBJ_rJ, mBR_rV, mBR_rR, rZ_0, rZ_1]
    rfl
theorem m_countT {M : mMI} {T : Nat → Nat → Int} (h : ∀ k t, k < 6 → t < 40 → M 56 (40 * k + t) = zI (T k t)) (hb : ∀ k t, k < 6 → t < 40 → T k t = -9 ∨ (0 ≤ T k t ∧ T k t ≤ 20)) (J : mMJ) : k_Model_toldMany M J = rI (zI (cT T)) M J := by
  rw [← cT_m]
  simp only [e_Model_toldMany, li_0, li_1, li_2, li_3, li_4, li_5, li_6, li_7, li_8, li_9, li_10, li_16, li_20, li_22, li_32, li_36, li_39, li_40, li_42, li_48, li_60, li_67, li_69, li_70, li_71, li_76, li_77, li_80, li_83, li_86, li_90, li_100, li_120, li_200, li_209, li_234, li_240, li_255, li_300, li_309, li_310, ll_0, ll_1, ll_3, ll_5, ll_7, ll_8, ll_9, ll_20, ll_39, ll_40, ll_60, ll_100, ll_120, ll_200, ll_209, ll_300, ll_309, ll_600, ll_1000000000, zI_neg, zI_add, zI_sub, zI_mul, zL_add, zL_sub, zL_mul, zL_neg, zI_suc, zN_I, zI_ofNat]
  refine lp_seq (fun j => k_Model_toldMany_4 (zI (sm j (fun i => if T (i / 40) (i % 40) = -9 then 0 else 1))) (zI (j : Int)) M J) 240 (fun j hj => ?_) ?_
  · rw [e_Model_toldMany_4]
    have e := h (j / 40) (j % 40) (by omega) (by omega)
    have b := hb (j / 40) (j % 40) (by omega) (by omega)
    rw [show 40 * (j / 40) + j % 40 = j by omega] at e
    by_cases a : T (j / 40) (j % 40) = -9
    · simp (disch := omega) only [Int.reduceEq, Int.reduceLT, Int.reduceLE, Int.reduceAdd, Int.reduceMul, Int.reduceSub, Int.reduceNeg, Int.reduceDiv, li_0, li_1, li_2, li_3, li_4, li_5, li_6, li_7, li_8, li_9, li_10, li_16, li_20, li_22, li_32, li_36, li_39, li_40, li_42, li_48, li_60, li_67, li_69, li_70, li_71, li_76, li_77, li_80, li_83, li_86, li_90, li_100, li_120, li_200, li_209, li_234, li_240, li_255, li_300, li_309, li_310, ll_0, ll_1, ll_3, ll_5, ll_7, ll_8, ll_9, ll_20, ll_39, ll_40, ll_60, ll_100, ll_120, ll_200, ll_209, ll_300, ll_309, ll_600, ll_1000000000, zI_neg, zI_add, zI_sub, zI_mul, zL_add, zL_sub, zL_mul, zL_neg, zI_suc, zN_I, zI_ofNat, zI_le_t, zI_le_f, zI_lt_t, zI_lt_f, zI_eq_t, zI_eq_f, zL_le_t, zL_le_f, zL_lt_t, zL_lt_f, zL_eq_t, zL_eq_f, zI_cl, zI_L, mI_t, Int.reduceToNat, nt_le_f, nt_le_t, lc_le, lc_lt, lc_gt, lc_eq, zI_div, Int.toNat_natCast, zI_max, zI_min, or_false, false_or, or_true, true_or, not_false_eq_true, not_true_eq_false, ↓reduceIte, and_self, and_true, true_and, and_false, false_and, not_or, gt_iff_lt, ge_iff_le, mBI_rI, mBJ_rJ, mBR_rV, mBR_rR, rZ_0, rZ_1, e, sm_s, a, Int.add_zero]
    · simp (disch := omega) only [Int.reduceEq, Int.reduceLT, Int.reduceLE, Int.reduceAdd, Int.reduceMul, Int.reduceSub, Int.reduceNeg, Int.reduceDiv, li_0, li_1, li_2, li_3, li_4, li_5, li_6, li_7, li_8, li_9, li_10, li_16, li_20, li_22, li_32, li_36, li_39, li_40, li_42, li_48, li_60, li_67, li_69, li_70, li_71, li_76, li_77, li_80, li_83, li_86, li_90, li_100, li_120, li_200, li_209, li_234, li_240, li_255, li_300, li_309, li_310, ll_0, ll_1, ll_3, ll_5, ll_7, ll_8, ll_9, ll_20, ll_39, ll_40, ll_60, ll_100, ll_120, ll_200, ll_209, ll_300, ll_309, ll_600, ll_1000000000, zI_neg, zI_add, zI_sub, zI_mul, zL_add, zL_sub, zL_mul, zL_neg, zI_suc, zN_I, zI_ofNat, zI_le_t, zI_le_f, zI_lt_t, zI_lt_f, zI_eq_t, zI_eq_f, zL_le_t, zL_le_f, zL_lt_t, zL_lt_f, zL_eq_t, zL_eq_f, zI_cl, zI_L, mI_t, Int.reduceToNat, nt_le_f, nt_le_t, lc_le, lc_lt, lc_gt, lc_eq, zI_div, Int.toNat_natCast, zI_max, zI_min, or_false, false_or, or_true, true_or, not_false_eq_true, not_true_eq_false, ↓reduceIte, and_self, and_true, true_and, and_false, false_and, not_or, gt_iff_lt, ge_iff_le, mBI_rI, mBJ_rJ, mBR_rV, mBR_rR, rZ_0, rZ_1, e, sm_s, a]
  · rw [e_Model_toldMany_4]
    simp (disch := omega) only [Int.reduceEq, Int.reduceLT, Int.reduceLE, Int.reduceAdd, Int.reduceMul, Int.reduceSub, Int.reduceNeg, Int.reduceDiv, li_0, li_1, li_2, li_3, li_4, li_5, li_6, li_7, li_8, li_9, li_10, li_16, li_20, li_22, li_32, li_36, li_39, li_40, li_42, li_48, li_60, li_67, li_69, li_70, li_71, li_76, li_77, li_80, li_83, li_86, li_90, li_100, li_120, li_200, li_209, li_234, li_240, li_255, li_300, li_309, li_310, ll_0, ll_1, ll_3, ll_5, ll_7, ll_8, ll_9, ll_20, ll_39, ll_40, ll_60, ll_100, ll_120, ll_200, ll_209, ll_300, ll_309, ll_600, ll_1000000000, zI_neg, zI_add, zI_sub, zI_mul, zL_add, zL_sub, zL_mul, zL_neg, zI_suc, zN_I, zI_ofNat, zI_le_t, zI_le_f, zI_lt_t, zI_lt_f, zI_eq_t, zI_eq_f, zL_le_t, zL_le_f, zL_lt_t, zL_lt_f, zL_eq_t, zL_eq_f, zI_cl, zI_L, mI_t, Int.reduceToNat, nt_le_f, nt_le_t, lc_le, lc_lt, lc_gt, lc_eq, zI_div, Int.toNat_natCast, zI_max, zI_min, or_false, false_or, or_true, true_or, not_false_eq_true, not_true_eq_false, ↓reduceIte, and_self, and_true, true_and, and_false, false_and, not_or, gt_iff_lt, ge_iff_le, mBI_rI, mBJ_rJ, mBR_rV, mBR_rR, rZ_0, rZ_1]
theorem cpy_at {f g : Nat → Int32} {n i : Nat} (h : i < n) : va_cpy f g 0 0 n i = f i := by
  show (if 0 ≤ i ∧ i < 0 + n then f (0 + (i - 0)) else g i) = f i
  rw [if_pos (by omega), show 0 + (i - 0) = i by omega]
def sSl (y : sS) (b : Nat) : sS := (y.1, y.2.1, y.2.2.1, (upO (yF y) b 1, fun c => if c = b then (yT y, yO y, yK y) else yS y c))
def sBa (y : sS) (b : Nat) : sS := (y.1, y.2.1, yS y b, y.2.2.2)
theorem sSl_ok {y : sS} (hy : yOk y) (b : Nat) : yOk (sSl y b) := by
  obtain ⟨a1, a2, a3, a4, a5, a6⟩ := hy
  refine ⟨a1, a2, a3, a4, fun c hc => ?_, fun c hc h1 => ?_⟩
  · show upO (yF y) b 1 c = 0 ∨ upO (yF y) b 1 c = 1
    unfold upO
    split
    · exact Or.inr rfl
    · exact a5 c hc
  · have h1 : upO (yF y) b 1 c = 1 := h1
    show okTO (yN y) (if c = b then (yT y, yO y, yK y) else yS y c).1 (if c = b then (yT y, yO y, yK y) else yS y c).2.1 ∧ okB (if c = b then (yT y, yO y, yK y) else yS y c).2.2
    by_cases hcb : c = b
    · rw [if_pos hcb]
      exact ⟨a3, a4⟩
    · rw [if_neg hcb]
      unfold upO at h1
      rw [if_neg hcb] at h1
      exact a6 c hc h1
theorem sBa_ok {y : sS} (hy : yOk y) {b : Nat} (hb : b < 2) (h1 : yF y b = 1) : yOk (sBa y b) := by
  obtain ⟨a1, a2, a3, a4, a5, a6⟩ := hy
  exact ⟨a1, a2, (a6 b hb h1).1, (a6 b hb h1).2, a5, a6⟩
/-- keep -/
noncomputable def nKeep (z : Int) (y : sS) : sS := @ite _ (0 ≤ z ∧ z < 2) (Classical.propDecidable _) (sSl y z.toNat) y
def aKeep (z : Int) (y : sS) : Int32 := zI (if 0 ≤ z ∧ z < 2 then cT (yT y) else -1)
theorem nKeep_ok (z : Int) (y : sS) (hy : yOk y) : yOk (nKeep z y) := by
  unfold nKeep
  split
  · exact sSl_ok hy _
  · exact hy
theorem c_fill {y : sS} (hy : yOk y) {M : mMI} {J : mMJ} (h : CI y M J) {b : Nat} (hb : b < 2) : ∃ N, k_Kept_fillFrom (38 + 4 * b) M J = rV N J ∧ cO1 (sSl y b) M J N J := by
  obtain ⟨a1, a2, a3, a4, a5, a6⟩ := h
  refine ⟨mUp (mSet (mSet (mSet M (39 + 4 * b) (va_cpy (M 12) (M (39 + 4 * b)) 0 0 240)) (40 + 4 * b) (va_cpy (M 13) (M (40 + 4 * b)) 0 0 6)) (41 + 4 * b) (va_cpy (M 36) (M (41 + 4 * b)) 0 0 48)) (38 + 4 * b) 0 (zI 1), ?_, ?_⟩
  · rw [e_Kept_fillFrom (38 + 4 * b) (by omega)]
    have e1 : 38 + 4 * b + 1 = 39 + 4 * b := by omega
    have e2 : 38 + 4 * b + 2 = 40 + 4 * b := by omega
    have e3 : 38 + 4 * b + 3 = 41 + 4 * b := by omega
    have q : ∀ p, p < 38 → ∀ f, mSet M (39 + 4 * b) f p = M p := fun p hp f => set_nk (by omega)
    simp (disch := omega) only [Int.reduceEq, Int.reduceLT, Int.reduceLE, Int.reduceAdd, Int.reduceMul, Int.reduceSub, Int.reduceNeg, Int.reduceDiv, li_0, li_1, li_2, li_3, li_4, li_5, li_6, li_7, li_8, li_9, li_10, li_16, li_20, li_22, li_32, li_36, li_39, li_40, li_42, li_48, li_60, li_67, li_69, li_70, li_71, li_76, li_77, li_80, li_83, li_86, li_90, li_100, li_120, li_200, li_209, li_234, li_240, li_255, li_300, li_309, li_310, ll_0, ll_1, ll_3, ll_5, ll_7, ll_8, ll_9, ll_20, ll_39, ll_40, ll_60, ll_100, ll_120, ll_200, ll_209, ll_300, ll_309, ll_600, ll_1000000000, zI_neg, zI_add, zI_sub, zI_mul, zL_add, zL_sub, zL_mul, zL_neg, zI_suc, zN_I, zI_ofNat, zI_le_t, zI_le_f, zI_lt_t, zI_lt_f, zI_eq_t, zI_eq_f, zL_le_t, zL_le_f, zL_lt_t, zL_lt_f, zL_eq_t, zL_eq_f, zI_cl, zI_L, mI_t, Int.reduceToNat, nt_le_f, nt_le_t, lc_le, lc_lt, lc_gt, lc_eq, zI_div, Int.toNat_natCast, zI_max, zI_min, or_false, false_or, or_true, true_or, not_false_eq_true, not_true_eq_false, ↓reduceIte, and_self, and_true, true_and, and_false, false_and, not_or, gt_iff_lt, ge_iff_le, mBI_rI, mBJ_rJ, mBR_rV, mBR_rR, rZ_0, rZ_1, e1, e2, e3, set_nk]
  · have fr : ∀ p, p < 38 + 4 * b ∨ 42 + 4 * b ≤ p → mUp (mSet (mSet (mSet M (39 + 4 * b) (va_cpy (M 12) (M (39 + 4 * b)) 0 0 240)) (40 + 4 * b) (va_cpy (M 13) (M (40 + 4 * b)) 0 0 6)) (41 + 4 * b) (va_cpy (M 36) (M (41 + 4 * b)) 0 0 48)) (38 + 4 * b) 0 (zI 1) p = M p := by
      intro p hp
      rw [up_nk (by omega), set_nk (by omega), set_nk (by omega), set_nk (by omega)]
    refine ⟨⟨a1.fr (fun p hp => fr p (by omega)), a2.fr (by rw [fr 1 (by omega)]) (fr 2 (by omega)), a3.fr (fun p _ _ => fr p (by omega)), a4.fr (fr 36 (by omega)), fun c hc => ?_, ?_⟩, fun p hp => fr p (by omega), fun _ _ => rfl⟩
    · show _ = zI (upO (yF y) b 1 c) ∧ (upO (yF y) b 1 c = 1 → (∀ k t, k < 6 → t < 40 → _ = zI ((if c = b then (yT y, yO y, yK y) else yS y c).1 k t)) ∧ (∀ k, k < 6 → _ = zI ((if c = b then (yT y, yO y, yK y) else yS y c).2.1 k)) ∧ (∀ i, i < 48 → _ = zI ((if c = b then (yT y, yO y, yK y) else yS y c).2.2 i)))
      by_cases hcb : c = b
      · subst hcb
        simp only [↓reduceIte]
        refine ⟨?_, fun _ => ⟨fun k t hk ht => ?_, fun k hk => ?_, fun i hi => ?_⟩⟩
        · rw [up_at]; unfold upO; rw [if_pos rfl]
        · rw [up_nk (by omega), set_nk (by omega), set_nk (by omega), set_at, cpy_at (by omega)]
          exact a3.2.2.2.2 k t hk ht
        · rw [up_nk (by omega), set_nk (by omega), set_at, cpy_at (by omega)]
          exact a3.2.2.2.1 k hk
        · rw [up_nk (by omega), set_at, cpy_at (by omega)]
          exact a4 i hi
      · rw [if_neg hcb]
        have e : upO (yF y) b 1 c = yF y c := if_neg hcb
        rw [e, fr (38 + 4 * c) (by omega), fr (39 + 4 * c) (by omega), fr (40 + 4 * c) (by omega), fr (41 + 4 * c) (by omega)]
        exact a5 c hc
    · show _ = zI 1 ∨ (_ = zI 0 ∧ coH 7 (wd y) 40 _ J)
      rw [fr 0 (by omega)]
      rcases a6 with a6 | a6
      · exact Or.inl a6
      · exact Or.inr ⟨a6.1, a6.2.fr (fr _ (by omega)) (fr _ (by omega)) (fr _ (by omega)) (fr _ (by omega)) rfl⟩
theorem P_keep {z : Int} (hz : bz z) {y : sS} (hy : yOk y) {M : mMI} {J : mMJ} (h : CI y M J) : cE (nKeep z y) M J (k_Pot_keep (zI z) M J) (aKeep z y) := by
  have is := c_isSlot hz
  obtain ⟨h1, h2⟩ := hz
  rw [e_Pot_keep]
  unfold aKeep nKeep
  by_cases c : 0 ≤ z ∧ z < 2
  · rw [if_pos c, if_pos c]
    obtain ⟨b, rfl⟩ : ∃ b : Nat, z = (b : Int) := ⟨z.toNat, by omega⟩
    have hb : b < 2 := by omega
    obtain ⟨N, e, o⟩ := c_fill hy h hb
    have ct := c_countT (M := N) (T := yT y) (fun k t hk ht => o.1.2.2.1.2.2.2.2 k t hk ht) hy.2.2.1.2.1
    refine ⟨N, J, ?_, o⟩
    rcases (show b = 0 ∨ b = 1 by omega) with rfl | rfl
    · have e : k_Kept_fillFrom 38 M J = rV N J := e
      simp (disch := omega) only [Int.reduceEq, Int.reduceLT, Int.reduceLE, Int.reduceAdd, Int.reduceMul, Int.reduceSub, Int.reduceNeg, Int.reduceDiv, li_0, li_1, li_2, li_3, li_4, li_5, li_6, li_7, li_8, li_9, li_10, li_16, li_20, li_22, li_32, li_36, li_39, li_40, li_42, li_48, li_60, li_67, li_69, li_70, li_71, li_76, li_77, li_80, li_83, li_86, li_90, li_100, li_120, li_200, li_209, li_234, li_240, li_255, li_300, li_309, li_310, ll_0, ll_1, ll_3, ll_5, ll_7, ll_8, ll_9, ll_20, ll_39, ll_40, ll_60, ll_100, ll_120, ll_200, ll_209, ll_300, ll_309, ll_600, ll_1000000000, zI_neg, zI_add, zI_sub, zI_mul, zL_add, zL_sub, zL_mul, zL_neg, zI_suc, zN_I, zI_ofNat, zI_le_t, zI_le_f, zI_lt_t, zI_lt_f, zI_eq_t, zI_eq_f, zL_le_t, zL_le_f, zL_lt_t, zL_lt_f, zL_eq_t, zL_eq_f, zI_cl, zI_L, mI_t, Int.reduceToNat, nt_le_f, nt_le_t, lc_le, lc_lt, lc_gt, lc_eq, zI_div, Int.toNat_natCast, zI_max, zI_min, or_false, false_or, or_true, true_or, not_false_eq_true, not_true_eq_false, ↓reduceIte, and_self, and_true, true_and, and_false, false_and, not_or, gt_iff_lt, ge_iff_le, mBI_rI, mBJ_rJ, mBR_rV, mBR_rR, rZ_0, rZ_1, is, c, e, ct]
    · have e : k_Kept_fillFrom 42 M J = rV N J := e
      simp (disch := omega) only [Int.reduceEq, Int.reduceLT, Int.reduceLE, Int.reduceAdd, Int.reduceMul, Int.reduceSub, Int.reduceNeg, Int.reduceDiv, li_0, li_1, li_2, li_3, li_4, li_5, li_6, li_7, li_8, li_9, li_10, li_16, li_20, li_22, li_32, li_36, li_39, li_40, li_42, li_48, li_60, li_67, li_69, li_70, li_71, li_76, li_77, li_80, li_83, li_86, li_90, li_100, li_120, li_200, li_209, li_234, li_240, li_255, li_300, li_309, li_310, ll_0, ll_1, ll_3, ll_5, ll_7, ll_8, ll_9, ll_20, ll_39, ll_40, ll_60, ll_100, ll_120, ll_200, ll_209, ll_300, ll_309, ll_600, ll_1000000000, zI_neg, zI_add, zI_sub, zI_mul, zL_add, zL_sub, zL_mul, zL_neg, zI_suc, zN_I, zI_ofNat, zI_le_t, zI_le_f, zI_lt_t, zI_lt_f, zI_eq_t, zI_eq_f, zL_le_t, zL_le_f, zL_lt_t, zL_lt_f, zL_eq_t, zL_eq_f, zI_cl, zI_L, mI_t, Int.reduceToNat, nt_le_f, nt_le_t, lc_le, lc_lt, lc_gt, lc_eq, zI_div, Int.toNat_natCast, zI_max, zI_min, or_false, false_or, or_true, true_or, not_false_eq_true, not_true_eq_false, ↓reduceIte, and_self, and_true, true_and, and_false, false_and, not_or, gt_iff_lt, ge_iff_le, mBI_rI, mBJ_rJ, mBR_rV, mBR_rR, rZ_0, rZ_1, is, c, e, ct]
  · rw [if_neg c, if_neg c]
    refine .same h ?_
    simp (disch := omega) only [Int.reduceEq, Int.reduceLT, Int.reduceLE, Int.reduceAdd, Int.reduceMul, Int.reduceSub, Int.reduceNeg, Int.reduceDiv, li_0, li_1, li_2, li_3, li_4, li_5, li_6, li_7, li_8, li_9, li_10, li_16, li_20, li_22, li_32, li_36, li_39, li_40, li_42, li_48, li_60, li_67, li_69, li_70, li_71, li_76, li_77, li_80, li_83, li_86, li_90, li_100, li_120, li_200, li_209, li_234, li_240, li_255, li_300, li_309, li_310, ll_0, ll_1, ll_3, ll_5, ll_7, ll_8, ll_9, ll_20, ll_39, ll_40, ll_60, ll_100, ll_120, ll_200, ll_209, ll_300, ll_309, ll_600, ll_1000000000, zI_neg, zI_add, zI_sub, zI_mul, zL_add, zL_sub, zL_mul, zL_neg, zI_suc, zN_I, zI_ofNat, zI_le_t, zI_le_f, zI_lt_t, zI_lt_f, zI_eq_t, zI_eq_f, zL_le_t, zL_le_f, zL_lt_t, zL_lt_f, zL_eq_t, zL_eq_f, zI_cl, zI_L, mI_t, Int.reduceToNat, nt_le_f, nt_le_t, lc_le, lc_lt, lc_gt, lc_eq, zI_div, Int.toNat_natCast, zI_max, zI_min, or_false, false_or, or_true, true_or, not_false_eq_true, not_true_eq_false, ↓reduceIte, and_self, and_true, true_and, and_false, false_and, not_or, gt_iff_lt, ge_iff_le, mBI_rI, mBJ_rJ, mBR_rV, mBR_rR, rZ_0, rZ_1, is, c]
/-- a row of the reference is copied -/
theorem m_cpy {P Q : Nat} (hPQ : Q ≠ P) (b0 : Nat) {M : mMI} (F : mMI → Nat → Option mRs) (n : Nat) (hF : ∀ N j, j < n → fR [P] M N → F N j = F (mUp N P (b0 + j) (M Q j)) (j + 1)) : ∃ N, F M 0 = F N n ∧ fR [P] M N ∧ (∀ i, i < n → N P (b0 + i) = M Q i) ∧ (∀ i, (i < b0 ∨ b0 + n ≤ i) → N P i = M P i) := by
  obtain ⟨N, ⟨i1, i2, i3⟩, e⟩ := lp_to (α := mMI) F (fun j N => fR [P] M N ∧ (∀ i, i < j → N P (b0 + i) = M Q i) ∧ (∀ i, (i < b0 ∨ b0 + n ≤ i) → N P i = M P i)) n (by
    intro j N hj ⟨i1, i2, i3⟩
    refine ⟨_, ⟨i1.tr (fR.up (by simp)), fun i hi => ?_, fun i hi => by rw [up_ne (by omega)]; exact i3 i hi⟩, hF N j hj i1⟩
    by_cases h : i = j
    · subst h; exact up_at _ _ _ _
    · rw [up_ne (by omega)]; exact i2 i (by omega)) M ⟨fR.rf, fun i hi => absurd hi (Nat.not_lt_zero i), fun _ _ => rfl⟩
  exact ⟨N, e, i1, i2, i3⟩
theorem R_keep {z : Int} (hz : bz z) {y : sS} (hy : yOk y) {M : mMI} {J : mMJ} (h : MI y M) : mE (nKeep z y) M J (k_Model_keep (zI z) M J) (aKeep z y) := by
  have h0 := h.u46 (i := 0) (by omega) (by omega) (zI 0)
  obtain ⟨h1, h2⟩ := hz
  rw [e_Model_keep]
  unfold aKeep nKeep
  by_cases c : 0 ≤ z ∧ z < 2
  · rw [if_pos c, if_pos c]
    obtain ⟨b, rfl⟩ : ∃ b : Nat, z = (b : Int) := ⟨z.toNat, by omega⟩
    have hb : b < 2 := by omega
    have c2 : (b : Int) ≤ 1 := by omega
    obtain ⟨a1, a2, a3, a4⟩ := h0
    obtain ⟨N1, e1, f1, r1, o1⟩ := m_cpy (P := 58) (Q := 56) (by omega) (240 * b) (M := mUp (mUp M 46 0 (zI 0)) 61 b (zI 1)) (fun N j => k_Model_keep_17 (zI (b : Int)) (zI (j : Int)) N J) 240 (by
      intro N j hj hf
      have ix : (240 * (b : Int) + (j : Int)).toNat = 240 * b + j := by omega
      show k_Model_keep_17 (zI (b : Int)) (zI (j : Int)) N J = _
      rw [e_Model_keep_17, ← hf 56 (by simp)]
      simp (disch := omega) only [Int.reduceEq, Int.reduceLT, Int.reduceLE, Int.reduceAdd, Int.reduceMul, Int.reduceSub, Int.reduceNeg, Int.reduceDiv, li_0, li_1, li_2, li_3, li_4, li_5, li_6, li_7, li_8, li_9, li_10, li_16, li_20, li_22, li_32, li_36, li_39, li_40, li_42, li_48, li_60, li_67, li_69, li_70, li_71, li_76, li_77, li_80, li_83, li_86, li_90, li_100, li_120, li_200, li_209, li_234, li_240, li_255, li_300, li_309, li_310, ll_0, ll_1, ll_3, ll_5, ll_7, ll_8, ll_9, ll_20, ll_39, ll_40, ll_60, ll_100, ll_120, ll_200, ll_209, ll_300, ll_309, ll_600, ll_1000000000, zI_neg, zI_add, zI_sub, zI_mul, zL_add, zL_sub, zL_mul, zL_neg, zI_suc, zN_I, zI_ofNat, zI_le_t, zI_le_f, zI_lt_t, zI_lt_f, zI_eq_t, zI_eq_f, zL_le_t, zL_le_f, zL_lt_t, zL_lt_f, zL_eq_t, zL_eq_f, zI_cl, zI_L, mI_t, Int.reduceToNat, nt_le_f, nt_le_t, lc_le, lc_lt, lc_gt, lc_eq, zI_div, Int.toNat_natCast, zI_max, zI_min, or_false, false_or, or_true, true_or, not_false_eq_true, not_true_eq_false, ↓reduceIte, and_self, and_true, true_and, and_false, false_and, not_or, gt_iff_lt, ge_iff_le, mBI_rI, mBJ_rJ, mBR_rV, mBR_rR, rZ_0, rZ_1, ix])
    obtain ⟨N2, e2, f2, r2, o2⟩ := m_cpy (P := 59) (Q := 57) (by omega) (6 * b) (M := N1) (fun N j => k_Model_keep_36 (zI (b : Int)) (zI (j : Int)) N J) 6 (by
      intro N j hj hf
      have ix : (6 * (b : Int) + (j : Int)).toNat = 6 * b + j := by omega
      show k_Model_keep_36 (zI (b : Int)) (zI (j : Int)) N J = _
      rw [e_Model_keep_36, ← hf 57 (by simp)]
      simp (disch := omega) only [Int.reduceEq, Int.reduceLT, Int.reduceLE, Int.reduceAdd, Int.reduceMul, Int.reduceSub, Int.reduceNeg, Int.reduceDiv, li_0, li_1, li_2, li_3, li_4, li_5, li_6, li_7, li_8, li_9, li_10, li_16, li_20, li_22, li_32, li_36, li_39, li_40, li_42, li_48, li_60, li_67, li_69, li_70, li_71, li_76, li_77, li_80, li_83, li_86, li_90, li_100, li_120, li_200, li_209, li_234, li_240, li_255, li_300, li_309, li_310, ll_0, ll_1, ll_3, ll_5, ll_7, ll_8, ll_9, ll_20, ll_39, ll_40, ll_60, ll_100, ll_120, ll_200, ll_209, ll_300, ll_309, ll_600, ll_1000000000, zI_neg, zI_add, zI_sub, zI_mul, zL_add, zL_sub, zL_mul, zL_neg, zI_suc, zN_I, zI_ofNat, zI_le_t, zI_le_f, zI_lt_t, zI_lt_f, zI_eq_t, zI_eq_f, zL_le_t, zL_le_f, zL_lt_t, zL_lt_f, zL_eq_t, zL_eq_f, zI_cl, zI_L, mI_t, Int.reduceToNat, nt_le_f, nt_le_t, lc_le, lc_lt, lc_gt, lc_eq, zI_div, Int.toNat_natCast, zI_max, zI_min, or_false, false_or, or_true, true_or, not_false_eq_true, not_true_eq_false, ↓reduceIte, and_self, and_true, true_and, and_false, false_and, not_or, gt_iff_lt, ge_iff_le, mBI_rI, mBJ_rJ, mBR_rV, mBR_rR, rZ_0, rZ_1, ix])
    obtain ⟨N3, e3, f3, r3, o3⟩ := m_cpy (P := 60) (Q := 62) (by omega) (48 * b) (M := N2) (fun N j => k_Model_keep_55 (zI (b : Int)) (zI (j : Int)) N J) 48 (by
      intro N j hj hf
      have ix : (48 * (b : Int) + (j : Int)).toNat = 48 * b + j := by omega
      show k_Model_keep_55 (zI (b : Int)) (zI (j : Int)) N J = _
      rw [e_Model_keep_55, ← hf 62 (by simp)]
      simp (disch := omega) only [Int.reduceEq, Int.reduceLT, Int.reduceLE, Int.reduceAdd, Int.reduceMul, Int.reduceSub, Int.reduceNeg, Int.reduceDiv, li_0, li_1, li_2, li_3, li_4, li_5, li_6, li_7, li_8, li_9, li_10, li_16, li_20, li_22, li_32, li_36, li_39, li_40, li_42, li_48, li_60, li_67, li_69, li_70, li_71, li_76, li_77, li_80, li_83, li_86, li_90, li_100, li_120, li_200, li_209, li_234, li_240, li_255, li_300, li_309, li_310, ll_0, ll_1, ll_3, ll_5, ll_7, ll_8, ll_9, ll_20, ll_39, ll_40, ll_60, ll_100, ll_120, ll_200, ll_209, ll_300, ll_309, ll_600, ll_1000000000, zI_neg, zI_add, zI_sub, zI_mul, zL_add, zL_sub, zL_mul, zL_neg, zI_suc, zN_I, zI_ofNat, zI_le_t, zI_le_f, zI_lt_t, zI_lt_f, zI_eq_t, zI_eq_f, zL_le_t, zL_le_f, zL_lt_t, zL_lt_f, zL_eq_t, zL_eq_f, zI_cl, zI_L, mI_t, Int.reduceToNat, nt_le_f, nt_le_t, lc_le, lc_lt, lc_gt, lc_eq, zI_div, Int.toNat_natCast, zI_max, zI_min, or_false, false_or, or_true, true_or, not_false_eq_true, not_true_eq_false, ↓reduceIte, and_self, and_true, true_and, and_false, false_and, not_or, gt_iff_lt, ge_iff_le, mBI_rI, mBJ_rJ, mBR_rV, mBR_rR, rZ_0, rZ_1, ix])
    have fr : ∀ p, p ≠ 58 → p ≠ 59 → p ≠ 60 → p ≠ 61 → N3 p = mUp M 46 0 (zI 0) p := by
      intro p q1 q2 q3 q4
      rw [f3 p (by simp; omega), f2 p (by simp; omega), f1 p (by simp; omega), up_nk (by omega)]
    have b2 : mbH (yR y) (yN y) (yA y) (yT y) (yO y) N3 := a2.fr (by rw [fr 46 (by omega) (by omega) (by omega) (by omega)]) (fr _ (by omega) (by omega) (by omega) (by omega)) (fr _ (by omega) (by omega) (by omega) (by omega)) (fr _ (by omega) (by omega) (by omega) (by omega)) (fr _ (by omega) (by omega) (by omega) (by omega)) (fr _ (by omega) (by omega) (by omega) (by omega)) (fr _ (by omega) (by omega) (by omega) (by omega))
    have ct := m_countT (M := N3) b2.2.2.2.2 hy.2.2.1.2.1
    refine ⟨N3, J, ?_, ⟨a1.fr (by rw [fr 46 (by omega) (by omega) (by omega) (by omega)]) (fr _ (by omega) (by omega) (by omega) (by omega)), b2, fun i hi => ?_, fun d hd => ?_⟩, fun p hp => ?_, fun _ _ => rfl⟩
    · simp (disch := omega) only [Int.reduceEq, Int.reduceLT, Int.reduceLE, Int.reduceAdd, Int.reduceMul, Int.reduceSub, Int.reduceNeg, Int.reduceDiv, li_0, li_1, li_2, li_3, li_4, li_5, li_6, li_7, li_8, li_9, li_10, li_16, li_20, li_22, li_32, li_36, li_39, li_40, li_42, li_48, li_60, li_67, li_69, li_70, li_71, li_76, li_77, li_80, li_83, li_86, li_90, li_100, li_120, li_200, li_209, li_234, li_240, li_255, li_300, li_309, li_310, ll_0, ll_1, ll_3, ll_5, ll_7, ll_8, ll_9, ll_20, ll_39, ll_40, ll_60, ll_100, ll_120, ll_200, ll_209, ll_300, ll_309, ll_600, ll_1000000000, zI_neg, zI_add, zI_sub, zI_mul, zL_add, zL_sub, zL_mul, zL_neg, zI_suc, zN_I, zI_ofNat, zI_le_t, zI_le_f, zI_lt_t, zI_lt_f, zI_eq_t, zI_eq_f, zL_le_t, zL_le_f, zL_lt_t, zL_lt_f, zL_eq_t, zL_eq_f, zI_cl, zI_L, mI_t, Int.reduceToNat, nt_le_f, nt_le_t, lc_le, lc_lt, lc_gt, lc_eq, zI_div, Int.toNat_natCast, zI_max, zI_min, or_false, false_or, or_true, true_or, not_false_eq_true, not_true_eq_false, ↓reduceIte, and_self, and_true, true_and, and_false, false_and, not_or, gt_iff_lt, ge_iff_le, mBI_rI, mBJ_rJ, mBR_rV, mBR_rR, rZ_0, rZ_1, m_in, c.1, c2]
      refine Eq.trans e1 ?_
      show k_Model_keep_17 (zI (b : Int)) (zI ((240 : Nat) : Int)) N1 J = _
      rw [e_Model_keep_17]
      simp (disch := omega) only [Int.reduceEq, Int.reduceLT, Int.reduceLE, Int.reduceAdd, Int.reduceMul, Int.reduceSub, Int.reduceNeg, Int.reduceDiv, li_0, li_1, li_2, li_3, li_4, li_5, li_6, li_7, li_8, li_9, li_10, li_16, li_20, li_22, li_32, li_36, li_39, li_40, li_42, li_48, li_60, li_67, li_69, li_70, li_71, li_76, li_77, li_80, li_83, li_86, li_90, li_100, li_120, li_200, li_209, li_234, li_240, li_255, li_300, li_309, li_310, ll_0, ll_1, ll_3, ll_5, ll_7, ll_8, ll_9, ll_20, ll_39, ll_40, ll_60, ll_100, ll_120, ll_200, ll_209, ll_300, ll_309, ll_600, ll_1000000000, zI_neg, zI_add, zI_sub, zI_mul, zL_add, zL_sub, zL_mul, zL_neg, zI_suc, zN_I, zI_ofNat, zI_le_t, zI_le_f, zI_lt_t, zI_lt_f, zI_eq_t, zI_eq_f, zL_le_t, zL_le_f, zL_lt_t, zL_lt_f, zL_eq_t, zL_eq_f, zI_cl, zI_L, mI_t, Int.reduceToNat, nt_le_f, nt_le_t, lc_le, lc_lt, lc_gt, lc_eq, zI_div, Int.toNat_natCast, zI_max, zI_min, or_false, false_or, or_true, true_or, not_false_eq_true, not_true_eq_false, ↓reduceIte, and_self, and_true, true_and, and_false, false_and, not_or, gt_iff_lt, ge_iff_le, mBI_rI, mBJ_rJ, mBR_rV, mBR_rR, rZ_0, rZ_1]
      refine Eq.trans e2 ?_
      show k_Model_keep_36 (zI (b : Int)) (zI ((6 : Nat) : Int)) N2 J = _
      rw [e_Model_keep_36]
      simp (disch := omega) only [Int.reduceEq, Int.reduceLT, Int.reduceLE, Int.reduceAdd, Int.reduceMul, Int.reduceSub, Int.reduceNeg, Int.reduceDiv, li_0, li_1, li_2, li_3, li_4, li_5, li_6, li_7, li_8, li_9, li_10, li_16, li_20, li_22, li_32, li_36, li_39, li_40, li_42, li_48, li_60, li_67, li_69, li_70, li_71, li_76, li_77, li_80, li_83, li_86, li_90, li_100, li_120, li_200, li_209, li_234, li_240, li_255, li_300, li_309, li_310, ll_0, ll_1, ll_3, ll_5, ll_7, ll_8, ll_9, ll_20, ll_39, ll_40, ll_60, ll_100, ll_120, ll_200, ll_209, ll_300, ll_309, ll_600, ll_1000000000, zI_neg, zI_add, zI_sub, zI_mul, zL_add, zL_sub, zL_mul, zL_neg, zI_suc, zN_I, zI_ofNat, zI_le_t, zI_le_f, zI_lt_t, zI_lt_f, zI_eq_t, zI_eq_f, zL_le_t, zL_le_f, zL_lt_t, zL_lt_f, zL_eq_t, zL_eq_f, zI_cl, zI_L, mI_t, Int.reduceToNat, nt_le_f, nt_le_t, lc_le, lc_lt, lc_gt, lc_eq, zI_div, Int.toNat_natCast, zI_max, zI_min, or_false, false_or, or_true, true_or, not_false_eq_true, not_true_eq_false, ↓reduceIte, and_self, and_true, true_and, and_false, false_and, not_or, gt_iff_lt, ge_iff_le, mBI_rI, mBJ_rJ, mBR_rV, mBR_rR, rZ_0, rZ_1]
      refine Eq.trans e3 ?_
      show k_Model_keep_55 (zI (b : Int)) (zI ((48 : Nat) : Int)) N3 J = _
      rw [e_Model_keep_55]
      simp (disch := omega) only [Int.reduceEq, Int.reduceLT, Int.reduceLE, Int.reduceAdd, Int.reduceMul, Int.reduceSub, Int.reduceNeg, Int.reduceDiv, li_0, li_1, li_2, li_3, li_4, li_5, li_6, li_7, li_8, li_9, li_10, li_16, li_20, li_22, li_32, li_36, li_39, li_40, li_42, li_48, li_60, li_67, li_69, li_70, li_71, li_76, li_77, li_80, li_83, li_86, li_90, li_100, li_120, li_200, li_209, li_234, li_240, li_255, li_300, li_309, li_310, ll_0, ll_1, ll_3, ll_5, ll_7, ll_8, ll_9, ll_20, ll_39, ll_40, ll_60, ll_100, ll_120, ll_200, ll_209, ll_300, ll_309, ll_600, ll_1000000000, zI_neg, zI_add, zI_sub, zI_mul, zL_add, zL_sub, zL_mul, zL_neg, zI_suc, zN_I, zI_ofNat, zI_le_t, zI_le_f, zI_lt_t, zI_lt_f, zI_eq_t, zI_eq_f, zL_le_t, zL_le_f, zL_lt_t, zL_lt_f, zL_eq_t, zL_eq_f, zI_cl, zI_L, mI_t, Int.reduceToNat, nt_le_f, nt_le_t, lc_le, lc_lt, lc_gt, lc_eq, zI_div, Int.toNat_natCast, zI_max, zI_min, or_false, false_or, or_true, true_or, not_false_eq_true, not_true_eq_false, ↓reduceIte, and_self, and_true, true_and, and_false, false_and, not_or, gt_iff_lt, ge_iff_le, mBI_rI, mBJ_rJ, mBR_rV, mBR_rR, rZ_0, rZ_1, ct]
    · rw [fr 62 (by omega) (by omega) (by omega) (by omega)]
      exact a3 i hi
    · rw [Int.toNat_natCast]
      have e61 : N3 61 = mUp (mUp M 46 0 (zI 0)) 61 b (zI 1) 61 := by rw [f3 61 (by simp), f2 61 (by simp), f1 61 (by simp)]
      show N3 61 d = zI (upO (yF y) b 1 d) ∧ (upO (yF y) b 1 d = 1 → (∀ k t, k < 6 → t < 40 → N3 58 (240 * d + 40 * k + t) = zI ((if d = b then (yT y, yO y, yK y) else yS y d).1 k t)) ∧ (∀ k, k < 6 → N3 59 (6 * d + k) = zI ((if d = b then (yT y, yO y, yK y) else yS y d).2.1 k)) ∧ (∀ i, i < 48 → N3 60 (48 * d + i) = zI ((if d = b then (yT y, yO y, yK y) else yS y d).2.2 i)))
      by_cases hdb : d = b
      · subst hdb
        simp only [↓reduceIte]
        refine ⟨?_, fun _ => ⟨fun k t hk ht => ?_, fun k hk => ?_, fun i hi => ?_⟩⟩
        · rw [e61, up_at]; unfold upO; rw [if_pos rfl]
        · rw [f3 58 (by simp), f2 58 (by simp), Nat.add_assoc, r1 _ (by omega), up_nk (by omega)]
          exact a2.2.2.2.2 k t hk ht
        · rw [f3 59 (by simp), r2 _ (by omega), f1 57 (by simp), up_nk (by omega)]
          exact a2.2.2.2.1 k hk
        · rw [r3 _ (by omega), f2 62 (by simp), f1 62 (by simp), up_nk (by omega)]
          exact a3 i hi
      · rw [if_neg hdb]
        have e : upO (yF y) b 1 d = yF y d := if_neg hdb
        have o := a4 d hd
        rw [e]
        refine ⟨by rw [e61, up_ne hdb]; exact o.1, fun h1 => ⟨fun k t hk ht => ?_, fun k hk => ?_, fun i hi => ?_⟩⟩
        · rw [f3 58 (by simp), f2 58 (by simp), o1 _ (by omega), up_nk (by omega)]
          exact (o.2 h1).1 k t hk ht
        · rw [f3 59 (by simp), o2 _ (by omega), f1 59 (by simp), up_nk (by omega)]
          exact (o.2 h1).2.1 k hk
        · rw [o3 _ (by omega), f2 60 (by simp), f1 60 (by simp), up_nk (by omega)]
          exact (o.2 h1).2.2 i hi
    · rw [fr p (by omega) (by omega) (by omega) (by omega), up_nk (by omega)]
  · rw [if_neg c, if_neg c]
    refine .same h ?_
    have c2 : ¬ (0 ≤ z ∧ z ≤ 1) := by omega
    simp (disch := omega) only [Int.reduceEq, Int.reduceLT, Int.reduceLE, Int.reduceAdd, Int.reduceMul, Int.reduceSub, Int.reduceNeg, Int.reduceDiv, li_0, li_1, li_2, li_3, li_4, li_5, li_6, li_7, li_8, li_9, li_10, li_16, li_20, li_22, li_32, li_36, li_39, li_40, li_42, li_48, li_60, li_67, li_69, li_70, li_71, li_76, li_77, li_80, li_83, li_86, li_90, li_100, li_120, li_200, li_209, li_234, li_240, li_255, li_300, li_309, li_310, ll_0, ll_1, ll_3, ll_5, ll_7, ll_8, ll_9, ll_20, ll_39, ll_40, ll_60, ll_100, ll_120, ll_200, ll_209, ll_300, ll_309, ll_600, ll_1000000000, zI_neg, zI_add, zI_sub, zI_mul, zL_add, zL_sub, zL_mul, zL_neg, zI_suc, zN_I, zI_ofNat, zI_le_t, zI_le_f, zI_lt_t, zI_lt_f, zI_eq_t, zI_eq_f, zL_le_t, zL_le_f, zL_lt_t, zL_lt_f, zL_eq_t, zL_eq_f, zI_cl, zI_L, mI_t, Int.reduceToNat, nt_le_f, nt_le_t, lc_le, lc_lt, lc_gt, lc_eq, zI_div, Int.toNat_natCast, zI_max, zI_min, or_false, false_or, or_true, true_or, not_false_eq_true, not_true_eq_false, ↓reduceIte, and_self, and_true, true_and, and_false, false_and, not_or, gt_iff_lt, ge_iff_le, mBI_rI, mBJ_rJ, mBR_rV, mBR_rR, rZ_0, rZ_1, m_in, c2]
