/-! part, parted: the loops -/
def a_part (y : sS) : Int32 := zI (if yN y = 4 ∨ yN y = 6 then pbV y (qN y) else -3)
theorem P_part {y : sS} (hy : yOk y) {M : mMI} {J : mMJ} (h : CI y M J) : cE y M J (k_Pot_part M J) (a_part y) := by
  have hn := hy.2.1.1
  have cc := c_can h hy J
  rw [e_Pot_part]
  unfold a_part
  by_cases hh : yN y = 4 ∨ yN y = 6
  · rw [if_pos hh] at cc ⊢
    have sh := sh_n hh
    have ql := qN_le y
    obtain ⟨hq, h3⟩ := hN_q hh
    have fh := c_first h hh J
    have p1 := pbV_hN hh
    have le0 : ∀ x : Int64, x ≤ x := fun x => Int64.le_iff_toInt_le.mpr (Int.le_refl _)
    obtain ⟨N0, K0, e0, o0⟩ := P_halves hy h (qN_nb hh (b := 2 * hN y + 1) (by omega)) (hN_c hh)
    have ic0 : ((2 * hN y + 1 : Nat) : Int) + 2 = ((2 * (hN y + 1) + 1 : Nat) : Int) := by omega
    have key : cE y M J (k_Pot_part_16 (zI (pbV y (hN y + 1))) (zL (pvV y (pbV y (hN y + 1)).toNat)) (zI ((2 * (hN y + 1) + 1 : Nat) : Int)) N0 K0) (zI (pbV y (qN y))) := by
      refine lp_Q (α := mMI × mMJ) (fun N i => k_Pot_part_16 (zI (pbV y (hN y + 1 + i))) (zL (pvV y (pbV y (hN y + 1 + i)).toNat)) (zI ((2 * (hN y + 1 + i) + 1 : Nat) : Int)) N.1 N.2) (fun i N => cO1 y M J N.1 N.2) (fun o => cE y M J o (zI (pbV y (qN y)))) (qN y - (hN y + 1)) ?_ ?_ (N0, K0) o0
      · intro i ⟨N, K⟩ hi i1
        right
        dsimp only at i1
        have hj : hN y + 1 + i < qN y := by omega
        have w3 := pbV_ge hh i
        show ∃ b : mMI × mMJ, cO1 y M J b.1 b.2 ∧ k_Pot_part_16 (zI (pbV y (hN y + 1 + i))) (zL (pvV y (pbV y (hN y + 1 + i)).toNat)) (zI ((2 * (hN y + 1 + i) + 1 : Nat) : Int)) N K = k_Pot_part_16 (zI (pbV y (hN y + 1 + i + 1))) (zL (pvV y (pbV y (hN y + 1 + i + 1)).toNat)) (zI ((2 * (hN y + 1 + i + 1) + 1 : Nat) : Int)) b.1 b.2
        generalize hN y + 1 + i = j at hj w3 ⊢
        have e71 : N 7 1 = zI (yN y : Int) := i1.1.2.2.1.1
        have ch := c_isHalf i1.1 hy (b := 2 * j + 1) (by omega) K
        have ic : ((2 * j + 1 : Nat) : Int) + 2 = ((2 * (j + 1) + 1 : Nat) : Int) := by omega
        have es := pbV_s y j
        by_cases c : 2 * cM (bB (zI ((2 * j + 1 : Nat) : Int))) 6 = yN y
        · rw [if_pos c] at ch
          obtain ⟨N2, K2, e, o⟩ := P_halves hy i1.1 (qN_nb hh (by omega)) c
          refine ⟨(N2, K2), i1.tr o, ?_⟩
          show k_Pot_part_16 _ _ (zI ((2 * j + 1 : Nat) : Int)) N K = k_Pot_part_16 _ _ (zI ((2 * (j + 1) + 1 : Nat) : Int)) N2 K2
          rw [e_Pot_part_16]
          by_cases d : zL (pvV y (pbV y j).toNat) < zL (pvV y (2 * j + 1))
          · rw [if_pos ⟨c, Or.inr d⟩] at es
            simp (disch := omega) only [Int.reduceEq, Int.reduceLT, Int.reduceLE, Int.reduceAdd, Int.reduceMul, Int.reduceSub, Int.reduceNeg, Int.reduceDiv, li_0, li_1, li_2, li_3, li_4, li_5, li_6, li_7, li_8, li_9, li_10, li_16, li_20, li_22, li_32, li_36, li_39, li_40, li_42, li_48, li_60, li_67, li_69, li_70, li_71, li_76, li_77, li_80, li_83, li_86, li_90, li_100, li_120, li_200, li_209, li_234, li_240, li_255, li_300, li_309, li_310, ll_0, ll_1, ll_3, ll_5, ll_7, ll_8, ll_9, ll_20, ll_39, ll_40, ll_60, ll_100, ll_120, ll_200, ll_209, ll_300, ll_309, ll_600, ll_1000000000, zI_neg, zI_add, zI_sub, zI_mul, zL_add, zL_sub, zL_mul, zL_neg, zI_suc, zN_I, zI_ofNat, zI_le_t, zI_le_f, zI_lt_t, zI_lt_f, zI_eq_t, zI_eq_f, zL_le_t, zL_le_f, zL_lt_t, zL_lt_f, zL_eq_t, zL_eq_f, zI_cl, zI_L, mI_t, Int.reduceToNat, nt_le_f, nt_le_t, lc_le, lc_lt, lc_gt, lc_eq, zI_div, Int.toNat_natCast, zI_max, zI_min, or_false, false_or, or_true, true_or, not_false_eq_true, not_true_eq_false, ↓reduceIte, and_self, and_true, true_and, and_false, false_and, not_or, gt_iff_lt, ge_iff_le, mBI_rI, mBJ_rJ, mBR_rV, mBR_rR, rZ_0, rZ_1, e71, sh, ch, e, es, lL_not, d, ic]
          · rw [if_neg (fun q => q.2.elim w3 d)] at es
            simp (disch := omega) only [Int.reduceEq, Int.reduceLT, Int.reduceLE, Int.reduceAdd, Int.reduceMul, Int.reduceSub, Int.reduceNeg, Int.reduceDiv, li_0, li_1, li_2, li_3, li_4, li_5, li_6, li_7, li_8, li_9, li_10, li_16, li_20, li_22, li_32, li_36, li_39, li_40, li_42, li_48, li_60, li_67, li_69, li_70, li_71, li_76, li_77, li_80, li_83, li_86, li_90, li_100, li_120, li_200, li_209, li_234, li_240, li_255, li_300, li_309, li_310, ll_0, ll_1, ll_3, ll_5, ll_7, ll_8, ll_9, ll_20, ll_39, ll_40, ll_60, ll_100, ll_120, ll_200, ll_209, ll_300, ll_309, ll_600, ll_1000000000, zI_neg, zI_add, zI_sub, zI_mul, zL_add, zL_sub, zL_mul, zL_neg, zI_suc, zN_I, zI_ofNat, zI_le_t, zI_le_f, zI_lt_t, zI_lt_f, zI_eq_t, zI_eq_f, zL_le_t, zL_le_f, zL_lt_t, zL_lt_f, zL_eq_t, zL_eq_f, zI_cl, zI_L, mI_t, Int.reduceToNat, nt_le_f, nt_le_t, lc_le, lc_lt, lc_gt, lc_eq, zI_div, Int.toNat_natCast, zI_max, zI_min, or_false, false_or, or_true, true_or, not_false_eq_true, not_true_eq_false, ↓reduceIte, and_self, and_true, true_and, and_false, false_and, not_or, gt_iff_lt, ge_iff_le, mBI_rI, mBJ_rJ, mBR_rV, mBR_rR, rZ_0, rZ_1, e71, sh, ch, e, es, lL_not, d, ic]
        · rw [if_neg c] at ch
          rw [if_neg (fun q => c q.1)] at es
          refine ⟨(N, K), i1, ?_⟩
          show k_Pot_part_16 _ _ (zI ((2 * j + 1 : Nat) : Int)) N K = k_Pot_part_16 _ _ (zI ((2 * (j + 1) + 1 : Nat) : Int)) N K
          rw [e_Pot_part_16]
          simp (disch := omega) only [Int.reduceEq, Int.reduceLT, Int.reduceLE, Int.reduceAdd, Int.reduceMul, Int.reduceSub, Int.reduceNeg, Int.reduceDiv, li_0, li_1, li_2, li_3, li_4, li_5, li_6, li_7, li_8, li_9, li_10, li_16, li_20, li_22, li_32, li_36, li_39, li_40, li_42, li_48, li_60, li_67, li_69, li_70, li_71, li_76, li_77, li_80, li_83, li_86, li_90, li_100, li_120, li_200, li_209, li_234, li_240, li_255, li_300, li_309, li_310, ll_0, ll_1, ll_3, ll_5, ll_7, ll_8, ll_9, ll_20, ll_39, ll_40, ll_60, ll_100, ll_120, ll_200, ll_209, ll_300, ll_309, ll_600, ll_1000000000, zI_neg, zI_add, zI_sub, zI_mul, zL_add, zL_sub, zL_mul, zL_neg, zI_suc, zN_I, zI_ofNat, zI_le_t, zI_le_f, zI_lt_t, zI_lt_f, zI_eq_t, zI_eq_f, zL_le_t, zL_le_f, zL_lt_t, zL_lt_f, zL_eq_t, zL_eq_f, zI_cl, zI_L, mI_t, Int.reduceToNat, nt_le_f, nt_le_t, lc_le, lc_lt, lc_gt, lc_eq, zI_div, Int.toNat_natCast, zI_max, zI_min, or_false, false_or, or_true, true_or, not_false_eq_true, not_true_eq_false, ↓reduceIte, and_self, and_true, true_and, and_false, false_and, not_or, gt_iff_lt, ge_iff_le, mBI_rI, mBJ_rJ, mBR_rV, mBR_rR, rZ_0, rZ_1, e71, sh, ch, es, le0, ic]
      · intro ⟨N, K⟩ i1
        have e71 : N 7 1 = zI (yN y : Int) := i1.1.2.2.1.1
        have ej : hN y + 1 + (qN y - (hN y + 1)) = qN y := by omega
        refine ⟨N, K, ?_, i1⟩
        show k_Pot_part_16 (zI (pbV y (hN y + 1 + (qN y - (hN y + 1))))) (zL (pvV y (pbV y (hN y + 1 + (qN y - (hN y + 1)))).toNat)) (zI ((2 * (hN y + 1 + (qN y - (hN y + 1))) + 1 : Nat) : Int)) N K = _
        rw [ej, e_Pot_part_16]
        simp (disch := omega) only [Int.reduceEq, Int.reduceLT, Int.reduceLE, Int.reduceAdd, Int.reduceMul, Int.reduceSub, Int.reduceNeg, Int.reduceDiv, li_0, li_1, li_2, li_3, li_4, li_5, li_6, li_7, li_8, li_9, li_10, li_16, li_20, li_22, li_32, li_36, li_39, li_40, li_42, li_48, li_60, li_67, li_69, li_70, li_71, li_76, li_77, li_80, li_83, li_86, li_90, li_100, li_120, li_200, li_209, li_234, li_240, li_255, li_300, li_309, li_310, ll_0, ll_1, ll_3, ll_5, ll_7, ll_8, ll_9, ll_20, ll_39, ll_40, ll_60, ll_100, ll_120, ll_200, ll_209, ll_300, ll_309, ll_600, ll_1000000000, zI_neg, zI_add, zI_sub, zI_mul, zL_add, zL_sub, zL_mul, zL_neg, zI_suc, zN_I, zI_ofNat, zI_le_t, zI_le_f, zI_lt_t, zI_lt_f, zI_eq_t, zI_eq_f, zL_le_t, zL_le_f, zL_lt_t, zL_lt_f, zL_eq_t, zL_eq_f, zI_cl, zI_L, mI_t, Int.reduceToNat, nt_le_f, nt_le_t, lc_le, lc_lt, lc_gt, lc_eq, zI_div, Int.toNat_natCast, zI_max, zI_min, or_false, false_or, or_true, true_or, not_false_eq_true, not_true_eq_false, ↓reduceIte, and_self, and_true, true_and, and_false, false_and, not_or, gt_iff_lt, ge_iff_le, mBI_rI, mBJ_rJ, mBR_rV, mBR_rR, rZ_0, rZ_1, e71, sh]
    rw [p1, Int.toNat_natCast] at key
    obtain ⟨N, K, e, o⟩ := key
    refine ⟨N, K, ?_, o⟩
    simp (disch := omega) only [Int.reduceEq, Int.reduceLT, Int.reduceLE, Int.reduceAdd, Int.reduceMul, Int.reduceSub, Int.reduceNeg, Int.reduceDiv, li_0, li_1, li_2, li_3, li_4, li_5, li_6, li_7, li_8, li_9, li_10, li_16, li_20, li_22, li_32, li_36, li_39, li_40, li_42, li_48, li_60, li_67, li_69, li_70, li_71, li_76, li_77, li_80, li_83, li_86, li_90, li_100, li_120, li_200, li_209, li_234, li_240, li_255, li_300, li_309, li_310, ll_0, ll_1, ll_3, ll_5, ll_7, ll_8, ll_9, ll_20, ll_39, ll_40, ll_60, ll_100, ll_120, ll_200, ll_209, ll_300, ll_309, ll_600, ll_1000000000, zI_neg, zI_add, zI_sub, zI_mul, zL_add, zL_sub, zL_mul, zL_neg, zI_suc, zN_I, zI_ofNat, zI_le_t, zI_le_f, zI_lt_t, zI_lt_f, zI_eq_t, zI_eq_f, zL_le_t, zL_le_f, zL_lt_t, zL_lt_f, zL_eq_t, zL_eq_f, zI_cl, zI_L, mI_t, Int.reduceToNat, nt_le_f, nt_le_t, lc_le, lc_lt, lc_gt, lc_eq, zI_div, Int.toNat_natCast, zI_max, zI_min, or_false, false_or, or_true, true_or, not_false_eq_true, not_true_eq_false, ↓reduceIte, and_self, and_true, true_and, and_false, false_and, not_or, gt_iff_lt, ge_iff_le, mBI_rI, mBJ_rJ, mBR_rV, mBR_rR, rZ_0, rZ_1, cc, fh, e0, ic0, e]
  · rw [if_neg hh] at cc ⊢
    refine .same h ?_
    simp (disch := omega) only [Int.reduceEq, Int.reduceLT, Int.reduceLE, Int.reduceAdd, Int.reduceMul, Int.reduceSub, Int.reduceNeg, Int.reduceDiv, li_0, li_1, li_2, li_3, li_4, li_5, li_6, li_7, li_8, li_9, li_10, li_16, li_20, li_22, li_32, li_36, li_39, li_40, li_42, li_48, li_60, li_67, li_69, li_70, li_71, li_76, li_77, li_80, li_83, li_86, li_90, li_100, li_120, li_200, li_209, li_234, li_240, li_255, li_300, li_309, li_310, ll_0, ll_1, ll_3, ll_5, ll_7, ll_8, ll_9, ll_20, ll_39, ll_40, ll_60, ll_100, ll_120, ll_200, ll_209, ll_300, ll_309, ll_600, ll_1000000000, zI_neg, zI_add, zI_sub, zI_mul, zL_add, zL_sub, zL_mul, zL_neg, zI_suc, zN_I, zI_ofNat, zI_le_t, zI_le_f, zI_lt_t, zI_lt_f, zI_eq_t, zI_eq_f, zL_le_t, zL_le_f, zL_lt_t, zL_lt_f, zL_eq_t, zL_eq_f, zI_cl, zI_L, mI_t, Int.reduceToNat, nt_le_f, nt_le_t, lc_le, lc_lt, lc_gt, lc_eq, zI_div, Int.toNat_natCast, zI_max, zI_min, or_false, false_or, or_true, true_or, not_false_eq_true, not_true_eq_false, ↓reduceIte, and_self, and_true, true_and, and_false, false_and, not_or, gt_iff_lt, ge_iff_le, mBI_rI, mBJ_rJ, mBR_rV, mBR_rR, rZ_0, rZ_1, cc]
/-- the reference's best begins at 0 -/
def pzV (y : sS) (j : Nat) : Int := if pbV y j = -3 then 0 else pbV y j
theorem R_findPart {y : sS} (hy : yOk y) (hh : yN y = 4 ∨ yN y = 6) {M : mMI} {J : mMJ} (h : MI y M) : mE y M J (k_Model_findPart M J) (zI (pbV y (qN y))) := by
  have hn := hy.2.1.1
  rw [e_Model_findPart]
  have sh := sh_n hh
  have ql := qN_le y
  simp only [li_0, li_1, li_2, li_3, li_4, li_5, li_6, li_7, li_8, li_9, li_10, li_16, li_20, li_22, li_32, li_36, li_39, li_40, li_42, li_48, li_60, li_67, li_69, li_70, li_71, li_76, li_77, li_80, li_83, li_86, li_90, li_100, li_120, li_200, li_209, li_234, li_240, li_255, li_300, li_309, li_310, ll_0, ll_1, ll_3, ll_5, ll_7, ll_8, ll_9, ll_20, ll_39, ll_40, ll_60, ll_100, ll_120, ll_200, ll_209, ll_300, ll_309, ll_600, ll_1000000000, zI_neg, zI_add, zI_sub, zI_mul, zL_add, zL_sub, zL_mul, zL_neg, zI_suc, zN_I, zI_ofNat]
  refine lp_Q (α := mMI × mMJ) (fun N j => k_Model_findPart_6 (zI (pzV y j)) (mpV y j (zL 0)) (zI ((2 * j + 1 : Nat) : Int)) N.1 N.2) (fun j N => mO1 y M J N.1 N.2) (fun o => mE y M J o (zI (pbV y (qN y)))) (qN y) ?_ ?_ (M, J) ⟨h, fun _ _ => rfl, fun _ _ => rfl⟩
  · intro j ⟨N, K⟩ hj i1
    right
    dsimp only at i1
    have e7 : N 46 7 = zI (yN y : Int) := i1.1.2.1.1
    have ch := m_bits (b := 2 * j + 1) (by omega) N K
    have lc := cM_le (bB (zI ((2 * j + 1 : Nat) : Int))) 6
    have ic : ((2 * j + 1 : Nat) : Int) + 2 = ((2 * (j + 1) + 1 : Nat) : Int) := by omega
    have pb := pbV_bd y j
    have es := pbV_s y j
    by_cases c : 2 * cM (bB (zI ((2 * j + 1 : Nat) : Int))) 6 = yN y
    · obtain ⟨N2, K2, e, o⟩ := R_parts hy (J := K) i1.1 (qN_nb hh (by omega)) c
      refine ⟨(N2, K2), i1.tr o, ?_⟩
      show k_Model_findPart_6 _ _ (zI ((2 * j + 1 : Nat) : Int)) N K = k_Model_findPart_6 _ _ (zI ((2 * (j + 1) + 1 : Nat) : Int)) N2 K2
      rw [e_Model_findPart_6]
      by_cases w3 : pbV y j = -3
      · rw [if_pos ⟨c, Or.inl w3⟩] at es
        have em : mpV y (j + 1) (zL 0) = zL (pvV y (2 * j + 1)) := by
          unfold mpV
          rw [es, if_neg (by omega), Int.toNat_natCast]
        have ez : pzV y (j + 1) = ((2 * j + 1 : Nat) : Int) := by
          unfold pzV
          rw [es, if_neg (by omega)]
        have ez0 : pzV y j = 0 := if_pos w3
        simp (disch := omega) only [Int.reduceEq, Int.reduceLT, Int.reduceLE, Int.reduceAdd, Int.reduceMul, Int.reduceSub, Int.reduceNeg, Int.reduceDiv, li_0, li_1, li_2, li_3, li_4, li_5, li_6, li_7, li_8, li_9, li_10, li_16, li_20, li_22, li_32, li_36, li_39, li_40, li_42, li_48, li_60, li_67, li_69, li_70, li_71, li_76, li_77, li_80, li_83, li_86, li_90, li_100, li_120, li_200, li_209, li_234, li_240, li_255, li_300, li_309, li_310, ll_0, ll_1, ll_3, ll_5, ll_7, ll_8, ll_9, ll_20, ll_39, ll_40, ll_60, ll_100, ll_120, ll_200, ll_209, ll_300, ll_309, ll_600, ll_1000000000, zI_neg, zI_add, zI_sub, zI_mul, zL_add, zL_sub, zL_mul, zL_neg, zI_suc, zN_I, zI_ofNat, zI_le_t, zI_le_f, zI_lt_t, zI_lt_f, zI_eq_t, zI_eq_f, zL_le_t, zL_le_f, zL_lt_t, zL_lt_f, zL_eq_t, zL_eq_f, zI_cl, zI_L, mI_t, Int.reduceToNat, nt_le_f, nt_le_t, lc_le, lc_lt, lc_gt, lc_eq, zI_div, Int.toNat_natCast, zI_max, zI_min, or_false, false_or, or_true, true_or, not_false_eq_true, not_true_eq_false, ↓reduceIte, and_self, and_true, true_and, and_false, false_and, not_or, gt_iff_lt, ge_iff_le, mBI_rI, mBJ_rJ, mBR_rV, mBR_rR, rZ_0, rZ_1, e7, sh, ch, e, ez0, ez, em, ic]
      · have em0 : mpV y j (zL 0) = zL (pvV y (pbV y j).toNat) := if_neg w3
        have ez0 : pzV y j = pbV y j := if_neg w3
        by_cases d : zL (pvV y (pbV y j).toNat) < zL (pvV y (2 * j + 1))
        · rw [if_pos ⟨c, Or.inr d⟩] at es
          have em : mpV y (j + 1) (zL 0) = zL (pvV y (2 * j + 1)) := by
            unfold mpV
            rw [es, if_neg (by omega), Int.toNat_natCast]
          have ez : pzV y (j + 1) = ((2 * j + 1 : Nat) : Int) := by
            unfold pzV
            rw [es, if_neg (by omega)]
          simp (disch := omega) only [Int.reduceEq, Int.reduceLT, Int.reduceLE, Int.reduceAdd, Int.reduceMul, Int.reduceSub, Int.reduceNeg, Int.reduceDiv, li_0, li_1, li_2, li_3, li_4, li_5, li_6, li_7, li_8, li_9, li_10, li_16, li_20, li_22, li_32, li_36, li_39, li_40, li_42, li_48, li_60, li_67, li_69, li_70, li_71, li_76, li_77, li_80, li_83, li_86, li_90, li_100, li_120, li_200, li_209, li_234, li_240, li_255, li_300, li_309, li_310, ll_0, ll_1, ll_3, ll_5, ll_7, ll_8, ll_9, ll_20, ll_39, ll_40, ll_60, ll_100, ll_120, ll_200, ll_209, ll_300, ll_309, ll_600, ll_1000000000, zI_neg, zI_add, zI_sub, zI_mul, zL_add, zL_sub, zL_mul, zL_neg, zI_suc, zN_I, zI_ofNat, zI_le_t, zI_le_f, zI_lt_t, zI_lt_f, zI_eq_t, zI_eq_f, zL_le_t, zL_le_f, zL_lt_t, zL_lt_f, zL_eq_t, zL_eq_f, zI_cl, zI_L, mI_t, Int.reduceToNat, nt_le_f, nt_le_t, lc_le, lc_lt, lc_gt, lc_eq, zI_div, Int.toNat_natCast, zI_max, zI_min, or_false, false_or, or_true, true_or, not_false_eq_true, not_true_eq_false, ↓reduceIte, and_self, and_true, true_and, and_false, false_and, not_or, gt_iff_lt, ge_iff_le, mBI_rI, mBJ_rJ, mBR_rV, mBR_rR, rZ_0, rZ_1, e7, sh, ch, e, ez0, ez, em, em0, lL_not, d, ic]
        · rw [if_neg (fun q => q.2.elim w3 d)] at es
          have em : mpV y (j + 1) (zL 0) = zL (pvV y (pbV y j).toNat) := by
            unfold mpV
            rw [es, if_neg w3]
          have ez : pzV y (j + 1) = pbV y j := by
            unfold pzV
            rw [es, if_neg w3]
          simp (disch := omega) only [Int.reduceEq, Int.reduceLT, Int.reduceLE, Int.reduceAdd, Int.reduceMul, Int.reduceSub, Int.reduceNeg, Int.reduceDiv, li_0, li_1, li_2, li_3, li_4, li_5, li_6, li_7, li_8, li_9, li_10, li_16, li_20, li_22, li_32, li_36, li_39, li_40, li_42, li_48, li_60, li_67, li_69, li_70, li_71, li_76, li_77, li_80, li_83, li_86, li_90, li_100, li_120, li_200, li_209, li_234, li_240, li_255, li_300, li_309, li_310, ll_0, ll_1, ll_3, ll_5, ll_7, ll_8, ll_9, ll_20, ll_39, ll_40, ll_60, ll_100, ll_120, ll_200, ll_209, ll_300, ll_309, ll_600, ll_1000000000, zI_neg, zI_add, zI_sub, zI_mul, zL_add, zL_sub, zL_mul, zL_neg, zI_suc, zN_I, zI_ofNat, zI_le_t, zI_le_f, zI_lt_t, zI_lt_f, zI_eq_t, zI_eq_f, zL_le_t, zL_le_f, zL_lt_t, zL_lt_f, zL_eq_t, zL_eq_f, zI_cl, zI_L, mI_t, Int.reduceToNat, nt_le_f, nt_le_t, lc_le, lc_lt, lc_gt, lc_eq, zI_div, Int.toNat_natCast, zI_max, zI_min, or_false, false_or, or_true, true_or, not_false_eq_true, not_true_eq_false, ↓reduceIte, and_self, and_true, true_and, and_false, false_and, not_or, gt_iff_lt, ge_iff_le, mBI_rI, mBJ_rJ, mBR_rV, mBR_rR, rZ_0, rZ_1, e7, sh, ch, e, ez0, ez, em, em0, lL_not, d, ic]
    · rw [if_neg (fun q => c q.1)] at es
      have em : mpV y (j + 1) (zL 0) = mpV y j (zL 0) := by
        unfold mpV
        rw [es]
      have ez : pzV y (j + 1) = pzV y j := by
        unfold pzV
        rw [es]
      refine ⟨(N, K), i1, ?_⟩
      show k_Model_findPart_6 _ _ (zI ((2 * j + 1 : Nat) : Int)) N K = k_Model_findPart_6 _ _ (zI ((2 * (j + 1) + 1 : Nat) : Int)) N K
      rw [e_Model_findPart_6]
      simp (disch := omega) only [Int.reduceEq, Int.reduceLT, Int.reduceLE, Int.reduceAdd, Int.reduceMul, Int.reduceSub, Int.reduceNeg, Int.reduceDiv, li_0, li_1, li_2, li_3, li_4, li_5, li_6, li_7, li_8, li_9, li_10, li_16, li_20, li_22, li_32, li_36, li_39, li_40, li_42, li_48, li_60, li_67, li_69, li_70, li_71, li_76, li_77, li_80, li_83, li_86, li_90, li_100, li_120, li_200, li_209, li_234, li_240, li_255, li_300, li_309, li_310, ll_0, ll_1, ll_3, ll_5, ll_7, ll_8, ll_9, ll_20, ll_39, ll_40, ll_60, ll_100, ll_120, ll_200, ll_209, ll_300, ll_309, ll_600, ll_1000000000, zI_neg, zI_add, zI_sub, zI_mul, zL_add, zL_sub, zL_mul, zL_neg, zI_suc, zN_I, zI_ofNat, zI_le_t, zI_le_f, zI_lt_t, zI_lt_f, zI_eq_t, zI_eq_f, zL_le_t, zL_le_f, zL_lt_t, zL_lt_f, zL_eq_t, zL_eq_f, zI_cl, zI_L, mI_t, Int.reduceToNat, nt_le_f, nt_le_t, lc_le, lc_lt, lc_gt, lc_eq, zI_div, Int.toNat_natCast, zI_max, zI_min, or_false, false_or, or_true, true_or, not_false_eq_true, not_true_eq_false, ↓reduceIte, and_self, and_true, true_and, and_false, false_and, not_or, gt_iff_lt, ge_iff_le, mBI_rI, mBJ_rJ, mBR_rV, mBR_rR, rZ_0, rZ_1, e7, sh, ch, ez, em, ic]
  · intro ⟨N, K⟩ i1
    have e7 : N 46 7 = zI (yN y : Int) := i1.1.2.1.1
    refine ⟨N, K, ?_, i1⟩
    show k_Model_findPart_6 _ _ (zI ((2 * qN y + 1 : Nat) : Int)) N K = _
    have ez : pzV y (qN y) = pbV y (qN y) := if_neg (pbV_end hh)
    rw [e_Model_findPart_6]
    simp (disch := omega) only [Int.reduceEq, Int.reduceLT, Int.reduceLE, Int.reduceAdd, Int.reduceMul, Int.reduceSub, Int.reduceNeg, Int.reduceDiv, li_0, li_1, li_2, li_3, li_4, li_5, li_6, li_7, li_8, li_9, li_10, li_16, li_20, li_22, li_32, li_36, li_39, li_40, li_42, li_48, li_60, li_67, li_69, li_70, li_71, li_76, li_77, li_80, li_83, li_86, li_90, li_100, li_120, li_200, li_209, li_234, li_240, li_255, li_300, li_309, li_310, ll_0, ll_1, ll_3, ll_5, ll_7, ll_8, ll_9, ll_20, ll_39, ll_40, ll_60, ll_100, ll_120, ll_200, ll_209, ll_300, ll_309, ll_600, ll_1000000000, zI_neg, zI_add, zI_sub, zI_mul, zL_add, zL_sub, zL_mul, zL_neg, zI_suc, zN_I, zI_ofNat, zI_le_t, zI_le_f, zI_lt_t, zI_lt_f, zI_eq_t, zI_eq_f, zL_le_t, zL_le_f, zL_lt_t, zL_lt_f, zL_eq_t, zL_eq_f, zI_cl, zI_L, mI_t, Int.reduceToNat, nt_le_f, nt_le_t, lc_le, lc_lt, lc_gt, lc_eq, zI_div, Int.toNat_natCast, zI_max, zI_min, or_false, false_or, or_true, true_or, not_false_eq_true, not_true_eq_false, ↓reduceIte, and_self, and_true, true_and, and_false, false_and, not_or, gt_iff_lt, ge_iff_le, mBI_rI, mBJ_rJ, mBR_rV, mBR_rR, rZ_0, rZ_1, e7, sh, ez]
theorem m_noHalves {y : sS} {M : mMI} (h : MI y M) (hy : yOk y) (K : mMJ) : k_Model_noHalves M K = rI (zI (if yN y = 4 ∨ yN y = 6 then 0 else 1)) M K := by
  have hn := hy.2.1.1
  have e7 := h.2.1.1
  rw [e_Model_noHalves]
  by_cases h4 : yN y = 4
  · simp (disch := omega) only [Int.reduceEq, Int.reduceLT, Int.reduceLE, Int.reduceAdd, Int.reduceMul, Int.reduceSub, Int.reduceNeg, Int.reduceDiv, li_0, li_1, li_2, li_3, li_4, li_5, li_6, li_7, li_8, li_9, li_10, li_16, li_20, li_22, li_32, li_36, li_39, li_40, li_42, li_48, li_60, li_67, li_69, li_70, li_71, li_76, li_77, li_80, li_83, li_86, li_90, li_100, li_120, li_200, li_209, li_234, li_240, li_255, li_300, li_309, li_310, ll_0, ll_1, ll_3, ll_5, ll_7, ll_8, ll_9, ll_20, ll_39, ll_40, ll_60, ll_100, ll_120, ll_200, ll_209, ll_300, ll_309, ll_600, ll_1000000000, zI_neg, zI_add, zI_sub, zI_mul, zL_add, zL_sub, zL_mul, zL_neg, zI_suc, zN_I, zI_ofNat, zI_le_t, zI_le_f, zI_lt_t, zI_lt_f, zI_eq_t, zI_eq_f, zL_le_t, zL_le_f, zL_lt_t, zL_lt_f, zL_eq_t, zL_eq_f, zI_cl, zI_L, mI_t, Int.reduceToNat, nt_le_f, nt_le_t, lc_le, lc_lt, lc_gt, lc_eq, zI_div, Int.toNat_natCast, zI_max, zI_min, or_false, false_or, or_true, true_or, not_false_eq_true, not_true_eq_false, ↓reduceIte, and_self, and_true, true_and, and_false, false_and, not_or, gt_iff_lt, ge_iff_le, mBI_rI, mBJ_rJ, mBR_rV, mBR_rR, rZ_0, rZ_1, e7, h4]
  · by_cases h6 : yN y = 6
    · simp (disch := omega) only [Int.reduceEq, Int.reduceLT, Int.reduceLE, Int.reduceAdd, Int.reduceMul, Int.reduceSub, Int.reduceNeg, Int.reduceDiv, li_0, li_1, li_2, li_3, li_4, li_5, li_6, li_7, li_8, li_9, li_10, li_16, li_20, li_22, li_32, li_36, li_39, li_40, li_42, li_48, li_60, li_67, li_69, li_70, li_71, li_76, li_77, li_80, li_83, li_86, li_90, li_100, li_120, li_200, li_209, li_234, li_240, li_255, li_300, li_309, li_310, ll_0, ll_1, ll_3, ll_5, ll_7, ll_8, ll_9, ll_20, ll_39, ll_40, ll_60, ll_100, ll_120, ll_200, ll_209, ll_300, ll_309, ll_600, ll_1000000000, zI_neg, zI_add, zI_sub, zI_mul, zL_add, zL_sub, zL_mul, zL_neg, zI_suc, zN_I, zI_ofNat, zI_le_t, zI_le_f, zI_lt_t, zI_lt_f, zI_eq_t, zI_eq_f, zL_le_t, zL_le_f, zL_lt_t, zL_lt_f, zL_eq_t, zL_eq_f, zI_cl, zI_L, mI_t, Int.reduceToNat, nt_le_f, nt_le_t, lc_le, lc_lt, lc_gt, lc_eq, zI_div, Int.toNat_natCast, zI_max, zI_min, or_false, false_or, or_true, true_or, not_false_eq_true, not_true_eq_false, ↓reduceIte, and_self, and_true, true_and, and_false, false_and, not_or, gt_iff_lt, ge_iff_le, mBI_rI, mBJ_rJ, mBR_rV, mBR_rR, rZ_0, rZ_1, e7, h4, h6]
    · simp (disch := omega) only [Int.reduceEq, Int.reduceLT, Int.reduceLE, Int.reduceAdd, Int.reduceMul, Int.reduceSub, Int.reduceNeg, Int.reduceDiv, li_0, li_1, li_2, li_3, li_4, li_5, li_6, li_7, li_8, li_9, li_10, li_16, li_20, li_22, li_32, li_36, li_39, li_40, li_42, li_48, li_60, li_67, li_69, li_70, li_71, li_76, li_77, li_80, li_83, li_86, li_90, li_100, li_120, li_200, li_209, li_234, li_240, li_255, li_300, li_309, li_310, ll_0, ll_1, ll_3, ll_5, ll_7, ll_8, ll_9, ll_20, ll_39, ll_40, ll_60, ll_100, ll_120, ll_200, ll_209, ll_300, ll_309, ll_600, ll_1000000000, zI_neg, zI_add, zI_sub, zI_mul, zL_add, zL_sub, zL_mul, zL_neg, zI_suc, zN_I, zI_ofNat, zI_le_t, zI_le_f, zI_lt_t, zI_lt_f, zI_eq_t, zI_eq_f, zL_le_t, zL_le_f, zL_lt_t, zL_lt_f, zL_eq_t, zL_eq_f, zI_cl, zI_L, mI_t, Int.reduceToNat, nt_le_f, nt_le_t, lc_le, lc_lt, lc_gt, lc_eq, zI_div, Int.toNat_natCast, zI_max, zI_min, or_false, false_or, or_true, true_or, not_false_eq_true, not_true_eq_false, ↓reduceIte, and_self, and_true, true_and, and_false, false_and, not_or, gt_iff_lt, ge_iff_le, mBI_rI, mBJ_rJ, mBR_rV, mBR_rR, rZ_0, rZ_1, e7, h4, h6]
theorem R_part {y : sS} (hy : yOk y) {M : mMI} {J : mMJ} (h : MI y M) : mE y M J (k_Model_part M J) (a_part y) := by
  have h0 := h.u46 (i := 0) (by omega) (by omega) (zI 0)
  have nh := m_noHalves h0 hy J
  rw [e_Model_part]
  unfold a_part
  by_cases hh : yN y = 4 ∨ yN y = 6
  · obtain ⟨N, K, e, o⟩ := R_findPart hy hh (J := J) h0
    rw [if_pos hh] at nh ⊢
    refine ⟨N, K, ?_, o.of0⟩
    simp (disch := omega) only [Int.reduceEq, Int.reduceLT, Int.reduceLE, Int.reduceAdd, Int.reduceMul, Int.reduceSub, Int.reduceNeg, Int.reduceDiv, li_0, li_1, li_2, li_3, li_4, li_5, li_6, li_7, li_8, li_9, li_10, li_16, li_20, li_22, li_32, li_36, li_39, li_40, li_42, li_48, li_60, li_67, li_69, li_70, li_71, li_76, li_77, li_80, li_83, li_86, li_90, li_100, li_120, li_200, li_209, li_234, li_240, li_255, li_300, li_309, li_310, ll_0, ll_1, ll_3, ll_5, ll_7, ll_8, ll_9, ll_20, ll_39, ll_40, ll_60, ll_100, ll_120, ll_200, ll_209, ll_300, ll_309, ll_600, ll_1000000000, zI_neg, zI_add, zI_sub, zI_mul, zL_add, zL_sub, zL_mul, zL_neg, zI_suc, zN_I, zI_ofNat, zI_le_t, zI_le_f, zI_lt_t, zI_lt_f, zI_eq_t, zI_eq_f, zL_le_t, zL_le_f, zL_lt_t, zL_lt_f, zL_eq_t, zL_eq_f, zI_cl, zI_L, mI_t, Int.reduceToNat, nt_le_f, nt_le_t, lc_le, lc_lt, lc_gt, lc_eq, zI_div, Int.toNat_natCast, zI_max, zI_min, or_false, false_or, or_true, true_or, not_false_eq_true, not_true_eq_false, ↓reduceIte, and_self, and_true, true_and, and_false, false_and, not_or, gt_iff_lt, ge_iff_le, mBI_rI, mBJ_rJ, mBR_rV, mBR_rR, rZ_0, rZ_1, nh, e]
  · rw [if_neg hh] at nh ⊢
    refine .same h ?_
    simp (disch := omega) only [Int.reduceEq, Int.reduceLT, Int.reduceLE, Int.reduceAdd, Int.reduceMul, Int.reduceSub, Int.reduceNeg, Int.reduceDiv, li_0, li_1, li_2, li_3, li_4, li_5, li_6, li_7, li_8, li_9, li_10, li_16, li_20, li_22, li_32, li_36, li_39, li_40, li_42, li_48, li_60, li_67, li_69, li_70, li_71, li_76, li_77, li_80, li_83, li_86, li_90, li_100, li_120, li_200, li_209, li_234, li_240, li_255, li_300, li_309, li_310, ll_0, ll_1, ll_3, ll_5, ll_7, ll_8, ll_9, ll_20, ll_39, ll_40, ll_60, ll_100, ll_120, ll_200, ll_209, ll_300, ll_309, ll_600, ll_1000000000, zI_neg, zI_add, zI_sub, zI_mul, zL_add, zL_sub, zL_mul, zL_neg, zI_suc, zN_I, zI_ofNat, zI_le_t, zI_le_f, zI_lt_t, zI_lt_f, zI_eq_t, zI_eq_f, zL_le_t, zL_le_f, zL_lt_t, zL_lt_f, zL_eq_t, zL_eq_f, zI_cl, zI_L, mI_t, Int.reduceToNat, nt_le_f, nt_le_t, lc_le, lc_lt, lc_gt, lc_eq, zI_div, Int.toNat_natCast, zI_max, zI_min, or_false, false_or, or_true, true_or, not_false_eq_true, not_true_eq_false, ↓reduceIte, and_self, and_true, true_and, and_false, false_and, not_or, gt_iff_lt, ge_iff_le, mBI_rI, mBJ_rJ, mBR_rV, mBR_rR, rZ_0, rZ_1, nh]
def a_parted (y : sS) : Int64 := zL (if yN y = 4 ∨ yN y = 6 then 1000000000 + pvV y (pbV y (qN y)).toNat else -3)
theorem R_parted {y : sS} (hy : yOk y) {M : mMI} {J : mMJ} (h : MI y M) : mEJ y M J (k_Model_parted M J) (a_parted y) := by
  have h0 := h.u46 (i := 0) (by omega) (by omega) (zI 0)
  have nh := m_noHalves h0 hy J
  rw [e_Model_parted]
  unfold a_parted
  by_cases hh : yN y = 4 ∨ yN y = 6
  · obtain ⟨N, K, e, o⟩ := R_findPart hy hh (J := J) h0
    have ql := qN_le y
    have pb := pbV_bd y (qN y)
    have pe := pbV_end hh
    obtain ⟨b, hb⟩ : ∃ b : Nat, pbV y (qN y) = (b : Int) := ⟨(pbV y (qN y)).toNat, by omega⟩
    have pc : 2 * cM (bB (zI (b : Int))) 6 = yN y := by
      rcases pb with q | q
      · exact absurd q pe
      · rw [hb] at q; exact q.2.2
    obtain ⟨N2, K2, e2, o2⟩ := R_parts hy (J := K) o.1 (b := b) (qN_nb hh (by omega)) pc
    rw [if_pos hh] at nh ⊢
    rw [hb] at e
    rw [hb, Int.toNat_natCast]
    refine ⟨N2, K2, ?_, (o.tr o2).of0⟩
    simp (disch := omega) only [Int.reduceEq, Int.reduceLT, Int.reduceLE, Int.reduceAdd, Int.reduceMul, Int.reduceSub, Int.reduceNeg, Int.reduceDiv, li_0, li_1, li_2, li_3, li_4, li_5, li_6, li_7, li_8, li_9, li_10, li_16, li_20, li_22, li_32, li_36, li_39, li_40, li_42, li_48, li_60, li_67, li_69, li_70, li_71, li_76, li_77, li_80, li_83, li_86, li_90, li_100, li_120, li_200, li_209, li_234, li_240, li_255, li_300, li_309, li_310, ll_0, ll_1, ll_3, ll_5, ll_7, ll_8, ll_9, ll_20, ll_39, ll_40, ll_60, ll_100, ll_120, ll_200, ll_209, ll_300, ll_309, ll_600, ll_1000000000, zI_neg, zI_add, zI_sub, zI_mul, zL_add, zL_sub, zL_mul, zL_neg, zI_suc, zN_I, zI_ofNat, zI_le_t, zI_le_f, zI_lt_t, zI_lt_f, zI_eq_t, zI_eq_f, zL_le_t, zL_le_f, zL_lt_t, zL_lt_f, zL_eq_t, zL_eq_f, zI_cl, zI_L, mI_t, Int.reduceToNat, nt_le_f, nt_le_t, lc_le, lc_lt, lc_gt, lc_eq, zI_div, Int.toNat_natCast, zI_max, zI_min, or_false, false_or, or_true, true_or, not_false_eq_true, not_true_eq_false, ↓reduceIte, and_self, and_true, true_and, and_false, false_and, not_or, gt_iff_lt, ge_iff_le, mBI_rI, mBJ_rJ, mBR_rV, mBR_rR, rZ_0, rZ_1, nh, e, e2]
  · rw [if_neg hh] at nh ⊢
    refine .same h ?_
    simp (disch := omega) only [Int.reduceEq, Int.reduceLT, Int.reduceLE, Int.reduceAdd, Int.reduceMul, Int.reduceSub, Int.reduceNeg, Int.reduceDiv, li_0, li_1, li_2, li_3, li_4, li_5, li_6, li_7, li_8, li_9, li_10, li_16, li_20, li_22, li_32, li_36, li_39, li_40, li_42, li_48, li_60, li_67, li_69, li_70, li_71, li_76, li_77, li_80, li_83, li_86, li_90, li_100, li_120, li_200, li_209, li_234, li_240, li_255, li_300, li_309, li_310, ll_0, ll_1, ll_3, ll_5, ll_7, ll_8, ll_9, ll_20, ll_39, ll_40, ll_60, ll_100, ll_120, ll_200, ll_209, ll_300, ll_309, ll_600, ll_1000000000, zI_neg, zI_add, zI_sub, zI_mul, zL_add, zL_sub, zL_mul, zL_neg, zI_suc, zN_I, zI_ofNat, zI_le_t, zI_le_f, zI_lt_t, zI_lt_f, zI_eq_t, zI_eq_f, zL_le_t, zL_le_f, zL_lt_t, zL_lt_f, zL_eq_t, zL_eq_f, zI_cl, zI_L, mI_t, Int.reduceToNat, nt_le_f, nt_le_t, lc_le, lc_lt, lc_gt, lc_eq, zI_div, Int.toNat_natCast, zI_max, zI_min, or_false, false_or, or_true, true_or, not_false_eq_true, not_true_eq_false, ↓reduceIte, and_self, and_true, true_and, and_false, false_and, not_or, gt_iff_lt, ge_iff_le, mBI_rI, mBJ_rJ, mBR_rV, mBR_rR, rZ_0, rZ_1, nh]
theorem P_parted {y : sS} (hy : yOk y) {M : mMI} {J : mMJ} (h : CI y M J) : cEJ y M J (k_Pot_parted M J) (a_parted y) := by
  have hn := hy.2.1.1
  have cc := c_can h hy J
  rw [e_Pot_parted]
  unfold a_parted
  by_cases hh : yN y = 4 ∨ yN y = 6
  · rw [if_pos hh] at cc ⊢
    have sh := sh_n hh
    have ql := qN_le y
    obtain ⟨hq, h3⟩ := hN_q hh
    have fh := c_first h hh J
    have p1 := pbV_hN hh
    obtain ⟨N0, K0, e0, o0⟩ := P_halves hy h (qN_nb hh (b := 2 * hN y + 1) (by omega)) (hN_c hh)
    have fh0 := c_first o0.1 hh K0
    have ic0 : ((2 * hN y + 1 : Nat) : Int) + 2 = ((2 * (hN y + 1) + 1 : Nat) : Int) := by omega
    have key : cEJ y M J (k_Pot_parted_15 (zL (pvV y (pbV y (hN y + 1)).toNat)) (zI ((2 * (hN y + 1) + 1 : Nat) : Int)) N0 K0) (zL (1000000000 + pvV y (pbV y (qN y)).toNat)) := by
      refine lp_Q (α := mMI × mMJ) (fun N i => k_Pot_parted_15 (zL (pvV y (pbV y (hN y + 1 + i)).toNat)) (zI ((2 * (hN y + 1 + i) + 1 : Nat) : Int)) N.1 N.2) (fun i N => cO1 y M J N.1 N.2) (fun o => cEJ y M J o (zL (1000000000 + pvV y (pbV y (qN y)).toNat))) (qN y - (hN y + 1)) ?_ ?_ (N0, K0) o0
      · intro i ⟨N, K⟩ hi i1
        right
        dsimp only at i1
        have hj : hN y + 1 + i < qN y := by omega
        have w3 := pbV_ge hh i
        show ∃ b : mMI × mMJ, cO1 y M J b.1 b.2 ∧ k_Pot_parted_15 (zL (pvV y (pbV y (hN y + 1 + i)).toNat)) (zI ((2 * (hN y + 1 + i) + 1 : Nat) : Int)) N K = k_Pot_parted_15 (zL (pvV y (pbV y (hN y + 1 + i + 1)).toNat)) (zI ((2 * (hN y + 1 + i + 1) + 1 : Nat) : Int)) b.1 b.2
        generalize hN y + 1 + i = j at hj w3 ⊢
        have e71 : N 7 1 = zI (yN y : Int) := i1.1.2.2.1.1
        have ch := c_isHalf i1.1 hy (b := 2 * j + 1) (by omega) K
        have ic : ((2 * j + 1 : Nat) : Int) + 2 = ((2 * (j + 1) + 1 : Nat) : Int) := by omega
        have es := pbV_s y j
        by_cases c : 2 * cM (bB (zI ((2 * j + 1 : Nat) : Int))) 6 = yN y
        · rw [if_pos c] at ch
          obtain ⟨N2, K2, e, o⟩ := P_halves hy i1.1 (qN_nb hh (by omega)) c
          refine ⟨(N2, K2), i1.tr o, ?_⟩
          show k_Pot_parted_15 _ (zI ((2 * j + 1 : Nat) : Int)) N K = k_Pot_parted_15 _ (zI ((2 * (j + 1) + 1 : Nat) : Int)) N2 K2
          have em : mMxJ (zL (pvV y (pbV y j).toNat)) (zL (pvV y (2 * j + 1))) = zL (pvV y (pbV y (j + 1)).toNat) := by
            rw [mxJ]
            by_cases d : zL (pvV y (pbV y j).toNat) < zL (pvV y (2 * j + 1))
            · rw [if_pos ⟨c, Or.inr d⟩] at es
              rw [if_pos d, es, Int.toNat_natCast]
            · rw [if_neg (fun q => q.2.elim w3 d)] at es
              rw [if_neg d, es]
          rw [e_Pot_parted_15]
          simp (disch := omega) only [Int.reduceEq, Int.reduceLT, Int.reduceLE, Int.reduceAdd, Int.reduceMul, Int.reduceSub, Int.reduceNeg, Int.reduceDiv, li_0, li_1, li_2, li_3, li_4, li_5, li_6, li_7, li_8, li_9, li_10, li_16, li_20, li_22, li_32, li_36, li_39, li_40, li_42, li_48, li_60, li_67, li_69, li_70, li_71, li_76, li_77, li_80, li_83, li_86, li_90, li_100, li_120, li_200, li_209, li_234, li_240, li_255, li_300, li_309, li_310, ll_0, ll_1, ll_3, ll_5, ll_7, ll_8, ll_9, ll_20, ll_39, ll_40, ll_60, ll_100, ll_120, ll_200, ll_209, ll_300, ll_309, ll_600, ll_1000000000, zI_neg, zI_add, zI_sub, zI_mul, zL_add, zL_sub, zL_mul, zL_neg, zI_suc, zN_I, zI_ofNat, zI_le_t, zI_le_f, zI_lt_t, zI_lt_f, zI_eq_t, zI_eq_f, zL_le_t, zL_le_f, zL_lt_t, zL_lt_f, zL_eq_t, zL_eq_f, zI_cl, zI_L, mI_t, Int.reduceToNat, nt_le_f, nt_le_t, lc_le, lc_lt, lc_gt, lc_eq, zI_div, Int.toNat_natCast, zI_max, zI_min, or_false, false_or, or_true, true_or, not_false_eq_true, not_true_eq_false, ↓reduceIte, and_self, and_true, true_and, and_false, false_and, not_or, gt_iff_lt, ge_iff_le, mBI_rI, mBJ_rJ, mBR_rV, mBR_rR, rZ_0, rZ_1, e71, sh, ch, e, em, ic]
        · rw [if_neg c] at ch
          rw [if_neg (fun q => c q.1)] at es
          refine ⟨(N, K), i1, ?_⟩
          show k_Pot_parted_15 _ (zI ((2 * j + 1 : Nat) : Int)) N K = k_Pot_parted_15 _ (zI ((2 * (j + 1) + 1 : Nat) : Int)) N K
          rw [e_Pot_parted_15, es]
          simp (disch := omega) only [Int.reduceEq, Int.reduceLT, Int.reduceLE, Int.reduceAdd, Int.reduceMul, Int.reduceSub, Int.reduceNeg, Int.reduceDiv, li_0, li_1, li_2, li_3, li_4, li_5, li_6, li_7, li_8, li_9, li_10, li_16, li_20, li_22, li_32, li_36, li_39, li_40, li_42, li_48, li_60, li_67, li_69, li_70, li_71, li_76, li_77, li_80, li_83, li_86, li_90, li_100, li_120, li_200, li_209, li_234, li_240, li_255, li_300, li_309, li_310, ll_0, ll_1, ll_3, ll_5, ll_7, ll_8, ll_9, ll_20, ll_39, ll_40, ll_60, ll_100, ll_120, ll_200, ll_209, ll_300, ll_309, ll_600, ll_1000000000, zI_neg, zI_add, zI_sub, zI_mul, zL_add, zL_sub, zL_mul, zL_neg, zI_suc, zN_I, zI_ofNat, zI_le_t, zI_le_f, zI_lt_t, zI_lt_f, zI_eq_t, zI_eq_f, zL_le_t, zL_le_f, zL_lt_t, zL_lt_f, zL_eq_t, zL_eq_f, zI_cl, zI_L, mI_t, Int.reduceToNat, nt_le_f, nt_le_t, lc_le, lc_lt, lc_gt, lc_eq, zI_div, Int.toNat_natCast, zI_max, zI_min, or_false, false_or, or_true, true_or, not_false_eq_true, not_true_eq_false, ↓reduceIte, and_self, and_true, true_and, and_false, false_and, not_or, gt_iff_lt, ge_iff_le, mBI_rI, mBJ_rJ, mBR_rV, mBR_rR, rZ_0, rZ_1, e71, sh, ch, ic]
      · intro ⟨N, K⟩ i1
        have e71 : N 7 1 = zI (yN y : Int) := i1.1.2.2.1.1
        have ej : hN y + 1 + (qN y - (hN y + 1)) = qN y := by omega
        refine ⟨N, K, ?_, i1⟩
        show k_Pot_parted_15 (zL (pvV y (pbV y (hN y + 1 + (qN y - (hN y + 1)))).toNat)) (zI ((2 * (hN y + 1 + (qN y - (hN y + 1))) + 1 : Nat) : Int)) N K = _
        rw [ej, e_Pot_parted_15]
        simp (disch := omega) only [Int.reduceEq, Int.reduceLT, Int.reduceLE, Int.reduceAdd, Int.reduceMul, Int.reduceSub, Int.reduceNeg, Int.reduceDiv, li_0, li_1, li_2, li_3, li_4, li_5, li_6, li_7, li_8, li_9, li_10, li_16, li_20, li_22, li_32, li_36, li_39, li_40, li_42, li_48, li_60, li_67, li_69, li_70, li_71, li_76, li_77, li_80, li_83, li_86, li_90, li_100, li_120, li_200, li_209, li_234, li_240, li_255, li_300, li_309, li_310, ll_0, ll_1, ll_3, ll_5, ll_7, ll_8, ll_9, ll_20, ll_39, ll_40, ll_60, ll_100, ll_120, ll_200, ll_209, ll_300, ll_309, ll_600, ll_1000000000, zI_neg, zI_add, zI_sub, zI_mul, zL_add, zL_sub, zL_mul, zL_neg, zI_suc, zN_I, zI_ofNat, zI_le_t, zI_le_f, zI_lt_t, zI_lt_f, zI_eq_t, zI_eq_f, zL_le_t, zL_le_f, zL_lt_t, zL_lt_f, zL_eq_t, zL_eq_f, zI_cl, zI_L, mI_t, Int.reduceToNat, nt_le_f, nt_le_t, lc_le, lc_lt, lc_gt, lc_eq, zI_div, Int.toNat_natCast, zI_max, zI_min, or_false, false_or, or_true, true_or, not_false_eq_true, not_true_eq_false, ↓reduceIte, and_self, and_true, true_and, and_false, false_and, not_or, gt_iff_lt, ge_iff_le, mBI_rI, mBJ_rJ, mBR_rV, mBR_rR, rZ_0, rZ_1, e71, sh]
    rw [p1, Int.toNat_natCast] at key
    obtain ⟨N, K, e, o⟩ := key
    refine ⟨N, K, ?_, o⟩
    simp (disch := omega) only [Int.reduceEq, Int.reduceLT, Int.reduceLE, Int.reduceAdd, Int.reduceMul, Int.reduceSub, Int.reduceNeg, Int.reduceDiv, li_0, li_1, li_2, li_3, li_4, li_5, li_6, li_7, li_8, li_9, li_10, li_16, li_20, li_22, li_32, li_36, li_39, li_40, li_42, li_48, li_60, li_67, li_69, li_70, li_71, li_76, li_77, li_80, li_83, li_86, li_90, li_100, li_120, li_200, li_209, li_234, li_240, li_255, li_300, li_309, li_310, ll_0, ll_1, ll_3, ll_5, ll_7, ll_8, ll_9, ll_20, ll_39, ll_40, ll_60, ll_100, ll_120, ll_200, ll_209, ll_300, ll_309, ll_600, ll_1000000000, zI_neg, zI_add, zI_sub, zI_mul, zL_add, zL_sub, zL_mul, zL_neg, zI_suc, zN_I, zI_ofNat, zI_le_t, zI_le_f, zI_lt_t, zI_lt_f, zI_eq_t, zI_eq_f, zL_le_t, zL_le_f, zL_lt_t, zL_lt_f, zL_eq_t, zL_eq_f, zI_cl, zI_L, mI_t, Int.reduceToNat, nt_le_f, nt_le_t, lc_le, lc_lt, lc_gt, lc_eq, zI_div, Int.toNat_natCast, zI_max, zI_min, or_false, false_or, or_true, true_or, not_false_eq_true, not_true_eq_false, ↓reduceIte, and_self, and_true, true_and, and_false, false_and, not_or, gt_iff_lt, ge_iff_le, mBI_rI, mBJ_rJ, mBR_rV, mBR_rR, rZ_0, rZ_1, cc, fh, e0, fh0, ic0, e]
  · rw [if_neg hh] at cc ⊢
    refine .same h ?_
    simp (disch := omega) only [Int.reduceEq, Int.reduceLT, Int.reduceLE, Int.reduceAdd, Int.reduceMul, Int.reduceSub, Int.reduceNeg, Int.reduceDiv, li_0, li_1, li_2, li_3, li_4, li_5, li_6, li_7, li_8, li_9, li_10, li_16, li_20, li_22, li_32, li_36, li_39, li_40, li_42, li_48, li_60, li_67, li_69, li_70, li_71, li_76, li_77, li_80, li_83, li_86, li_90, li_100, li_120, li_200, li_209, li_234, li_240, li_255, li_300, li_309, li_310, ll_0, ll_1, ll_3, ll_5, ll_7, ll_8, ll_9, ll_20, ll_39, ll_40, ll_60, ll_100, ll_120, ll_200, ll_209, ll_300, ll_309, ll_600, ll_1000000000, zI_neg, zI_add, zI_sub, zI_mul, zL_add, zL_sub, zL_mul, zL_neg, zI_suc, zN_I, zI_ofNat, zI_le_t, zI_le_f, zI_lt_t, zI_lt_f, zI_eq_t, zI_eq_f, zL_le_t, zL_le_f, zL_lt_t, zL_lt_f, zL_eq_t, zL_eq_f, zI_cl, zI_L, mI_t, Int.reduceToNat, nt_le_f, nt_le_t, lc_le, lc_lt, lc_gt, lc_eq, zI_div, Int.toNat_natCast, zI_max, zI_min, or_false, false_or, or_true, true_or, not_false_eq_true, not_true_eq_false, ↓reduceIte, and_self, and_true, true_and, and_false, false_and, not_or, gt_iff_lt, ge_iff_le, mBI_rI, mBJ_rJ, mBR_rV, mBR_rR, rZ_0, rZ_1, cc]
