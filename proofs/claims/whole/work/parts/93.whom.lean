/-! who leads, whom to leave out -/
/-- the first best of m by values -/
def bsV (f : Nat → Int) : Nat → Nat
  | 0 => 0
  | m + 1 => if m = 0 ∨ zL (f (bsV f m)) < zL (f m) then m else bsV f m
def moV (f : Nat → Int) (m : Nat) : Int64 := if m = 0 then zL 0 else zL (f (bsV f m))
theorem moV_s (f : Nat → Int) (m : Nat) : moV f (m + 1) = zL (f (bsV f (m + 1))) := if_neg (by omega)
theorem bsV_lt (f : Nat → Int) : ∀ m, bsV f (m + 1) < m + 1
  | 0 => by
    have e : bsV f 1 = if (0 : Nat) = 0 ∨ zL (f (bsV f 0)) < zL (f 0) then 0 else bsV f 0 := rfl
    rw [e, if_pos (Or.inl rfl)]
    omega
  | m + 1 => by
    have h := bsV_lt f m
    have e : bsV f (m + 1 + 1) = if m + 1 = 0 ∨ zL (f (bsV f (m + 1))) < zL (f (m + 1)) then m + 1 else bsV f (m + 1) := rfl
    rw [e]
    split <;> omega
def a_leader (y : sS) : Int32 := zI (bsV (ldV y) (yN y) : Nat)
theorem P_leader {y : sS} (hy : yOk y) {M : mMI} {J : mMJ} (h : CI y M J) : cE y M J (k_Pot_leader M J) (a_leader y) := by
  have hn := hy.2.1.1
  rw [e_Pot_leader]
  simp only [li_0, li_1, li_2, li_3, li_4, li_5, li_6, li_7, li_8, li_9, li_10, li_16, li_20, li_22, li_32, li_36, li_39, li_40, li_42, li_48, li_60, li_67, li_69, li_70, li_71, li_76, li_77, li_80, li_83, li_86, li_90, li_100, li_120, li_200, li_209, li_234, li_240, li_255, li_300, li_309, li_310, ll_0, ll_1, ll_3, ll_5, ll_7, ll_8, ll_9, ll_20, ll_39, ll_40, ll_60, ll_100, ll_120, ll_200, ll_209, ll_300, ll_309, ll_600, ll_1000000000, zI_neg, zI_add, zI_sub, zI_mul, zL_add, zL_sub, zL_mul, zL_neg, zI_suc, zN_I, zI_ofNat]
  refine lp_Q (α := mMI × mMJ) (fun N j => k_Pot_leader_6 (zI (bsV (ldV y) j : Nat)) (moV (ldV y) j) (zI (j : Int)) N.1 N.2) (fun j N => cO1 y M J N.1 N.2) (fun o => cE y M J o (a_leader y)) (yN y) ?_ ?_ (M, J) ⟨h, fun _ _ => rfl, fun _ _ => rfl⟩
  · intro j ⟨N, K⟩ hj i1
    right
    dsimp only at i1
    obtain ⟨N2, K2, e, o⟩ := P_lead hy i1.1 hj
    have e71 : N 7 1 = zI (yN y : Int) := i1.1.2.2.1.1
    refine ⟨(N2, K2), i1.tr o, ?_⟩
    show k_Pot_leader_6 _ _ (zI (j : Int)) N K = k_Pot_leader_6 _ _ (zI ((j + 1 : Nat) : Int)) N2 K2
    rw [e_Pot_leader_6, moV_s]
    have eb : bsV (ldV y) (j + 1) = if j = 0 ∨ zL (ldV y (bsV (ldV y) j)) < zL (ldV y j) then j else bsV (ldV y) j := rfl
    rw [eb]
    by_cases j0 : j = 0
    · subst j0
      have e : k_Pot_heldIfLedBy (zI 0) N K = rJ (zL (ldV y 0)) N2 K2 := e
      simp (disch := omega) only [Int.reduceEq, Int.reduceLT, Int.reduceLE, Int.reduceAdd, Int.reduceMul, Int.reduceSub, Int.reduceNeg, Int.reduceDiv, li_0, li_1, li_2, li_3, li_4, li_5, li_6, li_7, li_8, li_9, li_10, li_16, li_20, li_22, li_32, li_36, li_39, li_40, li_42, li_48, li_60, li_67, li_69, li_70, li_71, li_76, li_77, li_80, li_83, li_86, li_90, li_100, li_120, li_200, li_209, li_234, li_240, li_255, li_300, li_309, li_310, ll_0, ll_1, ll_3, ll_5, ll_7, ll_8, ll_9, ll_20, ll_39, ll_40, ll_60, ll_100, ll_120, ll_200, ll_209, ll_300, ll_309, ll_600, ll_1000000000, zI_neg, zI_add, zI_sub, zI_mul, zL_add, zL_sub, zL_mul, zL_neg, zI_suc, zN_I, zI_ofNat, zI_le_t, zI_le_f, zI_lt_t, zI_lt_f, zI_eq_t, zI_eq_f, zL_le_t, zL_le_f, zL_lt_t, zL_lt_f, zL_eq_t, zL_eq_f, zI_cl, zI_L, mI_t, Int.reduceToNat, nt_le_f, nt_le_t, lc_le, lc_lt, lc_gt, lc_eq, zI_div, Int.toNat_natCast, zI_max, zI_min, or_false, false_or, or_true, true_or, not_false_eq_true, not_true_eq_false, ↓reduceIte, and_self, and_true, true_and, and_false, false_and, not_or, gt_iff_lt, ge_iff_le, mBI_rI, mBJ_rJ, mBR_rV, mBR_rR, rZ_0, rZ_1, e71, Int.ofNat_zero, e, Int.zero_add]
      rfl
    · have em : moV (ldV y) j = zL (ldV y (bsV (ldV y) j)) := if_neg j0
      by_cases d : zL (ldV y (bsV (ldV y) j)) < zL (ldV y j)
      · simp (disch := omega) only [Int.reduceEq, Int.reduceLT, Int.reduceLE, Int.reduceAdd, Int.reduceMul, Int.reduceSub, Int.reduceNeg, Int.reduceDiv, li_0, li_1, li_2, li_3, li_4, li_5, li_6, li_7, li_8, li_9, li_10, li_16, li_20, li_22, li_32, li_36, li_39, li_40, li_42, li_48, li_60, li_67, li_69, li_70, li_71, li_76, li_77, li_80, li_83, li_86, li_90, li_100, li_120, li_200, li_209, li_234, li_240, li_255, li_300, li_309, li_310, ll_0, ll_1, ll_3, ll_5, ll_7, ll_8, ll_9, ll_20, ll_39, ll_40, ll_60, ll_100, ll_120, ll_200, ll_209, ll_300, ll_309, ll_600, ll_1000000000, zI_neg, zI_add, zI_sub, zI_mul, zL_add, zL_sub, zL_mul, zL_neg, zI_suc, zN_I, zI_ofNat, zI_le_t, zI_le_f, zI_lt_t, zI_lt_f, zI_eq_t, zI_eq_f, zL_le_t, zL_le_f, zL_lt_t, zL_lt_f, zL_eq_t, zL_eq_f, zI_cl, zI_L, mI_t, Int.reduceToNat, nt_le_f, nt_le_t, lc_le, lc_lt, lc_gt, lc_eq, zI_div, Int.toNat_natCast, zI_max, zI_min, or_false, false_or, or_true, true_or, not_false_eq_true, not_true_eq_false, ↓reduceIte, and_self, and_true, true_and, and_false, false_and, not_or, gt_iff_lt, ge_iff_le, mBI_rI, mBJ_rJ, mBR_rV, mBR_rR, rZ_0, rZ_1, e71, e, em, lL_not, d, j0]
      · simp (disch := omega) only [Int.reduceEq, Int.reduceLT, Int.reduceLE, Int.reduceAdd, Int.reduceMul, Int.reduceSub, Int.reduceNeg, Int.reduceDiv, li_0, li_1, li_2, li_3, li_4, li_5, li_6, li_7, li_8, li_9, li_10, li_16, li_20, li_22, li_32, li_36, li_39, li_40, li_42, li_48, li_60, li_67, li_69, li_70, li_71, li_76, li_77, li_80, li_83, li_86, li_90, li_100, li_120, li_200, li_209, li_234, li_240, li_255, li_300, li_309, li_310, ll_0, ll_1, ll_3, ll_5, ll_7, ll_8, ll_9, ll_20, ll_39, ll_40, ll_60, ll_100, ll_120, ll_200, ll_209, ll_300, ll_309, ll_600, ll_1000000000, zI_neg, zI_add, zI_sub, zI_mul, zL_add, zL_sub, zL_mul, zL_neg, zI_suc, zN_I, zI_ofNat, zI_le_t, zI_le_f, zI_lt_t, zI_lt_f, zI_eq_t, zI_eq_f, zL_le_t, zL_le_f, zL_lt_t, zL_lt_f, zL_eq_t, zL_eq_f, zI_cl, zI_L, mI_t, Int.reduceToNat, nt_le_f, nt_le_t, lc_le, lc_lt, lc_gt, lc_eq, zI_div, Int.toNat_natCast, zI_max, zI_min, or_false, false_or, or_true, true_or, not_false_eq_true, not_true_eq_false, ↓reduceIte, and_self, and_true, true_and, and_false, false_and, not_or, gt_iff_lt, ge_iff_le, mBI_rI, mBJ_rJ, mBR_rV, mBR_rR, rZ_0, rZ_1, e71, e, em, lL_not, d, j0]
  · intro ⟨N, K⟩ i1
    have e71 : N 7 1 = zI (yN y : Int) := i1.1.2.2.1.1
    refine ⟨N, K, ?_, i1⟩
    show k_Pot_leader_6 _ _ (zI (yN y : Int)) N K = _
    rw [e_Pot_leader_6]
    simp (disch := omega) only [Int.reduceEq, Int.reduceLT, Int.reduceLE, Int.reduceAdd, Int.reduceMul, Int.reduceSub, Int.reduceNeg, Int.reduceDiv, li_0, li_1, li_2, li_3, li_4, li_5, li_6, li_7, li_8, li_9, li_10, li_16, li_20, li_22, li_32, li_36, li_39, li_40, li_42, li_48, li_60, li_67, li_69, li_70, li_71, li_76, li_77, li_80, li_83, li_86, li_90, li_100, li_120, li_200, li_209, li_234, li_240, li_255, li_300, li_309, li_310, ll_0, ll_1, ll_3, ll_5, ll_7, ll_8, ll_9, ll_20, ll_39, ll_40, ll_60, ll_100, ll_120, ll_200, ll_209, ll_300, ll_309, ll_600, ll_1000000000, zI_neg, zI_add, zI_sub, zI_mul, zL_add, zL_sub, zL_mul, zL_neg, zI_suc, zN_I, zI_ofNat, zI_le_t, zI_le_f, zI_lt_t, zI_lt_f, zI_eq_t, zI_eq_f, zL_le_t, zL_le_f, zL_lt_t, zL_lt_f, zL_eq_t, zL_eq_f, zI_cl, zI_L, mI_t, Int.reduceToNat, nt_le_f, nt_le_t, lc_le, lc_lt, lc_gt, lc_eq, zI_div, Int.toNat_natCast, zI_max, zI_min, or_false, false_or, or_true, true_or, not_false_eq_true, not_true_eq_false, ↓reduceIte, and_self, and_true, true_and, and_false, false_and, not_or, gt_iff_lt, ge_iff_le, mBI_rI, mBJ_rJ, mBR_rV, mBR_rR, rZ_0, rZ_1, e71]
    rfl
theorem R_find {y : sS} (hy : yOk y) {M : mMI} {J : mMJ} (h : MI y M) : mE y M J (k_Model_findLeader M J) (a_leader y) := by
  have hn := hy.2.1.1
  rw [e_Model_findLeader]
  simp only [li_0, li_1, li_2, li_3, li_4, li_5, li_6, li_7, li_8, li_9, li_10, li_16, li_20, li_22, li_32, li_36, li_39, li_40, li_42, li_48, li_60, li_67, li_69, li_70, li_71, li_76, li_77, li_80, li_83, li_86, li_90, li_100, li_120, li_200, li_209, li_234, li_240, li_255, li_300, li_309, li_310, ll_0, ll_1, ll_3, ll_5, ll_7, ll_8, ll_9, ll_20, ll_39, ll_40, ll_60, ll_100, ll_120, ll_200, ll_209, ll_300, ll_309, ll_600, ll_1000000000, zI_neg, zI_add, zI_sub, zI_mul, zL_add, zL_sub, zL_mul, zL_neg, zI_suc, zN_I, zI_ofNat]
  refine lp_Q (α := mMI × mMJ) (fun N j => k_Model_findLeader_6 (zI (bsV (ldV y) j : Nat)) (moV (ldV y) j) (zI (j : Int)) N.1 N.2) (fun j N => mO1 y M J N.1 N.2) (fun o => mE y M J o (a_leader y)) (yN y) ?_ ?_ (M, J) ⟨h, fun _ _ => rfl, fun _ _ => rfl⟩
  · intro j ⟨N, K⟩ hj i1
    right
    dsimp only at i1
    obtain ⟨N2, K2, e, o⟩ := R_lead hy (J := K) i1.1 hj
    have e7 := i1.1.2.1.1
    refine ⟨(N2, K2), i1.tr o, ?_⟩
    show k_Model_findLeader_6 _ _ (zI (j : Int)) N K = k_Model_findLeader_6 _ _ (zI ((j + 1 : Nat) : Int)) N2 K2
    rw [e_Model_findLeader_6, moV_s]
    have eb : bsV (ldV y) (j + 1) = if j = 0 ∨ zL (ldV y (bsV (ldV y) j)) < zL (ldV y j) then j else bsV (ldV y) j := rfl
    rw [eb]
    by_cases j0 : j = 0
    · subst j0
      have e : k_Model_leadBy (zI 0) N K = rJ (zL (ldV y 0)) N2 K2 := e
      simp (disch := omega) only [Int.reduceEq, Int.reduceLT, Int.reduceLE, Int.reduceAdd, Int.reduceMul, Int.reduceSub, Int.reduceNeg, Int.reduceDiv, li_0, li_1, li_2, li_3, li_4, li_5, li_6, li_7, li_8, li_9, li_10, li_16, li_20, li_22, li_32, li_36, li_39, li_40, li_42, li_48, li_60, li_67, li_69, li_70, li_71, li_76, li_77, li_80, li_83, li_86, li_90, li_100, li_120, li_200, li_209, li_234, li_240, li_255, li_300, li_309, li_310, ll_0, ll_1, ll_3, ll_5, ll_7, ll_8, ll_9, ll_20, ll_39, ll_40, ll_60, ll_100, ll_120, ll_200, ll_209, ll_300, ll_309, ll_600, ll_1000000000, zI_neg, zI_add, zI_sub, zI_mul, zL_add, zL_sub, zL_mul, zL_neg, zI_suc, zN_I, zI_ofNat, zI_le_t, zI_le_f, zI_lt_t, zI_lt_f, zI_eq_t, zI_eq_f, zL_le_t, zL_le_f, zL_lt_t, zL_lt_f, zL_eq_t, zL_eq_f, zI_cl, zI_L, mI_t, Int.reduceToNat, nt_le_f, nt_le_t, lc_le, lc_lt, lc_gt, lc_eq, zI_div, Int.toNat_natCast, zI_max, zI_min, or_false, false_or, or_true, true_or, not_false_eq_true, not_true_eq_false, ↓reduceIte, and_self, and_true, true_and, and_false, false_and, not_or, gt_iff_lt, ge_iff_le, mBI_rI, mBJ_rJ, mBR_rV, mBR_rR, rZ_0, rZ_1, e7, Int.ofNat_zero, e, Int.zero_add]
      rfl
    · have em : moV (ldV y) j = zL (ldV y (bsV (ldV y) j)) := if_neg j0
      by_cases d : zL (ldV y (bsV (ldV y) j)) < zL (ldV y j)
      · simp (disch := omega) only [Int.reduceEq, Int.reduceLT, Int.reduceLE, Int.reduceAdd, Int.reduceMul, Int.reduceSub, Int.reduceNeg, Int.reduceDiv, li_0, li_1, li_2, li_3, li_4, li_5, li_6, li_7, li_8, li_9, li_10, li_16, li_20, li_22, li_32, li_36, li_39, li_40, li_42, li_48, li_60, li_67, li_69, li_70, li_71, li_76, li_77, li_80, li_83, li_86, li_90, li_100, li_120, li_200, li_209, li_234, li_240, li_255, li_300, li_309, li_310, ll_0, ll_1, ll_3, ll_5, ll_7, ll_8, ll_9, ll_20, ll_39, ll_40, ll_60, ll_100, ll_120, ll_200, ll_209, ll_300, ll_309, ll_600, ll_1000000000, zI_neg, zI_add, zI_sub, zI_mul, zL_add, zL_sub, zL_mul, zL_neg, zI_suc, zN_I, zI_ofNat, zI_le_t, zI_le_f, zI_lt_t, zI_lt_f, zI_eq_t, zI_eq_f, zL_le_t, zL_le_f, zL_lt_t, zL_lt_f, zL_eq_t, zL_eq_f, zI_cl, zI_L, mI_t, Int.reduceToNat, nt_le_f, nt_le_t, lc_le, lc_lt, lc_gt, lc_eq, zI_div, Int.toNat_natCast, zI_max, zI_min, or_false, false_or, or_true, true_or, not_false_eq_true, not_true_eq_false, ↓reduceIte, and_self, and_true, true_and, and_false, false_and, not_or, gt_iff_lt, ge_iff_le, mBI_rI, mBJ_rJ, mBR_rV, mBR_rR, rZ_0, rZ_1, e7, e, em, lL_not, d, j0]
      · simp (disch := omega) only [Int.reduceEq, Int.reduceLT, Int.reduceLE, Int.reduceAdd, Int.reduceMul, Int.reduceSub, Int.reduceNeg, Int.reduceDiv, li_0, li_1, li_2, li_3, li_4, li_5, li_6, li_7, li_8, li_9, li_10, li_16, li_20, li_22, li_32, li_36, li_39, li_40, li_42, li_48, li_60, li_67, li_69, li_70, li_71, li_76, li_77, li_80, li_83, li_86, li_90, li_100, li_120, li_200, li_209, li_234, li_240, li_255, li_300, li_309, li_310, ll_0, ll_1, ll_3, ll_5, ll_7, ll_8, ll_9, ll_20, ll_39, ll_40, ll_60, ll_100, ll_120, ll_200, ll_209, ll_300, ll_309, ll_600, ll_1000000000, zI_neg, zI_add, zI_sub, zI_mul, zL_add, zL_sub, zL_mul, zL_neg, zI_suc, zN_I, zI_ofNat, zI_le_t, zI_le_f, zI_lt_t, zI_lt_f, zI_eq_t, zI_eq_f, zL_le_t, zL_le_f, zL_lt_t, zL_lt_f, zL_eq_t, zL_eq_f, zI_cl, zI_L, mI_t, Int.reduceToNat, nt_le_f, nt_le_t, lc_le, lc_lt, lc_gt, lc_eq, zI_div, Int.toNat_natCast, zI_max, zI_min, or_false, false_or, or_true, true_or, not_false_eq_true, not_true_eq_false, ↓reduceIte, and_self, and_true, true_and, and_false, false_and, not_or, gt_iff_lt, ge_iff_le, mBI_rI, mBJ_rJ, mBR_rV, mBR_rR, rZ_0, rZ_1, e7, e, em, lL_not, d, j0]
  · intro ⟨N, K⟩ i1
    have e7 : N 46 7 = zI (yN y : Int) := i1.1.2.1.1
    refine ⟨N, K, ?_, i1⟩
    show k_Model_findLeader_6 _ _ (zI (yN y : Int)) N K = _
    rw [e_Model_findLeader_6]
    simp (disch := omega) only [Int.reduceEq, Int.reduceLT, Int.reduceLE, Int.reduceAdd, Int.reduceMul, Int.reduceSub, Int.reduceNeg, Int.reduceDiv, li_0, li_1, li_2, li_3, li_4, li_5, li_6, li_7, li_8, li_9, li_10, li_16, li_20, li_22, li_32, li_36, li_39, li_40, li_42, li_48, li_60, li_67, li_69, li_70, li_71, li_76, li_77, li_80, li_83, li_86, li_90, li_100, li_120, li_200, li_209, li_234, li_240, li_255, li_300, li_309, li_310, ll_0, ll_1, ll_3, ll_5, ll_7, ll_8, ll_9, ll_20, ll_39, ll_40, ll_60, ll_100, ll_120, ll_200, ll_209, ll_300, ll_309, ll_600, ll_1000000000, zI_neg, zI_add, zI_sub, zI_mul, zL_add, zL_sub, zL_mul, zL_neg, zI_suc, zN_I, zI_ofNat, zI_le_t, zI_le_f, zI_lt_t, zI_lt_f, zI_eq_t, zI_eq_f, zL_le_t, zL_le_f, zL_lt_t, zL_lt_f, zL_eq_t, zL_eq_f, zI_cl, zI_L, mI_t, Int.reduceToNat, nt_le_f, nt_le_t, lc_le, lc_lt, lc_gt, lc_eq, zI_div, Int.toNat_natCast, zI_max, zI_min, or_false, false_or, or_true, true_or, not_false_eq_true, not_true_eq_false, ↓reduceIte, and_self, and_true, true_and, and_false, false_and, not_or, gt_iff_lt, ge_iff_le, mBI_rI, mBJ_rJ, mBR_rV, mBR_rR, rZ_0, rZ_1, e7]
    rfl
theorem R_leader {y : sS} (hy : yOk y) {M : mMI} {J : mMJ} (h : MI y M) : mE y M J (k_Model_leader M J) (a_leader y) := by
  have h0 := h.u46 (i := 0) (by omega) (by omega) (zI 0)
  obtain ⟨N, K, e, o⟩ := R_find hy (J := J) h0
  refine ⟨N, K, ?_, o.of0⟩
  rw [e_Model_leader]
  simp (disch := omega) only [Int.reduceEq, Int.reduceLT, Int.reduceLE, Int.reduceAdd, Int.reduceMul, Int.reduceSub, Int.reduceNeg, Int.reduceDiv, li_0, li_1, li_2, li_3, li_4, li_5, li_6, li_7, li_8, li_9, li_10, li_16, li_20, li_22, li_32, li_36, li_39, li_40, li_42, li_48, li_60, li_67, li_69, li_70, li_71, li_76, li_77, li_80, li_83, li_86, li_90, li_100, li_120, li_200, li_209, li_234, li_240, li_255, li_300, li_309, li_310, ll_0, ll_1, ll_3, ll_5, ll_7, ll_8, ll_9, ll_20, ll_39, ll_40, ll_60, ll_100, ll_120, ll_200, ll_209, ll_300, ll_309, ll_600, ll_1000000000, zI_neg, zI_add, zI_sub, zI_mul, zL_add, zL_sub, zL_mul, zL_neg, zI_suc, zN_I, zI_ofNat, zI_le_t, zI_le_f, zI_lt_t, zI_lt_f, zI_eq_t, zI_eq_f, zL_le_t, zL_le_f, zL_lt_t, zL_lt_f, zL_eq_t, zL_eq_f, zI_cl, zI_L, mI_t, Int.reduceToNat, nt_le_f, nt_le_t, lc_le, lc_lt, lc_gt, lc_eq, zI_div, Int.toNat_natCast, zI_max, zI_min, or_false, false_or, or_true, true_or, not_false_eq_true, not_true_eq_false, ↓reduceIte, and_self, and_true, true_and, and_false, false_and, not_or, gt_iff_lt, ge_iff_le, mBI_rI, mBJ_rJ, mBR_rV, mBR_rR, rZ_0, rZ_1, e]
def a_led (y : sS) : Int64 := zL (1000000000 + ldV y (bsV (ldV y) (yN y)))
theorem mxJ (x v : Int64) : mMxJ x v = if x < v then v else x := by
  show (if v < x then x else v) = _
  by_cases h : x < v
  · rw [if_pos h]
    have : ¬ v < x := by rw [Int64.lt_iff_toInt_lt] at h ⊢; omega
    rw [if_neg this]
  · rw [if_neg h]
    by_cases h2 : v < x
    · rw [if_pos h2]
    · rw [if_neg h2]
      apply Int64.toInt_inj.mp
      rw [Int64.lt_iff_toInt_lt] at h h2
      omega
theorem P_led {y : sS} (hy : yOk y) {M : mMI} {J : mMJ} (h : CI y M J) : cEJ y M J (k_Pot_led M J) (a_led y) := by
  have hn := hy.2.1.1
  obtain ⟨N0, K0, e0, o0⟩ := P_lead hy h (p := 0) (by omega)
  have e0 : k_Pot_heldIfLedBy (zI 0) M J = rJ (zL (ldV y 0)) N0 K0 := e0
  rw [e_Pot_led]
  simp only [li_0, li_1, li_2, li_3, li_4, li_5, li_6, li_7, li_8, li_9, li_10, li_16, li_20, li_22, li_32, li_36, li_39, li_40, li_42, li_48, li_60, li_67, li_69, li_70, li_71, li_76, li_77, li_80, li_83, li_86, li_90, li_100, li_120, li_200, li_209, li_234, li_240, li_255, li_300, li_309, li_310, ll_0, ll_1, ll_3, ll_5, ll_7, ll_8, ll_9, ll_20, ll_39, ll_40, ll_60, ll_100, ll_120, ll_200, ll_209, ll_300, ll_309, ll_600, ll_1000000000, zI_neg, zI_add, zI_sub, zI_mul, zL_add, zL_sub, zL_mul, zL_neg, zI_suc, zN_I, zI_ofNat, e0, mBJ_rJ]
  have hm : yN y = (yN y - 1) + 1 := by omega
  refine lp_Q (α := mMI × mMJ) (fun N j => k_Pot_led_6 (zL (ldV y (bsV (ldV y) (j + 1)))) (zI ((j + 1 : Nat) : Int)) N.1 N.2) (fun j N => cO1 y M J N.1 N.2) (fun o => cEJ y M J o (a_led y)) (yN y - 1) ?_ ?_ (N0, K0) o0
  · intro j ⟨N, K⟩ hj i1
    right
    dsimp only at i1
    obtain ⟨N2, K2, e, o⟩ := P_lead hy i1.1 (p := j + 1) (by omega)
    have e71 : N 7 1 = zI (yN y : Int) := i1.1.2.2.1.1
    refine ⟨(N2, K2), i1.tr o, ?_⟩
    show k_Pot_led_6 _ (zI ((j + 1 : Nat) : Int)) N K = k_Pot_led_6 _ (zI ((j + 1 + 1 : Nat) : Int)) N2 K2
    rw [e_Pot_led_6]
    have eb : bsV (ldV y) (j + 1 + 1) = if j + 1 = 0 ∨ zL (ldV y (bsV (ldV y) (j + 1))) < zL (ldV y (j + 1)) then j + 1 else bsV (ldV y) (j + 1) := rfl
    have j0 : ¬ j + 1 = 0 := by omega
    rw [eb]
    by_cases d : zL (ldV y (bsV (ldV y) (j + 1))) < zL (ldV y (j + 1))
    · simp (disch := omega) only [Int.reduceEq, Int.reduceLT, Int.reduceLE, Int.reduceAdd, Int.reduceMul, Int.reduceSub, Int.reduceNeg, Int.reduceDiv, li_0, li_1, li_2, li_3, li_4, li_5, li_6, li_7, li_8, li_9, li_10, li_16, li_20, li_22, li_32, li_36, li_39, li_40, li_42, li_48, li_60, li_67, li_69, li_70, li_71, li_76, li_77, li_80, li_83, li_86, li_90, li_100, li_120, li_200, li_209, li_234, li_240, li_255, li_300, li_309, li_310, ll_0, ll_1, ll_3, ll_5, ll_7, ll_8, ll_9, ll_20, ll_39, ll_40, ll_60, ll_100, ll_120, ll_200, ll_209, ll_300, ll_309, ll_600, ll_1000000000, zI_neg, zI_add, zI_sub, zI_mul, zL_add, zL_sub, zL_mul, zL_neg, zI_suc, zN_I, zI_ofNat, zI_le_t, zI_le_f, zI_lt_t, zI_lt_f, zI_eq_t, zI_eq_f, zL_le_t, zL_le_f, zL_lt_t, zL_lt_f, zL_eq_t, zL_eq_f, zI_cl, zI_L, mI_t, Int.reduceToNat, nt_le_f, nt_le_t, lc_le, lc_lt, lc_gt, lc_eq, zI_div, Int.toNat_natCast, zI_max, zI_min, or_false, false_or, or_true, true_or, not_false_eq_true, not_true_eq_false, ↓reduceIte, and_self, and_true, true_and, and_false, false_and, not_or, gt_iff_lt, ge_iff_le, mBI_rI, mBJ_rJ, mBR_rV, mBR_rR, rZ_0, rZ_1, e71, e, mxJ, d]
    · simp (disch := omega) only [Int.reduceEq, Int.reduceLT, Int.reduceLE, Int.reduceAdd, Int.reduceMul, Int.reduceSub, Int.reduceNeg, Int.reduceDiv, li_0, li_1, li_2, li_3, li_4, li_5, li_6, li_7, li_8, li_9, li_10, li_16, li_20, li_22, li_32, li_36, li_39, li_40, li_42, li_48, li_60, li_67, li_69, li_70, li_71, li_76, li_77, li_80, li_83, li_86, li_90, li_100, li_120, li_200, li_209, li_234, li_240, li_255, li_300, li_309, li_310, ll_0, ll_1, ll_3, ll_5, ll_7, ll_8, ll_9, ll_20, ll_39, ll_40, ll_60, ll_100, ll_120, ll_200, ll_209, ll_300, ll_309, ll_600, ll_1000000000, zI_neg, zI_add, zI_sub, zI_mul, zL_add, zL_sub, zL_mul, zL_neg, zI_suc, zN_I, zI_ofNat, zI_le_t, zI_le_f, zI_lt_t, zI_lt_f, zI_eq_t, zI_eq_f, zL_le_t, zL_le_f, zL_lt_t, zL_lt_f, zL_eq_t, zL_eq_f, zI_cl, zI_L, mI_t, Int.reduceToNat, nt_le_f, nt_le_t, lc_le, lc_lt, lc_gt, lc_eq, zI_div, Int.toNat_natCast, zI_max, zI_min, or_false, false_or, or_true, true_or, not_false_eq_true, not_true_eq_false, ↓reduceIte, and_self, and_true, true_and, and_false, false_and, not_or, gt_iff_lt, ge_iff_le, mBI_rI, mBJ_rJ, mBR_rV, mBR_rR, rZ_0, rZ_1, e71, e, mxJ, d, j0]
  · intro ⟨N, K⟩ i1
    have e71 : N 7 1 = zI (yN y : Int) := i1.1.2.2.1.1
    refine ⟨N, K, ?_, i1⟩
    show k_Pot_led_6 (zL (ldV y (bsV (ldV y) (yN y - 1 + 1)))) (zI ((yN y - 1 + 1 : Nat) : Int)) N K = _
    rw [← hm, e_Pot_led_6]
    simp (disch := omega) only [Int.reduceEq, Int.reduceLT, Int.reduceLE, Int.reduceAdd, Int.reduceMul, Int.reduceSub, Int.reduceNeg, Int.reduceDiv, li_0, li_1, li_2, li_3, li_4, li_5, li_6, li_7, li_8, li_9, li_10, li_16, li_20, li_22, li_32, li_36, li_39, li_40, li_42, li_48, li_60, li_67, li_69, li_70, li_71, li_76, li_77, li_80, li_83, li_86, li_90, li_100, li_120, li_200, li_209, li_234, li_240, li_255, li_300, li_309, li_310, ll_0, ll_1, ll_3, ll_5, ll_7, ll_8, ll_9, ll_20, ll_39, ll_40, ll_60, ll_100, ll_120, ll_200, ll_209, ll_300, ll_309, ll_600, ll_1000000000, zI_neg, zI_add, zI_sub, zI_mul, zL_add, zL_sub, zL_mul, zL_neg, zI_suc, zN_I, zI_ofNat, zI_le_t, zI_le_f, zI_lt_t, zI_lt_f, zI_eq_t, zI_eq_f, zL_le_t, zL_le_f, zL_lt_t, zL_lt_f, zL_eq_t, zL_eq_f, zI_cl, zI_L, mI_t, Int.reduceToNat, nt_le_f, nt_le_t, lc_le, lc_lt, lc_gt, lc_eq, zI_div, Int.toNat_natCast, zI_max, zI_min, or_false, false_or, or_true, true_or, not_false_eq_true, not_true_eq_false, ↓reduceIte, and_self, and_true, true_and, and_false, false_and, not_or, gt_iff_lt, ge_iff_le, mBI_rI, mBJ_rJ, mBR_rV, mBR_rR, rZ_0, rZ_1, e71]
    rfl
theorem R_led {y : sS} (hy : yOk y) {M : mMI} {J : mMJ} (h : MI y M) : mEJ y M J (k_Model_led M J) (a_led y) := by
  have hn := hy.2.1.1
  have h0 := h.u46 (i := 0) (by omega) (by omega) (zI 0)
  have hb : bsV (ldV y) (yN y) < yN y := by
    have := bsV_lt (ldV y) (yN y - 1)
    rw [show yN y - 1 + 1 = yN y by omega] at this
    exact this
  obtain ⟨N, K, e, o⟩ := R_find hy (J := J) h0
  obtain ⟨N2, K2, e2, o2⟩ := R_lead hy (J := K) o.1 hb
  refine ⟨N2, K2, ?_, o.of0.tr o2⟩
  rw [e_Model_led]
  unfold a_leader at e
  simp (disch := omega) only [Int.reduceEq, Int.reduceLT, Int.reduceLE, Int.reduceAdd, Int.reduceMul, Int.reduceSub, Int.reduceNeg, Int.reduceDiv, li_0, li_1, li_2, li_3, li_4, li_5, li_6, li_7, li_8, li_9, li_10, li_16, li_20, li_22, li_32, li_36, li_39, li_40, li_42, li_48, li_60, li_67, li_69, li_70, li_71, li_76, li_77, li_80, li_83, li_86, li_90, li_100, li_120, li_200, li_209, li_234, li_240, li_255, li_300, li_309, li_310, ll_0, ll_1, ll_3, ll_5, ll_7, ll_8, ll_9, ll_20, ll_39, ll_40, ll_60, ll_100, ll_120, ll_200, ll_209, ll_300, ll_309, ll_600, ll_1000000000, zI_neg, zI_add, zI_sub, zI_mul, zL_add, zL_sub, zL_mul, zL_neg, zI_suc, zN_I, zI_ofNat, zI_le_t, zI_le_f, zI_lt_t, zI_lt_f, zI_eq_t, zI_eq_f, zL_le_t, zL_le_f, zL_lt_t, zL_lt_f, zL_eq_t, zL_eq_f, zI_cl, zI_L, mI_t, Int.reduceToNat, nt_le_f, nt_le_t, lc_le, lc_lt, lc_gt, lc_eq, zI_div, Int.toNat_natCast, zI_max, zI_min, or_false, false_or, or_true, true_or, not_false_eq_true, not_true_eq_false, ↓reduceIte, and_self, and_true, true_and, and_false, false_and, not_or, gt_iff_lt, ge_iff_le, mBI_rI, mBJ_rJ, mBR_rV, mBR_rR, rZ_0, rZ_1, e, e2]
  rfl
/-- one is left out -/
def yX (y : sS) (p : Nat) : sS := sOu y (upO (yO y) p 0)
def xV (y : sS) (p : Nat) : Int := sm (yN y) (hoV (wd (yX y p)) 40)
theorem yX_ok {y : sS} (hy : yOk y) {p : Nat} (hs : 2 ≤ stV (yN y) (upO (yO y) p 0)) : yOk (yX y p) := by
  obtain ⟨a1, a2, a3, a4, a5, a6⟩ := hy
  refine ⟨a1, a2, ⟨fun k hk => ?_, a3.2.1, hs⟩, a4, a5, a6⟩
  show 0 ≤ upO (yO y) p 0 k ∧ upO (yO y) p 0 k ≤ 40
  unfold upO
  split
  · omega
  · exact a3.1 k hk
theorem P_out {y : sS} (hy : yOk y) {M : mMI} {J : mMJ} (h : CI y M J) {p : Nat} (hp : p < yN y) (hsp : 2 ≤ stV (yN y) (upO (yO y) p 0)) : cEJ y M J (k_Pot_heldIfOut (zI (p : Int)) M J) (zL (xV y p)) := by
  have hn := hy.2.1.1
  obtain ⟨N1, e1, f1, s1⟩ := c_take hy h
  have s2 : sbH 21 (yR y) (yN y) (yA y) (yT y) (upO (yO y) p 0) (mUp N1 27 p (zI 0)) := by
    obtain ⟨b1, b2, b3, b4, b5⟩ := s1
    refine ⟨?_, ?_, ?_, fun k hk => ?_, ?_⟩
    · rw [up_nk (by omega)]; exact b1
    · rw [up_nk (by omega)]; exact b2
    · rw [up_nk (by omega), up_nk (by omega), up_nk (by omega)]; exact b3
    · show mUp N1 27 p _ 27 _ = _
      unfold upO
      by_cases hc : k = p
      · rw [if_pos hc, hc, up_at]
      · rw [if_neg hc, up_ne hc]; exact b4 k hk
    · rw [up_nk (by omega)]; exact b5
  have hy2 := yX_ok hy hsp
  obtain ⟨N2, K, e2, f2, fk, hs, hC⟩ := c_trial s2 hy.2.1 hy2.2.2.1 J
  have fr : ∀ q, q < 21 ∨ 35 ≤ q → N2 q = M q := fun q hq => by rw [f2 q (by omega), up_nk (by omega), f1 q (by simp; omega)]
  refine ⟨N2, K, ?_, h.tri fr fk, fun q hq => fr q (by omega), fun q hq => fk q (by omega)⟩
  have r := c_heldByAll (s := 21) (Or.inr rfl) (wd_ok hy2) hs (t := 39) (by omega) (J := K) (f := hoV (wd (yX y p)) 40) (fun k hk => ((hC 39 (by omega)).1 k hk).2.2.2)
  have r : k_Course_heldByAll 21 (zI 39) N2 K = rJ (zL (xV y p)) N2 K := r
  rw [e_Pot_heldIfOut]
  simp (disch := omega) only [Int.reduceEq, Int.reduceLT, Int.reduceLE, Int.reduceAdd, Int.reduceMul, Int.reduceSub, Int.reduceNeg, Int.reduceDiv, li_0, li_1, li_2, li_3, li_4, li_5, li_6, li_7, li_8, li_9, li_10, li_16, li_20, li_22, li_32, li_36, li_39, li_40, li_42, li_48, li_60, li_67, li_69, li_70, li_71, li_76, li_77, li_80, li_83, li_86, li_90, li_100, li_120, li_200, li_209, li_234, li_240, li_255, li_300, li_309, li_310, ll_0, ll_1, ll_3, ll_5, ll_7, ll_8, ll_9, ll_20, ll_39, ll_40, ll_60, ll_100, ll_120, ll_200, ll_209, ll_300, ll_309, ll_600, ll_1000000000, zI_neg, zI_add, zI_sub, zI_mul, zL_add, zL_sub, zL_mul, zL_neg, zI_suc, zN_I, zI_ofNat, zI_le_t, zI_le_f, zI_lt_t, zI_lt_f, zI_eq_t, zI_eq_f, zL_le_t, zL_le_f, zL_lt_t, zL_lt_f, zL_eq_t, zL_eq_f, zI_cl, zI_L, mI_t, Int.reduceToNat, nt_le_f, nt_le_t, lc_le, lc_lt, lc_gt, lc_eq, zI_div, Int.toNat_natCast, zI_max, zI_min, or_false, false_or, or_true, true_or, not_false_eq_true, not_true_eq_false, ↓reduceIte, and_self, and_true, true_and, and_false, false_and, not_or, gt_iff_lt, ge_iff_le, mBI_rI, mBJ_rJ, mBR_rV, mBR_rR, rZ_0, rZ_1, e1, e2, r]
theorem MI.b57 {y : sS} {N : mMI} {p : Nat} (h : MI (sOu y (upO (yO y) p 0)) N) : MI y (mUp N 57 p (zI (yO y p))) := by
  have h3 := h.s57 p (yO y p)
  have ey : sOu (sOu y (upO (yO y) p 0)) (upO (yO (sOu y (upO (yO y) p 0))) p (yO y p)) = y := by
    show sOu y (upO (upO (yO y) p 0) p (yO y p)) = y
    rw [upO_2, upO_id]
    rfl
  rw [ey] at h3
  exact h3
theorem R_few {y : sS} (hy : yOk y) {M : mMI} {J : mMJ} (h : MI y M) {p : Nat} (hp : p < yN y) : mE y M J (k_Model_isFew (zI (p : Int)) M J) (zI (if 2 ≤ stV (yN y) (upO (yO y) p 0) then 0 else 1)) := by
  have hn := hy.2.1.1
  have h2 := h.s57 p 0
  have e57 := h.2.1.2.2.2.1 p (by omega)
  have b := stV_bd hn.2 (upO (yO y) p 0)
  have ms := m_staying (M := mUp M 57 p (zI 0)) (n := yN y) (O := upO (yO y) p 0) h2.2.1.1 hn.2 (fun k hk => h2.2.1.2.2.2.1 k (by omega)) (fun k hk => by
    have := hy.2.2.1.1 k (by omega)
    unfold upO
    split <;> omega) J
  refine ⟨mUp (mUp M 57 p (zI 0)) 57 p (zI (yO y p)), J, ?_, h2.b57, fun q hq => by rw [up_nk (by omega), up_nk (by omega)], fun _ _ => rfl⟩
  rw [e_Model_isFew]
  by_cases c : 2 ≤ stV (yN y) (upO (yO y) p 0)
  · simp (disch := omega) only [Int.reduceEq, Int.reduceLT, Int.reduceLE, Int.reduceAdd, Int.reduceMul, Int.reduceSub, Int.reduceNeg, Int.reduceDiv, li_0, li_1, li_2, li_3, li_4, li_5, li_6, li_7, li_8, li_9, li_10, li_16, li_20, li_22, li_32, li_36, li_39, li_40, li_42, li_48, li_60, li_67, li_69, li_70, li_71, li_76, li_77, li_80, li_83, li_86, li_90, li_100, li_120, li_200, li_209, li_234, li_240, li_255, li_300, li_309, li_310, ll_0, ll_1, ll_3, ll_5, ll_7, ll_8, ll_9, ll_20, ll_39, ll_40, ll_60, ll_100, ll_120, ll_200, ll_209, ll_300, ll_309, ll_600, ll_1000000000, zI_neg, zI_add, zI_sub, zI_mul, zL_add, zL_sub, zL_mul, zL_neg, zI_suc, zN_I, zI_ofNat, zI_le_t, zI_le_f, zI_lt_t, zI_lt_f, zI_eq_t, zI_eq_f, zL_le_t, zL_le_f, zL_lt_t, zL_lt_f, zL_eq_t, zL_eq_f, zI_cl, zI_L, mI_t, Int.reduceToNat, nt_le_f, nt_le_t, lc_le, lc_lt, lc_gt, lc_eq, zI_div, Int.toNat_natCast, zI_max, zI_min, or_false, false_or, or_true, true_or, not_false_eq_true, not_true_eq_false, ↓reduceIte, and_self, and_true, true_and, and_false, false_and, not_or, gt_iff_lt, ge_iff_le, mBI_rI, mBJ_rJ, mBR_rV, mBR_rR, rZ_0, rZ_1, e57, ms, c]
  · simp (disch := omega) only [Int.reduceEq, Int.reduceLT, Int.reduceLE, Int.reduceAdd, Int.reduceMul, Int.reduceSub, Int.reduceNeg, Int.reduceDiv, li_0, li_1, li_2, li_3, li_4, li_5, li_6, li_7, li_8, li_9, li_10, li_16, li_20, li_22, li_32, li_36, li_39, li_40, li_42, li_48, li_60, li_67, li_69, li_70, li_71, li_76, li_77, li_80, li_83, li_86, li_90, li_100, li_120, li_200, li_209, li_234, li_240, li_255, li_300, li_309, li_310, ll_0, ll_1, ll_3, ll_5, ll_7, ll_8, ll_9, ll_20, ll_39, ll_40, ll_60, ll_100, ll_120, ll_200, ll_209, ll_300, ll_309, ll_600, ll_1000000000, zI_neg, zI_add, zI_sub, zI_mul, zL_add, zL_sub, zL_mul, zL_neg, zI_suc, zN_I, zI_ofNat, zI_le_t, zI_le_f, zI_lt_t, zI_lt_f, zI_eq_t, zI_eq_f, zL_le_t, zL_le_f, zL_lt_t, zL_lt_f, zL_eq_t, zL_eq_f, zI_cl, zI_L, mI_t, Int.reduceToNat, nt_le_f, nt_le_t, lc_le, lc_lt, lc_gt, lc_eq, zI_div, Int.toNat_natCast, zI_max, zI_min, or_false, false_or, or_true, true_or, not_false_eq_true, not_true_eq_false, ↓reduceIte, and_self, and_true, true_and, and_false, false_and, not_or, gt_iff_lt, ge_iff_le, mBI_rI, mBJ_rJ, mBR_rV, mBR_rR, rZ_0, rZ_1, e57, ms, c]
theorem R_out {y : sS} (hy : yOk y) {M : mMI} {J : mMJ} (h : MI y M) {p : Nat} (hp : p < yN y) (hsp : 2 ≤ stV (yN y) (upO (yO y) p 0)) : mEJ y M J (k_Model_withoutOne (zI (p : Int)) M J) (zL (xV y p)) := by
  have hn := hy.2.1.1
  have hy2 := yX_ok hy hsp
  have h2 := h.s57 p 0
  have e57 := h.2.1.2.2.2.1 p (by omega)
  obtain ⟨N, K, e, o, hm, hr⟩ := R_run hy2 h2 J
  refine ⟨mUp N 57 p (zI (yO y p)), K, ?_, o.1.b57, fun q hq => ?_, o.2.2⟩
  · have r := m_sumAt (n := yN y) (M := mUp N 57 p (zI (yO y p))) (by rw [up_nk (by omega)]; exact hm.1) hn.2 (t := 39) (by omega) (J := K) (f := hoV (wd (yX y p)) 40) (fun k hk => (hr 39 (by omega) k hk).2.2)
    have r : k_Model_sumAt (zI 39) (mUp N 57 p (zI (yO y p))) K = rJ (zL (xV y p)) _ K := r
    have hz : hoV (wd (yX y p)) 40 p = 0 := hoV_out (by
      show upO (yO y) p 0 p ≤ 0
      unfold upO
      rw [if_pos rfl]
      omega) 40
    have h66 : K 66 (234 + p) = zL 0 := by
      have := (hr 39 (by omega) p hp).2.2
      rw [hz] at this
      exact this
    have ix : (234 + (p : Int)).toNat = 234 + p := by omega
    rw [e_Model_withoutOne]
    simp (disch := omega) only [Int.reduceEq, Int.reduceLT, Int.reduceLE, Int.reduceAdd, Int.reduceMul, Int.reduceSub, Int.reduceNeg, Int.reduceDiv, li_0, li_1, li_2, li_3, li_4, li_5, li_6, li_7, li_8, li_9, li_10, li_16, li_20, li_22, li_32, li_36, li_39, li_40, li_42, li_48, li_60, li_67, li_69, li_70, li_71, li_76, li_77, li_80, li_83, li_86, li_90, li_100, li_120, li_200, li_209, li_234, li_240, li_255, li_300, li_309, li_310, ll_0, ll_1, ll_3, ll_5, ll_7, ll_8, ll_9, ll_20, ll_39, ll_40, ll_60, ll_100, ll_120, ll_200, ll_209, ll_300, ll_309, ll_600, ll_1000000000, zI_neg, zI_add, zI_sub, zI_mul, zL_add, zL_sub, zL_mul, zL_neg, zI_suc, zN_I, zI_ofNat, zI_le_t, zI_le_f, zI_lt_t, zI_lt_f, zI_eq_t, zI_eq_f, zL_le_t, zL_le_f, zL_lt_t, zL_lt_f, zL_eq_t, zL_eq_f, zI_cl, zI_L, mI_t, Int.reduceToNat, nt_le_f, nt_le_t, lc_le, lc_lt, lc_gt, lc_eq, zI_div, Int.toNat_natCast, zI_max, zI_min, or_false, false_or, or_true, true_or, not_false_eq_true, not_true_eq_false, ↓reduceIte, and_self, and_true, true_and, and_false, false_and, not_or, gt_iff_lt, ge_iff_le, mBI_rI, mBJ_rJ, mBR_rV, mBR_rR, rZ_0, rZ_1, e57, e, r, ix, h66, Int.sub_zero]
  · rw [up_nk (by omega), o.2.1 q hq, up_nk (by omega)]
