/-! part, parted -/
def bcE (x0 : Int32) : Int32 := ((((((((x0 - (((x0.toUInt32 >>> ((1 : Int32).toUInt32 &&& Int32.toUInt32 31)).toInt32) &&& 1431655765)) &&& 858993459) + ((((x0 - (((x0.toUInt32 >>> ((1 : Int32).toUInt32 &&& Int32.toUInt32 31)).toInt32) &&& 1431655765)).toUInt32 >>> ((2 : Int32).toUInt32 &&& Int32.toUInt32 31)).toInt32) &&& 858993459)) + (((((x0 - (((x0.toUInt32 >>> ((1 : Int32).toUInt32 &&& Int32.toUInt32 31)).toInt32) &&& 1431655765)) &&& 858993459) + ((((x0 - (((x0.toUInt32 >>> ((1 : Int32).toUInt32 &&& Int32.toUInt32 31)).toInt32) &&& 1431655765)).toUInt32 >>> ((2 : Int32).toUInt32 &&& Int32.toUInt32 31)).toInt32) &&& 858993459)).toUInt32 >>> ((4 : Int32).toUInt32 &&& Int32.toUInt32 31)).toInt32)) &&& 252645135) + (((((((x0 - (((x0.toUInt32 >>> ((1 : Int32).toUInt32 &&& Int32.toUInt32 31)).toInt32) &&& 1431655765)) &&& 858993459) + ((((x0 - (((x0.toUInt32 >>> ((1 : Int32).toUInt32 &&& Int32.toUInt32 31)).toInt32) &&& 1431655765)).toUInt32 >>> ((2 : Int32).toUInt32 &&& Int32.toUInt32 31)).toInt32) &&& 858993459)) + (((((x0 - (((x0.toUInt32 >>> ((1 : Int32).toUInt32 &&& Int32.toUInt32 31)).toInt32) &&& 1431655765)) &&& 858993459) + ((((x0 - (((x0.toUInt32 >>> ((1 : Int32).toUInt32 &&& Int32.toUInt32 31)).toInt32) &&& 1431655765)).toUInt32 >>> ((2 : Int32).toUInt32 &&& Int32.toUInt32 31)).toInt32) &&& 858993459)).toUInt32 >>> ((4 : Int32).toUInt32 &&& Int32.toUInt32 31)).toInt32)) &&& 252645135).toUInt32 >>> ((8 : Int32).toUInt32 &&& Int32.toUInt32 31)).toInt32)) + ((((((((x0 - (((x0.toUInt32 >>> ((1 : Int32).toUInt32 &&& Int32.toUInt32 31)).toInt32) &&& 1431655765)) &&& 858993459) + ((((x0 - (((x0.toUInt32 >>> ((1 : Int32).toUInt32 &&& Int32.toUInt32 31)).toInt32) &&& 1431655765)).toUInt32 >>> ((2 : Int32).toUInt32 &&& Int32.toUInt32 31)).toInt32) &&& 858993459)) + (((((x0 - (((x0.toUInt32 >>> ((1 : Int32).toUInt32 &&& Int32.toUInt32 31)).toInt32) &&& 1431655765)) &&& 858993459) + ((((x0 - (((x0.toUInt32 >>> ((1 : Int32).toUInt32 &&& Int32.toUInt32 31)).toInt32) &&& 1431655765)).toUInt32 >>> ((2 : Int32).toUInt32 &&& Int32.toUInt32 31)).toInt32) &&& 858993459)).toUInt32 >>> ((4 : Int32).toUInt32 &&& Int32.toUInt32 31)).toInt32)) &&& 252645135) + (((((((x0 - (((x0.toUInt32 >>> ((1 : Int32).toUInt32 &&& Int32.toUInt32 31)).toInt32) &&& 1431655765)) &&& 858993459) + ((((x0 - (((x0.toUInt32 >>> ((1 : Int32).toUInt32 &&& Int32.toUInt32 31)).toInt32) &&& 1431655765)).toUInt32 >>> ((2 : Int32).toUInt32 &&& Int32.toUInt32 31)).toInt32) &&& 858993459)) + (((((x0 - (((x0.toUInt32 >>> ((1 : Int32).toUInt32 &&& Int32.toUInt32 31)).toInt32) &&& 1431655765)) &&& 858993459) + ((((x0 - (((x0.toUInt32 >>> ((1 : Int32).toUInt32 &&& Int32.toUInt32 31)).toInt32) &&& 1431655765)).toUInt32 >>> ((2 : Int32).toUInt32 &&& Int32.toUInt32 31)).toInt32) &&& 858993459)).toUInt32 >>> ((4 : Int32).toUInt32 &&& Int32.toUInt32 31)).toInt32)) &&& 252645135).toUInt32 >>> ((8 : Int32).toUInt32 &&& Int32.toUInt32 31)).toInt32)).toUInt32 >>> ((16 : Int32).toUInt32 &&& Int32.toUInt32 31)).toInt32)) &&& 63)
theorem bc_1 : ∀ b : Nat, b < 64 → bcE (zI (b : Int)) = zI (cM (bB (zI (b : Int))) 6 : Int) := by decide +kernel
theorem bc_2 : ∀ b : Nat, b < 64 → ∀ j : Nat, j < 6 → ((zI (b : Int) >>> (zI (j : Int) &&& 31)) &&& zI 1) = zI (if bB (zI (b : Int)) j = true then 1 else 0) := by decide +kernel
theorem bc_3 : ∀ b : Nat, b < 16 → cM (bB (zI (b : Int))) 4 = cM (bB (zI (b : Int))) 6 ∧ cM (bB (zI (b : Int) ^^^ zI (-1))) 4 + cM (bB (zI (b : Int))) 4 = 4 := by decide +kernel
theorem bc_4 : ∀ b : Nat, b < 64 → cM (bB (zI (b : Int) ^^^ zI (-1))) 6 + cM (bB (zI (b : Int))) 6 = 6 := by decide +kernel
theorem bc_5 : ∀ b : Nat, b < 16 → ∀ p : Nat, p < 4 → bB ((zI 15) &&& (zI (b : Int) ^^^ zI (-1))) p = bB (zI (b : Int) ^^^ zI (-1)) p := by decide +kernel
theorem bc_6 : ∀ b : Nat, b < 64 → ∀ p : Nat, p < 6 → bB ((zI 63) &&& (zI (b : Int) ^^^ zI (-1))) p = bB (zI (b : Int) ^^^ zI (-1)) p := by decide +kernel
theorem sh_4 : zI 1 <<< (zI ((4 : Nat) : Int) &&& 31) = zI 16 := by decide +kernel
theorem sh_6 : zI 1 <<< (zI ((6 : Nat) : Int) &&& 31) = zI 64 := by decide +kernel
theorem c_bitCount {b : Nat} (hb : b < 64) (M : mMI) (J : mMJ) : k_Integer_bitCount (zI (b : Int)) M J = rI (zI (cM (bB (zI (b : Int))) 6 : Int)) M J := (e_Integer_bitCount (zI (b : Int)) M J).trans (congrArg (fun v => rI v M J) (bc_1 b hb))
theorem m_bits {b : Nat} (hb : b < 64) (M : mMI) (J : mMJ) : k_Model_bits (zI (b : Int)) M J = rI (zI (cM (bB (zI (b : Int))) 6 : Int)) M J := by
  rw [e_Model_bits]
  simp only [li_0, li_1, li_2, li_3, li_4, li_5, li_6, li_7, li_8, li_9, li_10, li_16, li_20, li_22, li_32, li_36, li_39, li_40, li_42, li_48, li_60, li_67, li_69, li_70, li_71, li_76, li_77, li_80, li_83, li_86, li_90, li_100, li_120, li_200, li_209, li_234, li_240, li_255, li_300, li_309, li_310, ll_0, ll_1, ll_3, ll_5, ll_7, ll_8, ll_9, ll_20, ll_39, ll_40, ll_60, ll_100, ll_120, ll_200, ll_209, ll_300, ll_309, ll_600, ll_1000000000, zI_neg, zI_add, zI_sub, zI_mul, zL_add, zL_sub, zL_mul, zL_neg, zI_suc, zN_I, zI_ofNat]
  refine lp_seq (fun j => k_Model_bits_4 (zI (b : Int)) (zI (cM (bB (zI (b : Int))) j : Int)) (zI (j : Int)) M J) 6 (fun j hj => ?_) ?_
  · rw [e_Model_bits_4]
    have e := bc_2 b hb j hj
    have ec : cM (bB (zI (b : Int))) (j + 1) = if bB (zI (b : Int)) j = true then cM (bB (zI (b : Int))) j + 1 else cM (bB (zI (b : Int))) j := rfl
    by_cases c : bB (zI (b : Int)) j = true
    · rw [if_pos c] at e ec
      simp (disch := omega) only [Int.reduceEq, Int.reduceLT, Int.reduceLE, Int.reduceAdd, Int.reduceMul, Int.reduceSub, Int.reduceNeg, Int.reduceDiv, li_0, li_1, li_2, li_3, li_4, li_5, li_6, li_7, li_8, li_9, li_10, li_16, li_20, li_22, li_32, li_36, li_39, li_40, li_42, li_48, li_60, li_67, li_69, li_70, li_71, li_76, li_77, li_80, li_83, li_86, li_90, li_100, li_120, li_200, li_209, li_234, li_240, li_255, li_300, li_309, li_310, ll_0, ll_1, ll_3, ll_5, ll_7, ll_8, ll_9, ll_20, ll_39, ll_40, ll_60, ll_100, ll_120, ll_200, ll_209, ll_300, ll_309, ll_600, ll_1000000000, zI_neg, zI_add, zI_sub, zI_mul, zL_add, zL_sub, zL_mul, zL_neg, zI_suc, zN_I, zI_ofNat, zI_le_t, zI_le_f, zI_lt_t, zI_lt_f, zI_eq_t, zI_eq_f, zL_le_t, zL_le_f, zL_lt_t, zL_lt_f, zL_eq_t, zL_eq_f, zI_cl, zI_L, mI_t, Int.reduceToNat, nt_le_f, nt_le_t, lc_le, lc_lt, lc_gt, lc_eq, zI_div, Int.toNat_natCast, zI_max, zI_min, or_false, false_or, or_true, true_or, not_false_eq_true, not_true_eq_false, ↓reduceIte, and_self, and_true, true_and, and_false, false_and, not_or, gt_iff_lt, ge_iff_le, mBI_rI, mBJ_rJ, mBR_rV, mBR_rR, rZ_0, rZ_1, e, ec]
    · rw [if_neg c] at e ec
      simp (disch := omega) only [Int.reduceEq, Int.reduceLT, Int.reduceLE, Int.reduceAdd, Int.reduceMul, Int.reduceSub, Int.reduceNeg, Int.reduceDiv, li_0, li_1, li_2, li_3, li_4, li_5, li_6, li_7, li_8, li_9, li_10, li_16, li_20, li_22, li_32, li_36, li_39, li_40, li_42, li_48, li_60, li_67, li_69, li_70, li_71, li_76, li_77, li_80, li_83, li_86, li_90, li_100, li_120, li_200, li_209, li_234, li_240, li_255, li_300, li_309, li_310, ll_0, ll_1, ll_3, ll_5, ll_7, ll_8, ll_9, ll_20, ll_39, ll_40, ll_60, ll_100, ll_120, ll_200, ll_209, ll_300, ll_309, ll_600, ll_1000000000, zI_neg, zI_add, zI_sub, zI_mul, zL_add, zL_sub, zL_mul, zL_neg, zI_suc, zN_I, zI_ofNat, zI_le_t, zI_le_f, zI_lt_t, zI_lt_f, zI_eq_t, zI_eq_f, zL_le_t, zL_le_f, zL_lt_t, zL_lt_f, zL_eq_t, zL_eq_f, zI_cl, zI_L, mI_t, Int.reduceToNat, nt_le_f, nt_le_t, lc_le, lc_lt, lc_gt, lc_eq, zI_div, Int.toNat_natCast, zI_max, zI_min, or_false, false_or, or_true, true_or, not_false_eq_true, not_true_eq_false, ↓reduceIte, and_self, and_true, true_and, and_false, false_and, not_or, gt_iff_lt, ge_iff_le, mBI_rI, mBJ_rJ, mBR_rV, mBR_rR, rZ_0, rZ_1, e, ec, Int.add_zero]
  · rw [e_Model_bits_4]
    simp (disch := omega) only [Int.reduceEq, Int.reduceLT, Int.reduceLE, Int.reduceAdd, Int.reduceMul, Int.reduceSub, Int.reduceNeg, Int.reduceDiv, li_0, li_1, li_2, li_3, li_4, li_5, li_6, li_7, li_8, li_9, li_10, li_16, li_20, li_22, li_32, li_36, li_39, li_40, li_42, li_48, li_60, li_67, li_69, li_70, li_71, li_76, li_77, li_80, li_83, li_86, li_90, li_100, li_120, li_200, li_209, li_234, li_240, li_255, li_300, li_309, li_310, ll_0, ll_1, ll_3, ll_5, ll_7, ll_8, ll_9, ll_20, ll_39, ll_40, ll_60, ll_100, ll_120, ll_200, ll_209, ll_300, ll_309, ll_600, ll_1000000000, zI_neg, zI_add, zI_sub, zI_mul, zL_add, zL_sub, zL_mul, zL_neg, zI_suc, zN_I, zI_ofNat, zI_le_t, zI_le_f, zI_lt_t, zI_lt_f, zI_eq_t, zI_eq_f, zL_le_t, zL_le_f, zL_lt_t, zL_lt_f, zL_eq_t, zL_eq_f, zI_cl, zI_L, mI_t, Int.reduceToNat, nt_le_f, nt_le_t, lc_le, lc_lt, lc_gt, lc_eq, zI_div, Int.toNat_natCast, zI_max, zI_min, or_false, false_or, or_true, true_or, not_false_eq_true, not_true_eq_false, ↓reduceIte, and_self, and_true, true_and, and_false, false_and, not_or, gt_iff_lt, ge_iff_le, mBI_rI, mBJ_rJ, mBR_rV, mBR_rR, rZ_0, rZ_1]
/-- n is 4 or 6, b below its bound -/
def nb (n b : Nat) : Prop := (n = 4 ∧ b < 16) ∨ (n = 6 ∧ b < 64)
theorem nb_c {n b : Nat} (h : nb n b) (h2 : 2 * cM (bB (zI (b : Int))) 6 = n) : 2 ≤ cM (bB (zI (b : Int))) n ∧ 2 ≤ cM (bB (zI (b : Int) ^^^ zI (-1))) n := by
  rcases h with ⟨rfl, hb⟩ | ⟨rfl, hb⟩
  · have a := bc_3 b hb
    omega
  · have a := bc_4 b hb
    omega
def pvV (y : sS) (b : Nat) : Int := hvV y (bB (zI (b : Int))) + hvV y (bB (zI (b : Int) ^^^ zI (-1)))
theorem P_halves {y : sS} (hy : yOk y) {M : mMI} {J : mMJ} (h : CI y M J) {b : Nat} (hb : nb (yN y) b) (h2 : 2 * cM (bB (zI (b : Int))) 6 = yN y) : cEJ y M J (k_Pot_heldByHalves (zI (b : Int)) M J) (zL (pvV y b)) := by
  have c := nb_c hb h2
  obtain ⟨N1, N2, K2, e1, e2, e3, o⟩ := P_half hy h c.1
  obtain ⟨N3, N4, K4, e4, e5, e6, o2⟩ := P_half hy o.1 c.2
  refine ⟨N4, K4, ?_, o.tr o2⟩
  rw [e_Pot_heldByHalves]
  simp (disch := omega) only [Int.reduceEq, Int.reduceLT, Int.reduceLE, Int.reduceAdd, Int.reduceMul, Int.reduceSub, Int.reduceNeg, Int.reduceDiv, li_0, li_1, li_2, li_3, li_4, li_5, li_6, li_7, li_8, li_9, li_10, li_16, li_20, li_22, li_32, li_36, li_39, li_40, li_42, li_48, li_60, li_67, li_69, li_70, li_71, li_76, li_77, li_80, li_83, li_86, li_90, li_100, li_120, li_200, li_209, li_234, li_240, li_255, li_300, li_309, li_310, ll_0, ll_1, ll_3, ll_5, ll_7, ll_8, ll_9, ll_20, ll_39, ll_40, ll_60, ll_100, ll_120, ll_200, ll_209, ll_300, ll_309, ll_600, ll_1000000000, zI_neg, zI_add, zI_sub, zI_mul, zL_add, zL_sub, zL_mul, zL_neg, zI_suc, zN_I, zI_ofNat, zI_le_t, zI_le_f, zI_lt_t, zI_lt_f, zI_eq_t, zI_eq_f, zL_le_t, zL_le_f, zL_lt_t, zL_lt_f, zL_eq_t, zL_eq_f, zI_cl, zI_L, mI_t, Int.reduceToNat, nt_le_f, nt_le_t, lc_le, lc_lt, lc_gt, lc_eq, zI_div, Int.toNat_natCast, zI_max, zI_min, or_false, false_or, or_true, true_or, not_false_eq_true, not_true_eq_false, ↓reduceIte, and_self, and_true, true_and, and_false, false_and, not_or, gt_iff_lt, ge_iff_le, mBI_rI, mBJ_rJ, mBR_rV, mBR_rR, rZ_0, rZ_1, e1, e2, e3, e4, e5, e6]
  rfl
theorem R_parts {y : sS} (hy : yOk y) {M : mMI} {J : mMJ} (h : MI y M) {b : Nat} (hb : nb (yN y) b) (h2 : 2 * cM (bB (zI (b : Int))) 6 = yN y) : mEJ y M J (k_Model_partBy (zI (b : Int)) M J) (zL (pvV y b)) := by
  have c := nb_c hb h2
  obtain ⟨N, K, e, o⟩ := R_half hy (J := J) h c.1
  have e7 : N 46 7 = zI (yN y : Int) := o.1.2.1.1
  have key : ∃ x : Int32, (zI 1 <<< (zI (yN y : Int) &&& 31) - zI 1) &&& (zI (b : Int) ^^^ zI (-1)) = x ∧ cM (bB x) (yN y) = cM (bB (zI (b : Int) ^^^ zI (-1))) (yN y) ∧ hvV y (bB x) = hvV y (bB (zI (b : Int) ^^^ zI (-1))) := by
    have fin : ∀ x : Int32, (∀ p, p < yN y → bB x p = bB (zI (b : Int) ^^^ zI (-1)) p) → cM (bB x) (yN y) = cM (bB (zI (b : Int) ^^^ zI (-1))) (yN y) ∧ hvV y (bB x) = hvV y (bB (zI (b : Int) ^^^ zI (-1))) := by
      intro x hx
      have q := cM_cg (yN y) hx
      refine ⟨q.1, ?_⟩
      unfold hvV wH
      rw [q.1, q.2]
    rcases hb with ⟨h4, hb⟩ | ⟨h4, hb⟩
    · refine ⟨zI 15 &&& (zI (b : Int) ^^^ zI (-1)), ?_, fin _ (fun p hp => ?_)⟩
      · rw [h4, sh_4, zI_sub]
        rfl
      · exact bc_5 b hb p (by omega)
    · refine ⟨zI 63 &&& (zI (b : Int) ^^^ zI (-1)), ?_, fin _ (fun p hp => ?_)⟩
      · rw [h4, sh_6, zI_sub]
        rfl
      · exact bc_6 b hb p (by omega)
  obtain ⟨x, ex, cx, hx⟩ := key
  obtain ⟨N2, K2, e2, o2⟩ := R_half hy (J := K) o.1 (x := x) (by rw [cx]; exact c.2)
  rw [hx] at e2
  refine ⟨N2, K2, ?_, o.tr o2⟩
  rw [e_Model_partBy]
  simp (disch := omega) only [Int.reduceEq, Int.reduceLT, Int.reduceLE, Int.reduceAdd, Int.reduceMul, Int.reduceSub, Int.reduceNeg, Int.reduceDiv, li_0, li_1, li_2, li_3, li_4, li_5, li_6, li_7, li_8, li_9, li_10, li_16, li_20, li_22, li_32, li_36, li_39, li_40, li_42, li_48, li_60, li_67, li_69, li_70, li_71, li_76, li_77, li_80, li_83, li_86, li_90, li_100, li_120, li_200, li_209, li_234, li_240, li_255, li_300, li_309, li_310, ll_0, ll_1, ll_3, ll_5, ll_7, ll_8, ll_9, ll_20, ll_39, ll_40, ll_60, ll_100, ll_120, ll_200, ll_209, ll_300, ll_309, ll_600, ll_1000000000, zI_neg, zI_add, zI_sub, zI_mul, zL_add, zL_sub, zL_mul, zL_neg, zI_suc, zN_I, zI_ofNat, zI_le_t, zI_le_f, zI_lt_t, zI_lt_f, zI_eq_t, zI_eq_f, zL_le_t, zL_le_f, zL_lt_t, zL_lt_f, zL_eq_t, zL_eq_f, zI_cl, zI_L, mI_t, Int.reduceToNat, nt_le_f, nt_le_t, lc_le, lc_lt, lc_gt, lc_eq, zI_div, Int.toNat_natCast, zI_max, zI_min, or_false, false_or, or_true, true_or, not_false_eq_true, not_true_eq_false, ↓reduceIte, and_self, and_true, true_and, and_false, false_and, not_or, gt_iff_lt, ge_iff_le, mBI_rI, mBJ_rJ, mBR_rV, mBR_rR, rZ_0, rZ_1, e, e7, ex, e2]
  rfl
def pbV (y : sS) : Nat → Int
  | 0 => -3
  | j + 1 => if 2 * cM (bB (zI ((2 * j + 1 : Nat) : Int))) 6 = yN y ∧ (pbV y j = -3 ∨ zL (pvV y (pbV y j).toNat) < zL (pvV y (2 * j + 1))) then ((2 * j + 1 : Nat) : Int) else pbV y j
def mpV (y : sS) (j : Nat) (z : Int64) : Int64 := if pbV y j = -3 then z else zL (pvV y (pbV y j).toNat)
theorem pbV_s (y : sS) (j : Nat) : pbV y (j + 1) = if 2 * cM (bB (zI ((2 * j + 1 : Nat) : Int))) 6 = yN y ∧ (pbV y j = -3 ∨ zL (pvV y (pbV y j).toNat) < zL (pvV y (2 * j + 1))) then ((2 * j + 1 : Nat) : Int) else pbV y j := rfl
theorem pbV_bd (y : sS) : ∀ j : Nat, pbV y j = -3 ∨ (0 < pbV y j ∧ pbV y j < 2 * (j : Int) ∧ 2 * cM (bB (zI (pbV y j))) 6 = yN y)
  | 0 => Or.inl rfl
  | j + 1 => by
    have h := pbV_bd y j
    rw [pbV_s]
    by_cases c : 2 * cM (bB (zI ((2 * j + 1 : Nat) : Int))) 6 = yN y ∧ (pbV y j = -3 ∨ zL (pvV y (pbV y j).toNat) < zL (pvV y (2 * j + 1)))
    · rw [if_pos c]
      exact Or.inr ⟨by omega, by omega, c.1⟩
    · rw [if_neg c]
      rcases h with h | h
      · exact Or.inl h
      · exact Or.inr ⟨h.1, by omega, h.2.2⟩
theorem pbV_up {y : sS} {j : Nat} (h : pbV y j ≠ -3) : ∀ {m : Nat}, j ≤ m → pbV y m ≠ -3 := by
  intro m hm
  induction m with
  | zero => rw [show (0 : Nat) = j by omega]; exact h
  | succ m ih =>
    by_cases e : j = m + 1
    · rw [← e]; exact h
    · rw [pbV_s]
      split
      · omega
      · exact ih (by omega)
/-- how many sets are looked at -/
def qN (y : sS) : Nat := if yN y = 4 then 8 else 32
theorem pbV_end {y : sS} (h : yN y = 4 ∨ yN y = 6) : pbV y (qN y) ≠ -3 := by
  unfold qN
  have fst : ∀ j, 2 * cM (bB (zI ((2 * j + 1 : Nat) : Int))) 6 = yN y → pbV y (j + 1) ≠ -3 := by
    intro j hj
    rw [pbV_s]
    by_cases c : pbV y j = -3
    · rw [if_pos ⟨hj, Or.inl c⟩]; omega
    · split
      · omega
      · exact c
  rcases h with h | h
  · rw [if_pos h]
    refine pbV_up (fst 1 ?_) (by omega)
    rw [h]
    decide +kernel
  · rw [if_neg (by omega)]
    refine pbV_up (fst 3 ?_) (by omega)
    rw [h]
    decide +kernel
theorem sh_n {y : sS} (h : yN y = 4 ∨ yN y = 6) : zI 1 <<< (zI (yN y : Int) &&& 31) = zI (2 * (qN y : Int)) := by
  unfold qN
  rcases h with h | h
  · rw [h, sh_4]; rfl
  · rw [h, sh_6]; rfl
theorem qN_nb {y : sS} (h : yN y = 4 ∨ yN y = 6) {b : Nat} (hb : b < 2 * qN y) : nb (yN y) b := by
  unfold qN at hb
  rcases h with h | h
  · rw [if_pos h] at hb; exact Or.inl ⟨h, by omega⟩
  · rw [if_neg (by omega)] at hb; exact Or.inr ⟨h, by omega⟩
theorem qN_le (y : sS) : qN y ≤ 32 := by
  unfold qN
  split <;> omega
theorem c_can {y : sS} {M : mMI} {J : mMJ} (h : CI y M J) (hy : yOk y) (K : mMJ) : k_Pot_canBeHalved M K = rI (zI (if yN y = 4 ∨ yN y = 6 then 1 else 0)) M K := by
  have hn := hy.2.1.1
  have e71 : M 7 1 = zI (yN y : Int) := h.2.2.1.1
  rw [e_Pot_canBeHalved]
  by_cases h4 : yN y = 4
  · simp (disch := omega) only [Int.reduceEq, Int.reduceLT, Int.reduceLE, Int.reduceAdd, Int.reduceMul, Int.reduceSub, Int.reduceNeg, Int.reduceDiv, li_0, li_1, li_2, li_3, li_4, li_5, li_6, li_7, li_8, li_9, li_10, li_16, li_20, li_22, li_32, li_36, li_39, li_40, li_42, li_48, li_60, li_67, li_69, li_70, li_71, li_76, li_77, li_80, li_83, li_86, li_90, li_100, li_120, li_200, li_209, li_234, li_240, li_255, li_300, li_309, li_310, ll_0, ll_1, ll_3, ll_5, ll_7, ll_8, ll_9, ll_20, ll_39, ll_40, ll_60, ll_100, ll_120, ll_200, ll_209, ll_300, ll_309, ll_600, ll_1000000000, zI_neg, zI_add, zI_sub, zI_mul, zL_add, zL_sub, zL_mul, zL_neg, zI_suc, zN_I, zI_ofNat, zI_le_t, zI_le_f, zI_lt_t, zI_lt_f, zI_eq_t, zI_eq_f, zL_le_t, zL_le_f, zL_lt_t, zL_lt_f, zL_eq_t, zL_eq_f, zI_cl, zI_L, mI_t, Int.reduceToNat, nt_le_f, nt_le_t, lc_le, lc_lt, lc_gt, lc_eq, zI_div, Int.toNat_natCast, zI_max, zI_min, or_false, false_or, or_true, true_or, not_false_eq_true, not_true_eq_false, ↓reduceIte, and_self, and_true, true_and, and_false, false_and, not_or, gt_iff_lt, ge_iff_le, mBI_rI, mBJ_rJ, mBR_rV, mBR_rR, rZ_0, rZ_1, e71, h4]
  · by_cases h6 : yN y = 6
    · simp (disch := omega) only [Int.reduceEq, Int.reduceLT, Int.reduceLE, Int.reduceAdd, Int.reduceMul, Int.reduceSub, Int.reduceNeg, Int.reduceDiv, li_0, li_1, li_2, li_3, li_4, li_5, li_6, li_7, li_8, li_9, li_10, li_16, li_20, li_22, li_32, li_36, li_39, li_40, li_42, li_48, li_60, li_67, li_69, li_70, li_71, li_76, li_77, li_80, li_83, li_86, li_90, li_100, li_120, li_200, li_209, li_234, li_240, li_255, li_300, li_309, li_310, ll_0, ll_1, ll_3, ll_5, ll_7, ll_8, ll_9, ll_20, ll_39, ll_40, ll_60, ll_100, ll_120, ll_200, ll_209, ll_300, ll_309, ll_600, ll_1000000000, zI_neg, zI_add, zI_sub, zI_mul, zL_add, zL_sub, zL_mul, zL_neg, zI_suc, zN_I, zI_ofNat, zI_le_t, zI_le_f, zI_lt_t, zI_lt_f, zI_eq_t, zI_eq_f, zL_le_t, zL_le_f, zL_lt_t, zL_lt_f, zL_eq_t, zL_eq_f, zI_cl, zI_L, mI_t, Int.reduceToNat, nt_le_f, nt_le_t, lc_le, lc_lt, lc_gt, lc_eq, zI_div, Int.toNat_natCast, zI_max, zI_min, or_false, false_or, or_true, true_or, not_false_eq_true, not_true_eq_false, ↓reduceIte, and_self, and_true, true_and, and_false, false_and, not_or, gt_iff_lt, ge_iff_le, mBI_rI, mBJ_rJ, mBR_rV, mBR_rR, rZ_0, rZ_1, e71, h4, h6]
    · simp (disch := omega) only [Int.reduceEq, Int.reduceLT, Int.reduceLE, Int.reduceAdd, Int.reduceMul, Int.reduceSub, Int.reduceNeg, Int.reduceDiv, li_0, li_1, li_2, li_3, li_4, li_5, li_6, li_7, li_8, li_9, li_10, li_16, li_20, li_22, li_32, li_36, li_39, li_40, li_42, li_48, li_60, li_67, li_69, li_70, li_71, li_76, li_77, li_80, li_83, li_86, li_90, li_100, li_120, li_200, li_209, li_234, li_240, li_255, li_300, li_309, li_310, ll_0, ll_1, ll_3, ll_5, ll_7, ll_8, ll_9, ll_20, ll_39, ll_40, ll_60, ll_100, ll_120, ll_200, ll_209, ll_300, ll_309, ll_600, ll_1000000000, zI_neg, zI_add, zI_sub, zI_mul, zL_add, zL_sub, zL_mul, zL_neg, zI_suc, zN_I, zI_ofNat, zI_le_t, zI_le_f, zI_lt_t, zI_lt_f, zI_eq_t, zI_eq_f, zL_le_t, zL_le_f, zL_lt_t, zL_lt_f, zL_eq_t, zL_eq_f, zI_cl, zI_L, mI_t, Int.reduceToNat, nt_le_f, nt_le_t, lc_le, lc_lt, lc_gt, lc_eq, zI_div, Int.toNat_natCast, zI_max, zI_min, or_false, false_or, or_true, true_or, not_false_eq_true, not_true_eq_false, ↓reduceIte, and_self, and_true, true_and, and_false, false_and, not_or, gt_iff_lt, ge_iff_le, mBI_rI, mBJ_rJ, mBR_rV, mBR_rR, rZ_0, rZ_1, e71, h4, h6]
theorem c_isHalf {y : sS} {M : mMI} {J : mMJ} (h : CI y M J) (hy : yOk y) {b : Nat} (hb : b < 64) (K : mMJ) : k_Pot_isHalf (zI (b : Int)) M K = rI (zI (if 2 * cM (bB (zI (b : Int))) 6 = yN y then 1 else 0)) M K := by
  have hn := hy.2.1.1
  have e71 : M 7 1 = zI (yN y : Int) := h.2.2.1.1
  have l := cM_le (bB (zI (b : Int))) 6
  rw [e_Pot_isHalf]
  by_cases c : 2 * cM (bB (zI (b : Int))) 6 = yN y
  · simp (disch := omega) only [Int.reduceEq, Int.reduceLT, Int.reduceLE, Int.reduceAdd, Int.reduceMul, Int.reduceSub, Int.reduceNeg, Int.reduceDiv, li_0, li_1, li_2, li_3, li_4, li_5, li_6, li_7, li_8, li_9, li_10, li_16, li_20, li_22, li_32, li_36, li_39, li_40, li_42, li_48, li_60, li_67, li_69, li_70, li_71, li_76, li_77, li_80, li_83, li_86, li_90, li_100, li_120, li_200, li_209, li_234, li_240, li_255, li_300, li_309, li_310, ll_0, ll_1, ll_3, ll_5, ll_7, ll_8, ll_9, ll_20, ll_39, ll_40, ll_60, ll_100, ll_120, ll_200, ll_209, ll_300, ll_309, ll_600, ll_1000000000, zI_neg, zI_add, zI_sub, zI_mul, zL_add, zL_sub, zL_mul, zL_neg, zI_suc, zN_I, zI_ofNat, zI_le_t, zI_le_f, zI_lt_t, zI_lt_f, zI_eq_t, zI_eq_f, zL_le_t, zL_le_f, zL_lt_t, zL_lt_f, zL_eq_t, zL_eq_f, zI_cl, zI_L, mI_t, Int.reduceToNat, nt_le_f, nt_le_t, lc_le, lc_lt, lc_gt, lc_eq, zI_div, Int.toNat_natCast, zI_max, zI_min, or_false, false_or, or_true, true_or, not_false_eq_true, not_true_eq_false, ↓reduceIte, and_self, and_true, true_and, and_false, false_and, not_or, gt_iff_lt, ge_iff_le, mBI_rI, mBJ_rJ, mBR_rV, mBR_rR, rZ_0, rZ_1, c_bitCount hb, e71, c]
  · simp (disch := omega) only [Int.reduceEq, Int.reduceLT, Int.reduceLE, Int.reduceAdd, Int.reduceMul, Int.reduceSub, Int.reduceNeg, Int.reduceDiv, li_0, li_1, li_2, li_3, li_4, li_5, li_6, li_7, li_8, li_9, li_10, li_16, li_20, li_22, li_32, li_36, li_39, li_40, li_42, li_48, li_60, li_67, li_69, li_70, li_71, li_76, li_77, li_80, li_83, li_86, li_90, li_100, li_120, li_200, li_209, li_234, li_240, li_255, li_300, li_309, li_310, ll_0, ll_1, ll_3, ll_5, ll_7, ll_8, ll_9, ll_20, ll_39, ll_40, ll_60, ll_100, ll_120, ll_200, ll_209, ll_300, ll_309, ll_600, ll_1000000000, zI_neg, zI_add, zI_sub, zI_mul, zL_add, zL_sub, zL_mul, zL_neg, zI_suc, zN_I, zI_ofNat, zI_le_t, zI_le_f, zI_lt_t, zI_lt_f, zI_eq_t, zI_eq_f, zL_le_t, zL_le_f, zL_lt_t, zL_lt_f, zL_eq_t, zL_eq_f, zI_cl, zI_L, mI_t, Int.reduceToNat, nt_le_f, nt_le_t, lc_le, lc_lt, lc_gt, lc_eq, zI_div, Int.toNat_natCast, zI_max, zI_min, or_false, false_or, or_true, true_or, not_false_eq_true, not_true_eq_false, ↓reduceIte, and_self, and_true, true_and, and_false, false_and, not_or, gt_iff_lt, ge_iff_le, mBI_rI, mBJ_rJ, mBR_rV, mBR_rR, rZ_0, rZ_1, c_bitCount hb, e71, c]
/-- the first half: of the lowest numbers -/
def hN (y : sS) : Nat := if yN y = 4 then 1 else 3
theorem hN_c {y : sS} (h : yN y = 4 ∨ yN y = 6) : 2 * cM (bB (zI ((2 * hN y + 1 : Nat) : Int))) 6 = yN y := by
  unfold hN
  rcases h with h | h
  · rw [if_pos h, h]
    decide +kernel
  · rw [if_neg (by omega), h]
    decide +kernel
theorem pbV_lo {y : sS} (h : yN y = 4 ∨ yN y = 6) : pbV y (hN y) = -3 := by
  have st : ∀ j, ¬ 2 * cM (bB (zI ((2 * j + 1 : Nat) : Int))) 6 = yN y → pbV y j = -3 → pbV y (j + 1) = -3 := by
    intro j c e
    rw [pbV_s, if_neg (fun q => c q.1)]
    exact e
  unfold hN
  rcases h with h | h
  · rw [if_pos h]
    exact st 0 (by rw [h]; decide +kernel) rfl
  · rw [if_neg (by omega)]
    exact st 2 (by rw [h]; decide +kernel) (st 1 (by rw [h]; decide +kernel) (st 0 (by rw [h]; decide +kernel) rfl))
theorem pbV_hN {y : sS} (h : yN y = 4 ∨ yN y = 6) : pbV y (hN y + 1) = ((2 * hN y + 1 : Nat) : Int) := by
  rw [pbV_s, if_pos ⟨hN_c h, Or.inl (pbV_lo h)⟩]
theorem hN_q {y : sS} (h : yN y = 4 ∨ yN y = 6) : hN y + 1 ≤ qN y ∧ hN y ≤ 3 := by
  unfold hN qN
  rcases h with h | h
  · rw [if_pos h, if_pos h]; omega
  · rw [if_neg (by omega), if_neg (by omega)]; omega
theorem pbV_ge {y : sS} (h : yN y = 4 ∨ yN y = 6) (i : Nat) : pbV y (hN y + 1 + i) ≠ -3 := by
  refine pbV_up (j := hN y + 1) ?_ (by omega)
  rw [pbV_hN h]
  omega
theorem fh_4 : ((1 : Int32) <<< ((zI ((4 : Nat) : Int) / 2) &&& 31)) - 1 = zI ((2 * 1 + 1 : Nat) : Int) := by decide +kernel
theorem fh_6 : ((1 : Int32) <<< ((zI ((6 : Nat) : Int) / 2) &&& 31)) - 1 = zI ((2 * 3 + 1 : Nat) : Int) := by decide +kernel
theorem c_first {y : sS} {M : mMI} {J : mMJ} (h : CI y M J) (hh : yN y = 4 ∨ yN y = 6) (K : mMJ) : k_Pot_firstHalf M K = rI (zI ((2 * hN y + 1 : Nat) : Int)) M K := by
  have e71 : M 7 1 = zI (yN y : Int) := h.2.2.1.1
  rw [e_Pot_firstHalf, e71]
  refine (if_pos (show ¬ (2 : Int32) = 0 by decide)).trans ?_
  unfold hN
  rcases hh with q | q
  · rw [if_pos q, q]
    exact congrArg (fun v => rI v M K) fh_4
  · rw [if_neg (by omega), q]
    exact congrArg (fun v => rI v M K) fh_6
