/-! THE REFERENCE'S ROUNDS -/
theorem m_layFines {w : wW} (hw : wOk w) {wh : Nat → Nat} {M : mMI} (hS : moH w wh M) {t : Nat} (ht : t < 40) {p : Nat → Int} (hp : ∀ e, e < wN w → M 68 e = zI (p e)) (hpb : pOk w p) {q : Nat → Nat → Int} (hq : mvQ w t q M) (hqb : qOk w q) (hq0 : t = 0 → ∀ k e, q k e = 0) (J : mMJ) : ∃ N, k_Model_layFines (zI t) M J = rV N J ∧ fR [69] M N ∧ ∀ k e, k < wN w → e < wN w → N 69 (6 * k + e) = zI (pyP w t p q k e) := by
  have hn := hw.1
  have hFb := hw.2.2.2.1
  have bc := cN_bd hw ht
  have bp := poV_bd hw t hpb
  obtain ⟨N0, ⟨f0, z0⟩, e0⟩ := lp_to (α := mMI) (fun N j => k_Model_layFines_6 (zI t) (zI 0) (zI 0) (zI (j : Int)) N J) (fun j N => fR [69] M N ∧ ∀ i, i < j → N 69 i = zI 0) 36 (by
    intro j N hj ⟨i1, i2⟩
    refine ⟨mUp N 69 j (zI 0), ⟨i1.tr (fR.up (by simp)), fun i hi => ?_⟩, ?_⟩
    · by_cases h : i = j
      · subst h; exact up_at _ _ _ _
      · rw [up_ne h]; exact i2 i (by omega)
    · rw [e_Model_layFines_6]
      simp (disch := omega) only [Int.reduceEq, Int.reduceLT, Int.reduceLE, Int.reduceAdd, Int.reduceMul, Int.reduceSub, Int.reduceNeg, Int.reduceDiv, li_0, li_1, li_2, li_3, li_4, li_5, li_6, li_7, li_8, li_9, li_10, li_16, li_20, li_22, li_32, li_36, li_39, li_40, li_42, li_48, li_60, li_67, li_69, li_70, li_71, li_76, li_77, li_80, li_83, li_86, li_90, li_100, li_120, li_200, li_209, li_234, li_240, li_255, li_300, li_309, li_310, ll_0, ll_1, ll_3, ll_5, ll_7, ll_8, ll_9, ll_20, ll_39, ll_40, ll_60, ll_100, ll_120, ll_200, ll_209, ll_300, ll_309, ll_600, ll_1000000000, zI_neg, zI_add, zI_sub, zI_mul, zL_add, zL_sub, zL_mul, zL_neg, zI_suc, zN_I, zI_ofNat, zI_le_t, zI_le_f, zI_lt_t, zI_lt_f, zI_eq_t, zI_eq_f, zL_le_t, zL_le_f, zL_lt_t, zL_lt_f, zL_eq_t, zL_eq_f, zI_cl, zI_L, mI_t, Int.reduceToNat, nt_le_f, nt_le_t, lc_le, lc_lt, lc_gt, lc_eq, zI_div, Int.toNat_natCast, zI_max, zI_min, or_false, false_or, or_true, true_or, not_false_eq_true, not_true_eq_false, ↓reduceIte, and_self, and_true, true_and, and_false, false_and, not_or, gt_iff_lt, ge_iff_le, mBI_rI, mBJ_rJ, mBR_rV, mBR_rR, rZ_0, rZ_1]) M ⟨fR.rf, fun i hi => absurd hi (Nat.not_lt_zero i)⟩
  have hS0 : moH w wh N0 := hS.fr (fun a h => f0 a (by simp; omega))
  have e1 : k_Model_layFines_18 (zI t) (zI 0) (zI 0) (zI 0) N0 J = k_Model_layFines_43 (zI t) (zI (meV w t p)) (zI 0) N0 J := by
    refine lp_seq (fun j => k_Model_layFines_18 (zI t) (zI (sm j (fun k => if (t : Int) < wA w 3 k then p k else 0))) (zI (sm j (fun k => if (t : Int) < wA w 3 k then 1 else 0))) (zI (j : Int)) N0 J) (wN w) (fun j hj => ?_) ?_
    · rw [e_Model_layFines_18]
      have e := hp j hj
      rw [← f0 68 (by simp)] at e
      by_cases h : (t : Int) < wA w 3 j <;> simp (disch := omega) only [Int.reduceEq, Int.reduceLT, Int.reduceLE, Int.reduceAdd, Int.reduceMul, Int.reduceSub, Int.reduceNeg, Int.reduceDiv, li_0, li_1, li_2, li_3, li_4, li_5, li_6, li_7, li_8, li_9, li_10, li_16, li_20, li_22, li_32, li_36, li_39, li_40, li_42, li_48, li_60, li_67, li_69, li_70, li_71, li_76, li_77, li_80, li_83, li_86, li_90, li_100, li_120, li_200, li_209, li_234, li_240, li_255, li_300, li_309, li_310, ll_0, ll_1, ll_3, ll_5, ll_7, ll_8, ll_9, ll_20, ll_39, ll_40, ll_60, ll_100, ll_120, ll_200, ll_209, ll_300, ll_309, ll_600, ll_1000000000, zI_neg, zI_add, zI_sub, zI_mul, zL_add, zL_sub, zL_mul, zL_neg, zI_suc, zN_I, zI_ofNat, zI_le_t, zI_le_f, zI_lt_t, zI_lt_f, zI_eq_t, zI_eq_f, zL_le_t, zL_le_f, zL_lt_t, zL_lt_f, zL_eq_t, zL_eq_f, zI_cl, zI_L, mI_t, Int.reduceToNat, nt_le_f, nt_le_t, lc_le, lc_lt, lc_gt, lc_eq, zI_div, Int.toNat_natCast, zI_max, zI_min, or_false, false_or, or_true, true_or, not_false_eq_true, not_true_eq_false, ↓reduceIte, and_self, and_true, true_and, and_false, false_and, not_or, gt_iff_lt, ge_iff_le, mBI_rI, mBJ_rJ, mBR_rV, mBR_rR, rZ_0, rZ_1, hS0.1, m_isIn hw hS0 hj ht J, h, e, sm_s, Int.add_zero]
    · rw [e_Model_layFines_18]
      show (if _ then (if ¬ zI (cN w t) = 0 then k_Model_layFines_43 (zI t) (zI (poV w t p) / zI (cN w t)) 0 N0 J else none) else _) = _
      simp (disch := omega) only [Int.reduceEq, Int.reduceLT, Int.reduceLE, Int.reduceAdd, Int.reduceMul, Int.reduceSub, Int.reduceNeg, Int.reduceDiv, li_0, li_1, li_2, li_3, li_4, li_5, li_6, li_7, li_8, li_9, li_10, li_16, li_20, li_22, li_32, li_36, li_39, li_40, li_42, li_48, li_60, li_67, li_69, li_70, li_71, li_76, li_77, li_80, li_83, li_86, li_90, li_100, li_120, li_200, li_209, li_234, li_240, li_255, li_300, li_309, li_310, ll_0, ll_1, ll_3, ll_5, ll_7, ll_8, ll_9, ll_20, ll_39, ll_40, ll_60, ll_100, ll_120, ll_200, ll_209, ll_300, ll_309, ll_600, ll_1000000000, zI_neg, zI_add, zI_sub, zI_mul, zL_add, zL_sub, zL_mul, zL_neg, zI_suc, zN_I, zI_ofNat, zI_le_t, zI_le_f, zI_lt_t, zI_lt_f, zI_eq_t, zI_eq_f, zL_le_t, zL_le_f, zL_lt_t, zL_lt_f, zL_eq_t, zL_eq_f, zI_cl, zI_L, mI_t, Int.reduceToNat, nt_le_f, nt_le_t, lc_le, lc_lt, lc_gt, lc_eq, zI_div, Int.toNat_natCast, zI_max, zI_min, or_false, false_or, or_true, true_or, not_false_eq_true, not_true_eq_false, ↓reduceIte, and_self, and_true, true_and, and_false, false_and, not_or, gt_iff_lt, ge_iff_le, mBI_rI, mBJ_rJ, mBR_rV, mBR_rR, rZ_0, rZ_1, hS0.1]
      rfl
  have e2 : k_Model_layFines (zI t) M J = k_Model_layFines_43 (zI t) (zI (meV w t p)) (zI 0) N0 J := by
    rw [e_Model_layFines, ← e1]
    simp only [li_0, li_1, li_2, li_3, li_4, li_5, li_6, li_7, li_8, li_9, li_10, li_16, li_20, li_22, li_32, li_36, li_39, li_40, li_42, li_48, li_60, li_67, li_69, li_70, li_71, li_76, li_77, li_80, li_83, li_86, li_90, li_100, li_120, li_200, li_209, li_234, li_240, li_255, li_300, li_309, li_310, ll_0, ll_1, ll_3, ll_5, ll_7, ll_8, ll_9, ll_20, ll_39, ll_40, ll_60, ll_100, ll_120, ll_200, ll_209, ll_300, ll_309, ll_600, ll_1000000000, zI_neg, zI_add, zI_sub, zI_mul, zL_add, zL_sub, zL_mul, zL_neg, zI_suc, zN_I, zI_ofNat]
    refine Eq.trans e0 ?_
    show k_Model_layFines_6 (zI t) (zI 0) (zI 0) (zI ((36 : Nat) : Int)) N0 J = _
    rw [e_Model_layFines_6]
    simp (disch := omega) only [Int.reduceEq, Int.reduceLT, Int.reduceLE, Int.reduceAdd, Int.reduceMul, Int.reduceSub, Int.reduceNeg, Int.reduceDiv, li_0, li_1, li_2, li_3, li_4, li_5, li_6, li_7, li_8, li_9, li_10, li_16, li_20, li_22, li_32, li_36, li_39, li_40, li_42, li_48, li_60, li_67, li_69, li_70, li_71, li_76, li_77, li_80, li_83, li_86, li_90, li_100, li_120, li_200, li_209, li_234, li_240, li_255, li_300, li_309, li_310, ll_0, ll_1, ll_3, ll_5, ll_7, ll_8, ll_9, ll_20, ll_39, ll_40, ll_60, ll_100, ll_120, ll_200, ll_209, ll_300, ll_309, ll_600, ll_1000000000, zI_neg, zI_add, zI_sub, zI_mul, zL_add, zL_sub, zL_mul, zL_neg, zI_suc, zN_I, zI_ofNat, zI_le_t, zI_le_f, zI_lt_t, zI_lt_f, zI_eq_t, zI_eq_f, zL_le_t, zL_le_f, zL_lt_t, zL_lt_f, zL_eq_t, zL_eq_f, zI_cl, zI_L, mI_t, Int.reduceToNat, nt_le_f, nt_le_t, lc_le, lc_lt, lc_gt, lc_eq, zI_div, Int.toNat_natCast, zI_max, zI_min, or_false, false_or, or_true, true_or, not_false_eq_true, not_true_eq_false, ↓reduceIte, and_self, and_true, true_and, and_false, false_and, not_or, gt_iff_lt, ge_iff_le, mBI_rI, mBJ_rJ, mBR_rV, mBR_rR, rZ_0, rZ_1]
  rw [e2]
  refine lp_Q (α := mMI) (fun N j => k_Model_layFines_43 (zI t) (zI (meV w t p)) (zI (j : Int)) N J) (fun j N => fR [69] M N ∧ (∀ k e, k < j → e < wN w → N 69 (6 * k + e) = zI (pyP w t p q k e)) ∧ (∀ k e, j ≤ k → k < wN w → e < wN w → N 69 (6 * k + e) = zI 0)) (fun o => ∃ N, o = rV N J ∧ fR [69] M N ∧ ∀ k e, k < wN w → e < wN w → N 69 (6 * k + e) = zI (pyP w t p q k e)) (wN w) ?_ ?_ N0 ⟨f0, fun k e hk _ => absurd hk (Nat.not_lt_zero k), fun k e _ hk he => z0 _ (by omega)⟩
  · intro j N hj ⟨i1, i2, i3⟩
    have hS' : moH w wh N := hS.fr (fun a h => i1 a (by simp; omega))
    have r2 := hS'.2.1 2 (by omega)
    rw [e_Model_layFines_43]
    by_cases hF : 0 < wR w 2
    · right
      by_cases h : (t : Int) < wA w 3 j
      · obtain ⟨N2, e, f, g, r⟩ := m_layBy hw hS' ht (fun e he => by rw [i1 68 (by simp)]; exact hp e he) hpb (q := q) (fun u hu k e hk he => by rw [i1 65 (by simp)]; exact hq u hu k e hk he) hqb hq0 hj h hF (fun e he => i3 j e (Nat.le_refl j) hj he) J
        refine ⟨N2, ⟨i1.tr f, fun k e hk he => ?_, fun k e hk hk2 he => ?_⟩, ?_⟩
        · by_cases hkj : k = j
          · subst hkj; exact r _ he
          · rw [g _ (by omega)]; exact i2 k e (by omega) he
        · rw [g _ (by omega)]; exact i3 k e (by omega) hk2 he
        · simp (disch := omega) only [Int.reduceEq, Int.reduceLT, Int.reduceLE, Int.reduceAdd, Int.reduceMul, Int.reduceSub, Int.reduceNeg, Int.reduceDiv, li_0, li_1, li_2, li_3, li_4, li_5, li_6, li_7, li_8, li_9, li_10, li_16, li_20, li_22, li_32, li_36, li_39, li_40, li_42, li_48, li_60, li_67, li_69, li_70, li_71, li_76, li_77, li_80, li_83, li_86, li_90, li_100, li_120, li_200, li_209, li_234, li_240, li_255, li_300, li_309, li_310, ll_0, ll_1, ll_3, ll_5, ll_7, ll_8, ll_9, ll_20, ll_39, ll_40, ll_60, ll_100, ll_120, ll_200, ll_209, ll_300, ll_309, ll_600, ll_1000000000, zI_neg, zI_add, zI_sub, zI_mul, zL_add, zL_sub, zL_mul, zL_neg, zI_suc, zN_I, zI_ofNat, zI_le_t, zI_le_f, zI_lt_t, zI_lt_f, zI_eq_t, zI_eq_f, zL_le_t, zL_le_f, zL_lt_t, zL_lt_f, zL_eq_t, zL_eq_f, zI_cl, zI_L, mI_t, Int.reduceToNat, nt_le_f, nt_le_t, lc_le, lc_lt, lc_gt, lc_eq, zI_div, Int.toNat_natCast, zI_max, zI_min, or_false, false_or, or_true, true_or, not_false_eq_true, not_true_eq_false, ↓reduceIte, and_self, and_true, true_and, and_false, false_and, not_or, gt_iff_lt, ge_iff_le, mBI_rI, mBJ_rJ, mBR_rV, mBR_rR, rZ_0, rZ_1, hS'.1, r2, m_isIn hw hS' hj ht J, h, e]
      · refine ⟨N, ⟨i1, fun k e hk he => ?_, fun k e hk hk2 he => i3 k e (by omega) hk2 he⟩, ?_⟩
        · by_cases hkj : k = j
          · subst hkj
            rw [(pyP_out h p q e).1]
            exact i3 k e (Nat.le_refl k) hj he
          · exact i2 k e (by omega) he
        · simp (disch := omega) only [Int.reduceEq, Int.reduceLT, Int.reduceLE, Int.reduceAdd, Int.reduceMul, Int.reduceSub, Int.reduceNeg, Int.reduceDiv, li_0, li_1, li_2, li_3, li_4, li_5, li_6, li_7, li_8, li_9, li_10, li_16, li_20, li_22, li_32, li_36, li_39, li_40, li_42, li_48, li_60, li_67, li_69, li_70, li_71, li_76, li_77, li_80, li_83, li_86, li_90, li_100, li_120, li_200, li_209, li_234, li_240, li_255, li_300, li_309, li_310, ll_0, ll_1, ll_3, ll_5, ll_7, ll_8, ll_9, ll_20, ll_39, ll_40, ll_60, ll_100, ll_120, ll_200, ll_209, ll_300, ll_309, ll_600, ll_1000000000, zI_neg, zI_add, zI_sub, zI_mul, zL_add, zL_sub, zL_mul, zL_neg, zI_suc, zN_I, zI_ofNat, zI_le_t, zI_le_f, zI_lt_t, zI_lt_f, zI_eq_t, zI_eq_f, zL_le_t, zL_le_f, zL_lt_t, zL_lt_f, zL_eq_t, zL_eq_f, zI_cl, zI_L, mI_t, Int.reduceToNat, nt_le_f, nt_le_t, lc_le, lc_lt, lc_gt, lc_eq, zI_div, Int.toNat_natCast, zI_max, zI_min, or_false, false_or, or_true, true_or, not_false_eq_true, not_true_eq_false, ↓reduceIte, and_self, and_true, true_and, and_false, false_and, not_or, gt_iff_lt, ge_iff_le, mBI_rI, mBJ_rJ, mBR_rV, mBR_rR, rZ_0, rZ_1, hS'.1, r2, m_isIn hw hS' hj ht J, h]
    · left
      refine ⟨N, ?_, i1, fun k e hk he => ?_⟩
      · simp (disch := omega) only [Int.reduceEq, Int.reduceLT, Int.reduceLE, Int.reduceAdd, Int.reduceMul, Int.reduceSub, Int.reduceNeg, Int.reduceDiv, li_0, li_1, li_2, li_3, li_4, li_5, li_6, li_7, li_8, li_9, li_10, li_16, li_20, li_22, li_32, li_36, li_39, li_40, li_42, li_48, li_60, li_67, li_69, li_70, li_71, li_76, li_77, li_80, li_83, li_86, li_90, li_100, li_120, li_200, li_209, li_234, li_240, li_255, li_300, li_309, li_310, ll_0, ll_1, ll_3, ll_5, ll_7, ll_8, ll_9, ll_20, ll_39, ll_40, ll_60, ll_100, ll_120, ll_200, ll_209, ll_300, ll_309, ll_600, ll_1000000000, zI_neg, zI_add, zI_sub, zI_mul, zL_add, zL_sub, zL_mul, zL_neg, zI_suc, zN_I, zI_ofNat, zI_le_t, zI_le_f, zI_lt_t, zI_lt_f, zI_eq_t, zI_eq_f, zL_le_t, zL_le_f, zL_lt_t, zL_lt_f, zL_eq_t, zL_eq_f, zI_cl, zI_L, mI_t, Int.reduceToNat, nt_le_f, nt_le_t, lc_le, lc_lt, lc_gt, lc_eq, zI_div, Int.toNat_natCast, zI_max, zI_min, or_false, false_or, or_true, true_or, not_false_eq_true, not_true_eq_false, ↓reduceIte, and_self, and_true, true_and, and_false, false_and, not_or, gt_iff_lt, ge_iff_le, mBI_rI, mBJ_rJ, mBR_rV, mBR_rR, rZ_0, rZ_1, hS'.1, r2]
      · by_cases hkj : k < j
        · exact i2 k e hkj he
        · rw [pyP_0 (by omega)]; exact i3 k e (by omega) hk he
  · intro N ⟨i1, i2, i3⟩
    have hS' : moH w wh N := hS.fr (fun a h => i1 a (by simp; omega))
    refine ⟨N, ?_, i1, i2⟩
    rw [e_Model_layFines_43]
    simp (disch := omega) only [Int.reduceEq, Int.reduceLT, Int.reduceLE, Int.reduceAdd, Int.reduceMul, Int.reduceSub, Int.reduceNeg, Int.reduceDiv, li_0, li_1, li_2, li_3, li_4, li_5, li_6, li_7, li_8, li_9, li_10, li_16, li_20, li_22, li_32, li_36, li_39, li_40, li_42, li_48, li_60, li_67, li_69, li_70, li_71, li_76, li_77, li_80, li_83, li_86, li_90, li_100, li_120, li_200, li_209, li_234, li_240, li_255, li_300, li_309, li_310, ll_0, ll_1, ll_3, ll_5, ll_7, ll_8, ll_9, ll_20, ll_39, ll_40, ll_60, ll_100, ll_120, ll_200, ll_209, ll_300, ll_309, ll_600, ll_1000000000, zI_neg, zI_add, zI_sub, zI_mul, zL_add, zL_sub, zL_mul, zL_neg, zI_suc, zN_I, zI_ofNat, zI_le_t, zI_le_f, zI_lt_t, zI_lt_f, zI_eq_t, zI_eq_f, zL_le_t, zL_le_f, zL_lt_t, zL_lt_f, zL_eq_t, zL_eq_f, zI_cl, zI_L, mI_t, Int.reduceToNat, nt_le_f, nt_le_t, lc_le, lc_lt, lc_gt, lc_eq, zI_div, Int.toNat_natCast, zI_max, zI_min, or_false, false_or, or_true, true_or, not_false_eq_true, not_true_eq_false, ↓reduceIte, and_self, and_true, true_and, and_false, false_and, not_or, gt_iff_lt, ge_iff_le, mBI_rI, mBJ_rJ, mBR_rV, mBR_rR, rZ_0, rZ_1, hS'.1]
theorem m_gets {w : wW} (hw : wOk w) {wh : Nat → Nat} {M : mMI} (hS : moH w wh M) {t : Nat} (ht : t < 40) {p : Nat → Int} (hp : ∀ e, e < wN w → M 68 e = zI (p e)) (hpb : pOk w p) {d : Nat → Nat → Int} (hd : ∀ k e, k < wN w → e < wN w → M 69 (6 * k + e) = zI (d k e)) (hdb : qOk w d) {k : Nat} (hk : k < wN w) (J : mMJ) : k_Model_gets (zI k) (zI t) M J = rJ (zL (geV w t p d k)) M J := by
  have hn := hw.1
  have hE := hw.2.1
  have hMb := hw.2.2.1
  have hFb := hw.2.2.2.1
  have hCb := hw.2.2.2.2.1
  have bc := cN_bd hw ht
  have bp := poV_bd hw t hpb
  have sb := smq_bd hw hdb hk
  have shb := shV_bd hw ht hpb
  have bk := hpb k hk
  have r0 := hS.2.1 0 (by omega)
  have r1 := hS.2.1 1 (by omega)
  have r2 := hS.2.1 2 (by omega)
  have r3 := hS.2.1 3 (by omega)
  simp only [e_Model_gets, li_0, li_1, li_2, li_3, li_4, li_5, li_6, li_7, li_8, li_9, li_10, li_16, li_20, li_22, li_32, li_36, li_39, li_40, li_42, li_48, li_60, li_67, li_69, li_70, li_71, li_76, li_77, li_80, li_83, li_86, li_90, li_100, li_120, li_200, li_209, li_234, li_240, li_255, li_300, li_309, li_310, ll_0, ll_1, ll_3, ll_5, ll_7, ll_8, ll_9, ll_20, ll_39, ll_40, ll_60, ll_100, ll_120, ll_200, ll_209, ll_300, ll_309, ll_600, ll_1000000000, zI_neg, zI_add, zI_sub, zI_mul, zL_add, zL_sub, zL_mul, zL_neg, zI_suc, zN_I, zI_ofNat]
  refine lp_seq (fun j => k_Model_gets_8 (zI k) (zI t) (zL (sm j (fun k => if (t : Int) < wA w 3 k then p k else 0))) (zI (sm j (fun e => d k e))) (zI (sm j (fun e => d e k))) (zI (j : Int)) M J) (wN w) (fun j hj => ?_) ?_
  · rw [e_Model_gets_8]
    have e := hp j hj
    have bj := hpb j hj
    have ix : (6 * (k : Int) + (j : Int)).toNat = 6 * k + j := by omega
    have ix2 : (6 * (j : Int) + (k : Int)).toNat = 6 * j + k := by omega
    by_cases h : (t : Int) < wA w 3 j <;> simp (disch := omega) only [Int.reduceEq, Int.reduceLT, Int.reduceLE, Int.reduceAdd, Int.reduceMul, Int.reduceSub, Int.reduceNeg, Int.reduceDiv, li_0, li_1, li_2, li_3, li_4, li_5, li_6, li_7, li_8, li_9, li_10, li_16, li_20, li_22, li_32, li_36, li_39, li_40, li_42, li_48, li_60, li_67, li_69, li_70, li_71, li_76, li_77, li_80, li_83, li_86, li_90, li_100, li_120, li_200, li_209, li_234, li_240, li_255, li_300, li_309, li_310, ll_0, ll_1, ll_3, ll_5, ll_7, ll_8, ll_9, ll_20, ll_39, ll_40, ll_60, ll_100, ll_120, ll_200, ll_209, ll_300, ll_309, ll_600, ll_1000000000, zI_neg, zI_add, zI_sub, zI_mul, zL_add, zL_sub, zL_mul, zL_neg, zI_suc, zN_I, zI_ofNat, zI_le_t, zI_le_f, zI_lt_t, zI_lt_f, zI_eq_t, zI_eq_f, zL_le_t, zL_le_f, zL_lt_t, zL_lt_f, zL_eq_t, zL_eq_f, zI_cl, zI_L, mI_t, Int.reduceToNat, nt_le_f, nt_le_t, lc_le, lc_lt, lc_gt, lc_eq, zI_div, Int.toNat_natCast, zI_max, zI_min, or_false, false_or, or_true, true_or, not_false_eq_true, not_true_eq_false, ↓reduceIte, and_self, and_true, true_and, and_false, false_and, not_or, gt_iff_lt, ge_iff_le, mBI_rI, mBJ_rJ, mBR_rV, mBR_rR, rZ_0, rZ_1, hS.1, m_isIn hw hS hj ht J, h, e, ix, ix2, hd k j hk hj, hd j k hj hk, sm_s, Int.add_zero]
  · have eg : geV w t p d k = 600 * (wR w 0 - p k) + 60 * poV w t p * wR w 1 / cN w t - 600 * wR w 3 * sm (wN w) (fun e => d k e) - 600 * wR w 2 * sm (wN w) (fun e => d e k) := by
      have e1 : 60 * poV w t p * wR w 1 = poV w t p * wR w 1 * 60 := by rw [Int.mul_assoc, Int.mul_comm]
      rw [e1, Int.mul_assoc 600 (wR w 3), Int.mul_assoc 600 (wR w 2)]
      unfold geV loV shV
      omega
    have e1 : 60 * poV w t p * wR w 1 = poV w t p * wR w 1 * 60 := by rw [Int.mul_assoc, Int.mul_comm]
    have ek := hp k hk
    rw [e_Model_gets_8, eg]
    show (if _ then (if _ then (mBI _ (fun v1 M1 J1 => (if ¬ v1.toInt64 = 0 then (if _ then (if _ then (if _ then (if _ then rJ ((((600 * (((M1 48 _) - (M1 68 _)).toInt64)) + (((60 * zL (poV w t p)) * _) / v1.toInt64)) - _) - _) M1 J1 else none) else none) else none) else none) else none))) else none) else _) = _
    simp (disch := omega) only [Int.reduceEq, Int.reduceLT, Int.reduceLE, Int.reduceAdd, Int.reduceMul, Int.reduceSub, Int.reduceNeg, Int.reduceDiv, li_0, li_1, li_2, li_3, li_4, li_5, li_6, li_7, li_8, li_9, li_10, li_16, li_20, li_22, li_32, li_36, li_39, li_40, li_42, li_48, li_60, li_67, li_69, li_70, li_71, li_76, li_77, li_80, li_83, li_86, li_90, li_100, li_120, li_200, li_209, li_234, li_240, li_255, li_300, li_309, li_310, ll_0, ll_1, ll_3, ll_5, ll_7, ll_8, ll_9, ll_20, ll_39, ll_40, ll_60, ll_100, ll_120, ll_200, ll_209, ll_300, ll_309, ll_600, ll_1000000000, zI_neg, zI_add, zI_sub, zI_mul, zL_add, zL_sub, zL_mul, zL_neg, zI_suc, zN_I, zI_ofNat, zI_le_t, zI_le_f, zI_lt_t, zI_lt_f, zI_eq_t, zI_eq_f, zL_le_t, zL_le_f, zL_lt_t, zL_lt_f, zL_eq_t, zL_eq_f, zI_cl, zI_L, mI_t, Int.reduceToNat, nt_le_f, nt_le_t, lc_le, lc_lt, lc_gt, lc_eq, zI_div, Int.toNat_natCast, zI_max, zI_min, or_false, false_or, or_true, true_or, not_false_eq_true, not_true_eq_false, ↓reduceIte, and_self, and_true, true_and, and_false, false_and, not_or, gt_iff_lt, ge_iff_le, mBI_rI, mBJ_rJ, mBR_rV, mBR_rR, rZ_0, rZ_1, hS.1, m_inMany hw hS ht J, r0, r1, r2, r3, ek, zL_div]
