/-! THE REFERENCE'S RUN -/
/-- m rounds of the reference are run -/
def ruH (w : wW) (m : Nat) (M : mMI) (J : mMJ) : Prop := ∀ t, t < m → ∀ k, k < wN w → M 64 (6 * t + k) = zI (pu w t k) ∧ (∀ e, e < wN w → M 65 (36 * t + 6 * k + e) = zI (pa w t k e)) ∧ J 66 (6 * t + k) = zL (hoV w (t + 1) k)
def mP : List Nat := [64, 65, 68, 69]
theorem pu_out {w : wW} {t k : Nat} (h : ¬ (t : Int) < wA w 3 k) : pu w t k = 0 := if_neg h
theorem m_round {w : wW} (hw : wOk w) {wh : Nat → Nat} {M : mMI} {J : mMJ} (hS : moH w wh M) {t : Nat} (ht : t < 40) (hC : ruH w t M J) : ∃ N K, k_Model_run_2 (zI t) M J = k_Model_run_2 (zI ((t + 1 : Nat) : Int)) N K ∧ fR mP M N ∧ fJ [66] J K ∧ ruH w (t + 1) N K := by
  have hn := hw.1
  have q2 := St_2 hw t
  have hpb := pu_bd hw ht
  have hp1 : mvP w t (St w t).1 M := by
    intro u hu e he
    subst hu
    exact (hC u (by omega) e he).1
  have hq1 : mvQ w t (St w t).2 M := by
    intro u hu k e hk he
    subst hu
    exact (hC u (by omega) k hk).2.1 e he
  -- puts
  obtain ⟨M1, ⟨f1, r1⟩, e1⟩ := lp_to (α := mMI) (fun N j => k_Model_run_7 (zI t) (zI (j : Int)) N J) (fun j N => fR [68] M N ∧ ∀ k, k < j → N 68 k = zI (pu w t k)) (wN w) (by
    intro j N hj ⟨i1, i2⟩
    have hS' : moH w wh N := hS.fr (fun a h => i1 a (by simp; omega))
    refine ⟨mUp N 68 j (zI (pu w t j)), ⟨i1.tr (fR.up (by simp)), fun i hi => ?_⟩, ?_⟩
    · by_cases h : i = j
      · subst h; exact up_at _ _ _ _
      · rw [up_ne h]; exact i2 i (by omega)
    · rw [e_Model_run_7]
      by_cases h : (t : Int) < wA w 3 j
      · have ep := m_putOf hw hS' ht (p := (St w t).1) (q := (St w t).2) (fun u hu e he => by rw [i1 64 (by simp)]; exact hp1 u hu e he) (St_1 hw (by omega)) (fun u hu k e hk he => by rw [i1 65 (by simp)]; exact hq1 u hu k e hk he) q2 hj h J
        have ed : ptP w t (St w t).1 (St w t).2 j = pu w t j := rfl
        simp (disch := omega) only [Int.reduceEq, Int.reduceLT, Int.reduceLE, Int.reduceAdd, Int.reduceMul, Int.reduceSub, Int.reduceNeg, Int.reduceDiv, li_0, li_1, li_2, li_3, li_4, li_5, li_6, li_7, li_8, li_9, li_10, li_16, li_20, li_22, li_32, li_36, li_39, li_40, li_42, li_48, li_60, li_67, li_69, li_70, li_71, li_76, li_77, li_80, li_83, li_86, li_90, li_100, li_120, li_200, li_209, li_234, li_240, li_255, li_300, li_309, li_310, ll_0, ll_1, ll_3, ll_5, ll_7, ll_8, ll_9, ll_20, ll_39, ll_40, ll_60, ll_100, ll_120, ll_200, ll_209, ll_300, ll_309, ll_600, ll_1000000000, zI_neg, zI_add, zI_sub, zI_mul, zL_add, zL_sub, zL_mul, zL_neg, zI_suc, zN_I, zI_ofNat, zI_le_t, zI_le_f, zI_lt_t, zI_lt_f, zI_eq_t, zI_eq_f, zL_le_t, zL_le_f, zL_lt_t, zL_lt_f, zL_eq_t, zL_eq_f, zI_cl, zI_L, mI_t, Int.reduceToNat, nt_le_f, nt_le_t, lc_le, lc_lt, lc_gt, lc_eq, zI_div, Int.toNat_natCast, zI_max, zI_min, or_false, false_or, or_true, true_or, not_false_eq_true, not_true_eq_false, ↓reduceIte, and_self, and_true, true_and, and_false, false_and, not_or, gt_iff_lt, ge_iff_le, mBI_rI, mBJ_rJ, mBR_rV, mBR_rR, rZ_0, rZ_1, hS'.1, m_isIn hw hS' hj ht J, h, ep, ed]
      · simp (disch := omega) only [Int.reduceEq, Int.reduceLT, Int.reduceLE, Int.reduceAdd, Int.reduceMul, Int.reduceSub, Int.reduceNeg, Int.reduceDiv, li_0, li_1, li_2, li_3, li_4, li_5, li_6, li_7, li_8, li_9, li_10, li_16, li_20, li_22, li_32, li_36, li_39, li_40, li_42, li_48, li_60, li_67, li_69, li_70, li_71, li_76, li_77, li_80, li_83, li_86, li_90, li_100, li_120, li_200, li_209, li_234, li_240, li_255, li_300, li_309, li_310, ll_0, ll_1, ll_3, ll_5, ll_7, ll_8, ll_9, ll_20, ll_39, ll_40, ll_60, ll_100, ll_120, ll_200, ll_209, ll_300, ll_309, ll_600, ll_1000000000, zI_neg, zI_add, zI_sub, zI_mul, zL_add, zL_sub, zL_mul, zL_neg, zI_suc, zN_I, zI_ofNat, zI_le_t, zI_le_f, zI_lt_t, zI_lt_f, zI_eq_t, zI_eq_f, zL_le_t, zL_le_f, zL_lt_t, zL_lt_f, zL_eq_t, zL_eq_f, zI_cl, zI_L, mI_t, Int.reduceToNat, nt_le_f, nt_le_t, lc_le, lc_lt, lc_gt, lc_eq, zI_div, Int.toNat_natCast, zI_max, zI_min, or_false, false_or, or_true, true_or, not_false_eq_true, not_true_eq_false, ↓reduceIte, and_self, and_true, true_and, and_false, false_and, not_or, gt_iff_lt, ge_iff_le, mBI_rI, mBJ_rJ, mBR_rV, mBR_rR, rZ_0, rZ_1, hS'.1, m_isIn hw hS' hj ht J, h, pu_out h]) M ⟨fR.rf, fun i hi => absurd hi (Nat.not_lt_zero i)⟩
  have hS1 : moH w wh M1 := hS.fr (fun a h => f1 a (by simp; omega))
  -- fines
  obtain ⟨M2, e2, f2, r2⟩ := m_layFines hw hS1 ht r1 hpb (q := (St w t).2) (fun u hu k e hk he => by rw [f1 65 (by simp)]; exact hq1 u hu k e hk he) q2 (fun h k e => by subst h; rfl) J
  have hS2 : moH w wh M2 := hS1.fr (fun a h => f2 a (by simp; omega))
  have r68 : ∀ e, e < wN w → M2 68 e = zI (pu w t e) := fun e he => by rw [f2 68 (by simp)]; exact r1 e he
  -- holds
  obtain ⟨⟨M3, K3⟩, ⟨f3, fk3, g3, gk3, r3, rk3⟩, e3⟩ := lp_to (α := mMI × mMJ) (fun N j => k_Model_run_33 (zI t) (zI (j : Int)) N.1 N.2) (fun j N => fR [64] M2 N.1 ∧ fJ [66] J N.2 ∧ (∀ i, i < 6 * t → N.1 64 i = M2 64 i) ∧ (∀ i, i < 6 * t → N.2 66 i = J 66 i) ∧ (∀ k, k < j → N.1 64 (6 * t + k) = zI (pu w t k)) ∧ (∀ k, k < j → N.2 66 (6 * t + k) = zL (hoV w (t + 1) k))) (wN w) (by
    intro j ⟨N, K⟩ hj ⟨i1, i2, i3, i4, i5, i6⟩
    dsimp only at i1 i2 i3 i4 i5 i6
    have hS' : moH w wh N := hS2.fr (fun a h => i1 a (by simp; omega))
    have ro := row_s (j := j) (g := fun k => zI (pu w t k)) i3 i5
    have roJ := rowJ_s (j := j) (g := fun k => zL (hoV w (t + 1) k)) i4 i6
    refine ⟨(mUp N 64 (6 * t + j) (zI (pu w t j)), mUpJ K 66 (6 * t + j) (zL (hoV w (t + 1) j))), ⟨i1.tr (fR.up (by simp)), i2.tr (fJ.up (by simp)), ro.1, roJ.1, ro.2, roJ.2⟩, ?_⟩
    show k_Model_run_33 (zI t) (zI (j : Int)) N K = k_Model_run_33 (zI t) (zI ((j + 1 : Nat) : Int)) _ _
    have ix : (6 * (t : Int) + (j : Int)).toNat = 6 * t + j := by omega
    have e68 : N 68 j = zI (pu w t j) := by rw [i1 68 (by simp)]; exact r68 j hj
    have eo : hoV w (t + 1) j = hoV w t j + (if (t : Int) < wA w 3 j then geV w t (pu w t) (pa w t) j else 0) := rfl
    have eg := fun J => m_gets hw hS' ht (p := pu w t) (fun e he => by rw [i1 68 (by simp)]; exact r68 e he) hpb (d := pa w t) (fun k e hk he => by rw [i1 69 (by simp)]; exact r2 k e hk he) (pa_bd hw t) hj J
    rw [e_Model_run_33]
    cases t with
    | zero =>
      have z : hoV w 0 j = 0 := rfl
      rw [z, Int.zero_add] at eo
      have eg0 : ∀ J, k_Model_gets (zI j) (zI 0) N J = rJ (zL (geV w 0 (pu w 0) (pa w 0) j)) N J := fun J => eg J
      have ii : ∀ J, k_Model_isIn (zI j) (zI 0) N J = rI (zI (if ((0 : Nat) : Int) < wA w 3 j then 1 else 0)) N J := fun J => m_isIn hw hS' hj ht J
      by_cases h : ((0 : Nat) : Int) < wA w 3 j
      · rw [if_pos h] at eo ii
        simp (disch := omega) only [Int.reduceEq, Int.reduceLT, Int.reduceLE, Int.reduceAdd, Int.reduceMul, Int.reduceSub, Int.reduceNeg, Int.reduceDiv, li_0, li_1, li_2, li_3, li_4, li_5, li_6, li_7, li_8, li_9, li_10, li_16, li_20, li_22, li_32, li_36, li_39, li_40, li_42, li_48, li_60, li_67, li_69, li_70, li_71, li_76, li_77, li_80, li_83, li_86, li_90, li_100, li_120, li_200, li_209, li_234, li_240, li_255, li_300, li_309, li_310, ll_0, ll_1, ll_3, ll_5, ll_7, ll_8, ll_9, ll_20, ll_39, ll_40, ll_60, ll_100, ll_120, ll_200, ll_209, ll_300, ll_309, ll_600, ll_1000000000, zI_neg, zI_add, zI_sub, zI_mul, zL_add, zL_sub, zL_mul, zL_neg, zI_suc, zN_I, zI_ofNat, zI_le_t, zI_le_f, zI_lt_t, zI_lt_f, zI_eq_t, zI_eq_f, zL_le_t, zL_le_f, zL_lt_t, zL_lt_f, zL_eq_t, zL_eq_f, zI_cl, zI_L, mI_t, Int.reduceToNat, nt_le_f, nt_le_t, lc_le, lc_lt, lc_gt, lc_eq, zI_div, Int.toNat_natCast, zI_max, zI_min, or_false, false_or, or_true, true_or, not_false_eq_true, not_true_eq_false, ↓reduceIte, and_self, and_true, true_and, and_false, false_and, not_or, gt_iff_lt, ge_iff_le, mBI_rI, mBJ_rJ, mBR_rV, mBR_rR, rZ_0, rZ_1, hS'.1, Int.ofNat_zero, ii, e68, eg0, eo]
        simp (disch := omega) only [Int.reduceEq, Int.reduceLT, Int.reduceLE, Int.reduceAdd, Int.reduceMul, Int.reduceSub, Int.reduceNeg, Int.reduceDiv, li_0, li_1, li_2, li_3, li_4, li_5, li_6, li_7, li_8, li_9, li_10, li_16, li_20, li_22, li_32, li_36, li_39, li_40, li_42, li_48, li_60, li_67, li_69, li_70, li_71, li_76, li_77, li_80, li_83, li_86, li_90, li_100, li_120, li_200, li_209, li_234, li_240, li_255, li_300, li_309, li_310, ll_0, ll_1, ll_3, ll_5, ll_7, ll_8, ll_9, ll_20, ll_39, ll_40, ll_60, ll_100, ll_120, ll_200, ll_209, ll_300, ll_309, ll_600, ll_1000000000, zI_neg, zI_add, zI_sub, zI_mul, zL_add, zL_sub, zL_mul, zL_neg, zI_suc, zN_I, zI_ofNat, zI_le_t, zI_le_f, zI_lt_t, zI_lt_f, zI_eq_t, zI_eq_f, zL_le_t, zL_le_f, zL_lt_t, zL_lt_f, zL_eq_t, zL_eq_f, zI_cl, zI_L, mI_t, Int.reduceToNat, nt_le_f, nt_le_t, lc_le, lc_lt, lc_gt, lc_eq, zI_div, Int.toNat_natCast, zI_max, zI_min, or_false, false_or, or_true, true_or, not_false_eq_true, not_true_eq_false, ↓reduceIte, and_self, and_true, true_and, and_false, false_and, not_or, gt_iff_lt, ge_iff_le, mBI_rI, mBJ_rJ, mBR_rV, mBR_rR, rZ_0, rZ_1, Int.mul_zero, Int.zero_add, Nat.mul_zero, Nat.zero_add]
      · rw [if_neg h] at eo ii
        simp (disch := omega) only [Int.reduceEq, Int.reduceLT, Int.reduceLE, Int.reduceAdd, Int.reduceMul, Int.reduceSub, Int.reduceNeg, Int.reduceDiv, li_0, li_1, li_2, li_3, li_4, li_5, li_6, li_7, li_8, li_9, li_10, li_16, li_20, li_22, li_32, li_36, li_39, li_40, li_42, li_48, li_60, li_67, li_69, li_70, li_71, li_76, li_77, li_80, li_83, li_86, li_90, li_100, li_120, li_200, li_209, li_234, li_240, li_255, li_300, li_309, li_310, ll_0, ll_1, ll_3, ll_5, ll_7, ll_8, ll_9, ll_20, ll_39, ll_40, ll_60, ll_100, ll_120, ll_200, ll_209, ll_300, ll_309, ll_600, ll_1000000000, zI_neg, zI_add, zI_sub, zI_mul, zL_add, zL_sub, zL_mul, zL_neg, zI_suc, zN_I, zI_ofNat, zI_le_t, zI_le_f, zI_lt_t, zI_lt_f, zI_eq_t, zI_eq_f, zL_le_t, zL_le_f, zL_lt_t, zL_lt_f, zL_eq_t, zL_eq_f, zI_cl, zI_L, mI_t, Int.reduceToNat, nt_le_f, nt_le_t, lc_le, lc_lt, lc_gt, lc_eq, zI_div, Int.toNat_natCast, zI_max, zI_min, or_false, false_or, or_true, true_or, not_false_eq_true, not_true_eq_false, ↓reduceIte, and_self, and_true, true_and, and_false, false_and, not_or, gt_iff_lt, ge_iff_le, mBI_rI, mBJ_rJ, mBR_rV, mBR_rR, rZ_0, rZ_1, hS'.1, Int.ofNat_zero, ii, e68, eo]
        simp (disch := omega) only [Int.reduceEq, Int.reduceLT, Int.reduceLE, Int.reduceAdd, Int.reduceMul, Int.reduceSub, Int.reduceNeg, Int.reduceDiv, li_0, li_1, li_2, li_3, li_4, li_5, li_6, li_7, li_8, li_9, li_10, li_16, li_20, li_22, li_32, li_36, li_39, li_40, li_42, li_48, li_60, li_67, li_69, li_70, li_71, li_76, li_77, li_80, li_83, li_86, li_90, li_100, li_120, li_200, li_209, li_234, li_240, li_255, li_300, li_309, li_310, ll_0, ll_1, ll_3, ll_5, ll_7, ll_8, ll_9, ll_20, ll_39, ll_40, ll_60, ll_100, ll_120, ll_200, ll_209, ll_300, ll_309, ll_600, ll_1000000000, zI_neg, zI_add, zI_sub, zI_mul, zL_add, zL_sub, zL_mul, zL_neg, zI_suc, zN_I, zI_ofNat, zI_le_t, zI_le_f, zI_lt_t, zI_lt_f, zI_eq_t, zI_eq_f, zL_le_t, zL_le_f, zL_lt_t, zL_lt_f, zL_eq_t, zL_eq_f, zI_cl, zI_L, mI_t, Int.reduceToNat, nt_le_f, nt_le_t, lc_le, lc_lt, lc_gt, lc_eq, zI_div, Int.toNat_natCast, zI_max, zI_min, or_false, false_or, or_true, true_or, not_false_eq_true, not_true_eq_false, ↓reduceIte, and_self, and_true, true_and, and_false, false_and, not_or, gt_iff_lt, ge_iff_le, mBI_rI, mBJ_rJ, mBR_rV, mBR_rR, rZ_0, rZ_1, Int.mul_zero, Int.zero_add, Nat.mul_zero, Nat.zero_add]
    | succ u =>
      have ix2 : (6 * (((u + 1 : Nat) : Int) - 1) + (j : Int)).toNat = 6 * u + j := by omega
      have h66 : K 66 (6 * u + j) = zL (hoV w (u + 1) j) := by rw [i4 _ (by omega)]; exact (hC u (by omega) j hj).2.2
      by_cases h : ((u + 1 : Nat) : Int) < wA w 3 j
      · rw [if_pos h] at eo
        simp (disch := omega) only [Int.reduceEq, Int.reduceLT, Int.reduceLE, Int.reduceAdd, Int.reduceMul, Int.reduceSub, Int.reduceNeg, Int.reduceDiv, li_0, li_1, li_2, li_3, li_4, li_5, li_6, li_7, li_8, li_9, li_10, li_16, li_20, li_22, li_32, li_36, li_39, li_40, li_42, li_48, li_60, li_67, li_69, li_70, li_71, li_76, li_77, li_80, li_83, li_86, li_90, li_100, li_120, li_200, li_209, li_234, li_240, li_255, li_300, li_309, li_310, ll_0, ll_1, ll_3, ll_5, ll_7, ll_8, ll_9, ll_20, ll_39, ll_40, ll_60, ll_100, ll_120, ll_200, ll_209, ll_300, ll_309, ll_600, ll_1000000000, zI_neg, zI_add, zI_sub, zI_mul, zL_add, zL_sub, zL_mul, zL_neg, zI_suc, zN_I, zI_ofNat, zI_le_t, zI_le_f, zI_lt_t, zI_lt_f, zI_eq_t, zI_eq_f, zL_le_t, zL_le_f, zL_lt_t, zL_lt_f, zL_eq_t, zL_eq_f, zI_cl, zI_L, mI_t, Int.reduceToNat, nt_le_f, nt_le_t, lc_le, lc_lt, lc_gt, lc_eq, zI_div, Int.toNat_natCast, zI_max, zI_min, or_false, false_or, or_true, true_or, not_false_eq_true, not_true_eq_false, ↓reduceIte, and_self, and_true, true_and, and_false, false_and, not_or, gt_iff_lt, ge_iff_le, mBI_rI, mBJ_rJ, mBR_rV, mBR_rR, rZ_0, rZ_1, hS'.1, m_isIn hw hS' hj ht, h, e68, eg, ix, ix2, h66, eo]
      · rw [if_neg h] at eo
        simp (disch := omega) only [Int.reduceEq, Int.reduceLT, Int.reduceLE, Int.reduceAdd, Int.reduceMul, Int.reduceSub, Int.reduceNeg, Int.reduceDiv, li_0, li_1, li_2, li_3, li_4, li_5, li_6, li_7, li_8, li_9, li_10, li_16, li_20, li_22, li_32, li_36, li_39, li_40, li_42, li_48, li_60, li_67, li_69, li_70, li_71, li_76, li_77, li_80, li_83, li_86, li_90, li_100, li_120, li_200, li_209, li_234, li_240, li_255, li_300, li_309, li_310, ll_0, ll_1, ll_3, ll_5, ll_7, ll_8, ll_9, ll_20, ll_39, ll_40, ll_60, ll_100, ll_120, ll_200, ll_209, ll_300, ll_309, ll_600, ll_1000000000, zI_neg, zI_add, zI_sub, zI_mul, zL_add, zL_sub, zL_mul, zL_neg, zI_suc, zN_I, zI_ofNat, zI_le_t, zI_le_f, zI_lt_t, zI_lt_f, zI_eq_t, zI_eq_f, zL_le_t, zL_le_f, zL_lt_t, zL_lt_f, zL_eq_t, zL_eq_f, zI_cl, zI_L, mI_t, Int.reduceToNat, nt_le_f, nt_le_t, lc_le, lc_lt, lc_gt, lc_eq, zI_div, Int.toNat_natCast, zI_max, zI_min, or_false, false_or, or_true, true_or, not_false_eq_true, not_true_eq_false, ↓reduceIte, and_self, and_true, true_and, and_false, false_and, not_or, gt_iff_lt, ge_iff_le, mBI_rI, mBJ_rJ, mBR_rV, mBR_rR, rZ_0, rZ_1, hS'.1, m_isIn hw hS' hj ht, h, e68, ix, ix2, h66, eo]) (M2, J) ⟨fR.rf, fJ.rf, fun _ _ => rfl, fun _ _ => rfl, fun k hk => absurd hk (Nat.not_lt_zero k), fun k hk => absurd hk (Nat.not_lt_zero k)⟩
  dsimp only at f3 fk3 g3 gk3 r3 rk3
  have hS3 : moH w wh M3 := hS2.fr (fun a h => f3 a (by simp; omega))
  -- fines are kept
  obtain ⟨M4, ⟨f4, g4, r4⟩, e4⟩ := lp_to (α := mMI) (fun N j => k_Model_run_89 (zI t) (zI (j : Int)) N K3) (fun j N => fR [65] M3 N ∧ (∀ i, i < 36 * t → N 65 i = M3 65 i) ∧ ∀ i, i < j → N 65 (36 * t + i) = M3 69 i) 36 (by
    intro j N hj ⟨i1, i2, i3⟩
    have ro := row_s (j := j) (g := fun k => M3 69 k) i2 i3
    refine ⟨mUp N 65 (36 * t + j) (M3 69 j), ⟨i1.tr (fR.up (by simp)), ro.1, ro.2⟩, ?_⟩
    have ix : (36 * (t : Int) + (j : Int)).toNat = 36 * t + j := by omega
    have e69 : N 69 = M3 69 := i1 69 (by simp)
    rw [e_Model_run_89]
    simp (disch := omega) only [Int.reduceEq, Int.reduceLT, Int.reduceLE, Int.reduceAdd, Int.reduceMul, Int.reduceSub, Int.reduceNeg, Int.reduceDiv, li_0, li_1, li_2, li_3, li_4, li_5, li_6, li_7, li_8, li_9, li_10, li_16, li_20, li_22, li_32, li_36, li_39, li_40, li_42, li_48, li_60, li_67, li_69, li_70, li_71, li_76, li_77, li_80, li_83, li_86, li_90, li_100, li_120, li_200, li_209, li_234, li_240, li_255, li_300, li_309, li_310, ll_0, ll_1, ll_3, ll_5, ll_7, ll_8, ll_9, ll_20, ll_39, ll_40, ll_60, ll_100, ll_120, ll_200, ll_209, ll_300, ll_309, ll_600, ll_1000000000, zI_neg, zI_add, zI_sub, zI_mul, zL_add, zL_sub, zL_mul, zL_neg, zI_suc, zN_I, zI_ofNat, zI_le_t, zI_le_f, zI_lt_t, zI_lt_f, zI_eq_t, zI_eq_f, zL_le_t, zL_le_f, zL_lt_t, zL_lt_f, zL_eq_t, zL_eq_f, zI_cl, zI_L, mI_t, Int.reduceToNat, nt_le_f, nt_le_t, lc_le, lc_lt, lc_gt, lc_eq, zI_div, Int.toNat_natCast, zI_max, zI_min, or_false, false_or, or_true, true_or, not_false_eq_true, not_true_eq_false, ↓reduceIte, and_self, and_true, true_and, and_false, false_and, not_or, gt_iff_lt, ge_iff_le, mBI_rI, mBJ_rJ, mBR_rV, mBR_rR, rZ_0, rZ_1, ix, e69]) M3 ⟨fR.rf, fun _ _ => rfl, fun i hi => absurd hi (Nat.not_lt_zero i)⟩
  refine ⟨M4, K3, ?_, ?_, fk3, ?_⟩
  · rw [e_Model_run_2]
    simp (disch := omega) only [Int.reduceEq, Int.reduceLT, Int.reduceLE, Int.reduceAdd, Int.reduceMul, Int.reduceSub, Int.reduceNeg, Int.reduceDiv, li_0, li_1, li_2, li_3, li_4, li_5, li_6, li_7, li_8, li_9, li_10, li_16, li_20, li_22, li_32, li_36, li_39, li_40, li_42, li_48, li_60, li_67, li_69, li_70, li_71, li_76, li_77, li_80, li_83, li_86, li_90, li_100, li_120, li_200, li_209, li_234, li_240, li_255, li_300, li_309, li_310, ll_0, ll_1, ll_3, ll_5, ll_7, ll_8, ll_9, ll_20, ll_39, ll_40, ll_60, ll_100, ll_120, ll_200, ll_209, ll_300, ll_309, ll_600, ll_1000000000, zI_neg, zI_add, zI_sub, zI_mul, zL_add, zL_sub, zL_mul, zL_neg, zI_suc, zN_I, zI_ofNat, zI_le_t, zI_le_f, zI_lt_t, zI_lt_f, zI_eq_t, zI_eq_f, zL_le_t, zL_le_f, zL_lt_t, zL_lt_f, zL_eq_t, zL_eq_f, zI_cl, zI_L, mI_t, Int.reduceToNat, nt_le_f, nt_le_t, lc_le, lc_lt, lc_gt, lc_eq, zI_div, Int.toNat_natCast, zI_max, zI_min, or_false, false_or, or_true, true_or, not_false_eq_true, not_true_eq_false, ↓reduceIte, and_self, and_true, true_and, and_false, false_and, not_or, gt_iff_lt, ge_iff_le, mBI_rI, mBJ_rJ, mBR_rV, mBR_rR, rZ_0, rZ_1]
    refine Eq.trans e1 ?_
    show k_Model_run_7 (zI t) (zI (wN w : Int)) M1 J = _
    rw [e_Model_run_7]
    simp (disch := omega) only [Int.reduceEq, Int.reduceLT, Int.reduceLE, Int.reduceAdd, Int.reduceMul, Int.reduceSub, Int.reduceNeg, Int.reduceDiv, li_0, li_1, li_2, li_3, li_4, li_5, li_6, li_7, li_8, li_9, li_10, li_16, li_20, li_22, li_32, li_36, li_39, li_40, li_42, li_48, li_60, li_67, li_69, li_70, li_71, li_76, li_77, li_80, li_83, li_86, li_90, li_100, li_120, li_200, li_209, li_234, li_240, li_255, li_300, li_309, li_310, ll_0, ll_1, ll_3, ll_5, ll_7, ll_8, ll_9, ll_20, ll_39, ll_40, ll_60, ll_100, ll_120, ll_200, ll_209, ll_300, ll_309, ll_600, ll_1000000000, zI_neg, zI_add, zI_sub, zI_mul, zL_add, zL_sub, zL_mul, zL_neg, zI_suc, zN_I, zI_ofNat, zI_le_t, zI_le_f, zI_lt_t, zI_lt_f, zI_eq_t, zI_eq_f, zL_le_t, zL_le_f, zL_lt_t, zL_lt_f, zL_eq_t, zL_eq_f, zI_cl, zI_L, mI_t, Int.reduceToNat, nt_le_f, nt_le_t, lc_le, lc_lt, lc_gt, lc_eq, zI_div, Int.toNat_natCast, zI_max, zI_min, or_false, false_or, or_true, true_or, not_false_eq_true, not_true_eq_false, ↓reduceIte, and_self, and_true, true_and, and_false, false_and, not_or, gt_iff_lt, ge_iff_le, mBI_rI, mBJ_rJ, mBR_rV, mBR_rR, rZ_0, rZ_1, hS1.1, e2]
    refine Eq.trans e3 ?_
    show k_Model_run_33 (zI t) (zI (wN w : Int)) M3 K3 = _
    rw [e_Model_run_33]
    simp (disch := omega) only [Int.reduceEq, Int.reduceLT, Int.reduceLE, Int.reduceAdd, Int.reduceMul, Int.reduceSub, Int.reduceNeg, Int.reduceDiv, li_0, li_1, li_2, li_3, li_4, li_5, li_6, li_7, li_8, li_9, li_10, li_16, li_20, li_22, li_32, li_36, li_39, li_40, li_42, li_48, li_60, li_67, li_69, li_70, li_71, li_76, li_77, li_80, li_83, li_86, li_90, li_100, li_120, li_200, li_209, li_234, li_240, li_255, li_300, li_309, li_310, ll_0, ll_1, ll_3, ll_5, ll_7, ll_8, ll_9, ll_20, ll_39, ll_40, ll_60, ll_100, ll_120, ll_200, ll_209, ll_300, ll_309, ll_600, ll_1000000000, zI_neg, zI_add, zI_sub, zI_mul, zL_add, zL_sub, zL_mul, zL_neg, zI_suc, zN_I, zI_ofNat, zI_le_t, zI_le_f, zI_lt_t, zI_lt_f, zI_eq_t, zI_eq_f, zL_le_t, zL_le_f, zL_lt_t, zL_lt_f, zL_eq_t, zL_eq_f, zI_cl, zI_L, mI_t, Int.reduceToNat, nt_le_f, nt_le_t, lc_le, lc_lt, lc_gt, lc_eq, zI_div, Int.toNat_natCast, zI_max, zI_min, or_false, false_or, or_true, true_or, not_false_eq_true, not_true_eq_false, ↓reduceIte, and_self, and_true, true_and, and_false, false_and, not_or, gt_iff_lt, ge_iff_le, mBI_rI, mBJ_rJ, mBR_rV, mBR_rR, rZ_0, rZ_1, hS3.1]
    refine Eq.trans e4 ?_
    show k_Model_run_89 (zI t) (zI ((36 : Nat) : Int)) M4 K3 = _
    rw [e_Model_run_89]
    simp (disch := omega) only [Int.reduceEq, Int.reduceLT, Int.reduceLE, Int.reduceAdd, Int.reduceMul, Int.reduceSub, Int.reduceNeg, Int.reduceDiv, li_0, li_1, li_2, li_3, li_4, li_5, li_6, li_7, li_8, li_9, li_10, li_16, li_20, li_22, li_32, li_36, li_39, li_40, li_42, li_48, li_60, li_67, li_69, li_70, li_71, li_76, li_77, li_80, li_83, li_86, li_90, li_100, li_120, li_200, li_209, li_234, li_240, li_255, li_300, li_309, li_310, ll_0, ll_1, ll_3, ll_5, ll_7, ll_8, ll_9, ll_20, ll_39, ll_40, ll_60, ll_100, ll_120, ll_200, ll_209, ll_300, ll_309, ll_600, ll_1000000000, zI_neg, zI_add, zI_sub, zI_mul, zL_add, zL_sub, zL_mul, zL_neg, zI_suc, zN_I, zI_ofNat, zI_le_t, zI_le_f, zI_lt_t, zI_lt_f, zI_eq_t, zI_eq_f, zL_le_t, zL_le_f, zL_lt_t, zL_lt_f, zL_eq_t, zL_eq_f, zI_cl, zI_L, mI_t, Int.reduceToNat, nt_le_f, nt_le_t, lc_le, lc_lt, lc_gt, lc_eq, zI_div, Int.toNat_natCast, zI_max, zI_min, or_false, false_or, or_true, true_or, not_false_eq_true, not_true_eq_false, ↓reduceIte, and_self, and_true, true_and, and_false, false_and, not_or, gt_iff_lt, ge_iff_le, mBI_rI, mBJ_rJ, mBR_rV, mBR_rR, rZ_0, rZ_1]
  · exact (((f1.mono (by unfold mP; simp)).tr (f2.mono (by unfold mP; simp))).tr (f3.mono (by unfold mP; simp))).tr (f4.mono (by unfold mP; simp))
  · intro u hu k hk
    by_cases h : u = t
    · subst h
      refine ⟨?_, fun e he => ?_, rk3 k hk⟩
      · rw [f4 64 (by simp)]; exact r3 k hk
      · rw [show 36 * u + 6 * k + e = 36 * u + (6 * k + e) by omega, r4 _ (by omega), f3 69 (by simp)]
        exact r2 k e hk he
    · have o := hC u (by omega) k hk
      refine ⟨?_, fun e he => ?_, ?_⟩
      · rw [f4 64 (by simp), g3 _ (by omega), f2 64 (by simp), f1 64 (by simp)]
        exact o.1
      · rw [g4 _ (by omega), f3 65 (by simp), f2 65 (by simp), f1 65 (by simp)]
        exact o.2.1 e he
      · rw [gk3 _ (by omega)]
        exact o.2.2
theorem m_run {w : wW} (hw : wOk w) {wh : Nat → Nat} {M : mMI} (hS : moH w wh M) (J : mMJ) : ∃ N K, k_Model_run M J = rV N K ∧ fR mP M N ∧ fJ [66] J K ∧ ruH w 40 N K := by
  simp only [e_Model_run, li_0, li_1, li_2, li_3, li_4, li_5, li_6, li_7, li_8, li_9, li_10, li_16, li_20, li_22, li_32, li_36, li_39, li_40, li_42, li_48, li_60, li_67, li_69, li_70, li_71, li_76, li_77, li_80, li_83, li_86, li_90, li_100, li_120, li_200, li_209, li_234, li_240, li_255, li_300, li_309, li_310, ll_0, ll_1, ll_3, ll_5, ll_7, ll_8, ll_9, ll_20, ll_39, ll_40, ll_60, ll_100, ll_120, ll_200, ll_209, ll_300, ll_309, ll_600, ll_1000000000, zI_neg, zI_add, zI_sub, zI_mul, zL_add, zL_sub, zL_mul, zL_neg, zI_suc, zN_I, zI_ofNat]
  refine lp_Q (α := mMI × mMJ) (fun N j => k_Model_run_2 (zI (j : Int)) N.1 N.2) (fun j N => fR mP M N.1 ∧ fJ [66] J N.2 ∧ ruH w j N.1 N.2) (fun o => ∃ N K, o = rV N K ∧ fR mP M N ∧ fJ [66] J K ∧ ruH w 40 N K) 40 ?_ ?_ (M, J) ⟨fR.rf, fJ.rf, fun t ht => absurd ht (Nat.not_lt_zero t)⟩
  · intro t ⟨N, K⟩ ht ⟨i1, i2, i3⟩
    right
    have hS' : moH w wh N := hS.fr (fun a h => i1 a (by unfold mP; simp; omega))
    obtain ⟨N2, K2, e, f, fk, hC⟩ := m_round hw hS' ht i3
    exact ⟨(N2, K2), ⟨i1.tr f, i2.tr fk, hC⟩, e⟩
  · intro ⟨N, K⟩ ⟨i1, i2, i3⟩
    refine ⟨N, K, ?_, i1, i2, i3⟩
    show k_Model_run_2 (zI ((40 : Nat) : Int)) N K = _
    rw [e_Model_run_2]
    simp (disch := omega) only [Int.reduceEq, Int.reduceLT, Int.reduceLE, Int.reduceAdd, Int.reduceMul, Int.reduceSub, Int.reduceNeg, Int.reduceDiv, li_0, li_1, li_2, li_3, li_4, li_5, li_6, li_7, li_8, li_9, li_10, li_16, li_20, li_22, li_32, li_36, li_39, li_40, li_42, li_48, li_60, li_67, li_69, li_70, li_71, li_76, li_77, li_80, li_83, li_86, li_90, li_100, li_120, li_200, li_209, li_234, li_240, li_255, li_300, li_309, li_310, ll_0, ll_1, ll_3, ll_5, ll_7, ll_8, ll_9, ll_20, ll_39, ll_40, ll_60, ll_100, ll_120, ll_200, ll_209, ll_300, ll_309, ll_600, ll_1000000000, zI_neg, zI_add, zI_sub, zI_mul, zL_add, zL_sub, zL_mul, zL_neg, zI_suc, zN_I, zI_ofNat, zI_le_t, zI_le_f, zI_lt_t, zI_lt_f, zI_eq_t, zI_eq_f, zL_le_t, zL_le_f, zL_lt_t, zL_lt_f, zL_eq_t, zL_eq_f, zI_cl, zI_L, mI_t, Int.reduceToNat, nt_le_f, nt_le_t, lc_le, lc_lt, lc_gt, lc_eq, zI_div, Int.toNat_natCast, zI_max, zI_min, or_false, false_or, or_true, true_or, not_false_eq_true, not_true_eq_false, ↓reduceIte, and_self, and_true, true_and, and_false, false_and, not_or, gt_iff_lt, ge_iff_le, mBI_rI, mBJ_rJ, mBR_rV, mBR_rR, rZ_0, rZ_1]
