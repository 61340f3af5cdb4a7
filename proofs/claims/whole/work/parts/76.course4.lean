/-! THE COURSE, all rounds -/
theorem c_payAll {s : Nat} (hs : s = 7 ∨ s = 21) {w : wW} (hw : wOk w) {M : mMI} (hS : suH s w M) {t : Nat} (ht : t < 40) {p : Nat → Int} (hp : noH s w t p M) (hpb : pOk w p) {q : Nat → Nat → Int} (hq : pvQ s w t q M) (hqb : qOk w q) (hq0 : t = 0 → ∀ k e, q k e = 0) (J : mMJ) : ∃ N, k_Course_payAll s (zI t) M J = rV N J ∧ fR [s + 9] M N ∧ (∀ i, i < 36 * t → N (s + 9) i = M (s + 9) i) ∧ ∀ k e, k < wN w → e < wN w → N (s + 9) (36 * t + 6 * k + e) = zI (pyP w t p q k e) := by
  have hn := hw.1
  simp only [e_Course_payAll s hs, li_0, li_1, li_2, li_3, li_4, li_5, li_6, li_7, li_8, li_9, li_10, li_16, li_20, li_22, li_32, li_36, li_39, li_40, li_42, li_48, li_60, li_67, li_69, li_70, li_71, li_76, li_77, li_80, li_83, li_86, li_90, li_100, li_120, li_200, li_209, li_234, li_240, li_255, li_300, li_309, li_310, ll_0, ll_1, ll_3, ll_5, ll_7, ll_8, ll_9, ll_20, ll_39, ll_40, ll_60, ll_100, ll_120, ll_200, ll_209, ll_300, ll_309, ll_600, ll_1000000000, zI_neg, zI_add, zI_sub, zI_mul, zL_add, zL_sub, zL_mul, zL_neg, zI_suc, zN_I, zI_ofNat]
  refine lp_Q (α := mMI) (fun N j => k_Course_payAll_2 s (zI t) (zI (j : Int)) N J) (fun j N => fR [s + 9] M N ∧ (∀ i, i < 36 * t → N (s + 9) i = M (s + 9) i) ∧ ∀ k e, k < j → e < wN w → N (s + 9) (36 * t + 6 * k + e) = zI (pyP w t p q k e)) (fun o => ∃ N, o = rV N J ∧ fR [s + 9] M N ∧ (∀ i, i < 36 * t → N (s + 9) i = M (s + 9) i) ∧ ∀ k e, k < wN w → e < wN w → N (s + 9) (36 * t + 6 * k + e) = zI (pyP w t p q k e)) (wN w) ?_ ?_ M ⟨fR.rf, fun _ _ => rfl, fun k e hk _ => absurd hk (Nat.not_lt_zero k)⟩
  · intro j N hj ⟨i1, i2, i3⟩
    right
    have hS1 : suH s w N := hS.fr (fun a h1 h2 => i1 a (by simp; omega))
    obtain ⟨N2, ⟨a1, a2, a3, a4⟩, eN⟩ := lp_to (α := mMI) (fun N e => k_Course_payAll_9 s (zI t) (zI (j : Int)) (zI (e : Int)) N J) (fun m N => fR [s + 9] M N ∧ (∀ i, i < 36 * t → N (s + 9) i = M (s + 9) i) ∧ (∀ k e, k < j → e < wN w → N (s + 9) (36 * t + 6 * k + e) = zI (pyP w t p q k e)) ∧ ∀ e, e < m → N (s + 9) (36 * t + 6 * j + e) = zI (pyP w t p q j e)) (wN w) (by
      intro e N he ⟨i1, i2, i3, i4⟩
      have hS' : suH s w N := hS.fr (fun a h1 h2 => i1 a (by simp; omega))
      have hp' : noH s w t p N := hp.fr (i1 _ (by simp)) (i1 _ (by simp))
      have hq' : pvQ s w t q N := fun u hu k e hk he => by rw [i2 _ (by omega)]; exact hq u hu k e hk he
      have ix : (((t : Int) * 6 + (j : Int)) * 6 + (e : Int)).toNat = 36 * t + 6 * j + e := by omega
      refine ⟨mUp N (s + 9) (36 * t + 6 * j + e) (zI (pyP w t p q j e)), ⟨i1.tr (fR.up (by simp)), fun i hi => by rw [up_ne (by omega)]; exact i2 i hi, fun k e2 hk he2 => by rw [up_ne (by omega)]; exact i3 k e2 hk he2, fun e2 he2 => ?_⟩, ?_⟩
      · by_cases h : e2 = e
        · subst h; exact up_at _ _ _ _
        · rw [up_ne (by omega)]; exact i4 e2 (by omega)
      · rw [e_Course_payAll_9 s hs]
        simp (disch := omega) only [Int.reduceEq, Int.reduceLT, Int.reduceLE, Int.reduceAdd, Int.reduceMul, Int.reduceSub, Int.reduceNeg, Int.reduceDiv, li_0, li_1, li_2, li_3, li_4, li_5, li_6, li_7, li_8, li_9, li_10, li_16, li_20, li_22, li_32, li_36, li_39, li_40, li_42, li_48, li_60, li_67, li_69, li_70, li_71, li_76, li_77, li_80, li_83, li_86, li_90, li_100, li_120, li_200, li_209, li_234, li_240, li_255, li_300, li_309, li_310, ll_0, ll_1, ll_3, ll_5, ll_7, ll_8, ll_9, ll_20, ll_39, ll_40, ll_60, ll_100, ll_120, ll_200, ll_209, ll_300, ll_309, ll_600, ll_1000000000, zI_neg, zI_add, zI_sub, zI_mul, zL_add, zL_sub, zL_mul, zL_neg, zI_suc, zN_I, zI_ofNat, zI_le_t, zI_le_f, zI_lt_t, zI_lt_f, zI_eq_t, zI_eq_f, zL_le_t, zL_le_f, zL_lt_t, zL_lt_f, zL_eq_t, zL_eq_f, zI_cl, zI_L, mI_t, Int.reduceToNat, nt_le_f, nt_le_t, lc_le, lc_lt, lc_gt, lc_eq, zI_div, Int.toNat_natCast, zI_max, zI_min, or_false, false_or, or_true, true_or, not_false_eq_true, not_true_eq_false, ↓reduceIte, and_self, and_true, true_and, and_false, false_and, not_or, gt_iff_lt, ge_iff_le, mBI_rI, mBJ_rJ, mBR_rV, mBR_rR, rZ_0, rZ_1, hS'.1, c_due hs hw hS' ht hp' hpb hq' hqb hq0 hj he J, ix]) N ⟨i1, i2, i3, fun e he => absurd he (Nat.not_lt_zero e)⟩
    have hS2 : suH s w N2 := hS.fr (fun a h1 h2 => a1 a (by simp; omega))
    refine ⟨N2, ⟨a1, a2, fun k e hk he => ?_⟩, ?_⟩
    · by_cases h : k = j
      · subst h; exact a4 e he
      · exact a3 k e (by omega) he
    · rw [e_Course_payAll_2 s hs]
      simp (disch := omega) only [Int.reduceEq, Int.reduceLT, Int.reduceLE, Int.reduceAdd, Int.reduceMul, Int.reduceSub, Int.reduceNeg, Int.reduceDiv, li_0, li_1, li_2, li_3, li_4, li_5, li_6, li_7, li_8, li_9, li_10, li_16, li_20, li_22, li_32, li_36, li_39, li_40, li_42, li_48, li_60, li_67, li_69, li_70, li_71, li_76, li_77, li_80, li_83, li_86, li_90, li_100, li_120, li_200, li_209, li_234, li_240, li_255, li_300, li_309, li_310, ll_0, ll_1, ll_3, ll_5, ll_7, ll_8, ll_9, ll_20, ll_39, ll_40, ll_60, ll_100, ll_120, ll_200, ll_209, ll_300, ll_309, ll_600, ll_1000000000, zI_neg, zI_add, zI_sub, zI_mul, zL_add, zL_sub, zL_mul, zL_neg, zI_suc, zN_I, zI_ofNat, zI_le_t, zI_le_f, zI_lt_t, zI_lt_f, zI_eq_t, zI_eq_f, zL_le_t, zL_le_f, zL_lt_t, zL_lt_f, zL_eq_t, zL_eq_f, zI_cl, zI_L, mI_t, Int.reduceToNat, nt_le_f, nt_le_t, lc_le, lc_lt, lc_gt, lc_eq, zI_div, Int.toNat_natCast, zI_max, zI_min, or_false, false_or, or_true, true_or, not_false_eq_true, not_true_eq_false, ↓reduceIte, and_self, and_true, true_and, and_false, false_and, not_or, gt_iff_lt, ge_iff_le, mBI_rI, mBJ_rJ, mBR_rV, mBR_rR, rZ_0, rZ_1, hS1.1]
      refine Eq.trans eN ?_
      show k_Course_payAll_9 s (zI t) (zI (j : Int)) (zI (wN w : Int)) N2 J = _
      rw [e_Course_payAll_9 s hs]
      simp (disch := omega) only [Int.reduceEq, Int.reduceLT, Int.reduceLE, Int.reduceAdd, Int.reduceMul, Int.reduceSub, Int.reduceNeg, Int.reduceDiv, li_0, li_1, li_2, li_3, li_4, li_5, li_6, li_7, li_8, li_9, li_10, li_16, li_20, li_22, li_32, li_36, li_39, li_40, li_42, li_48, li_60, li_67, li_69, li_70, li_71, li_76, li_77, li_80, li_83, li_86, li_90, li_100, li_120, li_200, li_209, li_234, li_240, li_255, li_300, li_309, li_310, ll_0, ll_1, ll_3, ll_5, ll_7, ll_8, ll_9, ll_20, ll_39, ll_40, ll_60, ll_100, ll_120, ll_200, ll_209, ll_300, ll_309, ll_600, ll_1000000000, zI_neg, zI_add, zI_sub, zI_mul, zL_add, zL_sub, zL_mul, zL_neg, zI_suc, zN_I, zI_ofNat, zI_le_t, zI_le_f, zI_lt_t, zI_lt_f, zI_eq_t, zI_eq_f, zL_le_t, zL_le_f, zL_lt_t, zL_lt_f, zL_eq_t, zL_eq_f, zI_cl, zI_L, mI_t, Int.reduceToNat, nt_le_f, nt_le_t, lc_le, lc_lt, lc_gt, lc_eq, zI_div, Int.toNat_natCast, zI_max, zI_min, or_false, false_or, or_true, true_or, not_false_eq_true, not_true_eq_false, ↓reduceIte, and_self, and_true, true_and, and_false, false_and, not_or, gt_iff_lt, ge_iff_le, mBI_rI, mBJ_rJ, mBR_rV, mBR_rR, rZ_0, rZ_1, hS2.1]
  · intro N ⟨i1, i2, i3⟩
    have hS' : suH s w N := hS.fr (fun a h1 h2 => i1 a (by simp; omega))
    refine ⟨N, ?_, i1, i2, i3⟩
    rw [e_Course_payAll_2 s hs]
    simp (disch := omega) only [Int.reduceEq, Int.reduceLT, Int.reduceLE, Int.reduceAdd, Int.reduceMul, Int.reduceSub, Int.reduceNeg, Int.reduceDiv, li_0, li_1, li_2, li_3, li_4, li_5, li_6, li_7, li_8, li_9, li_10, li_16, li_20, li_22, li_32, li_36, li_39, li_40, li_42, li_48, li_60, li_67, li_69, li_70, li_71, li_76, li_77, li_80, li_83, li_86, li_90, li_100, li_120, li_200, li_209, li_234, li_240, li_255, li_300, li_309, li_310, ll_0, ll_1, ll_3, ll_5, ll_7, ll_8, ll_9, ll_20, ll_39, ll_40, ll_60, ll_100, ll_120, ll_200, ll_209, ll_300, ll_309, ll_600, ll_1000000000, zI_neg, zI_add, zI_sub, zI_mul, zL_add, zL_sub, zL_mul, zL_neg, zI_suc, zN_I, zI_ofNat, zI_le_t, zI_le_f, zI_lt_t, zI_lt_f, zI_eq_t, zI_eq_f, zL_le_t, zL_le_f, zL_lt_t, zL_lt_f, zL_eq_t, zL_eq_f, zI_cl, zI_L, mI_t, Int.reduceToNat, nt_le_f, nt_le_t, lc_le, lc_lt, lc_gt, lc_eq, zI_div, Int.toNat_natCast, zI_max, zI_min, or_false, false_or, or_true, true_or, not_false_eq_true, not_true_eq_false, ↓reduceIte, and_self, and_true, true_and, and_false, false_and, not_or, gt_iff_lt, ge_iff_le, mBI_rI, mBJ_rJ, mBR_rV, mBR_rR, rZ_0, rZ_1, hS'.1]
theorem c_settle {s : Nat} (hs : s = 7 ∨ s = 21) {w : wW} (hw : wOk w) {M : mMI} (hS : suH s w M) {t : Nat} (ht : t < 40) (hp : noH s w t (pu w t) M) (hq : ∀ k e, k < wN w → e < wN w → M (s + 9) (36 * t + 6 * k + e) = zI (pa w t k e)) {J : mMJ} (hl : ∀ u, t = u + 1 → ∀ k, k < wN w → M (s + 10) (6 * u + k) = zI (lsV w t k) ∧ J (s + 11) (6 * u + k) = zL (hoV w t k)) : ∃ N K, k_Course_settleAll s (zI t) M J = rV N K ∧ fR [s + 10] M N ∧ fJ [s + 11] J K ∧ (∀ i, i < 6 * t → N (s + 10) i = M (s + 10) i) ∧ (∀ i, i < 6 * t → K (s + 11) i = J (s + 11) i) ∧ (∀ k, k < wN w → N (s + 10) (6 * t + k) = zI (lsV w (t + 1) k)) ∧ (∀ k, k < wN w → K (s + 11) (6 * t + k) = zL (hoV w (t + 1) k)) := by
  have hn := hw.1
  have hpb := pu_bd hw ht
  have hqb := pa_bd hw t
  simp only [e_Course_settleAll s hs, li_0, li_1, li_2, li_3, li_4, li_5, li_6, li_7, li_8, li_9, li_10, li_16, li_20, li_22, li_32, li_36, li_39, li_40, li_42, li_48, li_60, li_67, li_69, li_70, li_71, li_76, li_77, li_80, li_83, li_86, li_90, li_100, li_120, li_200, li_209, li_234, li_240, li_255, li_300, li_309, li_310, ll_0, ll_1, ll_3, ll_5, ll_7, ll_8, ll_9, ll_20, ll_39, ll_40, ll_60, ll_100, ll_120, ll_200, ll_209, ll_300, ll_309, ll_600, ll_1000000000, zI_neg, zI_add, zI_sub, zI_mul, zL_add, zL_sub, zL_mul, zL_neg, zI_suc, zN_I, zI_ofNat]
  refine lp_Q (α := mMI × mMJ) (fun N j => k_Course_settleAll_2 s (zI t) (zI (j : Int)) N.1 N.2) (fun j N => fR [s + 10] M N.1 ∧ fJ [s + 11] J N.2 ∧ (∀ i, i < 6 * t → N.1 (s + 10) i = M (s + 10) i) ∧ (∀ i, i < 6 * t → N.2 (s + 11) i = J (s + 11) i) ∧ (∀ k, k < j → N.1 (s + 10) (6 * t + k) = zI (lsV w (t + 1) k)) ∧ (∀ k, k < j → N.2 (s + 11) (6 * t + k) = zL (hoV w (t + 1) k))) (fun o => ∃ N K, o = rV N K ∧ fR [s + 10] M N ∧ fJ [s + 11] J K ∧ (∀ i, i < 6 * t → N (s + 10) i = M (s + 10) i) ∧ (∀ i, i < 6 * t → K (s + 11) i = J (s + 11) i) ∧ (∀ k, k < wN w → N (s + 10) (6 * t + k) = zI (lsV w (t + 1) k)) ∧ (∀ k, k < wN w → K (s + 11) (6 * t + k) = zL (hoV w (t + 1) k))) (wN w) ?_ ?_ (M, J) ⟨fR.rf, fJ.rf, fun _ _ => rfl, fun _ _ => rfl, fun k hk => absurd hk (Nat.not_lt_zero k), fun k hk => absurd hk (Nat.not_lt_zero k)⟩
  · intro j ⟨N, K⟩ hj ⟨i1, i2, i3, i4, i5, i6⟩
    right
    dsimp only at i1 i2 i3 i4 i5 i6
    have hS' : suH s w N := hS.fr (fun a h1 h2 => i1 a (by simp; omega))
    have hp' : noH s w t (pu w t) N := hp.fr (i1 _ (by simp)) (i1 _ (by simp))
    have hq' : ∀ k e, k < wN w → e < wN w → N (s + 9) (36 * t + 6 * k + e) = zI (pa w t k e) := fun k e hk he => by rw [i1 (s + 9) (by simp)]; exact hq k e hk he
    have ro := row_s (j := j) (g := fun k => zI (lsV w (t + 1) k)) i3 i5
    have roJ := rowJ_s (j := j) (g := fun k => zL (hoV w (t + 1) k)) i4 i6
    refine ⟨(mUp N (s + 10) (6 * t + j) (zI (lsV w (t + 1) j)), mUpJ K (s + 11) (6 * t + j) (zL (hoV w (t + 1) j))), ⟨i1.tr (fR.up (by simp)), i2.tr (fJ.up (by simp)), ro.1, roJ.1, ro.2, roJ.2⟩, ?_⟩
    show k_Course_settleAll_2 s (zI t) (zI (j : Int)) N K = k_Course_settleAll_2 s (zI t) (zI ((j + 1 : Nat) : Int)) _ _
    have ix : ((t : Int) * 6 + (j : Int)).toNat = 6 * t + j := by omega
    have nj := hp'.1 j hj
    have bj := hpb j hj
    have lb := loV_bd hw hqb hj
    have e1 : lsV w (t + 1) j = lsV w t j + (if (t : Int) < wA w 3 j then loV w (pa w t) j else 0) := rfl
    have e2 : hoV w (t + 1) j = hoV w t j + (if (t : Int) < wA w 3 j then geV w t (pu w t) (pa w t) j else 0) := rfl
    have el : wR w 3 * sm (wN w) (fun e => pa w t j e) + wR w 2 * sm (wN w) (fun e => pa w t e j) = loV w (pa w t) j := rfl
    rw [e_Course_settleAll_2 s hs]
    by_cases hi : (t : Int) < wA w 3 j
    · rw [if_pos hi] at nj e1 e2
      have eg : 600 * (wR w 0 - pu w t j) + shV w t (pu w t) - 600 * loV w (pa w t) j = geV w t (pu w t) (pa w t) j := rfl
      have gp := c_gotPot hs hw hS' ht hp' hpb hj hi
      cases t with
      | zero =>
        have z1 : lsV w 0 j = 0 := rfl
        have z2 : hoV w 0 j = 0 := rfl
        rw [z1, Int.zero_add] at e1
        rw [z2, Int.zero_add] at e2
        have pb : ∀ J, k_Course_paidBy s (zI j) (zI 0) N J = rI (zI (sm (wN w) (fun e => pa w 0 j e))) N J := fun J => c_paidBy hs hw hS' ht hq' hj J
        have pt : ∀ J, k_Course_paidToFine s (zI j) (zI 0) N J = rI (zI (sm (wN w) (fun e => pa w 0 e j))) N J := fun J => c_paidTo hs hw hS' ht hq' hj J
        simp (disch := omega) only [Int.reduceEq, Int.reduceLT, Int.reduceLE, Int.reduceAdd, Int.reduceMul, Int.reduceSub, Int.reduceNeg, Int.reduceDiv, li_0, li_1, li_2, li_3, li_4, li_5, li_6, li_7, li_8, li_9, li_10, li_16, li_20, li_22, li_32, li_36, li_39, li_40, li_42, li_48, li_60, li_67, li_69, li_70, li_71, li_76, li_77, li_80, li_83, li_86, li_90, li_100, li_120, li_200, li_209, li_234, li_240, li_255, li_300, li_309, li_310, ll_0, ll_1, ll_3, ll_5, ll_7, ll_8, ll_9, ll_20, ll_39, ll_40, ll_60, ll_100, ll_120, ll_200, ll_209, ll_300, ll_309, ll_600, ll_1000000000, zI_neg, zI_add, zI_sub, zI_mul, zL_add, zL_sub, zL_mul, zL_neg, zI_suc, zN_I, zI_ofNat, zI_le_t, zI_le_f, zI_lt_t, zI_lt_f, zI_eq_t, zI_eq_f, zL_le_t, zL_le_f, zL_lt_t, zL_lt_f, zL_eq_t, zL_eq_f, zI_cl, zI_L, mI_t, Int.reduceToNat, nt_le_f, nt_le_t, lc_le, lc_lt, lc_gt, lc_eq, zI_div, Int.toNat_natCast, zI_max, zI_min, or_false, false_or, or_true, true_or, not_false_eq_true, not_true_eq_false, ↓reduceIte, and_self, and_true, true_and, and_false, false_and, not_or, gt_iff_lt, ge_iff_le, mBI_rI, mBJ_rJ, mBR_rV, mBR_rR, rZ_0, rZ_1, nj, pb, pt, c_loss hs hS', el, gp, e_Course_settleAll_57 s hs, e_Course_settleAll_75 s hs, hS'.1, eg, Int.add_zero, Int.ofNat_zero, ix, e1, e2]
        simp (disch := omega) only [Int.reduceEq, Int.reduceLT, Int.reduceLE, Int.reduceAdd, Int.reduceMul, Int.reduceSub, Int.reduceNeg, Int.reduceDiv, li_0, li_1, li_2, li_3, li_4, li_5, li_6, li_7, li_8, li_9, li_10, li_16, li_20, li_22, li_32, li_36, li_39, li_40, li_42, li_48, li_60, li_67, li_69, li_70, li_71, li_76, li_77, li_80, li_83, li_86, li_90, li_100, li_120, li_200, li_209, li_234, li_240, li_255, li_300, li_309, li_310, ll_0, ll_1, ll_3, ll_5, ll_7, ll_8, ll_9, ll_20, ll_39, ll_40, ll_60, ll_100, ll_120, ll_200, ll_209, ll_300, ll_309, ll_600, ll_1000000000, zI_neg, zI_add, zI_sub, zI_mul, zL_add, zL_sub, zL_mul, zL_neg, zI_suc, zN_I, zI_ofNat, zI_le_t, zI_le_f, zI_lt_t, zI_lt_f, zI_eq_t, zI_eq_f, zL_le_t, zL_le_f, zL_lt_t, zL_lt_f, zL_eq_t, zL_eq_f, zI_cl, zI_L, mI_t, Int.reduceToNat, nt_le_f, nt_le_t, lc_le, lc_lt, lc_gt, lc_eq, zI_div, Int.toNat_natCast, zI_max, zI_min, or_false, false_or, or_true, true_or, not_false_eq_true, not_true_eq_false, ↓reduceIte, and_self, and_true, true_and, and_false, false_and, not_or, gt_iff_lt, ge_iff_le, mBI_rI, mBJ_rJ, mBR_rV, mBR_rR, rZ_0, rZ_1, Int.zero_mul, Int.zero_add, Nat.mul_zero, Nat.zero_add]
      | succ u =>
        have ix2 : ((((u + 1 : Nat) : Int) - 1) * 6 + (j : Int)).toNat = 6 * u + j := by omega
        have h10 : N (s + 10) (6 * u + j) = zI (lsV w (u + 1) j) := by rw [i3 _ (by omega)]; exact (hl u rfl j hj).1
        have h11 : K (s + 11) (6 * u + j) = zL (hoV w (u + 1) j) := by rw [i4 _ (by omega)]; exact (hl u rfl j hj).2
        rw [Int.add_comm] at e1 e2
        simp (disch := omega) only [Int.reduceEq, Int.reduceLT, Int.reduceLE, Int.reduceAdd, Int.reduceMul, Int.reduceSub, Int.reduceNeg, Int.reduceDiv, li_0, li_1, li_2, li_3, li_4, li_5, li_6, li_7, li_8, li_9, li_10, li_16, li_20, li_22, li_32, li_36, li_39, li_40, li_42, li_48, li_60, li_67, li_69, li_70, li_71, li_76, li_77, li_80, li_83, li_86, li_90, li_100, li_120, li_200, li_209, li_234, li_240, li_255, li_300, li_309, li_310, ll_0, ll_1, ll_3, ll_5, ll_7, ll_8, ll_9, ll_20, ll_39, ll_40, ll_60, ll_100, ll_120, ll_200, ll_209, ll_300, ll_309, ll_600, ll_1000000000, zI_neg, zI_add, zI_sub, zI_mul, zL_add, zL_sub, zL_mul, zL_neg, zI_suc, zN_I, zI_ofNat, zI_le_t, zI_le_f, zI_lt_t, zI_lt_f, zI_eq_t, zI_eq_f, zL_le_t, zL_le_f, zL_lt_t, zL_lt_f, zL_eq_t, zL_eq_f, zI_cl, zI_L, mI_t, Int.reduceToNat, nt_le_f, nt_le_t, lc_le, lc_lt, lc_gt, lc_eq, zI_div, Int.toNat_natCast, zI_max, zI_min, or_false, false_or, or_true, true_or, not_false_eq_true, not_true_eq_false, ↓reduceIte, and_self, and_true, true_and, and_false, false_and, not_or, gt_iff_lt, ge_iff_le, mBI_rI, mBJ_rJ, mBR_rV, mBR_rR, rZ_0, rZ_1, nj, c_paidBy hs hw hS' ht hq' hj, c_paidTo hs hw hS' ht hq' hj, c_loss hs hS', el, gp, e_Course_settleAll_57 s hs, e_Course_settleAll_75 s hs, hS'.1, eg, ix, ix2, h10, h11, e1, e2]
    · rw [if_neg hi] at nj e1 e2
      cases t with
      | zero =>
        have z1 : lsV w 0 j = 0 := rfl
        have z2 : hoV w 0 j = 0 := rfl
        rw [z1, Int.zero_add] at e1
        rw [z2, Int.zero_add] at e2
        simp (disch := omega) only [Int.reduceEq, Int.reduceLT, Int.reduceLE, Int.reduceAdd, Int.reduceMul, Int.reduceSub, Int.reduceNeg, Int.reduceDiv, li_0, li_1, li_2, li_3, li_4, li_5, li_6, li_7, li_8, li_9, li_10, li_16, li_20, li_22, li_32, li_36, li_39, li_40, li_42, li_48, li_60, li_67, li_69, li_70, li_71, li_76, li_77, li_80, li_83, li_86, li_90, li_100, li_120, li_200, li_209, li_234, li_240, li_255, li_300, li_309, li_310, ll_0, ll_1, ll_3, ll_5, ll_7, ll_8, ll_9, ll_20, ll_39, ll_40, ll_60, ll_100, ll_120, ll_200, ll_209, ll_300, ll_309, ll_600, ll_1000000000, zI_neg, zI_add, zI_sub, zI_mul, zL_add, zL_sub, zL_mul, zL_neg, zI_suc, zN_I, zI_ofNat, zI_le_t, zI_le_f, zI_lt_t, zI_lt_f, zI_eq_t, zI_eq_f, zL_le_t, zL_le_f, zL_lt_t, zL_lt_f, zL_eq_t, zL_eq_f, zI_cl, zI_L, mI_t, Int.reduceToNat, nt_le_f, nt_le_t, lc_le, lc_lt, lc_gt, lc_eq, zI_div, Int.toNat_natCast, zI_max, zI_min, or_false, false_or, or_true, true_or, not_false_eq_true, not_true_eq_false, ↓reduceIte, and_self, and_true, true_and, and_false, false_and, not_or, gt_iff_lt, ge_iff_le, mBI_rI, mBJ_rJ, mBR_rV, mBR_rR, rZ_0, rZ_1, nj, e_Course_settleAll_57 s hs, e_Course_settleAll_75 s hs, hS'.1, Int.add_zero, Int.ofNat_zero, ix, e1, e2]
        simp (disch := omega) only [Int.reduceEq, Int.reduceLT, Int.reduceLE, Int.reduceAdd, Int.reduceMul, Int.reduceSub, Int.reduceNeg, Int.reduceDiv, li_0, li_1, li_2, li_3, li_4, li_5, li_6, li_7, li_8, li_9, li_10, li_16, li_20, li_22, li_32, li_36, li_39, li_40, li_42, li_48, li_60, li_67, li_69, li_70, li_71, li_76, li_77, li_80, li_83, li_86, li_90, li_100, li_120, li_200, li_209, li_234, li_240, li_255, li_300, li_309, li_310, ll_0, ll_1, ll_3, ll_5, ll_7, ll_8, ll_9, ll_20, ll_39, ll_40, ll_60, ll_100, ll_120, ll_200, ll_209, ll_300, ll_309, ll_600, ll_1000000000, zI_neg, zI_add, zI_sub, zI_mul, zL_add, zL_sub, zL_mul, zL_neg, zI_suc, zN_I, zI_ofNat, zI_le_t, zI_le_f, zI_lt_t, zI_lt_f, zI_eq_t, zI_eq_f, zL_le_t, zL_le_f, zL_lt_t, zL_lt_f, zL_eq_t, zL_eq_f, zI_cl, zI_L, mI_t, Int.reduceToNat, nt_le_f, nt_le_t, lc_le, lc_lt, lc_gt, lc_eq, zI_div, Int.toNat_natCast, zI_max, zI_min, or_false, false_or, or_true, true_or, not_false_eq_true, not_true_eq_false, ↓reduceIte, and_self, and_true, true_and, and_false, false_and, not_or, gt_iff_lt, ge_iff_le, mBI_rI, mBJ_rJ, mBR_rV, mBR_rR, rZ_0, rZ_1, Int.zero_mul, Int.zero_add, Nat.mul_zero, Nat.zero_add]
      | succ u =>
        have ix2 : ((((u + 1 : Nat) : Int) - 1) * 6 + (j : Int)).toNat = 6 * u + j := by omega
        have h10 : N (s + 10) (6 * u + j) = zI (lsV w (u + 1) j) := by rw [i3 _ (by omega)]; exact (hl u rfl j hj).1
        have h11 : K (s + 11) (6 * u + j) = zL (hoV w (u + 1) j) := by rw [i4 _ (by omega)]; exact (hl u rfl j hj).2
        rw [Int.add_comm] at e1 e2
        simp (disch := omega) only [Int.reduceEq, Int.reduceLT, Int.reduceLE, Int.reduceAdd, Int.reduceMul, Int.reduceSub, Int.reduceNeg, Int.reduceDiv, li_0, li_1, li_2, li_3, li_4, li_5, li_6, li_7, li_8, li_9, li_10, li_16, li_20, li_22, li_32, li_36, li_39, li_40, li_42, li_48, li_60, li_67, li_69, li_70, li_71, li_76, li_77, li_80, li_83, li_86, li_90, li_100, li_120, li_200, li_209, li_234, li_240, li_255, li_300, li_309, li_310, ll_0, ll_1, ll_3, ll_5, ll_7, ll_8, ll_9, ll_20, ll_39, ll_40, ll_60, ll_100, ll_120, ll_200, ll_209, ll_300, ll_309, ll_600, ll_1000000000, zI_neg, zI_add, zI_sub, zI_mul, zL_add, zL_sub, zL_mul, zL_neg, zI_suc, zN_I, zI_ofNat, zI_le_t, zI_le_f, zI_lt_t, zI_lt_f, zI_eq_t, zI_eq_f, zL_le_t, zL_le_f, zL_lt_t, zL_lt_f, zL_eq_t, zL_eq_f, zI_cl, zI_L, mI_t, Int.reduceToNat, nt_le_f, nt_le_t, lc_le, lc_lt, lc_gt, lc_eq, zI_div, Int.toNat_natCast, zI_max, zI_min, or_false, false_or, or_true, true_or, not_false_eq_true, not_true_eq_false, ↓reduceIte, and_self, and_true, true_and, and_false, false_and, not_or, gt_iff_lt, ge_iff_le, mBI_rI, mBJ_rJ, mBR_rV, mBR_rR, rZ_0, rZ_1, nj, e_Course_settleAll_57 s hs, e_Course_settleAll_75 s hs, hS'.1, ix, ix2, h10, h11, e1, e2]
  · intro ⟨N, K⟩ ⟨i1, i2, i3, i4, i5, i6⟩
    have hS' : suH s w N := hS.fr (fun a h1 h2 => i1 a (by simp; omega))
    refine ⟨N, K, ?_, i1, i2, i3, i4, i5, i6⟩
    show k_Course_settleAll_2 s (zI t) (zI (wN w : Int)) N K = _
    rw [e_Course_settleAll_2 s hs]
    simp (disch := omega) only [Int.reduceEq, Int.reduceLT, Int.reduceLE, Int.reduceAdd, Int.reduceMul, Int.reduceSub, Int.reduceNeg, Int.reduceDiv, li_0, li_1, li_2, li_3, li_4, li_5, li_6, li_7, li_8, li_9, li_10, li_16, li_20, li_22, li_32, li_36, li_39, li_40, li_42, li_48, li_60, li_67, li_69, li_70, li_71, li_76, li_77, li_80, li_83, li_86, li_90, li_100, li_120, li_200, li_209, li_234, li_240, li_255, li_300, li_309, li_310, ll_0, ll_1, ll_3, ll_5, ll_7, ll_8, ll_9, ll_20, ll_39, ll_40, ll_60, ll_100, ll_120, ll_200, ll_209, ll_300, ll_309, ll_600, ll_1000000000, zI_neg, zI_add, zI_sub, zI_mul, zL_add, zL_sub, zL_mul, zL_neg, zI_suc, zN_I, zI_ofNat, zI_le_t, zI_le_f, zI_lt_t, zI_lt_f, zI_eq_t, zI_eq_f, zL_le_t, zL_le_f, zL_lt_t, zL_lt_f, zL_eq_t, zL_eq_f, zI_cl, zI_L, mI_t, Int.reduceToNat, nt_le_f, nt_le_t, lc_le, lc_lt, lc_gt, lc_eq, zI_div, Int.toNat_natCast, zI_max, zI_min, or_false, false_or, or_true, true_or, not_false_eq_true, not_true_eq_false, ↓reduceIte, and_self, and_true, true_and, and_false, false_and, not_or, gt_iff_lt, ge_iff_le, mBI_rI, mBJ_rJ, mBR_rV, mBR_rR, rZ_0, rZ_1, hS'.1]
/-- m rounds are run at s -/
def coH (s : Nat) (w : wW) (m : Nat) (M : mMI) (J : mMJ) : Prop := ∀ t, t < m → (∀ k, k < wN w → M (s + 8) (6 * t + k) = zI (if (t : Int) < wA w 3 k then pu w t k else -9) ∧ (∀ e, e < wN w → M (s + 9) (36 * t + 6 * k + e) = zI (pa w t k e)) ∧ M (s + 10) (6 * t + k) = zI (lsV w (t + 1) k) ∧ J (s + 11) (6 * t + k) = zL (hoV w (t + 1) k)) ∧ M (s + 12) t = zI (poV w t (pu w t))
/-- the places that a course writes -/
def cP (s : Nat) : List Nat := [s + 7, s + 8, s + 9, s + 10, s + 12, s + 13]
theorem upP_9 (p : Nat → Int) (v : Int) : upP p (-9) v = p := by
  funext e
  exact if_neg (by omega)
theorem c_round {s : Nat} (hs : s = 7 ∨ s = 21) {w : wW} (hw : wOk w) {M : mMI} {J : mMJ} (hS : suH s w M) {t : Nat} (ht : t < 40) (hC : coH s w t M J) : ∃ N K, k_Course_runAll_2 s (zI t) M J = k_Course_runAll_2 s (zI ((t + 1 : Nat) : Int)) N K ∧ fR (cP s) M N ∧ fJ [s + 11] J K ∧ coH s w (t + 1) N K := by
  have hn := hw.1
  have q2 := St_2 hw t
  have hp1 : pvP s w t (St w t).1 M := by
    intro u hu e he hi
    subst hu
    have := ((hC u (by omega)).1 e he).1
    rw [if_pos hi] at this
    exact this
  have hq1 : pvQ s w t (St w t).2 M := by
    intro u hu k e hk he
    subst hu
    exact ((hC u (by omega)).1 k hk).2.1 e he
  obtain ⟨M1, e1, f1, g1, r1⟩ := c_putAll hs hw hS ht hp1 (St_1 hw (by omega)) hq1 q2 (fun h k e => St_F h t k e) J
  have hS1 : suH s w M1 := hS.fr (fun a h1 h2 => f1 a (by simp; omega))
  obtain ⟨M2, e2, f2, h2⟩ := c_lookAt hs hw hS1 ht (p := pu w t) r1 (pu_bd hw ht) (a := -9) (v := 0) (Or.inl rfl) (by omega) (by omega) J
  rw [upP_9] at h2
  have hS2 : suH s w M2 := hS1.fr (fun a h1 h2 => f2 a (by simp; omega))
  have hS3 : suH s w (mUp M2 (s + 12) t (zI (poV w t (pu w t)))) := hS2.fr (fun a h1 h2 => up_nk (by omega))
  have h3 : noH s w t (pu w t) (mUp M2 (s + 12) t (zI (poV w t (pu w t)))) := h2.fr (up_nk (by omega)) (up_nk (by omega))
  have hq3 : pvQ s w t (St w t).2 (mUp M2 (s + 12) t (zI (poV w t (pu w t)))) := by
    intro u hu k e hk he
    rw [up_nk (by omega), f2 (s + 9) (by simp), f1 (s + 9) (by simp)]
    exact hq1 u hu k e hk he
  obtain ⟨M4, e4, f4, g4, r4⟩ := c_payAll hs hw hS3 ht h3 (pu_bd hw ht) hq3 q2 (fun h k e => by subst h; rfl) J
  have hS4 : suH s w M4 := hS3.fr (fun a h1 h2 => f4 a (by simp; omega))
  have h4 : noH s w t (pu w t) M4 := h3.fr (f4 _ (by simp)) (f4 _ (by simp))
  obtain ⟨M5, K5, e5, f5, fk5, g5, gk5, r5, rk5⟩ := c_settle hs hw hS4 ht h4 r4 (J := J) (by
    intro u hu k hk
    subst hu
    have := (hC u (by omega)).1 k hk
    rw [f4 (s + 10) (by simp), up_nk (by omega), f2 (s + 10) (by simp), f1 (s + 10) (by simp)]
    exact ⟨this.2.2.1, this.2.2.2⟩)
  refine ⟨M5, K5, ?_, ?_, fk5, ?_⟩
  · rw [e_Course_runAll_2 s hs]
    simp (disch := omega) only [Int.reduceEq, Int.reduceLT, Int.reduceLE, Int.reduceAdd, Int.reduceMul, Int.reduceSub, Int.reduceNeg, Int.reduceDiv, li_0, li_1, li_2, li_3, li_4, li_5, li_6, li_7, li_8, li_9, li_10, li_16, li_20, li_22, li_32, li_36, li_39, li_40, li_42, li_48, li_60, li_67, li_69, li_70, li_71, li_76, li_77, li_80, li_83, li_86, li_90, li_100, li_120, li_200, li_209, li_234, li_240, li_255, li_300, li_309, li_310, ll_0, ll_1, ll_3, ll_5, ll_7, ll_8, ll_9, ll_20, ll_39, ll_40, ll_60, ll_100, ll_120, ll_200, ll_209, ll_300, ll_309, ll_600, ll_1000000000, zI_neg, zI_add, zI_sub, zI_mul, zL_add, zL_sub, zL_mul, zL_neg, zI_suc, zN_I, zI_ofNat, zI_le_t, zI_le_f, zI_lt_t, zI_lt_f, zI_eq_t, zI_eq_f, zL_le_t, zL_le_f, zL_lt_t, zL_lt_f, zL_eq_t, zL_eq_f, zI_cl, zI_L, mI_t, Int.reduceToNat, nt_le_f, nt_le_t, lc_le, lc_lt, lc_gt, lc_eq, zI_div, Int.toNat_natCast, zI_max, zI_min, or_false, false_or, or_true, true_or, not_false_eq_true, not_true_eq_false, ↓reduceIte, and_self, and_true, true_and, and_false, false_and, not_or, gt_iff_lt, ge_iff_le, mBI_rI, mBJ_rJ, mBR_rV, mBR_rR, rZ_0, rZ_1, e1, e2, h2.2.1, e4, e5]
  · exact (((f1.mono (by unfold cP; simp)).tr (f2.mono (by unfold cP; simp))).tr (fR.up (by unfold cP; simp))).tr ((f4.mono (by unfold cP; simp)).tr (f5.mono (by unfold cP; simp)))
  · intro u hu
    by_cases h : u = t
    · subst h
      refine ⟨fun k hk => ⟨?_, fun e he => ?_, r5 k hk, rk5 k hk⟩, ?_⟩
      · rw [f5 (s + 8) (by simp), f4 (s + 8) (by simp), up_nk (by omega), f2 (s + 8) (by simp)]
        exact r1 k hk
      · rw [f5 (s + 9) (by simp)]
        exact r4 k e hk he
      · rw [f5 (s + 12) (by simp), f4 (s + 12) (by simp), up_at]
    · have hu' : u < t := by omega
      have o := hC u hu'
      refine ⟨fun k hk => ⟨?_, fun e he => ?_, ?_, ?_⟩, ?_⟩
      · rw [f5 (s + 8) (by simp), f4 (s + 8) (by simp), up_nk (by omega), f2 (s + 8) (by simp), g1 _ (by omega)]
        exact (o.1 k hk).1
      · rw [f5 (s + 9) (by simp), g4 _ (by omega), up_nk (by omega), f2 (s + 9) (by simp), f1 (s + 9) (by simp)]
        exact (o.1 k hk).2.1 e he
      · rw [g5 _ (by omega), f4 (s + 10) (by simp), up_nk (by omega), f2 (s + 10) (by simp), f1 (s + 10) (by simp)]
        exact (o.1 k hk).2.2.1
      · rw [gk5 _ (by omega)]
        exact (o.1 k hk).2.2.2
      · rw [f5 (s + 12) (by simp), f4 (s + 12) (by simp), up_ne h, f2 (s + 12) (by simp), f1 (s + 12) (by simp)]
        exact o.2
theorem c_runAll {s : Nat} (hs : s = 7 ∨ s = 21) {w : wW} (hw : wOk w) {M : mMI} (hS : suH s w M) (J : mMJ) : ∃ N K, k_Course_runAll s M J = rV N K ∧ fR (cP s) M N ∧ fJ [s + 11] J K ∧ coH s w 40 N K := by
  simp only [e_Course_runAll s hs, li_0, li_1, li_2, li_3, li_4, li_5, li_6, li_7, li_8, li_9, li_10, li_16, li_20, li_22, li_32, li_36, li_39, li_40, li_42, li_48, li_60, li_67, li_69, li_70, li_71, li_76, li_77, li_80, li_83, li_86, li_90, li_100, li_120, li_200, li_209, li_234, li_240, li_255, li_300, li_309, li_310, ll_0, ll_1, ll_3, ll_5, ll_7, ll_8, ll_9, ll_20, ll_39, ll_40, ll_60, ll_100, ll_120, ll_200, ll_209, ll_300, ll_309, ll_600, ll_1000000000, zI_neg, zI_add, zI_sub, zI_mul, zL_add, zL_sub, zL_mul, zL_neg, zI_suc, zN_I, zI_ofNat]
  refine lp_Q (α := mMI × mMJ) (fun N j => k_Course_runAll_2 s (zI (j : Int)) N.1 N.2) (fun j N => fR (cP s) M N.1 ∧ fJ [s + 11] J N.2 ∧ coH s w j N.1 N.2) (fun o => ∃ N K, o = rV N K ∧ fR (cP s) M N ∧ fJ [s + 11] J K ∧ coH s w 40 N K) 40 ?_ ?_ (M, J) ⟨fR.rf, fJ.rf, fun t ht => absurd ht (Nat.not_lt_zero t)⟩
  · intro t ⟨N, K⟩ ht ⟨i1, i2, i3⟩
    right
    have hS' : suH s w N := hS.fr (fun a h1 h2 => i1 a (by unfold cP; simp; omega))
    obtain ⟨N2, K2, e, f, fk, hC⟩ := c_round hs hw hS' ht i3
    exact ⟨(N2, K2), ⟨i1.tr f, i2.tr fk, hC⟩, e⟩
  · intro ⟨N, K⟩ ⟨i1, i2, i3⟩
    refine ⟨N, K, ?_, i1, i2, i3⟩
    show k_Course_runAll_2 s (zI ((40 : Nat) : Int)) N K = _
    rw [e_Course_runAll_2 s hs]
    simp (disch := omega) only [Int.reduceEq, Int.reduceLT, Int.reduceLE, Int.reduceAdd, Int.reduceMul, Int.reduceSub, Int.reduceNeg, Int.reduceDiv, li_0, li_1, li_2, li_3, li_4, li_5, li_6, li_7, li_8, li_9, li_10, li_16, li_20, li_22, li_32, li_36, li_39, li_40, li_42, li_48, li_60, li_67, li_69, li_70, li_71, li_76, li_77, li_80, li_83, li_86, li_90, li_100, li_120, li_200, li_209, li_234, li_240, li_255, li_300, li_309, li_310, ll_0, ll_1, ll_3, ll_5, ll_7, ll_8, ll_9, ll_20, ll_39, ll_40, ll_60, ll_100, ll_120, ll_200, ll_209, ll_300, ll_309, ll_600, ll_1000000000, zI_neg, zI_add, zI_sub, zI_mul, zL_add, zL_sub, zL_mul, zL_neg, zI_suc, zN_I, zI_ofNat, zI_le_t, zI_le_f, zI_lt_t, zI_lt_f, zI_eq_t, zI_eq_f, zL_le_t, zL_le_f, zL_lt_t, zL_lt_f, zL_eq_t, zL_eq_f, zI_cl, zI_L, mI_t, Int.reduceToNat, nt_le_f, nt_le_t, lc_le, lc_lt, lc_gt, lc_eq, zI_div, Int.toNat_natCast, zI_max, zI_min, or_false, false_or, or_true, true_or, not_false_eq_true, not_true_eq_false, ↓reduceIte, and_self, and_true, true_and, and_false, false_and, not_or, gt_iff_lt, ge_iff_le, mBI_rI, mBJ_rJ, mBR_rV, mBR_rR, rZ_0, rZ_1]
