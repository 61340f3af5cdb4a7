/-! trial rounds: with another fine -/
theorem CI.tri {y : sS} {M N : mMI} {J K : mMJ} (h : CI y M J) (hf : ∀ p, p < 21 ∨ 35 ≤ p → N p = M p) (hj : ∀ p, p ≠ 32 → K p = J p) : CI y N K := by
  refine h.co (by rw [hf 1 (by omega)]) (fun p hp => hf p (by omega)) ?_
  unfold crH
  rw [hf 0 (by omega)]
  rcases h.2.2.2.2.2 with a6 | a6
  · exact Or.inl a6
  · exact Or.inr ⟨a6.1, a6.2.fr (hf _ (by omega)) (hf _ (by omega)) (hf _ (by omega)) (hf _ (by omega)) (hj _ (by omega))⟩
theorem c_take {y : sS} (hy : yOk y) {M : mMI} {J : mMJ} (h : CI y M J) : ∃ N, k_Setup_takeFrom M J = rV N J ∧ fR [21, 22, 23, 24, 25, 26, 27] M N ∧ sbH 21 (yR y) (yN y) (yA y) (yT y) (yO y) N := by
  obtain ⟨b1, b2, b3, b4, b5⟩ := h.2.2.1
  have hn := hy.2.1.1
  refine ⟨mUp (mSet (mSet (mSet (mSet (mSet (mSet M 22 (va_cpy (M 8) (M 22) 0 0 4)) 23 (va_cpy (M 9) (M 23) 0 0 6)) 24 (va_cpy (M 10) (M 24) 0 0 6)) 25 (va_cpy (M 11) (M 25) 0 0 6)) 26 (va_cpy (M 12) (M 26) 0 0 240)) 27 (va_cpy (M 13) (M 27) 0 0 6)) 21 1 (M 7 1), ?_, ?_, ?_, fun j hj => ?_, fun k hk => ⟨?_, ?_, ?_⟩, fun k hk => ?_, fun k t hk ht => ?_⟩
  · rw [e_Setup_takeFrom]
    simp (disch := omega) only [Int.reduceEq, Int.reduceLT, Int.reduceLE, Int.reduceAdd, Int.reduceMul, Int.reduceSub, Int.reduceNeg, Int.reduceDiv, li_0, li_1, li_2, li_3, li_4, li_5, li_6, li_7, li_8, li_9, li_10, li_16, li_20, li_22, li_32, li_36, li_39, li_40, li_42, li_48, li_60, li_67, li_69, li_70, li_71, li_76, li_77, li_80, li_83, li_86, li_90, li_100, li_120, li_200, li_209, li_234, li_240, li_255, li_300, li_309, li_310, ll_0, ll_1, ll_3, ll_5, ll_7, ll_8, ll_9, ll_20, ll_39, ll_40, ll_60, ll_100, ll_120, ll_200, ll_209, ll_300, ll_309, ll_600, ll_1000000000, zI_neg, zI_add, zI_sub, zI_mul, zL_add, zL_sub, zL_mul, zL_neg, zI_suc, zN_I, zI_ofNat, zI_le_t, zI_le_f, zI_lt_t, zI_lt_f, zI_eq_t, zI_eq_f, zL_le_t, zL_le_f, zL_lt_t, zL_lt_f, zL_eq_t, zL_eq_f, zI_cl, zI_L, mI_t, Int.reduceToNat, nt_le_f, nt_le_t, lc_le, lc_lt, lc_gt, lc_eq, zI_div, Int.toNat_natCast, zI_max, zI_min, or_false, false_or, or_true, true_or, not_false_eq_true, not_true_eq_false, ↓reduceIte, and_self, and_true, true_and, and_false, false_and, not_or, gt_iff_lt, ge_iff_le, mBI_rI, mBJ_rJ, mBR_rV, mBR_rR, rZ_0, rZ_1, set_nk]
  · exact (((((((fR.set (by simp)).tr (fR.set (by simp))).tr (fR.set (by simp))).tr (fR.set (by simp))).tr (fR.set (by simp))).tr (fR.set (by simp))).tr (fR.up (by simp)))
  · rw [up_at]; exact b1
  · rw [up_nk (by omega), set_nk (by omega), set_nk (by omega), set_nk (by omega), set_nk (by omega), set_nk (by omega), set_at, cpy_at (by omega)]
    exact b2 j hj
  · rw [up_nk (by omega), set_nk (by omega), set_nk (by omega), set_nk (by omega), set_nk (by omega), set_at, cpy_at (by omega)]
    exact (b3 k hk).1
  · rw [up_nk (by omega), set_nk (by omega), set_nk (by omega), set_nk (by omega), set_at, cpy_at (by omega)]
    exact (b3 k hk).2.1
  · rw [up_nk (by omega), set_nk (by omega), set_nk (by omega), set_at, cpy_at (by omega)]
    exact (b3 k hk).2.2
  · rw [up_nk (by omega), set_at, cpy_at (by omega)]
    exact b4 k hk
  · rw [up_nk (by omega), set_nk (by omega), set_at, cpy_at (by omega)]
    exact b5 k t hk ht
/-- the trial's course is run over another base -/
theorem c_trial {R : Nat → Int} {n : Nat} {A T : Nat → Nat → Int} {O : Nat → Int} {N : mMI} (h : sbH 21 R n A T O N) (h1 : okRA R n A) (h2 : okTO n T O) (J : mMJ) : ∃ N2 K, k_Course_runAll 21 N J = rV N2 K ∧ (∀ p, p < 28 ∨ 35 ≤ p → N2 p = N p) ∧ (∀ p, p ≠ 32 → K p = J p) ∧ suH 21 (mkW R n A T O) N2 ∧ coH 21 (mkW R n A T O) 40 N2 K := by
  have hS := h.su h1 h2
  obtain ⟨N2, K, e, f, fk, hC⟩ := c_runAll (s := 21) (Or.inr rfl) (wOk_mk h1 h2) hS J
  have fr : ∀ p, p < 28 ∨ 35 ≤ p → N2 p = N p := fun p hp => f p (by unfold cP; simp; omega)
  exact ⟨N2, K, e, fr, fun p hp => fk p (by simp; omega), hS.fr (fun p _ _ => fr p (by omega)), hC⟩
def wF (y : sS) (f : Int) : wW := mkW (upO (yR y) 2 f) (yN y) (yA y) (yT y) (yO y)
theorem P_ranF {y : sS} (hy : yOk y) {M : mMI} {J : mMJ} (h : CI y M J) {f : Int} (hf : 0 ≤ f ∧ f ≤ 9) : ∃ N K, k_Pot_ranWithFine (zI f) M J = rR 28 N K ∧ cO1 y M J N K ∧ (∀ p, p < 21 → N p = M p) ∧ (∀ p, p ≠ 32 → K p = J p) ∧ suH 21 (wF y f) N ∧ coH 21 (wF y f) 40 N K := by
  obtain ⟨N1, e1, f1, s1⟩ := c_take hy h
  have s2 : sbH 21 (upO (yR y) 2 f) (yN y) (yA y) (yT y) (yO y) (mUp N1 22 2 (zI f)) := by
    obtain ⟨b1, b2, b3, b4, b5⟩ := s1
    refine ⟨?_, fun j hj => ?_, ?_, ?_, ?_⟩
    · rw [up_nk (by omega)]; exact b1
    · unfold upO
      by_cases hc : j = 2
      · rw [if_pos hc, hc]; exact up_at _ _ _ _
      · rw [if_neg hc]
        show mUp N1 22 2 (zI f) 22 j = _
        rw [up_ne hc]
        exact b2 j hj
    · rw [up_nk (by omega), up_nk (by omega), up_nk (by omega)]; exact b3
    · rw [up_nk (by omega)]; exact b4
    · rw [up_nk (by omega)]; exact b5
  obtain ⟨N2, K, e2, f2, fk, hs, hC⟩ := c_trial s2 (okRA_f hy.2.1 hf) hy.2.2.1 J
  have fr : ∀ p, p < 21 ∨ 35 ≤ p → N2 p = M p := fun p hp => by rw [f2 p (by omega), up_nk (by omega), f1 p (by simp; omega)]
  refine ⟨N2, K, ?_, ⟨h.tri fr fk, fun p hp => fr p (by omega), fun p hp => fk p (by omega)⟩, fun p hp => fr p (by omega), fk, hs, hC⟩
  rw [e_Pot_ranWithFine]
  simp (disch := omega) only [Int.reduceEq, Int.reduceLT, Int.reduceLE, Int.reduceAdd, Int.reduceMul, Int.reduceSub, Int.reduceNeg, Int.reduceDiv, li_0, li_1, li_2, li_3, li_4, li_5, li_6, li_7, li_8, li_9, li_10, li_16, li_20, li_22, li_32, li_36, li_39, li_40, li_42, li_48, li_60, li_67, li_69, li_70, li_71, li_76, li_77, li_80, li_83, li_86, li_90, li_100, li_120, li_200, li_209, li_234, li_240, li_255, li_300, li_309, li_310, ll_0, ll_1, ll_3, ll_5, ll_7, ll_8, ll_9, ll_20, ll_39, ll_40, ll_60, ll_100, ll_120, ll_200, ll_209, ll_300, ll_309, ll_600, ll_1000000000, zI_neg, zI_add, zI_sub, zI_mul, zL_add, zL_sub, zL_mul, zL_neg, zI_suc, zN_I, zI_ofNat, zI_le_t, zI_le_f, zI_lt_t, zI_lt_f, zI_eq_t, zI_eq_f, zL_le_t, zL_le_f, zL_lt_t, zL_lt_f, zL_eq_t, zL_eq_f, zI_cl, zI_L, mI_t, Int.reduceToNat, nt_le_f, nt_le_t, lc_le, lc_lt, lc_gt, lc_eq, zI_div, Int.toNat_natCast, zI_max, zI_min, or_false, false_or, or_true, true_or, not_false_eq_true, not_true_eq_false, ↓reduceIte, and_self, and_true, true_and, and_false, false_and, not_or, gt_iff_lt, ge_iff_le, mBI_rI, mBJ_rJ, mBR_rV, mBR_rR, rZ_0, rZ_1, e1, e2]
theorem R_both {y : sS} (hy : yOk y) {M : mMI} (h : MI y M) (J : mMJ) : ∃ N K, k_Model_runBoth M J = rV N K ∧ mO1 y M J N K ∧ moH (wd y) (fun k => k) N ∧ ruH (wd y) 40 N K ∧ (∀ t k, t < 40 → k < yN y → K 67 (6 * t + k) = zL (hoV (wF y 0) (t + 1) k)) := by
  have hn := hy.2.1.1
  have r2 := h.2.1.2.1 2 (by omega)
  have s2 : mbH (upO (yR y) 2 0) (yN y) (yA y) (yT y) (yO y) (mUp M 48 2 (zI 0)) := by
    obtain ⟨b1, b2, b3, b4, b5⟩ := h.2.1
    refine ⟨?_, fun j hj => ?_, ?_, ?_, ?_⟩
    · rw [up_nk (by omega)]; exact b1
    · unfold upO
      by_cases hc : j = 2
      · rw [if_pos hc, hc]; exact up_at _ _ _ _
      · rw [if_neg hc, up_ne hc]
        exact b2 j hj
    · rw [up_nk (by omega), up_nk (by omega), up_nk (by omega)]; exact b3
    · rw [up_nk (by omega)]; exact b4
    · rw [up_nk (by omega)]; exact b5
  obtain ⟨N1, K1, e1, f1, f46, fk1, hm1, hr1⟩ := m_runAll s2 (okRA_f hy.2.1 ⟨by omega, by omega⟩) hy.2.2.1 J
  have h2 : MI y (mUp N1 48 2 (zI (yR y 2))) := by
    obtain ⟨a1, a2, a3, a4⟩ := h
    have g : ∀ p, p ≠ 48 → p ≠ 46 → p ≠ 63 → p ≠ 64 → p ≠ 65 → p ≠ 68 → p ≠ 69 → mUp N1 48 2 (zI (yR y 2)) p = M p := by
      intro p q1 q2 q3 q4 q5 q6 q7
      rw [up_nk q1, f1 p (by simp; omega), up_nk q1]
    have g46 : ∀ i, i ≠ 23 → i ≠ 24 → mUp N1 48 2 (zI (yR y 2)) 46 i = M 46 i := by
      intro i q1 q2
      rw [up_nk (by omega), f46 i q1 q2, up_nk (by omega)]
    refine ⟨a1.fr (g46 2 (by omega) (by omega)) (g 47 (by omega) (by omega) (by omega) (by omega) (by omega) (by omega) (by omega)), ?_, ?_, a4.fr (fun p _ _ => g p (by omega) (by omega) (by omega) (by omega) (by omega) (by omega) (by omega))⟩
    · obtain ⟨b1, b2, b3, b4, b5⟩ := a2
      refine ⟨?_, fun j hj => ?_, ?_, ?_, ?_⟩
      · rw [g46 7 (by omega) (by omega)]; exact b1
      · by_cases hc : j = 2
        · rw [hc]; exact up_at _ _ _ _
        · rw [up_ne hc, f1 48 (by simp), up_ne hc]
          exact b2 j hj
      · rw [g 50 (by omega) (by omega) (by omega) (by omega) (by omega) (by omega) (by omega), g 51 (by omega) (by omega) (by omega) (by omega) (by omega) (by omega) (by omega), g 52 (by omega) (by omega) (by omega) (by omega) (by omega) (by omega) (by omega)]; exact b3
      · rw [g 57 (by omega) (by omega) (by omega) (by omega) (by omega) (by omega) (by omega)]; exact b4
      · rw [g 56 (by omega) (by omega) (by omega) (by omega) (by omega) (by omega) (by omega)]; exact b5
    · rw [g 62 (by omega) (by omega) (by omega) (by omega) (by omega) (by omega) (by omega)]; exact a3
  obtain ⟨K2, ⟨fk2, r67⟩, e2⟩ := lp_to (α := mMJ) (fun K j => k_Model_runBoth_19 (zI (j : Int)) (mUp N1 48 2 (zI (yR y 2))) K) (fun j K => fJ [67] K1 K ∧ ∀ i, i < j → K 67 i = K1 66 i) 240 (by
    intro j K hj ⟨i1, i2⟩
    refine ⟨mUpJ K 67 j (K1 66 j), ⟨i1.tr (fJ.up (by simp)), fun i hi => ?_⟩, ?_⟩
    · by_cases hc : i = j
      · subst hc; exact upJ_at _ _ _ _
      · rw [upJ_ne hc]; exact i2 i (by omega)
    · rw [e_Model_runBoth_19, i1 66 (by simp)]
      simp (disch := omega) only [Int.reduceEq, Int.reduceLT, Int.reduceLE, Int.reduceAdd, Int.reduceMul, Int.reduceSub, Int.reduceNeg, Int.reduceDiv, li_0, li_1, li_2, li_3, li_4, li_5, li_6, li_7, li_8, li_9, li_10, li_16, li_20, li_22, li_32, li_36, li_39, li_40, li_42, li_48, li_60, li_67, li_69, li_70, li_71, li_76, li_77, li_80, li_83, li_86, li_90, li_100, li_120, li_200, li_209, li_234, li_240, li_255, li_300, li_309, li_310, ll_0, ll_1, ll_3, ll_5, ll_7, ll_8, ll_9, ll_20, ll_39, ll_40, ll_60, ll_100, ll_120, ll_200, ll_209, ll_300, ll_309, ll_600, ll_1000000000, zI_neg, zI_add, zI_sub, zI_mul, zL_add, zL_sub, zL_mul, zL_neg, zI_suc, zN_I, zI_ofNat, zI_le_t, zI_le_f, zI_lt_t, zI_lt_f, zI_eq_t, zI_eq_f, zL_le_t, zL_le_f, zL_lt_t, zL_lt_f, zL_eq_t, zL_eq_f, zI_cl, zI_L, mI_t, Int.reduceToNat, nt_le_f, nt_le_t, lc_le, lc_lt, lc_gt, lc_eq, zI_div, Int.toNat_natCast, zI_max, zI_min, or_false, false_or, or_true, true_or, not_false_eq_true, not_true_eq_false, ↓reduceIte, and_self, and_true, true_and, and_false, false_and, not_or, gt_iff_lt, ge_iff_le, mBI_rI, mBJ_rJ, mBR_rV, mBR_rR, rZ_0, rZ_1]) K1 ⟨fJ.rf, fun i hi => absurd hi (Nat.not_lt_zero i)⟩
  obtain ⟨N3, K3, e3, o3, hm3, hr3⟩ := R_run hy h2 K2
  have k67 : ∀ p, p ≠ 66 → K3 p = K2 p := by
    obtain ⟨N3', K3', e3', f3', f46', fk3', hm3', hr3'⟩ := m_runAll h2.2.1 hy.2.1 hy.2.2.1 K2
    have : rV N3 K3 = rV N3' K3' := e3.symm.trans e3'
    have : K3 = K3' := by
      unfold rV at this
      cases this
      rfl
    intro p hp
    rw [this]
    exact fk3' p (by simp; omega)
  refine ⟨N3, K3, ?_, ⟨o3.1, fun p hp => ?_, fun p hp => ?_⟩, hm3, hr3, fun t k ht hk => ?_⟩
  · rw [e_Model_runBoth]
    simp (disch := omega) only [Int.reduceEq, Int.reduceLT, Int.reduceLE, Int.reduceAdd, Int.reduceMul, Int.reduceSub, Int.reduceNeg, Int.reduceDiv, li_0, li_1, li_2, li_3, li_4, li_5, li_6, li_7, li_8, li_9, li_10, li_16, li_20, li_22, li_32, li_36, li_39, li_40, li_42, li_48, li_60, li_67, li_69, li_70, li_71, li_76, li_77, li_80, li_83, li_86, li_90, li_100, li_120, li_200, li_209, li_234, li_240, li_255, li_300, li_309, li_310, ll_0, ll_1, ll_3, ll_5, ll_7, ll_8, ll_9, ll_20, ll_39, ll_40, ll_60, ll_100, ll_120, ll_200, ll_209, ll_300, ll_309, ll_600, ll_1000000000, zI_neg, zI_add, zI_sub, zI_mul, zL_add, zL_sub, zL_mul, zL_neg, zI_suc, zN_I, zI_ofNat, zI_le_t, zI_le_f, zI_lt_t, zI_lt_f, zI_eq_t, zI_eq_f, zL_le_t, zL_le_f, zL_lt_t, zL_lt_f, zL_eq_t, zL_eq_f, zI_cl, zI_L, mI_t, Int.reduceToNat, nt_le_f, nt_le_t, lc_le, lc_lt, lc_gt, lc_eq, zI_div, Int.toNat_natCast, zI_max, zI_min, or_false, false_or, or_true, true_or, not_false_eq_true, not_true_eq_false, ↓reduceIte, and_self, and_true, true_and, and_false, false_and, not_or, gt_iff_lt, ge_iff_le, mBI_rI, mBJ_rJ, mBR_rV, mBR_rR, rZ_0, rZ_1, e1, r2]
    refine Eq.trans e2 ?_
    show k_Model_runBoth_19 (zI ((240 : Nat) : Int)) _ K2 = _
    rw [e_Model_runBoth_19]
    simp (disch := omega) only [Int.reduceEq, Int.reduceLT, Int.reduceLE, Int.reduceAdd, Int.reduceMul, Int.reduceSub, Int.reduceNeg, Int.reduceDiv, li_0, li_1, li_2, li_3, li_4, li_5, li_6, li_7, li_8, li_9, li_10, li_16, li_20, li_22, li_32, li_36, li_39, li_40, li_42, li_48, li_60, li_67, li_69, li_70, li_71, li_76, li_77, li_80, li_83, li_86, li_90, li_100, li_120, li_200, li_209, li_234, li_240, li_255, li_300, li_309, li_310, ll_0, ll_1, ll_3, ll_5, ll_7, ll_8, ll_9, ll_20, ll_39, ll_40, ll_60, ll_100, ll_120, ll_200, ll_209, ll_300, ll_309, ll_600, ll_1000000000, zI_neg, zI_add, zI_sub, zI_mul, zL_add, zL_sub, zL_mul, zL_neg, zI_suc, zN_I, zI_ofNat, zI_le_t, zI_le_f, zI_lt_t, zI_lt_f, zI_eq_t, zI_eq_f, zL_le_t, zL_le_f, zL_lt_t, zL_lt_f, zL_eq_t, zL_eq_f, zI_cl, zI_L, mI_t, Int.reduceToNat, nt_le_f, nt_le_t, lc_le, lc_lt, lc_gt, lc_eq, zI_div, Int.toNat_natCast, zI_max, zI_min, or_false, false_or, or_true, true_or, not_false_eq_true, not_true_eq_false, ↓reduceIte, and_self, and_true, true_and, and_false, false_and, not_or, gt_iff_lt, ge_iff_le, mBI_rI, mBJ_rJ, mBR_rV, mBR_rR, rZ_0, rZ_1, e3]
  · rw [o3.2.1 p hp, up_nk (by omega), f1 p (by simp; omega), up_nk (by omega)]
  · rw [o3.2.2 p hp, fk2 p (by simp; omega), fk1 p (by simp; omega)]
  · rw [k67 67 (by omega), r67 _ (by omega)]
    exact (hr1 t ht k hk).2.2
/-- all -/
def a_all (t b : Int) (y : sS) : Int64 := zL (if 0 ≤ t ∧ t < 40 then (if b = 0 then 1000000000 + sm (yN y) (hoV (wd y) (t.toNat + 1)) else 1000000000 + sm (yN y) (hoV (wF y 0) (t.toNat + 1))) else -1)
theorem P_all {t b : Int} (ht : bz t) (hb : b = 0 ∨ b = 1) {y : sS} (hy : yOk y) {M : mMI} {J : mMJ} (h : CI y M J) : cEJ y M J (k_Pot_all (zI t) (zI b) M J) (a_all t b y) := by
  have ir := c_isRound ht
  obtain ⟨h3, h4⟩ := ht
  rw [e_Pot_all]
  unfold a_all
  by_cases c2 : 0 ≤ t ∧ t < 40
  · obtain ⟨u, rfl⟩ : ∃ u : Nat, t = (u : Int) := ⟨t.toNat, by omega⟩
    rcases hb with rfl | rfl
    · obtain ⟨N, K, e, o, hC⟩ := P_ran hy h
      refine ⟨N, K, ?_, o⟩
      have r := c_heldByAll (s := 7) (Or.inl rfl) (wd_ok hy) (o.1.su hy) (t := u) (by omega) (J := K) (f := hoV (wd y) (u + 1)) (fun k hk => ((hC u (by omega)).1 k hk).2.2.2)
      rw [wN_wd] at r
      simp (disch := omega) only [Int.reduceEq, Int.reduceLT, Int.reduceLE, Int.reduceAdd, Int.reduceMul, Int.reduceSub, Int.reduceNeg, Int.reduceDiv, li_0, li_1, li_2, li_3, li_4, li_5, li_6, li_7, li_8, li_9, li_10, li_16, li_20, li_22, li_32, li_36, li_39, li_40, li_42, li_48, li_60, li_67, li_69, li_70, li_71, li_76, li_77, li_80, li_83, li_86, li_90, li_100, li_120, li_200, li_209, li_234, li_240, li_255, li_300, li_309, li_310, ll_0, ll_1, ll_3, ll_5, ll_7, ll_8, ll_9, ll_20, ll_39, ll_40, ll_60, ll_100, ll_120, ll_200, ll_209, ll_300, ll_309, ll_600, ll_1000000000, zI_neg, zI_add, zI_sub, zI_mul, zL_add, zL_sub, zL_mul, zL_neg, zI_suc, zN_I, zI_ofNat, zI_le_t, zI_le_f, zI_lt_t, zI_lt_f, zI_eq_t, zI_eq_f, zL_le_t, zL_le_f, zL_lt_t, zL_lt_f, zL_eq_t, zL_eq_f, zI_cl, zI_L, mI_t, Int.reduceToNat, nt_le_f, nt_le_t, lc_le, lc_lt, lc_gt, lc_eq, zI_div, Int.toNat_natCast, zI_max, zI_min, or_false, false_or, or_true, true_or, not_false_eq_true, not_true_eq_false, ↓reduceIte, and_self, and_true, true_and, and_false, false_and, not_or, gt_iff_lt, ge_iff_le, mBI_rI, mBJ_rJ, mBR_rV, mBR_rR, rZ_0, rZ_1, ir, c2, e, mBR_15, r]
    · obtain ⟨N, K, e, o, _, _, hs, hC⟩ := P_ranF hy h (f := 0) (by omega)
      refine ⟨N, K, ?_, o⟩
      have r := c_heldByAll (s := 21) (Or.inr rfl) (wOk_mk (okRA_f hy.2.1 ⟨by omega, by omega⟩) hy.2.2.1) hs (t := u) (by omega) (J := K) (f := hoV (wF y 0) (u + 1)) (fun k hk => ((hC u (by omega)).1 k hk).2.2.2)
      have r : k_Course_heldByAll 21 (zI u) N K = rJ (zL (sm (yN y) (hoV (wF y 0) (u + 1)))) N K := r
      simp (disch := omega) only [Int.reduceEq, Int.reduceLT, Int.reduceLE, Int.reduceAdd, Int.reduceMul, Int.reduceSub, Int.reduceNeg, Int.reduceDiv, li_0, li_1, li_2, li_3, li_4, li_5, li_6, li_7, li_8, li_9, li_10, li_16, li_20, li_22, li_32, li_36, li_39, li_40, li_42, li_48, li_60, li_67, li_69, li_70, li_71, li_76, li_77, li_80, li_83, li_86, li_90, li_100, li_120, li_200, li_209, li_234, li_240, li_255, li_300, li_309, li_310, ll_0, ll_1, ll_3, ll_5, ll_7, ll_8, ll_9, ll_20, ll_39, ll_40, ll_60, ll_100, ll_120, ll_200, ll_209, ll_300, ll_309, ll_600, ll_1000000000, zI_neg, zI_add, zI_sub, zI_mul, zL_add, zL_sub, zL_mul, zL_neg, zI_suc, zN_I, zI_ofNat, zI_le_t, zI_le_f, zI_lt_t, zI_lt_f, zI_eq_t, zI_eq_f, zL_le_t, zL_le_f, zL_lt_t, zL_lt_f, zL_eq_t, zL_eq_f, zI_cl, zI_L, mI_t, Int.reduceToNat, nt_le_f, nt_le_t, lc_le, lc_lt, lc_gt, lc_eq, zI_div, Int.toNat_natCast, zI_max, zI_min, or_false, false_or, or_true, true_or, not_false_eq_true, not_true_eq_false, ↓reduceIte, and_self, and_true, true_and, and_false, false_and, not_or, gt_iff_lt, ge_iff_le, mBI_rI, mBJ_rJ, mBR_rV, mBR_rR, rZ_0, rZ_1, ir, c2, e, mBR_29, r]
  · refine .same h ?_
    simp (disch := omega) only [Int.reduceEq, Int.reduceLT, Int.reduceLE, Int.reduceAdd, Int.reduceMul, Int.reduceSub, Int.reduceNeg, Int.reduceDiv, li_0, li_1, li_2, li_3, li_4, li_5, li_6, li_7, li_8, li_9, li_10, li_16, li_20, li_22, li_32, li_36, li_39, li_40, li_42, li_48, li_60, li_67, li_69, li_70, li_71, li_76, li_77, li_80, li_83, li_86, li_90, li_100, li_120, li_200, li_209, li_234, li_240, li_255, li_300, li_309, li_310, ll_0, ll_1, ll_3, ll_5, ll_7, ll_8, ll_9, ll_20, ll_39, ll_40, ll_60, ll_100, ll_120, ll_200, ll_209, ll_300, ll_309, ll_600, ll_1000000000, zI_neg, zI_add, zI_sub, zI_mul, zL_add, zL_sub, zL_mul, zL_neg, zI_suc, zN_I, zI_ofNat, zI_le_t, zI_le_f, zI_lt_t, zI_lt_f, zI_eq_t, zI_eq_f, zL_le_t, zL_le_f, zL_lt_t, zL_lt_f, zL_eq_t, zL_eq_f, zI_cl, zI_L, mI_t, Int.reduceToNat, nt_le_f, nt_le_t, lc_le, lc_lt, lc_gt, lc_eq, zI_div, Int.toNat_natCast, zI_max, zI_min, or_false, false_or, or_true, true_or, not_false_eq_true, not_true_eq_false, ↓reduceIte, and_self, and_true, true_and, and_false, false_and, not_or, gt_iff_lt, ge_iff_le, mBI_rI, mBJ_rJ, mBR_rV, mBR_rR, rZ_0, rZ_1, ir, c2]
theorem R_all {t b : Int} (ht : bz t) (hb : b = 0 ∨ b = 1) {y : sS} (hy : yOk y) {M : mMI} {J : mMJ} (h : MI y M) : mEJ y M J (k_Model_all (zI t) (zI b) M J) (a_all t b y) := by
  have hn := hy.2.1.1
  have h0 := h.u46 (i := 0) (by omega) (by omega) (zI 0)
  have ir := m_noRound ht
  obtain ⟨h3, h4⟩ := ht
  rw [e_Model_all]
  unfold a_all
  by_cases c2 : 0 ≤ t ∧ t < 40
  · obtain ⟨u, rfl⟩ : ∃ u : Nat, t = (u : Int) := ⟨t.toNat, by omega⟩
    obtain ⟨N, K, e, o, hm, hr, ho⟩ := R_both hy h0 J
    refine ⟨N, K, ?_, o.of0⟩
    have r1 := m_sumAt (n := yN y) hm.1 hn.2 (t := u) (by omega) (J := K) (f := hoV (wd y) (u + 1)) (fun k hk => (hr u (by omega) k hk).2.2)
    have r2 := m_otherAt (n := yN y) hm.1 hn.2 (t := u) (by omega) (J := K) (f := hoV (wF y 0) (u + 1)) (fun k hk => ho u k (by omega) hk)
    rcases hb with rfl | rfl
    · simp (disch := omega) only [Int.reduceEq, Int.reduceLT, Int.reduceLE, Int.reduceAdd, Int.reduceMul, Int.reduceSub, Int.reduceNeg, Int.reduceDiv, li_0, li_1, li_2, li_3, li_4, li_5, li_6, li_7, li_8, li_9, li_10, li_16, li_20, li_22, li_32, li_36, li_39, li_40, li_42, li_48, li_60, li_67, li_69, li_70, li_71, li_76, li_77, li_80, li_83, li_86, li_90, li_100, li_120, li_200, li_209, li_234, li_240, li_255, li_300, li_309, li_310, ll_0, ll_1, ll_3, ll_5, ll_7, ll_8, ll_9, ll_20, ll_39, ll_40, ll_60, ll_100, ll_120, ll_200, ll_209, ll_300, ll_309, ll_600, ll_1000000000, zI_neg, zI_add, zI_sub, zI_mul, zL_add, zL_sub, zL_mul, zL_neg, zI_suc, zN_I, zI_ofNat, zI_le_t, zI_le_f, zI_lt_t, zI_lt_f, zI_eq_t, zI_eq_f, zL_le_t, zL_le_f, zL_lt_t, zL_lt_f, zL_eq_t, zL_eq_f, zI_cl, zI_L, mI_t, Int.reduceToNat, nt_le_f, nt_le_t, lc_le, lc_lt, lc_gt, lc_eq, zI_div, Int.toNat_natCast, zI_max, zI_min, or_false, false_or, or_true, true_or, not_false_eq_true, not_true_eq_false, ↓reduceIte, and_self, and_true, true_and, and_false, false_and, not_or, gt_iff_lt, ge_iff_le, mBI_rI, mBJ_rJ, mBR_rV, mBR_rR, rZ_0, rZ_1, ir, c2, e, r1]
    · simp (disch := omega) only [Int.reduceEq, Int.reduceLT, Int.reduceLE, Int.reduceAdd, Int.reduceMul, Int.reduceSub, Int.reduceNeg, Int.reduceDiv, li_0, li_1, li_2, li_3, li_4, li_5, li_6, li_7, li_8, li_9, li_10, li_16, li_20, li_22, li_32, li_36, li_39, li_40, li_42, li_48, li_60, li_67, li_69, li_70, li_71, li_76, li_77, li_80, li_83, li_86, li_90, li_100, li_120, li_200, li_209, li_234, li_240, li_255, li_300, li_309, li_310, ll_0, ll_1, ll_3, ll_5, ll_7, ll_8, ll_9, ll_20, ll_39, ll_40, ll_60, ll_100, ll_120, ll_200, ll_209, ll_300, ll_309, ll_600, ll_1000000000, zI_neg, zI_add, zI_sub, zI_mul, zL_add, zL_sub, zL_mul, zL_neg, zI_suc, zN_I, zI_ofNat, zI_le_t, zI_le_f, zI_lt_t, zI_lt_f, zI_eq_t, zI_eq_f, zL_le_t, zL_le_f, zL_lt_t, zL_lt_f, zL_eq_t, zL_eq_f, zI_cl, zI_L, mI_t, Int.reduceToNat, nt_le_f, nt_le_t, lc_le, lc_lt, lc_gt, lc_eq, zI_div, Int.toNat_natCast, zI_max, zI_min, or_false, false_or, or_true, true_or, not_false_eq_true, not_true_eq_false, ↓reduceIte, and_self, and_true, true_and, and_false, false_and, not_or, gt_iff_lt, ge_iff_le, mBI_rI, mBJ_rJ, mBR_rV, mBR_rR, rZ_0, rZ_1, ir, c2, e, r2]
  · refine .same h ?_
    simp (disch := omega) only [Int.reduceEq, Int.reduceLT, Int.reduceLE, Int.reduceAdd, Int.reduceMul, Int.reduceSub, Int.reduceNeg, Int.reduceDiv, li_0, li_1, li_2, li_3, li_4, li_5, li_6, li_7, li_8, li_9, li_10, li_16, li_20, li_22, li_32, li_36, li_39, li_40, li_42, li_48, li_60, li_67, li_69, li_70, li_71, li_76, li_77, li_80, li_83, li_86, li_90, li_100, li_120, li_200, li_209, li_234, li_240, li_255, li_300, li_309, li_310, ll_0, ll_1, ll_3, ll_5, ll_7, ll_8, ll_9, ll_20, ll_39, ll_40, ll_60, ll_100, ll_120, ll_200, ll_209, ll_300, ll_309, ll_600, ll_1000000000, zI_neg, zI_add, zI_sub, zI_mul, zL_add, zL_sub, zL_mul, zL_neg, zI_suc, zN_I, zI_ofNat, zI_le_t, zI_le_f, zI_lt_t, zI_lt_f, zI_eq_t, zI_eq_f, zL_le_t, zL_le_f, zL_lt_t, zL_lt_f, zL_eq_t, zL_eq_f, zI_cl, zI_L, mI_t, Int.reduceToNat, nt_le_f, nt_le_t, lc_le, lc_lt, lc_gt, lc_eq, zI_div, Int.toNat_natCast, zI_max, zI_min, or_false, false_or, or_true, true_or, not_false_eq_true, not_true_eq_false, ↓reduceIte, and_self, and_true, true_and, and_false, false_and, not_or, gt_iff_lt, ge_iff_le, mBI_rI, mBJ_rJ, mBR_rV, mBR_rR, rZ_0, rZ_1, ir, c2]
