/-! copy -/
def cpB (y : sS) (i : Nat) : Int := if i / 8 < yN y ∧ ((i % 8 : Nat) : Int) < wA (wd y) 3 (i / 8) then pu (wd y) (i % 8) (i / 8) else -9
theorem cpB_ok {y : sS} (hy : yOk y) : okB (cpB y) := by
  intro i hi
  unfold cpB
  by_cases c : i / 8 < yN y ∧ ((i % 8 : Nat) : Int) < wA (wd y) 3 (i / 8)
  · rw [if_pos c]
    have := pu_bd (wd_ok hy) (t := i % 8) (by omega) (i / 8) c.1
    omega
  · rw [if_neg c]
    exact Or.inl rfl
theorem nCopy_ok (y : sS) (hy : yOk y) : yOk (sBk y (cpB y)) := ⟨hy.1, hy.2.1, hy.2.2.1, cpB_ok hy, hy.2.2.2.2⟩
theorem c_fillB (v : Int32) (M : mMI) (J : mMJ) : ∃ N, k_Arrays_fill_B v M J = rV N J ∧ fR [36] M N ∧ ∀ i, i < 48 → N 36 i = v := by
  simp only [e_Arrays_fill_B, li_0, li_1, li_2, li_3, li_4, li_5, li_6, li_7, li_8, li_9, li_10, li_16, li_20, li_22, li_32, li_36, li_39, li_40, li_42, li_48, li_60, li_67, li_69, li_70, li_71, li_76, li_77, li_80, li_83, li_86, li_90, li_100, li_120, li_200, li_209, li_234, li_240, li_255, li_300, li_309, li_310, ll_0, ll_1, ll_3, ll_5, ll_7, ll_8, ll_9, ll_20, ll_39, ll_40, ll_60, ll_100, ll_120, ll_200, ll_209, ll_300, ll_309, ll_600, ll_1000000000, zI_neg, zI_add, zI_sub, zI_mul, zL_add, zL_sub, zL_mul, zL_neg, zI_suc, zN_I, zI_ofNat]
  refine lp_Q (α := mMI) (fun N j => k_Arrays_fill_B_5 v (zI (j : Int)) (zI ((48 : Nat) : Int)) N J) (fun j N => fR [36] M N ∧ ∀ i, i < j → N 36 i = v) (fun o => ∃ N, o = rV N J ∧ fR [36] M N ∧ ∀ i, i < 48 → N 36 i = v) 48 ?_ ?_ M ⟨fR.rf, fun i hi => absurd hi (Nat.not_lt_zero i)⟩
  · intro j N hj ⟨i1, i2⟩
    right
    refine ⟨mUp N 36 j v, ⟨i1.tr (fR.up (by simp)), fun i hi => ?_⟩, ?_⟩
    · by_cases h : i = j
      · subst h; exact up_at _ _ _ _
      · rw [up_ne h]; exact i2 i (by omega)
    · rw [e_Arrays_fill_B_5]
      simp (disch := omega) only [Int.reduceEq, Int.reduceLT, Int.reduceLE, Int.reduceAdd, Int.reduceMul, Int.reduceSub, Int.reduceNeg, Int.reduceDiv, li_0, li_1, li_2, li_3, li_4, li_5, li_6, li_7, li_8, li_9, li_10, li_16, li_20, li_22, li_32, li_36, li_39, li_40, li_42, li_48, li_60, li_67, li_69, li_70, li_71, li_76, li_77, li_80, li_83, li_86, li_90, li_100, li_120, li_200, li_209, li_234, li_240, li_255, li_300, li_309, li_310, ll_0, ll_1, ll_3, ll_5, ll_7, ll_8, ll_9, ll_20, ll_39, ll_40, ll_60, ll_100, ll_120, ll_200, ll_209, ll_300, ll_309, ll_600, ll_1000000000, zI_neg, zI_add, zI_sub, zI_mul, zL_add, zL_sub, zL_mul, zL_neg, zI_suc, zN_I, zI_ofNat, zI_le_t, zI_le_f, zI_lt_t, zI_lt_f, zI_eq_t, zI_eq_f, zL_le_t, zL_le_f, zL_lt_t, zL_lt_f, zL_eq_t, zL_eq_f, zI_cl, zI_L, mI_t, Int.reduceToNat, nt_le_f, nt_le_t, lc_le, lc_lt, lc_gt, lc_eq, zI_div, Int.toNat_natCast, zI_max, zI_min, or_false, false_or, or_true, true_or, not_false_eq_true, not_true_eq_false, ↓reduceIte, and_self, and_true, true_and, and_false, false_and, not_or, gt_iff_lt, ge_iff_le, mBI_rI, mBJ_rJ, mBR_rV, mBR_rR, rZ_0, rZ_1]
  · intro N ⟨i1, i2⟩
    refine ⟨N, ?_, i1, i2⟩
    rw [e_Arrays_fill_B_5]
    simp (disch := omega) only [Int.reduceEq, Int.reduceLT, Int.reduceLE, Int.reduceAdd, Int.reduceMul, Int.reduceSub, Int.reduceNeg, Int.reduceDiv, li_0, li_1, li_2, li_3, li_4, li_5, li_6, li_7, li_8, li_9, li_10, li_16, li_20, li_22, li_32, li_36, li_39, li_40, li_42, li_48, li_60, li_67, li_69, li_70, li_71, li_76, li_77, li_80, li_83, li_86, li_90, li_100, li_120, li_200, li_209, li_234, li_240, li_255, li_300, li_309, li_310, ll_0, ll_1, ll_3, ll_5, ll_7, ll_8, ll_9, ll_20, ll_39, ll_40, ll_60, ll_100, ll_120, ll_200, ll_209, ll_300, ll_309, ll_600, ll_1000000000, zI_neg, zI_add, zI_sub, zI_mul, zL_add, zL_sub, zL_mul, zL_neg, zI_suc, zN_I, zI_ofNat, zI_le_t, zI_le_f, zI_lt_t, zI_lt_f, zI_eq_t, zI_eq_f, zL_le_t, zL_le_f, zL_lt_t, zL_lt_f, zL_eq_t, zL_eq_f, zI_cl, zI_L, mI_t, Int.reduceToNat, nt_le_f, nt_le_t, lc_le, lc_lt, lc_gt, lc_eq, zI_div, Int.toNat_natCast, zI_max, zI_min, or_false, false_or, or_true, true_or, not_false_eq_true, not_true_eq_false, ↓reduceIte, and_self, and_true, true_and, and_false, false_and, not_or, gt_iff_lt, ge_iff_le, mBI_rI, mBJ_rJ, mBR_rV, mBR_rR, rZ_0, rZ_1]
/-- a row written from the left -/
theorem wr_s {N : mMI} {P m : Nat} {f g : Nat → Int} {B : Nat} (h : ∀ i, i < B → N P i = zI (if i < m then f i else g i)) : ∀ i, i < B → mUp N P m (zI (f m)) P i = zI (if i < m + 1 then f i else g i) := by
  intro i hi
  by_cases c : i = m
  · subst c; rw [up_at, if_pos (by omega)]
  · rw [up_ne c, h i hi]
    by_cases d : i < m
    · rw [if_pos d, if_pos (by omega)]
    · rw [if_neg d, if_neg (by omega)]
theorem P_copy {y : sS} (hy : yOk y) {M : mMI} {J : mMJ} (h : CI y M J) : cE (sBk y (cpB y)) M J (k_Pot_copy M J) (zI (cB (cpB y))) := by
  have hn := hy.2.1.1
  obtain ⟨N1, K, e1, o1, hC⟩ := P_ran hy h
  obtain ⟨N2, e2, f2, r2⟩ := c_fillB (zI (-9)) N1 K
  have e71 : ∀ {N : mMI}, fR [36] N1 N → N 7 1 = zI (yN y : Int) := fun hf => by rw [hf 7 (by simp)]; exact o1.1.2.2.1.1
  have e15 : ∀ {N : mMI}, fR [36] N1 N → ∀ p t, p < yN y → t < 8 → N 15 (6 * t + p) = zI (cpB y (8 * p + t)) := by
    intro N hf p t hp ht
    have q := ((hC t (by omega)).1 p hp).1
    rw [hf 15 (by simp)]
    have q : N1 15 (6 * t + p) = _ := q
    rw [q]
    unfold cpB
    rw [show (8 * p + t) / 8 = p by omega, show (8 * p + t) % 8 = t by omega]
    by_cases c : (t : Int) < wA (wd y) 3 p
    · rw [if_pos c, if_pos ⟨hp, c⟩]
    · rw [if_neg c, if_neg (fun x => c x.2)]
  have key : ∃ N, k_Pot_copy_10 (zI 0) N2 K = k_Pot_copy_10 (zI (yN y : Int)) N K ∧ fR [36] N1 N ∧ ∀ i, i < 48 → N 36 i = zI (if i < 8 * yN y then cpB y i else -9) := by
    obtain ⟨N, ⟨i1, i2⟩, e⟩ := lp_to (α := mMI) (fun N p => k_Pot_copy_10 (zI (p : Int)) N K) (fun p N => fR [36] N1 N ∧ ∀ i, i < 48 → N 36 i = zI (if i < 8 * p then cpB y i else -9)) (yN y) (by
      intro p N hp ⟨i1, i2⟩
      obtain ⟨N3, ⟨j1, j2⟩, e3⟩ := lp_to (α := mMI) (fun N t => k_Pot_copy_17 (zI (p : Int)) (zI (t : Int)) N K) (fun t N => fR [36] N1 N ∧ ∀ i, i < 48 → N 36 i = zI (if i < 8 * p + t then cpB y i else -9)) 8 (by
        intro t N ht ⟨i1, i2⟩
        have ix : ((t : Int) * 6 + (p : Int)).toNat = 6 * t + p := by omega
        have ix2 : ((p : Int) * 8 + (t : Int)).toNat = 8 * p + t := by omega
        refine ⟨mUp N 36 (8 * p + t) (zI (cpB y (8 * p + t))), ⟨i1.tr (fR.up (by simp)), wr_s (g := fun _ => -9) i2⟩, ?_⟩
        rw [e_Pot_copy_17]
        simp (disch := omega) only [Int.reduceEq, Int.reduceLT, Int.reduceLE, Int.reduceAdd, Int.reduceMul, Int.reduceSub, Int.reduceNeg, Int.reduceDiv, li_0, li_1, li_2, li_3, li_4, li_5, li_6, li_7, li_8, li_9, li_10, li_16, li_20, li_22, li_32, li_36, li_39, li_40, li_42, li_48, li_60, li_67, li_69, li_70, li_71, li_76, li_77, li_80, li_83, li_86, li_90, li_100, li_120, li_200, li_209, li_234, li_240, li_255, li_300, li_309, li_310, ll_0, ll_1, ll_3, ll_5, ll_7, ll_8, ll_9, ll_20, ll_39, ll_40, ll_60, ll_100, ll_120, ll_200, ll_209, ll_300, ll_309, ll_600, ll_1000000000, zI_neg, zI_add, zI_sub, zI_mul, zL_add, zL_sub, zL_mul, zL_neg, zI_suc, zN_I, zI_ofNat, zI_le_t, zI_le_f, zI_lt_t, zI_lt_f, zI_eq_t, zI_eq_f, zL_le_t, zL_le_f, zL_lt_t, zL_lt_f, zL_eq_t, zL_eq_f, zI_cl, zI_L, mI_t, Int.reduceToNat, nt_le_f, nt_le_t, lc_le, lc_lt, lc_gt, lc_eq, zI_div, Int.toNat_natCast, zI_max, zI_min, or_false, false_or, or_true, true_or, not_false_eq_true, not_true_eq_false, ↓reduceIte, and_self, and_true, true_and, and_false, false_and, not_or, gt_iff_lt, ge_iff_le, mBI_rI, mBJ_rJ, mBR_rV, mBR_rR, rZ_0, rZ_1, ix, ix2, e15 i1 p t hp ht]) N ⟨i1, i2⟩
      refine ⟨N3, ⟨j1, fun i hi => by rw [j2 i hi, show 8 * (p + 1) = 8 * p + 8 by omega]⟩, ?_⟩
      rw [e_Pot_copy_10]
      simp (disch := omega) only [Int.reduceEq, Int.reduceLT, Int.reduceLE, Int.reduceAdd, Int.reduceMul, Int.reduceSub, Int.reduceNeg, Int.reduceDiv, li_0, li_1, li_2, li_3, li_4, li_5, li_6, li_7, li_8, li_9, li_10, li_16, li_20, li_22, li_32, li_36, li_39, li_40, li_42, li_48, li_60, li_67, li_69, li_70, li_71, li_76, li_77, li_80, li_83, li_86, li_90, li_100, li_120, li_200, li_209, li_234, li_240, li_255, li_300, li_309, li_310, ll_0, ll_1, ll_3, ll_5, ll_7, ll_8, ll_9, ll_20, ll_39, ll_40, ll_60, ll_100, ll_120, ll_200, ll_209, ll_300, ll_309, ll_600, ll_1000000000, zI_neg, zI_add, zI_sub, zI_mul, zL_add, zL_sub, zL_mul, zL_neg, zI_suc, zN_I, zI_ofNat, zI_le_t, zI_le_f, zI_lt_t, zI_lt_f, zI_eq_t, zI_eq_f, zL_le_t, zL_le_f, zL_lt_t, zL_lt_f, zL_eq_t, zL_eq_f, zI_cl, zI_L, mI_t, Int.reduceToNat, nt_le_f, nt_le_t, lc_le, lc_lt, lc_gt, lc_eq, zI_div, Int.toNat_natCast, zI_max, zI_min, or_false, false_or, or_true, true_or, not_false_eq_true, not_true_eq_false, ↓reduceIte, and_self, and_true, true_and, and_false, false_and, not_or, gt_iff_lt, ge_iff_le, mBI_rI, mBJ_rJ, mBR_rV, mBR_rR, rZ_0, rZ_1, e71 i1]
      refine Eq.trans e3 ?_
      show k_Pot_copy_17 (zI (p : Int)) (zI ((8 : Nat) : Int)) N3 K = _
      rw [e_Pot_copy_17]
      simp (disch := omega) only [Int.reduceEq, Int.reduceLT, Int.reduceLE, Int.reduceAdd, Int.reduceMul, Int.reduceSub, Int.reduceNeg, Int.reduceDiv, li_0, li_1, li_2, li_3, li_4, li_5, li_6, li_7, li_8, li_9, li_10, li_16, li_20, li_22, li_32, li_36, li_39, li_40, li_42, li_48, li_60, li_67, li_69, li_70, li_71, li_76, li_77, li_80, li_83, li_86, li_90, li_100, li_120, li_200, li_209, li_234, li_240, li_255, li_300, li_309, li_310, ll_0, ll_1, ll_3, ll_5, ll_7, ll_8, ll_9, ll_20, ll_39, ll_40, ll_60, ll_100, ll_120, ll_200, ll_209, ll_300, ll_309, ll_600, ll_1000000000, zI_neg, zI_add, zI_sub, zI_mul, zL_add, zL_sub, zL_mul, zL_neg, zI_suc, zN_I, zI_ofNat, zI_le_t, zI_le_f, zI_lt_t, zI_lt_f, zI_eq_t, zI_eq_f, zL_le_t, zL_le_f, zL_lt_t, zL_lt_f, zL_eq_t, zL_eq_f, zI_cl, zI_L, mI_t, Int.reduceToNat, nt_le_f, nt_le_t, lc_le, lc_lt, lc_gt, lc_eq, zI_div, Int.toNat_natCast, zI_max, zI_min, or_false, false_or, or_true, true_or, not_false_eq_true, not_true_eq_false, ↓reduceIte, and_self, and_true, true_and, and_false, false_and, not_or, gt_iff_lt, ge_iff_le, mBI_rI, mBJ_rJ, mBR_rV, mBR_rR, rZ_0, rZ_1]) N2 ⟨f2, fun i hi => by rw [r2 i hi, if_neg (by omega)]⟩
    exact ⟨N, e, i1, i2⟩
  obtain ⟨N, e, f, r⟩ := key
  have r36 : ∀ i, i < 48 → N 36 i = zI (cpB y i) := by
    intro i hi
    rw [r i hi]
    by_cases c : i < 8 * yN y
    · rw [if_pos c]
    · rw [if_neg c]
      unfold cpB
      rw [if_neg (fun q => c (by omega))]
  have cb := c_countB r36 (cpB_ok hy) K
  refine ⟨N, K, ?_, ?_⟩
  · rw [e_Pot_copy]
    simp (disch := omega) only [Int.reduceEq, Int.reduceLT, Int.reduceLE, Int.reduceAdd, Int.reduceMul, Int.reduceSub, Int.reduceNeg, Int.reduceDiv, li_0, li_1, li_2, li_3, li_4, li_5, li_6, li_7, li_8, li_9, li_10, li_16, li_20, li_22, li_32, li_36, li_39, li_40, li_42, li_48, li_60, li_67, li_69, li_70, li_71, li_76, li_77, li_80, li_83, li_86, li_90, li_100, li_120, li_200, li_209, li_234, li_240, li_255, li_300, li_309, li_310, ll_0, ll_1, ll_3, ll_5, ll_7, ll_8, ll_9, ll_20, ll_39, ll_40, ll_60, ll_100, ll_120, ll_200, ll_209, ll_300, ll_309, ll_600, ll_1000000000, zI_neg, zI_add, zI_sub, zI_mul, zL_add, zL_sub, zL_mul, zL_neg, zI_suc, zN_I, zI_ofNat, zI_le_t, zI_le_f, zI_lt_t, zI_lt_f, zI_eq_t, zI_eq_f, zL_le_t, zL_le_f, zL_lt_t, zL_lt_f, zL_eq_t, zL_eq_f, zI_cl, zI_L, mI_t, Int.reduceToNat, nt_le_f, nt_le_t, lc_le, lc_lt, lc_gt, lc_eq, zI_div, Int.toNat_natCast, zI_max, zI_min, or_false, false_or, or_true, true_or, not_false_eq_true, not_true_eq_false, ↓reduceIte, and_self, and_true, true_and, and_false, false_and, not_or, gt_iff_lt, ge_iff_le, mBI_rI, mBJ_rJ, mBR_rV, mBR_rR, rZ_0, rZ_1, e1, mBR_15, e2]
    refine Eq.trans e ?_
    rw [e_Pot_copy_10]
    simp (disch := omega) only [Int.reduceEq, Int.reduceLT, Int.reduceLE, Int.reduceAdd, Int.reduceMul, Int.reduceSub, Int.reduceNeg, Int.reduceDiv, li_0, li_1, li_2, li_3, li_4, li_5, li_6, li_7, li_8, li_9, li_10, li_16, li_20, li_22, li_32, li_36, li_39, li_40, li_42, li_48, li_60, li_67, li_69, li_70, li_71, li_76, li_77, li_80, li_83, li_86, li_90, li_100, li_120, li_200, li_209, li_234, li_240, li_255, li_300, li_309, li_310, ll_0, ll_1, ll_3, ll_5, ll_7, ll_8, ll_9, ll_20, ll_39, ll_40, ll_60, ll_100, ll_120, ll_200, ll_209, ll_300, ll_309, ll_600, ll_1000000000, zI_neg, zI_add, zI_sub, zI_mul, zL_add, zL_sub, zL_mul, zL_neg, zI_suc, zN_I, zI_ofNat, zI_le_t, zI_le_f, zI_lt_t, zI_lt_f, zI_eq_t, zI_eq_f, zL_le_t, zL_le_f, zL_lt_t, zL_lt_f, zL_eq_t, zL_eq_f, zI_cl, zI_L, mI_t, Int.reduceToNat, nt_le_f, nt_le_t, lc_le, lc_lt, lc_gt, lc_eq, zI_div, Int.toNat_natCast, zI_max, zI_min, or_false, false_or, or_true, true_or, not_false_eq_true, not_true_eq_false, ↓reduceIte, and_self, and_true, true_and, and_false, false_and, not_or, gt_iff_lt, ge_iff_le, mBI_rI, mBJ_rJ, mBR_rV, mBR_rR, rZ_0, rZ_1, e71 f, cb]
  · obtain ⟨⟨a1, a2, a3, a4, a5, a6⟩, c2, c3⟩ := o1
    refine ⟨⟨a1.fr (fun p hp => f p (by simp; omega)), a2.fr (by rw [f 1 (by simp)]) (f 2 (by simp)), a3.fr (fun p _ _ => f p (by simp; omega)), r36, a5.fr (fun p _ _ => f p (by simp; omega)), ?_⟩, fun p hp => (f p (by simp; omega)).trans (c2 p hp), c3⟩
    show N 0 9 = zI 1 ∨ (N 0 9 = zI 0 ∧ coH 7 (wd y) 40 N K)
    rw [f 0 (by simp)]
    rcases a6 with a6 | a6
    · exact Or.inl a6
    · exact Or.inr ⟨a6.1, a6.2.fr (f _ (by simp)) (f _ (by simp)) (f _ (by simp)) (f _ (by simp)) rfl⟩
theorem moH.fr2 {w : wW} {wh : Nat → Nat} {M N : mMI} (h : moH w wh M) (hf : ∀ p, p < 64 → p ≠ 62 → N p = M p) : moH w wh N := by
  unfold moH
  rw [hf 46 (by omega) (by omega), hf 48 (by omega) (by omega), hf 63 (by omega) (by omega), hf 50 (by omega) (by omega), hf 51 (by omega) (by omega), hf 52 (by omega) (by omega), hf 57 (by omega) (by omega), hf 56 (by omega) (by omega)]
  exact h
theorem R_copy {y : sS} (hy : yOk y) {M : mMI} {J : mMJ} (h : MI y M) : mE (sBk y (cpB y)) M J (k_Model_copy M J) (zI (cB (cpB y))) := by
  have hn := hy.2.1.1
  have hw := wd_ok hy
  have h0 := h.u46 (i := 0) (by omega) (by omega) (zI 0)
  obtain ⟨N1, K, e1, o1, hm, hr⟩ := R_run hy h0 J
  have e7 : ∀ {N : mMI}, fR [62] N1 N → N 46 7 = zI (yN y : Int) := fun hf => by rw [hf 46 (by simp)]; exact o1.1.2.1.1
  have key : ∃ N, k_Model_copy_9 (zI 0) (zI 0) N1 K = k_Model_copy_9 (zI (cB (cpB y))) (zI ((6 : Nat) : Int)) N K ∧ fR [62] N1 N ∧ ∀ i, i < 48 → N 62 i = if i < 48 then zI (cpB y i) else N1 62 i := by
    obtain ⟨N, ⟨i1, i2⟩, e⟩ := lp_to (α := mMI) (fun N p => k_Model_copy_9 (zI (sm (8 * p) (fun i => if cpB y i = -9 then 0 else 1))) (zI (p : Int)) N K) (fun p N => fR [62] N1 N ∧ ∀ i, i < 48 → N 62 i = if i < 8 * p then zI (cpB y i) else N1 62 i) 6 (by
      intro p N hp ⟨i1, i2⟩
      obtain ⟨N3, ⟨j1, j2⟩, e3⟩ := lp_to (α := mMI) (fun N t => k_Model_copy_14 (zI (sm (8 * p + t) (fun i => if cpB y i = -9 then 0 else 1))) (zI (p : Int)) (zI (t : Int)) N K) (fun t N => fR [62] N1 N ∧ ∀ i, i < 48 → N 62 i = if i < 8 * p + t then zI (cpB y i) else N1 62 i) 8 (by
        intro t N ht ⟨i1, i2⟩
        have ix : (6 * (t : Int) + (p : Int)).toNat = 6 * t + p := by omega
        have ix2 : (8 * (p : Int) + (t : Int)).toNat = 8 * p + t := by omega
        have es : sm (8 * p + (t + 1)) (fun i => if cpB y i = -9 then 0 else 1) = sm (8 * p + t) (fun i => if cpB y i = -9 then 0 else 1) + (if cpB y (8 * p + t) = -9 then 0 else 1) := rfl
        have ec : cpB y (8 * p + t) = if p < yN y ∧ (t : Int) < wA (wd y) 3 p then pu (wd y) t p else -9 := by
          unfold cpB
          rw [show (8 * p + t) / 8 = p by omega, show (8 * p + t) % 8 = t by omega]
        refine ⟨mUp N 62 (8 * p + t) (zI (cpB y (8 * p + t))), ⟨i1.tr (fR.up (by simp)), fun i hi => ?_⟩, ?_⟩
        · by_cases c : i = 8 * p + t
          · subst c; rw [up_at, if_pos (by omega)]
          · rw [up_ne c, i2 i hi]
            by_cases d : i < 8 * p + t
            · rw [if_pos d, if_pos (by omega)]
            · rw [if_neg d, if_neg (by omega)]
        · rw [e_Model_copy_14, es]
          by_cases c1 : p < yN y
          · have hm2 : moH (wd y) (fun k => k) N := hm.fr2 (fun q hq hq2 => i1 q (by simp; omega))
            have ii := m_isIn hw hm2 (k := p) c1 (t := t) (by omega) K
            by_cases c2 : (t : Int) < wA (wd y) 3 p
            · rw [if_pos ⟨c1, c2⟩] at ec
              have e64 : N 64 (6 * t + p) = zI (pu (wd y) t p) := by rw [i1 64 (by simp)]; exact (hr t (by omega) p c1).1
              have pb := pu_bd hw (t := t) (by omega) p c1
              have ne : ¬ pu (wd y) t p = -9 := by omega
              rw [ec, if_neg ne]
              simp (disch := omega) only [Int.reduceEq, Int.reduceLT, Int.reduceLE, Int.reduceAdd, Int.reduceMul, Int.reduceSub, Int.reduceNeg, Int.reduceDiv, li_0, li_1, li_2, li_3, li_4, li_5, li_6, li_7, li_8, li_9, li_10, li_16, li_20, li_22, li_32, li_36, li_39, li_40, li_42, li_48, li_60, li_67, li_69, li_70, li_71, li_76, li_77, li_80, li_83, li_86, li_90, li_100, li_120, li_200, li_209, li_234, li_240, li_255, li_300, li_309, li_310, ll_0, ll_1, ll_3, ll_5, ll_7, ll_8, ll_9, ll_20, ll_39, ll_40, ll_60, ll_100, ll_120, ll_200, ll_209, ll_300, ll_309, ll_600, ll_1000000000, zI_neg, zI_add, zI_sub, zI_mul, zL_add, zL_sub, zL_mul, zL_neg, zI_suc, zN_I, zI_ofNat, zI_le_t, zI_le_f, zI_lt_t, zI_lt_f, zI_eq_t, zI_eq_f, zL_le_t, zL_le_f, zL_lt_t, zL_lt_f, zL_eq_t, zL_eq_f, zI_cl, zI_L, mI_t, Int.reduceToNat, nt_le_f, nt_le_t, lc_le, lc_lt, lc_gt, lc_eq, zI_div, Int.toNat_natCast, zI_max, zI_min, or_false, false_or, or_true, true_or, not_false_eq_true, not_true_eq_false, ↓reduceIte, and_self, and_true, true_and, and_false, false_and, not_or, gt_iff_lt, ge_iff_le, mBI_rI, mBJ_rJ, mBR_rV, mBR_rR, rZ_0, rZ_1, e7 i1, ii, c2, e_Model_copy_29, ix, ix2, e64, e_Model_copy_49, e_Model_copy_56]
            · rw [if_neg (fun q => c2 q.2)] at ec
              rw [ec, if_pos rfl]
              simp (disch := omega) only [Int.reduceEq, Int.reduceLT, Int.reduceLE, Int.reduceAdd, Int.reduceMul, Int.reduceSub, Int.reduceNeg, Int.reduceDiv, li_0, li_1, li_2, li_3, li_4, li_5, li_6, li_7, li_8, li_9, li_10, li_16, li_20, li_22, li_32, li_36, li_39, li_40, li_42, li_48, li_60, li_67, li_69, li_70, li_71, li_76, li_77, li_80, li_83, li_86, li_90, li_100, li_120, li_200, li_209, li_234, li_240, li_255, li_300, li_309, li_310, ll_0, ll_1, ll_3, ll_5, ll_7, ll_8, ll_9, ll_20, ll_39, ll_40, ll_60, ll_100, ll_120, ll_200, ll_209, ll_300, ll_309, ll_600, ll_1000000000, zI_neg, zI_add, zI_sub, zI_mul, zL_add, zL_sub, zL_mul, zL_neg, zI_suc, zN_I, zI_ofNat, zI_le_t, zI_le_f, zI_lt_t, zI_lt_f, zI_eq_t, zI_eq_f, zL_le_t, zL_le_f, zL_lt_t, zL_lt_f, zL_eq_t, zL_eq_f, zI_cl, zI_L, mI_t, Int.reduceToNat, nt_le_f, nt_le_t, lc_le, lc_lt, lc_gt, lc_eq, zI_div, Int.toNat_natCast, zI_max, zI_min, or_false, false_or, or_true, true_or, not_false_eq_true, not_true_eq_false, ↓reduceIte, and_self, and_true, true_and, and_false, false_and, not_or, gt_iff_lt, ge_iff_le, mBI_rI, mBJ_rJ, mBR_rV, mBR_rR, rZ_0, rZ_1, e7 i1, ii, c2, e_Model_copy_29, ix2, e_Model_copy_49, e_Model_copy_56, Int.add_zero]
          · rw [if_neg (fun q => c1 q.1)] at ec
            rw [ec, if_pos rfl]
            simp (disch := omega) only [Int.reduceEq, Int.reduceLT, Int.reduceLE, Int.reduceAdd, Int.reduceMul, Int.reduceSub, Int.reduceNeg, Int.reduceDiv, li_0, li_1, li_2, li_3, li_4, li_5, li_6, li_7, li_8, li_9, li_10, li_16, li_20, li_22, li_32, li_36, li_39, li_40, li_42, li_48, li_60, li_67, li_69, li_70, li_71, li_76, li_77, li_80, li_83, li_86, li_90, li_100, li_120, li_200, li_209, li_234, li_240, li_255, li_300, li_309, li_310, ll_0, ll_1, ll_3, ll_5, ll_7, ll_8, ll_9, ll_20, ll_39, ll_40, ll_60, ll_100, ll_120, ll_200, ll_209, ll_300, ll_309, ll_600, ll_1000000000, zI_neg, zI_add, zI_sub, zI_mul, zL_add, zL_sub, zL_mul, zL_neg, zI_suc, zN_I, zI_ofNat, zI_le_t, zI_le_f, zI_lt_t, zI_lt_f, zI_eq_t, zI_eq_f, zL_le_t, zL_le_f, zL_lt_t, zL_lt_f, zL_eq_t, zL_eq_f, zI_cl, zI_L, mI_t, Int.reduceToNat, nt_le_f, nt_le_t, lc_le, lc_lt, lc_gt, lc_eq, zI_div, Int.toNat_natCast, zI_max, zI_min, or_false, false_or, or_true, true_or, not_false_eq_true, not_true_eq_false, ↓reduceIte, and_self, and_true, true_and, and_false, false_and, not_or, gt_iff_lt, ge_iff_le, mBI_rI, mBJ_rJ, mBR_rV, mBR_rR, rZ_0, rZ_1, e7 i1, e_Model_copy_29, ix2, e_Model_copy_49, e_Model_copy_56, Int.add_zero]) N ⟨i1, i2⟩
      refine ⟨N3, ⟨j1, fun i hi => by rw [j2 i hi, show 8 * (p + 1) = 8 * p + 8 by omega]⟩, ?_⟩
      rw [e_Model_copy_9]
      simp (disch := omega) only [Int.reduceEq, Int.reduceLT, Int.reduceLE, Int.reduceAdd, Int.reduceMul, Int.reduceSub, Int.reduceNeg, Int.reduceDiv, li_0, li_1, li_2, li_3, li_4, li_5, li_6, li_7, li_8, li_9, li_10, li_16, li_20, li_22, li_32, li_36, li_39, li_40, li_42, li_48, li_60, li_67, li_69, li_70, li_71, li_76, li_77, li_80, li_83, li_86, li_90, li_100, li_120, li_200, li_209, li_234, li_240, li_255, li_300, li_309, li_310, ll_0, ll_1, ll_3, ll_5, ll_7, ll_8, ll_9, ll_20, ll_39, ll_40, ll_60, ll_100, ll_120, ll_200, ll_209, ll_300, ll_309, ll_600, ll_1000000000, zI_neg, zI_add, zI_sub, zI_mul, zL_add, zL_sub, zL_mul, zL_neg, zI_suc, zN_I, zI_ofNat, zI_le_t, zI_le_f, zI_lt_t, zI_lt_f, zI_eq_t, zI_eq_f, zL_le_t, zL_le_f, zL_lt_t, zL_lt_f, zL_eq_t, zL_eq_f, zI_cl, zI_L, mI_t, Int.reduceToNat, nt_le_f, nt_le_t, lc_le, lc_lt, lc_gt, lc_eq, zI_div, Int.toNat_natCast, zI_max, zI_min, or_false, false_or, or_true, true_or, not_false_eq_true, not_true_eq_false, ↓reduceIte, and_self, and_true, true_and, and_false, false_and, not_or, gt_iff_lt, ge_iff_le, mBI_rI, mBJ_rJ, mBR_rV, mBR_rR, rZ_0, rZ_1]
      refine Eq.trans e3 ?_
      show k_Model_copy_14 (zI (sm (8 * p + 8) (fun i => if cpB y i = -9 then 0 else 1))) (zI (p : Int)) (zI ((8 : Nat) : Int)) N3 K = _
      rw [e_Model_copy_14, show 8 * (p + 1) = 8 * p + 8 by omega]
      simp (disch := omega) only [Int.reduceEq, Int.reduceLT, Int.reduceLE, Int.reduceAdd, Int.reduceMul, Int.reduceSub, Int.reduceNeg, Int.reduceDiv, li_0, li_1, li_2, li_3, li_4, li_5, li_6, li_7, li_8, li_9, li_10, li_16, li_20, li_22, li_32, li_36, li_39, li_40, li_42, li_48, li_60, li_67, li_69, li_70, li_71, li_76, li_77, li_80, li_83, li_86, li_90, li_100, li_120, li_200, li_209, li_234, li_240, li_255, li_300, li_309, li_310, ll_0, ll_1, ll_3, ll_5, ll_7, ll_8, ll_9, ll_20, ll_39, ll_40, ll_60, ll_100, ll_120, ll_200, ll_209, ll_300, ll_309, ll_600, ll_1000000000, zI_neg, zI_add, zI_sub, zI_mul, zL_add, zL_sub, zL_mul, zL_neg, zI_suc, zN_I, zI_ofNat, zI_le_t, zI_le_f, zI_lt_t, zI_lt_f, zI_eq_t, zI_eq_f, zL_le_t, zL_le_f, zL_lt_t, zL_lt_f, zL_eq_t, zL_eq_f, zI_cl, zI_L, mI_t, Int.reduceToNat, nt_le_f, nt_le_t, lc_le, lc_lt, lc_gt, lc_eq, zI_div, Int.toNat_natCast, zI_max, zI_min, or_false, false_or, or_true, true_or, not_false_eq_true, not_true_eq_false, ↓reduceIte, and_self, and_true, true_and, and_false, false_and, not_or, gt_iff_lt, ge_iff_le, mBI_rI, mBJ_rJ, mBR_rV, mBR_rR, rZ_0, rZ_1]) N1 ⟨fR.rf, fun i hi => by rw [if_neg (by omega)]⟩
    exact ⟨N, e, i1, i2⟩
  obtain ⟨N, e, f, r⟩ := key
  refine ⟨N, K, ?_, ?_⟩
  · rw [e_Model_copy]
    simp (disch := omega) only [Int.reduceEq, Int.reduceLT, Int.reduceLE, Int.reduceAdd, Int.reduceMul, Int.reduceSub, Int.reduceNeg, Int.reduceDiv, li_0, li_1, li_2, li_3, li_4, li_5, li_6, li_7, li_8, li_9, li_10, li_16, li_20, li_22, li_32, li_36, li_39, li_40, li_42, li_48, li_60, li_67, li_69, li_70, li_71, li_76, li_77, li_80, li_83, li_86, li_90, li_100, li_120, li_200, li_209, li_234, li_240, li_255, li_300, li_309, li_310, ll_0, ll_1, ll_3, ll_5, ll_7, ll_8, ll_9, ll_20, ll_39, ll_40, ll_60, ll_100, ll_120, ll_200, ll_209, ll_300, ll_309, ll_600, ll_1000000000, zI_neg, zI_add, zI_sub, zI_mul, zL_add, zL_sub, zL_mul, zL_neg, zI_suc, zN_I, zI_ofNat, zI_le_t, zI_le_f, zI_lt_t, zI_lt_f, zI_eq_t, zI_eq_f, zL_le_t, zL_le_f, zL_lt_t, zL_lt_f, zL_eq_t, zL_eq_f, zI_cl, zI_L, mI_t, Int.reduceToNat, nt_le_f, nt_le_t, lc_le, lc_lt, lc_gt, lc_eq, zI_div, Int.toNat_natCast, zI_max, zI_min, or_false, false_or, or_true, true_or, not_false_eq_true, not_true_eq_false, ↓reduceIte, and_self, and_true, true_and, and_false, false_and, not_or, gt_iff_lt, ge_iff_le, mBI_rI, mBJ_rJ, mBR_rV, mBR_rR, rZ_0, rZ_1, e1]
    refine Eq.trans e ?_
    rw [e_Model_copy_9]
    simp (disch := omega) only [Int.reduceEq, Int.reduceLT, Int.reduceLE, Int.reduceAdd, Int.reduceMul, Int.reduceSub, Int.reduceNeg, Int.reduceDiv, li_0, li_1, li_2, li_3, li_4, li_5, li_6, li_7, li_8, li_9, li_10, li_16, li_20, li_22, li_32, li_36, li_39, li_40, li_42, li_48, li_60, li_67, li_69, li_70, li_71, li_76, li_77, li_80, li_83, li_86, li_90, li_100, li_120, li_200, li_209, li_234, li_240, li_255, li_300, li_309, li_310, ll_0, ll_1, ll_3, ll_5, ll_7, ll_8, ll_9, ll_20, ll_39, ll_40, ll_60, ll_100, ll_120, ll_200, ll_209, ll_300, ll_309, ll_600, ll_1000000000, zI_neg, zI_add, zI_sub, zI_mul, zL_add, zL_sub, zL_mul, zL_neg, zI_suc, zN_I, zI_ofNat, zI_le_t, zI_le_f, zI_lt_t, zI_lt_f, zI_eq_t, zI_eq_f, zL_le_t, zL_le_f, zL_lt_t, zL_lt_f, zL_eq_t, zL_eq_f, zI_cl, zI_L, mI_t, Int.reduceToNat, nt_le_f, nt_le_t, lc_le, lc_lt, lc_gt, lc_eq, zI_div, Int.toNat_natCast, zI_max, zI_min, or_false, false_or, or_true, true_or, not_false_eq_true, not_true_eq_false, ↓reduceIte, and_self, and_true, true_and, and_false, false_and, not_or, gt_iff_lt, ge_iff_le, mBI_rI, mBJ_rJ, mBR_rV, mBR_rR, rZ_0, rZ_1]
  · obtain ⟨⟨a1, a2, a3, a4⟩, c2, c3⟩ := o1
    refine ⟨⟨a1.fr (by rw [f 46 (by simp)]) (f 47 (by simp)), a2.fr (by rw [f 46 (by simp)]) (f _ (by simp)) (f _ (by simp)) (f _ (by simp)) (f _ (by simp)) (f _ (by simp)) (f _ (by simp)), fun i hi => ?_, a4.fr (fun p _ _ => f p (by simp; omega))⟩, fun p hp => ?_, c3⟩
    · rw [r i hi, if_pos hi]
      rfl
    · rw [f p (by simp; omega), c2 p hp, up_nk (by omega)]
