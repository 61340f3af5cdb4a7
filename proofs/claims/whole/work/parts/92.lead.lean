/-! least of the reference; who leads -/
theorem upO_2 (R : Nat → Int) (p : Nat) (a b : Int) : upO (upO R p a) p b = upO R p b := by
  funext k
  unfold upO
  by_cases h : k = p
  · rw [if_pos h, if_pos h]
  · rw [if_neg h, if_neg h, if_neg h]
theorem upO_id (R : Nat → Int) (p : Nat) : upO R p (R p) = R := by
  funext k
  unfold upO
  by_cases h : k = p
  · rw [if_pos h, h]
  · rw [if_neg h]
theorem upT_2 (T : Nat → Nat → Int) (p t : Nat) (a b : Int) : upT (upT T p t a) p t b = upT T p t b := by
  funext k u
  unfold upT
  by_cases h : k = p ∧ u = t
  · rw [if_pos h, if_pos h]
  · rw [if_neg h, if_neg h, if_neg h]
theorem upT_id (T : Nat → Nat → Int) (p t : Nat) : upT T p t (T p t) = T := by
  funext k u
  unfold upT
  by_cases h : k = p ∧ u = t
  · rw [if_pos h, h.1, h.2]
  · rw [if_neg h]
theorem MI.s48 {y : sS} {M : mMI} (h : MI y M) (f : Int) : MI (sRu y (upO (yR y) 2 f)) (mUp M 48 2 (zI f)) := by
  obtain ⟨a1, a2, a3, a4⟩ := h
  refine ⟨mtH.fr a1 (congrFun (up_nk (by omega)) 2) (up_nk (by omega)), ?_, ?_, a4.fr (fun q _ _ => up_nk (by omega))⟩
  · obtain ⟨b1, b2, b3, b4, b5⟩ := a2
    refine ⟨?_, fun j hj => ?_, ?_, ?_, ?_⟩
    · rw [up_nk (by omega)]; exact b1
    · show mUp _ 48 _ _ 48 j = zI (upO (yR y) 2 f j)
      unfold upO
      by_cases hc : j = 2
      · rw [if_pos hc, hc, up_at]
      · rw [if_neg hc, up_ne hc]; exact b2 j hj
    · rw [up_nk (by omega), up_nk (by omega), up_nk (by omega)]; exact b3
    · rw [up_nk (by omega)]; exact b4
    · rw [up_nk (by omega)]; exact b5
  · rw [up_nk (by omega)]; exact a3
theorem MI.s56 {y : sS} {M : mMI} (h : MI y M) {p t : Nat} (hp : p < 6) (ht : t < 40) (v : Int) : MI (sT y (upT (yT y) p t v)) (mUp M 56 (40 * p + t) (zI v)) := by
  obtain ⟨a1, a2, a3, a4⟩ := h
  refine ⟨mtH.fr a1 (congrFun (up_nk (by omega)) 2) (up_nk (by omega)), ?_, ?_, a4.fr (fun q _ _ => up_nk (by omega))⟩
  · obtain ⟨b1, b2, b3, b4, b5⟩ := a2
    refine ⟨?_, ?_, ?_, ?_, fun k u hk hu => ?_⟩
    · rw [up_nk (by omega)]; exact b1
    · rw [up_nk (by omega)]; exact b2
    · rw [up_nk (by omega), up_nk (by omega), up_nk (by omega)]; exact b3
    · rw [up_nk (by omega)]; exact b4
    · show mUp _ 56 _ _ 56 _ = zI (upT (yT y) p t v k u)
      unfold upT
      by_cases hc : k = p ∧ u = t
      · rw [if_pos hc, hc.1, hc.2, up_at]
      · rw [if_neg hc, up_ne (by omega)]; exact b5 k u hk hu
  · rw [up_nk (by omega)]; exact a3
theorem MI.s57 {y : sS} {M : mMI} (h : MI y M) (p : Nat) (v : Int) : MI (sOu y (upO (yO y) p v)) (mUp M 57 p (zI v)) := by
  obtain ⟨a1, a2, a3, a4⟩ := h
  refine ⟨mtH.fr a1 (congrFun (up_nk (by omega)) 2) (up_nk (by omega)), ?_, ?_, a4.fr (fun q _ _ => up_nk (by omega))⟩
  · obtain ⟨b1, b2, b3, b4, b5⟩ := a2
    refine ⟨?_, ?_, ?_, fun k hk => ?_, ?_⟩
    · rw [up_nk (by omega)]; exact b1
    · rw [up_nk (by omega)]; exact b2
    · rw [up_nk (by omega), up_nk (by omega), up_nk (by omega)]; exact b3
    · show mUp _ 57 _ _ 57 _ = zI (upO (yO y) p v k)
      unfold upO
      by_cases hc : k = p
      · rw [if_pos hc, hc, up_at]
      · rw [if_neg hc, up_ne hc]; exact b4 k hk
    · rw [up_nk (by omega)]; exact b5
  · rw [up_nk (by omega)]; exact a3
theorem mO1.tr {y z : sS} {M N O : mMI} {J K L : mMJ} (h : mO1 y M J N K) (h2 : mO1 z N K O L) : mO1 z M J O L := ⟨h2.1, fun p hp => (h2.2.1 p hp).trans (h.2.1 p hp), fun p hp => (h2.2.2 p hp).trans (h.2.2 p hp)⟩
theorem cO1.tr {y z : sS} {M N O : mMI} {J K L : mMJ} (h : cO1 y M J N K) (h2 : cO1 z N K O L) : cO1 z M J O L := ⟨h2.1, fun p hp => (h2.2.1 p hp).trans (h.2.1 p hp), fun p hp => (h2.2.2 p hp).trans (h.2.2 p hp)⟩
theorem R_least {t x : Int} (ht : bz t) (hx : bz x) {y : sS} (hy : yOk y) {M : mMI} {J : mMJ} (h : MI y M) : mE y M J (k_Model_least (zI t) (zI x) M J) (a_least t x y) := by
  have hn := hy.2.1.1
  have h0 := h.u46 (i := 0) (by omega) (by omega) (zI 0)
  have ir := m_noRound ht
  obtain ⟨h3, h4⟩ := ht
  obtain ⟨h5, h6⟩ := hx
  rw [e_Model_least]
  unfold a_least
  by_cases c2 : 0 ≤ t ∧ t < 40
  · by_cases c3 : 0 ≤ x ∧ x ≤ 20
    · obtain ⟨u, rfl⟩ : ∃ u : Nat, t = (u : Int) := ⟨t.toNat, by omega⟩
      have r2 := h0.2.1.2.1 2 (by omega)
      have cb := cN_bd (wd_ok hy) (t := u) (by omega)
      have mb := mul_bd c3.1 c3.2 (show 0 ≤ cN (wd y) u by omega) cb.2
      have key : ∀ (m : Nat) (M : mMI) (J : mMJ) (c : Int), m ≤ 10 → MI (sRu y (upO (yR y) 2 c)) M → mE y M J (k_Model_least_25 (zI u) (zI x) (zI (yR y 2)) (zI (fst1 (fun f => x * cN (wd y) u ≤ poV (wF y (f : Int)) u (pu (wF y (f : Int)) u)) (10 - m) m)) (zI ((m : Int) - 1)) M J) (zI (fst1 (fun f => x * cN (wd y) u ≤ poV (wF y (f : Int)) u (pu (wF y (f : Int)) u)) 10 0)) := by
        intro m
        induction m with
        | zero =>
          intro M J c hm h
          have h2 := h.s48 (yR y 2)
          have e : sRu (sRu y (upO (yR y) 2 c)) (upO (yR (sRu y (upO (yR y) 2 c))) 2 (yR y 2)) = y := by
            show sRu y (upO (upO (yR y) 2 c) 2 (yR y 2)) = y
            rw [upO_2, upO_id]
            rfl
          rw [e] at h2
          refine ⟨mUp M 48 2 (zI (yR y 2)), J, ?_, h2, fun p hp => up_nk (by omega), fun _ _ => rfl⟩
          rw [e_Model_least_25]
          simp (disch := omega) only [Int.reduceEq, Int.reduceLT, Int.reduceLE, Int.reduceAdd, Int.reduceMul, Int.reduceSub, Int.reduceNeg, Int.reduceDiv, li_0, li_1, li_2, li_3, li_4, li_5, li_6, li_7, li_8, li_9, li_10, li_16, li_20, li_22, li_32, li_36, li_39, li_40, li_42, li_48, li_60, li_67, li_69, li_70, li_71, li_76, li_77, li_80, li_83, li_86, li_90, li_100, li_120, li_200, li_209, li_234, li_240, li_255, li_300, li_309, li_310, ll_0, ll_1, ll_3, ll_5, ll_7, ll_8, ll_9, ll_20, ll_39, ll_40, ll_60, ll_100, ll_120, ll_200, ll_209, ll_300, ll_309, ll_600, ll_1000000000, zI_neg, zI_add, zI_sub, zI_mul, zL_add, zL_sub, zL_mul, zL_neg, zI_suc, zN_I, zI_ofNat, zI_le_t, zI_le_f, zI_lt_t, zI_lt_f, zI_eq_t, zI_eq_f, zL_le_t, zL_le_f, zL_lt_t, zL_lt_f, zL_eq_t, zL_eq_f, zI_cl, zI_L, mI_t, Int.reduceToNat, nt_le_f, nt_le_t, lc_le, lc_lt, lc_gt, lc_eq, zI_div, Int.toNat_natCast, zI_max, zI_min, or_false, false_or, or_true, true_or, not_false_eq_true, not_true_eq_false, ↓reduceIte, and_self, and_true, true_and, and_false, false_and, not_or, gt_iff_lt, ge_iff_le, mBI_rI, mBJ_rJ, mBR_rV, mBR_rR, rZ_0, rZ_1]
        | succ m ih =>
          intro M J c hm h
          have h2 := h.s48 (m : Int)
          have e : sRu (sRu y (upO (yR y) 2 c)) (upO (yR (sRu y (upO (yR y) 2 c))) 2 (m : Int)) = sRu y (upO (yR y) 2 (m : Int)) := by
            show sRu y (upO (upO (yR y) 2 c) 2 (m : Int)) = _
            rw [upO_2]
          rw [e] at h2
          have hy2 : yOk (sRu y (upO (yR y) 2 (m : Int))) := ⟨hy.1, okRA_f hy.2.1 ⟨by omega, by omega⟩, hy.2.2⟩
          obtain ⟨N, K, e1, o, hmo, hr⟩ := R_run hy2 h2 J
          have hw2 := wd_ok hy2
          have ep : k_Model_potOf (zI u) N K = rI (zI (poV (wF y (m : Int)) u (pu (wF y (m : Int)) u))) N K := m_potOf hw2 hmo hr (t := u) (by omega)
          have ec : k_Model_inMany (zI u) N K = rI (zI (cN (wd y) u)) N K := m_inMany hw2 hmo (t := u) (by omega) K
          have bp : 0 ≤ poV (wF y (m : Int)) u (pu (wF y (m : Int)) u) ∧ poV (wF y (m : Int)) u (pu (wF y (m : Int)) u) ≤ 120 := poV_bd hw2 u (pu_bd hw2 (t := u) (by omega))
          obtain ⟨N2, K2, e2, o2⟩ := ih N K (m : Int) (by omega) o.1
          have ic : ((m + 1 : Nat) : Int) - 1 = (m : Int) := by omega
          have ic2 : (m : Int) + -1 = (m : Int) - 1 := by omega
          have ef : fst1 (fun f => x * cN (wd y) u ≤ poV (wF y (f : Int)) u (pu (wF y (f : Int)) u)) (10 - m) m = if x * cN (wd y) u ≤ poV (wF y (m : Int)) u (pu (wF y (m : Int)) u) then (m : Int) else fst1 (fun f => x * cN (wd y) u ≤ poV (wF y (f : Int)) u (pu (wF y (f : Int)) u)) (10 - (m + 1)) (m + 1) := by
            rw [show 10 - m = (10 - (m + 1)) + 1 by omega]
            rfl
          rw [ef] at e2
          refine ⟨N2, K2, ?_, mO1.tr (y := y) ⟨o2.1, fun p hp => ?_, fun p hp => ?_⟩ ⟨o2.1, fun p hp => rfl, fun p hp => rfl⟩⟩
          · rw [e_Model_least_25, ic]
            by_cases d : x * cN (wd y) u ≤ poV (wF y (m : Int)) u (pu (wF y (m : Int)) u)
            · rw [if_pos d] at e2
              simp (disch := omega) only [Int.reduceEq, Int.reduceLT, Int.reduceLE, Int.reduceAdd, Int.reduceMul, Int.reduceSub, Int.reduceNeg, Int.reduceDiv, li_0, li_1, li_2, li_3, li_4, li_5, li_6, li_7, li_8, li_9, li_10, li_16, li_20, li_22, li_32, li_36, li_39, li_40, li_42, li_48, li_60, li_67, li_69, li_70, li_71, li_76, li_77, li_80, li_83, li_86, li_90, li_100, li_120, li_200, li_209, li_234, li_240, li_255, li_300, li_309, li_310, ll_0, ll_1, ll_3, ll_5, ll_7, ll_8, ll_9, ll_20, ll_39, ll_40, ll_60, ll_100, ll_120, ll_200, ll_209, ll_300, ll_309, ll_600, ll_1000000000, zI_neg, zI_add, zI_sub, zI_mul, zL_add, zL_sub, zL_mul, zL_neg, zI_suc, zN_I, zI_ofNat, zI_le_t, zI_le_f, zI_lt_t, zI_lt_f, zI_eq_t, zI_eq_f, zL_le_t, zL_le_f, zL_lt_t, zL_lt_f, zL_eq_t, zL_eq_f, zI_cl, zI_L, mI_t, Int.reduceToNat, nt_le_f, nt_le_t, lc_le, lc_lt, lc_gt, lc_eq, zI_div, Int.toNat_natCast, zI_max, zI_min, or_false, false_or, or_true, true_or, not_false_eq_true, not_true_eq_false, ↓reduceIte, and_self, and_true, true_and, and_false, false_and, not_or, gt_iff_lt, ge_iff_le, mBI_rI, mBJ_rJ, mBR_rV, mBR_rR, rZ_0, rZ_1, e1, ep, ec, ic2, e2]
            · rw [if_neg d] at e2
              simp (disch := omega) only [Int.reduceEq, Int.reduceLT, Int.reduceLE, Int.reduceAdd, Int.reduceMul, Int.reduceSub, Int.reduceNeg, Int.reduceDiv, li_0, li_1, li_2, li_3, li_4, li_5, li_6, li_7, li_8, li_9, li_10, li_16, li_20, li_22, li_32, li_36, li_39, li_40, li_42, li_48, li_60, li_67, li_69, li_70, li_71, li_76, li_77, li_80, li_83, li_86, li_90, li_100, li_120, li_200, li_209, li_234, li_240, li_255, li_300, li_309, li_310, ll_0, ll_1, ll_3, ll_5, ll_7, ll_8, ll_9, ll_20, ll_39, ll_40, ll_60, ll_100, ll_120, ll_200, ll_209, ll_300, ll_309, ll_600, ll_1000000000, zI_neg, zI_add, zI_sub, zI_mul, zL_add, zL_sub, zL_mul, zL_neg, zI_suc, zN_I, zI_ofNat, zI_le_t, zI_le_f, zI_lt_t, zI_lt_f, zI_eq_t, zI_eq_f, zL_le_t, zL_le_f, zL_lt_t, zL_lt_f, zL_eq_t, zL_eq_f, zI_cl, zI_L, mI_t, Int.reduceToNat, nt_le_f, nt_le_t, lc_le, lc_lt, lc_gt, lc_eq, zI_div, Int.toNat_natCast, zI_max, zI_min, or_false, false_or, or_true, true_or, not_false_eq_true, not_true_eq_false, ↓reduceIte, and_self, and_true, true_and, and_false, false_and, not_or, gt_iff_lt, ge_iff_le, mBI_rI, mBJ_rJ, mBR_rV, mBR_rR, rZ_0, rZ_1, e1, ep, ec, ic2, e2]
          · rw [o2.2.1 p hp, o.2.1 p hp, up_nk (by omega)]
          · rw [o2.2.2 p hp, o.2.2 p hp]
      have h9 : MI (sRu y (upO (yR y) 2 (yR y 2))) (mUp M 46 0 (zI 0)) := by
        rw [upO_id]
        exact h0
      obtain ⟨N, K, e, o⟩ := key 10 (mUp M 46 0 (zI 0)) J (yR y 2) (by omega) h9
      refine ⟨N, K, ?_, o.of0⟩
      simp (disch := omega) only [Int.reduceEq, Int.reduceLT, Int.reduceLE, Int.reduceAdd, Int.reduceMul, Int.reduceSub, Int.reduceNeg, Int.reduceDiv, li_0, li_1, li_2, li_3, li_4, li_5, li_6, li_7, li_8, li_9, li_10, li_16, li_20, li_22, li_32, li_36, li_39, li_40, li_42, li_48, li_60, li_67, li_69, li_70, li_71, li_76, li_77, li_80, li_83, li_86, li_90, li_100, li_120, li_200, li_209, li_234, li_240, li_255, li_300, li_309, li_310, ll_0, ll_1, ll_3, ll_5, ll_7, ll_8, ll_9, ll_20, ll_39, ll_40, ll_60, ll_100, ll_120, ll_200, ll_209, ll_300, ll_309, ll_600, ll_1000000000, zI_neg, zI_add, zI_sub, zI_mul, zL_add, zL_sub, zL_mul, zL_neg, zI_suc, zN_I, zI_ofNat, zI_le_t, zI_le_f, zI_lt_t, zI_lt_f, zI_eq_t, zI_eq_f, zL_le_t, zL_le_f, zL_lt_t, zL_lt_f, zL_eq_t, zL_eq_f, zI_cl, zI_L, mI_t, Int.reduceToNat, nt_le_f, nt_le_t, lc_le, lc_lt, lc_gt, lc_eq, zI_div, Int.toNat_natCast, zI_max, zI_min, or_false, false_or, or_true, true_or, not_false_eq_true, not_true_eq_false, ↓reduceIte, and_self, and_true, true_and, and_false, false_and, not_or, gt_iff_lt, ge_iff_le, mBI_rI, mBJ_rJ, mBR_rV, mBR_rR, rZ_0, rZ_1, ir, c2, m_in, c3, r2]
      exact e
    · refine .same h ?_
      simp (disch := omega) only [Int.reduceEq, Int.reduceLT, Int.reduceLE, Int.reduceAdd, Int.reduceMul, Int.reduceSub, Int.reduceNeg, Int.reduceDiv, li_0, li_1, li_2, li_3, li_4, li_5, li_6, li_7, li_8, li_9, li_10, li_16, li_20, li_22, li_32, li_36, li_39, li_40, li_42, li_48, li_60, li_67, li_69, li_70, li_71, li_76, li_77, li_80, li_83, li_86, li_90, li_100, li_120, li_200, li_209, li_234, li_240, li_255, li_300, li_309, li_310, ll_0, ll_1, ll_3, ll_5, ll_7, ll_8, ll_9, ll_20, ll_39, ll_40, ll_60, ll_100, ll_120, ll_200, ll_209, ll_300, ll_309, ll_600, ll_1000000000, zI_neg, zI_add, zI_sub, zI_mul, zL_add, zL_sub, zL_mul, zL_neg, zI_suc, zN_I, zI_ofNat, zI_le_t, zI_le_f, zI_lt_t, zI_lt_f, zI_eq_t, zI_eq_f, zL_le_t, zL_le_f, zL_lt_t, zL_lt_f, zL_eq_t, zL_eq_f, zI_cl, zI_L, mI_t, Int.reduceToNat, nt_le_f, nt_le_t, lc_le, lc_lt, lc_gt, lc_eq, zI_div, Int.toNat_natCast, zI_max, zI_min, or_false, false_or, or_true, true_or, not_false_eq_true, not_true_eq_false, ↓reduceIte, and_self, and_true, true_and, and_false, false_and, not_or, gt_iff_lt, ge_iff_le, mBI_rI, mBJ_rJ, mBR_rV, mBR_rR, rZ_0, rZ_1, ir, c2, m_in, c3]
  · refine .same h ?_
    simp (disch := omega) only [Int.reduceEq, Int.reduceLT, Int.reduceLE, Int.reduceAdd, Int.reduceMul, Int.reduceSub, Int.reduceNeg, Int.reduceDiv, li_0, li_1, li_2, li_3, li_4, li_5, li_6, li_7, li_8, li_9, li_10, li_16, li_20, li_22, li_32, li_36, li_39, li_40, li_42, li_48, li_60, li_67, li_69, li_70, li_71, li_76, li_77, li_80, li_83, li_86, li_90, li_100, li_120, li_200, li_209, li_234, li_240, li_255, li_300, li_309, li_310, ll_0, ll_1, ll_3, ll_5, ll_7, ll_8, ll_9, ll_20, ll_39, ll_40, ll_60, ll_100, ll_120, ll_200, ll_209, ll_300, ll_309, ll_600, ll_1000000000, zI_neg, zI_add, zI_sub, zI_mul, zL_add, zL_sub, zL_mul, zL_neg, zI_suc, zN_I, zI_ofNat, zI_le_t, zI_le_f, zI_lt_t, zI_lt_f, zI_eq_t, zI_eq_f, zL_le_t, zL_le_f, zL_lt_t, zL_lt_f, zL_eq_t, zL_eq_f, zI_cl, zI_L, mI_t, Int.reduceToNat, nt_le_f, nt_le_t, lc_le, lc_lt, lc_gt, lc_eq, zI_div, Int.toNat_natCast, zI_max, zI_min, or_false, false_or, or_true, true_or, not_false_eq_true, not_true_eq_false, ↓reduceIte, and_self, and_true, true_and, and_false, false_and, not_or, gt_iff_lt, ge_iff_le, mBI_rI, mBJ_rJ, mBR_rV, mBR_rR, rZ_0, rZ_1, ir, c2]
/-- all at last, if one puts all in the first round -/
def yLd (y : sS) (p : Nat) : sS := sT y (upT (yT y) p 0 20)
def ldV (y : sS) (p : Nat) : Int := sm (yN y) (hoV (wd (yLd y p)) 40)
theorem yLd_ok {y : sS} (hy : yOk y) (p : Nat) : yOk (yLd y p) := by
  obtain ⟨a1, a2, a3, a4, a5, a6⟩ := hy
  refine ⟨a1, a2, ⟨a3.1, fun k u hk hu => ?_, a3.2.2⟩, a4, a5, a6⟩
  show upT (yT y) p 0 20 k u = -9 ∨ (0 ≤ upT (yT y) p 0 20 k u ∧ upT (yT y) p 0 20 k u ≤ 20)
  unfold upT
  split
  · omega
  · exact a3.2.1 k u hk hu
theorem P_lead {y : sS} (hy : yOk y) {M : mMI} {J : mMJ} (h : CI y M J) {p : Nat} (hp : p < yN y) : cEJ y M J (k_Pot_heldIfLedBy (zI (p : Int)) M J) (zL (ldV y p)) := by
  have hn := hy.2.1.1
  have hE := hy.2.1.2.1
  obtain ⟨N1, e1, f1, s1⟩ := c_take hy h
  have r0 : N1 8 0 = zI (yR y 0) := by rw [f1 8 (by simp)]; exact h.2.2.1.2.1 0 (by omega)
  have s2 : sbH 21 (yR y) (yN y) (yA y) (upT (yT y) p 0 (yR y 0)) (yO y) (mUp N1 26 p (zI (yR y 0))) := by
    obtain ⟨b1, b2, b3, b4, b5⟩ := s1
    refine ⟨?_, ?_, ?_, ?_, fun k u hk hu => ?_⟩
    · rw [up_nk (by omega)]; exact b1
    · rw [up_nk (by omega)]; exact b2
    · rw [up_nk (by omega), up_nk (by omega), up_nk (by omega)]; exact b3
    · rw [up_nk (by omega)]; exact b4
    · show mUp N1 26 p _ 26 _ = _
      unfold upT
      by_cases hc : k = p ∧ u = 0
      · rw [if_pos hc, hc.1, hc.2, show 6 * 0 + p = p by omega, up_at]
      · rw [if_neg hc, up_ne (by omega)]; exact b5 k u hk hu
  have k2 : okTO (yN y) (upT (yT y) p 0 (yR y 0)) (yO y) := by
    refine ⟨hy.2.2.1.1, fun k u hk hu => ?_, hy.2.2.1.2.2⟩
    unfold upT
    split
    · omega
    · exact hy.2.2.1.2.1 k u hk hu
  obtain ⟨N2, K, e2, f2, fk, hs, hC⟩ := c_trial s2 hy.2.1 k2 J
  have ew : mkW (yR y) (yN y) (yA y) (upT (yT y) p 0 (yR y 0)) (yO y) = wd (yLd y p) := by
    have : (fun k t => nT (yR y 0) (upT (yT y) p 0 (yR y 0) k t)) = (fun k t => nT (yR y 0) (upT (yT y) p 0 20 k t)) := by
      funext k t
      unfold upT nT
      by_cases hc : k = p ∧ t = 0
      · rw [if_pos hc, if_pos hc, if_neg (by omega), if_neg (by omega)]
        omega
      · rw [if_neg hc, if_neg hc]
    show (yR y, yN y, _, _) = (yR y, yN y, _, _)
    rw [this]
    rfl
  rw [ew] at hs hC
  have fr : ∀ q, q < 21 ∨ 35 ≤ q → N2 q = M q := fun q hq => by rw [f2 q (by omega), up_nk (by omega), f1 q (by simp; omega)]
  refine ⟨N2, K, ?_, h.tri fr fk, fun q hq => fr q (by omega), fun q hq => fk q (by omega)⟩
  have r := c_heldByAll (s := 21) (Or.inr rfl) (wd_ok (yLd_ok hy p)) hs (t := 39) (by omega) (J := K) (f := hoV (wd (yLd y p)) 40) (fun k hk => ((hC 39 (by omega)).1 k hk).2.2.2)
  have r : k_Course_heldByAll 21 (zI 39) N2 K = rJ (zL (ldV y p)) N2 K := r
  rw [e_Pot_heldIfLedBy]
  simp (disch := omega) only [Int.reduceEq, Int.reduceLT, Int.reduceLE, Int.reduceAdd, Int.reduceMul, Int.reduceSub, Int.reduceNeg, Int.reduceDiv, li_0, li_1, li_2, li_3, li_4, li_5, li_6, li_7, li_8, li_9, li_10, li_16, li_20, li_22, li_32, li_36, li_39, li_40, li_42, li_48, li_60, li_67, li_69, li_70, li_71, li_76, li_77, li_80, li_83, li_86, li_90, li_100, li_120, li_200, li_209, li_234, li_240, li_255, li_300, li_309, li_310, ll_0, ll_1, ll_3, ll_5, ll_7, ll_8, ll_9, ll_20, ll_39, ll_40, ll_60, ll_100, ll_120, ll_200, ll_209, ll_300, ll_309, ll_600, ll_1000000000, zI_neg, zI_add, zI_sub, zI_mul, zL_add, zL_sub, zL_mul, zL_neg, zI_suc, zN_I, zI_ofNat, zI_le_t, zI_le_f, zI_lt_t, zI_lt_f, zI_eq_t, zI_eq_f, zL_le_t, zL_le_f, zL_lt_t, zL_lt_f, zL_eq_t, zL_eq_f, zI_cl, zI_L, mI_t, Int.reduceToNat, nt_le_f, nt_le_t, lc_le, lc_lt, lc_gt, lc_eq, zI_div, Int.toNat_natCast, zI_max, zI_min, or_false, false_or, or_true, true_or, not_false_eq_true, not_true_eq_false, ↓reduceIte, and_self, and_true, true_and, and_false, false_and, not_or, gt_iff_lt, ge_iff_le, mBI_rI, mBJ_rJ, mBR_rV, mBR_rR, rZ_0, rZ_1, e1, r0, Int.zero_add, e2, r]
theorem R_lead {y : sS} (hy : yOk y) {M : mMI} {J : mMJ} (h : MI y M) {p : Nat} (hp : p < yN y) : mEJ y M J (k_Model_leadBy (zI (p : Int)) M J) (zL (ldV y p)) := by
  have hn := hy.2.1.1
  have h2 := h.s56 (p := p) (t := 0) (by omega) (by omega) 20
  have e56 := h.2.1.2.2.2.2 p 0 (by omega) (by omega)
  obtain ⟨N, K, e, o, hm, hr⟩ := R_run (yLd_ok hy p) h2 J
  have h3 := o.1.s56 (p := p) (t := 0) (by omega) (by omega) (yT y p 0)
  have ey : sT (sT y (upT (yT y) p 0 20)) (upT (yT (sT y (upT (yT y) p 0 20))) p 0 (yT y p 0)) = y := by
    show sT y (upT (upT (yT y) p 0 20) p 0 (yT y p 0)) = y
    rw [upT_2, upT_id]
    rfl
  have h3 : MI y (mUp N 56 (40 * p + 0) (zI (yT y p 0))) := by
    have q : MI (sT (sT y (upT (yT y) p 0 20)) (upT (yT (sT y (upT (yT y) p 0 20))) p 0 (yT y p 0))) (mUp N 56 (40 * p + 0) (zI (yT y p 0))) := h3
    rw [ey] at q
    exact q
  refine ⟨mUp N 56 (40 * p + 0) (zI (yT y p 0)), K, ?_, h3, fun q hq => ?_, o.2.2⟩
  · have r := m_sumAt (n := yN y) (M := mUp N 56 (40 * p + 0) (zI (yT y p 0))) (by rw [up_nk (by omega)]; exact hm.1) hn.2 (t := 39) (by omega) (J := K) (f := hoV (wd (yLd y p)) 40) (fun k hk => (hr 39 (by omega) k hk).2.2)
    have r : k_Model_sumAt (zI 39) (mUp N 56 (40 * p + 0) (zI (yT y p 0))) K = rJ (zL (ldV y p)) _ K := r
    have ix : (40 * (p : Int)).toNat = 40 * p + 0 := by omega
    rw [e_Model_leadBy]
    simp (disch := omega) only [Int.reduceEq, Int.reduceLT, Int.reduceLE, Int.reduceAdd, Int.reduceMul, Int.reduceSub, Int.reduceNeg, Int.reduceDiv, li_0, li_1, li_2, li_3, li_4, li_5, li_6, li_7, li_8, li_9, li_10, li_16, li_20, li_22, li_32, li_36, li_39, li_40, li_42, li_48, li_60, li_67, li_69, li_70, li_71, li_76, li_77, li_80, li_83, li_86, li_90, li_100, li_120, li_200, li_209, li_234, li_240, li_255, li_300, li_309, li_310, ll_0, ll_1, ll_3, ll_5, ll_7, ll_8, ll_9, ll_20, ll_39, ll_40, ll_60, ll_100, ll_120, ll_200, ll_209, ll_300, ll_309, ll_600, ll_1000000000, zI_neg, zI_add, zI_sub, zI_mul, zL_add, zL_sub, zL_mul, zL_neg, zI_suc, zN_I, zI_ofNat, zI_le_t, zI_le_f, zI_lt_t, zI_lt_f, zI_eq_t, zI_eq_f, zL_le_t, zL_le_f, zL_lt_t, zL_lt_f, zL_eq_t, zL_eq_f, zI_cl, zI_L, mI_t, Int.reduceToNat, nt_le_f, nt_le_t, lc_le, lc_lt, lc_gt, lc_eq, zI_div, Int.toNat_natCast, zI_max, zI_min, or_false, false_or, or_true, true_or, not_false_eq_true, not_true_eq_false, ↓reduceIte, and_self, and_true, true_and, and_false, false_and, not_or, gt_iff_lt, ge_iff_le, mBI_rI, mBJ_rJ, mBR_rV, mBR_rR, rZ_0, rZ_1, ix, e, e56, r]
  · rw [up_nk (by omega), o.2.1 q hq, up_nk (by omega)]
