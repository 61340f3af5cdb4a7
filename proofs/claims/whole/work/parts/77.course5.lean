/-! THE COURSE, what one would get -/
theorem lL_not (x y : Int64) : (x ≤ y) = ¬ (y < x) := by
  rw [Int64.le_iff_toInt_le, Int64.lt_iff_toInt_lt]
  exact propext ⟨fun h => by omega, fun h => by omega⟩
/-- what one gets by another put -/
def gnV (w : wW) (t k : Nat) (v : Int) : Int := geV w t (upP (pu w t) k v) (pyP w t (upP (pu w t) k v) (St w t).2) k
/-- the best put of 0 to m -/
def bpV (w : wW) (t k : Nat) : Nat → Nat
  | 0 => 0
  | m + 1 => if zL (gnV w t k (bpV w t k m)) < zL (gnV w t k ((m + 1 : Nat) : Int)) then m + 1 else bpV w t k m
/-- whether the first m put what was best -/
def rsV (w : wW) (t : Nat) : Nat → Int
  | 0 => 1
  | m + 1 => if (t : Int) < wA w 3 m ∧ zL (gnV w t m (pu w t m)) < zL (gnV w t m (bpV w t m (wR w 0).toNat : Nat)) then 0 else rsV w t m
theorem bpV_le (w : wW) (t k : Nat) : ∀ m, bpV w t k m ≤ m
  | 0 => Nat.le_refl 0
  | m + 1 => by
    have h := bpV_le w t k m
    have e : bpV w t k (m + 1) = if zL (gnV w t k (bpV w t k m)) < zL (gnV w t k ((m + 1 : Nat) : Int)) then m + 1 else bpV w t k m := rfl
    rw [e]
    split
    · exact Nat.le_refl _
    · exact Nat.le_succ_of_le h
theorem rsV_0 (w : wW) (t : Nat) {m : Nat} (h : rsV w t m = 0) : ∀ {n}, m ≤ n → rsV w t n = 0 := by
  intro n hn
  induction n with
  | zero => rw [show (0 : Nat) = m by omega]; exact h
  | succ n ih =>
    by_cases e : m = n + 1
    · rw [← e]; exact h
    · show (if _ then (0 : Int) else rsV w t n) = 0
      rw [ih (by omega)]
      split <;> rfl
theorem rsV_01 (w : wW) (t : Nat) : ∀ m, rsV w t m = 0 ∨ rsV w t m = 1
  | 0 => Or.inr rfl
  | m + 1 => by
    have e : rsV w t (m + 1) = if (t : Int) < wA w 3 m ∧ zL (gnV w t m (pu w t m)) < zL (gnV w t m (bpV w t m (wR w 0).toNat : Nat)) then 0 else rsV w t m := rfl
    rw [e]
    split
    · exact Or.inl rfl
    · exact rsV_01 w t m
theorem upP_bd {w : wW} {p : Nat → Int} (h : pOk w p) (a : Int) {v : Int} (hv : 0 ≤ v) (hv' : v ≤ 20) : pOk w (upP p a v) := by
  intro k hk
  have := h k hk
  unfold upP
  split <;> omega
theorem coH.fr {s : Nat} {w : wW} {m : Nat} {M N : mMI} {J K : mMJ} (h : coH s w m M J) (h8 : N (s + 8) = M (s + 8)) (h9 : N (s + 9) = M (s + 9)) (h10 : N (s + 10) = M (s + 10)) (h12 : N (s + 12) = M (s + 12)) (hJ : K (s + 11) = J (s + 11)) : coH s w m N K := by
  unfold coH
  rw [h8, h9, h10, h12, hJ]
  exact h
theorem c_gotBy {s : Nat} (hs : s = 7 ∨ s = 21) {w : wW} (hw : wOk w) {M : mMI} {J : mMJ} (hS : suH s w M) (hC : coH s w 40 M J) {t : Nat} (ht : t < 40) {k : Nat} (hk : k < wN w) (hi : (t : Int) < wA w 3 k) {v : Int} (hv : 0 ≤ v) (hv' : v ≤ 20) : ∃ N, k_Course_gotBy s (zI k) (zI t) (zI v) M J = rJ (zL (gnV w t k v)) N J ∧ fR [s + 7, s + 13] M N := by
  have hn := hw.1
  have hub := upP_bd (pu_bd hw ht) (k : Int) hv hv'
  have q2 := St_2 hw t
  obtain ⟨N, e, f, hp⟩ := c_lookAt hs hw hS ht (p := pu w t) (fun k hk => ((hC t ht).1 k hk).1) (pu_bd hw ht) (a := (k : Int)) (v := v) (Or.inr ⟨by omega, by omega, by rw [Int.toNat_natCast]; exact hi⟩) hv hv' J
  refine ⟨N, ?_, f⟩
  have hS' : suH s w N := hS.fr (fun a h1 h2 => f a (by simp; omega))
  have hq : pvQ s w t (St w t).2 N := by
    intro u hu a b ha hb
    subst hu
    rw [f (s + 9) (by simp)]
    exact ((hC u (by omega)).1 a ha).2.1 b hb
  have db := pyP_bd hw (t := t) (upP (pu w t) k v) q2
  have hd : ∀ {a b : Nat}, a < wN w → b < wN w → ∀ J, k_Course_dueFrom s (zI a) (zI b) (zI t) N J = rI (zI (pyP w t (upP (pu w t) k v) (St w t).2 a b)) N J := fun ha hb J => c_due hs hw hS' ht hp hub hq q2 (fun h k e => by subst h; rfl) ha hb J
  rw [e_Course_gotBy s hs, e, mBR_rV]
  simp only [li_0, li_1, li_2, li_3, li_4, li_5, li_6, li_7, li_8, li_9, li_10, li_16, li_20, li_22, li_32, li_36, li_39, li_40, li_42, li_48, li_60, li_67, li_69, li_70, li_71, li_76, li_77, li_80, li_83, li_86, li_90, li_100, li_120, li_200, li_209, li_234, li_240, li_255, li_300, li_309, li_310, ll_0, ll_1, ll_3, ll_5, ll_7, ll_8, ll_9, ll_20, ll_39, ll_40, ll_60, ll_100, ll_120, ll_200, ll_209, ll_300, ll_309, ll_600, ll_1000000000, zI_neg, zI_add, zI_sub, zI_mul, zL_add, zL_sub, zL_mul, zL_neg, zI_suc, zN_I, zI_ofNat]
  refine lp_seq (fun j => k_Course_gotBy_9 s (zI k) (zI t) (zL (sm j (fun e => wR w 3 * pyP w t (upP (pu w t) k v) (St w t).2 k e + wR w 2 * pyP w t (upP (pu w t) k v) (St w t).2 e k))) (zI (j : Int)) N J) (wN w) (fun j hj => ?_) ?_
  · rw [e_Course_gotBy_9 s hs]
    have b1 := db k j hk hj
    have b2 := db j k hj hk
    have m1 := mul_bd (by have := hw.2.2.2.2.1.1; omega) hw.2.2.2.2.1.2 b1.1 b1.2
    have m2 := mul_bd hw.2.2.2.1.1 hw.2.2.2.1.2 b2.1 b2.2
    simp (disch := omega) only [Int.reduceEq, Int.reduceLT, Int.reduceLE, Int.reduceAdd, Int.reduceMul, Int.reduceSub, Int.reduceNeg, Int.reduceDiv, li_0, li_1, li_2, li_3, li_4, li_5, li_6, li_7, li_8, li_9, li_10, li_16, li_20, li_22, li_32, li_36, li_39, li_40, li_42, li_48, li_60, li_67, li_69, li_70, li_71, li_76, li_77, li_80, li_83, li_86, li_90, li_100, li_120, li_200, li_209, li_234, li_240, li_255, li_300, li_309, li_310, ll_0, ll_1, ll_3, ll_5, ll_7, ll_8, ll_9, ll_20, ll_39, ll_40, ll_60, ll_100, ll_120, ll_200, ll_209, ll_300, ll_309, ll_600, ll_1000000000, zI_neg, zI_add, zI_sub, zI_mul, zL_add, zL_sub, zL_mul, zL_neg, zI_suc, zN_I, zI_ofNat, zI_le_t, zI_le_f, zI_lt_t, zI_lt_f, zI_eq_t, zI_eq_f, zL_le_t, zL_le_f, zL_lt_t, zL_lt_f, zL_eq_t, zL_eq_f, zI_cl, zI_L, mI_t, Int.reduceToNat, nt_le_f, nt_le_t, lc_le, lc_lt, lc_gt, lc_eq, zI_div, Int.toNat_natCast, zI_max, zI_min, or_false, false_or, or_true, true_or, not_false_eq_true, not_true_eq_false, ↓reduceIte, and_self, and_true, true_and, and_false, false_and, not_or, gt_iff_lt, ge_iff_le, mBI_rI, mBJ_rJ, mBR_rV, mBR_rR, rZ_0, rZ_1, hS'.1, hd hk hj, hd hj hk, c_loss hs hS', sm_s]
  · rw [e_Course_gotBy_9 s hs]
    have el : sm (wN w) (fun e => wR w 3 * pyP w t (upP (pu w t) k v) (St w t).2 k e + wR w 2 * pyP w t (upP (pu w t) k v) (St w t).2 e k) = loV w (pyP w t (upP (pu w t) k v) (St w t).2) k := by
      rw [sm_add, sm_mul, sm_mul]
      rfl
    rw [el]
    simp (disch := omega) only [Int.reduceEq, Int.reduceLT, Int.reduceLE, Int.reduceAdd, Int.reduceMul, Int.reduceSub, Int.reduceNeg, Int.reduceDiv, li_0, li_1, li_2, li_3, li_4, li_5, li_6, li_7, li_8, li_9, li_10, li_16, li_20, li_22, li_32, li_36, li_39, li_40, li_42, li_48, li_60, li_67, li_69, li_70, li_71, li_76, li_77, li_80, li_83, li_86, li_90, li_100, li_120, li_200, li_209, li_234, li_240, li_255, li_300, li_309, li_310, ll_0, ll_1, ll_3, ll_5, ll_7, ll_8, ll_9, ll_20, ll_39, ll_40, ll_60, ll_100, ll_120, ll_200, ll_209, ll_300, ll_309, ll_600, ll_1000000000, zI_neg, zI_add, zI_sub, zI_mul, zL_add, zL_sub, zL_mul, zL_neg, zI_suc, zN_I, zI_ofNat, zI_le_t, zI_le_f, zI_lt_t, zI_lt_f, zI_eq_t, zI_eq_f, zL_le_t, zL_le_f, zL_lt_t, zL_lt_f, zL_eq_t, zL_eq_f, zI_cl, zI_L, mI_t, Int.reduceToNat, nt_le_f, nt_le_t, lc_le, lc_lt, lc_gt, lc_eq, zI_div, Int.toNat_natCast, zI_max, zI_min, or_false, false_or, or_true, true_or, not_false_eq_true, not_true_eq_false, ↓reduceIte, and_self, and_true, true_and, and_false, false_and, not_or, gt_iff_lt, ge_iff_le, mBI_rI, mBJ_rJ, mBR_rV, mBR_rR, rZ_0, rZ_1, hS'.1, c_gotPot hs hw hS' ht hp hub hk hi]
    rfl
theorem c_bestPut {s : Nat} (hs : s = 7 ∨ s = 21) {w : wW} (hw : wOk w) {M : mMI} {J : mMJ} (hS : suH s w M) (hC : coH s w 40 M J) {t : Nat} (ht : t < 40) {k : Nat} (hk : k < wN w) (hi : (t : Int) < wA w 3 k) : ∃ N, k_Course_bestPut s (zI k) (zI t) M J = rI (zI (bpV w t k (wR w 0).toNat : Nat)) N J ∧ fR [s + 7, s + 13] M N := by
  have hn := hw.1
  have hE := hw.2.1
  obtain ⟨N0, e0, f0⟩ := c_gotBy hs hw hS hC ht hk hi (v := 0) (by omega) (by omega)
  rw [e_Course_bestPut s hs]
  simp only [li_0, li_1, li_2, li_3, li_4, li_5, li_6, li_7, li_8, li_9, li_10, li_16, li_20, li_22, li_32, li_36, li_39, li_40, li_42, li_48, li_60, li_67, li_69, li_70, li_71, li_76, li_77, li_80, li_83, li_86, li_90, li_100, li_120, li_200, li_209, li_234, li_240, li_255, li_300, li_309, li_310, ll_0, ll_1, ll_3, ll_5, ll_7, ll_8, ll_9, ll_20, ll_39, ll_40, ll_60, ll_100, ll_120, ll_200, ll_209, ll_300, ll_309, ll_600, ll_1000000000, zI_neg, zI_add, zI_sub, zI_mul, zL_add, zL_sub, zL_mul, zL_neg, zI_suc, zN_I, zI_ofNat]
  rw [e0, mBJ_rJ]
  refine lp_Q (α := mMI) (fun N j => k_Course_bestPut_10 s (zI k) (zI t) (zI (bpV w t k j : Nat)) (zL (gnV w t k (bpV w t k j : Nat))) (zI ((j + 1 : Nat) : Int)) N J) (fun j N => fR [s + 7, s + 13] M N) (fun o => ∃ N, o = rI (zI (bpV w t k (wR w 0).toNat : Nat)) N J ∧ fR [s + 7, s + 13] M N) (wR w 0).toNat ?_ ?_ N0 f0
  · intro j N hj i1
    right
    have hS' : suH s w N := hS.fr (fun a h1 h2 => i1 a (by simp; omega))
    have hC' : coH s w 40 N J := hC.fr (i1 _ (by simp)) (i1 _ (by simp)) (i1 _ (by simp)) (i1 _ (by simp)) rfl
    have r0 := hS'.2.1 0 (by omega)
    obtain ⟨N2, e2, f2⟩ := c_gotBy hs hw hS' hC' ht hk hi (v := ((j + 1 : Nat) : Int)) (by omega) (by omega)
    refine ⟨N2, i1.tr f2, ?_⟩
    rw [e_Course_bestPut_10 s hs]
    by_cases h : zL (gnV w t k (bpV w t k j : Nat)) < zL (gnV w t k ((j + 1 : Nat) : Int))
    · have eb : bpV w t k (j + 1) = j + 1 := if_pos h
      simp (disch := omega) only [Int.reduceEq, Int.reduceLT, Int.reduceLE, Int.reduceAdd, Int.reduceMul, Int.reduceSub, Int.reduceNeg, Int.reduceDiv, li_0, li_1, li_2, li_3, li_4, li_5, li_6, li_7, li_8, li_9, li_10, li_16, li_20, li_22, li_32, li_36, li_39, li_40, li_42, li_48, li_60, li_67, li_69, li_70, li_71, li_76, li_77, li_80, li_83, li_86, li_90, li_100, li_120, li_200, li_209, li_234, li_240, li_255, li_300, li_309, li_310, ll_0, ll_1, ll_3, ll_5, ll_7, ll_8, ll_9, ll_20, ll_39, ll_40, ll_60, ll_100, ll_120, ll_200, ll_209, ll_300, ll_309, ll_600, ll_1000000000, zI_neg, zI_add, zI_sub, zI_mul, zL_add, zL_sub, zL_mul, zL_neg, zI_suc, zN_I, zI_ofNat, zI_le_t, zI_le_f, zI_lt_t, zI_lt_f, zI_eq_t, zI_eq_f, zL_le_t, zL_le_f, zL_lt_t, zL_lt_f, zL_eq_t, zL_eq_f, zI_cl, zI_L, mI_t, Int.reduceToNat, nt_le_f, nt_le_t, lc_le, lc_lt, lc_gt, lc_eq, zI_div, Int.toNat_natCast, zI_max, zI_min, or_false, false_or, or_true, true_or, not_false_eq_true, not_true_eq_false, ↓reduceIte, and_self, and_true, true_and, and_false, false_and, not_or, gt_iff_lt, ge_iff_le, mBI_rI, mBJ_rJ, mBR_rV, mBR_rR, rZ_0, rZ_1, r0, e2, lL_not, h, eb]
    · have eb : bpV w t k (j + 1) = bpV w t k j := if_neg h
      simp (disch := omega) only [Int.reduceEq, Int.reduceLT, Int.reduceLE, Int.reduceAdd, Int.reduceMul, Int.reduceSub, Int.reduceNeg, Int.reduceDiv, li_0, li_1, li_2, li_3, li_4, li_5, li_6, li_7, li_8, li_9, li_10, li_16, li_20, li_22, li_32, li_36, li_39, li_40, li_42, li_48, li_60, li_67, li_69, li_70, li_71, li_76, li_77, li_80, li_83, li_86, li_90, li_100, li_120, li_200, li_209, li_234, li_240, li_255, li_300, li_309, li_310, ll_0, ll_1, ll_3, ll_5, ll_7, ll_8, ll_9, ll_20, ll_39, ll_40, ll_60, ll_100, ll_120, ll_200, ll_209, ll_300, ll_309, ll_600, ll_1000000000, zI_neg, zI_add, zI_sub, zI_mul, zL_add, zL_sub, zL_mul, zL_neg, zI_suc, zN_I, zI_ofNat, zI_le_t, zI_le_f, zI_lt_t, zI_lt_f, zI_eq_t, zI_eq_f, zL_le_t, zL_le_f, zL_lt_t, zL_lt_f, zL_eq_t, zL_eq_f, zI_cl, zI_L, mI_t, Int.reduceToNat, nt_le_f, nt_le_t, lc_le, lc_lt, lc_gt, lc_eq, zI_div, Int.toNat_natCast, zI_max, zI_min, or_false, false_or, or_true, true_or, not_false_eq_true, not_true_eq_false, ↓reduceIte, and_self, and_true, true_and, and_false, false_and, not_or, gt_iff_lt, ge_iff_le, mBI_rI, mBJ_rJ, mBR_rV, mBR_rR, rZ_0, rZ_1, r0, e2, lL_not, h, eb]
  · intro N i1
    have hS' : suH s w N := hS.fr (fun a h1 h2 => i1 a (by simp; omega))
    have r0 := hS'.2.1 0 (by omega)
    refine ⟨N, ?_, i1⟩
    rw [e_Course_bestPut_10 s hs]
    simp (disch := omega) only [Int.reduceEq, Int.reduceLT, Int.reduceLE, Int.reduceAdd, Int.reduceMul, Int.reduceSub, Int.reduceNeg, Int.reduceDiv, li_0, li_1, li_2, li_3, li_4, li_5, li_6, li_7, li_8, li_9, li_10, li_16, li_20, li_22, li_32, li_36, li_39, li_40, li_42, li_48, li_60, li_67, li_69, li_70, li_71, li_76, li_77, li_80, li_83, li_86, li_90, li_100, li_120, li_200, li_209, li_234, li_240, li_255, li_300, li_309, li_310, ll_0, ll_1, ll_3, ll_5, ll_7, ll_8, ll_9, ll_20, ll_39, ll_40, ll_60, ll_100, ll_120, ll_200, ll_209, ll_300, ll_309, ll_600, ll_1000000000, zI_neg, zI_add, zI_sub, zI_mul, zL_add, zL_sub, zL_mul, zL_neg, zI_suc, zN_I, zI_ofNat, zI_le_t, zI_le_f, zI_lt_t, zI_lt_f, zI_eq_t, zI_eq_f, zL_le_t, zL_le_f, zL_lt_t, zL_lt_f, zL_eq_t, zL_eq_f, zI_cl, zI_L, mI_t, Int.reduceToNat, nt_le_f, nt_le_t, lc_le, lc_lt, lc_gt, lc_eq, zI_div, Int.toNat_natCast, zI_max, zI_min, or_false, false_or, or_true, true_or, not_false_eq_true, not_true_eq_false, ↓reduceIte, and_self, and_true, true_and, and_false, false_and, not_or, gt_iff_lt, ge_iff_le, mBI_rI, mBJ_rJ, mBR_rV, mBR_rR, rZ_0, rZ_1, r0]
theorem c_isAtRest {s : Nat} (hs : s = 7 ∨ s = 21) {w : wW} (hw : wOk w) {M : mMI} {J : mMJ} (hS : suH s w M) (hC : coH s w 40 M J) {t : Nat} (ht : t < 40) : ∃ N, k_Course_isAtRest s (zI t) M J = rI (zI (rsV w t (wN w))) N J ∧ fR [s + 7, s + 13] M N := by
  have hn := hw.1
  have hE := hw.2.1
  rw [e_Course_isAtRest s hs]
  simp only [li_0, li_1, li_2, li_3, li_4, li_5, li_6, li_7, li_8, li_9, li_10, li_16, li_20, li_22, li_32, li_36, li_39, li_40, li_42, li_48, li_60, li_67, li_69, li_70, li_71, li_76, li_77, li_80, li_83, li_86, li_90, li_100, li_120, li_200, li_209, li_234, li_240, li_255, li_300, li_309, li_310, ll_0, ll_1, ll_3, ll_5, ll_7, ll_8, ll_9, ll_20, ll_39, ll_40, ll_60, ll_100, ll_120, ll_200, ll_209, ll_300, ll_309, ll_600, ll_1000000000, zI_neg, zI_add, zI_sub, zI_mul, zL_add, zL_sub, zL_mul, zL_neg, zI_suc, zN_I, zI_ofNat]
  refine lp_Q (α := mMI) (fun N j => k_Course_isAtRest_2 s (zI t) (zI (j : Int)) N J) (fun j N => rsV w t j = 1 ∧ fR [s + 7, s + 13] M N) (fun o => ∃ N, o = rI (zI (rsV w t (wN w))) N J ∧ fR [s + 7, s + 13] M N) (wN w) ?_ ?_ M ⟨rfl, fR.rf⟩
  · intro j N hj ⟨i0, i1⟩
    have hS' : suH s w N := hS.fr (fun a h1 h2 => i1 a (by simp; omega))
    have hC' : coH s w 40 N J := hC.fr (i1 _ (by simp)) (i1 _ (by simp)) (i1 _ (by simp)) (i1 _ (by simp)) rfl
    rw [e_Course_isAtRest_2 s hs]
    by_cases hi : (t : Int) < wA w 3 j
    · obtain ⟨N2, e2, f2⟩ := c_bestPut hs hw hS' hC' ht hj hi
      have hS2 : suH s w N2 := hS'.fr (fun a h1 h2 => f2 a (by simp; omega))
      have hC2 : coH s w 40 N2 J := hC'.fr (f2 _ (by simp)) (f2 _ (by simp)) (f2 _ (by simp)) (f2 _ (by simp)) rfl
      have bl := bpV_le w t j (wR w 0).toNat
      obtain ⟨N3, e3, f3⟩ := c_gotBy hs hw hS2 hC2 ht hj hi (v := (bpV w t j (wR w 0).toNat : Nat)) (by omega) (by omega)
      have hS3 : suH s w N3 := hS2.fr (fun a h1 h2 => f3 a (by simp; omega))
      have hC3 : coH s w 40 N3 J := hC2.fr (f3 _ (by simp)) (f3 _ (by simp)) (f3 _ (by simp)) (f3 _ (by simp)) rfl
      have pb := pu_bd hw ht j hj
      obtain ⟨N4, e4, f4⟩ := c_gotBy hs hw hS3 hC3 ht hj hi (v := pu w t j) (by omega) (by omega)
      have ep := ((hC3 t ht).1 j hj).1
      rw [if_pos hi] at ep
      have ix : ((t : Int) * 6 + (j : Int)).toNat = 6 * t + j := by omega
      by_cases h : zL (gnV w t j (pu w t j)) < zL (gnV w t j (bpV w t j (wR w 0).toNat : Nat))
      · left
        have es : rsV w t (j + 1) = 0 := if_pos ⟨hi, h⟩
        refine ⟨N4, ?_, ((i1.tr f2).tr f3).tr f4⟩
        rw [rsV_0 w t es (by omega)]
        simp (disch := omega) only [Int.reduceEq, Int.reduceLT, Int.reduceLE, Int.reduceAdd, Int.reduceMul, Int.reduceSub, Int.reduceNeg, Int.reduceDiv, li_0, li_1, li_2, li_3, li_4, li_5, li_6, li_7, li_8, li_9, li_10, li_16, li_20, li_22, li_32, li_36, li_39, li_40, li_42, li_48, li_60, li_67, li_69, li_70, li_71, li_76, li_77, li_80, li_83, li_86, li_90, li_100, li_120, li_200, li_209, li_234, li_240, li_255, li_300, li_309, li_310, ll_0, ll_1, ll_3, ll_5, ll_7, ll_8, ll_9, ll_20, ll_39, ll_40, ll_60, ll_100, ll_120, ll_200, ll_209, ll_300, ll_309, ll_600, ll_1000000000, zI_neg, zI_add, zI_sub, zI_mul, zL_add, zL_sub, zL_mul, zL_neg, zI_suc, zN_I, zI_ofNat, zI_le_t, zI_le_f, zI_lt_t, zI_lt_f, zI_eq_t, zI_eq_f, zL_le_t, zL_le_f, zL_lt_t, zL_lt_f, zL_eq_t, zL_eq_f, zI_cl, zI_L, mI_t, Int.reduceToNat, nt_le_f, nt_le_t, lc_le, lc_lt, lc_gt, lc_eq, zI_div, Int.toNat_natCast, zI_max, zI_min, or_false, false_or, or_true, true_or, not_false_eq_true, not_true_eq_false, ↓reduceIte, and_self, and_true, true_and, and_false, false_and, not_or, gt_iff_lt, ge_iff_le, mBI_rI, mBJ_rJ, mBR_rV, mBR_rR, rZ_0, rZ_1, hS'.1, c_isIn hs hw hS' hj (t := t) (by omega) J, hi, e2, e3, ix, ep, e4, lL_not, h]
      · right
        have es : rsV w t (j + 1) = 1 := (if_neg (fun q => h q.2)).trans i0
        refine ⟨N4, ⟨es, ((i1.tr f2).tr f3).tr f4⟩, ?_⟩
        simp (disch := omega) only [Int.reduceEq, Int.reduceLT, Int.reduceLE, Int.reduceAdd, Int.reduceMul, Int.reduceSub, Int.reduceNeg, Int.reduceDiv, li_0, li_1, li_2, li_3, li_4, li_5, li_6, li_7, li_8, li_9, li_10, li_16, li_20, li_22, li_32, li_36, li_39, li_40, li_42, li_48, li_60, li_67, li_69, li_70, li_71, li_76, li_77, li_80, li_83, li_86, li_90, li_100, li_120, li_200, li_209, li_234, li_240, li_255, li_300, li_309, li_310, ll_0, ll_1, ll_3, ll_5, ll_7, ll_8, ll_9, ll_20, ll_39, ll_40, ll_60, ll_100, ll_120, ll_200, ll_209, ll_300, ll_309, ll_600, ll_1000000000, zI_neg, zI_add, zI_sub, zI_mul, zL_add, zL_sub, zL_mul, zL_neg, zI_suc, zN_I, zI_ofNat, zI_le_t, zI_le_f, zI_lt_t, zI_lt_f, zI_eq_t, zI_eq_f, zL_le_t, zL_le_f, zL_lt_t, zL_lt_f, zL_eq_t, zL_eq_f, zI_cl, zI_L, mI_t, Int.reduceToNat, nt_le_f, nt_le_t, lc_le, lc_lt, lc_gt, lc_eq, zI_div, Int.toNat_natCast, zI_max, zI_min, or_false, false_or, or_true, true_or, not_false_eq_true, not_true_eq_false, ↓reduceIte, and_self, and_true, true_and, and_false, false_and, not_or, gt_iff_lt, ge_iff_le, mBI_rI, mBJ_rJ, mBR_rV, mBR_rR, rZ_0, rZ_1, hS'.1, c_isIn hs hw hS' hj (t := t) (by omega) J, hi, e2, e3, ix, ep, e4, lL_not, h]
    · right
      have es : rsV w t (j + 1) = 1 := (if_neg (fun q => hi q.1)).trans i0
      refine ⟨N, ⟨es, i1⟩, ?_⟩
      simp (disch := omega) only [Int.reduceEq, Int.reduceLT, Int.reduceLE, Int.reduceAdd, Int.reduceMul, Int.reduceSub, Int.reduceNeg, Int.reduceDiv, li_0, li_1, li_2, li_3, li_4, li_5, li_6, li_7, li_8, li_9, li_10, li_16, li_20, li_22, li_32, li_36, li_39, li_40, li_42, li_48, li_60, li_67, li_69, li_70, li_71, li_76, li_77, li_80, li_83, li_86, li_90, li_100, li_120, li_200, li_209, li_234, li_240, li_255, li_300, li_309, li_310, ll_0, ll_1, ll_3, ll_5, ll_7, ll_8, ll_9, ll_20, ll_39, ll_40, ll_60, ll_100, ll_120, ll_200, ll_209, ll_300, ll_309, ll_600, ll_1000000000, zI_neg, zI_add, zI_sub, zI_mul, zL_add, zL_sub, zL_mul, zL_neg, zI_suc, zN_I, zI_ofNat, zI_le_t, zI_le_f, zI_lt_t, zI_lt_f, zI_eq_t, zI_eq_f, zL_le_t, zL_le_f, zL_lt_t, zL_lt_f, zL_eq_t, zL_eq_f, zI_cl, zI_L, mI_t, Int.reduceToNat, nt_le_f, nt_le_t, lc_le, lc_lt, lc_gt, lc_eq, zI_div, Int.toNat_natCast, zI_max, zI_min, or_false, false_or, or_true, true_or, not_false_eq_true, not_true_eq_false, ↓reduceIte, and_self, and_true, true_and, and_false, false_and, not_or, gt_iff_lt, ge_iff_le, mBI_rI, mBJ_rJ, mBR_rV, mBR_rR, rZ_0, rZ_1, hS'.1, c_isIn hs hw hS' hj (t := t) (by omega) J, hi]
  · intro N ⟨i0, i1⟩
    have hS' : suH s w N := hS.fr (fun a h1 h2 => i1 a (by simp; omega))
    refine ⟨N, ?_, i1⟩
    rw [e_Course_isAtRest_2 s hs, i0]
    simp (disch := omega) only [Int.reduceEq, Int.reduceLT, Int.reduceLE, Int.reduceAdd, Int.reduceMul, Int.reduceSub, Int.reduceNeg, Int.reduceDiv, li_0, li_1, li_2, li_3, li_4, li_5, li_6, li_7, li_8, li_9, li_10, li_16, li_20, li_22, li_32, li_36, li_39, li_40, li_42, li_48, li_60, li_67, li_69, li_70, li_71, li_76, li_77, li_80, li_83, li_86, li_90, li_100, li_120, li_200, li_209, li_234, li_240, li_255, li_300, li_309, li_310, ll_0, ll_1, ll_3, ll_5, ll_7, ll_8, ll_9, ll_20, ll_39, ll_40, ll_60, ll_100, ll_120, ll_200, ll_209, ll_300, ll_309, ll_600, ll_1000000000, zI_neg, zI_add, zI_sub, zI_mul, zL_add, zL_sub, zL_mul, zL_neg, zI_suc, zN_I, zI_ofNat, zI_le_t, zI_le_f, zI_lt_t, zI_lt_f, zI_eq_t, zI_eq_f, zL_le_t, zL_le_f, zL_lt_t, zL_lt_f, zL_eq_t, zL_eq_f, zI_cl, zI_L, mI_t, Int.reduceToNat, nt_le_f, nt_le_t, lc_le, lc_lt, lc_gt, lc_eq, zI_div, Int.toNat_natCast, zI_max, zI_min, or_false, false_or, or_true, true_or, not_false_eq_true, not_true_eq_false, ↓reduceIte, and_self, and_true, true_and, and_false, false_and, not_or, gt_iff_lt, ge_iff_le, mBI_rI, mBJ_rJ, mBR_rV, mBR_rR, rZ_0, rZ_1, hS'.1]
