/-! THE COURSE, rounds -/
theorem row_s {M N : mMI} {P b j : Nat} {g : Nat → Int32} (h2 : ∀ i, i < b → N P i = M P i) (h3 : ∀ k, k < j → N P (b + k) = g k) : (∀ i, i < b → mUp N P (b + j) (g j) P i = M P i) ∧ (∀ k, k < j + 1 → mUp N P (b + j) (g j) P (b + k) = g k) := by
  refine ⟨fun i hi => by rw [up_ne (by omega)]; exact h2 i hi, fun k hk => ?_⟩
  by_cases hkj : k = j
  · subst hkj; exact up_at _ _ _ _
  · rw [up_ne (by omega)]; exact h3 k (by omega)
theorem rowJ_s {M N : mMJ} {P b j : Nat} {g : Nat → Int64} (h2 : ∀ i, i < b → N P i = M P i) (h3 : ∀ k, k < j → N P (b + k) = g k) : (∀ i, i < b → mUpJ N P (b + j) (g j) P i = M P i) ∧ (∀ k, k < j + 1 → mUpJ N P (b + j) (g j) P (b + k) = g k) := by
  refine ⟨fun i hi => by rw [upJ_ne (by omega)]; exact h2 i hi, fun k hk => ?_⟩
  by_cases hkj : k = j
  · subst hkj; exact upJ_at _ _ _ _
  · rw [upJ_ne (by omega)]; exact h3 k (by omega)
theorem c_putAll {s : Nat} (hs : s = 7 ∨ s = 21) {w : wW} (hw : wOk w) {M : mMI} (hS : suH s w M) {t : Nat} (ht : t < 40) {p : Nat → Int} {q : Nat → Nat → Int} (hp : pvP s w t p M) (hpb : pOk w p) (hq : pvQ s w t q M) (hqb : qOk w q) (hF : wR w 2 ≤ 0 → ∀ k e, q k e = 0) (J : mMJ) : ∃ N, k_Course_putAll s (zI t) M J = rV N J ∧ fR [s + 8] M N ∧ (∀ i, i < 6 * t → N (s + 8) i = M (s + 8) i) ∧ ∀ k, k < wN w → N (s + 8) (6 * t + k) = zI (if (t : Int) < wA w 3 k then ptP w t p q k else -9) := by
  have hn := hw.1
  have hE := hw.2.1
  simp only [e_Course_putAll s hs, li_0, li_1, li_2, li_3, li_4, li_5, li_6, li_7, li_8, li_9, li_10, li_16, li_20, li_22, li_32, li_36, li_39, li_40, li_42, li_48, li_60, li_67, li_69, li_70, li_71, li_76, li_77, li_80, li_83, li_86, li_90, li_100, li_120, li_200, li_209, li_234, li_240, li_255, li_300, li_309, li_310, ll_0, ll_1, ll_3, ll_5, ll_7, ll_8, ll_9, ll_20, ll_39, ll_40, ll_60, ll_100, ll_120, ll_200, ll_209, ll_300, ll_309, ll_600, ll_1000000000, zI_neg, zI_add, zI_sub, zI_mul, zL_add, zL_sub, zL_mul, zL_neg, zI_suc, zN_I, zI_ofNat]
  refine lp_Q (α := mMI) (fun N j => k_Course_putAll_2 s (zI t) (zI (j : Int)) N J) (fun j N => fR [s + 8] M N ∧ (∀ i, i < 6 * t → N (s + 8) i = M (s + 8) i) ∧ ∀ k, k < j → N (s + 8) (6 * t + k) = zI (if (t : Int) < wA w 3 k then ptP w t p q k else -9)) (fun o => ∃ N, o = rV N J ∧ fR [s + 8] M N ∧ (∀ i, i < 6 * t → N (s + 8) i = M (s + 8) i) ∧ ∀ k, k < wN w → N (s + 8) (6 * t + k) = zI (if (t : Int) < wA w 3 k then ptP w t p q k else -9)) (wN w) ?_ ?_ M ⟨fR.rf, fun _ _ => rfl, fun k hk => absurd hk (Nat.not_lt_zero k)⟩
  · intro j N hj ⟨i1, i2, i3⟩
    right
    have hS' : suH s w N := hS.fr (fun a h1 h2 => i1 a (by simp; omega))
    have hp' : pvP s w t p N := fun u hu e he hi => by rw [i2 _ (by omega)]; exact hp u hu e he hi
    have hq' : pvQ s w t q N := fun u hu k e hk he => by rw [i1 (s + 9) (by simp)]; exact hq u hu k e hk he
    have ro := row_s (j := j) (g := fun k => zI (if (t : Int) < wA w 3 k then ptP w t p q k else -9)) i2 i3
    refine ⟨mUp N (s + 8) (6 * t + j) (zI (if (t : Int) < wA w 3 j then ptP w t p q j else -9)), ⟨i1.tr (fR.up (by simp)), ro.1, ro.2⟩, ?_⟩
    have ix : ((t : Int) * 6 + (j : Int)).toNat = 6 * t + j := by omega
    have r0 := hS'.2.1 0 (by omega)
    rw [e_Course_putAll_2 s hs]
    by_cases hi : (t : Int) < wA w 3 j
    · obtain ⟨c, hc, ec, nc⟩ := hS'.2.2.2 j t hj ht
      by_cases c9 : c = -9
      · have hT : wT w j t = -9 := by rw [← nc, c9]; rfl
        have bd := ptP_bd hw ht p q j hj
        have eu := c_usual hs hw hS' ht hp' hpb hq' hqb hF hj hi J
        have ep : ptP w t p q j = max 0 (min (usP w t p q j) (wR w 0)) := by
          unfold ptP bnd
          rw [if_pos hi, if_pos hT]
        have bu : -2000 < usP w t p q j ∧ usP w t p q j < 2000 := by
          have a := (hw.2.2.2.2.2.1) j hj
          have b := (smq_bd hw hqb hj).2
          have b2 := mul_bd hw.2.2.2.1.1 hw.2.2.2.1.2 b.1 b.2
          have b3 := cO_bd hw ht j
          have b4 := sO_bd hw t j hpb
          have b5 := dv_bd (b := cO w t j) b4.1 b4.2 (by omega)
          have b6 := hpb j hj
          unfold usP
          repeat' split
          all_goals omega
        simp (disch := omega) only [Int.reduceEq, Int.reduceLT, Int.reduceLE, Int.reduceAdd, Int.reduceMul, Int.reduceSub, Int.reduceNeg, Int.reduceDiv, li_0, li_1, li_2, li_3, li_4, li_5, li_6, li_7, li_8, li_9, li_10, li_16, li_20, li_22, li_32, li_36, li_39, li_40, li_42, li_48, li_60, li_67, li_69, li_70, li_71, li_76, li_77, li_80, li_83, li_86, li_90, li_100, li_120, li_200, li_209, li_234, li_240, li_255, li_300, li_309, li_310, ll_0, ll_1, ll_3, ll_5, ll_7, ll_8, ll_9, ll_20, ll_39, ll_40, ll_60, ll_100, ll_120, ll_200, ll_209, ll_300, ll_309, ll_600, ll_1000000000, zI_neg, zI_add, zI_sub, zI_mul, zL_add, zL_sub, zL_mul, zL_neg, zI_suc, zN_I, zI_ofNat, zI_le_t, zI_le_f, zI_lt_t, zI_lt_f, zI_eq_t, zI_eq_f, zL_le_t, zL_le_f, zL_lt_t, zL_lt_f, zL_eq_t, zL_eq_f, zI_cl, zI_L, mI_t, Int.reduceToNat, nt_le_f, nt_le_t, lc_le, lc_lt, lc_gt, lc_eq, zI_div, Int.toNat_natCast, zI_max, zI_min, or_false, false_or, or_true, true_or, not_false_eq_true, not_true_eq_false, ↓reduceIte, and_self, and_true, true_and, and_false, false_and, not_or, gt_iff_lt, ge_iff_le, mBI_rI, mBJ_rJ, mBR_rV, mBR_rR, rZ_0, rZ_1, hS'.1, c_isIn hs hw hS' hj (t := t) (by omega) J, hi, ix, ec, c9, eu, r0, ep]
      · have hT : wT w j t = max 0 (min c (wR w 0)) := by rw [← nc]; exact if_neg c9
        have ep : ptP w t p q j = max 0 (min c (wR w 0)) := by
          unfold ptP
          rw [if_pos hi, if_neg (by omega), hT]
        simp (disch := omega) only [Int.reduceEq, Int.reduceLT, Int.reduceLE, Int.reduceAdd, Int.reduceMul, Int.reduceSub, Int.reduceNeg, Int.reduceDiv, li_0, li_1, li_2, li_3, li_4, li_5, li_6, li_7, li_8, li_9, li_10, li_16, li_20, li_22, li_32, li_36, li_39, li_40, li_42, li_48, li_60, li_67, li_69, li_70, li_71, li_76, li_77, li_80, li_83, li_86, li_90, li_100, li_120, li_200, li_209, li_234, li_240, li_255, li_300, li_309, li_310, ll_0, ll_1, ll_3, ll_5, ll_7, ll_8, ll_9, ll_20, ll_39, ll_40, ll_60, ll_100, ll_120, ll_200, ll_209, ll_300, ll_309, ll_600, ll_1000000000, zI_neg, zI_add, zI_sub, zI_mul, zL_add, zL_sub, zL_mul, zL_neg, zI_suc, zN_I, zI_ofNat, zI_le_t, zI_le_f, zI_lt_t, zI_lt_f, zI_eq_t, zI_eq_f, zL_le_t, zL_le_f, zL_lt_t, zL_lt_f, zL_eq_t, zL_eq_f, zI_cl, zI_L, mI_t, Int.reduceToNat, nt_le_f, nt_le_t, lc_le, lc_lt, lc_gt, lc_eq, zI_div, Int.toNat_natCast, zI_max, zI_min, or_false, false_or, or_true, true_or, not_false_eq_true, not_true_eq_false, ↓reduceIte, and_self, and_true, true_and, and_false, false_and, not_or, gt_iff_lt, ge_iff_le, mBI_rI, mBJ_rJ, mBR_rV, mBR_rR, rZ_0, rZ_1, hS'.1, c_isIn hs hw hS' hj (t := t) (by omega) J, hi, ix, ec, r0, ep]
    · simp (disch := omega) only [Int.reduceEq, Int.reduceLT, Int.reduceLE, Int.reduceAdd, Int.reduceMul, Int.reduceSub, Int.reduceNeg, Int.reduceDiv, li_0, li_1, li_2, li_3, li_4, li_5, li_6, li_7, li_8, li_9, li_10, li_16, li_20, li_22, li_32, li_36, li_39, li_40, li_42, li_48, li_60, li_67, li_69, li_70, li_71, li_76, li_77, li_80, li_83, li_86, li_90, li_100, li_120, li_200, li_209, li_234, li_240, li_255, li_300, li_309, li_310, ll_0, ll_1, ll_3, ll_5, ll_7, ll_8, ll_9, ll_20, ll_39, ll_40, ll_60, ll_100, ll_120, ll_200, ll_209, ll_300, ll_309, ll_600, ll_1000000000, zI_neg, zI_add, zI_sub, zI_mul, zL_add, zL_sub, zL_mul, zL_neg, zI_suc, zN_I, zI_ofNat, zI_le_t, zI_le_f, zI_lt_t, zI_lt_f, zI_eq_t, zI_eq_f, zL_le_t, zL_le_f, zL_lt_t, zL_lt_f, zL_eq_t, zL_eq_f, zI_cl, zI_L, mI_t, Int.reduceToNat, nt_le_f, nt_le_t, lc_le, lc_lt, lc_gt, lc_eq, zI_div, Int.toNat_natCast, zI_max, zI_min, or_false, false_or, or_true, true_or, not_false_eq_true, not_true_eq_false, ↓reduceIte, and_self, and_true, true_and, and_false, false_and, not_or, gt_iff_lt, ge_iff_le, mBI_rI, mBJ_rJ, mBR_rV, mBR_rR, rZ_0, rZ_1, hS'.1, c_isIn hs hw hS' hj (t := t) (by omega) J, hi, ix]
  · intro N ⟨i1, i2, i3⟩
    have hS' : suH s w N := hS.fr (fun a h1 h2 => i1 a (by simp; omega))
    refine ⟨N, ?_, i1, i2, i3⟩
    rw [e_Course_putAll_2 s hs]
    simp (disch := omega) only [Int.reduceEq, Int.reduceLT, Int.reduceLE, Int.reduceAdd, Int.reduceMul, Int.reduceSub, Int.reduceNeg, Int.reduceDiv, li_0, li_1, li_2, li_3, li_4, li_5, li_6, li_7, li_8, li_9, li_10, li_16, li_20, li_22, li_32, li_36, li_39, li_40, li_42, li_48, li_60, li_67, li_69, li_70, li_71, li_76, li_77, li_80, li_83, li_86, li_90, li_100, li_120, li_200, li_209, li_234, li_240, li_255, li_300, li_309, li_310, ll_0, ll_1, ll_3, ll_5, ll_7, ll_8, ll_9, ll_20, ll_39, ll_40, ll_60, ll_100, ll_120, ll_200, ll_209, ll_300, ll_309, ll_600, ll_1000000000, zI_neg, zI_add, zI_sub, zI_mul, zL_add, zL_sub, zL_mul, zL_neg, zI_suc, zN_I, zI_ofNat, zI_le_t, zI_le_f, zI_lt_t, zI_lt_f, zI_eq_t, zI_eq_f, zL_le_t, zL_le_f, zL_lt_t, zL_lt_f, zL_eq_t, zL_eq_f, zI_cl, zI_L, mI_t, Int.reduceToNat, nt_le_f, nt_le_t, lc_le, lc_lt, lc_gt, lc_eq, zI_div, Int.toNat_natCast, zI_max, zI_min, or_false, false_or, or_true, true_or, not_false_eq_true, not_true_eq_false, ↓reduceIte, and_self, and_true, true_and, and_false, false_and, not_or, gt_iff_lt, ge_iff_le, mBI_rI, mBJ_rJ, mBR_rV, mBR_rR, rZ_0, rZ_1, hS'.1]
/-- puts with one supposed -/
def upP (p : Nat → Int) (k : Int) (v : Int) : Nat → Int := fun e => if (e : Int) = k then v else p e
theorem c_lookAt {s : Nat} (hs : s = 7 ∨ s = 21) {w : wW} (hw : wOk w) {M : mMI} (hS : suH s w M) {t : Nat} (ht : t < 40) {p : Nat → Int} (hp : ∀ k, k < wN w → M (s + 8) (6 * t + k) = zI (if (t : Int) < wA w 3 k then p k else -9)) (hpb : pOk w p) {a v : Int} (ha : a = -9 ∨ (0 ≤ a ∧ a < wN w ∧ (t : Int) < wA w 3 a.toNat)) (hv : 0 ≤ v) (hv' : v ≤ 20) (J : mMJ) : ∃ N, k_Course_lookAt s (zI t) (zI a) (zI v) M J = rV N J ∧ fR [s + 7, s + 13] M N ∧ noH s w t (upP p a v) N := by
  have hn := hw.1
  have hub : pOk w (upP p a v) := by
    intro k hk
    have := hpb k hk
    unfold upP
    split <;> omega
  simp only [e_Course_lookAt s hs, li_0, li_1, li_2, li_3, li_4, li_5, li_6, li_7, li_8, li_9, li_10, li_16, li_20, li_22, li_32, li_36, li_39, li_40, li_42, li_48, li_60, li_67, li_69, li_70, li_71, li_76, li_77, li_80, li_83, li_86, li_90, li_100, li_120, li_200, li_209, li_234, li_240, li_255, li_300, li_309, li_310, ll_0, ll_1, ll_3, ll_5, ll_7, ll_8, ll_9, ll_20, ll_39, ll_40, ll_60, ll_100, ll_120, ll_200, ll_209, ll_300, ll_309, ll_600, ll_1000000000, zI_neg, zI_add, zI_sub, zI_mul, zL_add, zL_sub, zL_mul, zL_neg, zI_suc, zN_I, zI_ofNat]
  refine lp_Q (α := mMI) (fun N j => k_Course_lookAt_8 s (zI t) (zI a) (zI v) (zI (j : Int)) N J) (fun j N => fR [s + 7, s + 13] M N ∧ (∀ k, k < j → N (s + 13) k = zI (if (t : Int) < wA w 3 k then upP p a v k else -9)) ∧ N (s + 7) 7 = zI (sm j (fun k => if (t : Int) < wA w 3 k then upP p a v k else 0)) ∧ N (s + 7) 8 = zI (sm j (fun k => if (t : Int) < wA w 3 k then 1 else 0))) (fun o => ∃ N, o = rV N J ∧ fR [s + 7, s + 13] M N ∧ noH s w t (upP p a v) N) (wN w) ?_ ?_ _ ⟨(fR.up (by simp)).tr (fR.up (by simp)), fun k hk => absurd hk (Nat.not_lt_zero k), by rw [up_ne (by omega), up_at]; rfl, by rw [up_at]; rfl⟩
  · intro j N hj ⟨i1, i2, i3, i4⟩
    right
    have hS' : suH s w N := hS.fr (fun a h1 h2 => i1 a (by simp; omega))
    have ix : ((t : Int) * 6 + (j : Int)).toNat = 6 * t + j := by omega
    have e8 : N (s + 8) (6 * t + j) = zI (if (t : Int) < wA w 3 j then p j else -9) := by rw [i1 (s + 8) (by simp)]; exact hp j hj
    have bj := hpb j hj
    have up13 : ∀ x k, k < j + 1 → mUp N (s + 13) j x (s + 13) k = if k = j then x else N (s + 13) k := by
      intro x k hk
      by_cases hkj : k = j
      · subst hkj; rw [up_at, if_pos rfl]
      · rw [up_ne hkj, if_neg hkj]
    have hui : ¬ (t : Int) < wA w 3 j → ¬ (j : Int) = a := by
      intro h1 h2
      rcases ha with ha | ha
      · omega
      · have : a.toNat = j := by omega
        rw [this] at ha
        exact h1 ha.2.2
    by_cases hi : (t : Int) < wA w 3 j
    · rw [if_pos hi] at e8
      have un : upP p a v j = if (j : Int) = a then v else p j := rfl
      refine ⟨mUp (mUp (mUp N (s + 13) j (zI (upP p a v j))) (s + 7) 7 (zI (sm j (fun k => if (t : Int) < wA w 3 k then upP p a v k else 0) + upP p a v j))) (s + 7) 8 (zI (sm j (fun k => if (t : Int) < wA w 3 k then 1 else 0) + 1)), ⟨((i1.tr (fR.up (by simp))).tr (fR.up (by simp))).tr (fR.up (by simp)), fun k hk => ?_, ?_, ?_⟩, ?_⟩
      · rw [up_nk (by omega), up_nk (by omega), up13 _ k hk]
        by_cases hkj : k = j
        · subst hkj; rw [if_pos rfl, if_pos hi]
        · rw [if_neg hkj]; exact i2 k (by omega)
      · rw [up_ne (by omega), up_at, sm_s, if_pos hi]
      · rw [up_at, sm_s, if_pos hi]
      · rw [e_Course_lookAt_8 s hs]
        by_cases hja : (j : Int) = a
        · rw [if_pos hja] at un
          simp (disch := omega) only [Int.reduceEq, Int.reduceLT, Int.reduceLE, Int.reduceAdd, Int.reduceMul, Int.reduceSub, Int.reduceNeg, Int.reduceDiv, li_0, li_1, li_2, li_3, li_4, li_5, li_6, li_7, li_8, li_9, li_10, li_16, li_20, li_22, li_32, li_36, li_39, li_40, li_42, li_48, li_60, li_67, li_69, li_70, li_71, li_76, li_77, li_80, li_83, li_86, li_90, li_100, li_120, li_200, li_209, li_234, li_240, li_255, li_300, li_309, li_310, ll_0, ll_1, ll_3, ll_5, ll_7, ll_8, ll_9, ll_20, ll_39, ll_40, ll_60, ll_100, ll_120, ll_200, ll_209, ll_300, ll_309, ll_600, ll_1000000000, zI_neg, zI_add, zI_sub, zI_mul, zL_add, zL_sub, zL_mul, zL_neg, zI_suc, zN_I, zI_ofNat, zI_le_t, zI_le_f, zI_lt_t, zI_lt_f, zI_eq_t, zI_eq_f, zL_le_t, zL_le_f, zL_lt_t, zL_lt_f, zL_eq_t, zL_eq_f, zI_cl, zI_L, mI_t, Int.reduceToNat, nt_le_f, nt_le_t, lc_le, lc_lt, lc_gt, lc_eq, zI_div, Int.toNat_natCast, zI_max, zI_min, or_false, false_or, or_true, true_or, not_false_eq_true, not_true_eq_false, ↓reduceIte, and_self, and_true, true_and, and_false, false_and, not_or, gt_iff_lt, ge_iff_le, mBI_rI, mBJ_rJ, mBR_rV, mBR_rR, rZ_0, rZ_1, hS'.1, hja, un, up_at, i3, i4, up_nk]
          simp (disch := omega) only [Int.reduceEq, Int.reduceLT, Int.reduceLE, Int.reduceAdd, Int.reduceMul, Int.reduceSub, Int.reduceNeg, Int.reduceDiv, li_0, li_1, li_2, li_3, li_4, li_5, li_6, li_7, li_8, li_9, li_10, li_16, li_20, li_22, li_32, li_36, li_39, li_40, li_42, li_48, li_60, li_67, li_69, li_70, li_71, li_76, li_77, li_80, li_83, li_86, li_90, li_100, li_120, li_200, li_209, li_234, li_240, li_255, li_300, li_309, li_310, ll_0, ll_1, ll_3, ll_5, ll_7, ll_8, ll_9, ll_20, ll_39, ll_40, ll_60, ll_100, ll_120, ll_200, ll_209, ll_300, ll_309, ll_600, ll_1000000000, zI_neg, zI_add, zI_sub, zI_mul, zL_add, zL_sub, zL_mul, zL_neg, zI_suc, zN_I, zI_ofNat, zI_le_t, zI_le_f, zI_lt_t, zI_lt_f, zI_eq_t, zI_eq_f, zL_le_t, zL_le_f, zL_lt_t, zL_lt_f, zL_eq_t, zL_eq_f, zI_cl, zI_L, mI_t, Int.reduceToNat, nt_le_f, nt_le_t, lc_le, lc_lt, lc_gt, lc_eq, zI_div, Int.toNat_natCast, zI_max, zI_min, or_false, false_or, or_true, true_or, not_false_eq_true, not_true_eq_false, ↓reduceIte, and_self, and_true, true_and, and_false, false_and, not_or, gt_iff_lt, ge_iff_le, mBI_rI, mBJ_rJ, mBR_rV, mBR_rR, rZ_0, rZ_1, ← hja, hS'.1, un, up_at, i3, i4, up_nk]
        · rw [if_neg hja] at un
          simp (disch := omega) only [Int.reduceEq, Int.reduceLT, Int.reduceLE, Int.reduceAdd, Int.reduceMul, Int.reduceSub, Int.reduceNeg, Int.reduceDiv, li_0, li_1, li_2, li_3, li_4, li_5, li_6, li_7, li_8, li_9, li_10, li_16, li_20, li_22, li_32, li_36, li_39, li_40, li_42, li_48, li_60, li_67, li_69, li_70, li_71, li_76, li_77, li_80, li_83, li_86, li_90, li_100, li_120, li_200, li_209, li_234, li_240, li_255, li_300, li_309, li_310, ll_0, ll_1, ll_3, ll_5, ll_7, ll_8, ll_9, ll_20, ll_39, ll_40, ll_60, ll_100, ll_120, ll_200, ll_209, ll_300, ll_309, ll_600, ll_1000000000, zI_neg, zI_add, zI_sub, zI_mul, zL_add, zL_sub, zL_mul, zL_neg, zI_suc, zN_I, zI_ofNat, zI_le_t, zI_le_f, zI_lt_t, zI_lt_f, zI_eq_t, zI_eq_f, zL_le_t, zL_le_f, zL_lt_t, zL_lt_f, zL_eq_t, zL_eq_f, zI_cl, zI_L, mI_t, Int.reduceToNat, nt_le_f, nt_le_t, lc_le, lc_lt, lc_gt, lc_eq, zI_div, Int.toNat_natCast, zI_max, zI_min, or_false, false_or, or_true, true_or, not_false_eq_true, not_true_eq_false, ↓reduceIte, and_self, and_true, true_and, and_false, false_and, not_or, gt_iff_lt, ge_iff_le, mBI_rI, mBJ_rJ, mBR_rV, mBR_rR, rZ_0, rZ_1, hS'.1, un, ix, e8, up_at, i3, i4, up_nk]
    · rw [if_neg hi] at e8
      have hja := hui hi
      refine ⟨mUp N (s + 13) j (zI (-9)), ⟨i1.tr (fR.up (by simp)), fun k hk => ?_, ?_, ?_⟩, ?_⟩
      · rw [up13 _ k hk]
        by_cases hkj : k = j
        · subst hkj; rw [if_pos rfl, if_neg hi]
        · rw [if_neg hkj]; exact i2 k (by omega)
      · rw [up_nk (by omega), i3, sm_s, if_neg hi, Int.add_zero]
      · rw [up_nk (by omega), i4, sm_s, if_neg hi, Int.add_zero]
      · rw [e_Course_lookAt_8 s hs]
        simp (disch := omega) only [Int.reduceEq, Int.reduceLT, Int.reduceLE, Int.reduceAdd, Int.reduceMul, Int.reduceSub, Int.reduceNeg, Int.reduceDiv, li_0, li_1, li_2, li_3, li_4, li_5, li_6, li_7, li_8, li_9, li_10, li_16, li_20, li_22, li_32, li_36, li_39, li_40, li_42, li_48, li_60, li_67, li_69, li_70, li_71, li_76, li_77, li_80, li_83, li_86, li_90, li_100, li_120, li_200, li_209, li_234, li_240, li_255, li_300, li_309, li_310, ll_0, ll_1, ll_3, ll_5, ll_7, ll_8, ll_9, ll_20, ll_39, ll_40, ll_60, ll_100, ll_120, ll_200, ll_209, ll_300, ll_309, ll_600, ll_1000000000, zI_neg, zI_add, zI_sub, zI_mul, zL_add, zL_sub, zL_mul, zL_neg, zI_suc, zN_I, zI_ofNat, zI_le_t, zI_le_f, zI_lt_t, zI_lt_f, zI_eq_t, zI_eq_f, zL_le_t, zL_le_f, zL_lt_t, zL_lt_f, zL_eq_t, zL_eq_f, zI_cl, zI_L, mI_t, Int.reduceToNat, nt_le_f, nt_le_t, lc_le, lc_lt, lc_gt, lc_eq, zI_div, Int.toNat_natCast, zI_max, zI_min, or_false, false_or, or_true, true_or, not_false_eq_true, not_true_eq_false, ↓reduceIte, and_self, and_true, true_and, and_false, false_and, not_or, gt_iff_lt, ge_iff_le, mBI_rI, mBJ_rJ, mBR_rV, mBR_rR, rZ_0, rZ_1, hS'.1, ix, e8, up_at]
  · intro N ⟨i1, i2, i3, i4⟩
    have hS' : suH s w N := hS.fr (fun a h1 h2 => i1 a (by simp; omega))
    have b1 := poV_bd hw t hub
    have b2 := cN_bd hw ht
    have i3 : N (s + 7) 7 = zI (poV w t (upP p a v)) := i3
    have i4 : N (s + 7) 8 = zI (cN w t) := i4
    refine ⟨mUp N (s + 7) 9 (zI (meV w t (upP p a v))), ?_, i1.tr (fR.up (by simp)), ?_, ?_, ?_, ?_⟩
    · rw [e_Course_lookAt_8 s hs]
      simp (disch := omega) only [Int.reduceEq, Int.reduceLT, Int.reduceLE, Int.reduceAdd, Int.reduceMul, Int.reduceSub, Int.reduceNeg, Int.reduceDiv, li_0, li_1, li_2, li_3, li_4, li_5, li_6, li_7, li_8, li_9, li_10, li_16, li_20, li_22, li_32, li_36, li_39, li_40, li_42, li_48, li_60, li_67, li_69, li_70, li_71, li_76, li_77, li_80, li_83, li_86, li_90, li_100, li_120, li_200, li_209, li_234, li_240, li_255, li_300, li_309, li_310, ll_0, ll_1, ll_3, ll_5, ll_7, ll_8, ll_9, ll_20, ll_39, ll_40, ll_60, ll_100, ll_120, ll_200, ll_209, ll_300, ll_309, ll_600, ll_1000000000, zI_neg, zI_add, zI_sub, zI_mul, zL_add, zL_sub, zL_mul, zL_neg, zI_suc, zN_I, zI_ofNat, zI_le_t, zI_le_f, zI_lt_t, zI_lt_f, zI_eq_t, zI_eq_f, zL_le_t, zL_le_f, zL_lt_t, zL_lt_f, zL_eq_t, zL_eq_f, zI_cl, zI_L, mI_t, Int.reduceToNat, nt_le_f, nt_le_t, lc_le, lc_lt, lc_gt, lc_eq, zI_div, Int.toNat_natCast, zI_max, zI_min, or_false, false_or, or_true, true_or, not_false_eq_true, not_true_eq_false, ↓reduceIte, and_self, and_true, true_and, and_false, false_and, not_or, gt_iff_lt, ge_iff_le, mBI_rI, mBJ_rJ, mBR_rV, mBR_rR, rZ_0, rZ_1, hS'.1, i3, i4, c_meanOf]
      rfl
    · intro k hk; rw [up_nk (by omega)]; exact i2 k hk
    · rw [up_ne (by omega)]; exact i3
    · rw [up_ne (by omega)]; exact i4
    · rw [up_at]
