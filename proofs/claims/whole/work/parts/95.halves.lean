/-! halves -/
theorem c_fillT {s : Nat} (hs : s = 7 ∨ s = 21) (v : Int32) (M : mMI) (J : mMJ) : ∃ N, k_Arrays_fill_T s v M J = rV N J ∧ fR [s + 5] M N ∧ ∀ i, i < 240 → N (s + 5) i = v := by
  simp only [e_Arrays_fill_T s hs, li_0, li_1, li_2, li_3, li_4, li_5, li_6, li_7, li_8, li_9, li_10, li_16, li_20, li_22, li_32, li_36, li_39, li_40, li_42, li_48, li_60, li_67, li_69, li_70, li_71, li_76, li_77, li_80, li_83, li_86, li_90, li_100, li_120, li_200, li_209, li_234, li_240, li_255, li_300, li_309, li_310, ll_0, ll_1, ll_3, ll_5, ll_7, ll_8, ll_9, ll_20, ll_39, ll_40, ll_60, ll_100, ll_120, ll_200, ll_209, ll_300, ll_309, ll_600, ll_1000000000, zI_neg, zI_add, zI_sub, zI_mul, zL_add, zL_sub, zL_mul, zL_neg, zI_suc, zN_I, zI_ofNat]
  refine lp_Q (α := mMI) (fun N j => k_Arrays_fill_T_5 s v (zI (j : Int)) (zI ((240 : Nat) : Int)) N J) (fun j N => fR [s + 5] M N ∧ ∀ i, i < j → N (s + 5) i = v) (fun o => ∃ N, o = rV N J ∧ fR [s + 5] M N ∧ ∀ i, i < 240 → N (s + 5) i = v) 240 ?_ ?_ M ⟨fR.rf, fun i hi => absurd hi (Nat.not_lt_zero i)⟩
  · intro j N hj ⟨i1, i2⟩
    right
    refine ⟨mUp N (s + 5) j v, ⟨i1.tr (fR.up (by simp)), fun i hi => ?_⟩, ?_⟩
    · by_cases h : i = j
      · subst h; exact up_at _ _ _ _
      · rw [up_ne h]; exact i2 i (by omega)
    · rw [e_Arrays_fill_T_5 s hs]
      simp (disch := omega) only [Int.reduceEq, Int.reduceLT, Int.reduceLE, Int.reduceAdd, Int.reduceMul, Int.reduceSub, Int.reduceNeg, Int.reduceDiv, li_0, li_1, li_2, li_3, li_4, li_5, li_6, li_7, li_8, li_9, li_10, li_16, li_20, li_22, li_32, li_36, li_39, li_40, li_42, li_48, li_60, li_67, li_69, li_70, li_71, li_76, li_77, li_80, li_83, li_86, li_90, li_100, li_120, li_200, li_209, li_234, li_240, li_255, li_300, li_309, li_310, ll_0, ll_1, ll_3, ll_5, ll_7, ll_8, ll_9, ll_20, ll_39, ll_40, ll_60, ll_100, ll_120, ll_200, ll_209, ll_300, ll_309, ll_600, ll_1000000000, zI_neg, zI_add, zI_sub, zI_mul, zL_add, zL_sub, zL_mul, zL_neg, zI_suc, zN_I, zI_ofNat, zI_le_t, zI_le_f, zI_lt_t, zI_lt_f, zI_eq_t, zI_eq_f, zL_le_t, zL_le_f, zL_lt_t, zL_lt_f, zL_eq_t, zL_eq_f, zI_cl, zI_L, mI_t, Int.reduceToNat, nt_le_f, nt_le_t, lc_le, lc_lt, lc_gt, lc_eq, zI_div, Int.toNat_natCast, zI_max, zI_min, or_false, false_or, or_true, true_or, not_false_eq_true, not_true_eq_false, ↓reduceIte, and_self, and_true, true_and, and_false, false_and, not_or, gt_iff_lt, ge_iff_le, mBI_rI, mBJ_rJ, mBR_rV, mBR_rR, rZ_0, rZ_1]
  · intro N ⟨i1, i2⟩
    refine ⟨N, ?_, i1, i2⟩
    rw [e_Arrays_fill_T_5 s hs]
    simp (disch := omega) only [Int.reduceEq, Int.reduceLT, Int.reduceLE, Int.reduceAdd, Int.reduceMul, Int.reduceSub, Int.reduceNeg, Int.reduceDiv, li_0, li_1, li_2, li_3, li_4, li_5, li_6, li_7, li_8, li_9, li_10, li_16, li_20, li_22, li_32, li_36, li_39, li_40, li_42, li_48, li_60, li_67, li_69, li_70, li_71, li_76, li_77, li_80, li_83, li_86, li_90, li_100, li_120, li_200, li_209, li_234, li_240, li_255, li_300, li_309, li_310, ll_0, ll_1, ll_3, ll_5, ll_7, ll_8, ll_9, ll_20, ll_39, ll_40, ll_60, ll_100, ll_120, ll_200, ll_209, ll_300, ll_309, ll_600, ll_1000000000, zI_neg, zI_add, zI_sub, zI_mul, zL_add, zL_sub, zL_mul, zL_neg, zI_suc, zN_I, zI_ofNat, zI_le_t, zI_le_f, zI_lt_t, zI_lt_f, zI_eq_t, zI_eq_f, zL_le_t, zL_le_f, zL_lt_t, zL_lt_f, zL_eq_t, zL_eq_f, zI_cl, zI_L, mI_t, Int.reduceToNat, nt_le_f, nt_le_t, lc_le, lc_lt, lc_gt, lc_eq, zI_div, Int.toNat_natCast, zI_max, zI_min, or_false, false_or, or_true, true_or, not_false_eq_true, not_true_eq_false, ↓reduceIte, and_self, and_true, true_and, and_false, false_and, not_or, gt_iff_lt, ge_iff_le, mBI_rI, mBJ_rJ, mBR_rV, mBR_rR, rZ_0, rZ_1]
theorem c_fillO {s : Nat} (hs : s = 7 ∨ s = 21) (v : Int32) (M : mMI) (J : mMJ) : ∃ N, k_Arrays_fill_O s v M J = rV N J ∧ fR [s + 6] M N ∧ ∀ i, i < 6 → N (s + 6) i = v := by
  simp only [e_Arrays_fill_O s hs, li_0, li_1, li_2, li_3, li_4, li_5, li_6, li_7, li_8, li_9, li_10, li_16, li_20, li_22, li_32, li_36, li_39, li_40, li_42, li_48, li_60, li_67, li_69, li_70, li_71, li_76, li_77, li_80, li_83, li_86, li_90, li_100, li_120, li_200, li_209, li_234, li_240, li_255, li_300, li_309, li_310, ll_0, ll_1, ll_3, ll_5, ll_7, ll_8, ll_9, ll_20, ll_39, ll_40, ll_60, ll_100, ll_120, ll_200, ll_209, ll_300, ll_309, ll_600, ll_1000000000, zI_neg, zI_add, zI_sub, zI_mul, zL_add, zL_sub, zL_mul, zL_neg, zI_suc, zN_I, zI_ofNat]
  refine lp_Q (α := mMI) (fun N j => k_Arrays_fill_O_5 s v (zI (j : Int)) (zI ((6 : Nat) : Int)) N J) (fun j N => fR [s + 6] M N ∧ ∀ i, i < j → N (s + 6) i = v) (fun o => ∃ N, o = rV N J ∧ fR [s + 6] M N ∧ ∀ i, i < 6 → N (s + 6) i = v) 6 ?_ ?_ M ⟨fR.rf, fun i hi => absurd hi (Nat.not_lt_zero i)⟩
  · intro j N hj ⟨i1, i2⟩
    right
    refine ⟨mUp N (s + 6) j v, ⟨i1.tr (fR.up (by simp)), fun i hi => ?_⟩, ?_⟩
    · by_cases h : i = j
      · subst h; exact up_at _ _ _ _
      · rw [up_ne h]; exact i2 i (by omega)
    · rw [e_Arrays_fill_O_5 s hs]
      simp (disch := omega) only [Int.reduceEq, Int.reduceLT, Int.reduceLE, Int.reduceAdd, Int.reduceMul, Int.reduceSub, Int.reduceNeg, Int.reduceDiv, li_0, li_1, li_2, li_3, li_4, li_5, li_6, li_7, li_8, li_9, li_10, li_16, li_20, li_22, li_32, li_36, li_39, li_40, li_42, li_48, li_60, li_67, li_69, li_70, li_71, li_76, li_77, li_80, li_83, li_86, li_90, li_100, li_120, li_200, li_209, li_234, li_240, li_255, li_300, li_309, li_310, ll_0, ll_1, ll_3, ll_5, ll_7, ll_8, ll_9, ll_20, ll_39, ll_40, ll_60, ll_100, ll_120, ll_200, ll_209, ll_300, ll_309, ll_600, ll_1000000000, zI_neg, zI_add, zI_sub, zI_mul, zL_add, zL_sub, zL_mul, zL_neg, zI_suc, zN_I, zI_ofNat, zI_le_t, zI_le_f, zI_lt_t, zI_lt_f, zI_eq_t, zI_eq_f, zL_le_t, zL_le_f, zL_lt_t, zL_lt_f, zL_eq_t, zL_eq_f, zI_cl, zI_L, mI_t, Int.reduceToNat, nt_le_f, nt_le_t, lc_le, lc_lt, lc_gt, lc_eq, zI_div, Int.toNat_natCast, zI_max, zI_min, or_false, false_or, or_true, true_or, not_false_eq_true, not_true_eq_false, ↓reduceIte, and_self, and_true, true_and, and_false, false_and, not_or, gt_iff_lt, ge_iff_le, mBI_rI, mBJ_rJ, mBR_rV, mBR_rR, rZ_0, rZ_1]
  · intro N ⟨i1, i2⟩
    refine ⟨N, ?_, i1, i2⟩
    rw [e_Arrays_fill_O_5 s hs]
    simp (disch := omega) only [Int.reduceEq, Int.reduceLT, Int.reduceLE, Int.reduceAdd, Int.reduceMul, Int.reduceSub, Int.reduceNeg, Int.reduceDiv, li_0, li_1, li_2, li_3, li_4, li_5, li_6, li_7, li_8, li_9, li_10, li_16, li_20, li_22, li_32, li_36, li_39, li_40, li_42, li_48, li_60, li_67, li_69, li_70, li_71, li_76, li_77, li_80, li_83, li_86, li_90, li_100, li_120, li_200, li_209, li_234, li_240, li_255, li_300, li_309, li_310, ll_0, ll_1, ll_3, ll_5, ll_7, ll_8, ll_9, ll_20, ll_39, ll_40, ll_60, ll_100, ll_120, ll_200, ll_209, ll_300, ll_309, ll_600, ll_1000000000, zI_neg, zI_add, zI_sub, zI_mul, zL_add, zL_sub, zL_mul, zL_neg, zI_suc, zN_I, zI_ofNat, zI_le_t, zI_le_f, zI_lt_t, zI_lt_f, zI_eq_t, zI_eq_f, zL_le_t, zL_le_f, zL_lt_t, zL_lt_f, zL_eq_t, zL_eq_f, zI_cl, zI_L, mI_t, Int.reduceToNat, nt_le_f, nt_le_t, lc_le, lc_lt, lc_gt, lc_eq, zI_div, Int.toNat_natCast, zI_max, zI_min, or_false, false_or, or_true, true_or, not_false_eq_true, not_true_eq_false, ↓reduceIte, and_self, and_true, true_and, and_false, false_and, not_or, gt_iff_lt, ge_iff_le, mBI_rI, mBJ_rJ, mBR_rV, mBR_rR, rZ_0, rZ_1]
theorem c_untell {s : Nat} (hs : s = 7 ∨ s = 21) (M : mMI) (J : mMJ) : ∃ N, k_Setup_untell s M J = rV N J ∧ fR [s + 5, s + 6] M N ∧ (∀ i, i < 240 → N (s + 5) i = zI (-9)) ∧ (∀ i, i < 6 → N (s + 6) i = zI 40) := by
  obtain ⟨N1, e1, f1, r1⟩ := c_fillT hs (zI (-9)) M J
  obtain ⟨N2, e2, f2, r2⟩ := c_fillO hs (zI 40) N1 J
  refine ⟨N2, ?_, (f1.mono (by simp)).tr (f2.mono (by simp)), fun i hi => ?_, r2⟩
  · rw [e_Setup_untell s hs]
    simp (disch := omega) only [Int.reduceEq, Int.reduceLT, Int.reduceLE, Int.reduceAdd, Int.reduceMul, Int.reduceSub, Int.reduceNeg, Int.reduceDiv, li_0, li_1, li_2, li_3, li_4, li_5, li_6, li_7, li_8, li_9, li_10, li_16, li_20, li_22, li_32, li_36, li_39, li_40, li_42, li_48, li_60, li_67, li_69, li_70, li_71, li_76, li_77, li_80, li_83, li_86, li_90, li_100, li_120, li_200, li_209, li_234, li_240, li_255, li_300, li_309, li_310, ll_0, ll_1, ll_3, ll_5, ll_7, ll_8, ll_9, ll_20, ll_39, ll_40, ll_60, ll_100, ll_120, ll_200, ll_209, ll_300, ll_309, ll_600, ll_1000000000, zI_neg, zI_add, zI_sub, zI_mul, zL_add, zL_sub, zL_mul, zL_neg, zI_suc, zN_I, zI_ofNat, zI_le_t, zI_le_f, zI_lt_t, zI_lt_f, zI_eq_t, zI_eq_f, zL_le_t, zL_le_f, zL_lt_t, zL_lt_f, zL_eq_t, zL_eq_f, zI_cl, zI_L, mI_t, Int.reduceToNat, nt_le_f, nt_le_t, lc_le, lc_lt, lc_gt, lc_eq, zI_div, Int.toNat_natCast, zI_max, zI_min, or_false, false_or, or_true, true_or, not_false_eq_true, not_true_eq_false, ↓reduceIte, and_self, and_true, true_and, and_false, false_and, not_or, gt_iff_lt, ge_iff_le, mBI_rI, mBJ_rJ, mBR_rV, mBR_rR, rZ_0, rZ_1, e1, e2]
  · rw [f2 (s + 5) (by simp)]; exact r1 i hi
/-- how many of the first m are in, and who -/
def cM (f : Nat → Bool) : Nat → Nat
  | 0 => 0
  | m + 1 => if f m = true then cM f m + 1 else cM f m
def wl (f : Nat → Bool) : Nat → Nat → Nat
  | 0, _ => 0
  | m + 1, i => if f m = true then (if i = cM f m then m else wl f m i) else wl f m i
theorem cM_le (f : Nat → Bool) : ∀ m, cM f m ≤ m
  | 0 => Nat.le_refl 0
  | m + 1 => by
    have h := cM_le f m
    have e : cM f (m + 1) = if f m = true then cM f m + 1 else cM f m := rfl
    rw [e]
    split <;> omega
theorem wl_lt (f : Nat → Bool) : ∀ m i, i < cM f m → wl f m i < m
  | 0, i, h => absurd h (Nat.not_lt_zero i)
  | m + 1, i, h => by
    have e : cM f (m + 1) = if f m = true then cM f m + 1 else cM f m := rfl
    have e2 : wl f (m + 1) i = if f m = true then (if i = cM f m then m else wl f m i) else wl f m i := rfl
    rw [e] at h
    rw [e2]
    by_cases c : f m = true
    · rw [if_pos c] at h
      rw [if_pos c]
      by_cases d : i = cM f m
      · rw [if_pos d]; omega
      · rw [if_neg d]
        have := wl_lt f m i (by omega)
        omega
    · rw [if_neg c] at h
      rw [if_neg c]
      have := wl_lt f m i h
      omega
theorem cM_cg {f g : Nat → Bool} : ∀ m, (∀ p, p < m → f p = g p) → cM f m = cM g m ∧ wl f m = wl g m
  | 0, _ => ⟨rfl, rfl⟩
  | m + 1, h => by
    have ih := cM_cg m (fun p hp => h p (by omega))
    have hm := h m (by omega)
    refine ⟨?_, ?_⟩
    · show (if f m = true then cM f m + 1 else cM f m) = (if g m = true then cM g m + 1 else cM g m)
      rw [ih.1, hm]
    · funext i
      show (if f m = true then (if i = cM f m then m else wl f m i) else wl f m i) = (if g m = true then (if i = cM g m then m else wl g m i) else wl g m i)
      rw [ih.1, ih.2, hm]
def bB (x : Int32) (p : Nat) : Bool := decide (((x >>> (zI (p : Int) &&& 31)) &&& zI 1) = zI 1)
def wH (y : sS) (f : Nat → Bool) : wW := mkW (yR y) (cM f (yN y)) (fun j i => yA y j (wl f (yN y) i)) (fun _ _ => -9) (fun _ => 40)
def hvV (y : sS) (f : Nat → Bool) : Int := sm (cM f (yN y)) (hoV (wH y f) 40)
theorem okH {y : sS} (hy : yOk y) {f : Nat → Bool} (h2 : 2 ≤ cM f (yN y)) : okRA (yR y) (cM f (yN y)) (fun j i => yA y j (wl f (yN y) i)) ∧ okTO (cM f (yN y)) (fun _ _ => -9) (fun _ => 40) := by
  obtain ⟨h1, h3, h4, h5, h6, h7⟩ := hy.2.1
  have hl := cM_le f (yN y)
  refine ⟨⟨⟨h2, by omega⟩, h3, h4, h5, h6, fun k hk => h7 _ (wl_lt f _ k hk)⟩, fun k _ => ⟨(by decide : (0 : Int) ≤ 40), (by decide : (40 : Int) ≤ 40)⟩, fun k t _ _ => Or.inl rfl, ?_⟩
  have : sm (cM f (yN y)) (fun k => if ((39 : Nat) : Int) < (fun _ => (40 : Int)) k then 1 else 0) = (cM f (yN y) : Int) := by
    have key : ∀ m, sm m (fun k => if ((39 : Nat) : Int) < (fun _ => (40 : Int)) k then 1 else 0) = (m : Int) := by
      intro m
      induction m with
      | zero => rfl
      | succ m ih =>
        rw [sm_s, ih, if_pos (show ((39 : Nat) : Int) < 40 by omega)]
        omega
    exact key _
  rw [this]
  omega
theorem c_some {y : sS} (hy : yOk y) {M : mMI} {J : mMJ} (h : CI y M J) (x : Int32) : ∃ N, k_Setup_takeSome x M J = rV N J ∧ fR [21, 22, 23, 24, 25, 26, 27] M N ∧ sbH 21 (yR y) (cM (bB x) (yN y)) (fun j i => yA y j (wl (bB x) (yN y) i)) (fun _ _ => -9) (fun _ => 40) N := by
  obtain ⟨b1, b2, b3, b4, b5⟩ := h.2.2.1
  have hn := hy.2.1.1
  have b1 : M 7 1 = zI (yN y : Int) := b1
  obtain ⟨N1, e1, f1, r1, q1⟩ := c_untell (s := 21) (Or.inr rfl) (mSet M 22 (va_cpy (M 8) (M 22) 0 0 4)) J
  have g1 : ∀ p, p ≠ 22 → p ≠ 26 → p ≠ 27 → N1 p = M p := fun p h1 h2 h3 => by rw [f1 p (by simp; omega), set_nk h1]
  have r22 : ∀ j, j < 4 → N1 22 j = zI (yR y j) := fun j hj => by
    rw [f1 22 (by simp), set_at, cpy_at (by omega)]
    exact b2 j hj
  rw [e_Setup_takeSome]
  simp (disch := omega) only [Int.reduceEq, Int.reduceLT, Int.reduceLE, Int.reduceAdd, Int.reduceMul, Int.reduceSub, Int.reduceNeg, Int.reduceDiv, li_0, li_1, li_2, li_3, li_4, li_5, li_6, li_7, li_8, li_9, li_10, li_16, li_20, li_22, li_32, li_36, li_39, li_40, li_42, li_48, li_60, li_67, li_69, li_70, li_71, li_76, li_77, li_80, li_83, li_86, li_90, li_100, li_120, li_200, li_209, li_234, li_240, li_255, li_300, li_309, li_310, ll_0, ll_1, ll_3, ll_5, ll_7, ll_8, ll_9, ll_20, ll_39, ll_40, ll_60, ll_100, ll_120, ll_200, ll_209, ll_300, ll_309, ll_600, ll_1000000000, zI_neg, zI_add, zI_sub, zI_mul, zL_add, zL_sub, zL_mul, zL_neg, zI_suc, zN_I, zI_ofNat, zI_le_t, zI_le_f, zI_lt_t, zI_lt_f, zI_eq_t, zI_eq_f, zL_le_t, zL_le_f, zL_lt_t, zL_lt_f, zL_eq_t, zL_eq_f, zI_cl, zI_L, mI_t, Int.reduceToNat, nt_le_f, nt_le_t, lc_le, lc_lt, lc_gt, lc_eq, zI_div, Int.toNat_natCast, zI_max, zI_min, or_false, false_or, or_true, true_or, not_false_eq_true, not_true_eq_false, ↓reduceIte, and_self, and_true, true_and, and_false, false_and, not_or, gt_iff_lt, ge_iff_le, mBI_rI, mBJ_rJ, mBR_rV, mBR_rR, rZ_0, rZ_1, e1]
  refine lp_Q (α := mMI) (fun N j => k_Setup_takeSome_15 x (zI (j : Int)) N J) (fun j N => fR [21, 23, 24, 25] N1 N ∧ N 21 1 = zI (cM (bB x) j : Int) ∧ ∀ i, i < cM (bB x) j → N 23 i = zI (yA y 0 (wl (bB x) j i)) ∧ N 24 i = zI (yA y 1 (wl (bB x) j i)) ∧ N 25 i = zI (yA y 2 (wl (bB x) j i))) (fun o => ∃ N, o = rV N J ∧ fR [21, 22, 23, 24, 25, 26, 27] M N ∧ sbH 21 (yR y) (cM (bB x) (yN y)) (fun j i => yA y j (wl (bB x) (yN y) i)) (fun _ _ => -9) (fun _ => 40) N) (yN y) ?_ ?_ (mUp N1 21 1 (zI 0)) ⟨fR.up (by simp), up_at _ _ _ _, fun i hi => absurd hi (Nat.not_lt_zero i)⟩
  · intro j N hj ⟨i1, i2, i3⟩
    right
    have lc := cM_le (bB x) j
    have e71 : N 7 1 = zI (yN y : Int) := by rw [i1 7 (by simp), g1 7 (by omega) (by omega) (by omega)]; exact b1
    have e9 : N 9 j = zI (yA y 0 j) := by rw [i1 9 (by simp), g1 9 (by omega) (by omega) (by omega)]; exact (b3 j hj).1
    have e10 : N 10 j = zI (yA y 1 j) := by rw [i1 10 (by simp), g1 10 (by omega) (by omega) (by omega)]; exact (b3 j hj).2.1
    have e11 : N 11 j = zI (yA y 2 j) := by rw [i1 11 (by simp), g1 11 (by omega) (by omega) (by omega)]; exact (b3 j hj).2.2
    have ec : cM (bB x) (j + 1) = if bB x j = true then cM (bB x) j + 1 else cM (bB x) j := rfl
    have ew : ∀ i, wl (bB x) (j + 1) i = if bB x j = true then (if i = cM (bB x) j then j else wl (bB x) j i) else wl (bB x) j i := fun i => rfl
    by_cases c : bB x j = true
    · have c2 : ((x >>> (zI (j : Int) &&& 31)) &&& zI 1) = zI 1 := of_decide_eq_true c
      rw [if_pos c] at ec
      refine ⟨mUp (mUp (mUp (mUp N 23 (cM (bB x) j) (zI (yA y 0 j))) 24 (cM (bB x) j) (zI (yA y 1 j))) 25 (cM (bB x) j) (zI (yA y 2 j))) 21 1 (zI ((cM (bB x) j + 1 : Nat) : Int)), ⟨(((i1.tr (fR.up (by simp))).tr (fR.up (by simp))).tr (fR.up (by simp))).tr (fR.up (by simp)), ?_, fun i hi => ?_⟩, ?_⟩
      · rw [up_at, ec]
      · rw [ew i, if_pos c]
        by_cases d : i = cM (bB x) j
        · subst d
          rw [if_pos rfl]
          refine ⟨?_, ?_, ?_⟩
          · rw [up_nk (by omega), up_nk (by omega), up_nk (by omega), up_at]
          · rw [up_nk (by omega), up_nk (by omega), up_at]
          · rw [up_nk (by omega), up_at]
        · rw [if_neg d]
          have o := i3 i (by omega)
          refine ⟨?_, ?_, ?_⟩
          · rw [up_nk (by omega), up_nk (by omega), up_nk (by omega), up_ne d]; exact o.1
          · rw [up_nk (by omega), up_nk (by omega), up_ne d, up_nk (by omega)]; exact o.2.1
          · rw [up_nk (by omega), up_ne d, up_nk (by omega), up_nk (by omega)]; exact o.2.2
      · rw [e_Setup_takeSome_15]
        simp (disch := omega) only [Int.reduceEq, Int.reduceLT, Int.reduceLE, Int.reduceAdd, Int.reduceMul, Int.reduceSub, Int.reduceNeg, Int.reduceDiv, li_0, li_1, li_2, li_3, li_4, li_5, li_6, li_7, li_8, li_9, li_10, li_16, li_20, li_22, li_32, li_36, li_39, li_40, li_42, li_48, li_60, li_67, li_69, li_70, li_71, li_76, li_77, li_80, li_83, li_86, li_90, li_100, li_120, li_200, li_209, li_234, li_240, li_255, li_300, li_309, li_310, ll_0, ll_1, ll_3, ll_5, ll_7, ll_8, ll_9, ll_20, ll_39, ll_40, ll_60, ll_100, ll_120, ll_200, ll_209, ll_300, ll_309, ll_600, ll_1000000000, zI_neg, zI_add, zI_sub, zI_mul, zL_add, zL_sub, zL_mul, zL_neg, zI_suc, zN_I, zI_ofNat, zI_le_t, zI_le_f, zI_lt_t, zI_lt_f, zI_eq_t, zI_eq_f, zL_le_t, zL_le_f, zL_lt_t, zL_lt_f, zL_eq_t, zL_eq_f, zI_cl, zI_L, mI_t, Int.reduceToNat, nt_le_f, nt_le_t, lc_le, lc_lt, lc_gt, lc_eq, zI_div, Int.toNat_natCast, zI_max, zI_min, or_false, false_or, or_true, true_or, not_false_eq_true, not_true_eq_false, ↓reduceIte, and_self, and_true, true_and, and_false, false_and, not_or, gt_iff_lt, ge_iff_le, mBI_rI, mBJ_rJ, mBR_rV, mBR_rR, rZ_0, rZ_1, e71, c2, i2, e9, e10, e11]
    · have c2 : ¬ ((x >>> (zI (j : Int) &&& 31)) &&& zI 1) = zI 1 := fun q => c (decide_eq_true q)
      rw [if_neg c] at ec
      refine ⟨N, ⟨i1, by rw [ec]; exact i2, fun i hi => ?_⟩, ?_⟩
      · rw [ew i, if_neg c]
        exact i3 i (by omega)
      · rw [e_Setup_takeSome_15]
        simp (disch := omega) only [Int.reduceEq, Int.reduceLT, Int.reduceLE, Int.reduceAdd, Int.reduceMul, Int.reduceSub, Int.reduceNeg, Int.reduceDiv, li_0, li_1, li_2, li_3, li_4, li_5, li_6, li_7, li_8, li_9, li_10, li_16, li_20, li_22, li_32, li_36, li_39, li_40, li_42, li_48, li_60, li_67, li_69, li_70, li_71, li_76, li_77, li_80, li_83, li_86, li_90, li_100, li_120, li_200, li_209, li_234, li_240, li_255, li_300, li_309, li_310, ll_0, ll_1, ll_3, ll_5, ll_7, ll_8, ll_9, ll_20, ll_39, ll_40, ll_60, ll_100, ll_120, ll_200, ll_209, ll_300, ll_309, ll_600, ll_1000000000, zI_neg, zI_add, zI_sub, zI_mul, zL_add, zL_sub, zL_mul, zL_neg, zI_suc, zN_I, zI_ofNat, zI_le_t, zI_le_f, zI_lt_t, zI_lt_f, zI_eq_t, zI_eq_f, zL_le_t, zL_le_f, zL_lt_t, zL_lt_f, zL_eq_t, zL_eq_f, zI_cl, zI_L, mI_t, Int.reduceToNat, nt_le_f, nt_le_t, lc_le, lc_lt, lc_gt, lc_eq, zI_div, Int.toNat_natCast, zI_max, zI_min, or_false, false_or, or_true, true_or, not_false_eq_true, not_true_eq_false, ↓reduceIte, and_self, and_true, true_and, and_false, false_and, not_or, gt_iff_lt, ge_iff_le, mBI_rI, mBJ_rJ, mBR_rV, mBR_rR, rZ_0, rZ_1, e71, c2]
  · intro N ⟨i1, i2, i3⟩
    have e71 : N 7 1 = zI (yN y : Int) := by rw [i1 7 (by simp), g1 7 (by omega) (by omega) (by omega)]; exact b1
    refine ⟨N, ?_, fun p hp => ?_, i2, fun j hj => ?_, fun k hk => i3 k hk, fun k hk => ?_, fun k t hk ht => ?_⟩
    · rw [e_Setup_takeSome_15]
      simp (disch := omega) only [Int.reduceEq, Int.reduceLT, Int.reduceLE, Int.reduceAdd, Int.reduceMul, Int.reduceSub, Int.reduceNeg, Int.reduceDiv, li_0, li_1, li_2, li_3, li_4, li_5, li_6, li_7, li_8, li_9, li_10, li_16, li_20, li_22, li_32, li_36, li_39, li_40, li_42, li_48, li_60, li_67, li_69, li_70, li_71, li_76, li_77, li_80, li_83, li_86, li_90, li_100, li_120, li_200, li_209, li_234, li_240, li_255, li_300, li_309, li_310, ll_0, ll_1, ll_3, ll_5, ll_7, ll_8, ll_9, ll_20, ll_39, ll_40, ll_60, ll_100, ll_120, ll_200, ll_209, ll_300, ll_309, ll_600, ll_1000000000, zI_neg, zI_add, zI_sub, zI_mul, zL_add, zL_sub, zL_mul, zL_neg, zI_suc, zN_I, zI_ofNat, zI_le_t, zI_le_f, zI_lt_t, zI_lt_f, zI_eq_t, zI_eq_f, zL_le_t, zL_le_f, zL_lt_t, zL_lt_f, zL_eq_t, zL_eq_f, zI_cl, zI_L, mI_t, Int.reduceToNat, nt_le_f, nt_le_t, lc_le, lc_lt, lc_gt, lc_eq, zI_div, Int.toNat_natCast, zI_max, zI_min, or_false, false_or, or_true, true_or, not_false_eq_true, not_true_eq_false, ↓reduceIte, and_self, and_true, true_and, and_false, false_and, not_or, gt_iff_lt, ge_iff_le, mBI_rI, mBJ_rJ, mBR_rV, mBR_rR, rZ_0, rZ_1, e71]
    · rw [i1 p (by simp at hp ⊢; omega), g1 p (by simp at hp; omega) (by simp at hp; omega) (by simp at hp; omega)]
    · rw [i1 (21 + 1) (by simp)]; exact r22 j hj
    · rw [i1 (21 + 6) (by simp)]; exact q1 k hk
    · rw [i1 (21 + 5) (by simp)]; exact r1 _ (by omega)
theorem P_half {y : sS} (hy : yOk y) {M : mMI} {J : mMJ} (h : CI y M J) {x : Int32} (h2 : 2 ≤ cM (bB x) (yN y)) : ∃ N1 N K, k_Setup_takeSome x M J = rV N1 J ∧ k_Course_runAll 21 N1 J = rV N K ∧ k_Course_heldByAll 21 (zI 39) N K = rJ (zL (hvV y (bB x))) N K ∧ cO1 y M J N K := by
  obtain ⟨N1, e1, f1, s1⟩ := c_some hy h x
  have ok := okH hy h2
  obtain ⟨N2, K, e2, f2, fk, hs, hC⟩ := c_trial s1 ok.1 ok.2 J
  have fr : ∀ q, q < 21 ∨ 35 ≤ q → N2 q = M q := fun q hq => by rw [f2 q (by omega), f1 q (by simp; omega)]
  have r := c_heldByAll (s := 21) (Or.inr rfl) (wOk_mk ok.1 ok.2) hs (t := 39) (by omega) (J := K) (f := hoV (wH y (bB x)) 40) (fun k hk => ((hC 39 (by omega)).1 k hk).2.2.2)
  exact ⟨N1, N2, K, e1, e2, r, h.tri fr fk, fun q hq => fr q (by omega), fun q hq => fk q (by omega)⟩
theorem R_half {y : sS} (hy : yOk y) {M : mMI} {J : mMJ} (h : MI y M) {x : Int32} (h2 : 2 ≤ cM (bB x) (yN y)) : mEJ y M J (k_Model_halfBy x M J) (zL (hvV y (bB x))) := by
  have hn := hy.2.1.1
  have ok := okH hy h2
  have h1 := (h.u46 (i := 23) (by omega) (by omega) (zI 0)).u46 (i := 24) (by omega) (by omega) (zI 1)
  obtain ⟨N, ⟨i1, i0, i2, i3⟩, e⟩ := lp_to (α := mMI) (fun N j => k_Model_halfBy_7 x (zI (j : Int)) N J) (fun j N => fR [46, 63] (mUp (mUp M 46 23 (zI 0)) 46 24 (zI 1)) N ∧ (∀ i, i ≠ 23 → N 46 i = mUp (mUp M 46 23 (zI 0)) 46 24 (zI 1) 46 i) ∧ N 46 23 = zI (cM (bB x) j : Int) ∧ ∀ i, i < cM (bB x) j → N 63 i = zI (wl (bB x) j i : Int)) (yN y) (by
    intro j N hj ⟨i1, i0, i2, i3⟩
    have lc := cM_le (bB x) j
    have e7 : N 46 7 = zI (yN y : Int) := by rw [i0 7 (by omega)]; exact h1.2.1.1
    have ec : cM (bB x) (j + 1) = if bB x j = true then cM (bB x) j + 1 else cM (bB x) j := rfl
    have ew : ∀ i, wl (bB x) (j + 1) i = if bB x j = true then (if i = cM (bB x) j then j else wl (bB x) j i) else wl (bB x) j i := fun i => rfl
    by_cases c : bB x j = true
    · have c2 : ((x >>> (zI (j : Int) &&& 31)) &&& zI 1) = zI 1 := of_decide_eq_true c
      rw [if_pos c] at ec
      refine ⟨mUp (mUp N 63 (cM (bB x) j) (zI (j : Int))) 46 23 (zI ((cM (bB x) j + 1 : Nat) : Int)), ⟨(i1.tr (fR.up (by simp))).tr (fR.up (by simp)), fun i hi => by rw [up_ne hi, up_nk (by omega)]; exact i0 i hi, by rw [up_at, ec], fun i hi => ?_⟩, ?_⟩
      · rw [ew i, if_pos c, up_nk (by omega)]
        by_cases d : i = cM (bB x) j
        · subst d
          rw [if_pos rfl, up_at]
        · rw [if_neg d, up_ne d]
          exact i3 i (by omega)
      · rw [e_Model_halfBy_7]
        simp (disch := omega) only [Int.reduceEq, Int.reduceLT, Int.reduceLE, Int.reduceAdd, Int.reduceMul, Int.reduceSub, Int.reduceNeg, Int.reduceDiv, li_0, li_1, li_2, li_3, li_4, li_5, li_6, li_7, li_8, li_9, li_10, li_16, li_20, li_22, li_32, li_36, li_39, li_40, li_42, li_48, li_60, li_67, li_69, li_70, li_71, li_76, li_77, li_80, li_83, li_86, li_90, li_100, li_120, li_200, li_209, li_234, li_240, li_255, li_300, li_309, li_310, ll_0, ll_1, ll_3, ll_5, ll_7, ll_8, ll_9, ll_20, ll_39, ll_40, ll_60, ll_100, ll_120, ll_200, ll_209, ll_300, ll_309, ll_600, ll_1000000000, zI_neg, zI_add, zI_sub, zI_mul, zL_add, zL_sub, zL_mul, zL_neg, zI_suc, zN_I, zI_ofNat, zI_le_t, zI_le_f, zI_lt_t, zI_lt_f, zI_eq_t, zI_eq_f, zL_le_t, zL_le_f, zL_lt_t, zL_lt_f, zL_eq_t, zL_eq_f, zI_cl, zI_L, mI_t, Int.reduceToNat, nt_le_f, nt_le_t, lc_le, lc_lt, lc_gt, lc_eq, zI_div, Int.toNat_natCast, zI_max, zI_min, or_false, false_or, or_true, true_or, not_false_eq_true, not_true_eq_false, ↓reduceIte, and_self, and_true, true_and, and_false, false_and, not_or, gt_iff_lt, ge_iff_le, mBI_rI, mBJ_rJ, mBR_rV, mBR_rR, rZ_0, rZ_1, e7, c2, i2]
    · have c2 : ¬ ((x >>> (zI (j : Int) &&& 31)) &&& zI 1) = zI 1 := fun q => c (decide_eq_true q)
      rw [if_neg c] at ec
      refine ⟨N, ⟨i1, i0, by rw [ec]; exact i2, fun i hi => ?_⟩, ?_⟩
      · rw [ew i, if_neg c]
        exact i3 i (by omega)
      · rw [e_Model_halfBy_7]
        simp (disch := omega) only [Int.reduceEq, Int.reduceLT, Int.reduceLE, Int.reduceAdd, Int.reduceMul, Int.reduceSub, Int.reduceNeg, Int.reduceDiv, li_0, li_1, li_2, li_3, li_4, li_5, li_6, li_7, li_8, li_9, li_10, li_16, li_20, li_22, li_32, li_36, li_39, li_40, li_42, li_48, li_60, li_67, li_69, li_70, li_71, li_76, li_77, li_80, li_83, li_86, li_90, li_100, li_120, li_200, li_209, li_234, li_240, li_255, li_300, li_309, li_310, ll_0, ll_1, ll_3, ll_5, ll_7, ll_8, ll_9, ll_20, ll_39, ll_40, ll_60, ll_100, ll_120, ll_200, ll_209, ll_300, ll_309, ll_600, ll_1000000000, zI_neg, zI_add, zI_sub, zI_mul, zL_add, zL_sub, zL_mul, zL_neg, zI_suc, zN_I, zI_ofNat, zI_le_t, zI_le_f, zI_lt_t, zI_lt_f, zI_eq_t, zI_eq_f, zL_le_t, zL_le_f, zL_lt_t, zL_lt_f, zL_eq_t, zL_eq_f, zI_cl, zI_L, mI_t, Int.reduceToNat, nt_le_f, nt_le_t, lc_le, lc_lt, lc_gt, lc_eq, zI_div, Int.toNat_natCast, zI_max, zI_min, or_false, false_or, or_true, true_or, not_false_eq_true, not_true_eq_false, ↓reduceIte, and_self, and_true, true_and, and_false, false_and, not_or, gt_iff_lt, ge_iff_le, mBI_rI, mBJ_rJ, mBR_rV, mBR_rR, rZ_0, rZ_1, e7, c2]) (mUp (mUp M 46 23 (zI 0)) 46 24 (zI 1)) ⟨fR.rf, fun _ _ => rfl, by rw [up_ne (by omega), up_at]; rfl, fun i hi => absurd hi (Nat.not_lt_zero i)⟩
  have hM : MI y N := by
    obtain ⟨a1, a2, a3, a4⟩ := h1
    refine ⟨a1.fr (i0 2 (by omega)) (i1 47 (by simp)), a2.fr (i0 7 (by omega)) (i1 _ (by simp)) (i1 _ (by simp)) (i1 _ (by simp)) (i1 _ (by simp)) (i1 _ (by simp)) (i1 _ (by simp)), ?_, a4.fr (fun p _ _ => i1 p (by simp; omega))⟩
    rw [i1 62 (by simp)]
    exact a3
  have hm : moH (wH y (bB x)) (wl (bB x) (yN y)) N := by
    refine ⟨i2, hM.2.1.2.1, fun k hk => ?_, Or.inl ⟨?_, fun k hk => ⟨rfl, fun t ht => rfl⟩⟩⟩
    · have lk := wl_lt (bB x) (yN y) k hk
      exact ⟨by omega, i3 k hk, hM.2.1.2.2.1 _ lk⟩
    · rw [i0 24 (by omega), up_at]
  obtain ⟨N2, K, e2, f2, fk, hr⟩ := m_run (wOk_mk ok.1 ok.2) hm J
  have e7 : N 46 7 = zI (yN y : Int) := hM.2.1.1
  refine ⟨N2, K, ?_, hM.ru (f2.mono (by unfold mP; simp)) (fun i _ _ => by rw [f2 46 (by unfold mP; simp)]), fun p hp => ?_, fun p hp => fk p (by simp; omega)⟩
  · have r := m_sumAt (n := cM (bB x) (yN y)) (M := N2) (by rw [f2 46 (by unfold mP; simp)]; exact i2) ok.1.1.2 (t := 39) (by omega) (J := K) (f := hoV (wH y (bB x)) 40) (fun k hk => (hr 39 (by omega) k hk).2.2)
    have r : k_Model_sumAt (zI 39) N2 K = rJ (zL (hvV y (bB x))) N2 K := r
    rw [e_Model_halfBy]
    simp only [li_0, li_1, li_2, li_3, li_4, li_5, li_6, li_7, li_8, li_9, li_10, li_16, li_20, li_22, li_32, li_36, li_39, li_40, li_42, li_48, li_60, li_67, li_69, li_70, li_71, li_76, li_77, li_80, li_83, li_86, li_90, li_100, li_120, li_200, li_209, li_234, li_240, li_255, li_300, li_309, li_310, ll_0, ll_1, ll_3, ll_5, ll_7, ll_8, ll_9, ll_20, ll_39, ll_40, ll_60, ll_100, ll_120, ll_200, ll_209, ll_300, ll_309, ll_600, ll_1000000000, zI_neg, zI_add, zI_sub, zI_mul, zL_add, zL_sub, zL_mul, zL_neg, zI_suc, zN_I, zI_ofNat]
    refine Eq.trans e ?_
    show k_Model_halfBy_7 x (zI (yN y : Int)) N J = _
    rw [e_Model_halfBy_7]
    simp (disch := omega) only [Int.reduceEq, Int.reduceLT, Int.reduceLE, Int.reduceAdd, Int.reduceMul, Int.reduceSub, Int.reduceNeg, Int.reduceDiv, li_0, li_1, li_2, li_3, li_4, li_5, li_6, li_7, li_8, li_9, li_10, li_16, li_20, li_22, li_32, li_36, li_39, li_40, li_42, li_48, li_60, li_67, li_69, li_70, li_71, li_76, li_77, li_80, li_83, li_86, li_90, li_100, li_120, li_200, li_209, li_234, li_240, li_255, li_300, li_309, li_310, ll_0, ll_1, ll_3, ll_5, ll_7, ll_8, ll_9, ll_20, ll_39, ll_40, ll_60, ll_100, ll_120, ll_200, ll_209, ll_300, ll_309, ll_600, ll_1000000000, zI_neg, zI_add, zI_sub, zI_mul, zL_add, zL_sub, zL_mul, zL_neg, zI_suc, zN_I, zI_ofNat, zI_le_t, zI_le_f, zI_lt_t, zI_lt_f, zI_eq_t, zI_eq_f, zL_le_t, zL_le_f, zL_lt_t, zL_lt_f, zL_eq_t, zL_eq_f, zI_cl, zI_L, mI_t, Int.reduceToNat, nt_le_f, nt_le_t, lc_le, lc_lt, lc_gt, lc_eq, zI_div, Int.toNat_natCast, zI_max, zI_min, or_false, false_or, or_true, true_or, not_false_eq_true, not_true_eq_false, ↓reduceIte, and_self, and_true, true_and, and_false, false_and, not_or, gt_iff_lt, ge_iff_le, mBI_rI, mBJ_rJ, mBR_rV, mBR_rR, rZ_0, rZ_1, e7, e2, r]
  · rw [f2 p (by unfold mP; simp; omega), i1 p (by simp; omega), up_nk (by omega), up_nk (by omega)]
