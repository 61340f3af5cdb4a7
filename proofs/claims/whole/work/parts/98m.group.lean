/-! group -/
def nGr (y : sS) : sS := (y.1, (yR y, foV y 6, fun j k => if j = 0 then ltV y 6 k else if j = 1 then leV y k else agG y k), (fun _ _ => -9, fun _ => 40, yK y), (fun _ => 0, yS y))
noncomputable def nGroup (y : sS) : sS := @ite _ (anV y 6 = -9) (Classical.propDecidable _) (nGr y) y
def aGroup (y : sS) : Int32 := zI (if anV y 6 = -9 then (foV y 6 : Int) else -3)
theorem num_6 {y : sS} {j : Nat} (h : j < foV y 6) : 0 ≤ numV y 6 j ∧ numV y 6 j ≤ 99 ∧ (¬ (3 ≤ ltV y 6 j ∧ ltV y 6 j ≤ 5) → numV y 6 j ≤ 20) := by
  obtain ⟨q, q0⟩ := fo_ok h
  have bm := lt_bd y 6 j
  have k7 : (gK 6 : Int) = 7 := rfl
  rw [k7] at bm
  obtain ⟨l, hl⟩ : ∃ l : Nat, ltV y 6 j = (l : Int) := ⟨(ltV y 6 j).toNat, by omega⟩
  have hl2 : (ltV y 6 j).toNat = l := by omega
  have dd := gD_bd (Or.inr rfl) (ln_bd y 6 j)
  unfold fmV at q
  have fn := fl_nu q dd.1
  rw [hl2] at fn
  have en : numV y 6 j = nuV (gD 6 l) (yB y) (atV y 6 j + 1) := by unfold numV; rw [hl2]
  rw [← en] at fn
  have gl : gL 6 l = 0 ∧ (gM 6 l ≤ 99) ∧ (¬ (3 ≤ l ∧ l ≤ 5) → gM 6 l ≤ 20) := by
    rcases (show l = 0 ∨ l = 1 ∨ l = 2 ∨ l = 3 ∨ l = 4 ∨ l = 5 ∨ l = 6 by omega) with rfl | rfl | rfl | rfl | rfl | rfl | rfl <;> decide +kernel
  rw [hl]
  omega
theorem nGroup_ok (y : sS) (hy : yOk y) : yOk (nGroup y) := by
  unfold nGroup
  split
  · rename_i h
    obtain ⟨a1, a2, a3, a4, a5, a6⟩ := hy
    have w := an_w h
    have w : 2 ≤ foV y 6 := w
    have f6 : foV y 6 ≤ 6 := by
      have key : ∀ (f m : Nat), m + f = 7 → m ≤ 6 → (rsT y 6 f m).2 ≤ 6 := by
        intro f
        induction f with
        | zero => intro m h1 h2; omega
        | succ f ih =>
          intro m h1 h2
          have er : rsT y 6 (f + 1) m = if yL y ≤ atV y 6 m then ((if m < gW 6 then (yL y : Int) else -9), m)
            else if m = gX 6 ∨ ltV y 6 m < 0 ∨ ((6 : Nat) = 5 ∧ dpV y 6 m m = true) then ((atV y 6 m : Int), m)
            else if ¬ fmV y 6 m = -9 then (fmV y 6 m, m) else rsT y 6 f (m + 1) := rfl
          rw [er]
          split
          · exact h2
          · split
            · exact h2
            · rename_i q
              split
              · exact h2
              · have : ¬ m = 6 := fun x => q (Or.inl x)
                exact ih (m + 1) (by omega) (by omega)
      exact key 7 0 (by omega) (by omega)
    refine ⟨a1, ⟨⟨w, f6⟩, a2.2.1, a2.2.2.1, a2.2.2.2.1, a2.2.2.2.2.1, fun k hk => ?_⟩, ⟨fun k _ => ⟨(by decide : (0 : Int) ≤ 40), (by decide : (40 : Int) ≤ 40)⟩, fun k t _ _ => Or.inl rfl, ?_⟩, a4, fun b _ => Or.inl rfl, fun b _ h1 => absurd (show (0 : Int) = 1 from h1) (by omega)⟩
    · have hk : k < foV y 6 := hk
      have bm := lt_bd y 6 k
      have k7 : (gK 6 : Int) = 7 := rfl
      rw [k7] at bm
      have q0 := (fo_ok hk).2
      have nb := num_6 hk
      show (0 ≤ ltV y 6 k ∧ ltV y 6 k ≤ 6) ∧ (0 ≤ leV y k ∧ leV y k ≤ 20) ∧ (0 ≤ agG y k ∧ agG y k ≤ 9)
      unfold leV agG
      by_cases c : 3 ≤ ltV y 6 k ∧ ltV y 6 k ≤ 5
      · rw [if_pos c, if_pos c]; omega
      · rw [if_neg c, if_neg c]
        have := nb.2.2 c
        omega
    · show 2 ≤ sm (foV y 6) (fun k => if ((39 : Nat) : Int) < (fun _ => (40 : Int)) k then 1 else 0)
      have key : ∀ m, sm m (fun k => if ((39 : Nat) : Int) < (fun _ => (40 : Int)) k then 1 else 0) = (m : Int) := by
        intro m
        induction m with
        | zero => rfl
        | succ m ih =>
          rw [sm_s, ih, if_pos (show ((39 : Nat) : Int) < 40 by omega)]
          omega
      rw [key]
      omega
  · exact hy
theorem c_angry {z : Int} (h : -10 ≤ z ∧ z ≤ 10) (M : mMI) (J : mMJ) : k_Setup_canBeAngry (zI z) M J = rI (zI (if 3 ≤ z ∧ z ≤ 5 then 1 else 0)) M J := by
  have key : ∀ v : Int, ((3 ≤ z ∧ z ≤ 5) ∧ v = 1) ∨ (¬ (3 ≤ z ∧ z ≤ 5) ∧ v = 0) → k_Setup_canBeAngry (zI z) M J = rI (zI v) M J := by
    intro v hv
    rw [e_Setup_canBeAngry]
    by_cases c3 : z = 3
    · have : v = 1 := by omega
      subst this
      simp (disch := omega) only [Int.reduceEq, Int.reduceLT, Int.reduceLE, Int.reduceAdd, Int.reduceMul, Int.reduceSub, Int.reduceNeg, Int.reduceDiv, li_0, li_1, li_2, li_3, li_4, li_5, li_6, li_7, li_8, li_9, li_10, li_16, li_20, li_22, li_32, li_36, li_39, li_40, li_42, li_48, li_60, li_67, li_69, li_70, li_71, li_76, li_77, li_80, li_83, li_86, li_90, li_100, li_120, li_200, li_209, li_234, li_240, li_255, li_300, li_309, li_310, ll_0, ll_1, ll_3, ll_5, ll_7, ll_8, ll_9, ll_20, ll_39, ll_40, ll_60, ll_100, ll_120, ll_200, ll_209, ll_300, ll_309, ll_600, ll_1000000000, zI_neg, zI_add, zI_sub, zI_mul, zL_add, zL_sub, zL_mul, zL_neg, zI_suc, zN_I, zI_ofNat, zI_le_t, zI_le_f, zI_lt_t, zI_lt_f, zI_eq_t, zI_eq_f, zL_le_t, zL_le_f, zL_lt_t, zL_lt_f, zL_eq_t, zL_eq_f, zI_cl, zI_L, mI_t, Int.reduceToNat, nt_le_f, nt_le_t, lc_le, lc_lt, lc_gt, lc_eq, zI_div, Int.toNat_natCast, zI_max, zI_min, or_false, false_or, or_true, true_or, not_false_eq_true, not_true_eq_false, ↓reduceIte, and_self, and_true, true_and, and_false, false_and, not_or, gt_iff_lt, ge_iff_le, mBI_rI, mBJ_rJ, mBR_rV, mBR_rR, rZ_0, rZ_1]
    · by_cases c4 : z = 4
      · have : v = 1 := by omega
        subst this
        simp (disch := omega) only [Int.reduceEq, Int.reduceLT, Int.reduceLE, Int.reduceAdd, Int.reduceMul, Int.reduceSub, Int.reduceNeg, Int.reduceDiv, li_0, li_1, li_2, li_3, li_4, li_5, li_6, li_7, li_8, li_9, li_10, li_16, li_20, li_22, li_32, li_36, li_39, li_40, li_42, li_48, li_60, li_67, li_69, li_70, li_71, li_76, li_77, li_80, li_83, li_86, li_90, li_100, li_120, li_200, li_209, li_234, li_240, li_255, li_300, li_309, li_310, ll_0, ll_1, ll_3, ll_5, ll_7, ll_8, ll_9, ll_20, ll_39, ll_40, ll_60, ll_100, ll_120, ll_200, ll_209, ll_300, ll_309, ll_600, ll_1000000000, zI_neg, zI_add, zI_sub, zI_mul, zL_add, zL_sub, zL_mul, zL_neg, zI_suc, zN_I, zI_ofNat, zI_le_t, zI_le_f, zI_lt_t, zI_lt_f, zI_eq_t, zI_eq_f, zL_le_t, zL_le_f, zL_lt_t, zL_lt_f, zL_eq_t, zL_eq_f, zI_cl, zI_L, mI_t, Int.reduceToNat, nt_le_f, nt_le_t, lc_le, lc_lt, lc_gt, lc_eq, zI_div, Int.toNat_natCast, zI_max, zI_min, or_false, false_or, or_true, true_or, not_false_eq_true, not_true_eq_false, ↓reduceIte, and_self, and_true, true_and, and_false, false_and, not_or, gt_iff_lt, ge_iff_le, mBI_rI, mBJ_rJ, mBR_rV, mBR_rR, rZ_0, rZ_1]
      · by_cases c5 : z = 5
        · have : v = 1 := by omega
          subst this
          simp (disch := omega) only [Int.reduceEq, Int.reduceLT, Int.reduceLE, Int.reduceAdd, Int.reduceMul, Int.reduceSub, Int.reduceNeg, Int.reduceDiv, li_0, li_1, li_2, li_3, li_4, li_5, li_6, li_7, li_8, li_9, li_10, li_16, li_20, li_22, li_32, li_36, li_39, li_40, li_42, li_48, li_60, li_67, li_69, li_70, li_71, li_76, li_77, li_80, li_83, li_86, li_90, li_100, li_120, li_200, li_209, li_234, li_240, li_255, li_300, li_309, li_310, ll_0, ll_1, ll_3, ll_5, ll_7, ll_8, ll_9, ll_20, ll_39, ll_40, ll_60, ll_100, ll_120, ll_200, ll_209, ll_300, ll_309, ll_600, ll_1000000000, zI_neg, zI_add, zI_sub, zI_mul, zL_add, zL_sub, zL_mul, zL_neg, zI_suc, zN_I, zI_ofNat, zI_le_t, zI_le_f, zI_lt_t, zI_lt_f, zI_eq_t, zI_eq_f, zL_le_t, zL_le_f, zL_lt_t, zL_lt_f, zL_eq_t, zL_eq_f, zI_cl, zI_L, mI_t, Int.reduceToNat, nt_le_f, nt_le_t, lc_le, lc_lt, lc_gt, lc_eq, zI_div, Int.toNat_natCast, zI_max, zI_min, or_false, false_or, or_true, true_or, not_false_eq_true, not_true_eq_false, ↓reduceIte, and_self, and_true, true_and, and_false, false_and, not_or, gt_iff_lt, ge_iff_le, mBI_rI, mBJ_rJ, mBR_rV, mBR_rR, rZ_0, rZ_1]
        · have : v = 0 := by omega
          subst this
          simp (disch := omega) only [Int.reduceEq, Int.reduceLT, Int.reduceLE, Int.reduceAdd, Int.reduceMul, Int.reduceSub, Int.reduceNeg, Int.reduceDiv, li_0, li_1, li_2, li_3, li_4, li_5, li_6, li_7, li_8, li_9, li_10, li_16, li_20, li_22, li_32, li_36, li_39, li_40, li_42, li_48, li_60, li_67, li_69, li_70, li_71, li_76, li_77, li_80, li_83, li_86, li_90, li_100, li_120, li_200, li_209, li_234, li_240, li_255, li_300, li_309, li_310, ll_0, ll_1, ll_3, ll_5, ll_7, ll_8, ll_9, ll_20, ll_39, ll_40, ll_60, ll_100, ll_120, ll_200, ll_209, ll_300, ll_309, ll_600, ll_1000000000, zI_neg, zI_add, zI_sub, zI_mul, zL_add, zL_sub, zL_mul, zL_neg, zI_suc, zN_I, zI_ofNat, zI_le_t, zI_le_f, zI_lt_t, zI_lt_f, zI_eq_t, zI_eq_f, zL_le_t, zL_le_f, zL_lt_t, zL_lt_f, zL_eq_t, zL_eq_f, zI_cl, zI_L, mI_t, Int.reduceToNat, nt_le_f, nt_le_t, lc_le, lc_lt, lc_gt, lc_eq, zI_div, Int.toNat_natCast, zI_max, zI_min, or_false, false_or, or_true, true_or, not_false_eq_true, not_true_eq_false, ↓reduceIte, and_self, and_true, true_and, and_false, false_and, not_or, gt_iff_lt, ge_iff_le, mBI_rI, mBJ_rJ, mBR_rV, mBR_rR, rZ_0, rZ_1]
  apply key
  split <;> omega
theorem P_group {y : sS} (hy : yOk y) {M : mMI} {J : mMJ} (h : CI y M J) : cE (nGroup y) M J (k_Pot_group M J) (aGroup y) := by
  obtain ⟨N, e, t, n14, n6, nj, o⟩ := c_scan (g := 6) (Or.inr rfl) hy h
  have ab := anV_bd hy (g := 6) (Or.inr rfl)
  have n6 : foV y 6 ≤ 6 := n6
  rw [e_Pot_group]
  unfold aGroup nGroup
  by_cases c : anV y 6 = -9
  · rw [if_pos c, if_pos c]
    rw [c] at e
    have key : ∃ N2, k_Setup_takeGroupText N J = rV N2 J ∧ fR [7, 9, 10, 11] N N2 ∧ N2 7 1 = zI (foV y 6 : Int) ∧ ∀ k, k < foV y 6 → N2 9 k = zI (ltV y 6 k) ∧ N2 10 k = zI (leV y k) ∧ N2 11 k = zI (agG y k) := by
      rw [e_Setup_takeGroupText]
      simp (disch := omega) only [Int.reduceEq, Int.reduceLT, Int.reduceLE, Int.reduceAdd, Int.reduceMul, Int.reduceSub, Int.reduceNeg, Int.reduceDiv, li_0, li_1, li_2, li_3, li_4, li_5, li_6, li_7, li_8, li_9, li_10, li_16, li_20, li_22, li_32, li_36, li_39, li_40, li_42, li_48, li_60, li_67, li_69, li_70, li_71, li_76, li_77, li_80, li_83, li_86, li_90, li_100, li_120, li_200, li_209, li_234, li_240, li_255, li_300, li_309, li_310, ll_0, ll_1, ll_3, ll_5, ll_7, ll_8, ll_9, ll_20, ll_39, ll_40, ll_60, ll_100, ll_120, ll_200, ll_209, ll_300, ll_309, ll_600, ll_1000000000, zI_neg, zI_add, zI_sub, zI_mul, zL_add, zL_sub, zL_mul, zL_neg, zI_suc, zN_I, zI_ofNat, zI_le_t, zI_le_f, zI_lt_t, zI_lt_f, zI_eq_t, zI_eq_f, zL_le_t, zL_le_f, zL_lt_t, zL_lt_f, zL_eq_t, zL_eq_f, zI_cl, zI_L, mI_t, Int.reduceToNat, nt_le_f, nt_le_t, lc_le, lc_lt, lc_gt, lc_eq, zI_div, Int.toNat_natCast, zI_max, zI_min, or_false, false_or, or_true, true_or, not_false_eq_true, not_true_eq_false, ↓reduceIte, and_self, and_true, true_and, and_false, false_and, not_or, gt_iff_lt, ge_iff_le, mBI_rI, mBJ_rJ, mBR_rV, mBR_rR, rZ_0, rZ_1, n14]
      refine lp_Q (α := mMI) (fun N2 m => k_Setup_takeGroupText_6 (zI (m : Int)) N2 J) (fun m N2 => fR [7, 9, 10, 11] N N2 ∧ N2 7 1 = zI (foV y 6 : Int) ∧ ∀ k, k < m → N2 9 k = zI (ltV y 6 k) ∧ N2 10 k = zI (leV y k) ∧ N2 11 k = zI (agG y k)) (fun o => ∃ N2, o = rV N2 J ∧ fR [7, 9, 10, 11] N N2 ∧ N2 7 1 = zI (foV y 6 : Int) ∧ ∀ k, k < foV y 6 → N2 9 k = zI (ltV y 6 k) ∧ N2 10 k = zI (leV y k) ∧ N2 11 k = zI (agG y k)) (foV y 6) ?_ ?_ _ ⟨fR.up (by simp), up_at _ _ _ _, fun k hk => absurd hk (Nat.not_lt_zero k)⟩
      · intro m N2 hm ⟨i1, i0, i2⟩
        right
        have q := fo_ok hm
        have bm := lt_bd y 6 m
        have k7 : (gK 6 : Int) = 7 := rfl
        rw [k7] at bm
        have nb := num_6 hm
        have e3 : N2 3 m = zI (ltV y 6 m) := by rw [i1 3 (by simp)]; exact (nj m hm).1
        have e4 : N2 4 m = zI (numV y 6 m) := by rw [i1 4 (by simp)]; exact (nj m hm).2
        refine ⟨mUp (mUp (mUp N2 9 m (zI (ltV y 6 m))) 10 m (zI (leV y m))) 11 m (zI (agG y m)), ⟨((i1.tr (fR.up (by simp))).tr (fR.up (by simp))).tr (fR.up (by simp)), by rw [up_nk (by omega), up_nk (by omega), up_nk (by omega)]; exact i0, fun k hk => ⟨?_, ?_, ?_⟩⟩, ?_⟩
        · rw [up_nk (by omega), up_nk (by omega)]
          by_cases x : k = m
          · rw [x, up_at]
          · rw [up_ne x]; exact (i2 k (by omega)).1
        · rw [up_nk (by omega)]
          by_cases x : k = m
          · rw [x, up_at]
          · rw [up_ne x, up_nk (by omega)]; exact (i2 k (by omega)).2.1
        · by_cases x : k = m
          · rw [x, up_at]
          · rw [up_ne x, up_nk (by omega), up_nk (by omega)]; exact (i2 k (by omega)).2.2
        · have ca := fun M J => c_angry (z := ltV y 6 m) ⟨by omega, by omega⟩ M J
          rw [e_Setup_takeGroupText_6]
          by_cases x : 3 ≤ ltV y 6 m ∧ ltV y 6 m ≤ 5
          · have e1 : leV y m = numV y 6 m / 10 := if_pos x
            have e2 : agG y m = numV y 6 m - numV y 6 m / 10 * 10 := by
              have : agG y m = numV y 6 m % 10 := if_pos x
              omega
            have ca2 : ∀ M J, k_Setup_canBeAngry (zI (ltV y 6 m)) M J = rI (zI 1) M J := fun M J => by rw [ca M J, if_pos x]
            simp (disch := omega) only [Int.reduceEq, Int.reduceLT, Int.reduceLE, Int.reduceAdd, Int.reduceMul, Int.reduceSub, Int.reduceNeg, Int.reduceDiv, li_0, li_1, li_2, li_3, li_4, li_5, li_6, li_7, li_8, li_9, li_10, li_16, li_20, li_22, li_32, li_36, li_39, li_40, li_42, li_48, li_60, li_67, li_69, li_70, li_71, li_76, li_77, li_80, li_83, li_86, li_90, li_100, li_120, li_200, li_209, li_234, li_240, li_255, li_300, li_309, li_310, ll_0, ll_1, ll_3, ll_5, ll_7, ll_8, ll_9, ll_20, ll_39, ll_40, ll_60, ll_100, ll_120, ll_200, ll_209, ll_300, ll_309, ll_600, ll_1000000000, zI_neg, zI_add, zI_sub, zI_mul, zL_add, zL_sub, zL_mul, zL_neg, zI_suc, zN_I, zI_ofNat, zI_le_t, zI_le_f, zI_lt_t, zI_lt_f, zI_eq_t, zI_eq_f, zL_le_t, zL_le_f, zL_lt_t, zL_lt_f, zL_eq_t, zL_eq_f, zI_cl, zI_L, mI_t, Int.reduceToNat, nt_le_f, nt_le_t, lc_le, lc_lt, lc_gt, lc_eq, zI_div, Int.toNat_natCast, zI_max, zI_min, or_false, false_or, or_true, true_or, not_false_eq_true, not_true_eq_false, ↓reduceIte, and_self, and_true, true_and, and_false, false_and, not_or, gt_iff_lt, ge_iff_le, mBI_rI, mBJ_rJ, mBR_rV, mBR_rR, rZ_0, rZ_1, i0, e3, e4, up_at, ca2, e1, e2]
          · have e1 : leV y m = numV y 6 m := if_neg x
            have e2 : agG y m = 0 := if_neg x
            have ca2 : ∀ M J, k_Setup_canBeAngry (zI (ltV y 6 m)) M J = rI (zI 0) M J := fun M J => by rw [ca M J, if_neg x]
            simp (disch := omega) only [Int.reduceEq, Int.reduceLT, Int.reduceLE, Int.reduceAdd, Int.reduceMul, Int.reduceSub, Int.reduceNeg, Int.reduceDiv, li_0, li_1, li_2, li_3, li_4, li_5, li_6, li_7, li_8, li_9, li_10, li_16, li_20, li_22, li_32, li_36, li_39, li_40, li_42, li_48, li_60, li_67, li_69, li_70, li_71, li_76, li_77, li_80, li_83, li_86, li_90, li_100, li_120, li_200, li_209, li_234, li_240, li_255, li_300, li_309, li_310, ll_0, ll_1, ll_3, ll_5, ll_7, ll_8, ll_9, ll_20, ll_39, ll_40, ll_60, ll_100, ll_120, ll_200, ll_209, ll_300, ll_309, ll_600, ll_1000000000, zI_neg, zI_add, zI_sub, zI_mul, zL_add, zL_sub, zL_mul, zL_neg, zI_suc, zN_I, zI_ofNat, zI_le_t, zI_le_f, zI_lt_t, zI_lt_f, zI_eq_t, zI_eq_f, zL_le_t, zL_le_f, zL_lt_t, zL_lt_f, zL_eq_t, zL_eq_f, zI_cl, zI_L, mI_t, Int.reduceToNat, nt_le_f, nt_le_t, lc_le, lc_lt, lc_gt, lc_eq, zI_div, Int.toNat_natCast, zI_max, zI_min, or_false, false_or, or_true, true_or, not_false_eq_true, not_true_eq_false, ↓reduceIte, and_self, and_true, true_and, and_false, false_and, not_or, gt_iff_lt, ge_iff_le, mBI_rI, mBJ_rJ, mBR_rV, mBR_rR, rZ_0, rZ_1, i0, e3, e4, up_at, ca2, e1, e2]
      · intro N2 ⟨i1, i0, i2⟩
        refine ⟨N2, ?_, i1, i0, i2⟩
        rw [e_Setup_takeGroupText_6]
        simp (disch := omega) only [Int.reduceEq, Int.reduceLT, Int.reduceLE, Int.reduceAdd, Int.reduceMul, Int.reduceSub, Int.reduceNeg, Int.reduceDiv, li_0, li_1, li_2, li_3, li_4, li_5, li_6, li_7, li_8, li_9, li_10, li_16, li_20, li_22, li_32, li_36, li_39, li_40, li_42, li_48, li_60, li_67, li_69, li_70, li_71, li_76, li_77, li_80, li_83, li_86, li_90, li_100, li_120, li_200, li_209, li_234, li_240, li_255, li_300, li_309, li_310, ll_0, ll_1, ll_3, ll_5, ll_7, ll_8, ll_9, ll_20, ll_39, ll_40, ll_60, ll_100, ll_120, ll_200, ll_209, ll_300, ll_309, ll_600, ll_1000000000, zI_neg, zI_add, zI_sub, zI_mul, zL_add, zL_sub, zL_mul, zL_neg, zI_suc, zN_I, zI_ofNat, zI_le_t, zI_le_f, zI_lt_t, zI_lt_f, zI_eq_t, zI_eq_f, zL_le_t, zL_le_f, zL_lt_t, zL_lt_f, zL_eq_t, zL_eq_f, zI_cl, zI_L, mI_t, Int.reduceToNat, nt_le_f, nt_le_t, lc_le, lc_lt, lc_gt, lc_eq, zI_div, Int.toNat_natCast, zI_max, zI_min, or_false, false_or, or_true, true_or, not_false_eq_true, not_true_eq_false, ↓reduceIte, and_self, and_true, true_and, and_false, false_and, not_or, gt_iff_lt, ge_iff_le, mBI_rI, mBJ_rJ, mBR_rV, mBR_rR, rZ_0, rZ_1, i0]
    obtain ⟨N2, e2, f2, r71, r2⟩ := key
    obtain ⟨N3, e3, f3, r12, r13⟩ := c_untell (s := 7) (Or.inl rfl) N2 J
    have e71 : N3 7 1 = zI (foV y 6 : Int) := by rw [f3 7 (by simp)]; exact r71
    have g19 : k_Pot_group_19 (zI 0) N3 J = rI (zI (foV y 6 : Int)) (mUp (mUp (mUp N3 38 0 (zI 0)) 42 0 (zI 0)) 0 9 (zI 1)) J := by
      have s0 : k_Pot_group_19 (zI 0) N3 J = k_Pot_group_19 (zI 1) (mUp N3 38 0 (zI 0)) J := by
        rw [e_Pot_group_19]
        simp (disch := omega) only [Int.reduceEq, Int.reduceLT, Int.reduceLE, Int.reduceAdd, Int.reduceMul, Int.reduceSub, Int.reduceNeg, Int.reduceDiv, li_0, li_1, li_2, li_3, li_4, li_5, li_6, li_7, li_8, li_9, li_10, li_16, li_20, li_22, li_32, li_36, li_39, li_40, li_42, li_48, li_60, li_67, li_69, li_70, li_71, li_76, li_77, li_80, li_83, li_86, li_90, li_100, li_120, li_200, li_209, li_234, li_240, li_255, li_300, li_309, li_310, ll_0, ll_1, ll_3, ll_5, ll_7, ll_8, ll_9, ll_20, ll_39, ll_40, ll_60, ll_100, ll_120, ll_200, ll_209, ll_300, ll_309, ll_600, ll_1000000000, zI_neg, zI_add, zI_sub, zI_mul, zL_add, zL_sub, zL_mul, zL_neg, zI_suc, zN_I, zI_ofNat, zI_le_t, zI_le_f, zI_lt_t, zI_lt_f, zI_eq_t, zI_eq_f, zL_le_t, zL_le_f, zL_lt_t, zL_lt_f, zL_eq_t, zL_eq_f, zI_cl, zI_L, mI_t, Int.reduceToNat, nt_le_f, nt_le_t, lc_le, lc_lt, lc_gt, lc_eq, zI_div, Int.toNat_natCast, zI_max, zI_min, or_false, false_or, or_true, true_or, not_false_eq_true, not_true_eq_false, ↓reduceIte, and_self, and_true, true_and, and_false, false_and, not_or, gt_iff_lt, ge_iff_le, mBI_rI, mBJ_rJ, mBR_rV, mBR_rR, rZ_0, rZ_1]
      have s1 : k_Pot_group_19 (zI 1) (mUp N3 38 0 (zI 0)) J = k_Pot_group_19 (zI 2) (mUp (mUp N3 38 0 (zI 0)) 42 0 (zI 0)) J := by
        rw [e_Pot_group_19]
        simp (disch := omega) only [Int.reduceEq, Int.reduceLT, Int.reduceLE, Int.reduceAdd, Int.reduceMul, Int.reduceSub, Int.reduceNeg, Int.reduceDiv, li_0, li_1, li_2, li_3, li_4, li_5, li_6, li_7, li_8, li_9, li_10, li_16, li_20, li_22, li_32, li_36, li_39, li_40, li_42, li_48, li_60, li_67, li_69, li_70, li_71, li_76, li_77, li_80, li_83, li_86, li_90, li_100, li_120, li_200, li_209, li_234, li_240, li_255, li_300, li_309, li_310, ll_0, ll_1, ll_3, ll_5, ll_7, ll_8, ll_9, ll_20, ll_39, ll_40, ll_60, ll_100, ll_120, ll_200, ll_209, ll_300, ll_309, ll_600, ll_1000000000, zI_neg, zI_add, zI_sub, zI_mul, zL_add, zL_sub, zL_mul, zL_neg, zI_suc, zN_I, zI_ofNat, zI_le_t, zI_le_f, zI_lt_t, zI_lt_f, zI_eq_t, zI_eq_f, zL_le_t, zL_le_f, zL_lt_t, zL_lt_f, zL_eq_t, zL_eq_f, zI_cl, zI_L, mI_t, Int.reduceToNat, nt_le_f, nt_le_t, lc_le, lc_lt, lc_gt, lc_eq, zI_div, Int.toNat_natCast, zI_max, zI_min, or_false, false_or, or_true, true_or, not_false_eq_true, not_true_eq_false, ↓reduceIte, and_self, and_true, true_and, and_false, false_and, not_or, gt_iff_lt, ge_iff_le, mBI_rI, mBJ_rJ, mBR_rV, mBR_rR, rZ_0, rZ_1]
      rw [s0, s1, e_Pot_group_19]
      simp (disch := omega) only [Int.reduceEq, Int.reduceLT, Int.reduceLE, Int.reduceAdd, Int.reduceMul, Int.reduceSub, Int.reduceNeg, Int.reduceDiv, li_0, li_1, li_2, li_3, li_4, li_5, li_6, li_7, li_8, li_9, li_10, li_16, li_20, li_22, li_32, li_36, li_39, li_40, li_42, li_48, li_60, li_67, li_69, li_70, li_71, li_76, li_77, li_80, li_83, li_86, li_90, li_100, li_120, li_200, li_209, li_234, li_240, li_255, li_300, li_309, li_310, ll_0, ll_1, ll_3, ll_5, ll_7, ll_8, ll_9, ll_20, ll_39, ll_40, ll_60, ll_100, ll_120, ll_200, ll_209, ll_300, ll_309, ll_600, ll_1000000000, zI_neg, zI_add, zI_sub, zI_mul, zL_add, zL_sub, zL_mul, zL_neg, zI_suc, zN_I, zI_ofNat, zI_le_t, zI_le_f, zI_lt_t, zI_lt_f, zI_eq_t, zI_eq_f, zL_le_t, zL_le_f, zL_lt_t, zL_lt_f, zL_eq_t, zL_eq_f, zI_cl, zI_L, mI_t, Int.reduceToNat, nt_le_f, nt_le_t, lc_le, lc_lt, lc_gt, lc_eq, zI_div, Int.toNat_natCast, zI_max, zI_min, or_false, false_or, or_true, true_or, not_false_eq_true, not_true_eq_false, ↓reduceIte, and_self, and_true, true_and, and_false, false_and, not_or, gt_iff_lt, ge_iff_le, mBI_rI, mBJ_rJ, mBR_rV, mBR_rR, rZ_0, rZ_1, up_nk, e71]
    have fr : ∀ p, p ≠ 0 → p ≠ 7 → p ≠ 9 → p ≠ 10 → p ≠ 11 → p ≠ 12 → p ≠ 13 → p ≠ 38 → p ≠ 42 → mUp (mUp (mUp N3 38 0 (zI 0)) 42 0 (zI 0)) 0 9 (zI 1) p = N p := by
      intro p q0 q7 q9 q10 q11 q12 q13 q38 q42
      rw [up_nk q0, up_nk q42, up_nk q38, f3 p (by simp; omega), f2 p (by simp; omega)]
    have frS : ∀ p, p < 36 → p ≠ 0 → mUp (mUp (mUp N3 38 0 (zI 0)) 42 0 (zI 0)) 0 9 (zI 1) p = N3 p := by
      intro p q q0
      rw [up_nk q0, up_nk (by omega), up_nk (by omega)]
    refine ⟨mUp (mUp (mUp N3 38 0 (zI 0)) 42 0 (zI 0)) 0 9 (zI 1), J, ?_, ?_, fun p hp => by rw [fr p (by omega) (by omega) (by omega) (by omega) (by omega) (by omega) (by omega) (by omega) (by omega), t.2 p (by omega) (by omega) (by omega)], fun _ _ => rfl⟩
    · simp (disch := omega) only [Int.reduceEq, Int.reduceLT, Int.reduceLE, Int.reduceAdd, Int.reduceMul, Int.reduceSub, Int.reduceNeg, Int.reduceDiv, li_0, li_1, li_2, li_3, li_4, li_5, li_6, li_7, li_8, li_9, li_10, li_16, li_20, li_22, li_32, li_36, li_39, li_40, li_42, li_48, li_60, li_67, li_69, li_70, li_71, li_76, li_77, li_80, li_83, li_86, li_90, li_100, li_120, li_200, li_209, li_234, li_240, li_255, li_300, li_309, li_310, ll_0, ll_1, ll_3, ll_5, ll_7, ll_8, ll_9, ll_20, ll_39, ll_40, ll_60, ll_100, ll_120, ll_200, ll_209, ll_300, ll_309, ll_600, ll_1000000000, zI_neg, zI_add, zI_sub, zI_mul, zL_add, zL_sub, zL_mul, zL_neg, zI_suc, zN_I, zI_ofNat, zI_le_t, zI_le_f, zI_lt_t, zI_lt_f, zI_eq_t, zI_eq_f, zL_le_t, zL_le_f, zL_lt_t, zL_lt_f, zL_eq_t, zL_eq_f, zI_cl, zI_L, mI_t, Int.reduceToNat, nt_le_f, nt_le_t, lc_le, lc_lt, lc_gt, lc_eq, zI_div, Int.toNat_natCast, zI_max, zI_min, or_false, false_or, or_true, true_or, not_false_eq_true, not_true_eq_false, ↓reduceIte, and_self, and_true, true_and, and_false, false_and, not_or, gt_iff_lt, ge_iff_le, mBI_rI, mBJ_rJ, mBR_rV, mBR_rR, rZ_0, rZ_1, e, e2, e3, g19]
    · obtain ⟨a1, a2, a3, a4, a5, a6⟩ := o
      refine ⟨a1.fr (fun p hp => fr p (by omega) (by omega) (by omega) (by omega) (by omega) (by omega) (by omega) (by omega) (by omega)), a2.fr (by rw [fr 1 (by omega) (by omega) (by omega) (by omega) (by omega) (by omega) (by omega) (by omega) (by omega)]) (fr 2 (by omega) (by omega) (by omega) (by omega) (by omega) (by omega) (by omega) (by omega) (by omega)), ⟨?_, fun j hj => ?_, fun k hk => ⟨?_, ?_, ?_⟩, fun k hk => ?_, fun k u hk hu => ?_⟩, a4.fr (fr 36 (by omega) (by omega) (by omega) (by omega) (by omega) (by omega) (by omega) (by omega) (by omega)), fun b hb => ⟨?_, fun h1 => absurd (show (0 : Int) = 1 from h1) (by omega)⟩, Or.inl (up_at _ _ _ _)⟩
      · rw [frS 7 (by omega) (by omega)]; exact e71
      · rw [fr (7 + 1) (by omega) (by omega) (by omega) (by omega) (by omega) (by omega) (by omega) (by omega) (by omega)]; exact a3.2.1 j hj
      · rw [frS (7 + 2) (by omega) (by omega), f3 (7 + 2) (by simp)]; exact (r2 k hk).1
      · rw [frS (7 + 3) (by omega) (by omega), f3 (7 + 3) (by simp)]; exact (r2 k hk).2.1
      · rw [frS (7 + 4) (by omega) (by omega), f3 (7 + 4) (by simp)]; exact (r2 k hk).2.2
      · rw [frS (7 + 6) (by omega) (by omega)]; exact r13 k hk
      · rw [frS (7 + 5) (by omega) (by omega)]; exact r12 _ (by omega)
      · show mUp (mUp (mUp N3 38 0 (zI 0)) 42 0 (zI 0)) 0 9 (zI 1) (38 + 4 * b) 0 = zI 0
        rcases (show b = 0 ∨ b = 1 by omega) with rfl | rfl
        · rw [up_nk (by omega), up_nk (by omega)]
          exact up_at _ _ _ _
        · rw [up_nk (by omega)]
          exact up_at _ _ _ _
  · rw [if_neg c, if_neg c]
    refine ⟨N, J, ?_, o, fun p hp => t.2 p (by omega) (by omega) (by omega), fun _ _ => rfl⟩
    simp (disch := omega) only [Int.reduceEq, Int.reduceLT, Int.reduceLE, Int.reduceAdd, Int.reduceMul, Int.reduceSub, Int.reduceNeg, Int.reduceDiv, li_0, li_1, li_2, li_3, li_4, li_5, li_6, li_7, li_8, li_9, li_10, li_16, li_20, li_22, li_32, li_36, li_39, li_40, li_42, li_48, li_60, li_67, li_69, li_70, li_71, li_76, li_77, li_80, li_83, li_86, li_90, li_100, li_120, li_200, li_209, li_234, li_240, li_255, li_300, li_309, li_310, ll_0, ll_1, ll_3, ll_5, ll_7, ll_8, ll_9, ll_20, ll_39, ll_40, ll_60, ll_100, ll_120, ll_200, ll_209, ll_300, ll_309, ll_600, ll_1000000000, zI_neg, zI_add, zI_sub, zI_mul, zL_add, zL_sub, zL_mul, zL_neg, zI_suc, zN_I, zI_ofNat, zI_le_t, zI_le_f, zI_lt_t, zI_lt_f, zI_eq_t, zI_eq_f, zL_le_t, zL_le_f, zL_lt_t, zL_lt_f, zL_eq_t, zL_eq_f, zI_cl, zI_L, mI_t, Int.reduceToNat, nt_le_f, nt_le_t, lc_le, lc_lt, lc_gt, lc_eq, zI_div, Int.toNat_natCast, zI_max, zI_min, or_false, false_or, or_true, true_or, not_false_eq_true, not_true_eq_false, ↓reduceIte, and_self, and_true, true_and, and_false, false_and, not_or, gt_iff_lt, ge_iff_le, mBI_rI, mBJ_rJ, mBR_rV, mBR_rR, rZ_0, rZ_1, e]
theorem m_clear (M : mMI) (J : mMJ) : ∃ N, k_Model_clear M J = rV N J ∧ fR [56, 57, 61] M N ∧ (∀ i, i < 240 → N 56 i = zI (-9)) ∧ (∀ k, k < 6 → N 57 k = zI 40) ∧ (∀ b, b < 2 → N 61 b = zI 0) := by
  obtain ⟨N1, ⟨f1, r1⟩, e1⟩ := lp_to (α := mMI) (fun N j => k_Model_clear_2 (zI (j : Int)) N J) (fun j N => fR [56] M N ∧ ∀ i, i < j → N 56 i = zI (-9)) 240 (by
    intro j N hj ⟨i1, i2⟩
    refine ⟨mUp N 56 j (zI (-9)), ⟨i1.tr (fR.up (by simp)), fun i hi => ?_⟩, ?_⟩
    · by_cases h : i = j
      · subst h; exact up_at _ _ _ _
      · rw [up_ne h]; exact i2 i (by omega)
    · rw [e_Model_clear_2]
      simp (disch := omega) only [Int.reduceEq, Int.reduceLT, Int.reduceLE, Int.reduceAdd, Int.reduceMul, Int.reduceSub, Int.reduceNeg, Int.reduceDiv, li_0, li_1, li_2, li_3, li_4, li_5, li_6, li_7, li_8, li_9, li_10, li_16, li_20, li_22, li_32, li_36, li_39, li_40, li_42, li_48, li_60, li_67, li_69, li_70, li_71, li_76, li_77, li_80, li_83, li_86, li_90, li_100, li_120, li_200, li_209, li_234, li_240, li_255, li_300, li_309, li_310, ll_0, ll_1, ll_3, ll_5, ll_7, ll_8, ll_9, ll_20, ll_39, ll_40, ll_60, ll_100, ll_120, ll_200, ll_209, ll_300, ll_309, ll_600, ll_1000000000, zI_neg, zI_add, zI_sub, zI_mul, zL_add, zL_sub, zL_mul, zL_neg, zI_suc, zN_I, zI_ofNat, zI_le_t, zI_le_f, zI_lt_t, zI_lt_f, zI_eq_t, zI_eq_f, zL_le_t, zL_le_f, zL_lt_t, zL_lt_f, zL_eq_t, zL_eq_f, zI_cl, zI_L, mI_t, Int.reduceToNat, nt_le_f, nt_le_t, lc_le, lc_lt, lc_gt, lc_eq, zI_div, Int.toNat_natCast, zI_max, zI_min, or_false, false_or, or_true, true_or, not_false_eq_true, not_true_eq_false, ↓reduceIte, and_self, and_true, true_and, and_false, false_and, not_or, gt_iff_lt, ge_iff_le, mBI_rI, mBJ_rJ, mBR_rV, mBR_rR, rZ_0, rZ_1]) M ⟨fR.rf, fun i hi => absurd hi (Nat.not_lt_zero i)⟩
  obtain ⟨N2, ⟨f2, r2⟩, e2⟩ := lp_to (α := mMI) (fun N j => k_Model_clear_14 (zI (j : Int)) N J) (fun j N => fR [57] N1 N ∧ ∀ i, i < j → N 57 i = zI 40) 6 (by
    intro j N hj ⟨i1, i2⟩
    refine ⟨mUp N 57 j (zI 40), ⟨i1.tr (fR.up (by simp)), fun i hi => ?_⟩, ?_⟩
    · by_cases h : i = j
      · subst h; exact up_at _ _ _ _
      · rw [up_ne h]; exact i2 i (by omega)
    · rw [e_Model_clear_14]
      simp (disch := omega) only [Int.reduceEq, Int.reduceLT, Int.reduceLE, Int.reduceAdd, Int.reduceMul, Int.reduceSub, Int.reduceNeg, Int.reduceDiv, li_0, li_1, li_2, li_3, li_4, li_5, li_6, li_7, li_8, li_9, li_10, li_16, li_20, li_22, li_32, li_36, li_39, li_40, li_42, li_48, li_60, li_67, li_69, li_70, li_71, li_76, li_77, li_80, li_83, li_86, li_90, li_100, li_120, li_200, li_209, li_234, li_240, li_255, li_300, li_309, li_310, ll_0, ll_1, ll_3, ll_5, ll_7, ll_8, ll_9, ll_20, ll_39, ll_40, ll_60, ll_100, ll_120, ll_200, ll_209, ll_300, ll_309, ll_600, ll_1000000000, zI_neg, zI_add, zI_sub, zI_mul, zL_add, zL_sub, zL_mul, zL_neg, zI_suc, zN_I, zI_ofNat, zI_le_t, zI_le_f, zI_lt_t, zI_lt_f, zI_eq_t, zI_eq_f, zL_le_t, zL_le_f, zL_lt_t, zL_lt_f, zL_eq_t, zL_eq_f, zI_cl, zI_L, mI_t, Int.reduceToNat, nt_le_f, nt_le_t, lc_le, lc_lt, lc_gt, lc_eq, zI_div, Int.toNat_natCast, zI_max, zI_min, or_false, false_or, or_true, true_or, not_false_eq_true, not_true_eq_false, ↓reduceIte, and_self, and_true, true_and, and_false, false_and, not_or, gt_iff_lt, ge_iff_le, mBI_rI, mBJ_rJ, mBR_rV, mBR_rR, rZ_0, rZ_1]) N1 ⟨fR.rf, fun i hi => absurd hi (Nat.not_lt_zero i)⟩
  refine ⟨mUp (mUp N2 61 0 (zI 0)) 61 1 (zI 0), ?_, (((f1.mono (by simp)).tr (f2.mono (by simp))).tr (fR.up (by simp))).tr (fR.up (by simp)), fun i hi => ?_, fun k hk => ?_, fun b hb => ?_⟩
  · rw [e_Model_clear]
    simp only [li_0, li_1, li_2, li_3, li_4, li_5, li_6, li_7, li_8, li_9, li_10, li_16, li_20, li_22, li_32, li_36, li_39, li_40, li_42, li_48, li_60, li_67, li_69, li_70, li_71, li_76, li_77, li_80, li_83, li_86, li_90, li_100, li_120, li_200, li_209, li_234, li_240, li_255, li_300, li_309, li_310, ll_0, ll_1, ll_3, ll_5, ll_7, ll_8, ll_9, ll_20, ll_39, ll_40, ll_60, ll_100, ll_120, ll_200, ll_209, ll_300, ll_309, ll_600, ll_1000000000, zI_neg, zI_add, zI_sub, zI_mul, zL_add, zL_sub, zL_mul, zL_neg, zI_suc, zN_I, zI_ofNat]
    refine Eq.trans e1 ?_
    show k_Model_clear_2 (zI ((240 : Nat) : Int)) N1 J = _
    rw [e_Model_clear_2]
    simp (disch := omega) only [Int.reduceEq, Int.reduceLT, Int.reduceLE, Int.reduceAdd, Int.reduceMul, Int.reduceSub, Int.reduceNeg, Int.reduceDiv, li_0, li_1, li_2, li_3, li_4, li_5, li_6, li_7, li_8, li_9, li_10, li_16, li_20, li_22, li_32, li_36, li_39, li_40, li_42, li_48, li_60, li_67, li_69, li_70, li_71, li_76, li_77, li_80, li_83, li_86, li_90, li_100, li_120, li_200, li_209, li_234, li_240, li_255, li_300, li_309, li_310, ll_0, ll_1, ll_3, ll_5, ll_7, ll_8, ll_9, ll_20, ll_39, ll_40, ll_60, ll_100, ll_120, ll_200, ll_209, ll_300, ll_309, ll_600, ll_1000000000, zI_neg, zI_add, zI_sub, zI_mul, zL_add, zL_sub, zL_mul, zL_neg, zI_suc, zN_I, zI_ofNat, zI_le_t, zI_le_f, zI_lt_t, zI_lt_f, zI_eq_t, zI_eq_f, zL_le_t, zL_le_f, zL_lt_t, zL_lt_f, zL_eq_t, zL_eq_f, zI_cl, zI_L, mI_t, Int.reduceToNat, nt_le_f, nt_le_t, lc_le, lc_lt, lc_gt, lc_eq, zI_div, Int.toNat_natCast, zI_max, zI_min, or_false, false_or, or_true, true_or, not_false_eq_true, not_true_eq_false, ↓reduceIte, and_self, and_true, true_and, and_false, false_and, not_or, gt_iff_lt, ge_iff_le, mBI_rI, mBJ_rJ, mBR_rV, mBR_rR, rZ_0, rZ_1]
    refine Eq.trans e2 ?_
    show k_Model_clear_14 (zI ((6 : Nat) : Int)) N2 J = _
    rw [e_Model_clear_14]
    simp (disch := omega) only [Int.reduceEq, Int.reduceLT, Int.reduceLE, Int.reduceAdd, Int.reduceMul, Int.reduceSub, Int.reduceNeg, Int.reduceDiv, li_0, li_1, li_2, li_3, li_4, li_5, li_6, li_7, li_8, li_9, li_10, li_16, li_20, li_22, li_32, li_36, li_39, li_40, li_42, li_48, li_60, li_67, li_69, li_70, li_71, li_76, li_77, li_80, li_83, li_86, li_90, li_100, li_120, li_200, li_209, li_234, li_240, li_255, li_300, li_309, li_310, ll_0, ll_1, ll_3, ll_5, ll_7, ll_8, ll_9, ll_20, ll_39, ll_40, ll_60, ll_100, ll_120, ll_200, ll_209, ll_300, ll_309, ll_600, ll_1000000000, zI_neg, zI_add, zI_sub, zI_mul, zL_add, zL_sub, zL_mul, zL_neg, zI_suc, zN_I, zI_ofNat, zI_le_t, zI_le_f, zI_lt_t, zI_lt_f, zI_eq_t, zI_eq_f, zL_le_t, zL_le_f, zL_lt_t, zL_lt_f, zL_eq_t, zL_eq_f, zI_cl, zI_L, mI_t, Int.reduceToNat, nt_le_f, nt_le_t, lc_le, lc_lt, lc_gt, lc_eq, zI_div, Int.toNat_natCast, zI_max, zI_min, or_false, false_or, or_true, true_or, not_false_eq_true, not_true_eq_false, ↓reduceIte, and_self, and_true, true_and, and_false, false_and, not_or, gt_iff_lt, ge_iff_le, mBI_rI, mBJ_rJ, mBR_rV, mBR_rR, rZ_0, rZ_1]
  · rw [up_nk (by omega), up_nk (by omega), f2 56 (by simp)]; exact r1 i hi
  · rw [up_nk (by omega), up_nk (by omega)]; exact r2 k hk
  · rcases (show b = 0 ∨ b = 1 by omega) with rfl | rfl
    · rw [up_ne (by omega), up_at]
    · rw [up_at]
theorem R_group {y : sS} (hy : yOk y) {M : mMI} {J : mMJ} (h : MI y M) : mE (nGroup y) M J (k_Model_group M J) (aGroup y) := by
  have h0 := h.u46 (i := 0) (by omega) (by omega) (zI 0)
  obtain ⟨N, e, f, n11, n5⟩ := m_readGroup hy h0 J
  have ab := anV_bd hy (g := 6) (Or.inr rfl)
  have hN : MI y N := h0.rd (fun p p1 _ p2 p3 p4 => f.1 p p1 p2 p3 p4) (f.2 2 (by omega) (by omega)) (f.2 7 (by omega) (by omega))
  have fM : ∀ p, p < 46 ∨ 70 ≤ p → N p = M p := fun p hp => by rw [f.1 p (by omega) (by omega) (by omega) (by omega), up_nk (by omega)]
  have hyg : anV y 6 = -9 → yOk (nGr y) := fun c => by
    have := nGroup_ok y hy
    unfold nGroup at this
    rw [if_pos c] at this
    exact this
  rw [e_Model_group]
  unfold aGroup nGroup
  by_cases c : anV y 6 = -9
  · have f6 : foV y 6 ≤ 6 := (hyg c).2.1.1.2
    rw [if_pos c, if_pos c]
    rw [c] at e
    obtain ⟨N1, ⟨f1, r50, r51, r52⟩, e1⟩ := lp_to (α := mMI) (fun N1 j => k_Model_group_15 (zI (j : Int)) N1 J) (fun j N1 => fR [50, 51, 52] (mUp N 46 7 (zI (foV y 6 : Int))) N1 ∧ (∀ k, k < j → N1 50 k = N 53 k) ∧ (∀ k, k < j → N1 51 k = N 54 k) ∧ (∀ k, k < j → N1 52 k = N 55 k)) 6 (by
      intro j N1 hj ⟨i1, i2, i3, i4⟩
      have e53 : N1 53 = N 53 := by rw [i1 53 (by simp), up_nk (by omega)]
      have e54 : N1 54 = N 54 := by rw [i1 54 (by simp), up_nk (by omega)]
      have e55 : N1 55 = N 55 := by rw [i1 55 (by simp), up_nk (by omega)]
      refine ⟨mUp (mUp (mUp N1 50 j (N 53 j)) 51 j (N 54 j)) 52 j (N 55 j), ⟨((i1.tr (fR.up (by simp))).tr (fR.up (by simp))).tr (fR.up (by simp)), fun k hk => ?_, fun k hk => ?_, fun k hk => ?_⟩, ?_⟩
      · rw [up_nk (by omega), up_nk (by omega)]
        by_cases x : k = j
        · rw [x, up_at]
        · rw [up_ne x]; exact i2 k (by omega)
      · rw [up_nk (by omega)]
        by_cases x : k = j
        · rw [x, up_at]
        · rw [up_ne x, up_nk (by omega)]; exact i3 k (by omega)
      · by_cases x : k = j
        · rw [x, up_at]
        · rw [up_ne x, up_nk (by omega), up_nk (by omega)]; exact i4 k (by omega)
      · rw [e_Model_group_15]
        simp (disch := omega) only [Int.reduceEq, Int.reduceLT, Int.reduceLE, Int.reduceAdd, Int.reduceMul, Int.reduceSub, Int.reduceNeg, Int.reduceDiv, li_0, li_1, li_2, li_3, li_4, li_5, li_6, li_7, li_8, li_9, li_10, li_16, li_20, li_22, li_32, li_36, li_39, li_40, li_42, li_48, li_60, li_67, li_69, li_70, li_71, li_76, li_77, li_80, li_83, li_86, li_90, li_100, li_120, li_200, li_209, li_234, li_240, li_255, li_300, li_309, li_310, ll_0, ll_1, ll_3, ll_5, ll_7, ll_8, ll_9, ll_20, ll_39, ll_40, ll_60, ll_100, ll_120, ll_200, ll_209, ll_300, ll_309, ll_600, ll_1000000000, zI_neg, zI_add, zI_sub, zI_mul, zL_add, zL_sub, zL_mul, zL_neg, zI_suc, zN_I, zI_ofNat, zI_le_t, zI_le_f, zI_lt_t, zI_lt_f, zI_eq_t, zI_eq_f, zL_le_t, zL_le_f, zL_lt_t, zL_lt_f, zL_eq_t, zL_eq_f, zI_cl, zI_L, mI_t, Int.reduceToNat, nt_le_f, nt_le_t, lc_le, lc_lt, lc_gt, lc_eq, zI_div, Int.toNat_natCast, zI_max, zI_min, or_false, false_or, or_true, true_or, not_false_eq_true, not_true_eq_false, ↓reduceIte, and_self, and_true, true_and, and_false, false_and, not_or, gt_iff_lt, ge_iff_le, mBI_rI, mBJ_rJ, mBR_rV, mBR_rR, rZ_0, rZ_1, e53, e54, e55, up_nk]) (mUp N 46 7 (zI (foV y 6 : Int))) ⟨fR.rf, fun k hk => absurd hk (Nat.not_lt_zero k), fun k hk => absurd hk (Nat.not_lt_zero k), fun k hk => absurd hk (Nat.not_lt_zero k)⟩
    obtain ⟨N2, e2, f2, q56, q57, q61⟩ := m_clear N1 J
    have e7 : N2 46 7 = zI (foV y 6 : Int) := by rw [f2 46 (by simp), f1 46 (by simp), up_at]
    have fr : ∀ p, p ≠ 46 → p ≠ 50 → p ≠ 51 → p ≠ 52 → p ≠ 56 → p ≠ 57 → p ≠ 61 → N2 p = N p := fun p q1 q2 q3 q4 q5 q6 q7 => by rw [f2 p (by simp; omega), f1 p (by simp; omega), up_nk q1]
    refine ⟨N2, J, ?_, ⟨?_, ⟨e7, ?_, fun k hk => ⟨?_, ?_, ?_⟩, q57, fun k t hk ht => q56 _ (by omega)⟩, ?_, fun b hb => ⟨q61 b hb, fun h1 => absurd (show (0 : Int) = 1 from h1) (by omega)⟩⟩, fun p hp => by rw [fr p (by omega) (by omega) (by omega) (by omega) (by omega) (by omega) (by omega), fM p hp], fun _ _ => rfl⟩
    · simp (disch := omega) only [Int.reduceEq, Int.reduceLT, Int.reduceLE, Int.reduceAdd, Int.reduceMul, Int.reduceSub, Int.reduceNeg, Int.reduceDiv, li_0, li_1, li_2, li_3, li_4, li_5, li_6, li_7, li_8, li_9, li_10, li_16, li_20, li_22, li_32, li_36, li_39, li_40, li_42, li_48, li_60, li_67, li_69, li_70, li_71, li_76, li_77, li_80, li_83, li_86, li_90, li_100, li_120, li_200, li_209, li_234, li_240, li_255, li_300, li_309, li_310, ll_0, ll_1, ll_3, ll_5, ll_7, ll_8, ll_9, ll_20, ll_39, ll_40, ll_60, ll_100, ll_120, ll_200, ll_209, ll_300, ll_309, ll_600, ll_1000000000, zI_neg, zI_add, zI_sub, zI_mul, zL_add, zL_sub, zL_mul, zL_neg, zI_suc, zN_I, zI_ofNat, zI_le_t, zI_le_f, zI_lt_t, zI_lt_f, zI_eq_t, zI_eq_f, zL_le_t, zL_le_f, zL_lt_t, zL_lt_f, zL_eq_t, zL_eq_f, zI_cl, zI_L, mI_t, Int.reduceToNat, nt_le_f, nt_le_t, lc_le, lc_lt, lc_gt, lc_eq, zI_div, Int.toNat_natCast, zI_max, zI_min, or_false, false_or, or_true, true_or, not_false_eq_true, not_true_eq_false, ↓reduceIte, and_self, and_true, true_and, and_false, false_and, not_or, gt_iff_lt, ge_iff_le, mBI_rI, mBJ_rJ, mBR_rV, mBR_rR, rZ_0, rZ_1, e, n11]
      refine Eq.trans e1 ?_
      show k_Model_group_15 (zI ((6 : Nat) : Int)) N1 J = _
      rw [e_Model_group_15]
      simp (disch := omega) only [Int.reduceEq, Int.reduceLT, Int.reduceLE, Int.reduceAdd, Int.reduceMul, Int.reduceSub, Int.reduceNeg, Int.reduceDiv, li_0, li_1, li_2, li_3, li_4, li_5, li_6, li_7, li_8, li_9, li_10, li_16, li_20, li_22, li_32, li_36, li_39, li_40, li_42, li_48, li_60, li_67, li_69, li_70, li_71, li_76, li_77, li_80, li_83, li_86, li_90, li_100, li_120, li_200, li_209, li_234, li_240, li_255, li_300, li_309, li_310, ll_0, ll_1, ll_3, ll_5, ll_7, ll_8, ll_9, ll_20, ll_39, ll_40, ll_60, ll_100, ll_120, ll_200, ll_209, ll_300, ll_309, ll_600, ll_1000000000, zI_neg, zI_add, zI_sub, zI_mul, zL_add, zL_sub, zL_mul, zL_neg, zI_suc, zN_I, zI_ofNat, zI_le_t, zI_le_f, zI_lt_t, zI_lt_f, zI_eq_t, zI_eq_f, zL_le_t, zL_le_f, zL_lt_t, zL_lt_f, zL_eq_t, zL_eq_f, zI_cl, zI_L, mI_t, Int.reduceToNat, nt_le_f, nt_le_t, lc_le, lc_lt, lc_gt, lc_eq, zI_div, Int.toNat_natCast, zI_max, zI_min, or_false, false_or, or_true, true_or, not_false_eq_true, not_true_eq_false, ↓reduceIte, and_self, and_true, true_and, and_false, false_and, not_or, gt_iff_lt, ge_iff_le, mBI_rI, mBJ_rJ, mBR_rV, mBR_rR, rZ_0, rZ_1, e2, e7]
    · exact mtH.fr hN.1 (by rw [f2 46 (by simp), f1 46 (by simp), up_ne (by omega)]) (fr 47 (by omega) (by omega) (by omega) (by omega) (by omega) (by omega) (by omega))
    · rw [fr 48 (by omega) (by omega) (by omega) (by omega) (by omega) (by omega) (by omega)]; exact hN.2.1.2.1
    · have hk : k < foV y 6 := hk
      rw [f2 50 (by simp), r50 k (by omega)]; exact (n5 k hk).1
    · have hk : k < foV y 6 := hk
      rw [f2 51 (by simp), r51 k (by omega)]; exact (n5 k hk).2.1
    · have hk : k < foV y 6 := hk
      rw [f2 52 (by simp), r52 k (by omega)]; exact (n5 k hk).2.2
    · rw [fr 62 (by omega) (by omega) (by omega) (by omega) (by omega) (by omega) (by omega)]; exact hN.2.2.1
  · rw [if_neg c, if_neg c]
    refine ⟨N, J, ?_, hN, fM, fun _ _ => rfl⟩
    simp (disch := omega) only [Int.reduceEq, Int.reduceLT, Int.reduceLE, Int.reduceAdd, Int.reduceMul, Int.reduceSub, Int.reduceNeg, Int.reduceDiv, li_0, li_1, li_2, li_3, li_4, li_5, li_6, li_7, li_8, li_9, li_10, li_16, li_20, li_22, li_32, li_36, li_39, li_40, li_42, li_48, li_60, li_67, li_69, li_70, li_71, li_76, li_77, li_80, li_83, li_86, li_90, li_100, li_120, li_200, li_209, li_234, li_240, li_255, li_300, li_309, li_310, ll_0, ll_1, ll_3, ll_5, ll_7, ll_8, ll_9, ll_20, ll_39, ll_40, ll_60, ll_100, ll_120, ll_200, ll_209, ll_300, ll_309, ll_600, ll_1000000000, zI_neg, zI_add, zI_sub, zI_mul, zL_add, zL_sub, zL_mul, zL_neg, zI_suc, zN_I, zI_ofNat, zI_le_t, zI_le_f, zI_lt_t, zI_lt_f, zI_eq_t, zI_eq_f, zL_le_t, zL_le_f, zL_lt_t, zL_lt_f, zL_eq_t, zL_eq_f, zI_cl, zI_L, mI_t, Int.reduceToNat, nt_le_f, nt_le_t, lc_le, lc_lt, lc_gt, lc_eq, zI_div, Int.toNat_natCast, zI_max, zI_min, or_false, false_or, or_true, true_or, not_false_eq_true, not_true_eq_false, ↓reduceIte, and_self, and_true, true_and, and_false, false_and, not_or, gt_iff_lt, ge_iff_le, mBI_rI, mBJ_rJ, mBR_rV, mBR_rR, rZ_0, rZ_1, e]
