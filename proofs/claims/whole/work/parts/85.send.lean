/-! send, note, wipe -/
def stV (n : Nat) (O : Nat → Int) : Int := sm n (fun k => if ((39 : Nat) : Int) < O k then 1 else 0)
theorem stV_up {n : Nat} {O : Nat → Int} {p : Nat} (hp : p < n) (v : Int) : stV n (upO O p v) = stV n O - (if 39 < O p then 1 else 0) + (if 39 < v then 1 else 0) := by
  have h := sm_up (fun k => if ((39 : Nat) : Int) < O k then 1 else 0) p (if ((39 : Nat) : Int) < v then 1 else 0) n
  rw [if_pos hp] at h
  have e : stV n (upO O p v) = sm n (fun k => if k = p then (if ((39 : Nat) : Int) < v then 1 else 0) else (if ((39 : Nat) : Int) < O k then 1 else 0)) := by
    refine sm_cg n (fun k _ => ?_)
    unfold upO
    by_cases c : k = p
    · rw [if_pos c, if_pos c]
    · rw [if_neg c, if_neg c]
  rw [e, h]
  show sm n _ + ((if (39 : Int) < v then (1 : Int) else 0) - (if (39 : Int) < O p then 1 else 0)) = sm n _ - (if 39 < O p then 1 else 0) + (if 39 < v then 1 else 0)
  omega
theorem stV_bd {n : Nat} (hn : n ≤ 6) (O : Nat → Int) : 0 ≤ stV n O ∧ stV n O ≤ 6 := by
  refine ⟨sm_ge n (fun k _ => ?_), ?_⟩
  · show 0 ≤ (if ((39 : Nat) : Int) < O k then (1 : Int) else 0)
    split <;> omega
  · have := sm_le (f := fun k => if ((39 : Nat) : Int) < O k then 1 else 0) (B := 1) (by omega) n hn (fun k _ => by show (if ((39 : Nat) : Int) < O k then (1 : Int) else 0) ≤ 1; split <;> omega)
    exact this
theorem CI.su {y : sS} (hy : yOk y) {M : mMI} {J : mMJ} (h : CI y M J) : suH 7 (wd y) M := h.2.2.1.su hy.2.1 hy.2.2.1
theorem wd_ok {y : sS} (hy : yOk y) : wOk (wd y) := wOk_mk hy.2.1 hy.2.2.1
theorem c_canSpare {y : sS} (hy : yOk y) {M : mMI} {J : mMJ} (h : CI y M J) {p : Nat} (hp : p < yN y) (K : mMJ) : k_Setup_canSpare 7 (zI (p : Int)) M K = rI (zI (if 2 ≤ stV (yN y) (yO y) - (if 39 < yO y p then 1 else 0) then 1 else 0)) M K := by
  have hw := wd_ok hy
  have hS := h.su hy
  have hn := hy.2.1.1
  have c1 := c_countIn (s := 7) (Or.inl rfl) hw hS (t := 39) (by omega) K
  have c2 := c_isIn (s := 7) (Or.inl rfl) hw hS (k := p) (t := 39) hp (by omega) K
  have e1 : cN (wd y) 39 = stV (yN y) (yO y) := rfl
  have e2 : wA (wd y) 3 p = yO y p := rfl
  have b := stV_bd hn.2 (yO y)
  rw [e1] at c1
  rw [e2] at c2
  have c1 : k_Setup_countIn 7 (zI 39) M K = rI (zI (stV (yN y) (yO y))) M K := c1
  have c2 : k_Setup_isIn 7 (zI (p : Int)) (zI 39) M K = rI (zI (if 39 < yO y p then 1 else 0)) M K := c2
  rw [e_Setup_canSpare 7 (Or.inl rfl)]
  by_cases a : 39 < yO y p
  · by_cases d : 2 ≤ stV (yN y) (yO y) - 1 <;> simp (disch := omega) only [Int.reduceEq, Int.reduceLT, Int.reduceLE, Int.reduceAdd, Int.reduceMul, Int.reduceSub, Int.reduceNeg, Int.reduceDiv, li_0, li_1, li_2, li_3, li_4, li_5, li_6, li_7, li_8, li_9, li_10, li_16, li_20, li_22, li_32, li_36, li_39, li_40, li_42, li_48, li_60, li_67, li_69, li_70, li_71, li_76, li_77, li_80, li_83, li_86, li_90, li_100, li_120, li_200, li_209, li_234, li_240, li_255, li_300, li_309, li_310, ll_0, ll_1, ll_3, ll_5, ll_7, ll_8, ll_9, ll_20, ll_39, ll_40, ll_60, ll_100, ll_120, ll_200, ll_209, ll_300, ll_309, ll_600, ll_1000000000, zI_neg, zI_add, zI_sub, zI_mul, zL_add, zL_sub, zL_mul, zL_neg, zI_suc, zN_I, zI_ofNat, zI_le_t, zI_le_f, zI_lt_t, zI_lt_f, zI_eq_t, zI_eq_f, zL_le_t, zL_le_f, zL_lt_t, zL_lt_f, zL_eq_t, zL_eq_f, zI_cl, zI_L, mI_t, Int.reduceToNat, nt_le_f, nt_le_t, lc_le, lc_lt, lc_gt, lc_eq, zI_div, Int.toNat_natCast, zI_max, zI_min, or_false, false_or, or_true, true_or, not_false_eq_true, not_true_eq_false, ↓reduceIte, and_self, and_true, true_and, and_false, false_and, not_or, gt_iff_lt, ge_iff_le, mBI_rI, mBJ_rJ, mBR_rV, mBR_rR, rZ_0, rZ_1, c1, c2, a, d]
  · by_cases d : 2 ≤ stV (yN y) (yO y) - 0 <;> simp (disch := omega) only [Int.reduceEq, Int.reduceLT, Int.reduceLE, Int.reduceAdd, Int.reduceMul, Int.reduceSub, Int.reduceNeg, Int.reduceDiv, li_0, li_1, li_2, li_3, li_4, li_5, li_6, li_7, li_8, li_9, li_10, li_16, li_20, li_22, li_32, li_36, li_39, li_40, li_42, li_48, li_60, li_67, li_69, li_70, li_71, li_76, li_77, li_80, li_83, li_86, li_90, li_100, li_120, li_200, li_209, li_234, li_240, li_255, li_300, li_309, li_310, ll_0, ll_1, ll_3, ll_5, ll_7, ll_8, ll_9, ll_20, ll_39, ll_40, ll_60, ll_100, ll_120, ll_200, ll_209, ll_300, ll_309, ll_600, ll_1000000000, zI_neg, zI_add, zI_sub, zI_mul, zL_add, zL_sub, zL_mul, zL_neg, zI_suc, zN_I, zI_ofNat, zI_le_t, zI_le_f, zI_lt_t, zI_lt_f, zI_eq_t, zI_eq_f, zL_le_t, zL_le_f, zL_lt_t, zL_lt_f, zL_eq_t, zL_eq_f, zI_cl, zI_L, mI_t, Int.reduceToNat, nt_le_f, nt_le_t, lc_le, lc_lt, lc_gt, lc_eq, zI_div, Int.toNat_natCast, zI_max, zI_min, or_false, false_or, or_true, true_or, not_false_eq_true, not_true_eq_false, ↓reduceIte, and_self, and_true, true_and, and_false, false_and, not_or, gt_iff_lt, ge_iff_le, mBI_rI, mBJ_rJ, mBR_rV, mBR_rR, rZ_0, rZ_1, c1, c2, a, d]
theorem m_staying {M : mMI} {n : Nat} {O : Nat → Int} (h7 : M 46 7 = zI (n : Int)) (hn : n ≤ 6) (hO : ∀ k, k < n → M 57 k = zI (O k)) (hb : ∀ k, k < n → 0 ≤ O k ∧ O k ≤ 40) (J : mMJ) : k_Model_staying M J = rI (zI (stV n O)) M J := by
  simp only [e_Model_staying, li_0, li_1, li_2, li_3, li_4, li_5, li_6, li_7, li_8, li_9, li_10, li_16, li_20, li_22, li_32, li_36, li_39, li_40, li_42, li_48, li_60, li_67, li_69, li_70, li_71, li_76, li_77, li_80, li_83, li_86, li_90, li_100, li_120, li_200, li_209, li_234, li_240, li_255, li_300, li_309, li_310, ll_0, ll_1, ll_3, ll_5, ll_7, ll_8, ll_9, ll_20, ll_39, ll_40, ll_60, ll_100, ll_120, ll_200, ll_209, ll_300, ll_309, ll_600, ll_1000000000, zI_neg, zI_add, zI_sub, zI_mul, zL_add, zL_sub, zL_mul, zL_neg, zI_suc, zN_I, zI_ofNat]
  refine lp_seq (fun j => k_Model_staying_4 (zI (sm j (fun k => if ((39 : Nat) : Int) < O k then 1 else 0))) (zI (j : Int)) M J) n (fun j hj => ?_) ?_
  · rw [e_Model_staying_4]
    have e := hO j hj
    have b := hb j hj
    by_cases a : ((39 : Nat) : Int) < O j
    · simp (disch := omega) only [Int.reduceEq, Int.reduceLT, Int.reduceLE, Int.reduceAdd, Int.reduceMul, Int.reduceSub, Int.reduceNeg, Int.reduceDiv, li_0, li_1, li_2, li_3, li_4, li_5, li_6, li_7, li_8, li_9, li_10, li_16, li_20, li_22, li_32, li_36, li_39, li_40, li_42, li_48, li_60, li_67, li_69, li_70, li_71, li_76, li_77, li_80, li_83, li_86, li_90, li_100, li_120, li_200, li_209, li_234, li_240, li_255, li_300, li_309, li_310, ll_0, ll_1, ll_3, ll_5, ll_7, ll_8, ll_9, ll_20, ll_39, ll_40, ll_60, ll_100, ll_120, ll_200, ll_209, ll_300, ll_309, ll_600, ll_1000000000, zI_neg, zI_add, zI_sub, zI_mul, zL_add, zL_sub, zL_mul, zL_neg, zI_suc, zN_I, zI_ofNat, zI_le_t, zI_le_f, zI_lt_t, zI_lt_f, zI_eq_t, zI_eq_f, zL_le_t, zL_le_f, zL_lt_t, zL_lt_f, zL_eq_t, zL_eq_f, zI_cl, zI_L, mI_t, Int.reduceToNat, nt_le_f, nt_le_t, lc_le, lc_lt, lc_gt, lc_eq, zI_div, Int.toNat_natCast, zI_max, zI_min, or_false, false_or, or_true, true_or, not_false_eq_true, not_true_eq_false, ↓reduceIte, and_self, and_true, true_and, and_false, false_and, not_or, gt_iff_lt, ge_iff_le, mBI_rI, mBJ_rJ, mBR_rV, mBR_rR, rZ_0, rZ_1, h7, e, sm_s, a]
    · simp (disch := omega) only [Int.reduceEq, Int.reduceLT, Int.reduceLE, Int.reduceAdd, Int.reduceMul, Int.reduceSub, Int.reduceNeg, Int.reduceDiv, li_0, li_1, li_2, li_3, li_4, li_5, li_6, li_7, li_8, li_9, li_10, li_16, li_20, li_22, li_32, li_36, li_39, li_40, li_42, li_48, li_60, li_67, li_69, li_70, li_71, li_76, li_77, li_80, li_83, li_86, li_90, li_100, li_120, li_200, li_209, li_234, li_240, li_255, li_300, li_309, li_310, ll_0, ll_1, ll_3, ll_5, ll_7, ll_8, ll_9, ll_20, ll_39, ll_40, ll_60, ll_100, ll_120, ll_200, ll_209, ll_300, ll_309, ll_600, ll_1000000000, zI_neg, zI_add, zI_sub, zI_mul, zL_add, zL_sub, zL_mul, zL_neg, zI_suc, zN_I, zI_ofNat, zI_le_t, zI_le_f, zI_lt_t, zI_lt_f, zI_eq_t, zI_eq_f, zL_le_t, zL_le_f, zL_lt_t, zL_lt_f, zL_eq_t, zL_eq_f, zI_cl, zI_L, mI_t, Int.reduceToNat, nt_le_f, nt_le_t, lc_le, lc_lt, lc_gt, lc_eq, zI_div, Int.toNat_natCast, zI_max, zI_min, or_false, false_or, or_true, true_or, not_false_eq_true, not_true_eq_false, ↓reduceIte, and_self, and_true, true_and, and_false, false_and, not_or, gt_iff_lt, ge_iff_le, mBI_rI, mBJ_rJ, mBR_rV, mBR_rR, rZ_0, rZ_1, h7, e, sm_s, a]
  · rw [e_Model_staying_4]
    simp (disch := omega) only [Int.reduceEq, Int.reduceLT, Int.reduceLE, Int.reduceAdd, Int.reduceMul, Int.reduceSub, Int.reduceNeg, Int.reduceDiv, li_0, li_1, li_2, li_3, li_4, li_5, li_6, li_7, li_8, li_9, li_10, li_16, li_20, li_22, li_32, li_36, li_39, li_40, li_42, li_48, li_60, li_67, li_69, li_70, li_71, li_76, li_77, li_80, li_83, li_86, li_90, li_100, li_120, li_200, li_209, li_234, li_240, li_255, li_300, li_309, li_310, ll_0, ll_1, ll_3, ll_5, ll_7, ll_8, ll_9, ll_20, ll_39, ll_40, ll_60, ll_100, ll_120, ll_200, ll_209, ll_300, ll_309, ll_600, ll_1000000000, zI_neg, zI_add, zI_sub, zI_mul, zL_add, zL_sub, zL_mul, zL_neg, zI_suc, zN_I, zI_ofNat, zI_le_t, zI_le_f, zI_lt_t, zI_lt_f, zI_eq_t, zI_eq_f, zL_le_t, zL_le_f, zL_lt_t, zL_lt_f, zL_eq_t, zL_eq_f, zI_cl, zI_L, mI_t, Int.reduceToNat, nt_le_f, nt_le_t, lc_le, lc_lt, lc_gt, lc_eq, zI_div, Int.toNat_natCast, zI_max, zI_min, or_false, false_or, or_true, true_or, not_false_eq_true, not_true_eq_false, ↓reduceIte, and_self, and_true, true_and, and_false, false_and, not_or, gt_iff_lt, ge_iff_le, mBI_rI, mBJ_rJ, mBR_rV, mBR_rR, rZ_0, rZ_1, h7]
    rfl
def okSend (p t : Int) (y : sS) : Prop := (0 ≤ p ∧ p < (yN y : Int)) ∧ (0 ≤ t ∧ t ≤ 40) ∧ 2 ≤ stV (yN y) (upO (yO y) p.toNat t)
def aSend (p t : Int) (y : sS) : Int32 := zI (if 0 ≤ p ∧ p < (yN y : Int) then (if 0 ≤ t ∧ t ≤ 40 then (if 2 ≤ stV (yN y) (upO (yO y) p.toNat t) then yO y p.toNat else -3) else -2) else -1)
noncomputable def nSend (p t : Int) (y : sS) : sS := @ite _ (okSend p t y) (Classical.propDecidable _) (sOu y (upO (yO y) p.toNat t)) y
theorem nSend_ok (p t : Int) (y : sS) (hy : yOk y) : yOk (nSend p t y) := by
  unfold nSend
  split
  · rename_i h
    obtain ⟨a1, a2, a3, a4, a5, a6⟩ := hy
    obtain ⟨h1, h2, h3⟩ := h
    refine ⟨a1, a2, ⟨fun k hk => ?_, a3.2.1, h3⟩, a4, a5, a6⟩
    show 0 ≤ upO (yO y) p.toNat t k ∧ upO (yO y) p.toNat t k ≤ 40
    unfold upO
    split
    · exact h2
    · exact a3.1 k hk
  · exact hy
theorem P_send {p t : Int} (hp : bz p) (ht : bz t) {y : sS} (hy : yOk y) {M : mMI} {J : mMJ} (h : CI y M J) : cE (nSend p t y) M J (k_Pot_send (zI p) (zI t) M J) (aSend p t y) := by
  have hn := hy.2.1.1
  have ip := c_isPerson h.2.2.1.1 hn.2 hp
  obtain ⟨h1, h2⟩ := hp
  obtain ⟨h3, h4⟩ := ht
  have s2 : 2 ≤ stV (yN y) (yO y) := hy.2.2.1.2.2
  rw [e_Pot_send]
  unfold aSend nSend
  by_cases c1 : 0 ≤ p ∧ p < (yN y : Int)
  · obtain ⟨q, rfl⟩ : ∃ q : Nat, p = (q : Int) := ⟨p.toNat, by omega⟩
    have hq : q < yN y := by omega
    have cs := c_canSpare hy h hq J
    have su := stV_up (O := yO y) hq t
    rw [Int.toNat_natCast]
    by_cases c2 : 0 ≤ t ∧ t ≤ 40
    · by_cases c3 : 2 ≤ stV (yN y) (upO (yO y) q t)
      · rw [if_pos (show okSend (q : Int) t y from ⟨c1, c2, by rw [Int.toNat_natCast]; exact c3⟩)]
        obtain ⟨a1, a2, a3, a4, a5, a6⟩ := h
        have e : M 13 q = zI (yO y q) := a3.2.2.2.1 q (by omega)
        refine ⟨mUp (mUp M 13 q (zI t)) 0 9 (zI 1), J, ?_, ⟨a1.fr (fun q hq => ?_), a2.fr ?_ ?_, ?_, a4.fr ?_, a5.fr (fun q _ _ => ?_), Or.inl ?_⟩, fun q hq => ?_, fun q hq => rfl⟩
        · by_cases t40 : t = 40
          · subst t40
            simp (disch := omega) only [Int.reduceEq, Int.reduceLT, Int.reduceLE, Int.reduceAdd, Int.reduceMul, Int.reduceSub, Int.reduceNeg, Int.reduceDiv, li_0, li_1, li_2, li_3, li_4, li_5, li_6, li_7, li_8, li_9, li_10, li_16, li_20, li_22, li_32, li_36, li_39, li_40, li_42, li_48, li_60, li_67, li_69, li_70, li_71, li_76, li_77, li_80, li_83, li_86, li_90, li_100, li_120, li_200, li_209, li_234, li_240, li_255, li_300, li_309, li_310, ll_0, ll_1, ll_3, ll_5, ll_7, ll_8, ll_9, ll_20, ll_39, ll_40, ll_60, ll_100, ll_120, ll_200, ll_209, ll_300, ll_309, ll_600, ll_1000000000, zI_neg, zI_add, zI_sub, zI_mul, zL_add, zL_sub, zL_mul, zL_neg, zI_suc, zN_I, zI_ofNat, zI_le_t, zI_le_f, zI_lt_t, zI_lt_f, zI_eq_t, zI_eq_f, zL_le_t, zL_le_f, zL_lt_t, zL_lt_f, zL_eq_t, zL_eq_f, zI_cl, zI_L, mI_t, Int.reduceToNat, nt_le_f, nt_le_t, lc_le, lc_lt, lc_gt, lc_eq, zI_div, Int.toNat_natCast, zI_max, zI_min, or_false, false_or, or_true, true_or, not_false_eq_true, not_true_eq_false, ↓reduceIte, and_self, and_true, true_and, and_false, false_and, not_or, gt_iff_lt, ge_iff_le, mBI_rI, mBJ_rJ, mBR_rV, mBR_rR, rZ_0, rZ_1, ip, c1, c2, c3, e]
          · have t39 : ¬ 39 < t := by omega
            rw [if_neg t39, Int.add_zero] at su
            have c4 := c3
            rw [su] at c4
            rw [if_pos c4] at cs
            simp (disch := omega) only [Int.reduceEq, Int.reduceLT, Int.reduceLE, Int.reduceAdd, Int.reduceMul, Int.reduceSub, Int.reduceNeg, Int.reduceDiv, li_0, li_1, li_2, li_3, li_4, li_5, li_6, li_7, li_8, li_9, li_10, li_16, li_20, li_22, li_32, li_36, li_39, li_40, li_42, li_48, li_60, li_67, li_69, li_70, li_71, li_76, li_77, li_80, li_83, li_86, li_90, li_100, li_120, li_200, li_209, li_234, li_240, li_255, li_300, li_309, li_310, ll_0, ll_1, ll_3, ll_5, ll_7, ll_8, ll_9, ll_20, ll_39, ll_40, ll_60, ll_100, ll_120, ll_200, ll_209, ll_300, ll_309, ll_600, ll_1000000000, zI_neg, zI_add, zI_sub, zI_mul, zL_add, zL_sub, zL_mul, zL_neg, zI_suc, zN_I, zI_ofNat, zI_le_t, zI_le_f, zI_lt_t, zI_lt_f, zI_eq_t, zI_eq_f, zL_le_t, zL_le_f, zL_lt_t, zL_lt_f, zL_eq_t, zL_eq_f, zI_cl, zI_L, mI_t, Int.reduceToNat, nt_le_f, nt_le_t, lc_le, lc_lt, lc_gt, lc_eq, zI_div, Int.toNat_natCast, zI_max, zI_min, or_false, false_or, or_true, true_or, not_false_eq_true, not_true_eq_false, ↓reduceIte, and_self, and_true, true_and, and_false, false_and, not_or, gt_iff_lt, ge_iff_le, mBI_rI, mBJ_rJ, mBR_rV, mBR_rR, rZ_0, rZ_1, ip, c1, c2, c3, e, cs]
        · rw [up_nk (by omega), up_nk (by omega)]
        · rw [up_nk (by omega), up_nk (by omega)]
        · rw [up_nk (by omega), up_nk (by omega)]
        · obtain ⟨b1, b2, b3, b4, b5⟩ := a3
          refine ⟨?_, ?_, ?_, fun k hk => ?_, ?_⟩
          · rw [up_nk (by omega), up_nk (by omega)]; exact b1
          · rw [up_nk (by omega), up_nk (by omega)]; exact b2
          · rw [up_nk (by omega), up_nk (by omega), up_nk (by omega), up_nk (by omega), up_nk (by omega), up_nk (by omega)]; exact b3
          · show mUp (mUp M 13 _ _) 0 9 (zI 1) 13 _ = zI (upO (yO y) q t k)
            rw [up_nk (by omega)]
            unfold upO
            by_cases hc : k = q
            · rw [if_pos hc, hc, up_at]
            · rw [if_neg hc, up_ne (by omega)]; exact b4 k hk
          · rw [up_nk (by omega), up_nk (by omega)]; exact b5
        · rw [up_nk (by omega), up_nk (by omega)]
        · rw [up_nk (by omega), up_nk (by omega)]
        · exact up_at _ _ _ _
        · rw [up_nk (by omega), up_nk (by omega)]
      · rw [if_neg (show ¬ okSend (q : Int) t y from fun x => c3 (by have := x.2.2; rw [Int.toNat_natCast] at this; exact this))]
        refine .same h ?_
        have t40 : t < 40 := by
          by_cases hx : t < 40
          · exact hx
          · have : t = 40 := by omega
            subst this
            rw [if_pos (show (39 : Int) < 40 by omega)] at su
            have : (if 39 < yO y q then (1 : Int) else 0) ≤ 1 := by split <;> omega
            omega
        have t39 : ¬ 39 < t := by omega
        rw [if_neg t39, Int.add_zero] at su
        have c4 := c3
        rw [su] at c4
        rw [if_neg c4] at cs
        simp (disch := omega) only [Int.reduceEq, Int.reduceLT, Int.reduceLE, Int.reduceAdd, Int.reduceMul, Int.reduceSub, Int.reduceNeg, Int.reduceDiv, li_0, li_1, li_2, li_3, li_4, li_5, li_6, li_7, li_8, li_9, li_10, li_16, li_20, li_22, li_32, li_36, li_39, li_40, li_42, li_48, li_60, li_67, li_69, li_70, li_71, li_76, li_77, li_80, li_83, li_86, li_90, li_100, li_120, li_200, li_209, li_234, li_240, li_255, li_300, li_309, li_310, ll_0, ll_1, ll_3, ll_5, ll_7, ll_8, ll_9, ll_20, ll_39, ll_40, ll_60, ll_100, ll_120, ll_200, ll_209, ll_300, ll_309, ll_600, ll_1000000000, zI_neg, zI_add, zI_sub, zI_mul, zL_add, zL_sub, zL_mul, zL_neg, zI_suc, zN_I, zI_ofNat, zI_le_t, zI_le_f, zI_lt_t, zI_lt_f, zI_eq_t, zI_eq_f, zL_le_t, zL_le_f, zL_lt_t, zL_lt_f, zL_eq_t, zL_eq_f, zI_cl, zI_L, mI_t, Int.reduceToNat, nt_le_f, nt_le_t, lc_le, lc_lt, lc_gt, lc_eq, zI_div, Int.toNat_natCast, zI_max, zI_min, or_false, false_or, or_true, true_or, not_false_eq_true, not_true_eq_false, ↓reduceIte, and_self, and_true, true_and, and_false, false_and, not_or, gt_iff_lt, ge_iff_le, mBI_rI, mBJ_rJ, mBR_rV, mBR_rR, rZ_0, rZ_1, ip, c1, c2, c3, cs]
    · rw [if_neg (show ¬ okSend (q : Int) t y from fun x => c2 x.2.1)]
      refine .same h ?_
      by_cases c5 : 0 ≤ t
      · simp (disch := omega) only [Int.reduceEq, Int.reduceLT, Int.reduceLE, Int.reduceAdd, Int.reduceMul, Int.reduceSub, Int.reduceNeg, Int.reduceDiv, li_0, li_1, li_2, li_3, li_4, li_5, li_6, li_7, li_8, li_9, li_10, li_16, li_20, li_22, li_32, li_36, li_39, li_40, li_42, li_48, li_60, li_67, li_69, li_70, li_71, li_76, li_77, li_80, li_83, li_86, li_90, li_100, li_120, li_200, li_209, li_234, li_240, li_255, li_300, li_309, li_310, ll_0, ll_1, ll_3, ll_5, ll_7, ll_8, ll_9, ll_20, ll_39, ll_40, ll_60, ll_100, ll_120, ll_200, ll_209, ll_300, ll_309, ll_600, ll_1000000000, zI_neg, zI_add, zI_sub, zI_mul, zL_add, zL_sub, zL_mul, zL_neg, zI_suc, zN_I, zI_ofNat, zI_le_t, zI_le_f, zI_lt_t, zI_lt_f, zI_eq_t, zI_eq_f, zL_le_t, zL_le_f, zL_lt_t, zL_lt_f, zL_eq_t, zL_eq_f, zI_cl, zI_L, mI_t, Int.reduceToNat, nt_le_f, nt_le_t, lc_le, lc_lt, lc_gt, lc_eq, zI_div, Int.toNat_natCast, zI_max, zI_min, or_false, false_or, or_true, true_or, not_false_eq_true, not_true_eq_false, ↓reduceIte, and_self, and_true, true_and, and_false, false_and, not_or, gt_iff_lt, ge_iff_le, mBI_rI, mBJ_rJ, mBR_rV, mBR_rR, rZ_0, rZ_1, ip, c1, c2]
      · simp (disch := omega) only [Int.reduceEq, Int.reduceLT, Int.reduceLE, Int.reduceAdd, Int.reduceMul, Int.reduceSub, Int.reduceNeg, Int.reduceDiv, li_0, li_1, li_2, li_3, li_4, li_5, li_6, li_7, li_8, li_9, li_10, li_16, li_20, li_22, li_32, li_36, li_39, li_40, li_42, li_48, li_60, li_67, li_69, li_70, li_71, li_76, li_77, li_80, li_83, li_86, li_90, li_100, li_120, li_200, li_209, li_234, li_240, li_255, li_300, li_309, li_310, ll_0, ll_1, ll_3, ll_5, ll_7, ll_8, ll_9, ll_20, ll_39, ll_40, ll_60, ll_100, ll_120, ll_200, ll_209, ll_300, ll_309, ll_600, ll_1000000000, zI_neg, zI_add, zI_sub, zI_mul, zL_add, zL_sub, zL_mul, zL_neg, zI_suc, zN_I, zI_ofNat, zI_le_t, zI_le_f, zI_lt_t, zI_lt_f, zI_eq_t, zI_eq_f, zL_le_t, zL_le_f, zL_lt_t, zL_lt_f, zL_eq_t, zL_eq_f, zI_cl, zI_L, mI_t, Int.reduceToNat, nt_le_f, nt_le_t, lc_le, lc_lt, lc_gt, lc_eq, zI_div, Int.toNat_natCast, zI_max, zI_min, or_false, false_or, or_true, true_or, not_false_eq_true, not_true_eq_false, ↓reduceIte, and_self, and_true, true_and, and_false, false_and, not_or, gt_iff_lt, ge_iff_le, mBI_rI, mBJ_rJ, mBR_rV, mBR_rR, rZ_0, rZ_1, ip, c1, c2]
  · rw [if_neg (show ¬ okSend p t y from fun x => c1 x.1)]
    refine .same h ?_
    simp (disch := omega) only [Int.reduceEq, Int.reduceLT, Int.reduceLE, Int.reduceAdd, Int.reduceMul, Int.reduceSub, Int.reduceNeg, Int.reduceDiv, li_0, li_1, li_2, li_3, li_4, li_5, li_6, li_7, li_8, li_9, li_10, li_16, li_20, li_22, li_32, li_36, li_39, li_40, li_42, li_48, li_60, li_67, li_69, li_70, li_71, li_76, li_77, li_80, li_83, li_86, li_90, li_100, li_120, li_200, li_209, li_234, li_240, li_255, li_300, li_309, li_310, ll_0, ll_1, ll_3, ll_5, ll_7, ll_8, ll_9, ll_20, ll_39, ll_40, ll_60, ll_100, ll_120, ll_200, ll_209, ll_300, ll_309, ll_600, ll_1000000000, zI_neg, zI_add, zI_sub, zI_mul, zL_add, zL_sub, zL_mul, zL_neg, zI_suc, zN_I, zI_ofNat, zI_le_t, zI_le_f, zI_lt_t, zI_lt_f, zI_eq_t, zI_eq_f, zL_le_t, zL_le_f, zL_lt_t, zL_lt_f, zL_eq_t, zL_eq_f, zI_cl, zI_L, mI_t, Int.reduceToNat, nt_le_f, nt_le_t, lc_le, lc_lt, lc_gt, lc_eq, zI_div, Int.toNat_natCast, zI_max, zI_min, or_false, false_or, or_true, true_or, not_false_eq_true, not_true_eq_false, ↓reduceIte, and_self, and_true, true_and, and_false, false_and, not_or, gt_iff_lt, ge_iff_le, mBI_rI, mBJ_rJ, mBR_rV, mBR_rR, rZ_0, rZ_1, ip, c1]
theorem R_send {p t : Int} (hp : bz p) (ht : bz t) {y : sS} (hy : yOk y) {M : mMI} {J : mMJ} (h : MI y M) : mE (nSend p t y) M J (k_Model_send (zI p) (zI t) M J) (aSend p t y) := by
  have hn := hy.2.1.1
  have h0 := h.u46 (i := 0) (by omega) (by omega) (zI 0)
  have ip := m_noPerson h0.2.1.1 hn.2 hp
  obtain ⟨h1, h2⟩ := hp
  obtain ⟨h3, h4⟩ := ht
  rw [e_Model_send]
  unfold aSend nSend
  by_cases c1 : 0 ≤ p ∧ p < (yN y : Int)
  · obtain ⟨q, rfl⟩ : ∃ q : Nat, p = (q : Int) := ⟨p.toNat, by omega⟩
    have hq : q < yN y := by omega
    rw [Int.toNat_natCast]
    by_cases c2 : 0 ≤ t ∧ t ≤ 40
    · have hO : ∀ k, k < 6 → mUp (mUp M 46 0 (zI 0)) 57 q (zI t) 57 k = zI (upO (yO y) q t k) := by
        intro k hk
        unfold upO
        by_cases hc : k = q
        · rw [if_pos hc, hc, up_at]
        · rw [if_neg hc, up_ne (by omega)]; exact h0.2.1.2.2.2.1 k hk
      have ms := m_staying (M := mUp (mUp M 46 0 (zI 0)) 57 q (zI t)) (n := yN y) (O := upO (yO y) q t) (by rw [up_nk (by omega)]; exact h0.2.1.1) hn.2 (fun k hk => hO k (by omega)) (fun k hk => by
        have := hy.2.2.1.1 k (by omega)
        unfold upO
        split <;> omega) J
      have e := h0.2.1.2.2.2.1 q (by omega)
      have b := stV_bd hn.2 (upO (yO y) q t)
      obtain ⟨a1, a2, a3, a4⟩ := h0
      by_cases c3 : 2 ≤ stV (yN y) (upO (yO y) q t)
      · rw [if_pos (show okSend (q : Int) t y from ⟨c1, c2, by rw [Int.toNat_natCast]; exact c3⟩)]
        refine ⟨mUp (mUp M 46 0 (zI 0)) 57 q (zI t), J, ?_, ⟨?_, ?_, ?_, a4.fr (fun q _ _ => up_nk (by omega))⟩, fun q hq => ?_, fun q hq => rfl⟩
        · simp (disch := omega) only [Int.reduceEq, Int.reduceLT, Int.reduceLE, Int.reduceAdd, Int.reduceMul, Int.reduceSub, Int.reduceNeg, Int.reduceDiv, li_0, li_1, li_2, li_3, li_4, li_5, li_6, li_7, li_8, li_9, li_10, li_16, li_20, li_22, li_32, li_36, li_39, li_40, li_42, li_48, li_60, li_67, li_69, li_70, li_71, li_76, li_77, li_80, li_83, li_86, li_90, li_100, li_120, li_200, li_209, li_234, li_240, li_255, li_300, li_309, li_310, ll_0, ll_1, ll_3, ll_5, ll_7, ll_8, ll_9, ll_20, ll_39, ll_40, ll_60, ll_100, ll_120, ll_200, ll_209, ll_300, ll_309, ll_600, ll_1000000000, zI_neg, zI_add, zI_sub, zI_mul, zL_add, zL_sub, zL_mul, zL_neg, zI_suc, zN_I, zI_ofNat, zI_le_t, zI_le_f, zI_lt_t, zI_lt_f, zI_eq_t, zI_eq_f, zL_le_t, zL_le_f, zL_lt_t, zL_lt_f, zL_eq_t, zL_eq_f, zI_cl, zI_L, mI_t, Int.reduceToNat, nt_le_f, nt_le_t, lc_le, lc_lt, lc_gt, lc_eq, zI_div, Int.toNat_natCast, zI_max, zI_min, or_false, false_or, or_true, true_or, not_false_eq_true, not_true_eq_false, ↓reduceIte, and_self, and_true, true_and, and_false, false_and, not_or, gt_iff_lt, ge_iff_le, mBI_rI, mBJ_rJ, mBR_rV, mBR_rR, rZ_0, rZ_1, ip, c1, m_in, c2, c3, e, ms]
        · exact mtH.fr a1 (congrFun (up_nk (by omega)) 2) (up_nk (by omega))
        · obtain ⟨b1, b2, b3, b4, b5⟩ := a2
          refine ⟨?_, ?_, ?_, fun k hk => hO k hk, ?_⟩
          · rw [up_nk (by omega)]; exact b1
          · rw [up_nk (by omega)]; exact b2
          · rw [up_nk (by omega), up_nk (by omega), up_nk (by omega)]; exact b3
          · rw [up_nk (by omega)]; exact b5
        · rw [up_nk (by omega)]; exact a3
        · rw [up_nk (by omega), up_nk (by omega)]
      · rw [if_neg (show ¬ okSend (q : Int) t y from fun x => c3 (by have := x.2.2; rw [Int.toNat_natCast] at this; exact this))]
        refine ⟨mUp (mUp (mUp M 46 0 (zI 0)) 57 q (zI t)) 57 q (zI (yO y q)), J, ?_, ⟨?_, ?_, ?_, a4.fr (fun q _ _ => by rw [up_nk (by omega), up_nk (by omega)])⟩, fun q hq => ?_, fun q hq => rfl⟩
        · simp (disch := omega) only [Int.reduceEq, Int.reduceLT, Int.reduceLE, Int.reduceAdd, Int.reduceMul, Int.reduceSub, Int.reduceNeg, Int.reduceDiv, li_0, li_1, li_2, li_3, li_4, li_5, li_6, li_7, li_8, li_9, li_10, li_16, li_20, li_22, li_32, li_36, li_39, li_40, li_42, li_48, li_60, li_67, li_69, li_70, li_71, li_76, li_77, li_80, li_83, li_86, li_90, li_100, li_120, li_200, li_209, li_234, li_240, li_255, li_300, li_309, li_310, ll_0, ll_1, ll_3, ll_5, ll_7, ll_8, ll_9, ll_20, ll_39, ll_40, ll_60, ll_100, ll_120, ll_200, ll_209, ll_300, ll_309, ll_600, ll_1000000000, zI_neg, zI_add, zI_sub, zI_mul, zL_add, zL_sub, zL_mul, zL_neg, zI_suc, zN_I, zI_ofNat, zI_le_t, zI_le_f, zI_lt_t, zI_lt_f, zI_eq_t, zI_eq_f, zL_le_t, zL_le_f, zL_lt_t, zL_lt_f, zL_eq_t, zL_eq_f, zI_cl, zI_L, mI_t, Int.reduceToNat, nt_le_f, nt_le_t, lc_le, lc_lt, lc_gt, lc_eq, zI_div, Int.toNat_natCast, zI_max, zI_min, or_false, false_or, or_true, true_or, not_false_eq_true, not_true_eq_false, ↓reduceIte, and_self, and_true, true_and, and_false, false_and, not_or, gt_iff_lt, ge_iff_le, mBI_rI, mBJ_rJ, mBR_rV, mBR_rR, rZ_0, rZ_1, ip, c1, m_in, c2, c3, e, ms]
        · exact (mtH.fr a1 (congrFun (up_nk (by omega)) 2) (up_nk (by omega))).fr (congrFun (up_nk (by omega)) 2) (up_nk (by omega))
        · obtain ⟨b1, b2, b3, b4, b5⟩ := a2
          refine ⟨?_, ?_, ?_, fun k hk => ?_, ?_⟩
          · rw [up_nk (by omega), up_nk (by omega)]; exact b1
          · rw [up_nk (by omega), up_nk (by omega)]; exact b2
          · rw [up_nk (by omega), up_nk (by omega), up_nk (by omega), up_nk (by omega), up_nk (by omega), up_nk (by omega)]; exact b3
          · by_cases hc : k = q
            · rw [hc, up_at]
            · rw [up_ne hc, up_ne hc]; exact b4 k hk
          · rw [up_nk (by omega), up_nk (by omega)]; exact b5
        · rw [up_nk (by omega), up_nk (by omega)]; exact a3
        · rw [up_nk (by omega), up_nk (by omega), up_nk (by omega)]
    · rw [if_neg (show ¬ okSend (q : Int) t y from fun x => c2 x.2.1)]
      refine .same h ?_
      simp (disch := omega) only [Int.reduceEq, Int.reduceLT, Int.reduceLE, Int.reduceAdd, Int.reduceMul, Int.reduceSub, Int.reduceNeg, Int.reduceDiv, li_0, li_1, li_2, li_3, li_4, li_5, li_6, li_7, li_8, li_9, li_10, li_16, li_20, li_22, li_32, li_36, li_39, li_40, li_42, li_48, li_60, li_67, li_69, li_70, li_71, li_76, li_77, li_80, li_83, li_86, li_90, li_100, li_120, li_200, li_209, li_234, li_240, li_255, li_300, li_309, li_310, ll_0, ll_1, ll_3, ll_5, ll_7, ll_8, ll_9, ll_20, ll_39, ll_40, ll_60, ll_100, ll_120, ll_200, ll_209, ll_300, ll_309, ll_600, ll_1000000000, zI_neg, zI_add, zI_sub, zI_mul, zL_add, zL_sub, zL_mul, zL_neg, zI_suc, zN_I, zI_ofNat, zI_le_t, zI_le_f, zI_lt_t, zI_lt_f, zI_eq_t, zI_eq_f, zL_le_t, zL_le_f, zL_lt_t, zL_lt_f, zL_eq_t, zL_eq_f, zI_cl, zI_L, mI_t, Int.reduceToNat, nt_le_f, nt_le_t, lc_le, lc_lt, lc_gt, lc_eq, zI_div, Int.toNat_natCast, zI_max, zI_min, or_false, false_or, or_true, true_or, not_false_eq_true, not_true_eq_false, ↓reduceIte, and_self, and_true, true_and, and_false, false_and, not_or, gt_iff_lt, ge_iff_le, mBI_rI, mBJ_rJ, mBR_rV, mBR_rR, rZ_0, rZ_1, ip, c1, m_in, c2]
  · rw [if_neg (show ¬ okSend p t y from fun x => c1 x.1)]
    refine .same h ?_
    simp (disch := omega) only [Int.reduceEq, Int.reduceLT, Int.reduceLE, Int.reduceAdd, Int.reduceMul, Int.reduceSub, Int.reduceNeg, Int.reduceDiv, li_0, li_1, li_2, li_3, li_4, li_5, li_6, li_7, li_8, li_9, li_10, li_16, li_20, li_22, li_32, li_36, li_39, li_40, li_42, li_48, li_60, li_67, li_69, li_70, li_71, li_76, li_77, li_80, li_83, li_86, li_90, li_100, li_120, li_200, li_209, li_234, li_240, li_255, li_300, li_309, li_310, ll_0, ll_1, ll_3, ll_5, ll_7, ll_8, ll_9, ll_20, ll_39, ll_40, ll_60, ll_100, ll_120, ll_200, ll_209, ll_300, ll_309, ll_600, ll_1000000000, zI_neg, zI_add, zI_sub, zI_mul, zL_add, zL_sub, zL_mul, zL_neg, zI_suc, zN_I, zI_ofNat, zI_le_t, zI_le_f, zI_lt_t, zI_lt_f, zI_eq_t, zI_eq_f, zL_le_t, zL_le_f, zL_lt_t, zL_lt_f, zL_eq_t, zL_eq_f, zI_cl, zI_L, mI_t, Int.reduceToNat, nt_le_f, nt_le_t, lc_le, lc_lt, lc_gt, lc_eq, zI_div, Int.toNat_natCast, zI_max, zI_min, or_false, false_or, or_true, true_or, not_false_eq_true, not_true_eq_false, ↓reduceIte, and_self, and_true, true_and, and_false, false_and, not_or, gt_iff_lt, ge_iff_le, mBI_rI, mBJ_rJ, mBR_rV, mBR_rR, rZ_0, rZ_1, ip, c1]
/-- note -/
def okNote (p t v : Int) : Prop := (0 ≤ p ∧ p < 6) ∧ (0 ≤ t ∧ t < 8) ∧ (v = -9 ∨ (0 ≤ v ∧ v ≤ 20))
def aNote (p t v : Int) (y : sS) : Int32 := zI (if (0 ≤ p ∧ p < 6) ∧ (0 ≤ t ∧ t < 8) then (if v = -9 ∨ (0 ≤ v ∧ v ≤ 20) then yK y (8 * p.toNat + t.toNat) else -2) else -1)
noncomputable def nNote (p t v : Int) (y : sS) : sS := @ite _ (okNote p t v) (Classical.propDecidable _) (sBk y (upO (yK y) (8 * p.toNat + t.toNat) v)) y
theorem nNote_ok (p t v : Int) (y : sS) (hy : yOk y) : yOk (nNote p t v y) := by
  unfold nNote
  split
  · rename_i h
    obtain ⟨a1, a2, a3, a4, a5, a6⟩ := hy
    obtain ⟨h1, h2, h3⟩ := h
    refine ⟨a1, a2, a3, fun i hi => ?_, a5, a6⟩
    show upO (yK y) _ v i = -9 ∨ (0 ≤ upO (yK y) _ v i ∧ upO (yK y) _ v i ≤ 20)
    unfold upO
    split
    · exact h3
    · exact a4 i hi
  · exact hy
theorem P_note {p t v : Int} (hp : bz p) (ht : bz t) (hv : bz v) {y : sS} {M : mMI} {J : mMJ} (h : CI y M J) : cE (nNote p t v y) M J (k_Pot_note (zI p) (zI t) (zI v) M J) (aNote p t v y) := by
  have ip := c_isBookPerson hp
  have ir := c_isBookRound ht
  have iv := c_isCoins hv
  obtain ⟨h1, h2⟩ := hp
  obtain ⟨h3, h4⟩ := ht
  obtain ⟨h5, h6⟩ := hv
  rw [e_Pot_note]
  unfold aNote nNote
  by_cases c : okNote p t v
  · rw [if_pos c]
    obtain ⟨c1, c2, c3⟩ := c
    obtain ⟨a1, a2, a3, a4, a5, a6⟩ := h
    have e := a4 (8 * p.toNat + t.toNat) (by omega)
    have ix : (p * 8 + t).toNat = 8 * p.toNat + t.toNat := by omega
    refine ⟨mUp M 36 (8 * p.toNat + t.toNat) (zI v), J, ?_, ⟨a1.fr (fun q hq => up_nk (by omega)), a2.fr (by rw [up_nk (by omega)]) (up_nk (by omega)), a3.fr (fun q _ _ => up_nk (by omega)), fun i hi => ?_, a5.fr (fun q _ _ => up_nk (by omega)), ?_⟩, fun q hq => up_nk (by omega), fun q hq => rfl⟩
    · simp (disch := omega) only [Int.reduceEq, Int.reduceLT, Int.reduceLE, Int.reduceAdd, Int.reduceMul, Int.reduceSub, Int.reduceNeg, Int.reduceDiv, li_0, li_1, li_2, li_3, li_4, li_5, li_6, li_7, li_8, li_9, li_10, li_16, li_20, li_22, li_32, li_36, li_39, li_40, li_42, li_48, li_60, li_67, li_69, li_70, li_71, li_76, li_77, li_80, li_83, li_86, li_90, li_100, li_120, li_200, li_209, li_234, li_240, li_255, li_300, li_309, li_310, ll_0, ll_1, ll_3, ll_5, ll_7, ll_8, ll_9, ll_20, ll_39, ll_40, ll_60, ll_100, ll_120, ll_200, ll_209, ll_300, ll_309, ll_600, ll_1000000000, zI_neg, zI_add, zI_sub, zI_mul, zL_add, zL_sub, zL_mul, zL_neg, zI_suc, zN_I, zI_ofNat, zI_le_t, zI_le_f, zI_lt_t, zI_lt_f, zI_eq_t, zI_eq_f, zL_le_t, zL_le_f, zL_lt_t, zL_lt_f, zL_eq_t, zL_eq_f, zI_cl, zI_L, mI_t, Int.reduceToNat, nt_le_f, nt_le_t, lc_le, lc_lt, lc_gt, lc_eq, zI_div, Int.toNat_natCast, zI_max, zI_min, or_false, false_or, or_true, true_or, not_false_eq_true, not_true_eq_false, ↓reduceIte, and_self, and_true, true_and, and_false, false_and, not_or, gt_iff_lt, ge_iff_le, mBI_rI, mBJ_rJ, mBR_rV, mBR_rR, rZ_0, rZ_1, ip, c1, ir, c2, iv, c3, ix, e]
    · show mUp M 36 _ _ 36 i = zI (upO (yK y) (8 * p.toNat + t.toNat) v i)
      unfold upO
      by_cases hc : i = 8 * p.toNat + t.toNat
      · rw [if_pos hc, hc, up_at]
      · rw [if_neg hc, up_ne hc]; exact a4 i hi
    · show mUp M 36 _ _ 0 9 = zI 1 ∨ (mUp M 36 _ _ 0 9 = zI 0 ∧ coH 7 (wd y) 40 (mUp M 36 _ _) J)
      rw [up_nk (by omega)]
      rcases a6 with a6 | a6
      · exact Or.inl a6
      · exact Or.inr ⟨a6.1, a6.2.fr (up_nk (by omega)) (up_nk (by omega)) (up_nk (by omega)) (up_nk (by omega)) rfl⟩
  · rw [if_neg c]
    refine .same h ?_
    by_cases c1 : 0 ≤ p ∧ p < 6
    · by_cases c2 : 0 ≤ t ∧ t < 8
      · by_cases c3 : v = -9 ∨ (0 ≤ v ∧ v ≤ 20)
        · exact absurd ⟨c1, c2, c3⟩ c
        · simp (disch := omega) only [Int.reduceEq, Int.reduceLT, Int.reduceLE, Int.reduceAdd, Int.reduceMul, Int.reduceSub, Int.reduceNeg, Int.reduceDiv, li_0, li_1, li_2, li_3, li_4, li_5, li_6, li_7, li_8, li_9, li_10, li_16, li_20, li_22, li_32, li_36, li_39, li_40, li_42, li_48, li_60, li_67, li_69, li_70, li_71, li_76, li_77, li_80, li_83, li_86, li_90, li_100, li_120, li_200, li_209, li_234, li_240, li_255, li_300, li_309, li_310, ll_0, ll_1, ll_3, ll_5, ll_7, ll_8, ll_9, ll_20, ll_39, ll_40, ll_60, ll_100, ll_120, ll_200, ll_209, ll_300, ll_309, ll_600, ll_1000000000, zI_neg, zI_add, zI_sub, zI_mul, zL_add, zL_sub, zL_mul, zL_neg, zI_suc, zN_I, zI_ofNat, zI_le_t, zI_le_f, zI_lt_t, zI_lt_f, zI_eq_t, zI_eq_f, zL_le_t, zL_le_f, zL_lt_t, zL_lt_f, zL_eq_t, zL_eq_f, zI_cl, zI_L, mI_t, Int.reduceToNat, nt_le_f, nt_le_t, lc_le, lc_lt, lc_gt, lc_eq, zI_div, Int.toNat_natCast, zI_max, zI_min, or_false, false_or, or_true, true_or, not_false_eq_true, not_true_eq_false, ↓reduceIte, and_self, and_true, true_and, and_false, false_and, not_or, gt_iff_lt, ge_iff_le, mBI_rI, mBJ_rJ, mBR_rV, mBR_rR, rZ_0, rZ_1, ip, c1, ir, c2, iv, c3]
      · simp (disch := omega) only [Int.reduceEq, Int.reduceLT, Int.reduceLE, Int.reduceAdd, Int.reduceMul, Int.reduceSub, Int.reduceNeg, Int.reduceDiv, li_0, li_1, li_2, li_3, li_4, li_5, li_6, li_7, li_8, li_9, li_10, li_16, li_20, li_22, li_32, li_36, li_39, li_40, li_42, li_48, li_60, li_67, li_69, li_70, li_71, li_76, li_77, li_80, li_83, li_86, li_90, li_100, li_120, li_200, li_209, li_234, li_240, li_255, li_300, li_309, li_310, ll_0, ll_1, ll_3, ll_5, ll_7, ll_8, ll_9, ll_20, ll_39, ll_40, ll_60, ll_100, ll_120, ll_200, ll_209, ll_300, ll_309, ll_600, ll_1000000000, zI_neg, zI_add, zI_sub, zI_mul, zL_add, zL_sub, zL_mul, zL_neg, zI_suc, zN_I, zI_ofNat, zI_le_t, zI_le_f, zI_lt_t, zI_lt_f, zI_eq_t, zI_eq_f, zL_le_t, zL_le_f, zL_lt_t, zL_lt_f, zL_eq_t, zL_eq_f, zI_cl, zI_L, mI_t, Int.reduceToNat, nt_le_f, nt_le_t, lc_le, lc_lt, lc_gt, lc_eq, zI_div, Int.toNat_natCast, zI_max, zI_min, or_false, false_or, or_true, true_or, not_false_eq_true, not_true_eq_false, ↓reduceIte, and_self, and_true, true_and, and_false, false_and, not_or, gt_iff_lt, ge_iff_le, mBI_rI, mBJ_rJ, mBR_rV, mBR_rR, rZ_0, rZ_1, ip, c1, ir, c2]
    · simp (disch := omega) only [Int.reduceEq, Int.reduceLT, Int.reduceLE, Int.reduceAdd, Int.reduceMul, Int.reduceSub, Int.reduceNeg, Int.reduceDiv, li_0, li_1, li_2, li_3, li_4, li_5, li_6, li_7, li_8, li_9, li_10, li_16, li_20, li_22, li_32, li_36, li_39, li_40, li_42, li_48, li_60, li_67, li_69, li_70, li_71, li_76, li_77, li_80, li_83, li_86, li_90, li_100, li_120, li_200, li_209, li_234, li_240, li_255, li_300, li_309, li_310, ll_0, ll_1, ll_3, ll_5, ll_7, ll_8, ll_9, ll_20, ll_39, ll_40, ll_60, ll_100, ll_120, ll_200, ll_209, ll_300, ll_309, ll_600, ll_1000000000, zI_neg, zI_add, zI_sub, zI_mul, zL_add, zL_sub, zL_mul, zL_neg, zI_suc, zN_I, zI_ofNat, zI_le_t, zI_le_f, zI_lt_t, zI_lt_f, zI_eq_t, zI_eq_f, zL_le_t, zL_le_f, zL_lt_t, zL_lt_f, zL_eq_t, zL_eq_f, zI_cl, zI_L, mI_t, Int.reduceToNat, nt_le_f, nt_le_t, lc_le, lc_lt, lc_gt, lc_eq, zI_div, Int.toNat_natCast, zI_max, zI_min, or_false, false_or, or_true, true_or, not_false_eq_true, not_true_eq_false, ↓reduceIte, and_self, and_true, true_and, and_false, false_and, not_or, gt_iff_lt, ge_iff_le, mBI_rI, mBJ_rJ, mBR_rV, mBR_rR, rZ_0, rZ_1, ip, c1]
theorem R_note {p t v : Int} (hp : bz p) (ht : bz t) (hv : bz v) {y : sS} {M : mMI} {J : mMJ} (h : MI y M) : mE (nNote p t v y) M J (k_Model_note (zI p) (zI t) (zI v) M J) (aNote p t v y) := by
  have h0 := h.u46 (i := 0) (by omega) (by omega) (zI 0)
  have ip := m_noPlace hp ht
  obtain ⟨h1, h2⟩ := hp
  obtain ⟨h3, h4⟩ := ht
  obtain ⟨h5, h6⟩ := hv
  rw [e_Model_note]
  unfold aNote nNote
  by_cases c : okNote p t v
  · rw [if_pos c]
    obtain ⟨c1, c2, c3⟩ := c
    obtain ⟨a1, a2, a3, a4⟩ := h0
    have e := a3 (8 * p.toNat + t.toNat) (by omega)
    have ix : (8 * p + t).toNat = 8 * p.toNat + t.toNat := by omega
    refine ⟨mUp (mUp M 46 0 (zI 0)) 62 (8 * p.toNat + t.toNat) (zI v), J, ?_, ⟨?_, ?_, fun i hi => ?_, a4.fr (fun q _ _ => up_nk (by omega))⟩, fun q hq => ?_, fun q hq => rfl⟩
    · by_cases c4 : 0 ≤ v ∧ v ≤ 20
      · simp (disch := omega) only [Int.reduceEq, Int.reduceLT, Int.reduceLE, Int.reduceAdd, Int.reduceMul, Int.reduceSub, Int.reduceNeg, Int.reduceDiv, li_0, li_1, li_2, li_3, li_4, li_5, li_6, li_7, li_8, li_9, li_10, li_16, li_20, li_22, li_32, li_36, li_39, li_40, li_42, li_48, li_60, li_67, li_69, li_70, li_71, li_76, li_77, li_80, li_83, li_86, li_90, li_100, li_120, li_200, li_209, li_234, li_240, li_255, li_300, li_309, li_310, ll_0, ll_1, ll_3, ll_5, ll_7, ll_8, ll_9, ll_20, ll_39, ll_40, ll_60, ll_100, ll_120, ll_200, ll_209, ll_300, ll_309, ll_600, ll_1000000000, zI_neg, zI_add, zI_sub, zI_mul, zL_add, zL_sub, zL_mul, zL_neg, zI_suc, zN_I, zI_ofNat, zI_le_t, zI_le_f, zI_lt_t, zI_lt_f, zI_eq_t, zI_eq_f, zL_le_t, zL_le_f, zL_lt_t, zL_lt_f, zL_eq_t, zL_eq_f, zI_cl, zI_L, mI_t, Int.reduceToNat, nt_le_f, nt_le_t, lc_le, lc_lt, lc_gt, lc_eq, zI_div, Int.toNat_natCast, zI_max, zI_min, or_false, false_or, or_true, true_or, not_false_eq_true, not_true_eq_false, ↓reduceIte, and_self, and_true, true_and, and_false, false_and, not_or, gt_iff_lt, ge_iff_le, mBI_rI, mBJ_rJ, mBR_rV, mBR_rR, rZ_0, rZ_1, ip, c1, c2, m_in, c4, ix, e]
      · have c5 : v = -9 := by omega
        simp (disch := omega) only [Int.reduceEq, Int.reduceLT, Int.reduceLE, Int.reduceAdd, Int.reduceMul, Int.reduceSub, Int.reduceNeg, Int.reduceDiv, li_0, li_1, li_2, li_3, li_4, li_5, li_6, li_7, li_8, li_9, li_10, li_16, li_20, li_22, li_32, li_36, li_39, li_40, li_42, li_48, li_60, li_67, li_69, li_70, li_71, li_76, li_77, li_80, li_83, li_86, li_90, li_100, li_120, li_200, li_209, li_234, li_240, li_255, li_300, li_309, li_310, ll_0, ll_1, ll_3, ll_5, ll_7, ll_8, ll_9, ll_20, ll_39, ll_40, ll_60, ll_100, ll_120, ll_200, ll_209, ll_300, ll_309, ll_600, ll_1000000000, zI_neg, zI_add, zI_sub, zI_mul, zL_add, zL_sub, zL_mul, zL_neg, zI_suc, zN_I, zI_ofNat, zI_le_t, zI_le_f, zI_lt_t, zI_lt_f, zI_eq_t, zI_eq_f, zL_le_t, zL_le_f, zL_lt_t, zL_lt_f, zL_eq_t, zL_eq_f, zI_cl, zI_L, mI_t, Int.reduceToNat, nt_le_f, nt_le_t, lc_le, lc_lt, lc_gt, lc_eq, zI_div, Int.toNat_natCast, zI_max, zI_min, or_false, false_or, or_true, true_or, not_false_eq_true, not_true_eq_false, ↓reduceIte, and_self, and_true, true_and, and_false, false_and, not_or, gt_iff_lt, ge_iff_le, mBI_rI, mBJ_rJ, mBR_rV, mBR_rR, rZ_0, rZ_1, ip, c1, c2, m_in, c4, c5, ix, e]
    · exact mtH.fr a1 (congrFun (up_nk (by omega)) 2) (up_nk (by omega))
    · exact a2.fr (congrFun (up_nk (by omega)) 7) (up_nk (by omega)) (up_nk (by omega)) (up_nk (by omega)) (up_nk (by omega)) (up_nk (by omega)) (up_nk (by omega))
    · show mUp _ 62 _ _ 62 i = zI (upO (yK y) (8 * p.toNat + t.toNat) v i)
      unfold upO
      by_cases hc : i = 8 * p.toNat + t.toNat
      · rw [if_pos hc, hc, up_at]
      · rw [if_neg hc, up_ne hc]; exact a3 i hi
    · rw [up_nk (by omega), up_nk (by omega)]
  · rw [if_neg c]
    refine .same h ?_
    by_cases c1 : (0 ≤ p ∧ p < 6) ∧ (0 ≤ t ∧ t < 8)
    · by_cases c3 : v = -9 ∨ (0 ≤ v ∧ v ≤ 20)
      · exact absurd ⟨c1.1, c1.2, c3⟩ c
      · have c4 : ¬ (0 ≤ v ∧ v ≤ 20) := fun q => c3 (Or.inr q)
        have c5 : ¬ v = -9 := fun q => c3 (Or.inl q)
        simp (disch := omega) only [Int.reduceEq, Int.reduceLT, Int.reduceLE, Int.reduceAdd, Int.reduceMul, Int.reduceSub, Int.reduceNeg, Int.reduceDiv, li_0, li_1, li_2, li_3, li_4, li_5, li_6, li_7, li_8, li_9, li_10, li_16, li_20, li_22, li_32, li_36, li_39, li_40, li_42, li_48, li_60, li_67, li_69, li_70, li_71, li_76, li_77, li_80, li_83, li_86, li_90, li_100, li_120, li_200, li_209, li_234, li_240, li_255, li_300, li_309, li_310, ll_0, ll_1, ll_3, ll_5, ll_7, ll_8, ll_9, ll_20, ll_39, ll_40, ll_60, ll_100, ll_120, ll_200, ll_209, ll_300, ll_309, ll_600, ll_1000000000, zI_neg, zI_add, zI_sub, zI_mul, zL_add, zL_sub, zL_mul, zL_neg, zI_suc, zN_I, zI_ofNat, zI_le_t, zI_le_f, zI_lt_t, zI_lt_f, zI_eq_t, zI_eq_f, zL_le_t, zL_le_f, zL_lt_t, zL_lt_f, zL_eq_t, zL_eq_f, zI_cl, zI_L, mI_t, Int.reduceToNat, nt_le_f, nt_le_t, lc_le, lc_lt, lc_gt, lc_eq, zI_div, Int.toNat_natCast, zI_max, zI_min, or_false, false_or, or_true, true_or, not_false_eq_true, not_true_eq_false, ↓reduceIte, and_self, and_true, true_and, and_false, false_and, not_or, gt_iff_lt, ge_iff_le, mBI_rI, mBJ_rJ, mBR_rV, mBR_rR, rZ_0, rZ_1, ip, c1, m_in, c4, c5]
    · simp (disch := omega) only [Int.reduceEq, Int.reduceLT, Int.reduceLE, Int.reduceAdd, Int.reduceMul, Int.reduceSub, Int.reduceNeg, Int.reduceDiv, li_0, li_1, li_2, li_3, li_4, li_5, li_6, li_7, li_8, li_9, li_10, li_16, li_20, li_22, li_32, li_36, li_39, li_40, li_42, li_48, li_60, li_67, li_69, li_70, li_71, li_76, li_77, li_80, li_83, li_86, li_90, li_100, li_120, li_200, li_209, li_234, li_240, li_255, li_300, li_309, li_310, ll_0, ll_1, ll_3, ll_5, ll_7, ll_8, ll_9, ll_20, ll_39, ll_40, ll_60, ll_100, ll_120, ll_200, ll_209, ll_300, ll_309, ll_600, ll_1000000000, zI_neg, zI_add, zI_sub, zI_mul, zL_add, zL_sub, zL_mul, zL_neg, zI_suc, zN_I, zI_ofNat, zI_le_t, zI_le_f, zI_lt_t, zI_lt_f, zI_eq_t, zI_eq_f, zL_le_t, zL_le_f, zL_lt_t, zL_lt_f, zL_eq_t, zL_eq_f, zI_cl, zI_L, mI_t, Int.reduceToNat, nt_le_f, nt_le_t, lc_le, lc_lt, lc_gt, lc_eq, zI_div, Int.toNat_natCast, zI_max, zI_min, or_false, false_or, or_true, true_or, not_false_eq_true, not_true_eq_false, ↓reduceIte, and_self, and_true, true_and, and_false, false_and, not_or, gt_iff_lt, ge_iff_le, mBI_rI, mBJ_rJ, mBR_rV, mBR_rR, rZ_0, rZ_1, ip, c1]
/-- wipe -/
def sTx (y : sS) (L : Nat) (B : Nat → Int) : sS := ((L, B), y.2)
theorem P_wipe {y : sS} {M : mMI} {J : mMJ} (h : CI y M J) : cE (sTx y 0 (yB y)) M J (k_Pot_wipe M J) (zI (yL y : Int)) := by
  obtain ⟨a1, a2, a3, a4, a5, a6⟩ := h
  refine ⟨mUp M 1 1 (zI 0), J, ?_, ⟨a1.fr (fun q hq => up_nk (by omega)), ⟨up_at _ _ _ _, fun i hi => absurd hi (Nat.not_lt_zero i)⟩, a3.fr (fun q _ _ => up_nk (by omega)), a4.fr (up_nk (by omega)), a5.fr (fun q _ _ => up_nk (by omega)), ?_⟩, fun q hq => up_nk (by omega), fun q hq => rfl⟩
  · rw [e_Pot_wipe]
    simp (disch := omega) only [Int.reduceEq, Int.reduceLT, Int.reduceLE, Int.reduceAdd, Int.reduceMul, Int.reduceSub, Int.reduceNeg, Int.reduceDiv, li_0, li_1, li_2, li_3, li_4, li_5, li_6, li_7, li_8, li_9, li_10, li_16, li_20, li_22, li_32, li_36, li_39, li_40, li_42, li_48, li_60, li_67, li_69, li_70, li_71, li_76, li_77, li_80, li_83, li_86, li_90, li_100, li_120, li_200, li_209, li_234, li_240, li_255, li_300, li_309, li_310, ll_0, ll_1, ll_3, ll_5, ll_7, ll_8, ll_9, ll_20, ll_39, ll_40, ll_60, ll_100, ll_120, ll_200, ll_209, ll_300, ll_309, ll_600, ll_1000000000, zI_neg, zI_add, zI_sub, zI_mul, zL_add, zL_sub, zL_mul, zL_neg, zI_suc, zN_I, zI_ofNat, zI_le_t, zI_le_f, zI_lt_t, zI_lt_f, zI_eq_t, zI_eq_f, zL_le_t, zL_le_f, zL_lt_t, zL_lt_f, zL_eq_t, zL_eq_f, zI_cl, zI_L, mI_t, Int.reduceToNat, nt_le_f, nt_le_t, lc_le, lc_lt, lc_gt, lc_eq, zI_div, Int.toNat_natCast, zI_max, zI_min, or_false, false_or, or_true, true_or, not_false_eq_true, not_true_eq_false, ↓reduceIte, and_self, and_true, true_and, and_false, false_and, not_or, gt_iff_lt, ge_iff_le, mBI_rI, mBJ_rJ, mBR_rV, mBR_rR, rZ_0, rZ_1, a2.1]
  · show mUp M 1 _ _ 0 9 = zI 1 ∨ (mUp M 1 _ _ 0 9 = zI 0 ∧ coH 7 (wd y) 40 (mUp M 1 _ _) J)
    rw [up_nk (by omega)]
    rcases a6 with a6 | a6
    · exact Or.inl a6
    · exact Or.inr ⟨a6.1, a6.2.fr (up_nk (by omega)) (up_nk (by omega)) (up_nk (by omega)) (up_nk (by omega)) rfl⟩
theorem R_wipe {y : sS} {M : mMI} {J : mMJ} (h : MI y M) : mE (sTx y 0 (yB y)) M J (k_Model_wipe M J) (zI (yL y : Int)) := by
  have h0 := h.u46 (i := 0) (by omega) (by omega) (zI 0)
  obtain ⟨a1, a2, a3, a4⟩ := h0
  refine ⟨mUp (mUp M 46 0 (zI 0)) 46 2 (zI 0), J, ?_, ⟨⟨up_at _ _ _ _, fun i hi => absurd hi (Nat.not_lt_zero i)⟩, ?_, ?_, a4.fr (fun q _ _ => up_nk (by omega))⟩, fun q hq => ?_, fun q hq => rfl⟩
  · rw [e_Model_wipe]
    simp (disch := omega) only [Int.reduceEq, Int.reduceLT, Int.reduceLE, Int.reduceAdd, Int.reduceMul, Int.reduceSub, Int.reduceNeg, Int.reduceDiv, li_0, li_1, li_2, li_3, li_4, li_5, li_6, li_7, li_8, li_9, li_10, li_16, li_20, li_22, li_32, li_36, li_39, li_40, li_42, li_48, li_60, li_67, li_69, li_70, li_71, li_76, li_77, li_80, li_83, li_86, li_90, li_100, li_120, li_200, li_209, li_234, li_240, li_255, li_300, li_309, li_310, ll_0, ll_1, ll_3, ll_5, ll_7, ll_8, ll_9, ll_20, ll_39, ll_40, ll_60, ll_100, ll_120, ll_200, ll_209, ll_300, ll_309, ll_600, ll_1000000000, zI_neg, zI_add, zI_sub, zI_mul, zL_add, zL_sub, zL_mul, zL_neg, zI_suc, zN_I, zI_ofNat, zI_le_t, zI_le_f, zI_lt_t, zI_lt_f, zI_eq_t, zI_eq_f, zL_le_t, zL_le_f, zL_lt_t, zL_lt_f, zL_eq_t, zL_eq_f, zI_cl, zI_L, mI_t, Int.reduceToNat, nt_le_f, nt_le_t, lc_le, lc_lt, lc_gt, lc_eq, zI_div, Int.toNat_natCast, zI_max, zI_min, or_false, false_or, or_true, true_or, not_false_eq_true, not_true_eq_false, ↓reduceIte, and_self, and_true, true_and, and_false, false_and, not_or, gt_iff_lt, ge_iff_le, mBI_rI, mBJ_rJ, mBR_rV, mBR_rR, rZ_0, rZ_1, h.1.1]
  · exact a2.fr (up_ne (by omega)) (up_nk (by omega)) (up_nk (by omega)) (up_nk (by omega)) (up_nk (by omega)) (up_nk (by omega)) (up_nk (by omega))
  · rw [up_nk (by omega)]; exact a3
  · rw [up_nk (by omega), up_nk (by omega)]
