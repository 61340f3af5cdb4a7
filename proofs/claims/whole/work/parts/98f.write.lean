/-! write -/
theorem and_bd (x : Int32) : 0 ≤ (x &&& 255).toInt ∧ (x &&& 255).toInt ≤ 255 := by
  have h : (x &&& 255).toBitVec.toNat ≤ 255 := by
    show (x.toBitVec &&& (255 : Int32).toBitVec).toNat ≤ 255
    rw [BitVec.toNat_and]
    exact Nat.and_le_right
  have e : (x &&& 255).toInt = ((x &&& 255).toBitVec.toNat : Int) := by
    show (x &&& 255).toBitVec.toInt = _
    rw [BitVec.toInt_eq_toNat_of_lt]
    omega
  rw [e]
  omega
def byV (x : Int64) (k : Nat) : Int32 := (x >>> (zL (8 * (k : Int)) &&& 63)).toInt32 &&& zI 255
def bvI (x : Int64) (k : Nat) : Int := (byV x k).toInt
theorem bv_bd (x : Int64) (k : Nat) : 0 ≤ bvI x k ∧ bvI x k ≤ 255 := by
  have := and_bd (x >>> (zL (8 * (k : Int)) &&& 63)).toInt32
  rw [li_255] at this
  exact this
theorem bv_eq (x : Int64) (k : Nat) : (x >>> (zL (8 * (k : Int)) &&& 63)).toInt32 &&& zI 255 = zI (bvI x k) := (Int32.ofInt_toInt (byV x k)).symm
def apd (y : sS) (b : Int) : sS := sTx y (yL y + 1) (fun i => if i = yL y then b else yB y i)
def wrS (x : Int64) : Nat → sS → sS
  | 0, y => y
  | m + 1, y => wrS x m (apd y (bvI x m))
theorem apd_ok {y : sS} (hy : yOk y) (h : yL y < 40) {b : Int} (hb : 0 ≤ b ∧ b ≤ 255) : yOk (apd y b) := by
  refine ⟨⟨h, fun i hi => ?_⟩, hy.2⟩
  have hi : i < yL y + 1 := hi
  show 0 ≤ (if i = yL y then b else yB y i) ∧ (if i = yL y then b else yB y i) ≤ 255
  by_cases c : i = yL y
  · rw [if_pos c]; exact hb
  · rw [if_neg c]; exact hy.1.2 i (by omega)
theorem wrS_ok (x : Int64) : ∀ (m : Nat) (y : sS), yOk y → yL y + m ≤ 40 → yOk (wrS x m y)
  | 0, y, hy, _ => hy
  | m + 1, y, hy, h => wrS_ok x m _ (apd_ok hy (by omega) (bv_bd x m)) (by show yL y + 1 + m ≤ 40; omega)
theorem c_append {y : sS} {M : mMI} {J : mMJ} (h : CI y M J) (hl : yL y < 40) (b : Int) : ∃ N, k_Text_append (zI b) M J = rV N J ∧ cO1 (apd y b) M J N J := by
  obtain ⟨a1, a2, a3, a4, a5, a6⟩ := h
  have e11 := a2.1
  refine ⟨mUp (mUp M 2 (yL y) (zI b)) 1 1 (zI ((yL y + 1 : Nat) : Int)), ?_, ⟨a1.fr (fun q hq => by rw [up_nk (by omega), up_nk (by omega)]), ⟨up_at _ _ _ _, fun i hi => ?_⟩, a3.fr (fun q _ _ => by rw [up_nk (by omega), up_nk (by omega)]), a4.fr (by rw [up_nk (by omega), up_nk (by omega)]), a5.fr (fun q _ _ => by rw [up_nk (by omega), up_nk (by omega)]), ?_⟩, fun q hq => by rw [up_nk (by omega), up_nk (by omega)], fun q hq => rfl⟩
  · rw [e_Text_append]
    simp (disch := omega) only [Int.reduceEq, Int.reduceLT, Int.reduceLE, Int.reduceAdd, Int.reduceMul, Int.reduceSub, Int.reduceNeg, Int.reduceDiv, li_0, li_1, li_2, li_3, li_4, li_5, li_6, li_7, li_8, li_9, li_10, li_16, li_20, li_22, li_32, li_36, li_39, li_40, li_42, li_48, li_60, li_67, li_69, li_70, li_71, li_76, li_77, li_80, li_83, li_86, li_90, li_100, li_120, li_200, li_209, li_234, li_240, li_255, li_300, li_309, li_310, ll_0, ll_1, ll_3, ll_5, ll_7, ll_8, ll_9, ll_20, ll_39, ll_40, ll_60, ll_100, ll_120, ll_200, ll_209, ll_300, ll_309, ll_600, ll_1000000000, zI_neg, zI_add, zI_sub, zI_mul, zL_add, zL_sub, zL_mul, zL_neg, zI_suc, zN_I, zI_ofNat, zI_le_t, zI_le_f, zI_lt_t, zI_lt_f, zI_eq_t, zI_eq_f, zL_le_t, zL_le_f, zL_lt_t, zL_lt_f, zL_eq_t, zL_eq_f, zI_cl, zI_L, mI_t, Int.reduceToNat, nt_le_f, nt_le_t, lc_le, lc_lt, lc_gt, lc_eq, zI_div, Int.toNat_natCast, zI_max, zI_min, or_false, false_or, or_true, true_or, not_false_eq_true, not_true_eq_false, ↓reduceIte, and_self, and_true, true_and, and_false, false_and, not_or, gt_iff_lt, ge_iff_le, mBI_rI, mBJ_rJ, mBR_rV, mBR_rR, rZ_0, rZ_1, e11]
  · have hi : i < yL y + 1 := hi
    show mUp (mUp M 2 (yL y) (zI b)) 1 1 _ 2 i = zI (if i = yL y then b else yB y i)
    rw [up_nk (by omega)]
    by_cases c : i = yL y
    · rw [if_pos c, c, up_at]
    · rw [if_neg c, up_ne c]; exact a2.2 i (by omega)
  · show mUp _ 1 1 _ 0 9 = zI 1 ∨ (mUp _ 1 1 _ 0 9 = zI 0 ∧ coH 7 (wd y) 40 (mUp _ 1 1 _) J)
    rw [up_nk (by omega), up_nk (by omega)]
    rcases a6 with a6 | a6
    · exact Or.inl a6
    · exact Or.inr ⟨a6.1, a6.2.fr (by rw [up_nk (by omega), up_nk (by omega)]) (by rw [up_nk (by omega), up_nk (by omega)]) (by rw [up_nk (by omega), up_nk (by omega)]) (by rw [up_nk (by omega), up_nk (by omega)]) rfl⟩
theorem c_wr (x : Int64) : ∀ (m : Nat) (y : sS) (M : mMI) (J : mMJ), CI y M J → m ≤ 8 → yL y + m ≤ 40 → cE (wrS x m y) M J (k_Pot_write_21 x (zI ((m : Int) - 1)) M J) (zI ((yL y + m : Nat) : Int))
  | 0, y, M, J, h, hm, hl => by
    refine .same h ?_
    rw [e_Pot_write_21]
    simp (disch := omega) only [Int.reduceEq, Int.reduceLT, Int.reduceLE, Int.reduceAdd, Int.reduceMul, Int.reduceSub, Int.reduceNeg, Int.reduceDiv, li_0, li_1, li_2, li_3, li_4, li_5, li_6, li_7, li_8, li_9, li_10, li_16, li_20, li_22, li_32, li_36, li_39, li_40, li_42, li_48, li_60, li_67, li_69, li_70, li_71, li_76, li_77, li_80, li_83, li_86, li_90, li_100, li_120, li_200, li_209, li_234, li_240, li_255, li_300, li_309, li_310, ll_0, ll_1, ll_3, ll_5, ll_7, ll_8, ll_9, ll_20, ll_39, ll_40, ll_60, ll_100, ll_120, ll_200, ll_209, ll_300, ll_309, ll_600, ll_1000000000, zI_neg, zI_add, zI_sub, zI_mul, zL_add, zL_sub, zL_mul, zL_neg, zI_suc, zN_I, zI_ofNat, zI_le_t, zI_le_f, zI_lt_t, zI_lt_f, zI_eq_t, zI_eq_f, zL_le_t, zL_le_f, zL_lt_t, zL_lt_f, zL_eq_t, zL_eq_f, zI_cl, zI_L, mI_t, Int.reduceToNat, nt_le_f, nt_le_t, lc_le, lc_lt, lc_gt, lc_eq, zI_div, Int.toNat_natCast, zI_max, zI_min, or_false, false_or, or_true, true_or, not_false_eq_true, not_true_eq_false, ↓reduceIte, and_self, and_true, true_and, and_false, false_and, not_or, gt_iff_lt, ge_iff_le, mBI_rI, mBJ_rJ, mBR_rV, mBR_rR, rZ_0, rZ_1, h.2.1.1, Nat.add_zero]
  | m + 1, y, M, J, h, hm, hl => by
    obtain ⟨N, e, o⟩ := c_append h (by omega) (bvI x m)
    obtain ⟨N2, K2, e2, o2⟩ := c_wr x m (apd y (bvI x m)) N J o.1 (by omega) (by show yL y + 1 + m ≤ 40; omega)
    have ey : yL (apd y (bvI x m)) = yL y + 1 := rfl
    rw [ey, show yL y + 1 + m = yL y + (m + 1) by omega] at e2
    refine ⟨N2, K2, ?_, o.tr o2⟩
    have ic : ((m + 1 : Nat) : Int) - 1 = (m : Int) := by omega
    have ic2 : (m : Int) + -1 = (m : Int) - 1 := by omega
    rw [e_Pot_write_21, ic]
    simp (disch := omega) only [Int.reduceEq, Int.reduceLT, Int.reduceLE, Int.reduceAdd, Int.reduceMul, Int.reduceSub, Int.reduceNeg, Int.reduceDiv, li_0, li_1, li_2, li_3, li_4, li_5, li_6, li_7, li_8, li_9, li_10, li_16, li_20, li_22, li_32, li_36, li_39, li_40, li_42, li_48, li_60, li_67, li_69, li_70, li_71, li_76, li_77, li_80, li_83, li_86, li_90, li_100, li_120, li_200, li_209, li_234, li_240, li_255, li_300, li_309, li_310, ll_0, ll_1, ll_3, ll_5, ll_7, ll_8, ll_9, ll_20, ll_39, ll_40, ll_60, ll_100, ll_120, ll_200, ll_209, ll_300, ll_309, ll_600, ll_1000000000, zI_neg, zI_add, zI_sub, zI_mul, zL_add, zL_sub, zL_mul, zL_neg, zI_suc, zN_I, zI_ofNat, zI_le_t, zI_le_f, zI_lt_t, zI_lt_f, zI_eq_t, zI_eq_f, zL_le_t, zL_le_f, zL_lt_t, zL_lt_f, zL_eq_t, zL_eq_f, zI_cl, zI_L, mI_t, Int.reduceToNat, nt_le_f, nt_le_t, lc_le, lc_lt, lc_gt, lc_eq, zI_div, Int.toNat_natCast, zI_max, zI_min, or_false, false_or, or_true, true_or, not_false_eq_true, not_true_eq_false, ↓reduceIte, and_self, and_true, true_and, and_false, false_and, not_or, gt_iff_lt, ge_iff_le, mBI_rI, mBJ_rJ, mBR_rV, mBR_rR, rZ_0, rZ_1, bv_eq, e, ic2, e2]
theorem m_append {y : sS} {M : mMI} (h : MI y M) (hl : yL y < 40) (b : Int) : MI (apd y b) (mUp (mUp M 47 (yL y) (zI b)) 46 2 (zI ((yL y + 1 : Nat) : Int))) := by
  obtain ⟨a1, a2, a3, a4⟩ := h
  refine ⟨⟨up_at _ _ _ _, fun i hi => ?_⟩, a2.fr (by rw [up_ne (by omega), up_nk (by omega)]) (by rw [up_nk (by omega), up_nk (by omega)]) (by rw [up_nk (by omega), up_nk (by omega)]) (by rw [up_nk (by omega), up_nk (by omega)]) (by rw [up_nk (by omega), up_nk (by omega)]) (by rw [up_nk (by omega), up_nk (by omega)]) (by rw [up_nk (by omega), up_nk (by omega)]), ?_, a4.fr (fun q _ _ => by rw [up_nk (by omega), up_nk (by omega)])⟩
  · have hi : i < yL y + 1 := hi
    show mUp (mUp M 47 (yL y) (zI b)) 46 2 _ 47 i = zI (if i = yL y then b else yB y i)
    rw [up_nk (by omega)]
    by_cases c : i = yL y
    · rw [if_pos c, c, up_at]
    · rw [if_neg c, up_ne c]; exact a1.2 i (by omega)
  · rw [up_nk (by omega), up_nk (by omega)]
    exact a3
theorem m_wr (x : Int64) : ∀ (m : Nat) (y : sS) (M : mMI) (J : mMJ), MI y M → m ≤ 8 → yL y + m ≤ 40 → mE (wrS x m y) M J (k_Model_write_23 x (zI ((m : Int) - 1)) M J) (zI ((yL y + m : Nat) : Int))
  | 0, y, M, J, h, hm, hl => by
    refine ⟨M, J, ?_, h, fun _ _ => rfl, fun _ _ => rfl⟩
    rw [e_Model_write_23]
    simp (disch := omega) only [Int.reduceEq, Int.reduceLT, Int.reduceLE, Int.reduceAdd, Int.reduceMul, Int.reduceSub, Int.reduceNeg, Int.reduceDiv, li_0, li_1, li_2, li_3, li_4, li_5, li_6, li_7, li_8, li_9, li_10, li_16, li_20, li_22, li_32, li_36, li_39, li_40, li_42, li_48, li_60, li_67, li_69, li_70, li_71, li_76, li_77, li_80, li_83, li_86, li_90, li_100, li_120, li_200, li_209, li_234, li_240, li_255, li_300, li_309, li_310, ll_0, ll_1, ll_3, ll_5, ll_7, ll_8, ll_9, ll_20, ll_39, ll_40, ll_60, ll_100, ll_120, ll_200, ll_209, ll_300, ll_309, ll_600, ll_1000000000, zI_neg, zI_add, zI_sub, zI_mul, zL_add, zL_sub, zL_mul, zL_neg, zI_suc, zN_I, zI_ofNat, zI_le_t, zI_le_f, zI_lt_t, zI_lt_f, zI_eq_t, zI_eq_f, zL_le_t, zL_le_f, zL_lt_t, zL_lt_f, zL_eq_t, zL_eq_f, zI_cl, zI_L, mI_t, Int.reduceToNat, nt_le_f, nt_le_t, lc_le, lc_lt, lc_gt, lc_eq, zI_div, Int.toNat_natCast, zI_max, zI_min, or_false, false_or, or_true, true_or, not_false_eq_true, not_true_eq_false, ↓reduceIte, and_self, and_true, true_and, and_false, false_and, not_or, gt_iff_lt, ge_iff_le, mBI_rI, mBJ_rJ, mBR_rV, mBR_rR, rZ_0, rZ_1, h.1.1, Nat.add_zero]
  | m + 1, y, M, J, h, hm, hl => by
    obtain ⟨N2, K2, e2, o2⟩ := m_wr x m (apd y (bvI x m)) _ J (m_append h (by omega) (bvI x m)) (by omega) (by show yL y + 1 + m ≤ 40; omega)
    have ey : yL (apd y (bvI x m)) = yL y + 1 := rfl
    rw [ey, show yL y + 1 + m = yL y + (m + 1) by omega] at e2
    refine ⟨N2, K2, ?_, o2.1, fun p hp => by rw [o2.2.1 p hp, up_nk (by omega), up_nk (by omega)], o2.2.2⟩
    have ic : ((m + 1 : Nat) : Int) - 1 = (m : Int) := by omega
    have ic2 : (m : Int) + -1 = (m : Int) - 1 := by omega
    rw [e_Model_write_23, ic]
    simp (disch := omega) only [Int.reduceEq, Int.reduceLT, Int.reduceLE, Int.reduceAdd, Int.reduceMul, Int.reduceSub, Int.reduceNeg, Int.reduceDiv, li_0, li_1, li_2, li_3, li_4, li_5, li_6, li_7, li_8, li_9, li_10, li_16, li_20, li_22, li_32, li_36, li_39, li_40, li_42, li_48, li_60, li_67, li_69, li_70, li_71, li_76, li_77, li_80, li_83, li_86, li_90, li_100, li_120, li_200, li_209, li_234, li_240, li_255, li_300, li_309, li_310, ll_0, ll_1, ll_3, ll_5, ll_7, ll_8, ll_9, ll_20, ll_39, ll_40, ll_60, ll_100, ll_120, ll_200, ll_209, ll_300, ll_309, ll_600, ll_1000000000, zI_neg, zI_add, zI_sub, zI_mul, zL_add, zL_sub, zL_mul, zL_neg, zI_suc, zN_I, zI_ofNat, zI_le_t, zI_le_f, zI_lt_t, zI_lt_f, zI_eq_t, zI_eq_f, zL_le_t, zL_le_f, zL_lt_t, zL_lt_f, zL_eq_t, zL_eq_f, zI_cl, zI_L, mI_t, Int.reduceToNat, nt_le_f, nt_le_t, lc_le, lc_lt, lc_gt, lc_eq, zI_div, Int.toNat_natCast, zI_max, zI_min, or_false, false_or, or_true, true_or, not_false_eq_true, not_true_eq_false, ↓reduceIte, and_self, and_true, true_and, and_false, false_and, not_or, gt_iff_lt, ge_iff_le, mBI_rI, mBJ_rJ, mBR_rV, mBR_rR, rZ_0, rZ_1, h.1.1, bv_eq, ic2, e2]
def okWrite (n : Int) (y : sS) : Prop := (1 ≤ n ∧ n ≤ 8) ∧ (yL y : Int) + n ≤ 40
noncomputable def nWrite (n : Int) (x : Int64) (y : sS) : sS := @ite _ (okWrite n y) (Classical.propDecidable _) (wrS x n.toNat y) y
def aWrite (n : Int) (y : sS) : Int32 := zI (if 1 ≤ n ∧ n ≤ 8 then (if (yL y : Int) + n ≤ 40 then (yL y : Int) + n else -4) else -2)
theorem nWrite_ok (n : Int) (x : Int64) (y : sS) (hy : yOk y) : yOk (nWrite n x y) := by
  unfold nWrite
  split
  · rename_i h
    obtain ⟨h1, h2⟩ := h
    exact wrS_ok x _ y hy (by omega)
  · exact hy
theorem P_write {n : Int} (hn : bz n) (x : Int64) {y : sS} (hy : yOk y) {M : mMI} {J : mMJ} (h : CI y M J) : cE (nWrite n x y) M J (k_Pot_write (zI n) x M J) (aWrite n y) := by
  have hL := hy.1.1
  have e11 := h.2.1.1
  obtain ⟨h1, h2⟩ := hn
  unfold aWrite nWrite
  by_cases c1 : 1 ≤ n ∧ n ≤ 8
  · by_cases c2 : (yL y : Int) + n ≤ 40
    · rw [if_pos (show okWrite n y from ⟨c1, c2⟩), if_pos c1, if_pos c2]
      obtain ⟨m, rfl⟩ : ∃ m : Nat, n = (m : Int) := ⟨n.toNat, by omega⟩
      rw [Int.toNat_natCast]
      obtain ⟨N, K, e, o⟩ := c_wr x m y M J h (by omega) (by omega)
      refine ⟨N, K, ?_, o⟩
      rw [e_Pot_write]
      simp (disch := omega) only [Int.reduceEq, Int.reduceLT, Int.reduceLE, Int.reduceAdd, Int.reduceMul, Int.reduceSub, Int.reduceNeg, Int.reduceDiv, li_0, li_1, li_2, li_3, li_4, li_5, li_6, li_7, li_8, li_9, li_10, li_16, li_20, li_22, li_32, li_36, li_39, li_40, li_42, li_48, li_60, li_67, li_69, li_70, li_71, li_76, li_77, li_80, li_83, li_86, li_90, li_100, li_120, li_200, li_209, li_234, li_240, li_255, li_300, li_309, li_310, ll_0, ll_1, ll_3, ll_5, ll_7, ll_8, ll_9, ll_20, ll_39, ll_40, ll_60, ll_100, ll_120, ll_200, ll_209, ll_300, ll_309, ll_600, ll_1000000000, zI_neg, zI_add, zI_sub, zI_mul, zL_add, zL_sub, zL_mul, zL_neg, zI_suc, zN_I, zI_ofNat, zI_le_t, zI_le_f, zI_lt_t, zI_lt_f, zI_eq_t, zI_eq_f, zL_le_t, zL_le_f, zL_lt_t, zL_lt_f, zL_eq_t, zL_eq_f, zI_cl, zI_L, mI_t, Int.reduceToNat, nt_le_f, nt_le_t, lc_le, lc_lt, lc_gt, lc_eq, zI_div, Int.toNat_natCast, zI_max, zI_min, or_false, false_or, or_true, true_or, not_false_eq_true, not_true_eq_false, ↓reduceIte, and_self, and_true, true_and, and_false, false_and, not_or, gt_iff_lt, ge_iff_le, mBI_rI, mBJ_rJ, mBR_rV, mBR_rR, rZ_0, rZ_1, e11, e]
      rfl
    · rw [if_neg (show ¬ okWrite n y from fun q => c2 q.2), if_pos c1, if_neg c2]
      refine .same h ?_
      rw [e_Pot_write]
      simp (disch := omega) only [Int.reduceEq, Int.reduceLT, Int.reduceLE, Int.reduceAdd, Int.reduceMul, Int.reduceSub, Int.reduceNeg, Int.reduceDiv, li_0, li_1, li_2, li_3, li_4, li_5, li_6, li_7, li_8, li_9, li_10, li_16, li_20, li_22, li_32, li_36, li_39, li_40, li_42, li_48, li_60, li_67, li_69, li_70, li_71, li_76, li_77, li_80, li_83, li_86, li_90, li_100, li_120, li_200, li_209, li_234, li_240, li_255, li_300, li_309, li_310, ll_0, ll_1, ll_3, ll_5, ll_7, ll_8, ll_9, ll_20, ll_39, ll_40, ll_60, ll_100, ll_120, ll_200, ll_209, ll_300, ll_309, ll_600, ll_1000000000, zI_neg, zI_add, zI_sub, zI_mul, zL_add, zL_sub, zL_mul, zL_neg, zI_suc, zN_I, zI_ofNat, zI_le_t, zI_le_f, zI_lt_t, zI_lt_f, zI_eq_t, zI_eq_f, zL_le_t, zL_le_f, zL_lt_t, zL_lt_f, zL_eq_t, zL_eq_f, zI_cl, zI_L, mI_t, Int.reduceToNat, nt_le_f, nt_le_t, lc_le, lc_lt, lc_gt, lc_eq, zI_div, Int.toNat_natCast, zI_max, zI_min, or_false, false_or, or_true, true_or, not_false_eq_true, not_true_eq_false, ↓reduceIte, and_self, and_true, true_and, and_false, false_and, not_or, gt_iff_lt, ge_iff_le, mBI_rI, mBJ_rJ, mBR_rV, mBR_rR, rZ_0, rZ_1, e11]
  · rw [if_neg (show ¬ okWrite n y from fun q => c1 q.1), if_neg c1]
    refine .same h ?_
    rw [e_Pot_write]
    by_cases c3 : 1 ≤ n
    · simp (disch := omega) only [Int.reduceEq, Int.reduceLT, Int.reduceLE, Int.reduceAdd, Int.reduceMul, Int.reduceSub, Int.reduceNeg, Int.reduceDiv, li_0, li_1, li_2, li_3, li_4, li_5, li_6, li_7, li_8, li_9, li_10, li_16, li_20, li_22, li_32, li_36, li_39, li_40, li_42, li_48, li_60, li_67, li_69, li_70, li_71, li_76, li_77, li_80, li_83, li_86, li_90, li_100, li_120, li_200, li_209, li_234, li_240, li_255, li_300, li_309, li_310, ll_0, ll_1, ll_3, ll_5, ll_7, ll_8, ll_9, ll_20, ll_39, ll_40, ll_60, ll_100, ll_120, ll_200, ll_209, ll_300, ll_309, ll_600, ll_1000000000, zI_neg, zI_add, zI_sub, zI_mul, zL_add, zL_sub, zL_mul, zL_neg, zI_suc, zN_I, zI_ofNat, zI_le_t, zI_le_f, zI_lt_t, zI_lt_f, zI_eq_t, zI_eq_f, zL_le_t, zL_le_f, zL_lt_t, zL_lt_f, zL_eq_t, zL_eq_f, zI_cl, zI_L, mI_t, Int.reduceToNat, nt_le_f, nt_le_t, lc_le, lc_lt, lc_gt, lc_eq, zI_div, Int.toNat_natCast, zI_max, zI_min, or_false, false_or, or_true, true_or, not_false_eq_true, not_true_eq_false, ↓reduceIte, and_self, and_true, true_and, and_false, false_and, not_or, gt_iff_lt, ge_iff_le, mBI_rI, mBJ_rJ, mBR_rV, mBR_rR, rZ_0, rZ_1]
    · simp (disch := omega) only [Int.reduceEq, Int.reduceLT, Int.reduceLE, Int.reduceAdd, Int.reduceMul, Int.reduceSub, Int.reduceNeg, Int.reduceDiv, li_0, li_1, li_2, li_3, li_4, li_5, li_6, li_7, li_8, li_9, li_10, li_16, li_20, li_22, li_32, li_36, li_39, li_40, li_42, li_48, li_60, li_67, li_69, li_70, li_71, li_76, li_77, li_80, li_83, li_86, li_90, li_100, li_120, li_200, li_209, li_234, li_240, li_255, li_300, li_309, li_310, ll_0, ll_1, ll_3, ll_5, ll_7, ll_8, ll_9, ll_20, ll_39, ll_40, ll_60, ll_100, ll_120, ll_200, ll_209, ll_300, ll_309, ll_600, ll_1000000000, zI_neg, zI_add, zI_sub, zI_mul, zL_add, zL_sub, zL_mul, zL_neg, zI_suc, zN_I, zI_ofNat, zI_le_t, zI_le_f, zI_lt_t, zI_lt_f, zI_eq_t, zI_eq_f, zL_le_t, zL_le_f, zL_lt_t, zL_lt_f, zL_eq_t, zL_eq_f, zI_cl, zI_L, mI_t, Int.reduceToNat, nt_le_f, nt_le_t, lc_le, lc_lt, lc_gt, lc_eq, zI_div, Int.toNat_natCast, zI_max, zI_min, or_false, false_or, or_true, true_or, not_false_eq_true, not_true_eq_false, ↓reduceIte, and_self, and_true, true_and, and_false, false_and, not_or, gt_iff_lt, ge_iff_le, mBI_rI, mBJ_rJ, mBR_rV, mBR_rR, rZ_0, rZ_1]
theorem R_write {n : Int} (hn : bz n) (x : Int64) {y : sS} (hy : yOk y) {M : mMI} {J : mMJ} (h : MI y M) : mE (nWrite n x y) M J (k_Model_write (zI n) x M J) (aWrite n y) := by
  have hL := hy.1.1
  have h0 := h.u46 (i := 0) (by omega) (by omega) (zI 0)
  have e2 := h0.1.1
  obtain ⟨h1, h2⟩ := hn
  unfold aWrite nWrite
  by_cases c1 : 1 ≤ n ∧ n ≤ 8
  · by_cases c2 : (yL y : Int) + n ≤ 40
    · rw [if_pos (show okWrite n y from ⟨c1, c2⟩), if_pos c1, if_pos c2]
      obtain ⟨m, rfl⟩ : ∃ m : Nat, n = (m : Int) := ⟨n.toNat, by omega⟩
      rw [Int.toNat_natCast]
      obtain ⟨N, K, e, o⟩ := m_wr x m y _ J h0 (by omega) (by omega)
      refine ⟨N, K, ?_, o.of0⟩
      rw [e_Model_write]
      simp (disch := omega) only [Int.reduceEq, Int.reduceLT, Int.reduceLE, Int.reduceAdd, Int.reduceMul, Int.reduceSub, Int.reduceNeg, Int.reduceDiv, li_0, li_1, li_2, li_3, li_4, li_5, li_6, li_7, li_8, li_9, li_10, li_16, li_20, li_22, li_32, li_36, li_39, li_40, li_42, li_48, li_60, li_67, li_69, li_70, li_71, li_76, li_77, li_80, li_83, li_86, li_90, li_100, li_120, li_200, li_209, li_234, li_240, li_255, li_300, li_309, li_310, ll_0, ll_1, ll_3, ll_5, ll_7, ll_8, ll_9, ll_20, ll_39, ll_40, ll_60, ll_100, ll_120, ll_200, ll_209, ll_300, ll_309, ll_600, ll_1000000000, zI_neg, zI_add, zI_sub, zI_mul, zL_add, zL_sub, zL_mul, zL_neg, zI_suc, zN_I, zI_ofNat, zI_le_t, zI_le_f, zI_lt_t, zI_lt_f, zI_eq_t, zI_eq_f, zL_le_t, zL_le_f, zL_lt_t, zL_lt_f, zL_eq_t, zL_eq_f, zI_cl, zI_L, mI_t, Int.reduceToNat, nt_le_f, nt_le_t, lc_le, lc_lt, lc_gt, lc_eq, zI_div, Int.toNat_natCast, zI_max, zI_min, or_false, false_or, or_true, true_or, not_false_eq_true, not_true_eq_false, ↓reduceIte, and_self, and_true, true_and, and_false, false_and, not_or, gt_iff_lt, ge_iff_le, mBI_rI, mBJ_rJ, mBR_rV, mBR_rR, rZ_0, rZ_1, m_in, c1, e2, e]
      rfl
    · rw [if_neg (show ¬ okWrite n y from fun q => c2 q.2), if_pos c1, if_neg c2]
      refine .same h ?_
      rw [e_Model_write]
      simp (disch := omega) only [Int.reduceEq, Int.reduceLT, Int.reduceLE, Int.reduceAdd, Int.reduceMul, Int.reduceSub, Int.reduceNeg, Int.reduceDiv, li_0, li_1, li_2, li_3, li_4, li_5, li_6, li_7, li_8, li_9, li_10, li_16, li_20, li_22, li_32, li_36, li_39, li_40, li_42, li_48, li_60, li_67, li_69, li_70, li_71, li_76, li_77, li_80, li_83, li_86, li_90, li_100, li_120, li_200, li_209, li_234, li_240, li_255, li_300, li_309, li_310, ll_0, ll_1, ll_3, ll_5, ll_7, ll_8, ll_9, ll_20, ll_39, ll_40, ll_60, ll_100, ll_120, ll_200, ll_209, ll_300, ll_309, ll_600, ll_1000000000, zI_neg, zI_add, zI_sub, zI_mul, zL_add, zL_sub, zL_mul, zL_neg, zI_suc, zN_I, zI_ofNat, zI_le_t, zI_le_f, zI_lt_t, zI_lt_f, zI_eq_t, zI_eq_f, zL_le_t, zL_le_f, zL_lt_t, zL_lt_f, zL_eq_t, zL_eq_f, zI_cl, zI_L, mI_t, Int.reduceToNat, nt_le_f, nt_le_t, lc_le, lc_lt, lc_gt, lc_eq, zI_div, Int.toNat_natCast, zI_max, zI_min, or_false, false_or, or_true, true_or, not_false_eq_true, not_true_eq_false, ↓reduceIte, and_self, and_true, true_and, and_false, false_and, not_or, gt_iff_lt, ge_iff_le, mBI_rI, mBJ_rJ, mBR_rV, mBR_rR, rZ_0, rZ_1, m_in, c1, e2]
  · rw [if_neg (show ¬ okWrite n y from fun q => c1 q.1), if_neg c1]
    refine .same h ?_
    rw [e_Model_write]
    simp (disch := omega) only [Int.reduceEq, Int.reduceLT, Int.reduceLE, Int.reduceAdd, Int.reduceMul, Int.reduceSub, Int.reduceNeg, Int.reduceDiv, li_0, li_1, li_2, li_3, li_4, li_5, li_6, li_7, li_8, li_9, li_10, li_16, li_20, li_22, li_32, li_36, li_39, li_40, li_42, li_48, li_60, li_67, li_69, li_70, li_71, li_76, li_77, li_80, li_83, li_86, li_90, li_100, li_120, li_200, li_209, li_234, li_240, li_255, li_300, li_309, li_310, ll_0, ll_1, ll_3, ll_5, ll_7, ll_8, ll_9, ll_20, ll_39, ll_40, ll_60, ll_100, ll_120, ll_200, ll_209, ll_300, ll_309, ll_600, ll_1000000000, zI_neg, zI_add, zI_sub, zI_mul, zL_add, zL_sub, zL_mul, zL_neg, zI_suc, zN_I, zI_ofNat, zI_le_t, zI_le_f, zI_lt_t, zI_lt_f, zI_eq_t, zI_eq_f, zL_le_t, zL_le_f, zL_lt_t, zL_lt_f, zL_eq_t, zL_eq_f, zI_cl, zI_L, mI_t, Int.reduceToNat, nt_le_f, nt_le_t, lc_le, lc_lt, lc_gt, lc_eq, zI_div, Int.toNat_natCast, zI_max, zI_min, or_false, false_or, or_true, true_or, not_false_eq_true, not_true_eq_false, ↓reduceIte, and_self, and_true, true_and, and_false, false_and, not_or, gt_iff_lt, ge_iff_le, mBI_rI, mBJ_rJ, mBR_rV, mBR_rR, rZ_0, rZ_1, m_in, c1]
