/-! texts: the reference reads -/
def anyV (y : sS) (g : Nat) (k : Int) : Nat → Bool
  | 0 => false
  | j + 1 => anyV y g k j || decide (ltV y g j = k)
theorem any_dp (y : sS) (g m : Nat) : ∀ j, dpV y g m j = anyV y g (ltV y g m) j
  | 0 => rfl
  | j + 1 => by
    show (dpV y g m j || _) = (anyV y g (ltV y g m) j || _)
    rw [any_dp y g m j]
theorem any_t {y : sS} {g : Nat} {k : Int} {j : Nat} (h : ltV y g j = k) : ∀ {n}, j < n → anyV y g k n = true := by
  intro n hn
  induction n with
  | zero => omega
  | succ n ih =>
    show (anyV y g k n || decide (ltV y g n = k)) = true
    by_cases e : j = n
    · rw [← e, decide_eq_true h, Bool.or_true]
    · rw [ih (by omega), Bool.true_or]
theorem any_f {y : sS} {g : Nat} {k : Int} : ∀ {n}, anyV y g k n = false → ∀ j, j < n → ltV y g j ≠ k := by
  intro n h j hj e
  rw [any_t e hj] at h
  cases h
/-- the bits of what was had -/
def hdV (y : sS) : Nat → Int32
  | 0 => zI 0
  | m + 1 => hdV y m ||| (zI 1 <<< (zI (ltV y 5 m) &&& 31))
theorem hd_1 : ∀ h : Nat, h < 16 → ∀ k : Nat, k < 4 → (zI (h : Int) ||| (zI 1 <<< (zI (k : Int) &&& 31))) = zI ((h ||| (1 <<< k) : Nat) : Int) ∧ (h ||| (1 <<< k)) < 16 ∧ ∀ j : Nat, j < 4 → bB (zI ((h ||| (1 <<< k) : Nat) : Int)) j = (bB (zI (h : Int)) j || decide ((k : Int) = (j : Int))) := by decide +kernel
theorem hd_0 : ∀ j : Nat, j < 4 → bB (zI ((0 : Nat) : Int)) j = false := by decide +kernel
theorem hd_b {y : sS} : ∀ m, (∀ j, j < m → 0 ≤ ltV y 5 j ∧ ltV y 5 j < 4) → ∃ h : Nat, h < 16 ∧ hdV y m = zI (h : Int) ∧ ∀ k : Nat, k < 4 → bB (zI (h : Int)) k = anyV y 5 (k : Int) m
  | 0, _ => ⟨0, by omega, rfl, hd_0⟩
  | m + 1, hj => by
    obtain ⟨h, h1, h2, h3⟩ := hd_b m (fun j q => hj j (by omega))
    have b := hj m (by omega)
    obtain ⟨l, hl⟩ : ∃ l : Nat, ltV y 5 m = (l : Int) := ⟨(ltV y 5 m).toNat, by omega⟩
    obtain ⟨q1, q2, q3⟩ := hd_1 h h1 l (by omega)
    refine ⟨h ||| (1 <<< l), q2, ?_, fun k hk => ?_⟩
    · show hdV y m ||| (zI 1 <<< (zI (ltV y 5 m) &&& 31)) = _
      rw [h2, hl, q1]
    · rw [q3 k hk, h3 k hk]
      show _ = (anyV y 5 (k : Int) m || decide (ltV y 5 m = (k : Int)))
      rw [hl]
theorem pigeon (a b c d e : Nat) (ha : a < 4) (hb : b < 4) (hc : c < 4) (hd : d < 4) (he : e < 4) (h1 : a ≠ b) (h2 : a ≠ c) (h3 : a ≠ d) (h4 : b ≠ c) (h5 : b ≠ d) (h6 : c ≠ d) : e = a ∨ e = b ∨ e = c ∨ e = d := by
  rcases (show a = 0 ∨ a = 1 ∨ a = 2 ∨ a = 3 by omega) with rfl | rfl | rfl | rfl <;> rcases (show b = 0 ∨ b = 1 ∨ b = 2 ∨ b = 3 by omega) with rfl | rfl | rfl | rfl <;> omega
/-- what a rule's parts come to -/
def rlV (y : sS) : Nat → Nat → Int
  | 0, j => [20, 16, 0, 1].getD j 0
  | m + 1, j => upO (rlV y m) (ltV y 5 m).toNat (numV y 5 m) j
/-- what reading a rule may change -/
def rF (M N : mMI) : Prop := (∀ p, p ≠ 46 → p ≠ 49 → N p = M p) ∧ (∀ i, i ≠ 3 → i ≠ 6 → N 46 i = M 46 i)
theorem m_rule28 {y : sS} (hy : yOk y) (J : mMJ) : ∀ (f m : Nat) (M : mMI), m + f = 5 → m ≤ 4 → mxH (yB y) (yL y) (atV y 5 m) M → atV y 5 m ≤ yL y → M 46 6 = zI (m : Int) → (∀ j, j < 4 → M 49 j = zI (rlV y m j)) → (∀ j, j < m → (0 ≤ ltV y 5 j ∧ ltV y 5 j < 4) ∧ anyV y 5 (ltV y 5 j) j = false) → ∃ N, k_Model_readRule_28 (hdV y m) M J = rI (zI (rsT y 5 f m).1) N J ∧ rF M N ∧ N 46 6 = zI ((rsT y 5 f m).2 : Int) ∧ (∀ j, j < 4 → N 49 j = zI (rlV y (rsT y 5 f m).2 j))
  | 0, m, M, hf, hm, _, _, _, _, _ => absurd hf (by omega)
  | f + 1, m, M, hf, hm, hx, hat, h6, h49, hd => by
    have hL := hy.1.1
    have hg : (5 : Nat) = 5 ∨ (5 : Nat) = 6 := Or.inl rfl
    have bm := lt_bd y 5 m
    have k4 : (gK 5 : Int) = 4 := rfl
    rw [k4] at bm
    have er : rsT y 5 (f + 1) m = if yL y ≤ atV y 5 m then ((if m < gW 5 then (yL y : Int) else -9), m)
      else if m = gX 5 ∨ ltV y 5 m < 0 ∨ ((5 : Nat) = 5 ∧ dpV y 5 m m = true) then ((atV y 5 m : Int), m)
      else if ¬ fmV y 5 m = -9 then (fmV y 5 m, m) else rsT y 5 f (m + 1) := rfl
    by_cases c1 : yL y ≤ atV y 5 m
    · have w0 : gW 5 = 0 := rfl
      rw [if_pos c1, if_neg (show ¬ m < gW 5 by omega)] at er
      rw [er]
      refine ⟨M, ?_, ⟨fun _ _ _ => rfl, fun _ _ _ => rfl⟩, h6, h49⟩
      rw [e_Model_readRule_28]
      simp (disch := omega) only [Int.reduceEq, Int.reduceLT, Int.reduceLE, Int.reduceAdd, Int.reduceMul, Int.reduceSub, Int.reduceNeg, Int.reduceDiv, li_0, li_1, li_2, li_3, li_4, li_5, li_6, li_7, li_8, li_9, li_10, li_16, li_20, li_22, li_32, li_36, li_39, li_40, li_42, li_48, li_60, li_67, li_69, li_70, li_71, li_76, li_77, li_80, li_83, li_86, li_90, li_100, li_120, li_200, li_209, li_234, li_240, li_255, li_300, li_309, li_310, ll_0, ll_1, ll_3, ll_5, ll_7, ll_8, ll_9, ll_20, ll_39, ll_40, ll_60, ll_100, ll_120, ll_200, ll_209, ll_300, ll_309, ll_600, ll_1000000000, zI_neg, zI_add, zI_sub, zI_mul, zL_add, zL_sub, zL_mul, zL_neg, zI_suc, zN_I, zI_ofNat, zI_le_t, zI_le_f, zI_lt_t, zI_lt_f, zI_eq_t, zI_eq_f, zL_le_t, zL_le_f, zL_lt_t, zL_lt_f, zL_eq_t, zL_eq_f, zI_cl, zI_L, mI_t, Int.reduceToNat, nt_le_f, nt_le_t, lc_le, lc_lt, lc_gt, lc_eq, zI_div, Int.toNat_natCast, zI_max, zI_min, or_false, false_or, or_true, true_or, not_false_eq_true, not_true_eq_false, ↓reduceIte, and_self, and_true, true_and, and_false, false_and, not_or, gt_iff_lt, ge_iff_le, mBI_rI, mBJ_rJ, mBR_rV, mBR_rR, rZ_0, rZ_1, hx.1, hx.2.2]
    · rw [if_neg c1] at er
      have e47 := hx.2.1 (atV y 5 m) (by omega)
      have b2 := hy.1.2 (atV y 5 m) (by omega)
      -- the letter
      have s60 : k_Model_readRule_28 (hdV y m) M J = k_Model_readRule_60 (hdV y m) (zI (if ltV y 5 m < 0 then -9 else ltV y 5 m)) M J := by
        rw [e_Model_readRule_28]
        unfold ltV gC
        rw [if_pos (show (5 : Nat) = 5 from rfl)]
        by_cases d0 : yB y (atV y 5 m) = 69
        · simp (disch := omega) only [Int.reduceEq, Int.reduceLT, Int.reduceLE, Int.reduceAdd, Int.reduceMul, Int.reduceSub, Int.reduceNeg, Int.reduceDiv, li_0, li_1, li_2, li_3, li_4, li_5, li_6, li_7, li_8, li_9, li_10, li_16, li_20, li_22, li_32, li_36, li_39, li_40, li_42, li_48, li_60, li_67, li_69, li_70, li_71, li_76, li_77, li_80, li_83, li_86, li_90, li_100, li_120, li_200, li_209, li_234, li_240, li_255, li_300, li_309, li_310, ll_0, ll_1, ll_3, ll_5, ll_7, ll_8, ll_9, ll_20, ll_39, ll_40, ll_60, ll_100, ll_120, ll_200, ll_209, ll_300, ll_309, ll_600, ll_1000000000, zI_neg, zI_add, zI_sub, zI_mul, zL_add, zL_sub, zL_mul, zL_neg, zI_suc, zN_I, zI_ofNat, zI_le_t, zI_le_f, zI_lt_t, zI_lt_f, zI_eq_t, zI_eq_f, zL_le_t, zL_le_f, zL_lt_t, zL_lt_f, zL_eq_t, zL_eq_f, zI_cl, zI_L, mI_t, Int.reduceToNat, nt_le_f, nt_le_t, lc_le, lc_lt, lc_gt, lc_eq, zI_div, Int.toNat_natCast, zI_max, zI_min, or_false, false_or, or_true, true_or, not_false_eq_true, not_true_eq_false, ↓reduceIte, and_self, and_true, true_and, and_false, false_and, not_or, gt_iff_lt, ge_iff_le, mBI_rI, mBJ_rJ, mBR_rV, mBR_rR, rZ_0, rZ_1, hx.1, hx.2.2, e47, d0]
        · by_cases d1 : yB y (atV y 5 m) = 77
          · simp (disch := omega) only [Int.reduceEq, Int.reduceLT, Int.reduceLE, Int.reduceAdd, Int.reduceMul, Int.reduceSub, Int.reduceNeg, Int.reduceDiv, li_0, li_1, li_2, li_3, li_4, li_5, li_6, li_7, li_8, li_9, li_10, li_16, li_20, li_22, li_32, li_36, li_39, li_40, li_42, li_48, li_60, li_67, li_69, li_70, li_71, li_76, li_77, li_80, li_83, li_86, li_90, li_100, li_120, li_200, li_209, li_234, li_240, li_255, li_300, li_309, li_310, ll_0, ll_1, ll_3, ll_5, ll_7, ll_8, ll_9, ll_20, ll_39, ll_40, ll_60, ll_100, ll_120, ll_200, ll_209, ll_300, ll_309, ll_600, ll_1000000000, zI_neg, zI_add, zI_sub, zI_mul, zL_add, zL_sub, zL_mul, zL_neg, zI_suc, zN_I, zI_ofNat, zI_le_t, zI_le_f, zI_lt_t, zI_lt_f, zI_eq_t, zI_eq_f, zL_le_t, zL_le_f, zL_lt_t, zL_lt_f, zL_eq_t, zL_eq_f, zI_cl, zI_L, mI_t, Int.reduceToNat, nt_le_f, nt_le_t, lc_le, lc_lt, lc_gt, lc_eq, zI_div, Int.toNat_natCast, zI_max, zI_min, or_false, false_or, or_true, true_or, not_false_eq_true, not_true_eq_false, ↓reduceIte, and_self, and_true, true_and, and_false, false_and, not_or, gt_iff_lt, ge_iff_le, mBI_rI, mBJ_rJ, mBR_rV, mBR_rR, rZ_0, rZ_1, hx.1, hx.2.2, e47, d0, d1]
          · by_cases d2 : yB y (atV y 5 m) = 70
            · simp (disch := omega) only [Int.reduceEq, Int.reduceLT, Int.reduceLE, Int.reduceAdd, Int.reduceMul, Int.reduceSub, Int.reduceNeg, Int.reduceDiv, li_0, li_1, li_2, li_3, li_4, li_5, li_6, li_7, li_8, li_9, li_10, li_16, li_20, li_22, li_32, li_36, li_39, li_40, li_42, li_48, li_60, li_67, li_69, li_70, li_71, li_76, li_77, li_80, li_83, li_86, li_90, li_100, li_120, li_200, li_209, li_234, li_240, li_255, li_300, li_309, li_310, ll_0, ll_1, ll_3, ll_5, ll_7, ll_8, ll_9, ll_20, ll_39, ll_40, ll_60, ll_100, ll_120, ll_200, ll_209, ll_300, ll_309, ll_600, ll_1000000000, zI_neg, zI_add, zI_sub, zI_mul, zL_add, zL_sub, zL_mul, zL_neg, zI_suc, zN_I, zI_ofNat, zI_le_t, zI_le_f, zI_lt_t, zI_lt_f, zI_eq_t, zI_eq_f, zL_le_t, zL_le_f, zL_lt_t, zL_lt_f, zL_eq_t, zL_eq_f, zI_cl, zI_L, mI_t, Int.reduceToNat, nt_le_f, nt_le_t, lc_le, lc_lt, lc_gt, lc_eq, zI_div, Int.toNat_natCast, zI_max, zI_min, or_false, false_or, or_true, true_or, not_false_eq_true, not_true_eq_false, ↓reduceIte, and_self, and_true, true_and, and_false, false_and, not_or, gt_iff_lt, ge_iff_le, mBI_rI, mBJ_rJ, mBR_rV, mBR_rR, rZ_0, rZ_1, hx.1, hx.2.2, e47, d0, d1, d2]
            · by_cases d3 : yB y (atV y 5 m) = 67
              · simp (disch := omega) only [Int.reduceEq, Int.reduceLT, Int.reduceLE, Int.reduceAdd, Int.reduceMul, Int.reduceSub, Int.reduceNeg, Int.reduceDiv, li_0, li_1, li_2, li_3, li_4, li_5, li_6, li_7, li_8, li_9, li_10, li_16, li_20, li_22, li_32, li_36, li_39, li_40, li_42, li_48, li_60, li_67, li_69, li_70, li_71, li_76, li_77, li_80, li_83, li_86, li_90, li_100, li_120, li_200, li_209, li_234, li_240, li_255, li_300, li_309, li_310, ll_0, ll_1, ll_3, ll_5, ll_7, ll_8, ll_9, ll_20, ll_39, ll_40, ll_60, ll_100, ll_120, ll_200, ll_209, ll_300, ll_309, ll_600, ll_1000000000, zI_neg, zI_add, zI_sub, zI_mul, zL_add, zL_sub, zL_mul, zL_neg, zI_suc, zN_I, zI_ofNat, zI_le_t, zI_le_f, zI_lt_t, zI_lt_f, zI_eq_t, zI_eq_f, zL_le_t, zL_le_f, zL_lt_t, zL_lt_f, zL_eq_t, zL_eq_f, zI_cl, zI_L, mI_t, Int.reduceToNat, nt_le_f, nt_le_t, lc_le, lc_lt, lc_gt, lc_eq, zI_div, Int.toNat_natCast, zI_max, zI_min, or_false, false_or, or_true, true_or, not_false_eq_true, not_true_eq_false, ↓reduceIte, and_self, and_true, true_and, and_false, false_and, not_or, gt_iff_lt, ge_iff_le, mBI_rI, mBJ_rJ, mBR_rV, mBR_rR, rZ_0, rZ_1, hx.1, hx.2.2, e47, d0, d1, d2, d3]
              · simp (disch := omega) only [Int.reduceEq, Int.reduceLT, Int.reduceLE, Int.reduceAdd, Int.reduceMul, Int.reduceSub, Int.reduceNeg, Int.reduceDiv, li_0, li_1, li_2, li_3, li_4, li_5, li_6, li_7, li_8, li_9, li_10, li_16, li_20, li_22, li_32, li_36, li_39, li_40, li_42, li_48, li_60, li_67, li_69, li_70, li_71, li_76, li_77, li_80, li_83, li_86, li_90, li_100, li_120, li_200, li_209, li_234, li_240, li_255, li_300, li_309, li_310, ll_0, ll_1, ll_3, ll_5, ll_7, ll_8, ll_9, ll_20, ll_39, ll_40, ll_60, ll_100, ll_120, ll_200, ll_209, ll_300, ll_309, ll_600, ll_1000000000, zI_neg, zI_add, zI_sub, zI_mul, zL_add, zL_sub, zL_mul, zL_neg, zI_suc, zN_I, zI_ofNat, zI_le_t, zI_le_f, zI_lt_t, zI_lt_f, zI_eq_t, zI_eq_f, zL_le_t, zL_le_f, zL_lt_t, zL_lt_f, zL_eq_t, zL_eq_f, zI_cl, zI_L, mI_t, Int.reduceToNat, nt_le_f, nt_le_t, lc_le, lc_lt, lc_gt, lc_eq, zI_div, Int.toNat_natCast, zI_max, zI_min, or_false, false_or, or_true, true_or, not_false_eq_true, not_true_eq_false, ↓reduceIte, and_self, and_true, true_and, and_false, false_and, not_or, gt_iff_lt, ge_iff_le, mBI_rI, mBJ_rJ, mBR_rV, mBR_rR, rZ_0, rZ_1, hx.1, hx.2.2, e47, d0, d1, d2, d3]
      rw [s60]
      obtain ⟨h, hh1, hh2, hh3⟩ := hd_b (y := y) m (fun j hj => (hd j hj).1)
      by_cases c4 : ltV y 5 m < 0
      · rw [if_pos (Or.inr (Or.inl c4))] at er
        rw [er, if_pos c4]
        refine ⟨M, ?_, ⟨fun _ _ _ => rfl, fun _ _ _ => rfl⟩, h6, h49⟩
        rw [e_Model_readRule_60]
        simp (disch := omega) only [Int.reduceEq, Int.reduceLT, Int.reduceLE, Int.reduceAdd, Int.reduceMul, Int.reduceSub, Int.reduceNeg, Int.reduceDiv, li_0, li_1, li_2, li_3, li_4, li_5, li_6, li_7, li_8, li_9, li_10, li_16, li_20, li_22, li_32, li_36, li_39, li_40, li_42, li_48, li_60, li_67, li_69, li_70, li_71, li_76, li_77, li_80, li_83, li_86, li_90, li_100, li_120, li_200, li_209, li_234, li_240, li_255, li_300, li_309, li_310, ll_0, ll_1, ll_3, ll_5, ll_7, ll_8, ll_9, ll_20, ll_39, ll_40, ll_60, ll_100, ll_120, ll_200, ll_209, ll_300, ll_309, ll_600, ll_1000000000, zI_neg, zI_add, zI_sub, zI_mul, zL_add, zL_sub, zL_mul, zL_neg, zI_suc, zN_I, zI_ofNat, zI_le_t, zI_le_f, zI_lt_t, zI_lt_f, zI_eq_t, zI_eq_f, zL_le_t, zL_le_f, zL_lt_t, zL_lt_f, zL_eq_t, zL_eq_f, zI_cl, zI_L, mI_t, Int.reduceToNat, nt_le_f, nt_le_t, lc_le, lc_lt, lc_gt, lc_eq, zI_div, Int.toNat_natCast, zI_max, zI_min, or_false, false_or, or_true, true_or, not_false_eq_true, not_true_eq_false, ↓reduceIte, and_self, and_true, true_and, and_false, false_and, not_or, gt_iff_lt, ge_iff_le, mBI_rI, mBJ_rJ, mBR_rV, mBR_rR, rZ_0, rZ_1, e_Model_readRule_71, hx.2.2]
      · obtain ⟨l, hl⟩ : ∃ l : Nat, ltV y 5 m = (l : Int) := ⟨(ltV y 5 m).toNat, by omega⟩
        have hl2 : (ltV y 5 m).toNat = l := by omega
        have l4 : l < 4 := by omega
        have hbit := hh3 l l4
        rw [if_neg c4]
        by_cases c5 : dpV y 5 m m = true
        · rw [if_pos (Or.inr (Or.inr ⟨rfl, c5⟩))] at er
          rw [er]
          refine ⟨M, ?_, ⟨fun _ _ _ => rfl, fun _ _ _ => rfl⟩, h6, h49⟩
          rw [any_dp, hl] at c5
          rw [c5] at hbit
          have c2 : ((zI (h : Int) >>> (zI (l : Int) &&& 31)) &&& zI 1) = zI 1 := of_decide_eq_true hbit
          rw [e_Model_readRule_60, hl, hh2]
          simp (disch := omega) only [Int.reduceEq, Int.reduceLT, Int.reduceLE, Int.reduceAdd, Int.reduceMul, Int.reduceSub, Int.reduceNeg, Int.reduceDiv, li_0, li_1, li_2, li_3, li_4, li_5, li_6, li_7, li_8, li_9, li_10, li_16, li_20, li_22, li_32, li_36, li_39, li_40, li_42, li_48, li_60, li_67, li_69, li_70, li_71, li_76, li_77, li_80, li_83, li_86, li_90, li_100, li_120, li_200, li_209, li_234, li_240, li_255, li_300, li_309, li_310, ll_0, ll_1, ll_3, ll_5, ll_7, ll_8, ll_9, ll_20, ll_39, ll_40, ll_60, ll_100, ll_120, ll_200, ll_209, ll_300, ll_309, ll_600, ll_1000000000, zI_neg, zI_add, zI_sub, zI_mul, zL_add, zL_sub, zL_mul, zL_neg, zI_suc, zN_I, zI_ofNat, zI_le_t, zI_le_f, zI_lt_t, zI_lt_f, zI_eq_t, zI_eq_f, zL_le_t, zL_le_f, zL_lt_t, zL_lt_f, zL_eq_t, zL_eq_f, zI_cl, zI_L, mI_t, Int.reduceToNat, nt_le_f, nt_le_t, lc_le, lc_lt, lc_gt, lc_eq, zI_div, Int.toNat_natCast, zI_max, zI_min, or_false, false_or, or_true, true_or, not_false_eq_true, not_true_eq_false, ↓reduceIte, and_self, and_true, true_and, and_false, false_and, not_or, gt_iff_lt, ge_iff_le, mBI_rI, mBJ_rJ, mBR_rV, mBR_rR, rZ_0, rZ_1, c2, e_Model_readRule_71, hx.2.2]
        · -- fewer than four
          have anf : anyV y 5 (ltV y 5 m) m = false := by
            rw [← any_dp]
            exact Bool.eq_false_iff.mpr c5
          have m4 : ¬ m = 4 := by
            intro q
            subst q
            have n := any_f anf
            have d1 := hd 0 (by omega)
            have d2 := hd 1 (by omega)
            have d3 := hd 2 (by omega)
            have d4 := hd 3 (by omega)
            have n1 := any_f d2.2 0 (by omega)
            have n2 := any_f d3.2 0 (by omega)
            have n3 := any_f d3.2 1 (by omega)
            have n4 := any_f d4.2 0 (by omega)
            have n5 := any_f d4.2 1 (by omega)
            have n6 := any_f d4.2 2 (by omega)
            have m0 := n 0 (by omega)
            have m1 := n 1 (by omega)
            have m2 := n 2 (by omega)
            have m3 := n 3 (by omega)
            have pg := pigeon (ltV y 5 0).toNat (ltV y 5 1).toNat (ltV y 5 2).toNat (ltV y 5 3).toNat (ltV y 5 4).toNat (by omega) (by omega) (by omega) (by omega) (by omega) (by omega) (by omega) (by omega) (by omega) (by omega) (by omega)
            omega
          have x4 : gX 5 = 4 := rfl
          rw [if_neg (show ¬ (m = gX 5 ∨ ltV y 5 m < 0 ∨ ((5 : Nat) = 5 ∧ dpV y 5 m m = true)) from fun q => q.elim (fun q => m4 q) (fun q => q.elim c4 (fun q => c5 q.2)))] at er
          have c5' := anf
          rw [hl] at c5'
          rw [c5'] at hbit
          have c2 : ¬ ((zI (h : Int) >>> (zI (l : Int) &&& 31)) &&& zI 1) = zI 1 := fun q => by
            have := decide_eq_true q
            unfold bB at hbit
            rw [this] at hbit
            cases hbit
          have h1 : mxH (yB y) (yL y) (atV y 5 m + 1) (mUp M 46 3 (zI ((atV y 5 m + 1 : Nat) : Int))) := hx.fr (pF.up _ _) (up_at _ _ _ _)
          -- the number
          have key : ∃ N, k_Model_readRule_60 (hdV y m) (zI (l : Int)) M J = k_Model_readRule_104 (hdV y m) (zI (l : Int)) (zI (if fmV y 5 m = -9 then numV y 5 m else -9)) N J ∧ pF M N ∧ N 46 3 = zI (if fmV y 5 m = -9 then (atV y 5 (m + 1) : Int) else fmV y 5 m) := by
            have ea : atV y 5 (m + 1) = atV y 5 m + 1 + gD 5 l := by
              show atV y 5 m + 1 + gD 5 (ltV y 5 m).toNat = _
              rw [hl2]
            have ef : fmV y 5 m = flV (gD 5 l) (gL 5 l) (gM 5 l) (yB y) (yL y) (atV y 5 m + 1) := by unfold fmV; rw [hl2]
            have en : numV y 5 m = nuV (gD 5 l) (yB y) (atV y 5 m + 1) := by unfold numV; rw [hl2]
            rw [ef, en, ea, hh2]
            rcases (show l = 0 ∨ l = 1 ∨ l = 2 ∨ l = 3 by omega) with rfl | rfl | rfl | rfl
            · obtain ⟨N, e, f, p⟩ := m_two h1 hL hy.1.2 (by omega) (ls := 1) (ms := 20) (by omega) (Or.inl rfl) J
              refine ⟨N, ?_, (pF.up _ _).tr f, p⟩
              rw [e_Model_readRule_60]
              have c2 : ¬ ((zI (h : Int) >>> (zI 0 &&& 31)) &&& zI 1) = zI 1 := c2
              simp (disch := omega) only [Int.reduceEq, Int.reduceLT, Int.reduceLE, Int.reduceAdd, Int.reduceMul, Int.reduceSub, Int.reduceNeg, Int.reduceDiv, li_0, li_1, li_2, li_3, li_4, li_5, li_6, li_7, li_8, li_9, li_10, li_16, li_20, li_22, li_32, li_36, li_39, li_40, li_42, li_48, li_60, li_67, li_69, li_70, li_71, li_76, li_77, li_80, li_83, li_86, li_90, li_100, li_120, li_200, li_209, li_234, li_240, li_255, li_300, li_309, li_310, ll_0, ll_1, ll_3, ll_5, ll_7, ll_8, ll_9, ll_20, ll_39, ll_40, ll_60, ll_100, ll_120, ll_200, ll_209, ll_300, ll_309, ll_600, ll_1000000000, zI_neg, zI_add, zI_sub, zI_mul, zL_add, zL_sub, zL_mul, zL_neg, zI_suc, zN_I, zI_ofNat, zI_le_t, zI_le_f, zI_lt_t, zI_lt_f, zI_eq_t, zI_eq_f, zL_le_t, zL_le_f, zL_lt_t, zL_lt_f, zL_eq_t, zL_eq_f, zI_cl, zI_L, mI_t, Int.reduceToNat, nt_le_f, nt_le_t, lc_le, lc_lt, lc_gt, lc_eq, zI_div, Int.toNat_natCast, zI_max, zI_min, or_false, false_or, or_true, true_or, not_false_eq_true, not_true_eq_false, ↓reduceIte, and_self, and_true, true_and, and_false, false_and, not_or, gt_iff_lt, ge_iff_le, mBI_rI, mBJ_rJ, mBR_rV, mBR_rR, rZ_0, rZ_1, Int.ofNat_zero, c2, hx.2.2, e]
              rfl
            · obtain ⟨N, e, f, p⟩ := m_two h1 hL hy.1.2 (by omega) (ls := 0) (ms := 60) (by omega) (Or.inr rfl) J
              refine ⟨N, ?_, (pF.up _ _).tr f, p⟩
              rw [e_Model_readRule_60]
              simp (disch := omega) only [Int.reduceEq, Int.reduceLT, Int.reduceLE, Int.reduceAdd, Int.reduceMul, Int.reduceSub, Int.reduceNeg, Int.reduceDiv, li_0, li_1, li_2, li_3, li_4, li_5, li_6, li_7, li_8, li_9, li_10, li_16, li_20, li_22, li_32, li_36, li_39, li_40, li_42, li_48, li_60, li_67, li_69, li_70, li_71, li_76, li_77, li_80, li_83, li_86, li_90, li_100, li_120, li_200, li_209, li_234, li_240, li_255, li_300, li_309, li_310, ll_0, ll_1, ll_3, ll_5, ll_7, ll_8, ll_9, ll_20, ll_39, ll_40, ll_60, ll_100, ll_120, ll_200, ll_209, ll_300, ll_309, ll_600, ll_1000000000, zI_neg, zI_add, zI_sub, zI_mul, zL_add, zL_sub, zL_mul, zL_neg, zI_suc, zN_I, zI_ofNat, zI_le_t, zI_le_f, zI_lt_t, zI_lt_f, zI_eq_t, zI_eq_f, zL_le_t, zL_le_f, zL_lt_t, zL_lt_f, zL_eq_t, zL_eq_f, zI_cl, zI_L, mI_t, Int.reduceToNat, nt_le_f, nt_le_t, lc_le, lc_lt, lc_gt, lc_eq, zI_div, Int.toNat_natCast, zI_max, zI_min, or_false, false_or, or_true, true_or, not_false_eq_true, not_true_eq_false, ↓reduceIte, and_self, and_true, true_and, and_false, false_and, not_or, gt_iff_lt, ge_iff_le, mBI_rI, mBJ_rJ, mBR_rV, mBR_rR, rZ_0, rZ_1, c2, hx.2.2, e]
              rfl
            · obtain ⟨N, e, f, p⟩ := m_figure h1 hL hy.1.2 (by omega) (ls := 0) (ms := 9) (by omega) (by omega) J
              refine ⟨N, ?_, (pF.up _ _).tr f, p⟩
              rw [e_Model_readRule_60]
              simp (disch := omega) only [Int.reduceEq, Int.reduceLT, Int.reduceLE, Int.reduceAdd, Int.reduceMul, Int.reduceSub, Int.reduceNeg, Int.reduceDiv, li_0, li_1, li_2, li_3, li_4, li_5, li_6, li_7, li_8, li_9, li_10, li_16, li_20, li_22, li_32, li_36, li_39, li_40, li_42, li_48, li_60, li_67, li_69, li_70, li_71, li_76, li_77, li_80, li_83, li_86, li_90, li_100, li_120, li_200, li_209, li_234, li_240, li_255, li_300, li_309, li_310, ll_0, ll_1, ll_3, ll_5, ll_7, ll_8, ll_9, ll_20, ll_39, ll_40, ll_60, ll_100, ll_120, ll_200, ll_209, ll_300, ll_309, ll_600, ll_1000000000, zI_neg, zI_add, zI_sub, zI_mul, zL_add, zL_sub, zL_mul, zL_neg, zI_suc, zN_I, zI_ofNat, zI_le_t, zI_le_f, zI_lt_t, zI_lt_f, zI_eq_t, zI_eq_f, zL_le_t, zL_le_f, zL_lt_t, zL_lt_f, zL_eq_t, zL_eq_f, zI_cl, zI_L, mI_t, Int.reduceToNat, nt_le_f, nt_le_t, lc_le, lc_lt, lc_gt, lc_eq, zI_div, Int.toNat_natCast, zI_max, zI_min, or_false, false_or, or_true, true_or, not_false_eq_true, not_true_eq_false, ↓reduceIte, and_self, and_true, true_and, and_false, false_and, not_or, gt_iff_lt, ge_iff_le, mBI_rI, mBJ_rJ, mBR_rV, mBR_rR, rZ_0, rZ_1, c2, hx.2.2, e_Model_readRule_102, e]
              rfl
            · obtain ⟨N, e, f, p⟩ := m_figure h1 hL hy.1.2 (by omega) (ls := 1) (ms := 9) (by omega) (by omega) J
              refine ⟨N, ?_, (pF.up _ _).tr f, p⟩
              rw [e_Model_readRule_60]
              simp (disch := omega) only [Int.reduceEq, Int.reduceLT, Int.reduceLE, Int.reduceAdd, Int.reduceMul, Int.reduceSub, Int.reduceNeg, Int.reduceDiv, li_0, li_1, li_2, li_3, li_4, li_5, li_6, li_7, li_8, li_9, li_10, li_16, li_20, li_22, li_32, li_36, li_39, li_40, li_42, li_48, li_60, li_67, li_69, li_70, li_71, li_76, li_77, li_80, li_83, li_86, li_90, li_100, li_120, li_200, li_209, li_234, li_240, li_255, li_300, li_309, li_310, ll_0, ll_1, ll_3, ll_5, ll_7, ll_8, ll_9, ll_20, ll_39, ll_40, ll_60, ll_100, ll_120, ll_200, ll_209, ll_300, ll_309, ll_600, ll_1000000000, zI_neg, zI_add, zI_sub, zI_mul, zL_add, zL_sub, zL_mul, zL_neg, zI_suc, zN_I, zI_ofNat, zI_le_t, zI_le_f, zI_lt_t, zI_lt_f, zI_eq_t, zI_eq_f, zL_le_t, zL_le_f, zL_lt_t, zL_lt_f, zL_eq_t, zL_eq_f, zI_cl, zI_L, mI_t, Int.reduceToNat, nt_le_f, nt_le_t, lc_le, lc_lt, lc_gt, lc_eq, zI_div, Int.toNat_natCast, zI_max, zI_min, or_false, false_or, or_true, true_or, not_false_eq_true, not_true_eq_false, ↓reduceIte, and_self, and_true, true_and, and_false, false_and, not_or, gt_iff_lt, ge_iff_le, mBI_rI, mBJ_rJ, mBR_rV, mBR_rR, rZ_0, rZ_1, c2, hx.2.2, e_Model_readRule_102, e]
              rfl
          obtain ⟨N, e, fN, pN⟩ := key
          rw [hl, e, e_Model_readRule_104]
          by_cases c6 : fmV y 5 m = -9
          · rw [if_neg (fun q => q c6)] at er
            rw [if_pos c6] at pN ⊢
            have nb : 0 ≤ numV y 5 m ∧ numV y 5 m ≤ 100000 := by
              have dd := gD_bd hg (ln_bd y 5 m)
              unfold fmV at c6
              unfold numV nuV
              unfold flV at c6
              repeat' split at c6
              all_goals repeat' split
              all_goals omega
            have h46 : N 46 6 = zI (m : Int) := by rw [fN.2 6 (by omega)]; exact h6
            have al : atV y 5 (m + 1) ≤ yL y := by
              have ff := flV_le (a := atV y 5 m + 1) c6 (gD_bd hg (ln_bd y 5 m)).1 (by omega)
              show atV y 5 m + 1 + gD 5 (ltV y 5 m).toNat ≤ yL y
              omega
            obtain ⟨N2, e2, f2, p6, p49⟩ := m_rule28 hy J f (m + 1) (mUp (mUp N 49 l (zI (numV y 5 m))) 46 6 (zI ((m + 1 : Nat) : Int))) (by omega) (by omega) ⟨by rw [up_ne (by omega), up_nk (by omega), fN.2 2 (by omega)]; exact hx.1, by rw [up_nk (by omega), up_nk (by omega), fN.1 47 (by omega)]; exact hx.2.1, by rw [up_ne (by omega), up_nk (by omega)]; exact pN⟩ al (up_at _ _ _ _) (by
              intro j hj
              rw [up_nk (by omega)]
              show _ = zI (upO (rlV y m) (ltV y 5 m).toNat (numV y 5 m) j)
              unfold upO
              rw [hl2]
              by_cases q : j = l
              · rw [if_pos q, q, up_at]
              · rw [if_neg q, up_ne q, fN.1 49 (by omega)]; exact h49 j hj) (by
              intro j hj
              by_cases q : j = m
              · subst q; exact ⟨⟨by omega, by omega⟩, anf⟩
              · exact hd j (by omega))
            rw [er]
            refine ⟨N2, ?_, ⟨fun p p1 p2 => ?_, fun i i1 i2 => ?_⟩, p6, p49⟩
            · have es : hdV y (m + 1) = hdV y m ||| (zI 1 <<< (zI (l : Int) &&& 31)) := by
                show hdV y m ||| (zI 1 <<< (zI (ltV y 5 m) &&& 31)) = _
                rw [hl]
              rw [es] at e2
              simp (disch := omega) only [Int.reduceEq, Int.reduceLT, Int.reduceLE, Int.reduceAdd, Int.reduceMul, Int.reduceSub, Int.reduceNeg, Int.reduceDiv, li_0, li_1, li_2, li_3, li_4, li_5, li_6, li_7, li_8, li_9, li_10, li_16, li_20, li_22, li_32, li_36, li_39, li_40, li_42, li_48, li_60, li_67, li_69, li_70, li_71, li_76, li_77, li_80, li_83, li_86, li_90, li_100, li_120, li_200, li_209, li_234, li_240, li_255, li_300, li_309, li_310, ll_0, ll_1, ll_3, ll_5, ll_7, ll_8, ll_9, ll_20, ll_39, ll_40, ll_60, ll_100, ll_120, ll_200, ll_209, ll_300, ll_309, ll_600, ll_1000000000, zI_neg, zI_add, zI_sub, zI_mul, zL_add, zL_sub, zL_mul, zL_neg, zI_suc, zN_I, zI_ofNat, zI_le_t, zI_le_f, zI_lt_t, zI_lt_f, zI_eq_t, zI_eq_f, zL_le_t, zL_le_f, zL_lt_t, zL_lt_f, zL_eq_t, zL_eq_f, zI_cl, zI_L, mI_t, Int.reduceToNat, nt_le_f, nt_le_t, lc_le, lc_lt, lc_gt, lc_eq, zI_div, Int.toNat_natCast, zI_max, zI_min, or_false, false_or, or_true, true_or, not_false_eq_true, not_true_eq_false, ↓reduceIte, and_self, and_true, true_and, and_false, false_and, not_or, gt_iff_lt, ge_iff_le, mBI_rI, mBJ_rJ, mBR_rV, mBR_rR, rZ_0, rZ_1, h46, e2]
            · rw [f2.1 p p1 p2, up_nk p1, up_nk p2, fN.1 p p1]
            · rw [f2.2 i i1 i2, up_ne i2, up_nk (by omega), fN.2 i i1]
          · rw [if_pos c6] at er
            rw [if_neg c6] at pN ⊢
            rw [er]
            refine ⟨N, ?_, ⟨fun p p1 p2 => fN.1 p p1, fun i i1 i2 => fN.2 i i1⟩, by rw [fN.2 6 (by omega)]; exact h6, fun j hj => by rw [fN.1 49 (by omega)]; exact h49 j hj⟩
            simp (disch := omega) only [Int.reduceEq, Int.reduceLT, Int.reduceLE, Int.reduceAdd, Int.reduceMul, Int.reduceSub, Int.reduceNeg, Int.reduceDiv, li_0, li_1, li_2, li_3, li_4, li_5, li_6, li_7, li_8, li_9, li_10, li_16, li_20, li_22, li_32, li_36, li_39, li_40, li_42, li_48, li_60, li_67, li_69, li_70, li_71, li_76, li_77, li_80, li_83, li_86, li_90, li_100, li_120, li_200, li_209, li_234, li_240, li_255, li_300, li_309, li_310, ll_0, ll_1, ll_3, ll_5, ll_7, ll_8, ll_9, ll_20, ll_39, ll_40, ll_60, ll_100, ll_120, ll_200, ll_209, ll_300, ll_309, ll_600, ll_1000000000, zI_neg, zI_add, zI_sub, zI_mul, zL_add, zL_sub, zL_mul, zL_neg, zI_suc, zN_I, zI_ofNat, zI_le_t, zI_le_f, zI_lt_t, zI_lt_f, zI_eq_t, zI_eq_f, zL_le_t, zL_le_f, zL_lt_t, zL_lt_f, zL_eq_t, zL_eq_f, zI_cl, zI_L, mI_t, Int.reduceToNat, nt_le_f, nt_le_t, lc_le, lc_lt, lc_gt, lc_eq, zI_div, Int.toNat_natCast, zI_max, zI_min, or_false, false_or, or_true, true_or, not_false_eq_true, not_true_eq_false, ↓reduceIte, and_self, and_true, true_and, and_false, false_and, not_or, gt_iff_lt, ge_iff_le, mBI_rI, mBJ_rJ, mBR_rV, mBR_rR, rZ_0, rZ_1, pN]
theorem m_readRule {y : sS} (hy : yOk y) {M : mMI} (h : MI y M) (J : mMJ) : ∃ N, k_Model_readRule M J = rI (zI (anV y 5)) N J ∧ rF M N ∧ N 46 6 = zI (foV y 5 : Int) ∧ (∀ j, j < 4 → N 49 j = zI (rlV y (foV y 5) j)) := by
  obtain ⟨N, e, f, p6, p49⟩ := m_rule28 hy J 5 0 (mUp (mUp (mUp (mUp (mUp (mUp M 46 3 (zI 0)) 46 6 (zI 0)) 49 0 (zI 20)) 49 1 (zI 16)) 49 2 (zI 0)) 49 3 (zI 1)) (by omega) (by omega) ⟨by rw [up_nk (by omega), up_nk (by omega), up_nk (by omega), up_nk (by omega), up_ne (by omega), up_ne (by omega)]; exact h.1.1, by rw [up_nk (by omega), up_nk (by omega), up_nk (by omega), up_nk (by omega), up_nk (by omega), up_nk (by omega)]; exact h.1.2, by rw [up_nk (by omega), up_nk (by omega), up_nk (by omega), up_nk (by omega), up_ne (by omega), up_at]; rfl⟩ (Nat.zero_le _) (by rw [up_nk (by omega), up_nk (by omega), up_nk (by omega), up_nk (by omega), up_at]; rfl) (by
    intro j hj
    rcases (show j = 0 ∨ j = 1 ∨ j = 2 ∨ j = 3 by omega) with rfl | rfl | rfl | rfl
    · rw [up_ne (by omega), up_ne (by omega), up_ne (by omega), up_at]; rfl
    · rw [up_ne (by omega), up_ne (by omega), up_at]; rfl
    · rw [up_ne (by omega), up_at]; rfl
    · rw [up_at]; rfl) (fun j hj => absurd hj (Nat.not_lt_zero j))
  refine ⟨N, ?_, ⟨fun p p1 p2 => ?_, fun i i1 i2 => ?_⟩, p6, p49⟩
  · rw [e_Model_readRule]
    simp (disch := omega) only [Int.reduceEq, Int.reduceLT, Int.reduceLE, Int.reduceAdd, Int.reduceMul, Int.reduceSub, Int.reduceNeg, Int.reduceDiv, li_0, li_1, li_2, li_3, li_4, li_5, li_6, li_7, li_8, li_9, li_10, li_16, li_20, li_22, li_32, li_36, li_39, li_40, li_42, li_48, li_60, li_67, li_69, li_70, li_71, li_76, li_77, li_80, li_83, li_86, li_90, li_100, li_120, li_200, li_209, li_234, li_240, li_255, li_300, li_309, li_310, ll_0, ll_1, ll_3, ll_5, ll_7, ll_8, ll_9, ll_20, ll_39, ll_40, ll_60, ll_100, ll_120, ll_200, ll_209, ll_300, ll_309, ll_600, ll_1000000000, zI_neg, zI_add, zI_sub, zI_mul, zL_add, zL_sub, zL_mul, zL_neg, zI_suc, zN_I, zI_ofNat, zI_le_t, zI_le_f, zI_lt_t, zI_lt_f, zI_eq_t, zI_eq_f, zL_le_t, zL_le_f, zL_lt_t, zL_lt_f, zL_eq_t, zL_eq_f, zI_cl, zI_L, mI_t, Int.reduceToNat, nt_le_f, nt_le_t, lc_le, lc_lt, lc_gt, lc_eq, zI_div, Int.toNat_natCast, zI_max, zI_min, or_false, false_or, or_true, true_or, not_false_eq_true, not_true_eq_false, ↓reduceIte, and_self, and_true, true_and, and_false, false_and, not_or, gt_iff_lt, ge_iff_le, mBI_rI, mBJ_rJ, mBR_rV, mBR_rR, rZ_0, rZ_1]
    exact e
  · rw [f.1 p p1 p2, up_nk p2, up_nk p2, up_nk p2, up_nk p2, up_nk p1, up_nk p1]
  · rw [f.2 i i1 i2, up_nk (by omega), up_nk (by omega), up_nk (by omega), up_nk (by omega), up_ne i2, up_ne i1]
