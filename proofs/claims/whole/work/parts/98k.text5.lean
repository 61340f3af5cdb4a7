/-! texts: the reference reads groups -/
def leV (y : sS) (j : Nat) : Int := if 3 ≤ ltV y 6 j ∧ ltV y 6 j ≤ 5 then numV y 6 j / 10 else numV y 6 j
def agG (y : sS) (j : Nat) : Int := if 3 ≤ ltV y 6 j ∧ ltV y 6 j ≤ 5 then numV y 6 j % 10 else 0
/-- what reading a group may change -/
def qF (M N : mMI) : Prop := (∀ p, p ≠ 46 → p ≠ 53 → p ≠ 54 → p ≠ 55 → N p = M p) ∧ (∀ i, i ≠ 3 → i ≠ 11 → N 46 i = M 46 i)
theorem fl_nu {dg : Nat} {ls ms : Int} {B : Nat → Int} {L a : Nat} (h : flV dg ls ms B L a = -9) (hd : dg ≤ 2) : (dg = 0 ∧ nuV dg B a = 0) ∨ (1 ≤ dg ∧ ls ≤ nuV dg B a ∧ nuV dg B a ≤ ms) := by
  rcases (show dg = 0 ∨ dg = 1 ∨ dg = 2 by omega) with rfl | rfl | rfl
  · exact Or.inl ⟨rfl, rfl⟩
  · right
    have en : nuV 1 B a = B a - 48 := rfl
    rw [en]
    unfold flV at h
    repeat' split at h
    all_goals omega
  · right
    have en : nuV 2 B a = 10 * (B a - 48) + (B (a + 1) - 48) := rfl
    rw [en]
    unfold flV at h
    repeat' split at h
    all_goals omega
theorem m_group6 {y : sS} (hy : yOk y) (J : mMJ) : ∀ (f m : Nat) (M : mMI), m + f = 7 → m ≤ 6 → mxH (yB y) (yL y) (atV y 6 m) M → atV y 6 m ≤ yL y → M 46 11 = zI (m : Int) → (∀ j, j < m → M 53 j = zI (ltV y 6 j) ∧ M 54 j = zI (leV y j) ∧ M 55 j = zI (agG y j)) → ∃ N, k_Model_readGroup_6 M J = rI (zI (rsT y 6 f m).1) N J ∧ qF M N ∧ N 46 11 = zI ((rsT y 6 f m).2 : Int) ∧ (∀ j, j < (rsT y 6 f m).2 → N 53 j = zI (ltV y 6 j) ∧ N 54 j = zI (leV y j) ∧ N 55 j = zI (agG y j))
  | 0, m, M, hf, hm, _, _, _, _ => absurd hf (by omega)
  | f + 1, m, M, hf, hm, hx, hat, h11, h5 => by
    have hL := hy.1.1
    have hg : (6 : Nat) = 5 ∨ (6 : Nat) = 6 := Or.inr rfl
    have bm := lt_bd y 6 m
    have k7 : (gK 6 : Int) = 7 := rfl
    rw [k7] at bm
    have x6 : gX 6 = 6 := rfl
    have er : rsT y 6 (f + 1) m = if yL y ≤ atV y 6 m then ((if m < gW 6 then (yL y : Int) else -9), m)
      else if m = gX 6 ∨ ltV y 6 m < 0 ∨ ((6 : Nat) = 5 ∧ dpV y 6 m m = true) then ((atV y 6 m : Int), m)
      else if ¬ fmV y 6 m = -9 then (fmV y 6 m, m) else rsT y 6 f (m + 1) := rfl
    by_cases c1 : yL y ≤ atV y 6 m
    · have w0 : gW 6 = 2 := rfl
      have eL : atV y 6 m = yL y := by omega
      rw [if_pos c1, w0] at er
      rw [er]
      refine ⟨M, ?_, ⟨fun _ _ _ _ _ => rfl, fun _ _ _ => rfl⟩, h11, h5⟩
      rw [eL] at hx
      have key : ∀ v : Int, v = (if m < 2 then (yL y : Int) else -9) → k_Model_readGroup_6 M J = rI (zI v) M J := by
        intro v hv
        rw [e_Model_readGroup_6]
        by_cases c2 : m < 2
        · rw [if_pos c2] at hv
          subst hv
          simp (disch := omega) only [Int.reduceEq, Int.reduceLT, Int.reduceLE, Int.reduceAdd, Int.reduceMul, Int.reduceSub, Int.reduceNeg, Int.reduceDiv, li_0, li_1, li_2, li_3, li_4, li_5, li_6, li_7, li_8, li_9, li_10, li_16, li_20, li_22, li_32, li_36, li_39, li_40, li_42, li_48, li_60, li_67, li_69, li_70, li_71, li_76, li_77, li_80, li_83, li_86, li_90, li_100, li_120, li_200, li_209, li_234, li_240, li_255, li_300, li_309, li_310, ll_0, ll_1, ll_3, ll_5, ll_7, ll_8, ll_9, ll_20, ll_39, ll_40, ll_60, ll_100, ll_120, ll_200, ll_209, ll_300, ll_309, ll_600, ll_1000000000, zI_neg, zI_add, zI_sub, zI_mul, zL_add, zL_sub, zL_mul, zL_neg, zI_suc, zN_I, zI_ofNat, zI_le_t, zI_le_f, zI_lt_t, zI_lt_f, zI_eq_t, zI_eq_f, zL_le_t, zL_le_f, zL_lt_t, zL_lt_f, zL_eq_t, zL_eq_f, zI_cl, zI_L, mI_t, Int.reduceToNat, nt_le_f, nt_le_t, lc_le, lc_lt, lc_gt, lc_eq, zI_div, Int.toNat_natCast, zI_max, zI_min, or_false, false_or, or_true, true_or, not_false_eq_true, not_true_eq_false, ↓reduceIte, and_self, and_true, true_and, and_false, false_and, not_or, gt_iff_lt, ge_iff_le, mBI_rI, mBJ_rJ, mBR_rV, mBR_rR, rZ_0, rZ_1, hx.1, hx.2.2, h11, e_Model_readGroup_108]
        · rw [if_neg c2] at hv
          subst hv
          simp (disch := omega) only [Int.reduceEq, Int.reduceLT, Int.reduceLE, Int.reduceAdd, Int.reduceMul, Int.reduceSub, Int.reduceNeg, Int.reduceDiv, li_0, li_1, li_2, li_3, li_4, li_5, li_6, li_7, li_8, li_9, li_10, li_16, li_20, li_22, li_32, li_36, li_39, li_40, li_42, li_48, li_60, li_67, li_69, li_70, li_71, li_76, li_77, li_80, li_83, li_86, li_90, li_100, li_120, li_200, li_209, li_234, li_240, li_255, li_300, li_309, li_310, ll_0, ll_1, ll_3, ll_5, ll_7, ll_8, ll_9, ll_20, ll_39, ll_40, ll_60, ll_100, ll_120, ll_200, ll_209, ll_300, ll_309, ll_600, ll_1000000000, zI_neg, zI_add, zI_sub, zI_mul, zL_add, zL_sub, zL_mul, zL_neg, zI_suc, zN_I, zI_ofNat, zI_le_t, zI_le_f, zI_lt_t, zI_lt_f, zI_eq_t, zI_eq_f, zL_le_t, zL_le_f, zL_lt_t, zL_lt_f, zL_eq_t, zL_eq_f, zI_cl, zI_L, mI_t, Int.reduceToNat, nt_le_f, nt_le_t, lc_le, lc_lt, lc_gt, lc_eq, zI_div, Int.toNat_natCast, zI_max, zI_min, or_false, false_or, or_true, true_or, not_false_eq_true, not_true_eq_false, ↓reduceIte, and_self, and_true, true_and, and_false, false_and, not_or, gt_iff_lt, ge_iff_le, mBI_rI, mBJ_rJ, mBR_rV, mBR_rR, rZ_0, rZ_1, hx.1, hx.2.2, h11, e_Model_readGroup_108]
      exact key _ rfl
    · rw [if_neg c1] at er
      have e47 := hx.2.1 (atV y 6 m) (by omega)
      have b2 := hy.1.2 (atV y 6 m) (by omega)
      have mk := m_kind b2 M J
      have mk : k_Model_kind (zI (yB y (atV y 6 m))) M J = rI (zI (if ltV y 6 m < 0 then -9 else ltV y 6 m)) M J := mk
      by_cases c2 : m = gX 6 ∨ ltV y 6 m < 0 ∨ ((6 : Nat) = 5 ∧ dpV y 6 m m = true)
      · rw [if_pos c2] at er
        rw [er]
        refine ⟨M, ?_, ⟨fun _ _ _ _ _ => rfl, fun _ _ _ => rfl⟩, h11, h5⟩
        rw [e_Model_readGroup_6]
        by_cases c4 : ltV y 6 m < 0
        · rw [if_pos c4] at mk
          simp (disch := omega) only [Int.reduceEq, Int.reduceLT, Int.reduceLE, Int.reduceAdd, Int.reduceMul, Int.reduceSub, Int.reduceNeg, Int.reduceDiv, li_0, li_1, li_2, li_3, li_4, li_5, li_6, li_7, li_8, li_9, li_10, li_16, li_20, li_22, li_32, li_36, li_39, li_40, li_42, li_48, li_60, li_67, li_69, li_70, li_71, li_76, li_77, li_80, li_83, li_86, li_90, li_100, li_120, li_200, li_209, li_234, li_240, li_255, li_300, li_309, li_310, ll_0, ll_1, ll_3, ll_5, ll_7, ll_8, ll_9, ll_20, ll_39, ll_40, ll_60, ll_100, ll_120, ll_200, ll_209, ll_300, ll_309, ll_600, ll_1000000000, zI_neg, zI_add, zI_sub, zI_mul, zL_add, zL_sub, zL_mul, zL_neg, zI_suc, zN_I, zI_ofNat, zI_le_t, zI_le_f, zI_lt_t, zI_lt_f, zI_eq_t, zI_eq_f, zL_le_t, zL_le_f, zL_lt_t, zL_lt_f, zL_eq_t, zL_eq_f, zI_cl, zI_L, mI_t, Int.reduceToNat, nt_le_f, nt_le_t, lc_le, lc_lt, lc_gt, lc_eq, zI_div, Int.toNat_natCast, zI_max, zI_min, or_false, false_or, or_true, true_or, not_false_eq_true, not_true_eq_false, ↓reduceIte, and_self, and_true, true_and, and_false, false_and, not_or, gt_iff_lt, ge_iff_le, mBI_rI, mBJ_rJ, mBR_rV, mBR_rR, rZ_0, rZ_1, hx.1, hx.2.2, e47, mk, e_Model_readGroup_25]
        · have c3 : m = 6 := by
            rcases c2 with q | q | q
            · exact q
            · exact absurd q c4
            · omega
          rw [if_neg c4] at mk
          simp (disch := omega) only [Int.reduceEq, Int.reduceLT, Int.reduceLE, Int.reduceAdd, Int.reduceMul, Int.reduceSub, Int.reduceNeg, Int.reduceDiv, li_0, li_1, li_2, li_3, li_4, li_5, li_6, li_7, li_8, li_9, li_10, li_16, li_20, li_22, li_32, li_36, li_39, li_40, li_42, li_48, li_60, li_67, li_69, li_70, li_71, li_76, li_77, li_80, li_83, li_86, li_90, li_100, li_120, li_200, li_209, li_234, li_240, li_255, li_300, li_309, li_310, ll_0, ll_1, ll_3, ll_5, ll_7, ll_8, ll_9, ll_20, ll_39, ll_40, ll_60, ll_100, ll_120, ll_200, ll_209, ll_300, ll_309, ll_600, ll_1000000000, zI_neg, zI_add, zI_sub, zI_mul, zL_add, zL_sub, zL_mul, zL_neg, zI_suc, zN_I, zI_ofNat, zI_le_t, zI_le_f, zI_lt_t, zI_lt_f, zI_eq_t, zI_eq_f, zL_le_t, zL_le_f, zL_lt_t, zL_lt_f, zL_eq_t, zL_eq_f, zI_cl, zI_L, mI_t, Int.reduceToNat, nt_le_f, nt_le_t, lc_le, lc_lt, lc_gt, lc_eq, zI_div, Int.toNat_natCast, zI_max, zI_min, or_false, false_or, or_true, true_or, not_false_eq_true, not_true_eq_false, ↓reduceIte, and_self, and_true, true_and, and_false, false_and, not_or, gt_iff_lt, ge_iff_le, mBI_rI, mBJ_rJ, mBR_rV, mBR_rR, rZ_0, rZ_1, hx.1, hx.2.2, e47, mk, h11, e_Model_readGroup_25]
      · rw [if_neg c2] at er
        have c3 : ¬ m = 6 := fun q => c2 (Or.inl q)
        have c4 : ¬ ltV y 6 m < 0 := fun q => c2 (Or.inr (Or.inl q))
        rw [if_neg c4] at mk
        obtain ⟨l, hl⟩ : ∃ l : Nat, ltV y 6 m = (l : Int) := ⟨(ltV y 6 m).toNat, by omega⟩
        have hl2 : (ltV y 6 m).toNat = l := by omega
        have l7 : l < 7 := by omega
        rw [hl] at mk
        have h1 : mxH (yB y) (yL y) (atV y 6 m + 1) (mUp M 46 3 (zI ((atV y 6 m + 1 : Nat) : Int))) := hx.fr (pF.up _ _) (up_at _ _ _ _)
        have ea : atV y 6 (m + 1) = atV y 6 m + 1 + gD 6 l := by
          show atV y 6 m + 1 + gD 6 (ltV y 6 m).toNat = _
          rw [hl2]
        have ef : fmV y 6 m = flV (gD 6 l) (gL 6 l) (gM 6 l) (yB y) (yL y) (atV y 6 m + 1) := by unfold fmV; rw [hl2]
        have en : numV y 6 m = nuV (gD 6 l) (yB y) (atV y 6 m + 1) := by unfold numV; rw [hl2]
        -- the numbers
        have key : ∃ N v w, k_Model_readGroup_6 M J = k_Model_readGroup_68 (zI (l : Int)) (zI v) (zI w) N J ∧ pF M N ∧ N 46 3 = zI (if fmV y 6 m = -9 then (atV y 6 (m + 1) : Int) else fmV y 6 m) ∧ (fmV y 6 m = -9 → v = leV y m ∧ w = agG y m ∧ 0 ≤ w ∧ w ≤ 9) ∧ (¬ fmV y 6 m = -9 → w = -9) := by
          have le1 : ¬ (3 ≤ l ∧ l ≤ 5) → leV y m = numV y 6 m ∧ agG y m = 0 := by
            intro q
            unfold leV agG
            rw [hl, if_neg (by omega), if_neg (by omega)]
            exact ⟨rfl, rfl⟩
          have one : ¬ (3 ≤ l ∧ l ≤ 5) → ∀ (v : Int) (N : mMI), pF M N → k_Model_readGroup_6 M J = k_Model_readGroup_50 (zI (l : Int)) (zI v) N J → (fmV y 6 m = -9 → v = numV y 6 m ∧ 0 ≤ v ∧ v ≤ 99) → (¬ fmV y 6 m = -9 → v = -9) → N 46 3 = zI (if fmV y 6 m = -9 then (atV y 6 (m + 1) : Int) else fmV y 6 m) → ∃ N v w, k_Model_readGroup_6 M J = k_Model_readGroup_68 (zI (l : Int)) (zI v) (zI w) N J ∧ pF M N ∧ N 46 3 = zI (if fmV y 6 m = -9 then (atV y 6 (m + 1) : Int) else fmV y 6 m) ∧ (fmV y 6 m = -9 → v = leV y m ∧ w = agG y m ∧ 0 ≤ w ∧ w ≤ 9) ∧ (¬ fmV y 6 m = -9 → w = -9) := by
            intro q v N fN e hv hv2 pN
            obtain ⟨q1, q2⟩ := le1 q
            by_cases c6 : fmV y 6 m = -9
            · obtain ⟨v1, v2, v3⟩ := hv c6
              refine ⟨N, v, 0, ?_, fN, pN, fun _ => ⟨by rw [v1, q1], by rw [q2], by omega, by omega⟩, fun x => absurd c6 x⟩
              have ni : ¬ (3 ≤ (l : Int) ∧ (l : Int) ≤ 5) := by omega
              rw [e, e_Model_readGroup_50]
              simp (disch := omega) only [Int.reduceEq, Int.reduceLT, Int.reduceLE, Int.reduceAdd, Int.reduceMul, Int.reduceSub, Int.reduceNeg, Int.reduceDiv, li_0, li_1, li_2, li_3, li_4, li_5, li_6, li_7, li_8, li_9, li_10, li_16, li_20, li_22, li_32, li_36, li_39, li_40, li_42, li_48, li_60, li_67, li_69, li_70, li_71, li_76, li_77, li_80, li_83, li_86, li_90, li_100, li_120, li_200, li_209, li_234, li_240, li_255, li_300, li_309, li_310, ll_0, ll_1, ll_3, ll_5, ll_7, ll_8, ll_9, ll_20, ll_39, ll_40, ll_60, ll_100, ll_120, ll_200, ll_209, ll_300, ll_309, ll_600, ll_1000000000, zI_neg, zI_add, zI_sub, zI_mul, zL_add, zL_sub, zL_mul, zL_neg, zI_suc, zN_I, zI_ofNat, zI_le_t, zI_le_f, zI_lt_t, zI_lt_f, zI_eq_t, zI_eq_f, zL_le_t, zL_le_f, zL_lt_t, zL_lt_f, zL_eq_t, zL_eq_f, zI_cl, zI_L, mI_t, Int.reduceToNat, nt_le_f, nt_le_t, lc_le, lc_lt, lc_gt, lc_eq, zI_div, Int.toNat_natCast, zI_max, zI_min, or_false, false_or, or_true, true_or, not_false_eq_true, not_true_eq_false, ↓reduceIte, and_self, and_true, true_and, and_false, false_and, not_or, gt_iff_lt, ge_iff_le, mBI_rI, mBJ_rJ, mBR_rV, mBR_rR, rZ_0, rZ_1, m_in, ni]
            · have v9 := hv2 c6
              refine ⟨N, v, -9, ?_, fN, pN, fun x => absurd x c6, fun _ => rfl⟩
              rw [e, e_Model_readGroup_50, v9]
              simp (disch := omega) only [Int.reduceEq, Int.reduceLT, Int.reduceLE, Int.reduceAdd, Int.reduceMul, Int.reduceSub, Int.reduceNeg, Int.reduceDiv, li_0, li_1, li_2, li_3, li_4, li_5, li_6, li_7, li_8, li_9, li_10, li_16, li_20, li_22, li_32, li_36, li_39, li_40, li_42, li_48, li_60, li_67, li_69, li_70, li_71, li_76, li_77, li_80, li_83, li_86, li_90, li_100, li_120, li_200, li_209, li_234, li_240, li_255, li_300, li_309, li_310, ll_0, ll_1, ll_3, ll_5, ll_7, ll_8, ll_9, ll_20, ll_39, ll_40, ll_60, ll_100, ll_120, ll_200, ll_209, ll_300, ll_309, ll_600, ll_1000000000, zI_neg, zI_add, zI_sub, zI_mul, zL_add, zL_sub, zL_mul, zL_neg, zI_suc, zN_I, zI_ofNat, zI_le_t, zI_le_f, zI_lt_t, zI_lt_f, zI_eq_t, zI_eq_f, zL_le_t, zL_le_f, zL_lt_t, zL_lt_f, zL_eq_t, zL_eq_f, zI_cl, zI_L, mI_t, Int.reduceToNat, nt_le_f, nt_le_t, lc_le, lc_lt, lc_gt, lc_eq, zI_div, Int.toNat_natCast, zI_max, zI_min, or_false, false_or, or_true, true_or, not_false_eq_true, not_true_eq_false, ↓reduceIte, and_self, and_true, true_and, and_false, false_and, not_or, gt_iff_lt, ge_iff_le, mBI_rI, mBJ_rJ, mBR_rV, mBR_rR, rZ_0, rZ_1]
          rcases (show l = 0 ∨ l = 1 ∨ (l = 2 ∨ l = 6) ∨ (3 ≤ l ∧ l ≤ 5) by omega) with q | q | q | q
          · subst q
            obtain ⟨N, e, fN, pN⟩ := m_two h1 hL hy.1.2 (by omega) (ls := 0) (ms := 20) (by omega) (Or.inl rfl) J
            have ef : fmV y 6 m = flV 2 0 20 (yB y) (yL y) (atV y 6 m + 1) := ef
            have en : numV y 6 m = nuV 2 (yB y) (atV y 6 m + 1) := en
            rw [← ef, ← en] at e
            rw [← ef] at pN
            have pN : N 46 3 = zI (if fmV y 6 m = -9 then (atV y 6 (m + 1) : Int) else fmV y 6 m) := by rw [ea]; exact pN
            refine one (by omega) (if fmV y 6 m = -9 then numV y 6 m else -9) N ((pF.up _ _).tr fN) ?_ (fun c6 => ?_) (fun c6 => ?_) pN
            · rw [e_Model_readGroup_6]
              have mk : k_Model_kind (zI (yB y (atV y 6 m))) M J = rI (zI 0) M J := mk
              simp (disch := omega) only [Int.reduceEq, Int.reduceLT, Int.reduceLE, Int.reduceAdd, Int.reduceMul, Int.reduceSub, Int.reduceNeg, Int.reduceDiv, li_0, li_1, li_2, li_3, li_4, li_5, li_6, li_7, li_8, li_9, li_10, li_16, li_20, li_22, li_32, li_36, li_39, li_40, li_42, li_48, li_60, li_67, li_69, li_70, li_71, li_76, li_77, li_80, li_83, li_86, li_90, li_100, li_120, li_200, li_209, li_234, li_240, li_255, li_300, li_309, li_310, ll_0, ll_1, ll_3, ll_5, ll_7, ll_8, ll_9, ll_20, ll_39, ll_40, ll_60, ll_100, ll_120, ll_200, ll_209, ll_300, ll_309, ll_600, ll_1000000000, zI_neg, zI_add, zI_sub, zI_mul, zL_add, zL_sub, zL_mul, zL_neg, zI_suc, zN_I, zI_ofNat, zI_le_t, zI_le_f, zI_lt_t, zI_lt_f, zI_eq_t, zI_eq_f, zL_le_t, zL_le_f, zL_lt_t, zL_lt_f, zL_eq_t, zL_eq_f, zI_cl, zI_L, mI_t, Int.reduceToNat, nt_le_f, nt_le_t, lc_le, lc_lt, lc_gt, lc_eq, zI_div, Int.toNat_natCast, zI_max, zI_min, or_false, false_or, or_true, true_or, not_false_eq_true, not_true_eq_false, ↓reduceIte, and_self, and_true, true_and, and_false, false_and, not_or, gt_iff_lt, ge_iff_le, mBI_rI, mBJ_rJ, mBR_rV, mBR_rR, rZ_0, rZ_1, hx.1, hx.2.2, e47, mk, h11, e, Int.ofNat_zero]
            · rw [if_pos c6]
              refine ⟨rfl, ?_⟩
              have q := fl_nu (ef.symm.trans c6) (by omega)
              rw [en]
              omega
            · rw [if_neg c6]
          · subst q
            have ef : fmV y 6 m = flV 0 0 0 (yB y) (yL y) (atV y 6 m + 1) := ef
            have e9 : fmV y 6 m = -9 := ef
            have en : numV y 6 m = 0 := en
            have ea : atV y 6 (m + 1) = atV y 6 m + 1 := ea
            refine one (by omega) 0 (mUp M 46 3 (zI ((atV y 6 m + 1 : Nat) : Int))) (pF.up _ _) ?_ (fun _ => ⟨by rw [en], by omega, by omega⟩) (fun c6 => absurd e9 c6) ?_
            · rw [e_Model_readGroup_6]
              have mk : k_Model_kind (zI (yB y (atV y 6 m))) M J = rI (zI 1) M J := mk
              simp (disch := omega) only [Int.reduceEq, Int.reduceLT, Int.reduceLE, Int.reduceAdd, Int.reduceMul, Int.reduceSub, Int.reduceNeg, Int.reduceDiv, li_0, li_1, li_2, li_3, li_4, li_5, li_6, li_7, li_8, li_9, li_10, li_16, li_20, li_22, li_32, li_36, li_39, li_40, li_42, li_48, li_60, li_67, li_69, li_70, li_71, li_76, li_77, li_80, li_83, li_86, li_90, li_100, li_120, li_200, li_209, li_234, li_240, li_255, li_300, li_309, li_310, ll_0, ll_1, ll_3, ll_5, ll_7, ll_8, ll_9, ll_20, ll_39, ll_40, ll_60, ll_100, ll_120, ll_200, ll_209, ll_300, ll_309, ll_600, ll_1000000000, zI_neg, zI_add, zI_sub, zI_mul, zL_add, zL_sub, zL_mul, zL_neg, zI_suc, zN_I, zI_ofNat, zI_le_t, zI_le_f, zI_lt_t, zI_lt_f, zI_eq_t, zI_eq_f, zL_le_t, zL_le_f, zL_lt_t, zL_lt_f, zL_eq_t, zL_eq_f, zI_cl, zI_L, mI_t, Int.reduceToNat, nt_le_f, nt_le_t, lc_le, lc_lt, lc_gt, lc_eq, zI_div, Int.toNat_natCast, zI_max, zI_min, or_false, false_or, or_true, true_or, not_false_eq_true, not_true_eq_false, ↓reduceIte, and_self, and_true, true_and, and_false, false_and, not_or, gt_iff_lt, ge_iff_le, mBI_rI, mBJ_rJ, mBR_rV, mBR_rR, rZ_0, rZ_1, hx.1, hx.2.2, e47, mk, h11]
              rfl
            · rw [if_pos e9, up_at, ea]
          · obtain ⟨N, e, fN, pN⟩ := m_figure h1 hL hy.1.2 (by omega) (ls := 0) (ms := 9) (by omega) (by omega) J
            have ef : fmV y 6 m = flV 1 0 9 (yB y) (yL y) (atV y 6 m + 1) := by rcases q with rfl | rfl <;> exact ef
            have en : numV y 6 m = nuV 1 (yB y) (atV y 6 m + 1) := by rcases q with rfl | rfl <;> exact en
            have ea : atV y 6 (m + 1) = atV y 6 m + 1 + 1 := by rcases q with rfl | rfl <;> exact ea
            have en2 : yB y (atV y 6 m + 1) - 48 = numV y 6 m := en.symm
            rw [← ef, en2] at e
            rw [← ef] at pN
            have pN : N 46 3 = zI (if fmV y 6 m = -9 then (atV y 6 (m + 1) : Int) else fmV y 6 m) := by rw [ea]; exact pN
            refine one (by omega) (if fmV y 6 m = -9 then numV y 6 m else -9) N ((pF.up _ _).tr fN) ?_ (fun c6 => ?_) (fun c6 => ?_) pN
            · rw [e_Model_readGroup_6]
              simp (disch := omega) only [Int.reduceEq, Int.reduceLT, Int.reduceLE, Int.reduceAdd, Int.reduceMul, Int.reduceSub, Int.reduceNeg, Int.reduceDiv, li_0, li_1, li_2, li_3, li_4, li_5, li_6, li_7, li_8, li_9, li_10, li_16, li_20, li_22, li_32, li_36, li_39, li_40, li_42, li_48, li_60, li_67, li_69, li_70, li_71, li_76, li_77, li_80, li_83, li_86, li_90, li_100, li_120, li_200, li_209, li_234, li_240, li_255, li_300, li_309, li_310, ll_0, ll_1, ll_3, ll_5, ll_7, ll_8, ll_9, ll_20, ll_39, ll_40, ll_60, ll_100, ll_120, ll_200, ll_209, ll_300, ll_309, ll_600, ll_1000000000, zI_neg, zI_add, zI_sub, zI_mul, zL_add, zL_sub, zL_mul, zL_neg, zI_suc, zN_I, zI_ofNat, zI_le_t, zI_le_f, zI_lt_t, zI_lt_f, zI_eq_t, zI_eq_f, zL_le_t, zL_le_f, zL_lt_t, zL_lt_f, zL_eq_t, zL_eq_f, zI_cl, zI_L, mI_t, Int.reduceToNat, nt_le_f, nt_le_t, lc_le, lc_lt, lc_gt, lc_eq, zI_div, Int.toNat_natCast, zI_max, zI_min, or_false, false_or, or_true, true_or, not_false_eq_true, not_true_eq_false, ↓reduceIte, and_self, and_true, true_and, and_false, false_and, not_or, gt_iff_lt, ge_iff_le, mBI_rI, mBJ_rJ, mBR_rV, mBR_rR, rZ_0, rZ_1, hx.1, hx.2.2, e47, mk, h11, e]
            · rw [if_pos c6]
              refine ⟨rfl, ?_⟩
              have q := fl_nu (ef.symm.trans c6) (by omega)
              rw [en]
              omega
            · rw [if_neg c6]
          · have d2 : gD 6 l = 2 ∧ gL 6 l = 0 ∧ gM 6 l = 99 := by
              rcases (show l = 3 ∨ l = 4 ∨ l = 5 by omega) with rfl | rfl | rfl <;> exact ⟨rfl, rfl, rfl⟩
            rw [d2.1, d2.2.1, d2.2.2] at ef
            rw [d2.1] at en ea
            have en3 : numV y 6 m = 10 * (yB y (atV y 6 m + 1) - 48) + (yB y (atV y 6 m + 1 + 1) - 48) := en
            have lv : leV y m = numV y 6 m / 10 ∧ agG y m = numV y 6 m % 10 := by
              unfold leV agG
              rw [hl, if_pos (by omega), if_pos (by omega)]
              exact ⟨rfl, rfl⟩
            obtain ⟨N, e, fN, pN⟩ := m_figure h1 hL hy.1.2 (by omega) (ls := 0) (ms := 9) (by omega) (by omega) J
            have s50 : k_Model_readGroup_6 M J = k_Model_readGroup_50 (zI (l : Int)) (zI (if flV 1 0 9 (yB y) (yL y) (atV y 6 m + 1) = -9 then yB y (atV y 6 m + 1) - 48 else -9)) N J := by
              rw [e_Model_readGroup_6]
              simp (disch := omega) only [Int.reduceEq, Int.reduceLT, Int.reduceLE, Int.reduceAdd, Int.reduceMul, Int.reduceSub, Int.reduceNeg, Int.reduceDiv, li_0, li_1, li_2, li_3, li_4, li_5, li_6, li_7, li_8, li_9, li_10, li_16, li_20, li_22, li_32, li_36, li_39, li_40, li_42, li_48, li_60, li_67, li_69, li_70, li_71, li_76, li_77, li_80, li_83, li_86, li_90, li_100, li_120, li_200, li_209, li_234, li_240, li_255, li_300, li_309, li_310, ll_0, ll_1, ll_3, ll_5, ll_7, ll_8, ll_9, ll_20, ll_39, ll_40, ll_60, ll_100, ll_120, ll_200, ll_209, ll_300, ll_309, ll_600, ll_1000000000, zI_neg, zI_add, zI_sub, zI_mul, zL_add, zL_sub, zL_mul, zL_neg, zI_suc, zN_I, zI_ofNat, zI_le_t, zI_le_f, zI_lt_t, zI_lt_f, zI_eq_t, zI_eq_f, zL_le_t, zL_le_f, zL_lt_t, zL_lt_f, zL_eq_t, zL_eq_f, zI_cl, zI_L, mI_t, Int.reduceToNat, nt_le_f, nt_le_t, lc_le, lc_lt, lc_gt, lc_eq, zI_div, Int.toNat_natCast, zI_max, zI_min, or_false, false_or, or_true, true_or, not_false_eq_true, not_true_eq_false, ↓reduceIte, and_self, and_true, true_and, and_false, false_and, not_or, gt_iff_lt, ge_iff_le, mBI_rI, mBJ_rJ, mBR_rV, mBR_rR, rZ_0, rZ_1, hx.1, hx.2.2, e47, mk, h11, e]
            by_cases c7 : flV 1 0 9 (yB y) (yL y) (atV y 6 m + 1) = -9
            · rw [if_pos c7] at s50 pN
              have c7' : ¬ yL y ≤ atV y 6 m + 1 ∧ 0 ≤ yB y (atV y 6 m + 1) - 48 ∧ yB y (atV y 6 m + 1) - 48 ≤ 9 := by
                unfold flV at c7
                repeat' split at c7
                all_goals omega
              have h2 := h1.fr fN pN
              obtain ⟨N2, e2, fN2, pN2⟩ := m_figure h2 hL hy.1.2 (by omega) (ls := 0) (ms := 9) (by omega) (by omega) J
              have yi : 3 ≤ (l : Int) ∧ (l : Int) ≤ 5 := by omega
              refine ⟨N2, yB y (atV y 6 m + 1) - 48, (if flV 1 0 9 (yB y) (yL y) (atV y 6 m + 1 + 1) = -9 then yB y (atV y 6 m + 1 + 1) - 48 else -9), ?_, ((pF.up _ _).tr fN).tr fN2, ?_, fun c6 => ?_, fun c6 => ?_⟩
              · rw [s50, e_Model_readGroup_50]
                simp (disch := omega) only [Int.reduceEq, Int.reduceLT, Int.reduceLE, Int.reduceAdd, Int.reduceMul, Int.reduceSub, Int.reduceNeg, Int.reduceDiv, li_0, li_1, li_2, li_3, li_4, li_5, li_6, li_7, li_8, li_9, li_10, li_16, li_20, li_22, li_32, li_36, li_39, li_40, li_42, li_48, li_60, li_67, li_69, li_70, li_71, li_76, li_77, li_80, li_83, li_86, li_90, li_100, li_120, li_200, li_209, li_234, li_240, li_255, li_300, li_309, li_310, ll_0, ll_1, ll_3, ll_5, ll_7, ll_8, ll_9, ll_20, ll_39, ll_40, ll_60, ll_100, ll_120, ll_200, ll_209, ll_300, ll_309, ll_600, ll_1000000000, zI_neg, zI_add, zI_sub, zI_mul, zL_add, zL_sub, zL_mul, zL_neg, zI_suc, zN_I, zI_ofNat, zI_le_t, zI_le_f, zI_lt_t, zI_lt_f, zI_eq_t, zI_eq_f, zL_le_t, zL_le_f, zL_lt_t, zL_lt_f, zL_eq_t, zL_eq_f, zI_cl, zI_L, mI_t, Int.reduceToNat, nt_le_f, nt_le_t, lc_le, lc_lt, lc_gt, lc_eq, zI_div, Int.toNat_natCast, zI_max, zI_min, or_false, false_or, or_true, true_or, not_false_eq_true, not_true_eq_false, ↓reduceIte, and_self, and_true, true_and, and_false, false_and, not_or, gt_iff_lt, ge_iff_le, mBI_rI, mBJ_rJ, mBR_rV, mBR_rR, rZ_0, rZ_1, m_in, yi, e2]
              · have e9 : fmV y 6 m = flV 1 0 9 (yB y) (yL y) (atV y 6 m + 1 + 1) := by
                  rw [ef]
                  by_cases z : yL y ≤ atV y 6 m + 1 + 1
                  · have u1 : flV 2 0 99 (yB y) (yL y) (atV y 6 m + 1) = (yL y : Int) := by
                      unfold flV
                      repeat' split
                      all_goals omega
                    have u2 : flV 1 0 9 (yB y) (yL y) (atV y 6 m + 1 + 1) = (yL y : Int) := by
                      unfold flV
                      repeat' split
                      all_goals omega
                    rw [u1, u2]
                  · unfold flV
                    repeat' split
                    all_goals omega
                rw [e9, ea]
                exact pN2
              · have e9 : flV 2 0 99 (yB y) (yL y) (atV y 6 m + 1) = -9 := by rw [← ef]; exact c6
                have c8 : ¬ yL y ≤ atV y 6 m + 1 + 1 ∧ 0 ≤ yB y (atV y 6 m + 1 + 1) - 48 ∧ yB y (atV y 6 m + 1 + 1) - 48 ≤ 9 := by
                  unfold flV at e9
                  repeat' split at e9
                  all_goals omega
                have u2 : flV 1 0 9 (yB y) (yL y) (atV y 6 m + 1 + 1) = -9 := by
                  unfold flV
                  repeat' split
                  all_goals omega
                rw [if_pos u2, lv.1, lv.2, en3]
                omega
              · have u2 : ¬ flV 1 0 9 (yB y) (yL y) (atV y 6 m + 1 + 1) = -9 := by
                  intro u2
                  apply c6
                  rw [ef]
                  have c8 : ¬ yL y ≤ atV y 6 m + 1 + 1 ∧ 0 ≤ yB y (atV y 6 m + 1 + 1) - 48 ∧ yB y (atV y 6 m + 1 + 1) - 48 ≤ 9 := by
                    unfold flV at u2
                    repeat' split at u2
                    all_goals omega
                  unfold flV
                  repeat' split
                  all_goals omega
                rw [if_neg u2]
            · rw [if_neg c7] at s50 pN
              have e9 : fmV y 6 m = flV 1 0 9 (yB y) (yL y) (atV y 6 m + 1) := by
                rw [ef]
                by_cases z : yL y ≤ atV y 6 m + 1
                · have u1 : flV 2 0 99 (yB y) (yL y) (atV y 6 m + 1) = (yL y : Int) := by
                    unfold flV
                    repeat' split
                    all_goals omega
                  have u2 : flV 1 0 9 (yB y) (yL y) (atV y 6 m + 1) = (yL y : Int) := by
                    unfold flV
                    repeat' split
                    all_goals omega
                  rw [u1, u2]
                · have w : yB y (atV y 6 m + 1) - 48 < 0 ∨ 9 < yB y (atV y 6 m + 1) - 48 := by
                    have u2 := c7
                    unfold flV at u2
                    repeat' split at u2
                    all_goals omega
                  unfold flV
                  repeat' split
                  all_goals omega
              have n9 : ¬ fmV y 6 m = -9 := by rw [e9]; exact c7
              refine ⟨N, -9, -9, ?_, (pF.up _ _).tr fN, by rw [if_neg n9, e9]; exact pN, fun c6 => absurd c6 n9, fun _ => rfl⟩
              rw [s50, e_Model_readGroup_50]
              simp (disch := omega) only [Int.reduceEq, Int.reduceLT, Int.reduceLE, Int.reduceAdd, Int.reduceMul, Int.reduceSub, Int.reduceNeg, Int.reduceDiv, li_0, li_1, li_2, li_3, li_4, li_5, li_6, li_7, li_8, li_9, li_10, li_16, li_20, li_22, li_32, li_36, li_39, li_40, li_42, li_48, li_60, li_67, li_69, li_70, li_71, li_76, li_77, li_80, li_83, li_86, li_90, li_100, li_120, li_200, li_209, li_234, li_240, li_255, li_300, li_309, li_310, ll_0, ll_1, ll_3, ll_5, ll_7, ll_8, ll_9, ll_20, ll_39, ll_40, ll_60, ll_100, ll_120, ll_200, ll_209, ll_300, ll_309, ll_600, ll_1000000000, zI_neg, zI_add, zI_sub, zI_mul, zL_add, zL_sub, zL_mul, zL_neg, zI_suc, zN_I, zI_ofNat, zI_le_t, zI_le_f, zI_lt_t, zI_lt_f, zI_eq_t, zI_eq_f, zL_le_t, zL_le_f, zL_lt_t, zL_lt_f, zL_eq_t, zL_eq_f, zI_cl, zI_L, mI_t, Int.reduceToNat, nt_le_f, nt_le_t, lc_le, lc_lt, lc_gt, lc_eq, zI_div, Int.toNat_natCast, zI_max, zI_min, or_false, false_or, or_true, true_or, not_false_eq_true, not_true_eq_false, ↓reduceIte, and_self, and_true, true_and, and_false, false_and, not_or, gt_iff_lt, ge_iff_le, mBI_rI, mBJ_rJ, mBR_rV, mBR_rR, rZ_0, rZ_1]
        obtain ⟨N, v, w, e, fN, pN, k1, k2⟩ := key
        rw [e, e_Model_readGroup_68]
        have h46 : N 46 11 = zI (m : Int) := by rw [fN.2 11 (by omega)]; exact h11
        by_cases c6 : fmV y 6 m = -9
        · rw [if_neg (fun q => q c6)] at er
          rw [if_pos c6] at pN
          obtain ⟨v1, w1, w2, w3⟩ := k1 c6
          have al : atV y 6 (m + 1) ≤ yL y := by
            have ff := flV_le (a := atV y 6 m + 1) c6 (gD_bd hg (ln_bd y 6 m)).1 (by omega)
            show atV y 6 m + 1 + gD 6 (ltV y 6 m).toNat ≤ yL y
            omega
          obtain ⟨N2, e2, f2, p11, p5⟩ := m_group6 hy J f (m + 1) (mUp (mUp (mUp (mUp N 53 m (zI (l : Int))) 54 m (zI v)) 55 m (zI w)) 46 11 (zI ((m + 1 : Nat) : Int))) (by omega) (by omega) ⟨by rw [up_ne (by omega), up_nk (by omega), up_nk (by omega), up_nk (by omega), fN.2 2 (by omega)]; exact hx.1, by rw [up_nk (by omega), up_nk (by omega), up_nk (by omega), up_nk (by omega), fN.1 47 (by omega)]; exact hx.2.1, by rw [up_ne (by omega), up_nk (by omega), up_nk (by omega), up_nk (by omega)]; exact pN⟩ al (up_at _ _ _ _) (by
            intro j hj
            refine ⟨?_, ?_, ?_⟩
            · rw [up_nk (by omega), up_nk (by omega), up_nk (by omega)]
              by_cases q : j = m
              · subst q; rw [up_at, hl]
              · rw [up_ne q, fN.1 53 (by omega)]; exact (h5 j (by omega)).1
            · rw [up_nk (by omega), up_nk (by omega)]
              by_cases q : j = m
              · subst q; rw [up_at, v1]
              · rw [up_ne q, up_nk (by omega), fN.1 54 (by omega)]; exact (h5 j (by omega)).2.1
            · rw [up_nk (by omega)]
              by_cases q : j = m
              · subst q; rw [up_at, w1]
              · rw [up_ne q, up_nk (by omega), up_nk (by omega), fN.1 55 (by omega)]; exact (h5 j (by omega)).2.2)
          rw [er]
          refine ⟨N2, ?_, ⟨fun p q1 q2 q3 q4 => ?_, fun i i1 i2 => ?_⟩, p11, p5⟩
          · simp (disch := omega) only [Int.reduceEq, Int.reduceLT, Int.reduceLE, Int.reduceAdd, Int.reduceMul, Int.reduceSub, Int.reduceNeg, Int.reduceDiv, li_0, li_1, li_2, li_3, li_4, li_5, li_6, li_7, li_8, li_9, li_10, li_16, li_20, li_22, li_32, li_36, li_39, li_40, li_42, li_48, li_60, li_67, li_69, li_70, li_71, li_76, li_77, li_80, li_83, li_86, li_90, li_100, li_120, li_200, li_209, li_234, li_240, li_255, li_300, li_309, li_310, ll_0, ll_1, ll_3, ll_5, ll_7, ll_8, ll_9, ll_20, ll_39, ll_40, ll_60, ll_100, ll_120, ll_200, ll_209, ll_300, ll_309, ll_600, ll_1000000000, zI_neg, zI_add, zI_sub, zI_mul, zL_add, zL_sub, zL_mul, zL_neg, zI_suc, zN_I, zI_ofNat, zI_le_t, zI_le_f, zI_lt_t, zI_lt_f, zI_eq_t, zI_eq_f, zL_le_t, zL_le_f, zL_lt_t, zL_lt_f, zL_eq_t, zL_eq_f, zI_cl, zI_L, mI_t, Int.reduceToNat, nt_le_f, nt_le_t, lc_le, lc_lt, lc_gt, lc_eq, zI_div, Int.toNat_natCast, zI_max, zI_min, or_false, false_or, or_true, true_or, not_false_eq_true, not_true_eq_false, ↓reduceIte, and_self, and_true, true_and, and_false, false_and, not_or, gt_iff_lt, ge_iff_le, mBI_rI, mBJ_rJ, mBR_rV, mBR_rR, rZ_0, rZ_1, h46, e2]
          · rw [f2.1 p q1 q2 q3 q4, up_nk q1, up_nk q4, up_nk q3, up_nk q2, fN.1 p q1]
          · rw [f2.2 i i1 i2, up_ne i2, up_nk (by omega), up_nk (by omega), up_nk (by omega), fN.2 i i1]
        · rw [if_pos c6] at er
          rw [if_neg c6] at pN
          have w9 := k2 c6
          rw [er]
          refine ⟨N, ?_, ⟨fun p q1 _ _ _ => fN.1 p q1, fun i i1 _ => fN.2 i i1⟩, h46, fun j hj => ?_⟩
          · rw [w9]
            simp (disch := omega) only [Int.reduceEq, Int.reduceLT, Int.reduceLE, Int.reduceAdd, Int.reduceMul, Int.reduceSub, Int.reduceNeg, Int.reduceDiv, li_0, li_1, li_2, li_3, li_4, li_5, li_6, li_7, li_8, li_9, li_10, li_16, li_20, li_22, li_32, li_36, li_39, li_40, li_42, li_48, li_60, li_67, li_69, li_70, li_71, li_76, li_77, li_80, li_83, li_86, li_90, li_100, li_120, li_200, li_209, li_234, li_240, li_255, li_300, li_309, li_310, ll_0, ll_1, ll_3, ll_5, ll_7, ll_8, ll_9, ll_20, ll_39, ll_40, ll_60, ll_100, ll_120, ll_200, ll_209, ll_300, ll_309, ll_600, ll_1000000000, zI_neg, zI_add, zI_sub, zI_mul, zL_add, zL_sub, zL_mul, zL_neg, zI_suc, zN_I, zI_ofNat, zI_le_t, zI_le_f, zI_lt_t, zI_lt_f, zI_eq_t, zI_eq_f, zL_le_t, zL_le_f, zL_lt_t, zL_lt_f, zL_eq_t, zL_eq_f, zI_cl, zI_L, mI_t, Int.reduceToNat, nt_le_f, nt_le_t, lc_le, lc_lt, lc_gt, lc_eq, zI_div, Int.toNat_natCast, zI_max, zI_min, or_false, false_or, or_true, true_or, not_false_eq_true, not_true_eq_false, ↓reduceIte, and_self, and_true, true_and, and_false, false_and, not_or, gt_iff_lt, ge_iff_le, mBI_rI, mBJ_rJ, mBR_rV, mBR_rR, rZ_0, rZ_1, pN]
          · rw [fN.1 53 (by omega), fN.1 54 (by omega), fN.1 55 (by omega)]
            exact h5 j hj
theorem m_readGroup {y : sS} (hy : yOk y) {M : mMI} (h : MI y M) (J : mMJ) : ∃ N, k_Model_readGroup M J = rI (zI (anV y 6)) N J ∧ qF M N ∧ N 46 11 = zI (foV y 6 : Int) ∧ (∀ j, j < foV y 6 → N 53 j = zI (ltV y 6 j) ∧ N 54 j = zI (leV y j) ∧ N 55 j = zI (agG y j)) := by
  obtain ⟨N, e, f, p11, p5⟩ := m_group6 hy J 7 0 (mUp (mUp M 46 3 (zI 0)) 46 11 (zI 0)) (by omega) (by omega) ⟨by rw [up_ne (by omega), up_ne (by omega)]; exact h.1.1, by rw [up_nk (by omega), up_nk (by omega)]; exact h.1.2, by rw [up_ne (by omega), up_at]; rfl⟩ (Nat.zero_le _) (up_at _ _ _ _) (fun j hj => absurd hj (Nat.not_lt_zero j))
  refine ⟨N, ?_, ⟨fun p q1 q2 q3 q4 => ?_, fun i i1 i2 => ?_⟩, p11, p5⟩
  · rw [e_Model_readGroup]
    simp (disch := omega) only [Int.reduceEq, Int.reduceLT, Int.reduceLE, Int.reduceAdd, Int.reduceMul, Int.reduceSub, Int.reduceNeg, Int.reduceDiv, li_0, li_1, li_2, li_3, li_4, li_5, li_6, li_7, li_8, li_9, li_10, li_16, li_20, li_22, li_32, li_36, li_39, li_40, li_42, li_48, li_60, li_67, li_69, li_70, li_71, li_76, li_77, li_80, li_83, li_86, li_90, li_100, li_120, li_200, li_209, li_234, li_240, li_255, li_300, li_309, li_310, ll_0, ll_1, ll_3, ll_5, ll_7, ll_8, ll_9, ll_20, ll_39, ll_40, ll_60, ll_100, ll_120, ll_200, ll_209, ll_300, ll_309, ll_600, ll_1000000000, zI_neg, zI_add, zI_sub, zI_mul, zL_add, zL_sub, zL_mul, zL_neg, zI_suc, zN_I, zI_ofNat, zI_le_t, zI_le_f, zI_lt_t, zI_lt_f, zI_eq_t, zI_eq_f, zL_le_t, zL_le_f, zL_lt_t, zL_lt_f, zL_eq_t, zL_eq_f, zI_cl, zI_L, mI_t, Int.reduceToNat, nt_le_f, nt_le_t, lc_le, lc_lt, lc_gt, lc_eq, zI_div, Int.toNat_natCast, zI_max, zI_min, or_false, false_or, or_true, true_or, not_false_eq_true, not_true_eq_false, ↓reduceIte, and_self, and_true, true_and, and_false, false_and, not_or, gt_iff_lt, ge_iff_le, mBI_rI, mBJ_rJ, mBR_rV, mBR_rR, rZ_0, rZ_1]
    exact e
  · rw [f.1 p q1 q2 q3 q4, up_nk q1, up_nk q1]
  · rw [f.2 i i1 i2, up_ne i2, up_ne i1]
