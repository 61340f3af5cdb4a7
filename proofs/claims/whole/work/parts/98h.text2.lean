/-! texts: the class's scan -/
def atV (y : sS) (g : Nat) : Nat → Nat
  | 0 => 0
  | m + 1 => atV y g m + 1 + gD g (gC g (yB y (atV y g m))).toNat
def ltV (y : sS) (g m : Nat) : Int := gC g (yB y (atV y g m))
def dpV (y : sS) (g m : Nat) : Nat → Bool
  | 0 => false
  | j + 1 => dpV y g m j || decide (ltV y g j = ltV y g m)
def fmV (y : sS) (g m : Nat) : Int := flV (gD g (ltV y g m).toNat) (gL g (ltV y g m).toNat) (gM g (ltV y g m).toNat) (yB y) (yL y) (atV y g m + 1)
def numV (y : sS) (g m : Nat) : Int := nuV (gD g (ltV y g m).toNat) (yB y) (atV y g m + 1)
/-- what a scan answers, how many parts it found -/
def rsT (y : sS) (g : Nat) : Nat → Nat → Int × Nat
  | 0, m => (0, m)
  | f + 1, m => if yL y ≤ atV y g m then ((if m < gW g then (yL y : Int) else -9), m)
    else if m = gX g ∨ ltV y g m < 0 ∨ (g = 5 ∧ dpV y g m m = true) then ((atV y g m : Int), m)
    else if ¬ fmV y g m = -9 then (fmV y g m, m) else rsT y g f (m + 1)
theorem lt_bd (y : sS) (g m : Nat) : ltV y g m = -1 ∨ (0 ≤ ltV y g m ∧ ltV y g m < gK g) := gC_bd g _
theorem ln_bd (y : sS) (g m : Nat) : (ltV y g m).toNat < gK g := by
  have := lt_bd y g m
  have h : 4 ≤ gK g := by unfold gK; split <;> omega
  omega
theorem atV_le {g : Nat} (hg : g = 5 ∨ g = 6) (y : sS) : ∀ m, atV y g m ≤ 3 * m
  | 0 => Nat.le_refl 0
  | m + 1 => by
    have h := atV_le hg y m
    have b := (gD_bd hg (ln_bd y g m)).1
    show atV y g m + 1 + gD g (ltV y g m).toNat ≤ 3 * (m + 1)
    omega
theorem dpV_up (y : sS) (g m : Nat) {j : Nat} (h : dpV y g m j = true) : ∀ {n}, j ≤ n → dpV y g m n = true := by
  intro n hn
  induction n with
  | zero => rw [show (0 : Nat) = j by omega]; exact h
  | succ n ih =>
    by_cases e : j = n + 1
    · rw [← e]; exact h
    · show (dpV y g m n || decide (ltV y g n = ltV y g m)) = true
      rw [ih (by omega), Bool.true_or]
theorem c_was {M : mMI} {y : sS} {g m : Nat} (hg : g = 5 ∨ g = 6) (hm : m ≤ 6) (h14 : M 1 4 = zI (m : Int)) (h3 : ∀ j, j < m → M 3 j = zI (ltV y g j)) (J : mMJ) : k_Text_wasFound (zI (ltV y g m)) M J = rI (zI (if dpV y g m m = true then 1 else 0)) M J := by
  have bm := lt_bd y g m
  have g7 : gK g ≤ 7 := by unfold gK; split <;> omega
  simp only [e_Text_wasFound, li_0, li_1, li_2, li_3, li_4, li_5, li_6, li_7, li_8, li_9, li_10, li_16, li_20, li_22, li_32, li_36, li_39, li_40, li_42, li_48, li_60, li_67, li_69, li_70, li_71, li_76, li_77, li_80, li_83, li_86, li_90, li_100, li_120, li_200, li_209, li_234, li_240, li_255, li_300, li_309, li_310, ll_0, ll_1, ll_3, ll_5, ll_7, ll_8, ll_9, ll_20, ll_39, ll_40, ll_60, ll_100, ll_120, ll_200, ll_209, ll_300, ll_309, ll_600, ll_1000000000, zI_neg, zI_add, zI_sub, zI_mul, zL_add, zL_sub, zL_mul, zL_neg, zI_suc, zN_I, zI_ofNat]
  refine lp_Q (α := Unit) (fun _ j => k_Text_wasFound_2 (zI (ltV y g m)) (zI (j : Int)) M J) (fun j _ => dpV y g m j = false) (fun o => o = rI (zI (if dpV y g m m = true then 1 else 0)) M J) m ?_ ?_ () rfl
  · intro j _ hj i1
    have e := h3 j hj
    have bj := lt_bd y g j
    have es : dpV y g m (j + 1) = (dpV y g m j || decide (ltV y g j = ltV y g m)) := rfl
    by_cases c : ltV y g j = ltV y g m
    · left
      have t : dpV y g m (j + 1) = true := by rw [es, decide_eq_true c, Bool.or_true]
      rw [dpV_up y g m t (show j + 1 ≤ m by omega), if_pos rfl, e_Text_wasFound_2]
      simp (disch := omega) only [Int.reduceEq, Int.reduceLT, Int.reduceLE, Int.reduceAdd, Int.reduceMul, Int.reduceSub, Int.reduceNeg, Int.reduceDiv, li_0, li_1, li_2, li_3, li_4, li_5, li_6, li_7, li_8, li_9, li_10, li_16, li_20, li_22, li_32, li_36, li_39, li_40, li_42, li_48, li_60, li_67, li_69, li_70, li_71, li_76, li_77, li_80, li_83, li_86, li_90, li_100, li_120, li_200, li_209, li_234, li_240, li_255, li_300, li_309, li_310, ll_0, ll_1, ll_3, ll_5, ll_7, ll_8, ll_9, ll_20, ll_39, ll_40, ll_60, ll_100, ll_120, ll_200, ll_209, ll_300, ll_309, ll_600, ll_1000000000, zI_neg, zI_add, zI_sub, zI_mul, zL_add, zL_sub, zL_mul, zL_neg, zI_suc, zN_I, zI_ofNat, zI_le_t, zI_le_f, zI_lt_t, zI_lt_f, zI_eq_t, zI_eq_f, zL_le_t, zL_le_f, zL_lt_t, zL_lt_f, zL_eq_t, zL_eq_f, zI_cl, zI_L, mI_t, Int.reduceToNat, nt_le_f, nt_le_t, lc_le, lc_lt, lc_gt, lc_eq, zI_div, Int.toNat_natCast, zI_max, zI_min, or_false, false_or, or_true, true_or, not_false_eq_true, not_true_eq_false, ↓reduceIte, and_self, and_true, true_and, and_false, false_and, not_or, gt_iff_lt, ge_iff_le, mBI_rI, mBJ_rJ, mBR_rV, mBR_rR, rZ_0, rZ_1, h14, e]
    · right
      refine ⟨(), by rw [es, i1, decide_eq_false c]; rfl, ?_⟩
      show k_Text_wasFound_2 (zI (ltV y g m)) (zI (j : Int)) M J = _
      rw [e_Text_wasFound_2]
      simp (disch := omega) only [Int.reduceEq, Int.reduceLT, Int.reduceLE, Int.reduceAdd, Int.reduceMul, Int.reduceSub, Int.reduceNeg, Int.reduceDiv, li_0, li_1, li_2, li_3, li_4, li_5, li_6, li_7, li_8, li_9, li_10, li_16, li_20, li_22, li_32, li_36, li_39, li_40, li_42, li_48, li_60, li_67, li_69, li_70, li_71, li_76, li_77, li_80, li_83, li_86, li_90, li_100, li_120, li_200, li_209, li_234, li_240, li_255, li_300, li_309, li_310, ll_0, ll_1, ll_3, ll_5, ll_7, ll_8, ll_9, ll_20, ll_39, ll_40, ll_60, ll_100, ll_120, ll_200, ll_209, ll_300, ll_309, ll_600, ll_1000000000, zI_neg, zI_add, zI_sub, zI_mul, zL_add, zL_sub, zL_mul, zL_neg, zI_suc, zN_I, zI_ofNat, zI_le_t, zI_le_f, zI_lt_t, zI_lt_f, zI_eq_t, zI_eq_f, zL_le_t, zL_le_f, zL_lt_t, zL_lt_f, zL_eq_t, zL_eq_f, zI_cl, zI_L, mI_t, Int.reduceToNat, nt_le_f, nt_le_t, lc_le, lc_lt, lc_gt, lc_eq, zI_div, Int.toNat_natCast, zI_max, zI_min, or_false, false_or, or_true, true_or, not_false_eq_true, not_true_eq_false, ↓reduceIte, and_self, and_true, true_and, and_false, false_and, not_or, gt_iff_lt, ge_iff_le, mBI_rI, mBJ_rJ, mBR_rV, mBR_rR, rZ_0, rZ_1, h14, e]
  · intro _ i1
    rw [i1, if_neg (by decide), e_Text_wasFound_2]
    simp (disch := omega) only [Int.reduceEq, Int.reduceLT, Int.reduceLE, Int.reduceAdd, Int.reduceMul, Int.reduceSub, Int.reduceNeg, Int.reduceDiv, li_0, li_1, li_2, li_3, li_4, li_5, li_6, li_7, li_8, li_9, li_10, li_16, li_20, li_22, li_32, li_36, li_39, li_40, li_42, li_48, li_60, li_67, li_69, li_70, li_71, li_76, li_77, li_80, li_83, li_86, li_90, li_100, li_120, li_200, li_209, li_234, li_240, li_255, li_300, li_309, li_310, ll_0, ll_1, ll_3, ll_5, ll_7, ll_8, ll_9, ll_20, ll_39, ll_40, ll_60, ll_100, ll_120, ll_200, ll_209, ll_300, ll_309, ll_600, ll_1000000000, zI_neg, zI_add, zI_sub, zI_mul, zL_add, zL_sub, zL_mul, zL_neg, zI_suc, zN_I, zI_ofNat, zI_le_t, zI_le_f, zI_lt_t, zI_lt_f, zI_eq_t, zI_eq_f, zL_le_t, zL_le_f, zL_lt_t, zL_lt_f, zL_eq_t, zL_eq_f, zI_cl, zI_L, mI_t, Int.reduceToNat, nt_le_f, nt_le_t, lc_le, lc_lt, lc_gt, lc_eq, zI_div, Int.toNat_natCast, zI_max, zI_min, or_false, false_or, or_true, true_or, not_false_eq_true, not_true_eq_false, ↓reduceIte, and_self, and_true, true_and, and_false, false_and, not_or, gt_iff_lt, ge_iff_le, mBI_rI, mBJ_rJ, mBR_rV, mBR_rR, rZ_0, rZ_1, h14]
/-- only the parts that a scan found have changed -/
def tF (M N : mMI) : Prop := N 1 1 = M 1 1 ∧ ∀ p, p ≠ 1 → p ≠ 3 → p ≠ 4 → N p = M p
theorem gH {g : Nat} (hg : g = 5 ∨ g = 6) {M : mMI} (h : kCo M) : M g 4 = zI (if g = 5 then 1 else 0) ∧ M g 5 = zI (gW g : Int) ∧ M g 6 = zI (gX g : Int) := by
  obtain ⟨⟨a1, a2, a3, a4, a5, a6⟩, _⟩ := h
  rcases hg with rfl | rfl
  · exact ⟨a1, a2, a3⟩
  · exact ⟨a4, a5, a6⟩
theorem c_scan7 {g : Nat} (hg : g = 5 ∨ g = 6) {y : sS} (hy : yOk y) (J : mMJ) : ∀ (f m : Nat) (M : mMI), m + f = gX g + 1 → m ≤ gX g → kCo M → ctH y M → M 1 4 = zI (m : Int) → (∀ j, j < m → M 3 j = zI (ltV y g j) ∧ M 4 j = zI (numV y g j)) → ∃ N, k_Text_scan_7 g (zI (atV y g m : Int)) (zI (m : Int)) M J = rI (zI (rsT y g f m).1) N J ∧ tF M N ∧ N 1 4 = zI ((rsT y g f m).2 : Int) ∧ (rsT y g f m).2 ≤ gX g ∧ (∀ j, j < (rsT y g f m).2 → N 3 j = zI (ltV y g j) ∧ N 4 j = zI (numV y g j))
  | 0, m, M, hf, hm, _, _, _, _ => absurd hf (by omega)
  | f + 1, m, M, hf, hm, hk, hc, h14, h34 => by
    obtain ⟨g4, g5, g6⟩ := gH hg hk
    have e11 := hc.1
    have hL := hy.1.1
    have x6 : gX g ≤ 6 := by unfold gX; split <;> omega
    have g7 : gK g ≤ 7 := by unfold gK; split <;> omega
    have al := atV_le hg y m
    have bm := lt_bd y g m
    have w2 : gW g ≤ 2 := by unfold gW; split <;> omega
    have er : rsT y g (f + 1) m = if yL y ≤ atV y g m then ((if m < gW g then (yL y : Int) else -9), m)
      else if m = gX g ∨ ltV y g m < 0 ∨ (g = 5 ∧ dpV y g m m = true) then ((atV y g m : Int), m)
      else if ¬ fmV y g m = -9 then (fmV y g m, m) else rsT y g f (m + 1) := rfl
    by_cases c1 : yL y ≤ atV y g m
    · rw [if_pos c1] at er
      rw [er]
      refine ⟨M, ?_, ⟨rfl, fun _ _ _ _ => rfl⟩, h14, hm, h34⟩
      have key : ∀ v : Int, v = (if m < gW g then (yL y : Int) else -9) → k_Text_scan_7 g (zI (atV y g m : Int)) (zI (m : Int)) M J = rI (zI v) M J := by
        intro v hv
        rw [e_Text_scan_7 g hg]
        by_cases c2 : m < gW g
        · rw [if_pos c2] at hv
          subst hv
          simp (disch := omega) only [Int.reduceEq, Int.reduceLT, Int.reduceLE, Int.reduceAdd, Int.reduceMul, Int.reduceSub, Int.reduceNeg, Int.reduceDiv, li_0, li_1, li_2, li_3, li_4, li_5, li_6, li_7, li_8, li_9, li_10, li_16, li_20, li_22, li_32, li_36, li_39, li_40, li_42, li_48, li_60, li_67, li_69, li_70, li_71, li_76, li_77, li_80, li_83, li_86, li_90, li_100, li_120, li_200, li_209, li_234, li_240, li_255, li_300, li_309, li_310, ll_0, ll_1, ll_3, ll_5, ll_7, ll_8, ll_9, ll_20, ll_39, ll_40, ll_60, ll_100, ll_120, ll_200, ll_209, ll_300, ll_309, ll_600, ll_1000000000, zI_neg, zI_add, zI_sub, zI_mul, zL_add, zL_sub, zL_mul, zL_neg, zI_suc, zN_I, zI_ofNat, zI_le_t, zI_le_f, zI_lt_t, zI_lt_f, zI_eq_t, zI_eq_f, zL_le_t, zL_le_f, zL_lt_t, zL_lt_f, zL_eq_t, zL_eq_f, zI_cl, zI_L, mI_t, Int.reduceToNat, nt_le_f, nt_le_t, lc_le, lc_lt, lc_gt, lc_eq, zI_div, Int.toNat_natCast, zI_max, zI_min, or_false, false_or, or_true, true_or, not_false_eq_true, not_true_eq_false, ↓reduceIte, and_self, and_true, true_and, and_false, false_and, not_or, gt_iff_lt, ge_iff_le, mBI_rI, mBJ_rJ, mBR_rV, mBR_rR, rZ_0, rZ_1, g6, e11, e_Text_scan_74 g hg, g5, h14, e_Text_scan_83 g hg]
        · rw [if_neg c2] at hv
          subst hv
          simp (disch := omega) only [Int.reduceEq, Int.reduceLT, Int.reduceLE, Int.reduceAdd, Int.reduceMul, Int.reduceSub, Int.reduceNeg, Int.reduceDiv, li_0, li_1, li_2, li_3, li_4, li_5, li_6, li_7, li_8, li_9, li_10, li_16, li_20, li_22, li_32, li_36, li_39, li_40, li_42, li_48, li_60, li_67, li_69, li_70, li_71, li_76, li_77, li_80, li_83, li_86, li_90, li_100, li_120, li_200, li_209, li_234, li_240, li_255, li_300, li_309, li_310, ll_0, ll_1, ll_3, ll_5, ll_7, ll_8, ll_9, ll_20, ll_39, ll_40, ll_60, ll_100, ll_120, ll_200, ll_209, ll_300, ll_309, ll_600, ll_1000000000, zI_neg, zI_add, zI_sub, zI_mul, zL_add, zL_sub, zL_mul, zL_neg, zI_suc, zN_I, zI_ofNat, zI_le_t, zI_le_f, zI_lt_t, zI_lt_f, zI_eq_t, zI_eq_f, zL_le_t, zL_le_f, zL_lt_t, zL_lt_f, zL_eq_t, zL_eq_f, zI_cl, zI_L, mI_t, Int.reduceToNat, nt_le_f, nt_le_t, lc_le, lc_lt, lc_gt, lc_eq, zI_div, Int.toNat_natCast, zI_max, zI_min, or_false, false_or, or_true, true_or, not_false_eq_true, not_true_eq_false, ↓reduceIte, and_self, and_true, true_and, and_false, false_and, not_or, gt_iff_lt, ge_iff_le, mBI_rI, mBJ_rJ, mBR_rV, mBR_rR, rZ_0, rZ_1, g6, e11, e_Text_scan_74 g hg, g5, h14, e_Text_scan_83 g hg]
      exact key _ rfl
    · rw [if_neg c1] at er
      have e2 := hc.2 (atV y g m) (by omega)
      have b2 := hy.1.2 (atV y g m) (by omega)
      have ci := c_index hg hk b2 J
      have ci : k_String_indexOf g (((zI (yB y (atV y g m))).toUInt32 % 65536).toInt32) M J = rI (zI (ltV y g m)) M J := ci
      by_cases c2 : m = gX g ∨ ltV y g m < 0 ∨ (g = 5 ∧ dpV y g m m = true)
      · rw [if_pos c2] at er
        rw [er]
        refine ⟨M, ?_, ⟨rfl, fun _ _ _ _ => rfl⟩, h14, hm, h34⟩
        rw [e_Text_scan_7 g hg]
        by_cases c3 : m = gX g
        · simp (disch := omega) only [Int.reduceEq, Int.reduceLT, Int.reduceLE, Int.reduceAdd, Int.reduceMul, Int.reduceSub, Int.reduceNeg, Int.reduceDiv, li_0, li_1, li_2, li_3, li_4, li_5, li_6, li_7, li_8, li_9, li_10, li_16, li_20, li_22, li_32, li_36, li_39, li_40, li_42, li_48, li_60, li_67, li_69, li_70, li_71, li_76, li_77, li_80, li_83, li_86, li_90, li_100, li_120, li_200, li_209, li_234, li_240, li_255, li_300, li_309, li_310, ll_0, ll_1, ll_3, ll_5, ll_7, ll_8, ll_9, ll_20, ll_39, ll_40, ll_60, ll_100, ll_120, ll_200, ll_209, ll_300, ll_309, ll_600, ll_1000000000, zI_neg, zI_add, zI_sub, zI_mul, zL_add, zL_sub, zL_mul, zL_neg, zI_suc, zN_I, zI_ofNat, zI_le_t, zI_le_f, zI_lt_t, zI_lt_f, zI_eq_t, zI_eq_f, zL_le_t, zL_le_f, zL_lt_t, zL_lt_f, zL_eq_t, zL_eq_f, zI_cl, zI_L, mI_t, Int.reduceToNat, nt_le_f, nt_le_t, lc_le, lc_lt, lc_gt, lc_eq, zI_div, Int.toNat_natCast, zI_max, zI_min, or_false, false_or, or_true, true_or, not_false_eq_true, not_true_eq_false, ↓reduceIte, and_self, and_true, true_and, and_false, false_and, not_or, gt_iff_lt, ge_iff_le, mBI_rI, mBJ_rJ, mBR_rV, mBR_rR, rZ_0, rZ_1, g6, e11, e2, ci, e_Text_scan_37 g hg]
        · by_cases c4 : ltV y g m < 0
          · simp (disch := omega) only [Int.reduceEq, Int.reduceLT, Int.reduceLE, Int.reduceAdd, Int.reduceMul, Int.reduceSub, Int.reduceNeg, Int.reduceDiv, li_0, li_1, li_2, li_3, li_4, li_5, li_6, li_7, li_8, li_9, li_10, li_16, li_20, li_22, li_32, li_36, li_39, li_40, li_42, li_48, li_60, li_67, li_69, li_70, li_71, li_76, li_77, li_80, li_83, li_86, li_90, li_100, li_120, li_200, li_209, li_234, li_240, li_255, li_300, li_309, li_310, ll_0, ll_1, ll_3, ll_5, ll_7, ll_8, ll_9, ll_20, ll_39, ll_40, ll_60, ll_100, ll_120, ll_200, ll_209, ll_300, ll_309, ll_600, ll_1000000000, zI_neg, zI_add, zI_sub, zI_mul, zL_add, zL_sub, zL_mul, zL_neg, zI_suc, zN_I, zI_ofNat, zI_le_t, zI_le_f, zI_lt_t, zI_lt_f, zI_eq_t, zI_eq_f, zL_le_t, zL_le_f, zL_lt_t, zL_lt_f, zL_eq_t, zL_eq_f, zI_cl, zI_L, mI_t, Int.reduceToNat, nt_le_f, nt_le_t, lc_le, lc_lt, lc_gt, lc_eq, zI_div, Int.toNat_natCast, zI_max, zI_min, or_false, false_or, or_true, true_or, not_false_eq_true, not_true_eq_false, ↓reduceIte, and_self, and_true, true_and, and_false, false_and, not_or, gt_iff_lt, ge_iff_le, mBI_rI, mBJ_rJ, mBR_rV, mBR_rR, rZ_0, rZ_1, g6, e11, e2, ci, e_Text_scan_37 g hg]
          · have c5 : g = 5 ∧ dpV y g m m = true := by
              rcases c2 with q | q | q
              · exact absurd q c3
              · exact absurd q c4
              · exact q
            have cw := c_was hg (by omega) h14 (fun j hj => (h34 j hj).1) J
            rw [if_pos c5.2] at cw
            rw [if_pos c5.1] at g4
            simp (disch := omega) only [Int.reduceEq, Int.reduceLT, Int.reduceLE, Int.reduceAdd, Int.reduceMul, Int.reduceSub, Int.reduceNeg, Int.reduceDiv, li_0, li_1, li_2, li_3, li_4, li_5, li_6, li_7, li_8, li_9, li_10, li_16, li_20, li_22, li_32, li_36, li_39, li_40, li_42, li_48, li_60, li_67, li_69, li_70, li_71, li_76, li_77, li_80, li_83, li_86, li_90, li_100, li_120, li_200, li_209, li_234, li_240, li_255, li_300, li_309, li_310, ll_0, ll_1, ll_3, ll_5, ll_7, ll_8, ll_9, ll_20, ll_39, ll_40, ll_60, ll_100, ll_120, ll_200, ll_209, ll_300, ll_309, ll_600, ll_1000000000, zI_neg, zI_add, zI_sub, zI_mul, zL_add, zL_sub, zL_mul, zL_neg, zI_suc, zN_I, zI_ofNat, zI_le_t, zI_le_f, zI_lt_t, zI_lt_f, zI_eq_t, zI_eq_f, zL_le_t, zL_le_f, zL_lt_t, zL_lt_f, zL_eq_t, zL_eq_f, zI_cl, zI_L, mI_t, Int.reduceToNat, nt_le_f, nt_le_t, lc_le, lc_lt, lc_gt, lc_eq, zI_div, Int.toNat_natCast, zI_max, zI_min, or_false, false_or, or_true, true_or, not_false_eq_true, not_true_eq_false, ↓reduceIte, and_self, and_true, true_and, and_false, false_and, not_or, gt_iff_lt, ge_iff_le, mBI_rI, mBJ_rJ, mBR_rV, mBR_rR, rZ_0, rZ_1, g6, e11, e2, ci, g4, cw, e_Text_scan_37 g hg]
      · rw [if_neg c2] at er
        have c3 : ¬ m = gX g := fun q => c2 (Or.inl q)
        have c4 : ¬ ltV y g m < 0 := fun q => c2 (Or.inr (Or.inl q))
        have s39 : k_Text_scan_7 g (zI (atV y g m : Int)) (zI (m : Int)) M J = k_Text_scan_39 g (zI (atV y g m : Int)) (zI (m : Int)) (zI (ltV y g m)) M J := by
          rw [e_Text_scan_7 g hg]
          by_cases c5 : g = 5
          · have c6 : ¬ dpV y g m m = true := fun q => c2 (Or.inr (Or.inr ⟨c5, q⟩))
            have cw := c_was hg (by omega) h14 (fun j hj => (h34 j hj).1) J
            rw [if_neg c6] at cw
            rw [if_pos c5] at g4
            simp (disch := omega) only [Int.reduceEq, Int.reduceLT, Int.reduceLE, Int.reduceAdd, Int.reduceMul, Int.reduceSub, Int.reduceNeg, Int.reduceDiv, li_0, li_1, li_2, li_3, li_4, li_5, li_6, li_7, li_8, li_9, li_10, li_16, li_20, li_22, li_32, li_36, li_39, li_40, li_42, li_48, li_60, li_67, li_69, li_70, li_71, li_76, li_77, li_80, li_83, li_86, li_90, li_100, li_120, li_200, li_209, li_234, li_240, li_255, li_300, li_309, li_310, ll_0, ll_1, ll_3, ll_5, ll_7, ll_8, ll_9, ll_20, ll_39, ll_40, ll_60, ll_100, ll_120, ll_200, ll_209, ll_300, ll_309, ll_600, ll_1000000000, zI_neg, zI_add, zI_sub, zI_mul, zL_add, zL_sub, zL_mul, zL_neg, zI_suc, zN_I, zI_ofNat, zI_le_t, zI_le_f, zI_lt_t, zI_lt_f, zI_eq_t, zI_eq_f, zL_le_t, zL_le_f, zL_lt_t, zL_lt_f, zL_eq_t, zL_eq_f, zI_cl, zI_L, mI_t, Int.reduceToNat, nt_le_f, nt_le_t, lc_le, lc_lt, lc_gt, lc_eq, zI_div, Int.toNat_natCast, zI_max, zI_min, or_false, false_or, or_true, true_or, not_false_eq_true, not_true_eq_false, ↓reduceIte, and_self, and_true, true_and, and_false, false_and, not_or, gt_iff_lt, ge_iff_le, mBI_rI, mBJ_rJ, mBR_rV, mBR_rR, rZ_0, rZ_1, g6, e11, e2, ci, g4, cw]
          · rw [if_neg c5] at g4
            simp (disch := omega) only [Int.reduceEq, Int.reduceLT, Int.reduceLE, Int.reduceAdd, Int.reduceMul, Int.reduceSub, Int.reduceNeg, Int.reduceDiv, li_0, li_1, li_2, li_3, li_4, li_5, li_6, li_7, li_8, li_9, li_10, li_16, li_20, li_22, li_32, li_36, li_39, li_40, li_42, li_48, li_60, li_67, li_69, li_70, li_71, li_76, li_77, li_80, li_83, li_86, li_90, li_100, li_120, li_200, li_209, li_234, li_240, li_255, li_300, li_309, li_310, ll_0, ll_1, ll_3, ll_5, ll_7, ll_8, ll_9, ll_20, ll_39, ll_40, ll_60, ll_100, ll_120, ll_200, ll_209, ll_300, ll_309, ll_600, ll_1000000000, zI_neg, zI_add, zI_sub, zI_mul, zL_add, zL_sub, zL_mul, zL_neg, zI_suc, zN_I, zI_ofNat, zI_le_t, zI_le_f, zI_lt_t, zI_lt_f, zI_eq_t, zI_eq_f, zL_le_t, zL_le_f, zL_lt_t, zL_lt_f, zL_eq_t, zL_eq_f, zI_cl, zI_L, mI_t, Int.reduceToNat, nt_le_f, nt_le_t, lc_le, lc_lt, lc_gt, lc_eq, zI_div, Int.toNat_natCast, zI_max, zI_min, or_false, false_or, or_true, true_or, not_false_eq_true, not_true_eq_false, ↓reduceIte, and_self, and_true, true_and, and_false, false_and, not_or, gt_iff_lt, ge_iff_le, mBI_rI, mBJ_rJ, mBR_rV, mBR_rR, rZ_0, rZ_1, g6, e11, e2, ci, g4]
        rw [s39]
        obtain ⟨l, hl⟩ : ∃ l : Nat, ltV y g m = (l : Int) := ⟨(ltV y g m).toNat, by omega⟩
        have hl2 : (ltV y g m).toNat = l := by omega
        have lk : l < gK g := by omega
        have cn := c_num hg (tb_of hg hk) hL e11 hc.2 hy.1.2 (j := l) (a := atV y g m + 1) (m := m) lk (by omega) (by omega) J
        have ef : flV (gD g l) (gL g l) (gM g l) (yB y) (yL y) (atV y g m + 1) = fmV y g m := by unfold fmV; rw [hl2]
        have en : nuV (gD g l) (yB y) (atV y g m + 1) = numV y g m := by unfold numV; rw [hl2]
        rw [ef, en] at cn
        have d2 := (gD_bd hg lk).1
        have fb : -9 ≤ fmV y g m ∧ fmV y g m ≤ 1000 := by
          unfold fmV flV
          repeat' split
          all_goals omega
        by_cases c5 : fmV y g m = -9
        · rw [if_neg (fun q => q c5)] at er
          rw [if_pos c5] at cn
          rw [c5] at cn
          have t2 := (tb_of hg hk l lk).1
          have ea : atV y g (m + 1) = atV y g m + 1 + gD g l := by
            show atV y g m + 1 + gD g (ltV y g m).toNat = _
            rw [hl2]
          obtain ⟨N, e, t, n14, n6, nj⟩ := c_scan7 hg hy J f (m + 1) (mUp (mUp (mUp M 4 m (zI (numV y g m))) 3 m (zI (l : Int))) 1 4 (zI ((m + 1 : Nat) : Int))) (by omega) (by omega) (hk.fr (fun p hp => by rw [up_nk (by omega), up_nk (by omega), up_nk (by omega)])) (hc.fr (by rw [up_ne (by omega), up_nk (by omega), up_nk (by omega)]) (by rw [up_nk (by omega), up_nk (by omega), up_nk (by omega)])) (up_at _ _ _ _) (by
            intro j hj
            refine ⟨?_, ?_⟩
            · rw [up_nk (by omega)]
              by_cases q : j = m
              · subst q; rw [up_at, hl]
              · rw [up_ne q, up_nk (by omega)]; exact (h34 j (by omega)).1
            · rw [up_nk (by omega), up_nk (by omega)]
              by_cases q : j = m
              · subst q; rw [up_at]
              · rw [up_ne q]; exact (h34 j (by omega)).2)
          rw [ea] at e
          rw [er]
          refine ⟨N, ?_, ⟨t.1.trans (by rw [up_ne (by omega), up_nk (by omega), up_nk (by omega)]), fun p p1 p3 p4 => (t.2 p p1 p3 p4).trans (by rw [up_nk p1, up_nk p3, up_nk p4])⟩, n14, n6, nj⟩
          rw [e_Text_scan_39 g hg, hl]
          have ia : (atV y g m : Int) + 1 = ((atV y g m + 1 : Nat) : Int) := by omega
          have ib : (atV y g m : Int) + (1 + (gD g l : Int)) = ((atV y g m + 1 + gD g l : Nat) : Int) := by omega
          have hkk := gK_e hg
          simp (disch := omega) only [Int.reduceEq, Int.reduceLT, Int.reduceLE, Int.reduceAdd, Int.reduceMul, Int.reduceSub, Int.reduceNeg, Int.reduceDiv, li_0, li_1, li_2, li_3, li_4, li_5, li_6, li_7, li_8, li_9, li_10, li_16, li_20, li_22, li_32, li_36, li_39, li_40, li_42, li_48, li_60, li_67, li_69, li_70, li_71, li_76, li_77, li_80, li_83, li_86, li_90, li_100, li_120, li_200, li_209, li_234, li_240, li_255, li_300, li_309, li_310, ll_0, ll_1, ll_3, ll_5, ll_7, ll_8, ll_9, ll_20, ll_39, ll_40, ll_60, ll_100, ll_120, ll_200, ll_209, ll_300, ll_309, ll_600, ll_1000000000, zI_neg, zI_add, zI_sub, zI_mul, zL_add, zL_sub, zL_mul, zL_neg, zI_suc, zN_I, zI_ofNat, zI_le_t, zI_le_f, zI_lt_t, zI_lt_f, zI_eq_t, zI_eq_f, zL_le_t, zL_le_f, zL_lt_t, zL_lt_f, zL_eq_t, zL_eq_f, zI_cl, zI_L, mI_t, Int.reduceToNat, nt_le_f, nt_le_t, lc_le, lc_lt, lc_gt, lc_eq, zI_div, Int.toNat_natCast, zI_max, zI_min, or_false, false_or, or_true, true_or, not_false_eq_true, not_true_eq_false, ↓reduceIte, and_self, and_true, true_and, and_false, false_and, not_or, gt_iff_lt, ge_iff_le, mBI_rI, mBJ_rJ, mBR_rV, mBR_rR, rZ_0, rZ_1, cn, hkk, up_nk, t2, ib, e]
        · rw [if_pos c5] at er
          rw [if_neg c5] at cn
          rw [er]
          refine ⟨M, ?_, ⟨rfl, fun _ _ _ _ => rfl⟩, h14, hm, h34⟩
          rw [e_Text_scan_39 g hg, hl]
          simp (disch := omega) only [Int.reduceEq, Int.reduceLT, Int.reduceLE, Int.reduceAdd, Int.reduceMul, Int.reduceSub, Int.reduceNeg, Int.reduceDiv, li_0, li_1, li_2, li_3, li_4, li_5, li_6, li_7, li_8, li_9, li_10, li_16, li_20, li_22, li_32, li_36, li_39, li_40, li_42, li_48, li_60, li_67, li_69, li_70, li_71, li_76, li_77, li_80, li_83, li_86, li_90, li_100, li_120, li_200, li_209, li_234, li_240, li_255, li_300, li_309, li_310, ll_0, ll_1, ll_3, ll_5, ll_7, ll_8, ll_9, ll_20, ll_39, ll_40, ll_60, ll_100, ll_120, ll_200, ll_209, ll_300, ll_309, ll_600, ll_1000000000, zI_neg, zI_add, zI_sub, zI_mul, zL_add, zL_sub, zL_mul, zL_neg, zI_suc, zN_I, zI_ofNat, zI_le_t, zI_le_f, zI_lt_t, zI_lt_f, zI_eq_t, zI_eq_f, zL_le_t, zL_le_f, zL_lt_t, zL_lt_f, zL_eq_t, zL_eq_f, zI_cl, zI_L, mI_t, Int.reduceToNat, nt_le_f, nt_le_t, lc_le, lc_lt, lc_gt, lc_eq, zI_div, Int.toNat_natCast, zI_max, zI_min, or_false, false_or, or_true, true_or, not_false_eq_true, not_true_eq_false, ↓reduceIte, and_self, and_true, true_and, and_false, false_and, not_or, gt_iff_lt, ge_iff_le, mBI_rI, mBJ_rJ, mBR_rV, mBR_rR, rZ_0, rZ_1, cn]
def anV (y : sS) (g : Nat) : Int := (rsT y g (gX g + 1) 0).1
def foV (y : sS) (g : Nat) : Nat := (rsT y g (gX g + 1) 0).2
theorem c_scan {g : Nat} (hg : g = 5 ∨ g = 6) {y : sS} (hy : yOk y) {M : mMI} {J : mMJ} (h : CI y M J) : ∃ N, k_Text_scan g M J = rI (zI (anV y g)) N J ∧ tF M N ∧ N 1 4 = zI (foV y g : Int) ∧ foV y g ≤ gX g ∧ (∀ j, j < foV y g → N 3 j = zI (ltV y g j) ∧ N 4 j = zI (numV y g j)) ∧ CI y N J := by
  obtain ⟨N, e, t, n14, n6, nj⟩ := c_scan7 hg hy J (gX g + 1) 0 (mUp M 1 4 (zI 0)) (by omega) (by omega) (h.1.fr (fun p hp => up_nk (by omega))) (h.2.1.fr (up_ne (by omega)) (up_nk (by omega))) (up_at _ _ _ _) (fun j hj => absurd hj (Nat.not_lt_zero j))
  have t2 : tF M N := ⟨t.1.trans (up_ne (by omega)), fun p p1 p3 p4 => (t.2 p p1 p3 p4).trans (up_nk p1)⟩
  refine ⟨N, ?_, t2, n14, n6, nj, ?_⟩
  · rw [e_Text_scan g hg]
    simp only [li_0, li_1, li_2, li_3, li_4, li_5, li_6, li_7, li_8, li_9, li_10, li_16, li_20, li_22, li_32, li_36, li_39, li_40, li_42, li_48, li_60, li_67, li_69, li_70, li_71, li_76, li_77, li_80, li_83, li_86, li_90, li_100, li_120, li_200, li_209, li_234, li_240, li_255, li_300, li_309, li_310, ll_0, ll_1, ll_3, ll_5, ll_7, ll_8, ll_9, ll_20, ll_39, ll_40, ll_60, ll_100, ll_120, ll_200, ll_209, ll_300, ll_309, ll_600, ll_1000000000, zI_neg, zI_add, zI_sub, zI_mul, zL_add, zL_sub, zL_mul, zL_neg, zI_suc, zN_I, zI_ofNat]
    exact e
  · refine h.co t2.1 (fun p hp => t2.2 p (by omega) (by omega) (by omega)) ?_
    unfold crH
    rw [t2.2 0 (by omega) (by omega) (by omega)]
    rcases h.2.2.2.2.2 with a6 | a6
    · exact Or.inl a6
    · exact Or.inr ⟨a6.1, a6.2.fr (t2.2 _ (by omega) (by omega) (by omega)) (t2.2 _ (by omega) (by omega) (by omega)) (t2.2 _ (by omega) (by omega) (by omega)) (t2.2 _ (by omega) (by omega) (by omega)) rfl⟩
