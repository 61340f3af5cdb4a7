/-! fault, rule -/
theorem rsT_ok (y : sS) (g : Nat) : ∀ (f m j : Nat), m ≤ j → j < (rsT y g f m).2 → fmV y g j = -9 ∧ 0 ≤ ltV y g j
  | 0, m, j, h1, h2 => by
    have h2 : j < m := h2
    omega
  | f + 1, m, j, h1, h2 => by
    have er : rsT y g (f + 1) m = if yL y ≤ atV y g m then ((if m < gW g then (yL y : Int) else -9), m)
      else if m = gX g ∨ ltV y g m < 0 ∨ (g = 5 ∧ dpV y g m m = true) then ((atV y g m : Int), m)
      else if ¬ fmV y g m = -9 then (fmV y g m, m) else rsT y g f (m + 1) := rfl
    rw [er] at h2
    split at h2
    · have h2 : j < m := h2
      omega
    · split at h2
      · have h2 : j < m := h2
        omega
      · rename_i q1 q2
        split at h2
        · have h2 : j < m := h2
          omega
        · rename_i q3
          by_cases e : j = m
          · subst e
            refine ⟨Classical.not_not.mp q3, ?_⟩
            have : ¬ ltV y g j < 0 := fun q => q2 (Or.inr (Or.inl q))
            omega
          · exact rsT_ok y g f (m + 1) j (by omega) h2
theorem rsT_w (y : sS) (g : Nat) : ∀ (f m : Nat), (rsT y g f m).1 = -9 → gW g ≤ (rsT y g f m).2
  | 0, m, h => absurd (show (0 : Int) = -9 from h) (by omega)
  | f + 1, m, h => by
    have er : rsT y g (f + 1) m = if yL y ≤ atV y g m then ((if m < gW g then (yL y : Int) else -9), m)
      else if m = gX g ∨ ltV y g m < 0 ∨ (g = 5 ∧ dpV y g m m = true) then ((atV y g m : Int), m)
      else if ¬ fmV y g m = -9 then (fmV y g m, m) else rsT y g f (m + 1) := rfl
    rw [er] at h ⊢
    split at h
    · rename_i q1
      rw [if_pos q1]
      have h : (if m < gW g then (yL y : Int) else -9) = -9 := h
      show gW g ≤ m
      split at h <;> omega
    · rename_i q1
      rw [if_neg q1]
      split at h
      · have h : (atV y g m : Int) = -9 := h
        omega
      · rename_i q2
        rw [if_neg q2]
        split at h
        · rename_i q3
          exact absurd h q3
        · rename_i q3
          rw [if_neg q3]
          exact rsT_w y g f (m + 1) h
theorem an_w {y : sS} {g : Nat} (h : anV y g = -9) : gW g ≤ foV y g := rsT_w y g _ _ h
theorem fo_ok {y : sS} {g j : Nat} (h : j < foV y g) : fmV y g j = -9 ∧ 0 ≤ ltV y g j := rsT_ok y g _ _ j (Nat.zero_le j) h
theorem an_bd {y : sS} (hy : yOk y) {g : Nat} (hg : g = 5 ∨ g = 6) : ∀ (f m : Nat), m ≤ 10 → -9 ≤ (rsT y g f m).1 ∧ (rsT y g f m).1 ≤ 1000000 ∨ 10 < m + f
  | 0, m, hm => Or.inl ⟨(by decide : (-9 : Int) ≤ 0), (by decide : (0 : Int) ≤ 1000000)⟩
  | f + 1, m, hm => by
    by_cases hx : 10 < m + (f + 1)
    · exact Or.inr hx
    left
    have hL := hy.1.1
    have al := atV_le hg y m
    have er : rsT y g (f + 1) m = if yL y ≤ atV y g m then ((if m < gW g then (yL y : Int) else -9), m)
      else if m = gX g ∨ ltV y g m < 0 ∨ (g = 5 ∧ dpV y g m m = true) then ((atV y g m : Int), m)
      else if ¬ fmV y g m = -9 then (fmV y g m, m) else rsT y g f (m + 1) := rfl
    rw [er]
    split
    · show -9 ≤ (if m < gW g then (yL y : Int) else -9) ∧ (if m < gW g then (yL y : Int) else -9) ≤ 1000000
      split <;> omega
    · split
      · show -9 ≤ (atV y g m : Int) ∧ (atV y g m : Int) ≤ 1000000
        omega
      · split
        · show -9 ≤ fmV y g m ∧ fmV y g m ≤ 1000000
          unfold fmV flV
          repeat' split
          all_goals omega
        · rcases an_bd hy hg f (m + 1) (by omega) with q | q
          · exact q
          · omega
theorem anV_bd {y : sS} (hy : yOk y) {g : Nat} (hg : g = 5 ∨ g = 6) : -9 ≤ anV y g ∧ anV y g ≤ 1000000 := by
  have x6 : gX g ≤ 6 := by unfold gX; split <;> omega
  rcases an_bd hy hg (gX g + 1) 0 (by omega) with q | q
  · exact q
  · omega
theorem MI.rd {y : sS} {M N : mMI} (h : MI y M) (hf : ∀ p, p ≠ 46 → p ≠ 49 → p ≠ 53 → p ≠ 54 → p ≠ 55 → N p = M p) (h2 : N 46 2 = M 46 2) (h7 : N 46 7 = M 46 7) : MI y N := by
  obtain ⟨a1, a2, a3, a4⟩ := h
  refine ⟨a1.fr h2 (hf 47 (by omega) (by omega) (by omega) (by omega) (by omega)), a2.fr h7 (hf _ (by omega) (by omega) (by omega) (by omega) (by omega)) (hf _ (by omega) (by omega) (by omega) (by omega) (by omega)) (hf _ (by omega) (by omega) (by omega) (by omega) (by omega)) (hf _ (by omega) (by omega) (by omega) (by omega) (by omega)) (hf _ (by omega) (by omega) (by omega) (by omega) (by omega)) (hf _ (by omega) (by omega) (by omega) (by omega) (by omega)), ?_, a4.fr (fun p _ _ => hf p (by omega) (by omega) (by omega) (by omega) (by omega))⟩
  rw [hf 62 (by omega) (by omega) (by omega) (by omega) (by omega)]
  exact a3
def a_fault (b : Int) (y : sS) : Int32 := zI (if b = 0 then anV y 5 else anV y 6)
theorem P_fault {b : Int} (hb : b = 0 ∨ b = 1) {y : sS} (hy : yOk y) {M : mMI} {J : mMJ} (h : CI y M J) : cE y M J (k_Pot_fault (zI b) M J) (a_fault b y) := by
  unfold a_fault
  rcases hb with rfl | rfl
  · obtain ⟨N, e, t, _, _, _, o⟩ := c_scan (g := 5) (Or.inl rfl) hy h
    refine ⟨N, J, ?_, o, fun p hp => t.2 p (by omega) (by omega) (by omega), fun _ _ => rfl⟩
    rw [e_Pot_fault]
    simp (disch := omega) only [Int.reduceEq, Int.reduceLT, Int.reduceLE, Int.reduceAdd, Int.reduceMul, Int.reduceSub, Int.reduceNeg, Int.reduceDiv, li_0, li_1, li_2, li_3, li_4, li_5, li_6, li_7, li_8, li_9, li_10, li_16, li_20, li_22, li_32, li_36, li_39, li_40, li_42, li_48, li_60, li_67, li_69, li_70, li_71, li_76, li_77, li_80, li_83, li_86, li_90, li_100, li_120, li_200, li_209, li_234, li_240, li_255, li_300, li_309, li_310, ll_0, ll_1, ll_3, ll_5, ll_7, ll_8, ll_9, ll_20, ll_39, ll_40, ll_60, ll_100, ll_120, ll_200, ll_209, ll_300, ll_309, ll_600, ll_1000000000, zI_neg, zI_add, zI_sub, zI_mul, zL_add, zL_sub, zL_mul, zL_neg, zI_suc, zN_I, zI_ofNat, zI_le_t, zI_le_f, zI_lt_t, zI_lt_f, zI_eq_t, zI_eq_f, zL_le_t, zL_le_f, zL_lt_t, zL_lt_f, zL_eq_t, zL_eq_f, zI_cl, zI_L, mI_t, Int.reduceToNat, nt_le_f, nt_le_t, lc_le, lc_lt, lc_gt, lc_eq, zI_div, Int.toNat_natCast, zI_max, zI_min, or_false, false_or, or_true, true_or, not_false_eq_true, not_true_eq_false, ↓reduceIte, and_self, and_true, true_and, and_false, false_and, not_or, gt_iff_lt, ge_iff_le, mBI_rI, mBJ_rJ, mBR_rV, mBR_rR, rZ_0, rZ_1, e]
  · obtain ⟨N, e, t, _, _, _, o⟩ := c_scan (g := 6) (Or.inr rfl) hy h
    refine ⟨N, J, ?_, o, fun p hp => t.2 p (by omega) (by omega) (by omega), fun _ _ => rfl⟩
    rw [e_Pot_fault]
    simp (disch := omega) only [Int.reduceEq, Int.reduceLT, Int.reduceLE, Int.reduceAdd, Int.reduceMul, Int.reduceSub, Int.reduceNeg, Int.reduceDiv, li_0, li_1, li_2, li_3, li_4, li_5, li_6, li_7, li_8, li_9, li_10, li_16, li_20, li_22, li_32, li_36, li_39, li_40, li_42, li_48, li_60, li_67, li_69, li_70, li_71, li_76, li_77, li_80, li_83, li_86, li_90, li_100, li_120, li_200, li_209, li_234, li_240, li_255, li_300, li_309, li_310, ll_0, ll_1, ll_3, ll_5, ll_7, ll_8, ll_9, ll_20, ll_39, ll_40, ll_60, ll_100, ll_120, ll_200, ll_209, ll_300, ll_309, ll_600, ll_1000000000, zI_neg, zI_add, zI_sub, zI_mul, zL_add, zL_sub, zL_mul, zL_neg, zI_suc, zN_I, zI_ofNat, zI_le_t, zI_le_f, zI_lt_t, zI_lt_f, zI_eq_t, zI_eq_f, zL_le_t, zL_le_f, zL_lt_t, zL_lt_f, zL_eq_t, zL_eq_f, zI_cl, zI_L, mI_t, Int.reduceToNat, nt_le_f, nt_le_t, lc_le, lc_lt, lc_gt, lc_eq, zI_div, Int.toNat_natCast, zI_max, zI_min, or_false, false_or, or_true, true_or, not_false_eq_true, not_true_eq_false, ↓reduceIte, and_self, and_true, true_and, and_false, false_and, not_or, gt_iff_lt, ge_iff_le, mBI_rI, mBJ_rJ, mBR_rV, mBR_rR, rZ_0, rZ_1, e]
theorem R_fault {b : Int} (hb : b = 0 ∨ b = 1) {y : sS} (hy : yOk y) {M : mMI} {J : mMJ} (h : MI y M) : mE y M J (k_Model_fault (zI b) M J) (a_fault b y) := by
  have h0 := h.u46 (i := 0) (by omega) (by omega) (zI 0)
  unfold a_fault
  rcases hb with rfl | rfl
  · obtain ⟨N, e, f, _, _⟩ := m_readRule hy h0 J
    refine ⟨N, J, ?_, h0.rd (fun p p1 p2 _ _ _ => f.1 p p1 p2) (f.2 2 (by omega) (by omega)) (f.2 7 (by omega) (by omega)), fun p hp => by rw [f.1 p (by omega) (by omega), up_nk (by omega)], fun _ _ => rfl⟩
    rw [e_Model_fault]
    simp (disch := omega) only [Int.reduceEq, Int.reduceLT, Int.reduceLE, Int.reduceAdd, Int.reduceMul, Int.reduceSub, Int.reduceNeg, Int.reduceDiv, li_0, li_1, li_2, li_3, li_4, li_5, li_6, li_7, li_8, li_9, li_10, li_16, li_20, li_22, li_32, li_36, li_39, li_40, li_42, li_48, li_60, li_67, li_69, li_70, li_71, li_76, li_77, li_80, li_83, li_86, li_90, li_100, li_120, li_200, li_209, li_234, li_240, li_255, li_300, li_309, li_310, ll_0, ll_1, ll_3, ll_5, ll_7, ll_8, ll_9, ll_20, ll_39, ll_40, ll_60, ll_100, ll_120, ll_200, ll_209, ll_300, ll_309, ll_600, ll_1000000000, zI_neg, zI_add, zI_sub, zI_mul, zL_add, zL_sub, zL_mul, zL_neg, zI_suc, zN_I, zI_ofNat, zI_le_t, zI_le_f, zI_lt_t, zI_lt_f, zI_eq_t, zI_eq_f, zL_le_t, zL_le_f, zL_lt_t, zL_lt_f, zL_eq_t, zL_eq_f, zI_cl, zI_L, mI_t, Int.reduceToNat, nt_le_f, nt_le_t, lc_le, lc_lt, lc_gt, lc_eq, zI_div, Int.toNat_natCast, zI_max, zI_min, or_false, false_or, or_true, true_or, not_false_eq_true, not_true_eq_false, ↓reduceIte, and_self, and_true, true_and, and_false, false_and, not_or, gt_iff_lt, ge_iff_le, mBI_rI, mBJ_rJ, mBR_rV, mBR_rR, rZ_0, rZ_1, e]
  · obtain ⟨N, e, f, _, _⟩ := m_readGroup hy h0 J
    refine ⟨N, J, ?_, h0.rd (fun p p1 _ p2 p3 p4 => f.1 p p1 p2 p3 p4) (f.2 2 (by omega) (by omega)) (f.2 7 (by omega) (by omega)), fun p hp => by rw [f.1 p (by omega) (by omega) (by omega) (by omega), up_nk (by omega)], fun _ _ => rfl⟩
    rw [e_Model_fault]
    simp (disch := omega) only [Int.reduceEq, Int.reduceLT, Int.reduceLE, Int.reduceAdd, Int.reduceMul, Int.reduceSub, Int.reduceNeg, Int.reduceDiv, li_0, li_1, li_2, li_3, li_4, li_5, li_6, li_7, li_8, li_9, li_10, li_16, li_20, li_22, li_32, li_36, li_39, li_40, li_42, li_48, li_60, li_67, li_69, li_70, li_71, li_76, li_77, li_80, li_83, li_86, li_90, li_100, li_120, li_200, li_209, li_234, li_240, li_255, li_300, li_309, li_310, ll_0, ll_1, ll_3, ll_5, ll_7, ll_8, ll_9, ll_20, ll_39, ll_40, ll_60, ll_100, ll_120, ll_200, ll_209, ll_300, ll_309, ll_600, ll_1000000000, zI_neg, zI_add, zI_sub, zI_mul, zL_add, zL_sub, zL_mul, zL_neg, zI_suc, zN_I, zI_ofNat, zI_le_t, zI_le_f, zI_lt_t, zI_lt_f, zI_eq_t, zI_eq_f, zL_le_t, zL_le_f, zL_lt_t, zL_lt_f, zL_eq_t, zL_eq_f, zI_cl, zI_L, mI_t, Int.reduceToNat, nt_le_f, nt_le_t, lc_le, lc_lt, lc_gt, lc_eq, zI_div, Int.toNat_natCast, zI_max, zI_min, or_false, false_or, or_true, true_or, not_false_eq_true, not_true_eq_false, ↓reduceIte, and_self, and_true, true_and, and_false, false_and, not_or, gt_iff_lt, ge_iff_le, mBI_rI, mBJ_rJ, mBR_rV, mBR_rR, rZ_0, rZ_1, e]
/-- rule -/
theorem rl_bd {y : sS} : ∀ m, (∀ j, j < m → fmV y 5 j = -9 ∧ 0 ≤ ltV y 5 j) → ∀ k, k < 4 → gL 5 k ≤ rlV y m k ∧ rlV y m k ≤ gM 5 k
  | 0, _, k, hk => by
    show gL 5 k ≤ ([20, 16, 0, 1] : List Int).getD k 0 ∧ ([20, 16, 0, 1] : List Int).getD k 0 ≤ gM 5 k
    rcases (show k = 0 ∨ k = 1 ∨ k = 2 ∨ k = 3 by omega) with rfl | rfl | rfl | rfl <;> decide +kernel
  | m + 1, h, k, hk => by
    have ih := rl_bd m (fun j hj => h j (by omega)) k hk
    show gL 5 k ≤ upO (rlV y m) (ltV y 5 m).toNat (numV y 5 m) k ∧ upO (rlV y m) (ltV y 5 m).toNat (numV y 5 m) k ≤ gM 5 k
    unfold upO
    by_cases c : k = (ltV y 5 m).toNat
    · rw [if_pos c]
      have q := (h m (by omega)).1
      have dd := gD_bd (Or.inl rfl) (ln_bd y 5 m)
      rcases fl_nu q dd.1 with ⟨d0, _⟩ | ⟨_, d1, d2⟩
      · exfalso
        rw [← c] at d0
        rcases (show k = 0 ∨ k = 1 ∨ k = 2 ∨ k = 3 by omega) with rfl | rfl | rfl | rfl
        all_goals exact absurd d0 (by decide +kernel)
      · rw [c]
        exact ⟨d1, d2⟩
    · rw [if_neg c]
      exact ih
noncomputable def nRule (y : sS) : sS := @ite _ (anV y 5 = -9) (Classical.propDecidable _) (sRu y (rlV y (foV y 5))) y
def aRule (y : sS) : Int32 := zI (if anV y 5 = -9 then (foV y 5 : Int) else -3)
theorem nRule_ok (y : sS) (hy : yOk y) : yOk (nRule y) := by
  unfold nRule
  split
  · obtain ⟨a1, a2, a3⟩ := hy
    have b := rl_bd (foV y 5) (fun j hj => fo_ok hj)
    exact ⟨a1, ⟨a2.1, b 0 (by omega), b 1 (by omega), b 2 (by omega), b 3 (by omega), a2.2.2.2.2.2⟩, a3⟩
  · exact hy
theorem P_rule {y : sS} (hy : yOk y) {M : mMI} {J : mMJ} (h : CI y M J) : cE (nRule y) M J (k_Pot_rule M J) (aRule y) := by
  obtain ⟨N, e, t, n14, n4, nj, o⟩ := c_scan (g := 5) (Or.inl rfl) hy h
  have ab := anV_bd hy (g := 5) (Or.inl rfl)
  have n4 : foV y 5 ≤ 4 := n4
  rw [e_Pot_rule]
  unfold aRule nRule
  by_cases c : anV y 5 = -9
  · rw [if_pos c, if_pos c]
    rw [c] at e
    have k4 := o.1.2.1
    have key : ∃ N2, k_Setup_takeRuleText N J = rV N2 J ∧ fR [8] N N2 ∧ ∀ j, j < 4 → N2 8 j = zI (rlV y (foV y 5) j) := by
      rw [e_Setup_takeRuleText]
      simp (disch := omega) only [Int.reduceEq, Int.reduceLT, Int.reduceLE, Int.reduceAdd, Int.reduceMul, Int.reduceSub, Int.reduceNeg, Int.reduceDiv, li_0, li_1, li_2, li_3, li_4, li_5, li_6, li_7, li_8, li_9, li_10, li_16, li_20, li_22, li_32, li_36, li_39, li_40, li_42, li_48, li_60, li_67, li_69, li_70, li_71, li_76, li_77, li_80, li_83, li_86, li_90, li_100, li_120, li_200, li_209, li_234, li_240, li_255, li_300, li_309, li_310, ll_0, ll_1, ll_3, ll_5, ll_7, ll_8, ll_9, ll_20, ll_39, ll_40, ll_60, ll_100, ll_120, ll_200, ll_209, ll_300, ll_309, ll_600, ll_1000000000, zI_neg, zI_add, zI_sub, zI_mul, zL_add, zL_sub, zL_mul, zL_neg, zI_suc, zN_I, zI_ofNat, zI_le_t, zI_le_f, zI_lt_t, zI_lt_f, zI_eq_t, zI_eq_f, zL_le_t, zL_le_f, zL_lt_t, zL_lt_f, zL_eq_t, zL_eq_f, zI_cl, zI_L, mI_t, Int.reduceToNat, nt_le_f, nt_le_t, lc_le, lc_lt, lc_gt, lc_eq, zI_div, Int.toNat_natCast, zI_max, zI_min, or_false, false_or, or_true, true_or, not_false_eq_true, not_true_eq_false, ↓reduceIte, and_self, and_true, true_and, and_false, false_and, not_or, gt_iff_lt, ge_iff_le, mBI_rI, mBJ_rJ, mBR_rV, mBR_rR, rZ_0, rZ_1]
      refine lp_Q (α := mMI) (fun N2 m => k_Setup_takeRuleText_9 (zI (m : Int)) N2 J) (fun m N2 => fR [8] N N2 ∧ ∀ j, j < 4 → N2 8 j = zI (rlV y m j)) (fun o => ∃ N2, o = rV N2 J ∧ fR [8] N N2 ∧ ∀ j, j < 4 → N2 8 j = zI (rlV y (foV y 5) j)) (foV y 5) ?_ ?_ _ ⟨fR.set (by simp), ?_⟩
      · intro m N2 hm ⟨i1, i2⟩
        right
        have q := fo_ok hm
        have bm := lt_bd y 5 m
        have k4 : (gK 5 : Int) = 4 := rfl
        rw [k4] at bm
        have e14 : N2 1 4 = zI (foV y 5 : Int) := by rw [i1 1 (by simp)]; exact n14
        have e3 : N2 3 m = zI (ltV y 5 m) := by rw [i1 3 (by simp)]; exact (nj m hm).1
        have e4 : N2 4 m = zI (numV y 5 m) := by rw [i1 4 (by simp)]; exact (nj m hm).2
        refine ⟨mUp N2 8 (ltV y 5 m).toNat (zI (numV y 5 m)), ⟨i1.tr (fR.up (by simp)), fun j hj => ?_⟩, ?_⟩
        · show _ = zI (upO (rlV y m) (ltV y 5 m).toNat (numV y 5 m) j)
          unfold upO
          by_cases x : j = (ltV y 5 m).toNat
          · rw [if_pos x, x, up_at]
          · rw [if_neg x, up_ne x]; exact i2 j hj
        · rw [e_Setup_takeRuleText_9]
          simp (disch := omega) only [Int.reduceEq, Int.reduceLT, Int.reduceLE, Int.reduceAdd, Int.reduceMul, Int.reduceSub, Int.reduceNeg, Int.reduceDiv, li_0, li_1, li_2, li_3, li_4, li_5, li_6, li_7, li_8, li_9, li_10, li_16, li_20, li_22, li_32, li_36, li_39, li_40, li_42, li_48, li_60, li_67, li_69, li_70, li_71, li_76, li_77, li_80, li_83, li_86, li_90, li_100, li_120, li_200, li_209, li_234, li_240, li_255, li_300, li_309, li_310, ll_0, ll_1, ll_3, ll_5, ll_7, ll_8, ll_9, ll_20, ll_39, ll_40, ll_60, ll_100, ll_120, ll_200, ll_209, ll_300, ll_309, ll_600, ll_1000000000, zI_neg, zI_add, zI_sub, zI_mul, zL_add, zL_sub, zL_mul, zL_neg, zI_suc, zN_I, zI_ofNat, zI_le_t, zI_le_f, zI_lt_t, zI_lt_f, zI_eq_t, zI_eq_f, zL_le_t, zL_le_f, zL_lt_t, zL_lt_f, zL_eq_t, zL_eq_f, zI_cl, zI_L, mI_t, Int.reduceToNat, nt_le_f, nt_le_t, lc_le, lc_lt, lc_gt, lc_eq, zI_div, Int.toNat_natCast, zI_max, zI_min, or_false, false_or, or_true, true_or, not_false_eq_true, not_true_eq_false, ↓reduceIte, and_self, and_true, true_and, and_false, false_and, not_or, gt_iff_lt, ge_iff_le, mBI_rI, mBJ_rJ, mBR_rV, mBR_rR, rZ_0, rZ_1, e14, e3, e4]
      · intro N2 ⟨i1, i2⟩
        have e14 : N2 1 4 = zI (foV y 5 : Int) := by rw [i1 1 (by simp)]; exact n14
        refine ⟨N2, ?_, i1, i2⟩
        rw [e_Setup_takeRuleText_9]
        simp (disch := omega) only [Int.reduceEq, Int.reduceLT, Int.reduceLE, Int.reduceAdd, Int.reduceMul, Int.reduceSub, Int.reduceNeg, Int.reduceDiv, li_0, li_1, li_2, li_3, li_4, li_5, li_6, li_7, li_8, li_9, li_10, li_16, li_20, li_22, li_32, li_36, li_39, li_40, li_42, li_48, li_60, li_67, li_69, li_70, li_71, li_76, li_77, li_80, li_83, li_86, li_90, li_100, li_120, li_200, li_209, li_234, li_240, li_255, li_300, li_309, li_310, ll_0, ll_1, ll_3, ll_5, ll_7, ll_8, ll_9, ll_20, ll_39, ll_40, ll_60, ll_100, ll_120, ll_200, ll_209, ll_300, ll_309, ll_600, ll_1000000000, zI_neg, zI_add, zI_sub, zI_mul, zL_add, zL_sub, zL_mul, zL_neg, zI_suc, zN_I, zI_ofNat, zI_le_t, zI_le_f, zI_lt_t, zI_lt_f, zI_eq_t, zI_eq_f, zL_le_t, zL_le_f, zL_lt_t, zL_lt_f, zL_eq_t, zL_eq_f, zI_cl, zI_L, mI_t, Int.reduceToNat, nt_le_f, nt_le_t, lc_le, lc_lt, lc_gt, lc_eq, zI_div, Int.toNat_natCast, zI_max, zI_min, or_false, false_or, or_true, true_or, not_false_eq_true, not_true_eq_false, ↓reduceIte, and_self, and_true, true_and, and_false, false_and, not_or, gt_iff_lt, ge_iff_le, mBI_rI, mBJ_rJ, mBR_rV, mBR_rR, rZ_0, rZ_1, e14]
      · intro j hj
        rw [set_at, cpy_at (by omega), k4]
        show ([20, 16, 0, 1] : List Int32).getD j 0 = zI (([20, 16, 0, 1] : List Int).getD j 0)
        rcases (show j = 0 ∨ j = 1 ∨ j = 2 ∨ j = 3 by omega) with rfl | rfl | rfl | rfl <;> decide +kernel
    obtain ⟨N2, e2, f2, r2⟩ := key
    have e14 : N2 1 4 = zI (foV y 5 : Int) := by rw [f2 1 (by simp)]; exact n14
    refine ⟨mUp N2 0 9 (zI 1), J, ?_, ?_, fun p hp => by rw [up_nk (by omega), f2 p (by simp; omega), t.2 p (by omega) (by omega) (by omega)], fun _ _ => rfl⟩
    · simp (disch := omega) only [Int.reduceEq, Int.reduceLT, Int.reduceLE, Int.reduceAdd, Int.reduceMul, Int.reduceSub, Int.reduceNeg, Int.reduceDiv, li_0, li_1, li_2, li_3, li_4, li_5, li_6, li_7, li_8, li_9, li_10, li_16, li_20, li_22, li_32, li_36, li_39, li_40, li_42, li_48, li_60, li_67, li_69, li_70, li_71, li_76, li_77, li_80, li_83, li_86, li_90, li_100, li_120, li_200, li_209, li_234, li_240, li_255, li_300, li_309, li_310, ll_0, ll_1, ll_3, ll_5, ll_7, ll_8, ll_9, ll_20, ll_39, ll_40, ll_60, ll_100, ll_120, ll_200, ll_209, ll_300, ll_309, ll_600, ll_1000000000, zI_neg, zI_add, zI_sub, zI_mul, zL_add, zL_sub, zL_mul, zL_neg, zI_suc, zN_I, zI_ofNat, zI_le_t, zI_le_f, zI_lt_t, zI_lt_f, zI_eq_t, zI_eq_f, zL_le_t, zL_le_f, zL_lt_t, zL_lt_f, zL_eq_t, zL_eq_f, zI_cl, zI_L, mI_t, Int.reduceToNat, nt_le_f, nt_le_t, lc_le, lc_lt, lc_gt, lc_eq, zI_div, Int.toNat_natCast, zI_max, zI_min, or_false, false_or, or_true, true_or, not_false_eq_true, not_true_eq_false, ↓reduceIte, and_self, and_true, true_and, and_false, false_and, not_or, gt_iff_lt, ge_iff_le, mBI_rI, mBJ_rJ, mBR_rV, mBR_rR, rZ_0, rZ_1, e, e2, e14]
    · obtain ⟨a1, a2, a3, a4, a5, a6⟩ := o
      have fr : ∀ p, p ≠ 0 → p ≠ 8 → mUp N2 0 9 (zI 1) p = N p := fun p p1 p2 => by rw [up_nk p1, f2 p (by simp; omega)]
      refine ⟨a1.fr (fun p hp => fr p (by omega) (by omega)), a2.fr (by rw [fr 1 (by omega) (by omega)]) (fr 2 (by omega) (by omega)), ?_, a4.fr (fr 36 (by omega) (by omega)), a5.fr (fun p _ _ => fr p (by omega) (by omega)), Or.inl (up_at _ _ _ _)⟩
      obtain ⟨b1, b2, b3, b4, b5⟩ := a3
      refine ⟨?_, fun j hj => ?_, ?_, ?_, ?_⟩
      · rw [fr _ (by omega) (by omega)]; exact b1
      · show mUp N2 0 9 (zI 1) 8 j = _
        rw [up_nk (by omega)]; exact r2 j hj
      · rw [fr _ (by omega) (by omega), fr _ (by omega) (by omega), fr _ (by omega) (by omega)]; exact b3
      · rw [fr _ (by omega) (by omega)]; exact b4
      · rw [fr _ (by omega) (by omega)]; exact b5
  · rw [if_neg c, if_neg c]
    refine ⟨N, J, ?_, o, fun p hp => t.2 p (by omega) (by omega) (by omega), fun _ _ => rfl⟩
    simp (disch := omega) only [Int.reduceEq, Int.reduceLT, Int.reduceLE, Int.reduceAdd, Int.reduceMul, Int.reduceSub, Int.reduceNeg, Int.reduceDiv, li_0, li_1, li_2, li_3, li_4, li_5, li_6, li_7, li_8, li_9, li_10, li_16, li_20, li_22, li_32, li_36, li_39, li_40, li_42, li_48, li_60, li_67, li_69, li_70, li_71, li_76, li_77, li_80, li_83, li_86, li_90, li_100, li_120, li_200, li_209, li_234, li_240, li_255, li_300, li_309, li_310, ll_0, ll_1, ll_3, ll_5, ll_7, ll_8, ll_9, ll_20, ll_39, ll_40, ll_60, ll_100, ll_120, ll_200, ll_209, ll_300, ll_309, ll_600, ll_1000000000, zI_neg, zI_add, zI_sub, zI_mul, zL_add, zL_sub, zL_mul, zL_neg, zI_suc, zN_I, zI_ofNat, zI_le_t, zI_le_f, zI_lt_t, zI_lt_f, zI_eq_t, zI_eq_f, zL_le_t, zL_le_f, zL_lt_t, zL_lt_f, zL_eq_t, zL_eq_f, zI_cl, zI_L, mI_t, Int.reduceToNat, nt_le_f, nt_le_t, lc_le, lc_lt, lc_gt, lc_eq, zI_div, Int.toNat_natCast, zI_max, zI_min, or_false, false_or, or_true, true_or, not_false_eq_true, not_true_eq_false, ↓reduceIte, and_self, and_true, true_and, and_false, false_and, not_or, gt_iff_lt, ge_iff_le, mBI_rI, mBJ_rJ, mBR_rV, mBR_rR, rZ_0, rZ_1, e]
theorem R_rule {y : sS} (hy : yOk y) {M : mMI} {J : mMJ} (h : MI y M) : mE (nRule y) M J (k_Model_rule M J) (aRule y) := by
  have h0 := h.u46 (i := 0) (by omega) (by omega) (zI 0)
  obtain ⟨N, e, f, n6, n49⟩ := m_readRule hy h0 J
  have ab := anV_bd hy (g := 5) (Or.inl rfl)
  have hN : MI y N := h0.rd (fun p p1 p2 _ _ _ => f.1 p p1 p2) (f.2 2 (by omega) (by omega)) (f.2 7 (by omega) (by omega))
  have fM : ∀ p, p < 46 ∨ 70 ≤ p → N p = M p := fun p hp => by rw [f.1 p (by omega) (by omega), up_nk (by omega)]
  rw [e_Model_rule]
  unfold aRule nRule
  by_cases c : anV y 5 = -9
  · rw [if_pos c, if_pos c]
    rw [c] at e
    obtain ⟨N2, e2, f2, r2⟩ := m_cpz (P := 48) (Q := 49) (by omega) 0 (M := N) (fun N2 j => k_Model_rule_11 (zI (j : Int)) N2 J) 4 (by
      intro N2 j hj hf
      show k_Model_rule_11 (zI (j : Int)) N2 J = _
      rw [e_Model_rule_11, ← hf 49 (by simp)]
      simp (disch := omega) only [Int.reduceEq, Int.reduceLT, Int.reduceLE, Int.reduceAdd, Int.reduceMul, Int.reduceSub, Int.reduceNeg, Int.reduceDiv, li_0, li_1, li_2, li_3, li_4, li_5, li_6, li_7, li_8, li_9, li_10, li_16, li_20, li_22, li_32, li_36, li_39, li_40, li_42, li_48, li_60, li_67, li_69, li_70, li_71, li_76, li_77, li_80, li_83, li_86, li_90, li_100, li_120, li_200, li_209, li_234, li_240, li_255, li_300, li_309, li_310, ll_0, ll_1, ll_3, ll_5, ll_7, ll_8, ll_9, ll_20, ll_39, ll_40, ll_60, ll_100, ll_120, ll_200, ll_209, ll_300, ll_309, ll_600, ll_1000000000, zI_neg, zI_add, zI_sub, zI_mul, zL_add, zL_sub, zL_mul, zL_neg, zI_suc, zN_I, zI_ofNat, zI_le_t, zI_le_f, zI_lt_t, zI_lt_f, zI_eq_t, zI_eq_f, zL_le_t, zL_le_f, zL_lt_t, zL_lt_f, zL_eq_t, zL_eq_f, zI_cl, zI_L, mI_t, Int.reduceToNat, nt_le_f, nt_le_t, lc_le, lc_lt, lc_gt, lc_eq, zI_div, Int.toNat_natCast, zI_max, zI_min, or_false, false_or, or_true, true_or, not_false_eq_true, not_true_eq_false, ↓reduceIte, and_self, and_true, true_and, and_false, false_and, not_or, gt_iff_lt, ge_iff_le, mBI_rI, mBJ_rJ, mBR_rV, mBR_rR, rZ_0, rZ_1, Nat.zero_add])
    have e6 : N2 46 6 = zI (foV y 5 : Int) := by rw [f2 46 (by simp)]; exact n6
    refine ⟨N2, J, ?_, ?_, fun p hp => by rw [f2 p (by simp; omega), fM p hp], fun _ _ => rfl⟩
    · simp (disch := omega) only [Int.reduceEq, Int.reduceLT, Int.reduceLE, Int.reduceAdd, Int.reduceMul, Int.reduceSub, Int.reduceNeg, Int.reduceDiv, li_0, li_1, li_2, li_3, li_4, li_5, li_6, li_7, li_8, li_9, li_10, li_16, li_20, li_22, li_32, li_36, li_39, li_40, li_42, li_48, li_60, li_67, li_69, li_70, li_71, li_76, li_77, li_80, li_83, li_86, li_90, li_100, li_120, li_200, li_209, li_234, li_240, li_255, li_300, li_309, li_310, ll_0, ll_1, ll_3, ll_5, ll_7, ll_8, ll_9, ll_20, ll_39, ll_40, ll_60, ll_100, ll_120, ll_200, ll_209, ll_300, ll_309, ll_600, ll_1000000000, zI_neg, zI_add, zI_sub, zI_mul, zL_add, zL_sub, zL_mul, zL_neg, zI_suc, zN_I, zI_ofNat, zI_le_t, zI_le_f, zI_lt_t, zI_lt_f, zI_eq_t, zI_eq_f, zL_le_t, zL_le_f, zL_lt_t, zL_lt_f, zL_eq_t, zL_eq_f, zI_cl, zI_L, mI_t, Int.reduceToNat, nt_le_f, nt_le_t, lc_le, lc_lt, lc_gt, lc_eq, zI_div, Int.toNat_natCast, zI_max, zI_min, or_false, false_or, or_true, true_or, not_false_eq_true, not_true_eq_false, ↓reduceIte, and_self, and_true, true_and, and_false, false_and, not_or, gt_iff_lt, ge_iff_le, mBI_rI, mBJ_rJ, mBR_rV, mBR_rR, rZ_0, rZ_1, e]
      refine Eq.trans e2 ?_
      show k_Model_rule_11 (zI ((4 : Nat) : Int)) N2 J = _
      rw [e_Model_rule_11]
      simp (disch := omega) only [Int.reduceEq, Int.reduceLT, Int.reduceLE, Int.reduceAdd, Int.reduceMul, Int.reduceSub, Int.reduceNeg, Int.reduceDiv, li_0, li_1, li_2, li_3, li_4, li_5, li_6, li_7, li_8, li_9, li_10, li_16, li_20, li_22, li_32, li_36, li_39, li_40, li_42, li_48, li_60, li_67, li_69, li_70, li_71, li_76, li_77, li_80, li_83, li_86, li_90, li_100, li_120, li_200, li_209, li_234, li_240, li_255, li_300, li_309, li_310, ll_0, ll_1, ll_3, ll_5, ll_7, ll_8, ll_9, ll_20, ll_39, ll_40, ll_60, ll_100, ll_120, ll_200, ll_209, ll_300, ll_309, ll_600, ll_1000000000, zI_neg, zI_add, zI_sub, zI_mul, zL_add, zL_sub, zL_mul, zL_neg, zI_suc, zN_I, zI_ofNat, zI_le_t, zI_le_f, zI_lt_t, zI_lt_f, zI_eq_t, zI_eq_f, zL_le_t, zL_le_f, zL_lt_t, zL_lt_f, zL_eq_t, zL_eq_f, zI_cl, zI_L, mI_t, Int.reduceToNat, nt_le_f, nt_le_t, lc_le, lc_lt, lc_gt, lc_eq, zI_div, Int.toNat_natCast, zI_max, zI_min, or_false, false_or, or_true, true_or, not_false_eq_true, not_true_eq_false, ↓reduceIte, and_self, and_true, true_and, and_false, false_and, not_or, gt_iff_lt, ge_iff_le, mBI_rI, mBJ_rJ, mBR_rV, mBR_rR, rZ_0, rZ_1, e6]
    · obtain ⟨a1, a2, a3, a4⟩ := hN
      refine ⟨a1.fr (by rw [f2 46 (by simp)]) (f2 47 (by simp)), ?_, ?_, a4.fr (fun p _ _ => f2 p (by simp; omega))⟩
      · obtain ⟨b1, b2, b3, b4, b5⟩ := a2
        refine ⟨?_, fun j hj => ?_, ?_, ?_, ?_⟩
        · rw [f2 46 (by simp)]; exact b1
        · rw [r2 j hj, Nat.zero_add]; exact n49 j hj
        · rw [f2 50 (by simp), f2 51 (by simp), f2 52 (by simp)]; exact b3
        · rw [f2 57 (by simp)]; exact b4
        · rw [f2 56 (by simp)]; exact b5
      · rw [f2 62 (by simp)]; exact a3
  · rw [if_neg c, if_neg c]
    refine ⟨N, J, ?_, hN, fM, fun _ _ => rfl⟩
    simp (disch := omega) only [Int.reduceEq, Int.reduceLT, Int.reduceLE, Int.reduceAdd, Int.reduceMul, Int.reduceSub, Int.reduceNeg, Int.reduceDiv, li_0, li_1, li_2, li_3, li_4, li_5, li_6, li_7, li_8, li_9, li_10, li_16, li_20, li_22, li_32, li_36, li_39, li_40, li_42, li_48, li_60, li_67, li_69, li_70, li_71, li_76, li_77, li_80, li_83, li_86, li_90, li_100, li_120, li_200, li_209, li_234, li_240, li_255, li_300, li_309, li_310, ll_0, ll_1, ll_3, ll_5, ll_7, ll_8, ll_9, ll_20, ll_39, ll_40, ll_60, ll_100, ll_120, ll_200, ll_209, ll_300, ll_309, ll_600, ll_1000000000, zI_neg, zI_add, zI_sub, zI_mul, zL_add, zL_sub, zL_mul, zL_neg, zI_suc, zN_I, zI_ofNat, zI_le_t, zI_le_f, zI_lt_t, zI_lt_f, zI_eq_t, zI_eq_f, zL_le_t, zL_le_f, zL_lt_t, zL_lt_f, zL_eq_t, zL_eq_f, zI_cl, zI_L, mI_t, Int.reduceToNat, nt_le_f, nt_le_t, lc_le, lc_lt, lc_gt, lc_eq, zI_div, Int.toNat_natCast, zI_max, zI_min, or_false, false_or, or_true, true_or, not_false_eq_true, not_true_eq_false, ↓reduceIte, and_self, and_true, true_and, and_false, false_and, not_or, gt_iff_lt, ge_iff_le, mBI_rI, mBJ_rJ, mBR_rV, mBR_rR, rZ_0, rZ_1, e]
