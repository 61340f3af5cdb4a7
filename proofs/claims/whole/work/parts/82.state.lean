/-! THE STATE, as the class and as the reference hold it -/
def mkW (R : Nat → Int) (n : Nat) (A T : Nat → Nat → Int) (O : Nat → Int) : wW := (R, n, fun j k => if j = 3 then O k else A j k, fun k t => nT (R 0) (T k t))
def okTO (n : Nat) (T : Nat → Nat → Int) (O : Nat → Int) : Prop := (∀ k, k < 6 → 0 ≤ O k ∧ O k ≤ 40) ∧ (∀ k t, k < 6 → t < 40 → T k t = -9 ∨ (0 ≤ T k t ∧ T k t ≤ 20)) ∧ 2 ≤ sm n (fun k => if ((39 : Nat) : Int) < O k then 1 else 0)
def okRA (R : Nat → Int) (n : Nat) (A : Nat → Nat → Int) : Prop := (2 ≤ n ∧ n ≤ 6) ∧ (1 ≤ R 0 ∧ R 0 ≤ 20) ∧ (0 ≤ R 1 ∧ R 1 ≤ 60) ∧ (0 ≤ R 2 ∧ R 2 ≤ 9) ∧ (1 ≤ R 3 ∧ R 3 ≤ 9) ∧ (∀ k, k < n → (0 ≤ A 0 k ∧ A 0 k ≤ 6) ∧ (0 ≤ A 1 k ∧ A 1 k ≤ 20) ∧ (0 ≤ A 2 k ∧ A 2 k ≤ 9))
theorem wOk_mk {R : Nat → Int} {n : Nat} {A T : Nat → Nat → Int} {O : Nat → Int} (h : okRA R n A) (h2 : okTO n T O) : wOk (mkW R n A T O) := by
  obtain ⟨h1, h3, h4, h5, h6, h7⟩ := h
  obtain ⟨g1, g2, g3⟩ := h2
  refine ⟨h1, h3, h4, h5, h6, fun k hk => ⟨(h7 k hk).1, (h7 k hk).2.1, (h7 k hk).2.2, g1 k (by have : k < n := hk; omega)⟩, fun k t hk ht => ?_, g3⟩
  have hk : k < n := hk
  have c := g2 k t (by omega) ht
  show nT (R 0) (T k t) = -9 ∨ (0 ≤ nT (R 0) (T k t) ∧ nT (R 0) (T k t) ≤ R 0)
  unfold nT
  split <;> omega
/-- the base of a Setup at s -/
def sbH (s : Nat) (R : Nat → Int) (n : Nat) (A T : Nat → Nat → Int) (O : Nat → Int) (M : mMI) : Prop := M s 1 = zI (n : Int) ∧ (∀ j, j < 4 → M (s + 1) j = zI (R j)) ∧ (∀ k, k < n → M (s + 2) k = zI (A 0 k) ∧ M (s + 3) k = zI (A 1 k) ∧ M (s + 4) k = zI (A 2 k)) ∧ (∀ k, k < 6 → M (s + 6) k = zI (O k)) ∧ (∀ k t, k < 6 → t < 40 → M (s + 5) (6 * t + k) = zI (T k t))
theorem sbH.su {s : Nat} {R : Nat → Int} {n : Nat} {A T : Nat → Nat → Int} {O : Nat → Int} {M : mMI} (h : sbH s R n A T O M) (h1 : okRA R n A) (h2 : okTO n T O) : suH s (mkW R n A T O) M := by
  obtain ⟨a1, a2, a3, a4, a5⟩ := h
  have hn := h1.1
  refine ⟨a1, a2, fun k hk => ?_, fun k t hk ht => ?_⟩
  · have hk : k < n := hk
    have b := a3 k hk
    exact ⟨b.1, b.2.1, b.2.2, a4 k (by omega)⟩
  · have hk : k < n := hk
    exact ⟨T k t, h2.2.1 k t (by omega) ht, a5 k t (by omega) ht, rfl⟩
theorem sbH.fr {s : Nat} {R : Nat → Int} {n : Nat} {A T : Nat → Nat → Int} {O : Nat → Int} {M N : mMI} (h : sbH s R n A T O M) (hf : ∀ p, s ≤ p → p ≤ s + 6 → N p = M p) : sbH s R n A T O N := by
  unfold sbH
  rw [hf s (by omega) (by omega), hf (s + 1) (by omega) (by omega), hf (s + 2) (by omega) (by omega), hf (s + 3) (by omega) (by omega), hf (s + 4) (by omega) (by omega), hf (s + 5) (by omega) (by omega), hf (s + 6) (by omega) (by omega)]
  exact h
/-- the base of the reference -/
def mbH (R : Nat → Int) (n : Nat) (A T : Nat → Nat → Int) (O : Nat → Int) (M : mMI) : Prop := M 46 7 = zI (n : Int) ∧ (∀ j, j < 4 → M 48 j = zI (R j)) ∧ (∀ k, k < n → M 50 k = zI (A 0 k) ∧ M 51 k = zI (A 1 k) ∧ M 52 k = zI (A 2 k)) ∧ (∀ k, k < 6 → M 57 k = zI (O k)) ∧ (∀ k t, k < 6 → t < 40 → M 56 (40 * k + t) = zI (T k t))
theorem mbH.fr {R : Nat → Int} {n : Nat} {A T : Nat → Nat → Int} {O : Nat → Int} {M N : mMI} (h : mbH R n A T O M) (h7 : N 46 7 = M 46 7) (h48 : N 48 = M 48) (h50 : N 50 = M 50) (h51 : N 51 = M 51) (h52 : N 52 = M 52) (h57 : N 57 = M 57) (h56 : N 56 = M 56) : mbH R n A T O N := by
  unfold mbH
  rw [h7, h48, h50, h51, h52, h57, h56]
  exact h
theorem m_runAll {R : Nat → Int} {n : Nat} {A T : Nat → Nat → Int} {O : Nat → Int} {M : mMI} (h : mbH R n A T O M) (h1 : okRA R n A) (h2 : okTO n T O) (J : mMJ) : ∃ N K, k_Model_runAll M J = rV N K ∧ fR [46, 63, 64, 65, 68, 69] M N ∧ (∀ i, i ≠ 23 → i ≠ 24 → N 46 i = M 46 i) ∧ fJ [66] J K ∧ moH (mkW R n A T O) (fun k => k) N ∧ ruH (mkW R n A T O) 40 N K := by
  have hw := wOk_mk h1 h2
  have hn := h1.1
  have h7 := h.1
  obtain ⟨N0, ⟨f0, z0, b0⟩, e0⟩ := lp_to (α := mMI) (fun N j => k_Model_runAll_8 (zI (j : Int)) N J) (fun j N => fR [63] (mUp (mUp M 46 23 (zI (n : Int))) 46 24 (zI 0)) N ∧ (∀ k, k < j → N 63 k = zI (k : Int)) ∧ N 46 7 = zI (n : Int)) n (by
    intro j N hj ⟨i1, i2, i3⟩
    refine ⟨mUp N 63 j (zI (j : Int)), ⟨i1.tr (fR.up (by simp)), fun i hi => ?_, by rw [up_nk (by omega)]; exact i3⟩, ?_⟩
    · by_cases h : i = j
      · subst h; exact up_at _ _ _ _
      · rw [up_ne h]; exact i2 i (by omega)
    · rw [e_Model_runAll_8]
      simp (disch := omega) only [Int.reduceEq, Int.reduceLT, Int.reduceLE, Int.reduceAdd, Int.reduceMul, Int.reduceSub, Int.reduceNeg, Int.reduceDiv, li_0, li_1, li_2, li_3, li_4, li_5, li_6, li_7, li_8, li_9, li_10, li_16, li_20, li_22, li_32, li_36, li_39, li_40, li_42, li_48, li_60, li_67, li_69, li_70, li_71, li_76, li_77, li_80, li_83, li_86, li_90, li_100, li_120, li_200, li_209, li_234, li_240, li_255, li_300, li_309, li_310, ll_0, ll_1, ll_3, ll_5, ll_7, ll_8, ll_9, ll_20, ll_39, ll_40, ll_60, ll_100, ll_120, ll_200, ll_209, ll_300, ll_309, ll_600, ll_1000000000, zI_neg, zI_add, zI_sub, zI_mul, zL_add, zL_sub, zL_mul, zL_neg, zI_suc, zN_I, zI_ofNat, zI_le_t, zI_le_f, zI_lt_t, zI_lt_f, zI_eq_t, zI_eq_f, zL_le_t, zL_le_f, zL_lt_t, zL_lt_f, zL_eq_t, zL_eq_f, zI_cl, zI_L, mI_t, Int.reduceToNat, nt_le_f, nt_le_t, lc_le, lc_lt, lc_gt, lc_eq, zI_div, Int.toNat_natCast, zI_max, zI_min, or_false, false_or, or_true, true_or, not_false_eq_true, not_true_eq_false, ↓reduceIte, and_self, and_true, true_and, and_false, false_and, not_or, gt_iff_lt, ge_iff_le, mBI_rI, mBJ_rJ, mBR_rV, mBR_rR, rZ_0, rZ_1, i3]) (mUp (mUp M 46 23 (zI (n : Int))) 46 24 (zI 0)) ⟨fR.rf, fun i hi => absurd hi (Nat.not_lt_zero i), by rw [up_ne (by omega), up_ne (by omega)]; exact h7⟩
  have g : ∀ p, p ≠ 63 → p ≠ 46 → N0 p = M p := fun p hp hp2 => by rw [f0 p (by simp; omega), up_nk (by omega), up_nk (by omega)]
  have hm : moH (mkW R n A T O) (fun k => k) N0 := by
    obtain ⟨a1, a2, a3, a4, a5⟩ := h
    refine ⟨?_, fun j hj => by rw [g 48 (by omega) (by omega)]; exact a2 j hj, fun k hk => ?_, Or.inr ⟨?_, fun k hk => ?_⟩⟩
    · rw [f0 46 (by simp), up_ne (by omega), up_at]; rfl
    · have hk : k < n := hk
      rw [g 50 (by omega) (by omega), g 51 (by omega) (by omega), g 52 (by omega) (by omega)]
      exact ⟨show k < 6 by omega, z0 k hk, a3 k hk⟩
    · rw [f0 46 (by simp), up_at]
    · have hk : k < n := hk
      rw [g 57 (by omega) (by omega), g 56 (by omega) (by omega)]
      exact ⟨a4 k (by omega), fun t ht => ⟨T k t, h2.2.1 k t (by omega) ht, a5 k t (by omega) ht, rfl⟩⟩
  obtain ⟨N, K, e, f, fk, hr⟩ := m_run hw hm J
  refine ⟨N, K, ?_, fun p hp => ?_, fun i hi hi2 => ?_, fk, hm.fr (fun p hp => f p (by unfold mP; simp; omega)), hr⟩
  · rw [e_Model_runAll]
    simp (disch := omega) only [Int.reduceEq, Int.reduceLT, Int.reduceLE, Int.reduceAdd, Int.reduceMul, Int.reduceSub, Int.reduceNeg, Int.reduceDiv, li_0, li_1, li_2, li_3, li_4, li_5, li_6, li_7, li_8, li_9, li_10, li_16, li_20, li_22, li_32, li_36, li_39, li_40, li_42, li_48, li_60, li_67, li_69, li_70, li_71, li_76, li_77, li_80, li_83, li_86, li_90, li_100, li_120, li_200, li_209, li_234, li_240, li_255, li_300, li_309, li_310, ll_0, ll_1, ll_3, ll_5, ll_7, ll_8, ll_9, ll_20, ll_39, ll_40, ll_60, ll_100, ll_120, ll_200, ll_209, ll_300, ll_309, ll_600, ll_1000000000, zI_neg, zI_add, zI_sub, zI_mul, zL_add, zL_sub, zL_mul, zL_neg, zI_suc, zN_I, zI_ofNat, zI_le_t, zI_le_f, zI_lt_t, zI_lt_f, zI_eq_t, zI_eq_f, zL_le_t, zL_le_f, zL_lt_t, zL_lt_f, zL_eq_t, zL_eq_f, zI_cl, zI_L, mI_t, Int.reduceToNat, nt_le_f, nt_le_t, lc_le, lc_lt, lc_gt, lc_eq, zI_div, Int.toNat_natCast, zI_max, zI_min, or_false, false_or, or_true, true_or, not_false_eq_true, not_true_eq_false, ↓reduceIte, and_self, and_true, true_and, and_false, false_and, not_or, gt_iff_lt, ge_iff_le, mBI_rI, mBJ_rJ, mBR_rV, mBR_rR, rZ_0, rZ_1, h7]
    refine Eq.trans e0 ?_
    show k_Model_runAll_8 (zI (n : Int)) N0 J = _
    rw [e_Model_runAll_8]
    simp (disch := omega) only [Int.reduceEq, Int.reduceLT, Int.reduceLE, Int.reduceAdd, Int.reduceMul, Int.reduceSub, Int.reduceNeg, Int.reduceDiv, li_0, li_1, li_2, li_3, li_4, li_5, li_6, li_7, li_8, li_9, li_10, li_16, li_20, li_22, li_32, li_36, li_39, li_40, li_42, li_48, li_60, li_67, li_69, li_70, li_71, li_76, li_77, li_80, li_83, li_86, li_90, li_100, li_120, li_200, li_209, li_234, li_240, li_255, li_300, li_309, li_310, ll_0, ll_1, ll_3, ll_5, ll_7, ll_8, ll_9, ll_20, ll_39, ll_40, ll_60, ll_100, ll_120, ll_200, ll_209, ll_300, ll_309, ll_600, ll_1000000000, zI_neg, zI_add, zI_sub, zI_mul, zL_add, zL_sub, zL_mul, zL_neg, zI_suc, zN_I, zI_ofNat, zI_le_t, zI_le_f, zI_lt_t, zI_lt_f, zI_eq_t, zI_eq_f, zL_le_t, zL_le_f, zL_lt_t, zL_lt_f, zL_eq_t, zL_eq_f, zI_cl, zI_L, mI_t, Int.reduceToNat, nt_le_f, nt_le_t, lc_le, lc_lt, lc_gt, lc_eq, zI_div, Int.toNat_natCast, zI_max, zI_min, or_false, false_or, or_true, true_or, not_false_eq_true, not_true_eq_false, ↓reduceIte, and_self, and_true, true_and, and_false, false_and, not_or, gt_iff_lt, ge_iff_le, mBI_rI, mBJ_rJ, mBR_rV, mBR_rR, rZ_0, rZ_1, b0, e]
  · rw [f p (by unfold mP; simp at hp ⊢; omega), g p (by simp at hp; omega) (by simp at hp; omega)]
  · rw [f 46 (by unfold mP; simp), f0 46 (by simp), up_ne hi2, up_ne hi]
/-- the state: text; rules, people; told, out, book; slots -/
abbrev sS : Type := (Nat × (Nat → Int)) × ((Nat → Int) × Nat × (Nat → Nat → Int)) × ((Nat → Nat → Int) × (Nat → Int) × (Nat → Int)) × ((Nat → Int) × (Nat → (Nat → Nat → Int) × (Nat → Int) × (Nat → Int)))
def yL (y : sS) : Nat := y.1.1
def yB (y : sS) : Nat → Int := y.1.2
def yR (y : sS) : Nat → Int := y.2.1.1
def yN (y : sS) : Nat := y.2.1.2.1
def yA (y : sS) : Nat → Nat → Int := y.2.1.2.2
def yT (y : sS) : Nat → Nat → Int := y.2.2.1.1
def yO (y : sS) : Nat → Int := y.2.2.1.2.1
def yK (y : sS) : Nat → Int := y.2.2.1.2.2
def yF (y : sS) : Nat → Int := y.2.2.2.1
def yS (y : sS) : Nat → (Nat → Nat → Int) × (Nat → Int) × (Nat → Int) := y.2.2.2.2
def okB (B : Nat → Int) : Prop := ∀ i, i < 48 → B i = -9 ∨ (0 ≤ B i ∧ B i ≤ 20)
def yOk (y : sS) : Prop := (yL y ≤ 40 ∧ ∀ i, i < yL y → 0 ≤ yB y i ∧ yB y i ≤ 255) ∧ okRA (yR y) (yN y) (yA y) ∧ okTO (yN y) (yT y) (yO y) ∧ okB (yK y) ∧ (∀ b, b < 2 → yF y b = 0 ∨ yF y b = 1) ∧ (∀ b, b < 2 → yF y b = 1 → okTO (yN y) (yS y b).1 (yS y b).2.1 ∧ okB (yS y b).2.2)
def wd (y : sS) : wW := mkW (yR y) (yN y) (yA y) (yT y) (yO y)
/-- what was there before -/
def kCo (M : mMI) : Prop := (M 5 4 = zI 1 ∧ M 5 5 = zI 0 ∧ M 5 6 = zI 4 ∧ M 6 4 = zI 0 ∧ M 6 5 = zI 2 ∧ M 6 6 = zI 6) ∧ (M 1004 = fun j => [20, 16, 0, 1].getD j 0) ∧ (M 1052 = fun j => [2, 2, 1, 1].getD j 0) ∧ (M 1053 = fun j => [1, 0, 0, 1].getD j 0) ∧ (M 1054 = fun j => [20, 60, 9, 9].getD j 0) ∧ (M 1062 = fun j => [2, 0, 1, 2, 2, 2, 1].getD j 0) ∧ (M 1063 = fun j => [0, 0, 0, 0, 0, 0, 0].getD j 0) ∧ (M 1064 = fun j => [20, 0, 9, 99, 99, 99, 9].getD j 0) ∧ (M 1051 = fun j => [69, 77, 70, 67].getD j 0) ∧ (M 1061 = fun j => [80, 90, 77, 71, 83, 86, 76].getD j 0)
def ctH (y : sS) (M : mMI) : Prop := M 1 1 = zI (yL y : Int) ∧ (∀ i, i < yL y → M 2 i = zI (yB y i))
def csH (y : sS) (M : mMI) : Prop := ∀ b, b < 2 → M (38 + 4 * b) 0 = zI (yF y b) ∧ (yF y b = 1 → (∀ k t, k < 6 → t < 40 → M (39 + 4 * b) (6 * t + k) = zI ((yS y b).1 k t)) ∧ (∀ k, k < 6 → M (40 + 4 * b) k = zI ((yS y b).2.1 k)) ∧ (∀ i, i < 48 → M (41 + 4 * b) i = zI ((yS y b).2.2 i)))
def cbH (y : sS) (M : mMI) : Prop := ∀ i, i < 48 → M 36 i = zI (yK y i)
def crH (y : sS) (M : mMI) (J : mMJ) : Prop := M 0 9 = zI 1 ∨ (M 0 9 = zI 0 ∧ coH 7 (wd y) 40 M J)
/-- the class holds the state -/
def CI (y : sS) (M : mMI) (J : mMJ) : Prop := kCo M ∧ ctH y M ∧ sbH 7 (yR y) (yN y) (yA y) (yT y) (yO y) M ∧ cbH y M ∧ csH y M ∧ crH y M J
def mtH (y : sS) (M : mMI) : Prop := M 46 2 = zI (yL y : Int) ∧ (∀ i, i < yL y → M 47 i = zI (yB y i))
def msH (y : sS) (M : mMI) : Prop := ∀ b, b < 2 → M 61 b = zI (yF y b) ∧ (yF y b = 1 → (∀ k t, k < 6 → t < 40 → M 58 (240 * b + 40 * k + t) = zI ((yS y b).1 k t)) ∧ (∀ k, k < 6 → M 59 (6 * b + k) = zI ((yS y b).2.1 k)) ∧ (∀ i, i < 48 → M 60 (48 * b + i) = zI ((yS y b).2.2 i)))
/-- the reference holds the state -/
def MI (y : sS) (M : mMI) : Prop := mtH y M ∧ mbH (yR y) (yN y) (yA y) (yT y) (yO y) M ∧ (∀ i, i < 48 → M 62 i = zI (yK y i)) ∧ msH y M
/-- a call of the class, of the reference: its answer, the state behind it, nothing else touched -/
def cO1 (y : sS) (M : mMI) (J : mMJ) (N : mMI) (K : mMJ) : Prop := CI y N K ∧ (∀ p, 46 ≤ p → N p = M p) ∧ (∀ p, 46 ≤ p → K p = J p)
def mO1 (y : sS) (M : mMI) (J : mMJ) (N : mMI) (K : mMJ) : Prop := MI y N ∧ (∀ p, p < 46 ∨ 70 ≤ p → N p = M p) ∧ (∀ p, p < 46 ∨ 70 ≤ p → K p = J p)
theorem CI.fr {y : sS} {M N : mMI} {J K : mMJ} (h : CI y M J) (hf : ∀ p, p < 46 ∨ 70 ≤ p → N p = M p) (hj : ∀ p, p < 46 ∨ 70 ≤ p → K p = J p) : CI y N K := by
  have e : ∀ {p : Nat}, p < 46 → N p = M p := fun h => hf _ (Or.inl h)
  obtain ⟨a1, a2, a3, a4, a5, a6⟩ := h
  refine ⟨?_, ?_, a3.fr (fun p _ _ => hf p (by omega)), ?_, ?_, ?_⟩
  · unfold kCo
    rw [hf 5 (by omega), hf 6 (by omega), hf 1004 (by omega), hf 1052 (by omega), hf 1053 (by omega), hf 1054 (by omega), hf 1062 (by omega), hf 1063 (by omega), hf 1064 (by omega), hf 1051 (by omega), hf 1061 (by omega)]
    exact a1
  · unfold ctH
    rw [hf 1 (by omega), hf 2 (by omega)]
    exact a2
  · unfold cbH
    rw [hf 36 (by omega)]
    exact a4
  · intro b hb
    rw [hf (38 + 4 * b) (by omega), hf (39 + 4 * b) (by omega), hf (40 + 4 * b) (by omega), hf (41 + 4 * b) (by omega)]
    exact a5 b hb
  · unfold crH
    rw [hf 0 (by omega)]
    rcases a6 with a6 | a6
    · exact Or.inl a6
    · exact Or.inr ⟨a6.1, a6.2.fr (hf _ (by omega)) (hf _ (by omega)) (hf _ (by omega)) (hf _ (by omega)) (hj _ (by omega))⟩
theorem MI.fr {y : sS} {M N : mMI} (h : MI y M) (hf : ∀ p, 46 ≤ p → p < 70 → N p = M p) : MI y N := by
  obtain ⟨a1, a2, a3, a4⟩ := h
  refine ⟨?_, a2.fr (by rw [hf 46 (by omega) (by omega)]) (hf 48 (by omega) (by omega)) (hf 50 (by omega) (by omega)) (hf 51 (by omega) (by omega)) (hf 52 (by omega) (by omega)) (hf 57 (by omega) (by omega)) (hf 56 (by omega) (by omega)), ?_, ?_⟩
  · unfold mtH
    rw [hf 46 (by omega) (by omega), hf 47 (by omega) (by omega)]
    exact a1
  · rw [hf 62 (by omega) (by omega)]
    exact a3
  · unfold msH
    rw [hf 61 (by omega) (by omega), hf 58 (by omega) (by omega), hf 59 (by omega) (by omega), hf 60 (by omega) (by omega)]
    exact a4
