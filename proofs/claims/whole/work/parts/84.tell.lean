/-! CALLS that change what is told, sent, fined, kept -/
theorem kCo.fr {M N : mMI} (h : kCo M) (hf : ∀ p, p = 5 ∨ p = 6 ∨ 1000 ≤ p → N p = M p) : kCo N := by
  unfold kCo
  rw [hf 5 (by omega), hf 6 (by omega), hf 1004 (by omega), hf 1052 (by omega), hf 1053 (by omega), hf 1054 (by omega), hf 1062 (by omega), hf 1063 (by omega), hf 1064 (by omega), hf 1051 (by omega), hf 1061 (by omega)]
  exact h
theorem ctH.fr {y : sS} {M N : mMI} (h : ctH y M) (h1 : N 1 1 = M 1 1) (h2 : N 2 = M 2) : ctH y N := by
  unfold ctH
  rw [h1, h2]
  exact h
theorem cbH.fr {y : sS} {M N : mMI} (h : cbH y M) (h1 : N 36 = M 36) : cbH y N := by
  unfold cbH
  rw [h1]
  exact h
theorem csH.fr {y : sS} {M N : mMI} (h : csH y M) (hf : ∀ p, 38 ≤ p → p ≤ 45 → N p = M p) : csH y N := by
  intro b hb
  rw [hf (38 + 4 * b) (by omega) (by omega), hf (39 + 4 * b) (by omega) (by omega), hf (40 + 4 * b) (by omega) (by omega), hf (41 + 4 * b) (by omega) (by omega)]
  exact h b hb
theorem CI.co {y : sS} {M N : mMI} {J K : mMJ} (h : CI y M J) (h1 : N 1 1 = M 1 1) (hf : ∀ p, (p = 2 ∨ (5 ≤ p ∧ p ≤ 13) ∨ 36 ≤ p) → N p = M p) (hc : crH y N K) : CI y N K := by
  obtain ⟨a1, a2, a3, a4, a5, a6⟩ := h
  exact ⟨a1.fr (fun p hp => hf p (by omega)), a2.fr h1 (hf 2 (by omega)), a3.fr (fun p _ _ => hf p (by omega)), a4.fr (hf 36 (by omega)), a5.fr (fun p _ _ => hf p (by omega)), hc⟩
theorem msH.fr {y : sS} {M N : mMI} (h : msH y M) (hf : ∀ p, 58 ≤ p → p ≤ 61 → N p = M p) : msH y N := by
  unfold msH
  rw [hf 61 (by omega) (by omega), hf 58 (by omega) (by omega), hf 59 (by omega) (by omega), hf 60 (by omega) (by omega)]
  exact h
theorem mtH.fr {y : sS} {M N : mMI} (h : mtH y M) (h1 : N 46 2 = M 46 2) (h2 : N 47 = M 47) : mtH y N := by
  unfold mtH
  rw [h1, h2]
  exact h
theorem sm_up (f : Nat → Int) (p : Nat) (c : Int) : ∀ n, sm n (fun k => if k = p then c else f k) = sm n f + (if p < n then c - f p else 0)
  | 0 => by simp [sm_0]
  | n + 1 => by
    rw [sm_s, sm_s, sm_up f p c n]
    by_cases h : n = p
    · subst h
      rw [if_pos rfl, if_neg (by omega), if_pos (by omega)]
      omega
    · rw [if_neg h]
      by_cases h2 : p < n
      · rw [if_pos h2, if_pos (by omega)]
        omega
      · rw [if_neg h2, if_neg (by omega)]
        omega
theorem sm_dbl (b : Nat) (f : Nat → Int) : ∀ a, sm (b * a) f = sm a (fun i => sm b (fun j => f (b * i + j)))
  | 0 => rfl
  | a + 1 => by
    have h2 : ∀ m, sm (b * a + m) f = sm (b * a) f + sm m (fun j => f (b * a + j)) := by
      intro m
      induction m with
      | zero => rw [sm_0, Nat.add_zero, Int.add_zero]
      | succ m ih => rw [← Nat.add_assoc, sm_s, ih, sm_s]; omega
    rw [sm_s, ← sm_dbl b f a, ← h2]
    rfl
theorem sm_swap (g : Nat → Nat → Int) (b : Nat) : ∀ a, sm a (fun i => sm b (fun j => g i j)) = sm b (fun j => sm a (fun i => g i j))
  | 0 => by
    rw [sm_0, sm_z]
    intro k _
    rfl
  | a + 1 => by
    rw [sm_s, sm_swap g b a, ← sm_add]
    rfl
def sT (y : sS) (T : Nat → Nat → Int) : sS := (y.1, y.2.1, (T, y.2.2.1.2.1, y.2.2.1.2.2), y.2.2.2)
def sOu (y : sS) (O : Nat → Int) : sS := (y.1, y.2.1, (y.2.2.1.1, O, y.2.2.1.2.2), y.2.2.2)
def sBk (y : sS) (B : Nat → Int) : sS := (y.1, y.2.1, (y.2.2.1.1, y.2.2.1.2.1, B), y.2.2.2)
def sRu (y : sS) (R : Nat → Int) : sS := (y.1, (R, y.2.1.2.1, y.2.1.2.2), y.2.2.1, y.2.2.2)
def upT (T : Nat → Nat → Int) (p t : Nat) (v : Int) : Nat → Nat → Int := fun k u => if k = p ∧ u = t then v else T k u
def upO (O : Nat → Int) (p : Nat) (v : Int) : Nat → Int := fun k => if k = p then v else O k
/-- tell -/
def okTell (p t v : Int) (y : sS) : Prop := (0 ≤ p ∧ p < (yN y : Int)) ∧ (0 ≤ t ∧ t < 40) ∧ (v = -9 ∨ (0 ≤ v ∧ v ≤ 20))
def aTell (p t v : Int) (y : sS) : Int32 := zI (if 0 ≤ p ∧ p < (yN y : Int) then (if 0 ≤ t ∧ t < 40 then (if v = -9 ∨ (0 ≤ v ∧ v ≤ 20) then yT y p.toNat t.toNat else -2) else -1) else -1)
noncomputable def nTell (p t v : Int) (y : sS) : sS := @ite _ (okTell p t v y) (Classical.propDecidable _) (sT y (upT (yT y) p.toNat t.toNat v)) y
theorem nTell_ok (p t v : Int) (y : sS) (hy : yOk y) : yOk (nTell p t v y) := by
  unfold nTell
  split
  · rename_i h
    obtain ⟨a1, a2, a3, a4, a5, a6⟩ := hy
    obtain ⟨h1, h2, h3⟩ := h
    refine ⟨a1, a2, ⟨a3.1, fun k u hk hu => ?_, a3.2.2⟩, a4, a5, a6⟩
    show upT (yT y) p.toNat t.toNat v k u = -9 ∨ (0 ≤ upT (yT y) p.toNat t.toNat v k u ∧ upT (yT y) p.toNat t.toNat v k u ≤ 20)
    unfold upT
    split
    · exact h3
    · exact a3.2.1 k u hk hu
  · exact hy
theorem P_tell {p t v : Int} (hp : bz p) (ht : bz t) (hv : bz v) {y : sS} (hy : yOk y) {M : mMI} {J : mMJ} (h : CI y M J) : cE (nTell p t v y) M J (k_Pot_tell (zI p) (zI t) (zI v) M J) (aTell p t v y) := by
  have hn := hy.2.1.1
  have ip := c_isPerson h.2.2.1.1 hn.2 hp
  have ir := c_isRound ht
  have iv := c_isCoins hv
  obtain ⟨h1, h2⟩ := hp
  obtain ⟨h3, h4⟩ := ht
  obtain ⟨h5, h6⟩ := hv
  rw [e_Pot_tell]
  unfold aTell nTell
  by_cases c : okTell p t v y
  · rw [if_pos c]
    obtain ⟨c1, c2, c3⟩ := c
    obtain ⟨a1, a2, a3, a4, a5, a6⟩ := h
    have e := a3.2.2.2.2 p.toNat t.toNat (by omega) (by omega)
    have ix : (t * 6 + p).toNat = 6 * t.toNat + p.toNat := by omega
    refine ⟨mUp (mUp M 12 (6 * t.toNat + p.toNat) (zI v)) 0 9 (zI 1), J, ?_, ⟨a1.fr (fun q hq => ?_), a2.fr ?_ ?_, ?_, a4.fr ?_, a5.fr (fun q _ _ => ?_), Or.inl ?_⟩, fun q hq => ?_, fun q hq => rfl⟩
    · simp (disch := omega) only [Int.reduceEq, Int.reduceLT, Int.reduceLE, Int.reduceAdd, Int.reduceMul, Int.reduceSub, Int.reduceNeg, Int.reduceDiv, li_0, li_1, li_2, li_3, li_4, li_5, li_6, li_7, li_8, li_9, li_10, li_16, li_20, li_22, li_32, li_36, li_39, li_40, li_42, li_48, li_60, li_67, li_69, li_70, li_71, li_76, li_77, li_80, li_83, li_86, li_90, li_100, li_120, li_200, li_209, li_234, li_240, li_255, li_300, li_309, li_310, ll_0, ll_1, ll_3, ll_5, ll_7, ll_8, ll_9, ll_20, ll_39, ll_40, ll_60, ll_100, ll_120, ll_200, ll_209, ll_300, ll_309, ll_600, ll_1000000000, zI_neg, zI_add, zI_sub, zI_mul, zL_add, zL_sub, zL_mul, zL_neg, zI_suc, zN_I, zI_ofNat, zI_le_t, zI_le_f, zI_lt_t, zI_lt_f, zI_eq_t, zI_eq_f, zL_le_t, zL_le_f, zL_lt_t, zL_lt_f, zL_eq_t, zL_eq_f, zI_cl, zI_L, mI_t, Int.reduceToNat, nt_le_f, nt_le_t, lc_le, lc_lt, lc_gt, lc_eq, zI_div, Int.toNat_natCast, zI_max, zI_min, or_false, false_or, or_true, true_or, not_false_eq_true, not_true_eq_false, ↓reduceIte, and_self, and_true, true_and, and_false, false_and, not_or, gt_iff_lt, ge_iff_le, mBI_rI, mBJ_rJ, mBR_rV, mBR_rR, rZ_0, rZ_1, ip, c1, ir, c2, iv, c3, ix, e]
    · rw [up_nk (by omega), up_nk (by omega)]
    · rw [up_nk (by omega), up_nk (by omega)]
    · rw [up_nk (by omega), up_nk (by omega)]
    · obtain ⟨b1, b2, b3, b4, b5⟩ := a3
      refine ⟨?_, ?_, ?_, ?_, fun k u hk hu => ?_⟩
      · rw [up_nk (by omega), up_nk (by omega)]; exact b1
      · rw [up_nk (by omega), up_nk (by omega)]; exact b2
      · rw [up_nk (by omega), up_nk (by omega), up_nk (by omega), up_nk (by omega), up_nk (by omega), up_nk (by omega)]; exact b3
      · rw [up_nk (by omega), up_nk (by omega)]; exact b4
      · show mUp (mUp M 12 _ _) 0 9 (zI 1) 12 _ = zI (upT (yT y) p.toNat t.toNat v k u)
        rw [up_nk (by omega)]
        unfold upT
        by_cases hc : k = p.toNat ∧ u = t.toNat
        · rw [if_pos hc, hc.1, hc.2, up_at]
        · rw [if_neg hc, up_ne (by omega)]; exact b5 k u hk hu
    · rw [up_nk (by omega), up_nk (by omega)]
    · rw [up_nk (by omega), up_nk (by omega)]
    · exact up_at _ _ _ _
    · rw [up_nk (by omega), up_nk (by omega)]
  · rw [if_neg c]
    refine .same h ?_
    by_cases c1 : 0 ≤ p ∧ p < (yN y : Int)
    · by_cases c2 : 0 ≤ t ∧ t < 40
      · by_cases c3 : v = -9 ∨ (0 ≤ v ∧ v ≤ 20)
        · exact absurd ⟨c1, c2, c3⟩ c
        · simp (disch := omega) only [Int.reduceEq, Int.reduceLT, Int.reduceLE, Int.reduceAdd, Int.reduceMul, Int.reduceSub, Int.reduceNeg, Int.reduceDiv, li_0, li_1, li_2, li_3, li_4, li_5, li_6, li_7, li_8, li_9, li_10, li_16, li_20, li_22, li_32, li_36, li_39, li_40, li_42, li_48, li_60, li_67, li_69, li_70, li_71, li_76, li_77, li_80, li_83, li_86, li_90, li_100, li_120, li_200, li_209, li_234, li_240, li_255, li_300, li_309, li_310, ll_0, ll_1, ll_3, ll_5, ll_7, ll_8, ll_9, ll_20, ll_39, ll_40, ll_60, ll_100, ll_120, ll_200, ll_209, ll_300, ll_309, ll_600, ll_1000000000, zI_neg, zI_add, zI_sub, zI_mul, zL_add, zL_sub, zL_mul, zL_neg, zI_suc, zN_I, zI_ofNat, zI_le_t, zI_le_f, zI_lt_t, zI_lt_f, zI_eq_t, zI_eq_f, zL_le_t, zL_le_f, zL_lt_t, zL_lt_f, zL_eq_t, zL_eq_f, zI_cl, zI_L, mI_t, Int.reduceToNat, nt_le_f, nt_le_t, lc_le, lc_lt, lc_gt, lc_eq, zI_div, Int.toNat_natCast, zI_max, zI_min, or_false, false_or, or_true, true_or, not_false_eq_true, not_true_eq_false, ↓reduceIte, and_self, and_true, true_and, and_false, false_and, not_or, gt_iff_lt, ge_iff_le, mBI_rI, mBJ_rJ, mBR_rV, mBR_rR, rZ_0, rZ_1, ip, c1, ir, c2, iv, c3]
      · simp (disch := omega) only [Int.reduceEq, Int.reduceLT, Int.reduceLE, Int.reduceAdd, Int.reduceMul, Int.reduceSub, Int.reduceNeg, Int.reduceDiv, li_0, li_1, li_2, li_3, li_4, li_5, li_6, li_7, li_8, li_9, li_10, li_16, li_20, li_22, li_32, li_36, li_39, li_40, li_42, li_48, li_60, li_67, li_69, li_70, li_71, li_76, li_77, li_80, li_83, li_86, li_90, li_100, li_120, li_200, li_209, li_234, li_240, li_255, li_300, li_309, li_310, ll_0, ll_1, ll_3, ll_5, ll_7, ll_8, ll_9, ll_20, ll_39, ll_40, ll_60, ll_100, ll_120, ll_200, ll_209, ll_300, ll_309, ll_600, ll_1000000000, zI_neg, zI_add, zI_sub, zI_mul, zL_add, zL_sub, zL_mul, zL_neg, zI_suc, zN_I, zI_ofNat, zI_le_t, zI_le_f, zI_lt_t, zI_lt_f, zI_eq_t, zI_eq_f, zL_le_t, zL_le_f, zL_lt_t, zL_lt_f, zL_eq_t, zL_eq_f, zI_cl, zI_L, mI_t, Int.reduceToNat, nt_le_f, nt_le_t, lc_le, lc_lt, lc_gt, lc_eq, zI_div, Int.toNat_natCast, zI_max, zI_min, or_false, false_or, or_true, true_or, not_false_eq_true, not_true_eq_false, ↓reduceIte, and_self, and_true, true_and, and_false, false_and, not_or, gt_iff_lt, ge_iff_le, mBI_rI, mBJ_rJ, mBR_rV, mBR_rR, rZ_0, rZ_1, ip, c1, ir, c2]
    · simp (disch := omega) only [Int.reduceEq, Int.reduceLT, Int.reduceLE, Int.reduceAdd, Int.reduceMul, Int.reduceSub, Int.reduceNeg, Int.reduceDiv, li_0, li_1, li_2, li_3, li_4, li_5, li_6, li_7, li_8, li_9, li_10, li_16, li_20, li_22, li_32, li_36, li_39, li_40, li_42, li_48, li_60, li_67, li_69, li_70, li_71, li_76, li_77, li_80, li_83, li_86, li_90, li_100, li_120, li_200, li_209, li_234, li_240, li_255, li_300, li_309, li_310, ll_0, ll_1, ll_3, ll_5, ll_7, ll_8, ll_9, ll_20, ll_39, ll_40, ll_60, ll_100, ll_120, ll_200, ll_209, ll_300, ll_309, ll_600, ll_1000000000, zI_neg, zI_add, zI_sub, zI_mul, zL_add, zL_sub, zL_mul, zL_neg, zI_suc, zN_I, zI_ofNat, zI_le_t, zI_le_f, zI_lt_t, zI_lt_f, zI_eq_t, zI_eq_f, zL_le_t, zL_le_f, zL_lt_t, zL_lt_f, zL_eq_t, zL_eq_f, zI_cl, zI_L, mI_t, Int.reduceToNat, nt_le_f, nt_le_t, lc_le, lc_lt, lc_gt, lc_eq, zI_div, Int.toNat_natCast, zI_max, zI_min, or_false, false_or, or_true, true_or, not_false_eq_true, not_true_eq_false, ↓reduceIte, and_self, and_true, true_and, and_false, false_and, not_or, gt_iff_lt, ge_iff_le, mBI_rI, mBJ_rJ, mBR_rV, mBR_rR, rZ_0, rZ_1, ip, c1]
theorem R_tell {p t v : Int} (hp : bz p) (ht : bz t) (hv : bz v) {y : sS} (hy : yOk y) {M : mMI} {J : mMJ} (h : MI y M) : mE (nTell p t v y) M J (k_Model_tell (zI p) (zI t) (zI v) M J) (aTell p t v y) := by
  have hn := hy.2.1.1
  have h0 := h.u46 (i := 0) (by omega) (by omega) (zI 0)
  have ip := m_noPerson h0.2.1.1 hn.2 hp
  have ir := m_noRound ht
  obtain ⟨h1, h2⟩ := hp
  obtain ⟨h3, h4⟩ := ht
  obtain ⟨h5, h6⟩ := hv
  rw [e_Model_tell]
  unfold aTell nTell
  by_cases c : okTell p t v y
  · rw [if_pos c]
    obtain ⟨c1, c2, c3⟩ := c
    obtain ⟨a1, a2, a3, a4⟩ := h0
    have e := a2.2.2.2.2 p.toNat t.toNat (by omega) (by omega)
    have ix : (40 * p + t).toNat = 40 * p.toNat + t.toNat := by omega
    refine ⟨mUp (mUp M 46 0 (zI 0)) 56 (40 * p.toNat + t.toNat) (zI v), J, ?_, ⟨?_, ?_, ?_, a4.fr (fun q _ _ => up_nk (by omega))⟩, fun q hq => ?_, fun q hq => rfl⟩
    · by_cases c4 : 0 ≤ v ∧ v ≤ 20
      · simp (disch := omega) only [Int.reduceEq, Int.reduceLT, Int.reduceLE, Int.reduceAdd, Int.reduceMul, Int.reduceSub, Int.reduceNeg, Int.reduceDiv, li_0, li_1, li_2, li_3, li_4, li_5, li_6, li_7, li_8, li_9, li_10, li_16, li_20, li_22, li_32, li_36, li_39, li_40, li_42, li_48, li_60, li_67, li_69, li_70, li_71, li_76, li_77, li_80, li_83, li_86, li_90, li_100, li_120, li_200, li_209, li_234, li_240, li_255, li_300, li_309, li_310, ll_0, ll_1, ll_3, ll_5, ll_7, ll_8, ll_9, ll_20, ll_39, ll_40, ll_60, ll_100, ll_120, ll_200, ll_209, ll_300, ll_309, ll_600, ll_1000000000, zI_neg, zI_add, zI_sub, zI_mul, zL_add, zL_sub, zL_mul, zL_neg, zI_suc, zN_I, zI_ofNat, zI_le_t, zI_le_f, zI_lt_t, zI_lt_f, zI_eq_t, zI_eq_f, zL_le_t, zL_le_f, zL_lt_t, zL_lt_f, zL_eq_t, zL_eq_f, zI_cl, zI_L, mI_t, Int.reduceToNat, nt_le_f, nt_le_t, lc_le, lc_lt, lc_gt, lc_eq, zI_div, Int.toNat_natCast, zI_max, zI_min, or_false, false_or, or_true, true_or, not_false_eq_true, not_true_eq_false, ↓reduceIte, and_self, and_true, true_and, and_false, false_and, not_or, gt_iff_lt, ge_iff_le, mBI_rI, mBJ_rJ, mBR_rV, mBR_rR, rZ_0, rZ_1, ip, c1, ir, c2, m_in, c4, ix, e]
      · have c5 : v = -9 := by omega
        simp (disch := omega) only [Int.reduceEq, Int.reduceLT, Int.reduceLE, Int.reduceAdd, Int.reduceMul, Int.reduceSub, Int.reduceNeg, Int.reduceDiv, li_0, li_1, li_2, li_3, li_4, li_5, li_6, li_7, li_8, li_9, li_10, li_16, li_20, li_22, li_32, li_36, li_39, li_40, li_42, li_48, li_60, li_67, li_69, li_70, li_71, li_76, li_77, li_80, li_83, li_86, li_90, li_100, li_120, li_200, li_209, li_234, li_240, li_255, li_300, li_309, li_310, ll_0, ll_1, ll_3, ll_5, ll_7, ll_8, ll_9, ll_20, ll_39, ll_40, ll_60, ll_100, ll_120, ll_200, ll_209, ll_300, ll_309, ll_600, ll_1000000000, zI_neg, zI_add, zI_sub, zI_mul, zL_add, zL_sub, zL_mul, zL_neg, zI_suc, zN_I, zI_ofNat, zI_le_t, zI_le_f, zI_lt_t, zI_lt_f, zI_eq_t, zI_eq_f, zL_le_t, zL_le_f, zL_lt_t, zL_lt_f, zL_eq_t, zL_eq_f, zI_cl, zI_L, mI_t, Int.reduceToNat, nt_le_f, nt_le_t, lc_le, lc_lt, lc_gt, lc_eq, zI_div, Int.toNat_natCast, zI_max, zI_min, or_false, false_or, or_true, true_or, not_false_eq_true, not_true_eq_false, ↓reduceIte, and_self, and_true, true_and, and_false, false_and, not_or, gt_iff_lt, ge_iff_le, mBI_rI, mBJ_rJ, mBR_rV, mBR_rR, rZ_0, rZ_1, ip, c1, ir, c2, m_in, c4, c5, ix, e]
    · exact mtH.fr a1 (congrFun (up_nk (by omega)) 2) (up_nk (by omega))
    · obtain ⟨b1, b2, b3, b4, b5⟩ := a2
      refine ⟨?_, ?_, ?_, ?_, fun k u hk hu => ?_⟩
      · rw [up_nk (by omega)]; exact b1
      · rw [up_nk (by omega)]; exact b2
      · rw [up_nk (by omega), up_nk (by omega), up_nk (by omega)]; exact b3
      · rw [up_nk (by omega)]; exact b4
      · show mUp _ 56 _ _ 56 _ = zI (upT (yT y) p.toNat t.toNat v k u)
        unfold upT
        by_cases hc : k = p.toNat ∧ u = t.toNat
        · rw [if_pos hc, hc.1, hc.2, up_at]
        · rw [if_neg hc, up_ne (by omega)]; exact b5 k u hk hu
    · rw [up_nk (by omega)]; exact a3
    · rw [up_nk (by omega), up_nk (by omega)]
  · rw [if_neg c]
    refine .same h ?_
    by_cases c1 : 0 ≤ p ∧ p < (yN y : Int)
    · by_cases c2 : 0 ≤ t ∧ t < 40
      · by_cases c3 : v = -9 ∨ (0 ≤ v ∧ v ≤ 20)
        · exact absurd ⟨c1, c2, c3⟩ c
        · have c4 : ¬ (0 ≤ v ∧ v ≤ 20) := fun q => c3 (Or.inr q)
          have c5 : ¬ v = -9 := fun q => c3 (Or.inl q)
          simp (disch := omega) only [Int.reduceEq, Int.reduceLT, Int.reduceLE, Int.reduceAdd, Int.reduceMul, Int.reduceSub, Int.reduceNeg, Int.reduceDiv, li_0, li_1, li_2, li_3, li_4, li_5, li_6, li_7, li_8, li_9, li_10, li_16, li_20, li_22, li_32, li_36, li_39, li_40, li_42, li_48, li_60, li_67, li_69, li_70, li_71, li_76, li_77, li_80, li_83, li_86, li_90, li_100, li_120, li_200, li_209, li_234, li_240, li_255, li_300, li_309, li_310, ll_0, ll_1, ll_3, ll_5, ll_7, ll_8, ll_9, ll_20, ll_39, ll_40, ll_60, ll_100, ll_120, ll_200, ll_209, ll_300, ll_309, ll_600, ll_1000000000, zI_neg, zI_add, zI_sub, zI_mul, zL_add, zL_sub, zL_mul, zL_neg, zI_suc, zN_I, zI_ofNat, zI_le_t, zI_le_f, zI_lt_t, zI_lt_f, zI_eq_t, zI_eq_f, zL_le_t, zL_le_f, zL_lt_t, zL_lt_f, zL_eq_t, zL_eq_f, zI_cl, zI_L, mI_t, Int.reduceToNat, nt_le_f, nt_le_t, lc_le, lc_lt, lc_gt, lc_eq, zI_div, Int.toNat_natCast, zI_max, zI_min, or_false, false_or, or_true, true_or, not_false_eq_true, not_true_eq_false, ↓reduceIte, and_self, and_true, true_and, and_false, false_and, not_or, gt_iff_lt, ge_iff_le, mBI_rI, mBJ_rJ, mBR_rV, mBR_rR, rZ_0, rZ_1, ip, c1, ir, c2, m_in, c4, c5]
      · simp (disch := omega) only [Int.reduceEq, Int.reduceLT, Int.reduceLE, Int.reduceAdd, Int.reduceMul, Int.reduceSub, Int.reduceNeg, Int.reduceDiv, li_0, li_1, li_2, li_3, li_4, li_5, li_6, li_7, li_8, li_9, li_10, li_16, li_20, li_22, li_32, li_36, li_39, li_40, li_42, li_48, li_60, li_67, li_69, li_70, li_71, li_76, li_77, li_80, li_83, li_86, li_90, li_100, li_120, li_200, li_209, li_234, li_240, li_255, li_300, li_309, li_310, ll_0, ll_1, ll_3, ll_5, ll_7, ll_8, ll_9, ll_20, ll_39, ll_40, ll_60, ll_100, ll_120, ll_200, ll_209, ll_300, ll_309, ll_600, ll_1000000000, zI_neg, zI_add, zI_sub, zI_mul, zL_add, zL_sub, zL_mul, zL_neg, zI_suc, zN_I, zI_ofNat, zI_le_t, zI_le_f, zI_lt_t, zI_lt_f, zI_eq_t, zI_eq_f, zL_le_t, zL_le_f, zL_lt_t, zL_lt_f, zL_eq_t, zL_eq_f, zI_cl, zI_L, mI_t, Int.reduceToNat, nt_le_f, nt_le_t, lc_le, lc_lt, lc_gt, lc_eq, zI_div, Int.toNat_natCast, zI_max, zI_min, or_false, false_or, or_true, true_or, not_false_eq_true, not_true_eq_false, ↓reduceIte, and_self, and_true, true_and, and_false, false_and, not_or, gt_iff_lt, ge_iff_le, mBI_rI, mBJ_rJ, mBR_rV, mBR_rR, rZ_0, rZ_1, ip, c1, ir, c2]
    · simp (disch := omega) only [Int.reduceEq, Int.reduceLT, Int.reduceLE, Int.reduceAdd, Int.reduceMul, Int.reduceSub, Int.reduceNeg, Int.reduceDiv, li_0, li_1, li_2, li_3, li_4, li_5, li_6, li_7, li_8, li_9, li_10, li_16, li_20, li_22, li_32, li_36, li_39, li_40, li_42, li_48, li_60, li_67, li_69, li_70, li_71, li_76, li_77, li_80, li_83, li_86, li_90, li_100, li_120, li_200, li_209, li_234, li_240, li_255, li_300, li_309, li_310, ll_0, ll_1, ll_3, ll_5, ll_7, ll_8, ll_9, ll_20, ll_39, ll_40, ll_60, ll_100, ll_120, ll_200, ll_209, ll_300, ll_309, ll_600, ll_1000000000, zI_neg, zI_add, zI_sub, zI_mul, zL_add, zL_sub, zL_mul, zL_neg, zI_suc, zN_I, zI_ofNat, zI_le_t, zI_le_f, zI_lt_t, zI_lt_f, zI_eq_t, zI_eq_f, zL_le_t, zL_le_f, zL_lt_t, zL_lt_f, zL_eq_t, zL_eq_f, zI_cl, zI_L, mI_t, Int.reduceToNat, nt_le_f, nt_le_t, lc_le, lc_lt, lc_gt, lc_eq, zI_div, Int.toNat_natCast, zI_max, zI_min, or_false, false_or, or_true, true_or, not_false_eq_true, not_true_eq_false, ↓reduceIte, and_self, and_true, true_and, and_false, false_and, not_or, gt_iff_lt, ge_iff_le, mBI_rI, mBJ_rJ, mBR_rV, mBR_rR, rZ_0, rZ_1, ip, c1]
/-- fine -/
noncomputable def nFine (f : Int) (y : sS) : sS := @ite _ (0 ≤ f ∧ f ≤ 9) (Classical.propDecidable _) (sRu y (upO (yR y) 2 f)) y
def aFine (f : Int) (y : sS) : Int32 := zI (if 0 ≤ f ∧ f ≤ 9 then yR y 2 else -2)
theorem okRA_f {R : Nat → Int} {n : Nat} {A : Nat → Nat → Int} (h : okRA R n A) {f : Int} (hf : 0 ≤ f ∧ f ≤ 9) : okRA (upO R 2 f) n A := by
  obtain ⟨a1, a2, a3, a4, a5, a6⟩ := h
  exact ⟨a1, a2, a3, hf, a5, a6⟩
theorem nFine_ok (f : Int) (y : sS) (hy : yOk y) : yOk (nFine f y) := by
  unfold nFine
  split
  · rename_i h
    obtain ⟨a1, a2, a3, a4, a5, a6⟩ := hy
    exact ⟨a1, okRA_f a2 h, a3, a4, a5, a6⟩
  · exact hy
theorem P_fine {f : Int} (hf : bz f) {y : sS} {M : mMI} {J : mMJ} (h : CI y M J) : cE (nFine f y) M J (k_Pot_fine (zI f) M J) (aFine f y) := by
  obtain ⟨h1, h2⟩ := hf
  rw [e_Pot_fine]
  unfold aFine nFine
  by_cases c : 0 ≤ f ∧ f ≤ 9
  · rw [if_pos c, if_pos c]
    obtain ⟨a1, a2, a3, a4, a5, a6⟩ := h
    have e := a3.2.1 2 (by omega)
    have e : M 8 2 = zI (yR y 2) := e
    refine ⟨mUp (mUp M 8 2 (zI f)) 0 9 (zI 1), J, ?_, ⟨a1.fr (fun q hq => ?_), a2.fr ?_ ?_, ?_, a4.fr ?_, a5.fr (fun q _ _ => ?_), Or.inl ?_⟩, fun q hq => ?_, fun q hq => rfl⟩
    · simp (disch := omega) only [Int.reduceEq, Int.reduceLT, Int.reduceLE, Int.reduceAdd, Int.reduceMul, Int.reduceSub, Int.reduceNeg, Int.reduceDiv, li_0, li_1, li_2, li_3, li_4, li_5, li_6, li_7, li_8, li_9, li_10, li_16, li_20, li_22, li_32, li_36, li_39, li_40, li_42, li_48, li_60, li_67, li_69, li_70, li_71, li_76, li_77, li_80, li_83, li_86, li_90, li_100, li_120, li_200, li_209, li_234, li_240, li_255, li_300, li_309, li_310, ll_0, ll_1, ll_3, ll_5, ll_7, ll_8, ll_9, ll_20, ll_39, ll_40, ll_60, ll_100, ll_120, ll_200, ll_209, ll_300, ll_309, ll_600, ll_1000000000, zI_neg, zI_add, zI_sub, zI_mul, zL_add, zL_sub, zL_mul, zL_neg, zI_suc, zN_I, zI_ofNat, zI_le_t, zI_le_f, zI_lt_t, zI_lt_f, zI_eq_t, zI_eq_f, zL_le_t, zL_le_f, zL_lt_t, zL_lt_f, zL_eq_t, zL_eq_f, zI_cl, zI_L, mI_t, Int.reduceToNat, nt_le_f, nt_le_t, lc_le, lc_lt, lc_gt, lc_eq, zI_div, Int.toNat_natCast, zI_max, zI_min, or_false, false_or, or_true, true_or, not_false_eq_true, not_true_eq_false, ↓reduceIte, and_self, and_true, true_and, and_false, false_and, not_or, gt_iff_lt, ge_iff_le, mBI_rI, mBJ_rJ, mBR_rV, mBR_rR, rZ_0, rZ_1, e]
    · rw [up_nk (by omega), up_nk (by omega)]
    · rw [up_nk (by omega), up_nk (by omega)]
    · rw [up_nk (by omega), up_nk (by omega)]
    · obtain ⟨b1, b2, b3, b4, b5⟩ := a3
      refine ⟨?_, fun j hj => ?_, ?_, ?_, ?_⟩
      · rw [up_nk (by omega), up_nk (by omega)]; exact b1
      · show mUp (mUp M 8 _ _) 0 9 (zI 1) 8 j = zI (upO (yR y) 2 f j)
        rw [up_nk (by omega)]
        unfold upO
        by_cases hc : j = 2
        · rw [if_pos hc, hc, up_at]
        · rw [if_neg hc, up_ne hc]; exact b2 j hj
      · rw [up_nk (by omega), up_nk (by omega), up_nk (by omega), up_nk (by omega), up_nk (by omega), up_nk (by omega)]; exact b3
      · rw [up_nk (by omega), up_nk (by omega)]; exact b4
      · rw [up_nk (by omega), up_nk (by omega)]; exact b5
    · rw [up_nk (by omega), up_nk (by omega)]
    · rw [up_nk (by omega), up_nk (by omega)]
    · exact up_at _ _ _ _
    · rw [up_nk (by omega), up_nk (by omega)]
  · rw [if_neg c, if_neg c]
    refine .same h ?_
    by_cases c1 : 0 ≤ f
    · simp (disch := omega) only [Int.reduceEq, Int.reduceLT, Int.reduceLE, Int.reduceAdd, Int.reduceMul, Int.reduceSub, Int.reduceNeg, Int.reduceDiv, li_0, li_1, li_2, li_3, li_4, li_5, li_6, li_7, li_8, li_9, li_10, li_16, li_20, li_22, li_32, li_36, li_39, li_40, li_42, li_48, li_60, li_67, li_69, li_70, li_71, li_76, li_77, li_80, li_83, li_86, li_90, li_100, li_120, li_200, li_209, li_234, li_240, li_255, li_300, li_309, li_310, ll_0, ll_1, ll_3, ll_5, ll_7, ll_8, ll_9, ll_20, ll_39, ll_40, ll_60, ll_100, ll_120, ll_200, ll_209, ll_300, ll_309, ll_600, ll_1000000000, zI_neg, zI_add, zI_sub, zI_mul, zL_add, zL_sub, zL_mul, zL_neg, zI_suc, zN_I, zI_ofNat, zI_le_t, zI_le_f, zI_lt_t, zI_lt_f, zI_eq_t, zI_eq_f, zL_le_t, zL_le_f, zL_lt_t, zL_lt_f, zL_eq_t, zL_eq_f, zI_cl, zI_L, mI_t, Int.reduceToNat, nt_le_f, nt_le_t, lc_le, lc_lt, lc_gt, lc_eq, zI_div, Int.toNat_natCast, zI_max, zI_min, or_false, false_or, or_true, true_or, not_false_eq_true, not_true_eq_false, ↓reduceIte, and_self, and_true, true_and, and_false, false_and, not_or, gt_iff_lt, ge_iff_le, mBI_rI, mBJ_rJ, mBR_rV, mBR_rR, rZ_0, rZ_1]
    · simp (disch := omega) only [Int.reduceEq, Int.reduceLT, Int.reduceLE, Int.reduceAdd, Int.reduceMul, Int.reduceSub, Int.reduceNeg, Int.reduceDiv, li_0, li_1, li_2, li_3, li_4, li_5, li_6, li_7, li_8, li_9, li_10, li_16, li_20, li_22, li_32, li_36, li_39, li_40, li_42, li_48, li_60, li_67, li_69, li_70, li_71, li_76, li_77, li_80, li_83, li_86, li_90, li_100, li_120, li_200, li_209, li_234, li_240, li_255, li_300, li_309, li_310, ll_0, ll_1, ll_3, ll_5, ll_7, ll_8, ll_9, ll_20, ll_39, ll_40, ll_60, ll_100, ll_120, ll_200, ll_209, ll_300, ll_309, ll_600, ll_1000000000, zI_neg, zI_add, zI_sub, zI_mul, zL_add, zL_sub, zL_mul, zL_neg, zI_suc, zN_I, zI_ofNat, zI_le_t, zI_le_f, zI_lt_t, zI_lt_f, zI_eq_t, zI_eq_f, zL_le_t, zL_le_f, zL_lt_t, zL_lt_f, zL_eq_t, zL_eq_f, zI_cl, zI_L, mI_t, Int.reduceToNat, nt_le_f, nt_le_t, lc_le, lc_lt, lc_gt, lc_eq, zI_div, Int.toNat_natCast, zI_max, zI_min, or_false, false_or, or_true, true_or, not_false_eq_true, not_true_eq_false, ↓reduceIte, and_self, and_true, true_and, and_false, false_and, not_or, gt_iff_lt, ge_iff_le, mBI_rI, mBJ_rJ, mBR_rV, mBR_rR, rZ_0, rZ_1]
theorem R_fine {f : Int} (hf : bz f) {y : sS} {M : mMI} {J : mMJ} (h : MI y M) : mE (nFine f y) M J (k_Model_fine (zI f) M J) (aFine f y) := by
  have h0 := h.u46 (i := 0) (by omega) (by omega) (zI 0)
  obtain ⟨h1, h2⟩ := hf
  rw [e_Model_fine]
  unfold aFine nFine
  by_cases c : 0 ≤ f ∧ f ≤ 9
  · rw [if_pos c, if_pos c]
    obtain ⟨a1, a2, a3, a4⟩ := h0
    have e := a2.2.1 2 (by omega)
    refine ⟨mUp (mUp M 46 0 (zI 0)) 48 2 (zI f), J, ?_, ⟨?_, ?_, ?_, a4.fr (fun q _ _ => up_nk (by omega))⟩, fun q hq => ?_, fun q hq => rfl⟩
    · simp (disch := omega) only [Int.reduceEq, Int.reduceLT, Int.reduceLE, Int.reduceAdd, Int.reduceMul, Int.reduceSub, Int.reduceNeg, Int.reduceDiv, li_0, li_1, li_2, li_3, li_4, li_5, li_6, li_7, li_8, li_9, li_10, li_16, li_20, li_22, li_32, li_36, li_39, li_40, li_42, li_48, li_60, li_67, li_69, li_70, li_71, li_76, li_77, li_80, li_83, li_86, li_90, li_100, li_120, li_200, li_209, li_234, li_240, li_255, li_300, li_309, li_310, ll_0, ll_1, ll_3, ll_5, ll_7, ll_8, ll_9, ll_20, ll_39, ll_40, ll_60, ll_100, ll_120, ll_200, ll_209, ll_300, ll_309, ll_600, ll_1000000000, zI_neg, zI_add, zI_sub, zI_mul, zL_add, zL_sub, zL_mul, zL_neg, zI_suc, zN_I, zI_ofNat, zI_le_t, zI_le_f, zI_lt_t, zI_lt_f, zI_eq_t, zI_eq_f, zL_le_t, zL_le_f, zL_lt_t, zL_lt_f, zL_eq_t, zL_eq_f, zI_cl, zI_L, mI_t, Int.reduceToNat, nt_le_f, nt_le_t, lc_le, lc_lt, lc_gt, lc_eq, zI_div, Int.toNat_natCast, zI_max, zI_min, or_false, false_or, or_true, true_or, not_false_eq_true, not_true_eq_false, ↓reduceIte, and_self, and_true, true_and, and_false, false_and, not_or, gt_iff_lt, ge_iff_le, mBI_rI, mBJ_rJ, mBR_rV, mBR_rR, rZ_0, rZ_1, m_in, c, e]
    · exact mtH.fr a1 (congrFun (up_nk (by omega)) 2) (up_nk (by omega))
    · obtain ⟨b1, b2, b3, b4, b5⟩ := a2
      refine ⟨?_, fun j hj => ?_, ?_, ?_, ?_⟩
      · rw [up_nk (by omega)]; exact b1
      · show mUp _ 48 _ _ 48 j = zI (upO (yR y) 2 f j)
        unfold upO
        by_cases hc : j = 2
        · rw [if_pos hc, hc, up_at]
        · rw [if_neg hc, up_ne hc]; exact b2 j hj
      · rw [up_nk (by omega), up_nk (by omega), up_nk (by omega)]; exact b3
      · rw [up_nk (by omega)]; exact b4
      · rw [up_nk (by omega)]; exact b5
    · rw [up_nk (by omega)]; exact a3
    · rw [up_nk (by omega), up_nk (by omega)]
  · rw [if_neg c, if_neg c]
    refine .same h ?_
    simp (disch := omega) only [Int.reduceEq, Int.reduceLT, Int.reduceLE, Int.reduceAdd, Int.reduceMul, Int.reduceSub, Int.reduceNeg, Int.reduceDiv, li_0, li_1, li_2, li_3, li_4, li_5, li_6, li_7, li_8, li_9, li_10, li_16, li_20, li_22, li_32, li_36, li_39, li_40, li_42, li_48, li_60, li_67, li_69, li_70, li_71, li_76, li_77, li_80, li_83, li_86, li_90, li_100, li_120, li_200, li_209, li_234, li_240, li_255, li_300, li_309, li_310, ll_0, ll_1, ll_3, ll_5, ll_7, ll_8, ll_9, ll_20, ll_39, ll_40, ll_60, ll_100, ll_120, ll_200, ll_209, ll_300, ll_309, ll_600, ll_1000000000, zI_neg, zI_add, zI_sub, zI_mul, zL_add, zL_sub, zL_mul, zL_neg, zI_suc, zN_I, zI_ofNat, zI_le_t, zI_le_f, zI_lt_t, zI_lt_f, zI_eq_t, zI_eq_f, zL_le_t, zL_le_f, zL_lt_t, zL_lt_f, zL_eq_t, zL_eq_f, zI_cl, zI_L, mI_t, Int.reduceToNat, nt_le_f, nt_le_t, lc_le, lc_lt, lc_gt, lc_eq, zI_div, Int.toNat_natCast, zI_max, zI_min, or_false, false_or, or_true, true_or, not_false_eq_true, not_true_eq_false, ↓reduceIte, and_self, and_true, true_and, and_false, false_and, not_or, gt_iff_lt, ge_iff_le, mBI_rI, mBJ_rJ, mBR_rV, mBR_rR, rZ_0, rZ_1, m_in, c]
