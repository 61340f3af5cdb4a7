/-! the law: every pair of calls -/
theorem pr_wipe : prI k_Pot_wipe k_Model_wipe := by
  exact prI.mk (fun y => zI (yL y : Int)) (fun y => sTx y 0 (yB y)) (fun y hy => ⟨⟨Nat.zero_le _, fun i hi => absurd hi (Nat.not_lt_zero i)⟩, hy.2⟩) (fun y M J hy h => P_wipe h) (fun y M J hy h => R_wipe h)
theorem pr_rule : prI k_Pot_rule k_Model_rule := by
  exact prI.mk (aRule) nRule nRule_ok (fun y M J hy h => P_rule hy h) (fun y M J hy h => R_rule hy h)
theorem pr_group : prI k_Pot_group k_Model_group := by
  exact prI.mk (aGroup) nGroup nGroup_ok (fun y M J hy h => P_group hy h) (fun y M J hy h => R_group hy h)
theorem pr_ruled (x0 : Int32) : prI (k_Pot_ruled x0) (k_Model_ruled x0) := by
  obtain ⟨z0, a0, b0, rfl⟩ := zI_ex x0
  exact prI.mk (aRuled z0) (fun y => y) (fun y hy => hy) (fun y M J hy h => P_ruled ⟨a0, b0⟩ h) (fun y M J hy h => R_ruled ⟨a0, b0⟩ h)
theorem pr_person (x0 x1 : Int32) : prI (k_Pot_person x0 x1) (k_Model_person x0 x1) := by
  obtain ⟨z0, a0, b0, rfl⟩ := zI_ex x0
  obtain ⟨z1, a1, b1, rfl⟩ := zI_ex x1
  exact prI.mk (aPerson z0 z1) (fun y => y) (fun y hy => hy) (fun y M J hy h => P_person ⟨a0, b0⟩ ⟨a1, b1⟩ hy h) (fun y M J hy h => R_person ⟨a0, b0⟩ ⟨a1, b1⟩ hy h)
theorem pr_tell (x0 x1 x2 : Int32) : prI (k_Pot_tell x0 x1 x2) (k_Model_tell x0 x1 x2) := by
  obtain ⟨z0, a0, b0, rfl⟩ := zI_ex x0
  obtain ⟨z1, a1, b1, rfl⟩ := zI_ex x1
  obtain ⟨z2, a2, b2, rfl⟩ := zI_ex x2
  exact prI.mk (aTell z0 z1 z2) (nTell z0 z1 z2) (nTell_ok z0 z1 z2) (fun y M J hy h => P_tell ⟨a0, b0⟩ ⟨a1, b1⟩ ⟨a2, b2⟩ hy h) (fun y M J hy h => R_tell ⟨a0, b0⟩ ⟨a1, b1⟩ ⟨a2, b2⟩ hy h)
theorem pr_send (x0 x1 : Int32) : prI (k_Pot_send x0 x1) (k_Model_send x0 x1) := by
  obtain ⟨z0, a0, b0, rfl⟩ := zI_ex x0
  obtain ⟨z1, a1, b1, rfl⟩ := zI_ex x1
  exact prI.mk (aSend z0 z1) (nSend z0 z1) (nSend_ok z0 z1) (fun y M J hy h => P_send ⟨a0, b0⟩ ⟨a1, b1⟩ hy h) (fun y M J hy h => R_send ⟨a0, b0⟩ ⟨a1, b1⟩ hy h)
theorem pr_fine (x0 : Int32) : prI (k_Pot_fine x0) (k_Model_fine x0) := by
  obtain ⟨z0, a0, b0, rfl⟩ := zI_ex x0
  exact prI.mk (aFine z0) (nFine z0) (nFine_ok z0) (fun y M J hy h => P_fine ⟨a0, b0⟩ h) (fun y M J hy h => R_fine ⟨a0, b0⟩ h)
theorem pr_put (x0 x1 : Int32) : prI (k_Pot_put x0 x1) (k_Model_put x0 x1) := by
  obtain ⟨z0, a0, b0, rfl⟩ := zI_ex x0
  obtain ⟨z1, a1, b1, rfl⟩ := zI_ex x1
  exact prI.mk (a_put z0 z1) (fun y => y) (fun y hy => hy) (fun y M J hy h => P_put ⟨a0, b0⟩ ⟨a1, b1⟩ hy h) (fun y M J hy h => R_put ⟨a0, b0⟩ ⟨a1, b1⟩ hy h)
theorem pr_paid (x0 x1 x2 : Int32) : prI (k_Pot_paid x0 x1 x2) (k_Model_paid x0 x1 x2) := by
  obtain ⟨z0, a0, b0, rfl⟩ := zI_ex x0
  obtain ⟨z1, a1, b1, rfl⟩ := zI_ex x1
  obtain ⟨z2, a2, b2, rfl⟩ := zI_ex x2
  exact prI.mk (a_paid z0 z1 z2) (fun y => y) (fun y hy => hy) (fun y M J hy h => P_paid ⟨a0, b0⟩ ⟨a1, b1⟩ ⟨a2, b2⟩ hy h) (fun y M J hy h => R_paid ⟨a0, b0⟩ ⟨a1, b1⟩ ⟨a2, b2⟩ hy h)
theorem pr_pot (x0 : Int32) : prI (k_Pot_pot x0) (k_Model_pot x0) := by
  obtain ⟨z0, a0, b0, rfl⟩ := zI_ex x0
  exact prI.mk (a_pot z0) (fun y => y) (fun y hy => hy) (fun y M J hy h => P_pot ⟨a0, b0⟩ hy h) (fun y M J hy h => R_pot ⟨a0, b0⟩ hy h)
theorem pr_here (x0 : Int32) : prI (k_Pot_here x0) (k_Model_here x0) := by
  obtain ⟨z0, a0, b0, rfl⟩ := zI_ex x0
  exact prI.mk (a_here z0) (fun y => y) (fun y hy => hy) (fun y M J hy h => P_here ⟨a0, b0⟩ hy h) (fun y M J hy h => R_here ⟨a0, b0⟩ hy h)
theorem pr_holds (x0 x1 : Int32) : prJ (k_Pot_holds x0 x1) (k_Model_holds x0 x1) := by
  obtain ⟨z0, a0, b0, rfl⟩ := zI_ex x0
  obtain ⟨z1, a1, b1, rfl⟩ := zI_ex x1
  exact prJ.mk (a_holds z0 z1) (fun y => y) (fun y hy => hy) (fun y M J hy h => P_holds ⟨a0, b0⟩ ⟨a1, b1⟩ hy h) (fun y M J hy h => R_holds ⟨a0, b0⟩ ⟨a1, b1⟩ hy h)
theorem pr_lost (x0 x1 : Int32) : prI (k_Pot_lost x0 x1) (k_Model_lost x0 x1) := by
  obtain ⟨z0, a0, b0, rfl⟩ := zI_ex x0
  obtain ⟨z1, a1, b1, rfl⟩ := zI_ex x1
  exact prI.mk (a_lost z0 z1) (fun y => y) (fun y hy => hy) (fun y M J hy h => P_lost ⟨a0, b0⟩ ⟨a1, b1⟩ hy h) (fun y M J hy h => R_lost ⟨a0, b0⟩ ⟨a1, b1⟩ hy h)
theorem pr_fall : prI k_Pot_fall k_Model_fall := by
  exact prI.mk (a_fall) (fun y => y) (fun y hy => hy) (fun y M J hy h => P_fall hy h) (fun y M J hy h => R_fall hy h)
theorem pr_pays : prI k_Pot_pays k_Model_pays := by
  exact prI.mk (a_pays) (fun y => y) (fun y hy => hy) (fun y M J hy h => P_pays hy h) (fun y M J hy h => R_pays hy h)
theorem pr_vote (x0 : Int32) : prI (k_Pot_vote x0) (k_Model_vote x0) := by
  obtain ⟨z0, a0, b0, rfl⟩ := zI_ex x0
  exact prI.mk (a_vote z0) (fun y => y) (fun y hy => hy) (fun y M J hy h => P_vote ⟨a0, b0⟩ hy h) (fun y M J hy h => R_vote ⟨a0, b0⟩ hy h)
theorem pr_least (x0 x1 : Int32) : prI (k_Pot_least x0 x1) (k_Model_least x0 x1) := by
  obtain ⟨z0, a0, b0, rfl⟩ := zI_ex x0
  obtain ⟨z1, a1, b1, rfl⟩ := zI_ex x1
  exact prI.mk (a_least z0 z1) (fun y => y) (fun y hy => hy) (fun y M J hy h => P_least ⟨a0, b0⟩ ⟨a1, b1⟩ hy h) (fun y M J hy h => R_least ⟨a0, b0⟩ ⟨a1, b1⟩ hy h)
theorem pr_leader : prI k_Pot_leader k_Model_leader := by
  exact prI.mk (a_leader) (fun y => y) (fun y hy => hy) (fun y M J hy h => P_leader hy h) (fun y M J hy h => R_leader hy h)
theorem pr_led : prJ k_Pot_led k_Model_led := by
  exact prJ.mk (a_led) (fun y => y) (fun y hy => hy) (fun y M J hy h => P_led hy h) (fun y M J hy h => R_led hy h)
theorem pr_whom : prI k_Pot_whom k_Model_whom := by
  exact prI.mk (fun y => zI (whV y (yN y))) (fun y => y) (fun y hy => hy) (fun y M J hy h => P_whom hy h) (fun y M J hy h => R_whom hy h)
theorem pr_without (x0 : Int32) : prJ (k_Pot_without x0) (k_Model_without x0) := by
  obtain ⟨z0, a0, b0, rfl⟩ := zI_ex x0
  exact prJ.mk (a_without z0) (fun y => y) (fun y hy => hy) (fun y M J hy h => P_without ⟨a0, b0⟩ hy h) (fun y M J hy h => R_without ⟨a0, b0⟩ hy h)
theorem pr_part : prI k_Pot_part k_Model_part := by
  exact prI.mk (a_part) (fun y => y) (fun y hy => hy) (fun y M J hy h => P_part hy h) (fun y M J hy h => R_part hy h)
theorem pr_parted : prJ k_Pot_parted k_Model_parted := by
  exact prJ.mk (a_parted) (fun y => y) (fun y hy => hy) (fun y M J hy h => P_parted hy h) (fun y M J hy h => R_parted hy h)
theorem pr_reply (x0 x1 : Int32) : prI (k_Pot_reply x0 x1) (k_Model_reply x0 x1) := by
  obtain ⟨z0, a0, b0, rfl⟩ := zI_ex x0
  obtain ⟨z1, a1, b1, rfl⟩ := zI_ex x1
  exact prI.mk (a_reply z0 z1) (fun y => y) (fun y hy => hy) (fun y M J hy h => P_reply ⟨a0, b0⟩ ⟨a1, b1⟩ hy h) (fun y M J hy h => R_reply ⟨a0, b0⟩ ⟨a1, b1⟩ hy h)
theorem pr_gain (x0 x1 x2 : Int32) : prJ (k_Pot_gain x0 x1 x2) (k_Model_gain x0 x1 x2) := by
  obtain ⟨z0, a0, b0, rfl⟩ := zI_ex x0
  obtain ⟨z1, a1, b1, rfl⟩ := zI_ex x1
  obtain ⟨z2, a2, b2, rfl⟩ := zI_ex x2
  exact prJ.mk (a_gain z0 z1 z2) (fun y => y) (fun y hy => hy) (fun y M J hy h => P_gain ⟨a0, b0⟩ ⟨a1, b1⟩ ⟨a2, b2⟩ hy h) (fun y M J hy h => R_gain ⟨a0, b0⟩ ⟨a1, b1⟩ ⟨a2, b2⟩ hy h)
theorem pr_rest (x0 : Int32) : prI (k_Pot_rest x0) (k_Model_rest x0) := by
  obtain ⟨z0, a0, b0, rfl⟩ := zI_ex x0
  exact prI.mk (a_rest z0) (fun y => y) (fun y hy => hy) (fun y M J hy h => P_rest ⟨a0, b0⟩ hy h) (fun y M J hy h => R_rest ⟨a0, b0⟩ hy h)
theorem pr_note (x0 x1 x2 : Int32) : prI (k_Pot_note x0 x1 x2) (k_Model_note x0 x1 x2) := by
  obtain ⟨z0, a0, b0, rfl⟩ := zI_ex x0
  obtain ⟨z1, a1, b1, rfl⟩ := zI_ex x1
  obtain ⟨z2, a2, b2, rfl⟩ := zI_ex x2
  exact prI.mk (aNote z0 z1 z2) (nNote z0 z1 z2) (nNote_ok z0 z1 z2) (fun y M J hy h => P_note ⟨a0, b0⟩ ⟨a1, b1⟩ ⟨a2, b2⟩ h) (fun y M J hy h => R_note ⟨a0, b0⟩ ⟨a1, b1⟩ ⟨a2, b2⟩ h)
theorem pr_would (x0 x1 x2 : Int32) : prI (k_Pot_would x0 x1 x2) (k_Model_would x0 x1 x2) := by
  obtain ⟨z0, a0, b0, rfl⟩ := zI_ex x0
  obtain ⟨z1, a1, b1, rfl⟩ := zI_ex x1
  obtain ⟨z2, a2, b2, rfl⟩ := zI_ex x2
  exact prI.mk (a_would z0 z1 z2) (fun y => y) (fun y hy => hy) (fun y M J hy h => P_would ⟨a0, b0⟩ ⟨a1, b1⟩ ⟨a2, b2⟩ hy h) (fun y M J hy h => R_would ⟨a0, b0⟩ ⟨a1, b1⟩ ⟨a2, b2⟩ hy h)
theorem pr_slips (x0 x1 : Int32) : prI (k_Pot_slips x0 x1) (k_Model_slips x0 x1) := by
  obtain ⟨z0, a0, b0, rfl⟩ := zI_ex x0
  obtain ⟨z1, a1, b1, rfl⟩ := zI_ex x1
  exact prI.mk (a_slips z0 z1) (fun y => y) (fun y hy => hy) (fun y M J hy h => P_slips ⟨a0, b0⟩ ⟨a1, b1⟩ hy h) (fun y M J hy h => R_slips ⟨a0, b0⟩ ⟨a1, b1⟩ hy h)
theorem pr_sort (x0 : Int32) : prI (k_Pot_sort x0) (k_Model_sort x0) := by
  obtain ⟨z0, a0, b0, rfl⟩ := zI_ex x0
  exact prI.mk (a_sort z0) (fun y => y) (fun y hy => hy) (fun y M J hy h => P_sort ⟨a0, b0⟩ hy h) (fun y M J hy h => R_sort ⟨a0, b0⟩ hy h)
theorem pr_sorts (x0 x1 : Int32) : prI (k_Pot_sorts x0 x1) (k_Model_sorts x0 x1) := by
  obtain ⟨z0, a0, b0, rfl⟩ := zI_ex x0
  obtain ⟨z1, a1, b1, rfl⟩ := zI_ex x1
  exact prI.mk (a_sorts z0 z1) (fun y => y) (fun y hy => hy) (fun y M J hy h => P_sorts ⟨a0, b0⟩ ⟨a1, b1⟩ hy h) (fun y M J hy h => R_sorts ⟨a0, b0⟩ ⟨a1, b1⟩ hy h)
theorem pr_copy : prI k_Pot_copy k_Model_copy := by
  exact prI.mk (fun y => zI (cB (cpB y))) (fun y => sBk y (cpB y)) nCopy_ok (fun y M J hy h => P_copy hy h) (fun y M J hy h => R_copy hy h)
theorem pr_keep (x0 : Int32) : prI (k_Pot_keep x0) (k_Model_keep x0) := by
  obtain ⟨z0, a0, b0, rfl⟩ := zI_ex x0
  exact prI.mk (aKeep z0) (nKeep z0) (nKeep_ok z0) (fun y M J hy h => P_keep ⟨a0, b0⟩ hy h) (fun y M J hy h => R_keep ⟨a0, b0⟩ hy h)
theorem pr_again (x0 : Int32) : prI (k_Pot_again x0) (k_Model_again x0) := by
  obtain ⟨z0, a0, b0, rfl⟩ := zI_ex x0
  exact prI.mk (aAgain z0) (nAgain z0) (nAgain_ok z0) (fun y M J hy h => P_again ⟨a0, b0⟩ hy h) (fun y M J hy h => R_again ⟨a0, b0⟩ hy h)
theorem pr_count (x0 : Int32) : prI (k_Pot_count x0) (k_Model_count x0) := by
  obtain ⟨z0, a0, b0, rfl⟩ := zI_ex x0
  exact prI.mk (aCount z0) (fun y => y) (fun y hy => hy) (fun y M J hy h => P_count ⟨a0, b0⟩ hy h) (fun y M J hy h => R_count ⟨a0, b0⟩ hy h)
theorem pr_write (x0 : Int32) (x : Int64) : prI (k_Pot_write x0 x) (k_Model_write x0 x) := by
  obtain ⟨z0, a0, b0, rfl⟩ := zI_ex x0
  exact prI.mk (aWrite z0) (nWrite z0 x) (nWrite_ok z0 x) (fun y M J hy h => P_write ⟨a0, b0⟩ x hy h) (fun y M J hy h => R_write ⟨a0, b0⟩ x hy h)
theorem pr_fault {b : Int} (hb : b = 0 ∨ b = 1) : prI (k_Pot_fault (zI b)) (k_Model_fault (zI b)) := prI.mk (a_fault b) (fun y => y) (fun y hy => hy) (fun y M J hy h => P_fault hb hy h) (fun y M J hy h => R_fault hb hy h)
theorem pr_all (x0 : Int32) {b : Int} (hb : b = 0 ∨ b = 1) : prJ (k_Pot_all x0 (zI b)) (k_Model_all x0 (zI b)) := by
  obtain ⟨z0, a0, b0, rfl⟩ := zI_ex x0
  exact prJ.mk (a_all z0 b) (fun y => y) (fun y hy => hy) (fun y M J hy h => P_all ⟨a0, b0⟩ hb hy h) (fun y M J hy h => R_all ⟨a0, b0⟩ hb hy h)
theorem iteQ {Q : Option mRs → Prop} {c : Prop} [Decidable c] {a b : Option mRs} (ha : Q a) (hb : Q b) : Q (if c then a else b) := by
  split
  · exact ha
  · exact hb
/-- the state of the law's loop -/
def lwI (L : Nat) (xs : Nat → Int32) (M : mMI) (J : mMJ) : Prop := ∃ y, yOk y ∧ CI y M J ∧ MI y M ∧ M 999 0 = zI (L : Int) ∧ M 1000 = xs
/-- on to the next call -/
def lwG (L : Nat) (xs : Nat → Int32) (i : Nat) (o : Option mRs) : Prop := ∃ N K, lwI L xs N K ∧ o = kL_law_10 (zI ((i + 4 : Nat) : Int)) N K
theorem lg_write {L : Nat} (hL : L ≤ 2048) {xs : Nat → Int32} {i : Nat} (hi : i + 4 ≤ L) {M : mMI} {J : mMJ} (h : lwI L xs M J) : lwG L xs i (kL_law_22 (zI (i : Int)) M J) := by
  obtain ⟨y, hy, hC, hM, h9, hx⟩ := h
  have j2 : ((i : Int) + 2).toNat = i + 2 := by omega
  have j3 : ((i : Int) + 3).toNat = i + 3 := by omega
  have j4 : (i : Int) + 4 = ((i + 4 : Nat) : Int) := by omega
  obtain ⟨v, N, K, N2, K2, y2, e1, e2, o1, o2, o3, fa, fb⟩ := pr_write (xs (i + 1)) (((xs (i + 2)).toInt64 <<< (zL 32 &&& 63)) ||| ((xs (i + 3)).toInt64 &&& 4294967295)) y M J hy hC hM
  have n9 : N 999 = M 999 := fa 999 (by omega)
  have nx : N 1000 = M 1000 := fa 1000 (by omega)
  refine ⟨N2, K2, ⟨y2, o1, o2, o3, by rw [fb 999 (by omega)]; exact h9, by rw [fb 1000 (by omega)]; exact hx⟩, ?_⟩
  rw [eL_law_22]
  simp (disch := omega) only [Int.reduceEq, Int.reduceLT, Int.reduceLE, Int.reduceAdd, Int.reduceMul, Int.reduceSub, Int.reduceNeg, Int.reduceDiv, li_0, li_1, li_2, li_3, li_4, li_5, li_6, li_7, li_8, li_9, li_10, li_16, li_20, li_22, li_32, li_36, li_39, li_40, li_42, li_48, li_60, li_67, li_69, li_70, li_71, li_76, li_77, li_80, li_83, li_86, li_90, li_100, li_120, li_200, li_209, li_234, li_240, li_255, li_300, li_309, li_310, ll_0, ll_1, ll_3, ll_5, ll_7, ll_8, ll_9, ll_20, ll_39, ll_40, ll_60, ll_100, ll_120, ll_200, ll_209, ll_300, ll_309, ll_600, ll_1000000000, zI_neg, zI_add, zI_sub, zI_mul, zL_add, zL_sub, zL_mul, zL_neg, zI_suc, zN_I, zI_ofNat, zI_le_t, zI_le_f, zI_lt_t, zI_lt_f, zI_eq_t, zI_eq_f, zL_le_t, zL_le_f, zL_lt_t, zL_lt_f, zL_eq_t, zL_eq_f, zI_cl, zI_L, mI_t, Int.reduceToNat, nt_le_f, nt_le_t, lc_le, lc_lt, lc_gt, lc_eq, zI_div, Int.toNat_natCast, zI_max, zI_min, or_false, false_or, or_true, true_or, not_false_eq_true, not_true_eq_false, ↓reduceIte, and_self, and_true, true_and, and_false, false_and, not_or, gt_iff_lt, ge_iff_le, mBI_rI, mBJ_rJ, mBR_rV, mBR_rR, rZ_0, rZ_1, h9, hx, j2, j3, j4, n9, nx, e1, e2, eL_law_831, eq_self]
theorem lg_wipe {L : Nat} (hL : L ≤ 2048) {xs : Nat → Int32} {i : Nat} (hi : i + 4 ≤ L) {M : mMI} {J : mMJ} (h : lwI L xs M J) : lwG L xs i (kL_law_73 (zI (i : Int)) M J) := by
  obtain ⟨y, hy, hC, hM, h9, hx⟩ := h
  have j2 : ((i : Int) + 2).toNat = i + 2 := by omega
  have j3 : ((i : Int) + 3).toNat = i + 3 := by omega
  have j4 : (i : Int) + 4 = ((i + 4 : Nat) : Int) := by omega
  obtain ⟨v, N, K, N2, K2, y2, e1, e2, o1, o2, o3, fa, fb⟩ := pr_wipe  y M J hy hC hM
  have n9 : N 999 = M 999 := fa 999 (by omega)
  have nx : N 1000 = M 1000 := fa 1000 (by omega)
  refine ⟨N2, K2, ⟨y2, o1, o2, o3, by rw [fb 999 (by omega)]; exact h9, by rw [fb 1000 (by omega)]; exact hx⟩, ?_⟩
  rw [eL_law_73]
  simp (disch := omega) only [Int.reduceEq, Int.reduceLT, Int.reduceLE, Int.reduceAdd, Int.reduceMul, Int.reduceSub, Int.reduceNeg, Int.reduceDiv, li_0, li_1, li_2, li_3, li_4, li_5, li_6, li_7, li_8, li_9, li_10, li_16, li_20, li_22, li_32, li_36, li_39, li_40, li_42, li_48, li_60, li_67, li_69, li_70, li_71, li_76, li_77, li_80, li_83, li_86, li_90, li_100, li_120, li_200, li_209, li_234, li_240, li_255, li_300, li_309, li_310, ll_0, ll_1, ll_3, ll_5, ll_7, ll_8, ll_9, ll_20, ll_39, ll_40, ll_60, ll_100, ll_120, ll_200, ll_209, ll_300, ll_309, ll_600, ll_1000000000, zI_neg, zI_add, zI_sub, zI_mul, zL_add, zL_sub, zL_mul, zL_neg, zI_suc, zN_I, zI_ofNat, zI_le_t, zI_le_f, zI_lt_t, zI_lt_f, zI_eq_t, zI_eq_f, zL_le_t, zL_le_f, zL_lt_t, zL_lt_f, zL_eq_t, zL_eq_f, zI_cl, zI_L, mI_t, Int.reduceToNat, nt_le_f, nt_le_t, lc_le, lc_lt, lc_gt, lc_eq, zI_div, Int.toNat_natCast, zI_max, zI_min, or_false, false_or, or_true, true_or, not_false_eq_true, not_true_eq_false, ↓reduceIte, and_self, and_true, true_and, and_false, false_and, not_or, gt_iff_lt, ge_iff_le, mBI_rI, mBJ_rJ, mBR_rV, mBR_rR, rZ_0, rZ_1, h9, hx, j2, j3, j4, n9, nx, e1, e2, eL_law_831, eq_self]
theorem lg_fault {L : Nat} (hL : L ≤ 2048) {xs : Nat → Int32} {i : Nat} (hi : i + 4 ≤ L) {M : mMI} {J : mMJ} (h : lwI L xs M J) : lwG L xs i (kL_law_80 (zI (i : Int)) M J) := by
  obtain ⟨y, hy, hC, hM, h9, hx⟩ := h
  have j2 : ((i : Int) + 2).toNat = i + 2 := by omega
  have j3 : ((i : Int) + 3).toNat = i + 3 := by omega
  have j4 : (i : Int) + 4 = ((i + 4 : Nat) : Int) := by omega
  by_cases c : xs (i + 1) = zI 0
  · obtain ⟨v, N, K, N2, K2, y2, e1, e2, o1, o2, o3, fa, fb⟩ := pr_fault (b := 0) (by omega) y M J hy hC hM
    have n9 : N 999 = M 999 := fa 999 (by omega)
    have nx : N 1000 = M 1000 := fa 1000 (by omega)
    refine ⟨N2, K2, ⟨y2, o1, o2, o3, by rw [fb 999 (by omega)]; exact h9, by rw [fb 1000 (by omega)]; exact hx⟩, ?_⟩
    rw [eL_law_80]
    simp (disch := omega) only [Int.reduceEq, Int.reduceLT, Int.reduceLE, Int.reduceAdd, Int.reduceMul, Int.reduceSub, Int.reduceNeg, Int.reduceDiv, li_0, li_1, li_2, li_3, li_4, li_5, li_6, li_7, li_8, li_9, li_10, li_16, li_20, li_22, li_32, li_36, li_39, li_40, li_42, li_48, li_60, li_67, li_69, li_70, li_71, li_76, li_77, li_80, li_83, li_86, li_90, li_100, li_120, li_200, li_209, li_234, li_240, li_255, li_300, li_309, li_310, ll_0, ll_1, ll_3, ll_5, ll_7, ll_8, ll_9, ll_20, ll_39, ll_40, ll_60, ll_100, ll_120, ll_200, ll_209, ll_300, ll_309, ll_600, ll_1000000000, zI_neg, zI_add, zI_sub, zI_mul, zL_add, zL_sub, zL_mul, zL_neg, zI_suc, zN_I, zI_ofNat, zI_le_t, zI_le_f, zI_lt_t, zI_lt_f, zI_eq_t, zI_eq_f, zL_le_t, zL_le_f, zL_lt_t, zL_lt_f, zL_eq_t, zL_eq_f, zI_cl, zI_L, mI_t, Int.reduceToNat, nt_le_f, nt_le_t, lc_le, lc_lt, lc_gt, lc_eq, zI_div, Int.toNat_natCast, zI_max, zI_min, or_false, false_or, or_true, true_or, not_false_eq_true, not_true_eq_false, ↓reduceIte, and_self, and_true, true_and, and_false, false_and, not_or, gt_iff_lt, ge_iff_le, mBI_rI, mBJ_rJ, mBR_rV, mBR_rR, rZ_0, rZ_1, h9, hx, j2, j3, j4, n9, nx, e1, e2, eL_law_831, eq_self, c, eL_law_101]
  · obtain ⟨v, N, K, N2, K2, y2, e1, e2, o1, o2, o3, fa, fb⟩ := pr_fault (b := 1) (by omega) y M J hy hC hM
    have n9 : N 999 = M 999 := fa 999 (by omega)
    have nx : N 1000 = M 1000 := fa 1000 (by omega)
    refine ⟨N2, K2, ⟨y2, o1, o2, o3, by rw [fb 999 (by omega)]; exact h9, by rw [fb 1000 (by omega)]; exact hx⟩, ?_⟩
    rw [eL_law_80]
    simp (disch := omega) only [Int.reduceEq, Int.reduceLT, Int.reduceLE, Int.reduceAdd, Int.reduceMul, Int.reduceSub, Int.reduceNeg, Int.reduceDiv, li_0, li_1, li_2, li_3, li_4, li_5, li_6, li_7, li_8, li_9, li_10, li_16, li_20, li_22, li_32, li_36, li_39, li_40, li_42, li_48, li_60, li_67, li_69, li_70, li_71, li_76, li_77, li_80, li_83, li_86, li_90, li_100, li_120, li_200, li_209, li_234, li_240, li_255, li_300, li_309, li_310, ll_0, ll_1, ll_3, ll_5, ll_7, ll_8, ll_9, ll_20, ll_39, ll_40, ll_60, ll_100, ll_120, ll_200, ll_209, ll_300, ll_309, ll_600, ll_1000000000, zI_neg, zI_add, zI_sub, zI_mul, zL_add, zL_sub, zL_mul, zL_neg, zI_suc, zN_I, zI_ofNat, zI_le_t, zI_le_f, zI_lt_t, zI_lt_f, zI_eq_t, zI_eq_f, zL_le_t, zL_le_f, zL_lt_t, zL_lt_f, zL_eq_t, zL_eq_f, zI_cl, zI_L, mI_t, Int.reduceToNat, nt_le_f, nt_le_t, lc_le, lc_lt, lc_gt, lc_eq, zI_div, Int.toNat_natCast, zI_max, zI_min, or_false, false_or, or_true, true_or, not_false_eq_true, not_true_eq_false, ↓reduceIte, and_self, and_true, true_and, and_false, false_and, not_or, gt_iff_lt, ge_iff_le, mBI_rI, mBJ_rJ, mBR_rV, mBR_rR, rZ_0, rZ_1, h9, hx, j2, j3, j4, n9, nx, e1, e2, eL_law_831, eq_self, c, eL_law_101]
theorem lg_rule {L : Nat} (hL : L ≤ 2048) {xs : Nat → Int32} {i : Nat} (hi : i + 4 ≤ L) {M : mMI} {J : mMJ} (h : lwI L xs M J) : lwG L xs i (kL_law_105 (zI (i : Int)) M J) := by
  obtain ⟨y, hy, hC, hM, h9, hx⟩ := h
  have j2 : ((i : Int) + 2).toNat = i + 2 := by omega
  have j3 : ((i : Int) + 3).toNat = i + 3 := by omega
  have j4 : (i : Int) + 4 = ((i + 4 : Nat) : Int) := by omega
  obtain ⟨v, N, K, N2, K2, y2, e1, e2, o1, o2, o3, fa, fb⟩ := pr_rule  y M J hy hC hM
  have n9 : N 999 = M 999 := fa 999 (by omega)
  have nx : N 1000 = M 1000 := fa 1000 (by omega)
  refine ⟨N2, K2, ⟨y2, o1, o2, o3, by rw [fb 999 (by omega)]; exact h9, by rw [fb 1000 (by omega)]; exact hx⟩, ?_⟩
  rw [eL_law_105]
  simp (disch := omega) only [Int.reduceEq, Int.reduceLT, Int.reduceLE, Int.reduceAdd, Int.reduceMul, Int.reduceSub, Int.reduceNeg, Int.reduceDiv, li_0, li_1, li_2, li_3, li_4, li_5, li_6, li_7, li_8, li_9, li_10, li_16, li_20, li_22, li_32, li_36, li_39, li_40, li_42, li_48, li_60, li_67, li_69, li_70, li_71, li_76, li_77, li_80, li_83, li_86, li_90, li_100, li_120, li_200, li_209, li_234, li_240, li_255, li_300, li_309, li_310, ll_0, ll_1, ll_3, ll_5, ll_7, ll_8, ll_9, ll_20, ll_39, ll_40, ll_60, ll_100, ll_120, ll_200, ll_209, ll_300, ll_309, ll_600, ll_1000000000, zI_neg, zI_add, zI_sub, zI_mul, zL_add, zL_sub, zL_mul, zL_neg, zI_suc, zN_I, zI_ofNat, zI_le_t, zI_le_f, zI_lt_t, zI_lt_f, zI_eq_t, zI_eq_f, zL_le_t, zL_le_f, zL_lt_t, zL_lt_f, zL_eq_t, zL_eq_f, zI_cl, zI_L, mI_t, Int.reduceToNat, nt_le_f, nt_le_t, lc_le, lc_lt, lc_gt, lc_eq, zI_div, Int.toNat_natCast, zI_max, zI_min, or_false, false_or, or_true, true_or, not_false_eq_true, not_true_eq_false, ↓reduceIte, and_self, and_true, true_and, and_false, false_and, not_or, gt_iff_lt, ge_iff_le, mBI_rI, mBJ_rJ, mBR_rV, mBR_rR, rZ_0, rZ_1, h9, hx, j2, j3, j4, n9, nx, e1, e2, eL_law_831, eq_self]
theorem lg_group {L : Nat} (hL : L ≤ 2048) {xs : Nat → Int32} {i : Nat} (hi : i + 4 ≤ L) {M : mMI} {J : mMJ} (h : lwI L xs M J) : lwG L xs i (kL_law_112 (zI (i : Int)) M J) := by
  obtain ⟨y, hy, hC, hM, h9, hx⟩ := h
  have j2 : ((i : Int) + 2).toNat = i + 2 := by omega
  have j3 : ((i : Int) + 3).toNat = i + 3 := by omega
  have j4 : (i : Int) + 4 = ((i + 4 : Nat) : Int) := by omega
  obtain ⟨v, N, K, N2, K2, y2, e1, e2, o1, o2, o3, fa, fb⟩ := pr_group  y M J hy hC hM
  have n9 : N 999 = M 999 := fa 999 (by omega)
  have nx : N 1000 = M 1000 := fa 1000 (by omega)
  refine ⟨N2, K2, ⟨y2, o1, o2, o3, by rw [fb 999 (by omega)]; exact h9, by rw [fb 1000 (by omega)]; exact hx⟩, ?_⟩
  rw [eL_law_112]
  simp (disch := omega) only [Int.reduceEq, Int.reduceLT, Int.reduceLE, Int.reduceAdd, Int.reduceMul, Int.reduceSub, Int.reduceNeg, Int.reduceDiv, li_0, li_1, li_2, li_3, li_4, li_5, li_6, li_7, li_8, li_9, li_10, li_16, li_20, li_22, li_32, li_36, li_39, li_40, li_42, li_48, li_60, li_67, li_69, li_70, li_71, li_76, li_77, li_80, li_83, li_86, li_90, li_100, li_120, li_200, li_209, li_234, li_240, li_255, li_300, li_309, li_310, ll_0, ll_1, ll_3, ll_5, ll_7, ll_8, ll_9, ll_20, ll_39, ll_40, ll_60, ll_100, ll_120, ll_200, ll_209, ll_300, ll_309, ll_600, ll_1000000000, zI_neg, zI_add, zI_sub, zI_mul, zL_add, zL_sub, zL_mul, zL_neg, zI_suc, zN_I, zI_ofNat, zI_le_t, zI_le_f, zI_lt_t, zI_lt_f, zI_eq_t, zI_eq_f, zL_le_t, zL_le_f, zL_lt_t, zL_lt_f, zL_eq_t, zL_eq_f, zI_cl, zI_L, mI_t, Int.reduceToNat, nt_le_f, nt_le_t, lc_le, lc_lt, lc_gt, lc_eq, zI_div, Int.toNat_natCast, zI_max, zI_min, or_false, false_or, or_true, true_or, not_false_eq_true, not_true_eq_false, ↓reduceIte, and_self, and_true, true_and, and_false, false_and, not_or, gt_iff_lt, ge_iff_le, mBI_rI, mBJ_rJ, mBR_rV, mBR_rR, rZ_0, rZ_1, h9, hx, j2, j3, j4, n9, nx, e1, e2, eL_law_831, eq_self]
theorem lg_ruled {L : Nat} (hL : L ≤ 2048) {xs : Nat → Int32} {i : Nat} (hi : i + 4 ≤ L) {M : mMI} {J : mMJ} (h : lwI L xs M J) : lwG L xs i (kL_law_119 (zI (i : Int)) M J) := by
  obtain ⟨y, hy, hC, hM, h9, hx⟩ := h
  have j2 : ((i : Int) + 2).toNat = i + 2 := by omega
  have j3 : ((i : Int) + 3).toNat = i + 3 := by omega
  have j4 : (i : Int) + 4 = ((i + 4 : Nat) : Int) := by omega
  obtain ⟨v, N, K, N2, K2, y2, e1, e2, o1, o2, o3, fa, fb⟩ := pr_ruled (xs (i + 1)) y M J hy hC hM
  have n9 : N 999 = M 999 := fa 999 (by omega)
  have nx : N 1000 = M 1000 := fa 1000 (by omega)
  refine ⟨N2, K2, ⟨y2, o1, o2, o3, by rw [fb 999 (by omega)]; exact h9, by rw [fb 1000 (by omega)]; exact hx⟩, ?_⟩
  rw [eL_law_119]
  simp (disch := omega) only [Int.reduceEq, Int.reduceLT, Int.reduceLE, Int.reduceAdd, Int.reduceMul, Int.reduceSub, Int.reduceNeg, Int.reduceDiv, li_0, li_1, li_2, li_3, li_4, li_5, li_6, li_7, li_8, li_9, li_10, li_16, li_20, li_22, li_32, li_36, li_39, li_40, li_42, li_48, li_60, li_67, li_69, li_70, li_71, li_76, li_77, li_80, li_83, li_86, li_90, li_100, li_120, li_200, li_209, li_234, li_240, li_255, li_300, li_309, li_310, ll_0, ll_1, ll_3, ll_5, ll_7, ll_8, ll_9, ll_20, ll_39, ll_40, ll_60, ll_100, ll_120, ll_200, ll_209, ll_300, ll_309, ll_600, ll_1000000000, zI_neg, zI_add, zI_sub, zI_mul, zL_add, zL_sub, zL_mul, zL_neg, zI_suc, zN_I, zI_ofNat, zI_le_t, zI_le_f, zI_lt_t, zI_lt_f, zI_eq_t, zI_eq_f, zL_le_t, zL_le_f, zL_lt_t, zL_lt_f, zL_eq_t, zL_eq_f, zI_cl, zI_L, mI_t, Int.reduceToNat, nt_le_f, nt_le_t, lc_le, lc_lt, lc_gt, lc_eq, zI_div, Int.toNat_natCast, zI_max, zI_min, or_false, false_or, or_true, true_or, not_false_eq_true, not_true_eq_false, ↓reduceIte, and_self, and_true, true_and, and_false, false_and, not_or, gt_iff_lt, ge_iff_le, mBI_rI, mBJ_rJ, mBR_rV, mBR_rR, rZ_0, rZ_1, h9, hx, j2, j3, j4, n9, nx, e1, e2, eL_law_831, eq_self]
theorem lg_person {L : Nat} (hL : L ≤ 2048) {xs : Nat → Int32} {i : Nat} (hi : i + 4 ≤ L) {M : mMI} {J : mMJ} (h : lwI L xs M J) : lwG L xs i (kL_law_136 (zI (i : Int)) M J) := by
  obtain ⟨y, hy, hC, hM, h9, hx⟩ := h
  have j2 : ((i : Int) + 2).toNat = i + 2 := by omega
  have j3 : ((i : Int) + 3).toNat = i + 3 := by omega
  have j4 : (i : Int) + 4 = ((i + 4 : Nat) : Int) := by omega
  obtain ⟨v, N, K, N2, K2, y2, e1, e2, o1, o2, o3, fa, fb⟩ := pr_person (xs (i + 1)) (xs (i + 2)) y M J hy hC hM
  have n9 : N 999 = M 999 := fa 999 (by omega)
  have nx : N 1000 = M 1000 := fa 1000 (by omega)
  refine ⟨N2, K2, ⟨y2, o1, o2, o3, by rw [fb 999 (by omega)]; exact h9, by rw [fb 1000 (by omega)]; exact hx⟩, ?_⟩
  rw [eL_law_136]
  simp (disch := omega) only [Int.reduceEq, Int.reduceLT, Int.reduceLE, Int.reduceAdd, Int.reduceMul, Int.reduceSub, Int.reduceNeg, Int.reduceDiv, li_0, li_1, li_2, li_3, li_4, li_5, li_6, li_7, li_8, li_9, li_10, li_16, li_20, li_22, li_32, li_36, li_39, li_40, li_42, li_48, li_60, li_67, li_69, li_70, li_71, li_76, li_77, li_80, li_83, li_86, li_90, li_100, li_120, li_200, li_209, li_234, li_240, li_255, li_300, li_309, li_310, ll_0, ll_1, ll_3, ll_5, ll_7, ll_8, ll_9, ll_20, ll_39, ll_40, ll_60, ll_100, ll_120, ll_200, ll_209, ll_300, ll_309, ll_600, ll_1000000000, zI_neg, zI_add, zI_sub, zI_mul, zL_add, zL_sub, zL_mul, zL_neg, zI_suc, zN_I, zI_ofNat, zI_le_t, zI_le_f, zI_lt_t, zI_lt_f, zI_eq_t, zI_eq_f, zL_le_t, zL_le_f, zL_lt_t, zL_lt_f, zL_eq_t, zL_eq_f, zI_cl, zI_L, mI_t, Int.reduceToNat, nt_le_f, nt_le_t, lc_le, lc_lt, lc_gt, lc_eq, zI_div, Int.toNat_natCast, zI_max, zI_min, or_false, false_or, or_true, true_or, not_false_eq_true, not_true_eq_false, ↓reduceIte, and_self, and_true, true_and, and_false, false_and, not_or, gt_iff_lt, ge_iff_le, mBI_rI, mBJ_rJ, mBR_rV, mBR_rR, rZ_0, rZ_1, h9, hx, j2, j3, j4, n9, nx, e1, e2, eL_law_831, eq_self]
theorem lg_tell {L : Nat} (hL : L ≤ 2048) {xs : Nat → Int32} {i : Nat} (hi : i + 4 ≤ L) {M : mMI} {J : mMJ} (h : lwI L xs M J) : lwG L xs i (kL_law_163 (zI (i : Int)) M J) := by
  obtain ⟨y, hy, hC, hM, h9, hx⟩ := h
  have j2 : ((i : Int) + 2).toNat = i + 2 := by omega
  have j3 : ((i : Int) + 3).toNat = i + 3 := by omega
  have j4 : (i : Int) + 4 = ((i + 4 : Nat) : Int) := by omega
  obtain ⟨v, N, K, N2, K2, y2, e1, e2, o1, o2, o3, fa, fb⟩ := pr_tell (xs (i + 1)) (xs (i + 2)) (xs (i + 3)) y M J hy hC hM
  have n9 : N 999 = M 999 := fa 999 (by omega)
  have nx : N 1000 = M 1000 := fa 1000 (by omega)
  refine ⟨N2, K2, ⟨y2, o1, o2, o3, by rw [fb 999 (by omega)]; exact h9, by rw [fb 1000 (by omega)]; exact hx⟩, ?_⟩
  rw [eL_law_163]
  simp (disch := omega) only [Int.reduceEq, Int.reduceLT, Int.reduceLE, Int.reduceAdd, Int.reduceMul, Int.reduceSub, Int.reduceNeg, Int.reduceDiv, li_0, li_1, li_2, li_3, li_4, li_5, li_6, li_7, li_8, li_9, li_10, li_16, li_20, li_22, li_32, li_36, li_39, li_40, li_42, li_48, li_60, li_67, li_69, li_70, li_71, li_76, li_77, li_80, li_83, li_86, li_90, li_100, li_120, li_200, li_209, li_234, li_240, li_255, li_300, li_309, li_310, ll_0, ll_1, ll_3, ll_5, ll_7, ll_8, ll_9, ll_20, ll_39, ll_40, ll_60, ll_100, ll_120, ll_200, ll_209, ll_300, ll_309, ll_600, ll_1000000000, zI_neg, zI_add, zI_sub, zI_mul, zL_add, zL_sub, zL_mul, zL_neg, zI_suc, zN_I, zI_ofNat, zI_le_t, zI_le_f, zI_lt_t, zI_lt_f, zI_eq_t, zI_eq_f, zL_le_t, zL_le_f, zL_lt_t, zL_lt_f, zL_eq_t, zL_eq_f, zI_cl, zI_L, mI_t, Int.reduceToNat, nt_le_f, nt_le_t, lc_le, lc_lt, lc_gt, lc_eq, zI_div, Int.toNat_natCast, zI_max, zI_min, or_false, false_or, or_true, true_or, not_false_eq_true, not_true_eq_false, ↓reduceIte, and_self, and_true, true_and, and_false, false_and, not_or, gt_iff_lt, ge_iff_le, mBI_rI, mBJ_rJ, mBR_rV, mBR_rR, rZ_0, rZ_1, h9, hx, j2, j3, j4, n9, nx, e1, e2, eL_law_831, eq_self]
theorem lg_send {L : Nat} (hL : L ≤ 2048) {xs : Nat → Int32} {i : Nat} (hi : i + 4 ≤ L) {M : mMI} {J : mMJ} (h : lwI L xs M J) : lwG L xs i (kL_law_200 (zI (i : Int)) M J) := by
  obtain ⟨y, hy, hC, hM, h9, hx⟩ := h
  have j2 : ((i : Int) + 2).toNat = i + 2 := by omega
  have j3 : ((i : Int) + 3).toNat = i + 3 := by omega
  have j4 : (i : Int) + 4 = ((i + 4 : Nat) : Int) := by omega
  obtain ⟨v, N, K, N2, K2, y2, e1, e2, o1, o2, o3, fa, fb⟩ := pr_send (xs (i + 1)) (xs (i + 2)) y M J hy hC hM
  have n9 : N 999 = M 999 := fa 999 (by omega)
  have nx : N 1000 = M 1000 := fa 1000 (by omega)
  refine ⟨N2, K2, ⟨y2, o1, o2, o3, by rw [fb 999 (by omega)]; exact h9, by rw [fb 1000 (by omega)]; exact hx⟩, ?_⟩
  rw [eL_law_200]
  simp (disch := omega) only [Int.reduceEq, Int.reduceLT, Int.reduceLE, Int.reduceAdd, Int.reduceMul, Int.reduceSub, Int.reduceNeg, Int.reduceDiv, li_0, li_1, li_2, li_3, li_4, li_5, li_6, li_7, li_8, li_9, li_10, li_16, li_20, li_22, li_32, li_36, li_39, li_40, li_42, li_48, li_60, li_67, li_69, li_70, li_71, li_76, li_77, li_80, li_83, li_86, li_90, li_100, li_120, li_200, li_209, li_234, li_240, li_255, li_300, li_309, li_310, ll_0, ll_1, ll_3, ll_5, ll_7, ll_8, ll_9, ll_20, ll_39, ll_40, ll_60, ll_100, ll_120, ll_200, ll_209, ll_300, ll_309, ll_600, ll_1000000000, zI_neg, zI_add, zI_sub, zI_mul, zL_add, zL_sub, zL_mul, zL_neg, zI_suc, zN_I, zI_ofNat, zI_le_t, zI_le_f, zI_lt_t, zI_lt_f, zI_eq_t, zI_eq_f, zL_le_t, zL_le_f, zL_lt_t, zL_lt_f, zL_eq_t, zL_eq_f, zI_cl, zI_L, mI_t, Int.reduceToNat, nt_le_f, nt_le_t, lc_le, lc_lt, lc_gt, lc_eq, zI_div, Int.toNat_natCast, zI_max, zI_min, or_false, false_or, or_true, true_or, not_false_eq_true, not_true_eq_false, ↓reduceIte, and_self, and_true, true_and, and_false, false_and, not_or, gt_iff_lt, ge_iff_le, mBI_rI, mBJ_rJ, mBR_rV, mBR_rR, rZ_0, rZ_1, h9, hx, j2, j3, j4, n9, nx, e1, e2, eL_law_831, eq_self]
theorem lg_fine {L : Nat} (hL : L ≤ 2048) {xs : Nat → Int32} {i : Nat} (hi : i + 4 ≤ L) {M : mMI} {J : mMJ} (h : lwI L xs M J) : lwG L xs i (kL_law_227 (zI (i : Int)) M J) := by
  obtain ⟨y, hy, hC, hM, h9, hx⟩ := h
  have j2 : ((i : Int) + 2).toNat = i + 2 := by omega
  have j3 : ((i : Int) + 3).toNat = i + 3 := by omega
  have j4 : (i : Int) + 4 = ((i + 4 : Nat) : Int) := by omega
  obtain ⟨v, N, K, N2, K2, y2, e1, e2, o1, o2, o3, fa, fb⟩ := pr_fine (xs (i + 1)) y M J hy hC hM
  have n9 : N 999 = M 999 := fa 999 (by omega)
  have nx : N 1000 = M 1000 := fa 1000 (by omega)
  refine ⟨N2, K2, ⟨y2, o1, o2, o3, by rw [fb 999 (by omega)]; exact h9, by rw [fb 1000 (by omega)]; exact hx⟩, ?_⟩
  rw [eL_law_227]
  simp (disch := omega) only [Int.reduceEq, Int.reduceLT, Int.reduceLE, Int.reduceAdd, Int.reduceMul, Int.reduceSub, Int.reduceNeg, Int.reduceDiv, li_0, li_1, li_2, li_3, li_4, li_5, li_6, li_7, li_8, li_9, li_10, li_16, li_20, li_22, li_32, li_36, li_39, li_40, li_42, li_48, li_60, li_67, li_69, li_70, li_71, li_76, li_77, li_80, li_83, li_86, li_90, li_100, li_120, li_200, li_209, li_234, li_240, li_255, li_300, li_309, li_310, ll_0, ll_1, ll_3, ll_5, ll_7, ll_8, ll_9, ll_20, ll_39, ll_40, ll_60, ll_100, ll_120, ll_200, ll_209, ll_300, ll_309, ll_600, ll_1000000000, zI_neg, zI_add, zI_sub, zI_mul, zL_add, zL_sub, zL_mul, zL_neg, zI_suc, zN_I, zI_ofNat, zI_le_t, zI_le_f, zI_lt_t, zI_lt_f, zI_eq_t, zI_eq_f, zL_le_t, zL_le_f, zL_lt_t, zL_lt_f, zL_eq_t, zL_eq_f, zI_cl, zI_L, mI_t, Int.reduceToNat, nt_le_f, nt_le_t, lc_le, lc_lt, lc_gt, lc_eq, zI_div, Int.toNat_natCast, zI_max, zI_min, or_false, false_or, or_true, true_or, not_false_eq_true, not_true_eq_false, ↓reduceIte, and_self, and_true, true_and, and_false, false_and, not_or, gt_iff_lt, ge_iff_le, mBI_rI, mBJ_rJ, mBR_rV, mBR_rR, rZ_0, rZ_1, h9, hx, j2, j3, j4, n9, nx, e1, e2, eL_law_831, eq_self]
theorem lg_put {L : Nat} (hL : L ≤ 2048) {xs : Nat → Int32} {i : Nat} (hi : i + 4 ≤ L) {M : mMI} {J : mMJ} (h : lwI L xs M J) : lwG L xs i (kL_law_244 (zI (i : Int)) M J) := by
  obtain ⟨y, hy, hC, hM, h9, hx⟩ := h
  have j2 : ((i : Int) + 2).toNat = i + 2 := by omega
  have j3 : ((i : Int) + 3).toNat = i + 3 := by omega
  have j4 : (i : Int) + 4 = ((i + 4 : Nat) : Int) := by omega
  obtain ⟨v, N, K, N2, K2, y2, e1, e2, o1, o2, o3, fa, fb⟩ := pr_put (xs (i + 1)) (xs (i + 2)) y M J hy hC hM
  have n9 : N 999 = M 999 := fa 999 (by omega)
  have nx : N 1000 = M 1000 := fa 1000 (by omega)
  refine ⟨N2, K2, ⟨y2, o1, o2, o3, by rw [fb 999 (by omega)]; exact h9, by rw [fb 1000 (by omega)]; exact hx⟩, ?_⟩
  rw [eL_law_244]
  simp (disch := omega) only [Int.reduceEq, Int.reduceLT, Int.reduceLE, Int.reduceAdd, Int.reduceMul, Int.reduceSub, Int.reduceNeg, Int.reduceDiv, li_0, li_1, li_2, li_3, li_4, li_5, li_6, li_7, li_8, li_9, li_10, li_16, li_20, li_22, li_32, li_36, li_39, li_40, li_42, li_48, li_60, li_67, li_69, li_70, li_71, li_76, li_77, li_80, li_83, li_86, li_90, li_100, li_120, li_200, li_209, li_234, li_240, li_255, li_300, li_309, li_310, ll_0, ll_1, ll_3, ll_5, ll_7, ll_8, ll_9, ll_20, ll_39, ll_40, ll_60, ll_100, ll_120, ll_200, ll_209, ll_300, ll_309, ll_600, ll_1000000000, zI_neg, zI_add, zI_sub, zI_mul, zL_add, zL_sub, zL_mul, zL_neg, zI_suc, zN_I, zI_ofNat, zI_le_t, zI_le_f, zI_lt_t, zI_lt_f, zI_eq_t, zI_eq_f, zL_le_t, zL_le_f, zL_lt_t, zL_lt_f, zL_eq_t, zL_eq_f, zI_cl, zI_L, mI_t, Int.reduceToNat, nt_le_f, nt_le_t, lc_le, lc_lt, lc_gt, lc_eq, zI_div, Int.toNat_natCast, zI_max, zI_min, or_false, false_or, or_true, true_or, not_false_eq_true, not_true_eq_false, ↓reduceIte, and_self, and_true, true_and, and_false, false_and, not_or, gt_iff_lt, ge_iff_le, mBI_rI, mBJ_rJ, mBR_rV, mBR_rR, rZ_0, rZ_1, h9, hx, j2, j3, j4, n9, nx, e1, e2, eL_law_831, eq_self]
theorem lg_paid {L : Nat} (hL : L ≤ 2048) {xs : Nat → Int32} {i : Nat} (hi : i + 4 ≤ L) {M : mMI} {J : mMJ} (h : lwI L xs M J) : lwG L xs i (kL_law_271 (zI (i : Int)) M J) := by
  obtain ⟨y, hy, hC, hM, h9, hx⟩ := h
  have j2 : ((i : Int) + 2).toNat = i + 2 := by omega
  have j3 : ((i : Int) + 3).toNat = i + 3 := by omega
  have j4 : (i : Int) + 4 = ((i + 4 : Nat) : Int) := by omega
  obtain ⟨v, N, K, N2, K2, y2, e1, e2, o1, o2, o3, fa, fb⟩ := pr_paid (xs (i + 1)) (xs (i + 2)) (xs (i + 3)) y M J hy hC hM
  have n9 : N 999 = M 999 := fa 999 (by omega)
  have nx : N 1000 = M 1000 := fa 1000 (by omega)
  refine ⟨N2, K2, ⟨y2, o1, o2, o3, by rw [fb 999 (by omega)]; exact h9, by rw [fb 1000 (by omega)]; exact hx⟩, ?_⟩
  rw [eL_law_271]
  simp (disch := omega) only [Int.reduceEq, Int.reduceLT, Int.reduceLE, Int.reduceAdd, Int.reduceMul, Int.reduceSub, Int.reduceNeg, Int.reduceDiv, li_0, li_1, li_2, li_3, li_4, li_5, li_6, li_7, li_8, li_9, li_10, li_16, li_20, li_22, li_32, li_36, li_39, li_40, li_42, li_48, li_60, li_67, li_69, li_70, li_71, li_76, li_77, li_80, li_83, li_86, li_90, li_100, li_120, li_200, li_209, li_234, li_240, li_255, li_300, li_309, li_310, ll_0, ll_1, ll_3, ll_5, ll_7, ll_8, ll_9, ll_20, ll_39, ll_40, ll_60, ll_100, ll_120, ll_200, ll_209, ll_300, ll_309, ll_600, ll_1000000000, zI_neg, zI_add, zI_sub, zI_mul, zL_add, zL_sub, zL_mul, zL_neg, zI_suc, zN_I, zI_ofNat, zI_le_t, zI_le_f, zI_lt_t, zI_lt_f, zI_eq_t, zI_eq_f, zL_le_t, zL_le_f, zL_lt_t, zL_lt_f, zL_eq_t, zL_eq_f, zI_cl, zI_L, mI_t, Int.reduceToNat, nt_le_f, nt_le_t, lc_le, lc_lt, lc_gt, lc_eq, zI_div, Int.toNat_natCast, zI_max, zI_min, or_false, false_or, or_true, true_or, not_false_eq_true, not_true_eq_false, ↓reduceIte, and_self, and_true, true_and, and_false, false_and, not_or, gt_iff_lt, ge_iff_le, mBI_rI, mBJ_rJ, mBR_rV, mBR_rR, rZ_0, rZ_1, h9, hx, j2, j3, j4, n9, nx, e1, e2, eL_law_831, eq_self]
theorem lg_pot {L : Nat} (hL : L ≤ 2048) {xs : Nat → Int32} {i : Nat} (hi : i + 4 ≤ L) {M : mMI} {J : mMJ} (h : lwI L xs M J) : lwG L xs i (kL_law_308 (zI (i : Int)) M J) := by
  obtain ⟨y, hy, hC, hM, h9, hx⟩ := h
  have j2 : ((i : Int) + 2).toNat = i + 2 := by omega
  have j3 : ((i : Int) + 3).toNat = i + 3 := by omega
  have j4 : (i : Int) + 4 = ((i + 4 : Nat) : Int) := by omega
  obtain ⟨v, N, K, N2, K2, y2, e1, e2, o1, o2, o3, fa, fb⟩ := pr_pot (xs (i + 1)) y M J hy hC hM
  have n9 : N 999 = M 999 := fa 999 (by omega)
  have nx : N 1000 = M 1000 := fa 1000 (by omega)
  refine ⟨N2, K2, ⟨y2, o1, o2, o3, by rw [fb 999 (by omega)]; exact h9, by rw [fb 1000 (by omega)]; exact hx⟩, ?_⟩
  rw [eL_law_308]
  simp (disch := omega) only [Int.reduceEq, Int.reduceLT, Int.reduceLE, Int.reduceAdd, Int.reduceMul, Int.reduceSub, Int.reduceNeg, Int.reduceDiv, li_0, li_1, li_2, li_3, li_4, li_5, li_6, li_7, li_8, li_9, li_10, li_16, li_20, li_22, li_32, li_36, li_39, li_40, li_42, li_48, li_60, li_67, li_69, li_70, li_71, li_76, li_77, li_80, li_83, li_86, li_90, li_100, li_120, li_200, li_209, li_234, li_240, li_255, li_300, li_309, li_310, ll_0, ll_1, ll_3, ll_5, ll_7, ll_8, ll_9, ll_20, ll_39, ll_40, ll_60, ll_100, ll_120, ll_200, ll_209, ll_300, ll_309, ll_600, ll_1000000000, zI_neg, zI_add, zI_sub, zI_mul, zL_add, zL_sub, zL_mul, zL_neg, zI_suc, zN_I, zI_ofNat, zI_le_t, zI_le_f, zI_lt_t, zI_lt_f, zI_eq_t, zI_eq_f, zL_le_t, zL_le_f, zL_lt_t, zL_lt_f, zL_eq_t, zL_eq_f, zI_cl, zI_L, mI_t, Int.reduceToNat, nt_le_f, nt_le_t, lc_le, lc_lt, lc_gt, lc_eq, zI_div, Int.toNat_natCast, zI_max, zI_min, or_false, false_or, or_true, true_or, not_false_eq_true, not_true_eq_false, ↓reduceIte, and_self, and_true, true_and, and_false, false_and, not_or, gt_iff_lt, ge_iff_le, mBI_rI, mBJ_rJ, mBR_rV, mBR_rR, rZ_0, rZ_1, h9, hx, j2, j3, j4, n9, nx, e1, e2, eL_law_831, eq_self]
theorem lg_here {L : Nat} (hL : L ≤ 2048) {xs : Nat → Int32} {i : Nat} (hi : i + 4 ≤ L) {M : mMI} {J : mMJ} (h : lwI L xs M J) : lwG L xs i (kL_law_325 (zI (i : Int)) M J) := by
  obtain ⟨y, hy, hC, hM, h9, hx⟩ := h
  have j2 : ((i : Int) + 2).toNat = i + 2 := by omega
  have j3 : ((i : Int) + 3).toNat = i + 3 := by omega
  have j4 : (i : Int) + 4 = ((i + 4 : Nat) : Int) := by omega
  obtain ⟨v, N, K, N2, K2, y2, e1, e2, o1, o2, o3, fa, fb⟩ := pr_here (xs (i + 1)) y M J hy hC hM
  have n9 : N 999 = M 999 := fa 999 (by omega)
  have nx : N 1000 = M 1000 := fa 1000 (by omega)
  refine ⟨N2, K2, ⟨y2, o1, o2, o3, by rw [fb 999 (by omega)]; exact h9, by rw [fb 1000 (by omega)]; exact hx⟩, ?_⟩
  rw [eL_law_325]
  simp (disch := omega) only [Int.reduceEq, Int.reduceLT, Int.reduceLE, Int.reduceAdd, Int.reduceMul, Int.reduceSub, Int.reduceNeg, Int.reduceDiv, li_0, li_1, li_2, li_3, li_4, li_5, li_6, li_7, li_8, li_9, li_10, li_16, li_20, li_22, li_32, li_36, li_39, li_40, li_42, li_48, li_60, li_67, li_69, li_70, li_71, li_76, li_77, li_80, li_83, li_86, li_90, li_100, li_120, li_200, li_209, li_234, li_240, li_255, li_300, li_309, li_310, ll_0, ll_1, ll_3, ll_5, ll_7, ll_8, ll_9, ll_20, ll_39, ll_40, ll_60, ll_100, ll_120, ll_200, ll_209, ll_300, ll_309, ll_600, ll_1000000000, zI_neg, zI_add, zI_sub, zI_mul, zL_add, zL_sub, zL_mul, zL_neg, zI_suc, zN_I, zI_ofNat, zI_le_t, zI_le_f, zI_lt_t, zI_lt_f, zI_eq_t, zI_eq_f, zL_le_t, zL_le_f, zL_lt_t, zL_lt_f, zL_eq_t, zL_eq_f, zI_cl, zI_L, mI_t, Int.reduceToNat, nt_le_f, nt_le_t, lc_le, lc_lt, lc_gt, lc_eq, zI_div, Int.toNat_natCast, zI_max, zI_min, or_false, false_or, or_true, true_or, not_false_eq_true, not_true_eq_false, ↓reduceIte, and_self, and_true, true_and, and_false, false_and, not_or, gt_iff_lt, ge_iff_le, mBI_rI, mBJ_rJ, mBR_rV, mBR_rR, rZ_0, rZ_1, h9, hx, j2, j3, j4, n9, nx, e1, e2, eL_law_831, eq_self]
theorem lg_holds {L : Nat} (hL : L ≤ 2048) {xs : Nat → Int32} {i : Nat} (hi : i + 4 ≤ L) {M : mMI} {J : mMJ} (h : lwI L xs M J) : lwG L xs i (kL_law_342 (zI (i : Int)) M J) := by
  obtain ⟨y, hy, hC, hM, h9, hx⟩ := h
  have j2 : ((i : Int) + 2).toNat = i + 2 := by omega
  have j3 : ((i : Int) + 3).toNat = i + 3 := by omega
  have j4 : (i : Int) + 4 = ((i + 4 : Nat) : Int) := by omega
  obtain ⟨v, N, K, N2, K2, y2, e1, e2, o1, o2, o3, fa, fb⟩ := pr_holds (xs (i + 1)) (xs (i + 2)) y M J hy hC hM
  have n9 : N 999 = M 999 := fa 999 (by omega)
  have nx : N 1000 = M 1000 := fa 1000 (by omega)
  refine ⟨N2, K2, ⟨y2, o1, o2, o3, by rw [fb 999 (by omega)]; exact h9, by rw [fb 1000 (by omega)]; exact hx⟩, ?_⟩
  rw [eL_law_342]
  simp (disch := omega) only [Int.reduceEq, Int.reduceLT, Int.reduceLE, Int.reduceAdd, Int.reduceMul, Int.reduceSub, Int.reduceNeg, Int.reduceDiv, li_0, li_1, li_2, li_3, li_4, li_5, li_6, li_7, li_8, li_9, li_10, li_16, li_20, li_22, li_32, li_36, li_39, li_40, li_42, li_48, li_60, li_67, li_69, li_70, li_71, li_76, li_77, li_80, li_83, li_86, li_90, li_100, li_120, li_200, li_209, li_234, li_240, li_255, li_300, li_309, li_310, ll_0, ll_1, ll_3, ll_5, ll_7, ll_8, ll_9, ll_20, ll_39, ll_40, ll_60, ll_100, ll_120, ll_200, ll_209, ll_300, ll_309, ll_600, ll_1000000000, zI_neg, zI_add, zI_sub, zI_mul, zL_add, zL_sub, zL_mul, zL_neg, zI_suc, zN_I, zI_ofNat, zI_le_t, zI_le_f, zI_lt_t, zI_lt_f, zI_eq_t, zI_eq_f, zL_le_t, zL_le_f, zL_lt_t, zL_lt_f, zL_eq_t, zL_eq_f, zI_cl, zI_L, mI_t, Int.reduceToNat, nt_le_f, nt_le_t, lc_le, lc_lt, lc_gt, lc_eq, zI_div, Int.toNat_natCast, zI_max, zI_min, or_false, false_or, or_true, true_or, not_false_eq_true, not_true_eq_false, ↓reduceIte, and_self, and_true, true_and, and_false, false_and, not_or, gt_iff_lt, ge_iff_le, mBI_rI, mBJ_rJ, mBR_rV, mBR_rR, rZ_0, rZ_1, h9, hx, j2, j3, j4, n9, nx, e1, e2, eL_law_831, eq_self]
theorem lg_all {L : Nat} (hL : L ≤ 2048) {xs : Nat → Int32} {i : Nat} (hi : i + 4 ≤ L) {M : mMI} {J : mMJ} (h : lwI L xs M J) : lwG L xs i (kL_law_370 (zI (i : Int)) M J) := by
  obtain ⟨y, hy, hC, hM, h9, hx⟩ := h
  have j2 : ((i : Int) + 2).toNat = i + 2 := by omega
  have j3 : ((i : Int) + 3).toNat = i + 3 := by omega
  have j4 : (i : Int) + 4 = ((i + 4 : Nat) : Int) := by omega
  by_cases c : xs (i + 2) = zI 0
  · obtain ⟨v, N, K, N2, K2, y2, e1, e2, o1, o2, o3, fa, fb⟩ := pr_all (xs (i + 1)) (b := 0) (by omega) y M J hy hC hM
    have n9 : N 999 = M 999 := fa 999 (by omega)
    have nx : N 1000 = M 1000 := fa 1000 (by omega)
    refine ⟨N2, K2, ⟨y2, o1, o2, o3, by rw [fb 999 (by omega)]; exact h9, by rw [fb 1000 (by omega)]; exact hx⟩, ?_⟩
    rw [eL_law_370]
    simp (disch := omega) only [Int.reduceEq, Int.reduceLT, Int.reduceLE, Int.reduceAdd, Int.reduceMul, Int.reduceSub, Int.reduceNeg, Int.reduceDiv, li_0, li_1, li_2, li_3, li_4, li_5, li_6, li_7, li_8, li_9, li_10, li_16, li_20, li_22, li_32, li_36, li_39, li_40, li_42, li_48, li_60, li_67, li_69, li_70, li_71, li_76, li_77, li_80, li_83, li_86, li_90, li_100, li_120, li_200, li_209, li_234, li_240, li_255, li_300, li_309, li_310, ll_0, ll_1, ll_3, ll_5, ll_7, ll_8, ll_9, ll_20, ll_39, ll_40, ll_60, ll_100, ll_120, ll_200, ll_209, ll_300, ll_309, ll_600, ll_1000000000, zI_neg, zI_add, zI_sub, zI_mul, zL_add, zL_sub, zL_mul, zL_neg, zI_suc, zN_I, zI_ofNat, zI_le_t, zI_le_f, zI_lt_t, zI_lt_f, zI_eq_t, zI_eq_f, zL_le_t, zL_le_f, zL_lt_t, zL_lt_f, zL_eq_t, zL_eq_f, zI_cl, zI_L, mI_t, Int.reduceToNat, nt_le_f, nt_le_t, lc_le, lc_lt, lc_gt, lc_eq, zI_div, Int.toNat_natCast, zI_max, zI_min, or_false, false_or, or_true, true_or, not_false_eq_true, not_true_eq_false, ↓reduceIte, and_self, and_true, true_and, and_false, false_and, not_or, gt_iff_lt, ge_iff_le, mBI_rI, mBJ_rJ, mBR_rV, mBR_rR, rZ_0, rZ_1, h9, hx, j2, j3, j4, n9, nx, e1, e2, eL_law_831, eq_self, c, eL_law_401]
  · obtain ⟨v, N, K, N2, K2, y2, e1, e2, o1, o2, o3, fa, fb⟩ := pr_all (xs (i + 1)) (b := 1) (by omega) y M J hy hC hM
    have n9 : N 999 = M 999 := fa 999 (by omega)
    have nx : N 1000 = M 1000 := fa 1000 (by omega)
    refine ⟨N2, K2, ⟨y2, o1, o2, o3, by rw [fb 999 (by omega)]; exact h9, by rw [fb 1000 (by omega)]; exact hx⟩, ?_⟩
    rw [eL_law_370]
    simp (disch := omega) only [Int.reduceEq, Int.reduceLT, Int.reduceLE, Int.reduceAdd, Int.reduceMul, Int.reduceSub, Int.reduceNeg, Int.reduceDiv, li_0, li_1, li_2, li_3, li_4, li_5, li_6, li_7, li_8, li_9, li_10, li_16, li_20, li_22, li_32, li_36, li_39, li_40, li_42, li_48, li_60, li_67, li_69, li_70, li_71, li_76, li_77, li_80, li_83, li_86, li_90, li_100, li_120, li_200, li_209, li_234, li_240, li_255, li_300, li_309, li_310, ll_0, ll_1, ll_3, ll_5, ll_7, ll_8, ll_9, ll_20, ll_39, ll_40, ll_60, ll_100, ll_120, ll_200, ll_209, ll_300, ll_309, ll_600, ll_1000000000, zI_neg, zI_add, zI_sub, zI_mul, zL_add, zL_sub, zL_mul, zL_neg, zI_suc, zN_I, zI_ofNat, zI_le_t, zI_le_f, zI_lt_t, zI_lt_f, zI_eq_t, zI_eq_f, zL_le_t, zL_le_f, zL_lt_t, zL_lt_f, zL_eq_t, zL_eq_f, zI_cl, zI_L, mI_t, Int.reduceToNat, nt_le_f, nt_le_t, lc_le, lc_lt, lc_gt, lc_eq, zI_div, Int.toNat_natCast, zI_max, zI_min, or_false, false_or, or_true, true_or, not_false_eq_true, not_true_eq_false, ↓reduceIte, and_self, and_true, true_and, and_false, false_and, not_or, gt_iff_lt, ge_iff_le, mBI_rI, mBJ_rJ, mBR_rV, mBR_rR, rZ_0, rZ_1, h9, hx, j2, j3, j4, n9, nx, e1, e2, eL_law_831, eq_self, c, eL_law_401]
theorem lg_lost {L : Nat} (hL : L ≤ 2048) {xs : Nat → Int32} {i : Nat} (hi : i + 4 ≤ L) {M : mMI} {J : mMJ} (h : lwI L xs M J) : lwG L xs i (kL_law_406 (zI (i : Int)) M J) := by
  obtain ⟨y, hy, hC, hM, h9, hx⟩ := h
  have j2 : ((i : Int) + 2).toNat = i + 2 := by omega
  have j3 : ((i : Int) + 3).toNat = i + 3 := by omega
  have j4 : (i : Int) + 4 = ((i + 4 : Nat) : Int) := by omega
  obtain ⟨v, N, K, N2, K2, y2, e1, e2, o1, o2, o3, fa, fb⟩ := pr_lost (xs (i + 1)) (xs (i + 2)) y M J hy hC hM
  have n9 : N 999 = M 999 := fa 999 (by omega)
  have nx : N 1000 = M 1000 := fa 1000 (by omega)
  refine ⟨N2, K2, ⟨y2, o1, o2, o3, by rw [fb 999 (by omega)]; exact h9, by rw [fb 1000 (by omega)]; exact hx⟩, ?_⟩
  rw [eL_law_406]
  simp (disch := omega) only [Int.reduceEq, Int.reduceLT, Int.reduceLE, Int.reduceAdd, Int.reduceMul, Int.reduceSub, Int.reduceNeg, Int.reduceDiv, li_0, li_1, li_2, li_3, li_4, li_5, li_6, li_7, li_8, li_9, li_10, li_16, li_20, li_22, li_32, li_36, li_39, li_40, li_42, li_48, li_60, li_67, li_69, li_70, li_71, li_76, li_77, li_80, li_83, li_86, li_90, li_100, li_120, li_200, li_209, li_234, li_240, li_255, li_300, li_309, li_310, ll_0, ll_1, ll_3, ll_5, ll_7, ll_8, ll_9, ll_20, ll_39, ll_40, ll_60, ll_100, ll_120, ll_200, ll_209, ll_300, ll_309, ll_600, ll_1000000000, zI_neg, zI_add, zI_sub, zI_mul, zL_add, zL_sub, zL_mul, zL_neg, zI_suc, zN_I, zI_ofNat, zI_le_t, zI_le_f, zI_lt_t, zI_lt_f, zI_eq_t, zI_eq_f, zL_le_t, zL_le_f, zL_lt_t, zL_lt_f, zL_eq_t, zL_eq_f, zI_cl, zI_L, mI_t, Int.reduceToNat, nt_le_f, nt_le_t, lc_le, lc_lt, lc_gt, lc_eq, zI_div, Int.toNat_natCast, zI_max, zI_min, or_false, false_or, or_true, true_or, not_false_eq_true, not_true_eq_false, ↓reduceIte, and_self, and_true, true_and, and_false, false_and, not_or, gt_iff_lt, ge_iff_le, mBI_rI, mBJ_rJ, mBR_rV, mBR_rR, rZ_0, rZ_1, h9, hx, j2, j3, j4, n9, nx, e1, e2, eL_law_831, eq_self]
theorem lg_fall {L : Nat} (hL : L ≤ 2048) {xs : Nat → Int32} {i : Nat} (hi : i + 4 ≤ L) {M : mMI} {J : mMJ} (h : lwI L xs M J) : lwG L xs i (kL_law_433 (zI (i : Int)) M J) := by
  obtain ⟨y, hy, hC, hM, h9, hx⟩ := h
  have j2 : ((i : Int) + 2).toNat = i + 2 := by omega
  have j3 : ((i : Int) + 3).toNat = i + 3 := by omega
  have j4 : (i : Int) + 4 = ((i + 4 : Nat) : Int) := by omega
  obtain ⟨v, N, K, N2, K2, y2, e1, e2, o1, o2, o3, fa, fb⟩ := pr_fall  y M J hy hC hM
  have n9 : N 999 = M 999 := fa 999 (by omega)
  have nx : N 1000 = M 1000 := fa 1000 (by omega)
  refine ⟨N2, K2, ⟨y2, o1, o2, o3, by rw [fb 999 (by omega)]; exact h9, by rw [fb 1000 (by omega)]; exact hx⟩, ?_⟩
  rw [eL_law_433]
  simp (disch := omega) only [Int.reduceEq, Int.reduceLT, Int.reduceLE, Int.reduceAdd, Int.reduceMul, Int.reduceSub, Int.reduceNeg, Int.reduceDiv, li_0, li_1, li_2, li_3, li_4, li_5, li_6, li_7, li_8, li_9, li_10, li_16, li_20, li_22, li_32, li_36, li_39, li_40, li_42, li_48, li_60, li_67, li_69, li_70, li_71, li_76, li_77, li_80, li_83, li_86, li_90, li_100, li_120, li_200, li_209, li_234, li_240, li_255, li_300, li_309, li_310, ll_0, ll_1, ll_3, ll_5, ll_7, ll_8, ll_9, ll_20, ll_39, ll_40, ll_60, ll_100, ll_120, ll_200, ll_209, ll_300, ll_309, ll_600, ll_1000000000, zI_neg, zI_add, zI_sub, zI_mul, zL_add, zL_sub, zL_mul, zL_neg, zI_suc, zN_I, zI_ofNat, zI_le_t, zI_le_f, zI_lt_t, zI_lt_f, zI_eq_t, zI_eq_f, zL_le_t, zL_le_f, zL_lt_t, zL_lt_f, zL_eq_t, zL_eq_f, zI_cl, zI_L, mI_t, Int.reduceToNat, nt_le_f, nt_le_t, lc_le, lc_lt, lc_gt, lc_eq, zI_div, Int.toNat_natCast, zI_max, zI_min, or_false, false_or, or_true, true_or, not_false_eq_true, not_true_eq_false, ↓reduceIte, and_self, and_true, true_and, and_false, false_and, not_or, gt_iff_lt, ge_iff_le, mBI_rI, mBJ_rJ, mBR_rV, mBR_rR, rZ_0, rZ_1, h9, hx, j2, j3, j4, n9, nx, e1, e2, eL_law_831, eq_self]
theorem lg_pays {L : Nat} (hL : L ≤ 2048) {xs : Nat → Int32} {i : Nat} (hi : i + 4 ≤ L) {M : mMI} {J : mMJ} (h : lwI L xs M J) : lwG L xs i (kL_law_440 (zI (i : Int)) M J) := by
  obtain ⟨y, hy, hC, hM, h9, hx⟩ := h
  have j2 : ((i : Int) + 2).toNat = i + 2 := by omega
  have j3 : ((i : Int) + 3).toNat = i + 3 := by omega
  have j4 : (i : Int) + 4 = ((i + 4 : Nat) : Int) := by omega
  obtain ⟨v, N, K, N2, K2, y2, e1, e2, o1, o2, o3, fa, fb⟩ := pr_pays  y M J hy hC hM
  have n9 : N 999 = M 999 := fa 999 (by omega)
  have nx : N 1000 = M 1000 := fa 1000 (by omega)
  refine ⟨N2, K2, ⟨y2, o1, o2, o3, by rw [fb 999 (by omega)]; exact h9, by rw [fb 1000 (by omega)]; exact hx⟩, ?_⟩
  rw [eL_law_440]
  simp (disch := omega) only [Int.reduceEq, Int.reduceLT, Int.reduceLE, Int.reduceAdd, Int.reduceMul, Int.reduceSub, Int.reduceNeg, Int.reduceDiv, li_0, li_1, li_2, li_3, li_4, li_5, li_6, li_7, li_8, li_9, li_10, li_16, li_20, li_22, li_32, li_36, li_39, li_40, li_42, li_48, li_60, li_67, li_69, li_70, li_71, li_76, li_77, li_80, li_83, li_86, li_90, li_100, li_120, li_200, li_209, li_234, li_240, li_255, li_300, li_309, li_310, ll_0, ll_1, ll_3, ll_5, ll_7, ll_8, ll_9, ll_20, ll_39, ll_40, ll_60, ll_100, ll_120, ll_200, ll_209, ll_300, ll_309, ll_600, ll_1000000000, zI_neg, zI_add, zI_sub, zI_mul, zL_add, zL_sub, zL_mul, zL_neg, zI_suc, zN_I, zI_ofNat, zI_le_t, zI_le_f, zI_lt_t, zI_lt_f, zI_eq_t, zI_eq_f, zL_le_t, zL_le_f, zL_lt_t, zL_lt_f, zL_eq_t, zL_eq_f, zI_cl, zI_L, mI_t, Int.reduceToNat, nt_le_f, nt_le_t, lc_le, lc_lt, lc_gt, lc_eq, zI_div, Int.toNat_natCast, zI_max, zI_min, or_false, false_or, or_true, true_or, not_false_eq_true, not_true_eq_false, ↓reduceIte, and_self, and_true, true_and, and_false, false_and, not_or, gt_iff_lt, ge_iff_le, mBI_rI, mBJ_rJ, mBR_rV, mBR_rR, rZ_0, rZ_1, h9, hx, j2, j3, j4, n9, nx, e1, e2, eL_law_831, eq_self]
theorem lg_vote {L : Nat} (hL : L ≤ 2048) {xs : Nat → Int32} {i : Nat} (hi : i + 4 ≤ L) {M : mMI} {J : mMJ} (h : lwI L xs M J) : lwG L xs i (kL_law_447 (zI (i : Int)) M J) := by
  obtain ⟨y, hy, hC, hM, h9, hx⟩ := h
  have j2 : ((i : Int) + 2).toNat = i + 2 := by omega
  have j3 : ((i : Int) + 3).toNat = i + 3 := by omega
  have j4 : (i : Int) + 4 = ((i + 4 : Nat) : Int) := by omega
  obtain ⟨v, N, K, N2, K2, y2, e1, e2, o1, o2, o3, fa, fb⟩ := pr_vote (xs (i + 1)) y M J hy hC hM
  have n9 : N 999 = M 999 := fa 999 (by omega)
  have nx : N 1000 = M 1000 := fa 1000 (by omega)
  refine ⟨N2, K2, ⟨y2, o1, o2, o3, by rw [fb 999 (by omega)]; exact h9, by rw [fb 1000 (by omega)]; exact hx⟩, ?_⟩
  rw [eL_law_447]
  simp (disch := omega) only [Int.reduceEq, Int.reduceLT, Int.reduceLE, Int.reduceAdd, Int.reduceMul, Int.reduceSub, Int.reduceNeg, Int.reduceDiv, li_0, li_1, li_2, li_3, li_4, li_5, li_6, li_7, li_8, li_9, li_10, li_16, li_20, li_22, li_32, li_36, li_39, li_40, li_42, li_48, li_60, li_67, li_69, li_70, li_71, li_76, li_77, li_80, li_83, li_86, li_90, li_100, li_120, li_200, li_209, li_234, li_240, li_255, li_300, li_309, li_310, ll_0, ll_1, ll_3, ll_5, ll_7, ll_8, ll_9, ll_20, ll_39, ll_40, ll_60, ll_100, ll_120, ll_200, ll_209, ll_300, ll_309, ll_600, ll_1000000000, zI_neg, zI_add, zI_sub, zI_mul, zL_add, zL_sub, zL_mul, zL_neg, zI_suc, zN_I, zI_ofNat, zI_le_t, zI_le_f, zI_lt_t, zI_lt_f, zI_eq_t, zI_eq_f, zL_le_t, zL_le_f, zL_lt_t, zL_lt_f, zL_eq_t, zL_eq_f, zI_cl, zI_L, mI_t, Int.reduceToNat, nt_le_f, nt_le_t, lc_le, lc_lt, lc_gt, lc_eq, zI_div, Int.toNat_natCast, zI_max, zI_min, or_false, false_or, or_true, true_or, not_false_eq_true, not_true_eq_false, ↓reduceIte, and_self, and_true, true_and, and_false, false_and, not_or, gt_iff_lt, ge_iff_le, mBI_rI, mBJ_rJ, mBR_rV, mBR_rR, rZ_0, rZ_1, h9, hx, j2, j3, j4, n9, nx, e1, e2, eL_law_831, eq_self]
theorem lg_least {L : Nat} (hL : L ≤ 2048) {xs : Nat → Int32} {i : Nat} (hi : i + 4 ≤ L) {M : mMI} {J : mMJ} (h : lwI L xs M J) : lwG L xs i (kL_law_464 (zI (i : Int)) M J) := by
  obtain ⟨y, hy, hC, hM, h9, hx⟩ := h
  have j2 : ((i : Int) + 2).toNat = i + 2 := by omega
  have j3 : ((i : Int) + 3).toNat = i + 3 := by omega
  have j4 : (i : Int) + 4 = ((i + 4 : Nat) : Int) := by omega
  obtain ⟨v, N, K, N2, K2, y2, e1, e2, o1, o2, o3, fa, fb⟩ := pr_least (xs (i + 1)) (xs (i + 2)) y M J hy hC hM
  have n9 : N 999 = M 999 := fa 999 (by omega)
  have nx : N 1000 = M 1000 := fa 1000 (by omega)
  refine ⟨N2, K2, ⟨y2, o1, o2, o3, by rw [fb 999 (by omega)]; exact h9, by rw [fb 1000 (by omega)]; exact hx⟩, ?_⟩
  rw [eL_law_464]
  simp (disch := omega) only [Int.reduceEq, Int.reduceLT, Int.reduceLE, Int.reduceAdd, Int.reduceMul, Int.reduceSub, Int.reduceNeg, Int.reduceDiv, li_0, li_1, li_2, li_3, li_4, li_5, li_6, li_7, li_8, li_9, li_10, li_16, li_20, li_22, li_32, li_36, li_39, li_40, li_42, li_48, li_60, li_67, li_69, li_70, li_71, li_76, li_77, li_80, li_83, li_86, li_90, li_100, li_120, li_200, li_209, li_234, li_240, li_255, li_300, li_309, li_310, ll_0, ll_1, ll_3, ll_5, ll_7, ll_8, ll_9, ll_20, ll_39, ll_40, ll_60, ll_100, ll_120, ll_200, ll_209, ll_300, ll_309, ll_600, ll_1000000000, zI_neg, zI_add, zI_sub, zI_mul, zL_add, zL_sub, zL_mul, zL_neg, zI_suc, zN_I, zI_ofNat, zI_le_t, zI_le_f, zI_lt_t, zI_lt_f, zI_eq_t, zI_eq_f, zL_le_t, zL_le_f, zL_lt_t, zL_lt_f, zL_eq_t, zL_eq_f, zI_cl, zI_L, mI_t, Int.reduceToNat, nt_le_f, nt_le_t, lc_le, lc_lt, lc_gt, lc_eq, zI_div, Int.toNat_natCast, zI_max, zI_min, or_false, false_or, or_true, true_or, not_false_eq_true, not_true_eq_false, ↓reduceIte, and_self, and_true, true_and, and_false, false_and, not_or, gt_iff_lt, ge_iff_le, mBI_rI, mBJ_rJ, mBR_rV, mBR_rR, rZ_0, rZ_1, h9, hx, j2, j3, j4, n9, nx, e1, e2, eL_law_831, eq_self]
theorem lg_leader {L : Nat} (hL : L ≤ 2048) {xs : Nat → Int32} {i : Nat} (hi : i + 4 ≤ L) {M : mMI} {J : mMJ} (h : lwI L xs M J) : lwG L xs i (kL_law_491 (zI (i : Int)) M J) := by
  obtain ⟨y, hy, hC, hM, h9, hx⟩ := h
  have j2 : ((i : Int) + 2).toNat = i + 2 := by omega
  have j3 : ((i : Int) + 3).toNat = i + 3 := by omega
  have j4 : (i : Int) + 4 = ((i + 4 : Nat) : Int) := by omega
  obtain ⟨v, N, K, N2, K2, y2, e1, e2, o1, o2, o3, fa, fb⟩ := pr_leader  y M J hy hC hM
  have n9 : N 999 = M 999 := fa 999 (by omega)
  have nx : N 1000 = M 1000 := fa 1000 (by omega)
  refine ⟨N2, K2, ⟨y2, o1, o2, o3, by rw [fb 999 (by omega)]; exact h9, by rw [fb 1000 (by omega)]; exact hx⟩, ?_⟩
  rw [eL_law_491]
  simp (disch := omega) only [Int.reduceEq, Int.reduceLT, Int.reduceLE, Int.reduceAdd, Int.reduceMul, Int.reduceSub, Int.reduceNeg, Int.reduceDiv, li_0, li_1, li_2, li_3, li_4, li_5, li_6, li_7, li_8, li_9, li_10, li_16, li_20, li_22, li_32, li_36, li_39, li_40, li_42, li_48, li_60, li_67, li_69, li_70, li_71, li_76, li_77, li_80, li_83, li_86, li_90, li_100, li_120, li_200, li_209, li_234, li_240, li_255, li_300, li_309, li_310, ll_0, ll_1, ll_3, ll_5, ll_7, ll_8, ll_9, ll_20, ll_39, ll_40, ll_60, ll_100, ll_120, ll_200, ll_209, ll_300, ll_309, ll_600, ll_1000000000, zI_neg, zI_add, zI_sub, zI_mul, zL_add, zL_sub, zL_mul, zL_neg, zI_suc, zN_I, zI_ofNat, zI_le_t, zI_le_f, zI_lt_t, zI_lt_f, zI_eq_t, zI_eq_f, zL_le_t, zL_le_f, zL_lt_t, zL_lt_f, zL_eq_t, zL_eq_f, zI_cl, zI_L, mI_t, Int.reduceToNat, nt_le_f, nt_le_t, lc_le, lc_lt, lc_gt, lc_eq, zI_div, Int.toNat_natCast, zI_max, zI_min, or_false, false_or, or_true, true_or, not_false_eq_true, not_true_eq_false, ↓reduceIte, and_self, and_true, true_and, and_false, false_and, not_or, gt_iff_lt, ge_iff_le, mBI_rI, mBJ_rJ, mBR_rV, mBR_rR, rZ_0, rZ_1, h9, hx, j2, j3, j4, n9, nx, e1, e2, eL_law_831, eq_self]
theorem lg_led {L : Nat} (hL : L ≤ 2048) {xs : Nat → Int32} {i : Nat} (hi : i + 4 ≤ L) {M : mMI} {J : mMJ} (h : lwI L xs M J) : lwG L xs i (kL_law_498 (zI (i : Int)) M J) := by
  obtain ⟨y, hy, hC, hM, h9, hx⟩ := h
  have j2 : ((i : Int) + 2).toNat = i + 2 := by omega
  have j3 : ((i : Int) + 3).toNat = i + 3 := by omega
  have j4 : (i : Int) + 4 = ((i + 4 : Nat) : Int) := by omega
  obtain ⟨v, N, K, N2, K2, y2, e1, e2, o1, o2, o3, fa, fb⟩ := pr_led  y M J hy hC hM
  have n9 : N 999 = M 999 := fa 999 (by omega)
  have nx : N 1000 = M 1000 := fa 1000 (by omega)
  refine ⟨N2, K2, ⟨y2, o1, o2, o3, by rw [fb 999 (by omega)]; exact h9, by rw [fb 1000 (by omega)]; exact hx⟩, ?_⟩
  rw [eL_law_498]
  simp (disch := omega) only [Int.reduceEq, Int.reduceLT, Int.reduceLE, Int.reduceAdd, Int.reduceMul, Int.reduceSub, Int.reduceNeg, Int.reduceDiv, li_0, li_1, li_2, li_3, li_4, li_5, li_6, li_7, li_8, li_9, li_10, li_16, li_20, li_22, li_32, li_36, li_39, li_40, li_42, li_48, li_60, li_67, li_69, li_70, li_71, li_76, li_77, li_80, li_83, li_86, li_90, li_100, li_120, li_200, li_209, li_234, li_240, li_255, li_300, li_309, li_310, ll_0, ll_1, ll_3, ll_5, ll_7, ll_8, ll_9, ll_20, ll_39, ll_40, ll_60, ll_100, ll_120, ll_200, ll_209, ll_300, ll_309, ll_600, ll_1000000000, zI_neg, zI_add, zI_sub, zI_mul, zL_add, zL_sub, zL_mul, zL_neg, zI_suc, zN_I, zI_ofNat, zI_le_t, zI_le_f, zI_lt_t, zI_lt_f, zI_eq_t, zI_eq_f, zL_le_t, zL_le_f, zL_lt_t, zL_lt_f, zL_eq_t, zL_eq_f, zI_cl, zI_L, mI_t, Int.reduceToNat, nt_le_f, nt_le_t, lc_le, lc_lt, lc_gt, lc_eq, zI_div, Int.toNat_natCast, zI_max, zI_min, or_false, false_or, or_true, true_or, not_false_eq_true, not_true_eq_false, ↓reduceIte, and_self, and_true, true_and, and_false, false_and, not_or, gt_iff_lt, ge_iff_le, mBI_rI, mBJ_rJ, mBR_rV, mBR_rR, rZ_0, rZ_1, h9, hx, j2, j3, j4, n9, nx, e1, e2, eL_law_831, eq_self]
theorem lg_whom {L : Nat} (hL : L ≤ 2048) {xs : Nat → Int32} {i : Nat} (hi : i + 4 ≤ L) {M : mMI} {J : mMJ} (h : lwI L xs M J) : lwG L xs i (kL_law_506 (zI (i : Int)) M J) := by
  obtain ⟨y, hy, hC, hM, h9, hx⟩ := h
  have j2 : ((i : Int) + 2).toNat = i + 2 := by omega
  have j3 : ((i : Int) + 3).toNat = i + 3 := by omega
  have j4 : (i : Int) + 4 = ((i + 4 : Nat) : Int) := by omega
  obtain ⟨v, N, K, N2, K2, y2, e1, e2, o1, o2, o3, fa, fb⟩ := pr_whom  y M J hy hC hM
  have n9 : N 999 = M 999 := fa 999 (by omega)
  have nx : N 1000 = M 1000 := fa 1000 (by omega)
  refine ⟨N2, K2, ⟨y2, o1, o2, o3, by rw [fb 999 (by omega)]; exact h9, by rw [fb 1000 (by omega)]; exact hx⟩, ?_⟩
  rw [eL_law_506]
  simp (disch := omega) only [Int.reduceEq, Int.reduceLT, Int.reduceLE, Int.reduceAdd, Int.reduceMul, Int.reduceSub, Int.reduceNeg, Int.reduceDiv, li_0, li_1, li_2, li_3, li_4, li_5, li_6, li_7, li_8, li_9, li_10, li_16, li_20, li_22, li_32, li_36, li_39, li_40, li_42, li_48, li_60, li_67, li_69, li_70, li_71, li_76, li_77, li_80, li_83, li_86, li_90, li_100, li_120, li_200, li_209, li_234, li_240, li_255, li_300, li_309, li_310, ll_0, ll_1, ll_3, ll_5, ll_7, ll_8, ll_9, ll_20, ll_39, ll_40, ll_60, ll_100, ll_120, ll_200, ll_209, ll_300, ll_309, ll_600, ll_1000000000, zI_neg, zI_add, zI_sub, zI_mul, zL_add, zL_sub, zL_mul, zL_neg, zI_suc, zN_I, zI_ofNat, zI_le_t, zI_le_f, zI_lt_t, zI_lt_f, zI_eq_t, zI_eq_f, zL_le_t, zL_le_f, zL_lt_t, zL_lt_f, zL_eq_t, zL_eq_f, zI_cl, zI_L, mI_t, Int.reduceToNat, nt_le_f, nt_le_t, lc_le, lc_lt, lc_gt, lc_eq, zI_div, Int.toNat_natCast, zI_max, zI_min, or_false, false_or, or_true, true_or, not_false_eq_true, not_true_eq_false, ↓reduceIte, and_self, and_true, true_and, and_false, false_and, not_or, gt_iff_lt, ge_iff_le, mBI_rI, mBJ_rJ, mBR_rV, mBR_rR, rZ_0, rZ_1, h9, hx, j2, j3, j4, n9, nx, e1, e2, eL_law_831, eq_self]
theorem lg_without {L : Nat} (hL : L ≤ 2048) {xs : Nat → Int32} {i : Nat} (hi : i + 4 ≤ L) {M : mMI} {J : mMJ} (h : lwI L xs M J) : lwG L xs i (kL_law_513 (zI (i : Int)) M J) := by
  obtain ⟨y, hy, hC, hM, h9, hx⟩ := h
  have j2 : ((i : Int) + 2).toNat = i + 2 := by omega
  have j3 : ((i : Int) + 3).toNat = i + 3 := by omega
  have j4 : (i : Int) + 4 = ((i + 4 : Nat) : Int) := by omega
  obtain ⟨v, N, K, N2, K2, y2, e1, e2, o1, o2, o3, fa, fb⟩ := pr_without (xs (i + 1)) y M J hy hC hM
  have n9 : N 999 = M 999 := fa 999 (by omega)
  have nx : N 1000 = M 1000 := fa 1000 (by omega)
  refine ⟨N2, K2, ⟨y2, o1, o2, o3, by rw [fb 999 (by omega)]; exact h9, by rw [fb 1000 (by omega)]; exact hx⟩, ?_⟩
  rw [eL_law_513]
  simp (disch := omega) only [Int.reduceEq, Int.reduceLT, Int.reduceLE, Int.reduceAdd, Int.reduceMul, Int.reduceSub, Int.reduceNeg, Int.reduceDiv, li_0, li_1, li_2, li_3, li_4, li_5, li_6, li_7, li_8, li_9, li_10, li_16, li_20, li_22, li_32, li_36, li_39, li_40, li_42, li_48, li_60, li_67, li_69, li_70, li_71, li_76, li_77, li_80, li_83, li_86, li_90, li_100, li_120, li_200, li_209, li_234, li_240, li_255, li_300, li_309, li_310, ll_0, ll_1, ll_3, ll_5, ll_7, ll_8, ll_9, ll_20, ll_39, ll_40, ll_60, ll_100, ll_120, ll_200, ll_209, ll_300, ll_309, ll_600, ll_1000000000, zI_neg, zI_add, zI_sub, zI_mul, zL_add, zL_sub, zL_mul, zL_neg, zI_suc, zN_I, zI_ofNat, zI_le_t, zI_le_f, zI_lt_t, zI_lt_f, zI_eq_t, zI_eq_f, zL_le_t, zL_le_f, zL_lt_t, zL_lt_f, zL_eq_t, zL_eq_f, zI_cl, zI_L, mI_t, Int.reduceToNat, nt_le_f, nt_le_t, lc_le, lc_lt, lc_gt, lc_eq, zI_div, Int.toNat_natCast, zI_max, zI_min, or_false, false_or, or_true, true_or, not_false_eq_true, not_true_eq_false, ↓reduceIte, and_self, and_true, true_and, and_false, false_and, not_or, gt_iff_lt, ge_iff_le, mBI_rI, mBJ_rJ, mBR_rV, mBR_rR, rZ_0, rZ_1, h9, hx, j2, j3, j4, n9, nx, e1, e2, eL_law_831, eq_self]
theorem lg_part {L : Nat} (hL : L ≤ 2048) {xs : Nat → Int32} {i : Nat} (hi : i + 4 ≤ L) {M : mMI} {J : mMJ} (h : lwI L xs M J) : lwG L xs i (kL_law_531 (zI (i : Int)) M J) := by
  obtain ⟨y, hy, hC, hM, h9, hx⟩ := h
  have j2 : ((i : Int) + 2).toNat = i + 2 := by omega
  have j3 : ((i : Int) + 3).toNat = i + 3 := by omega
  have j4 : (i : Int) + 4 = ((i + 4 : Nat) : Int) := by omega
  obtain ⟨v, N, K, N2, K2, y2, e1, e2, o1, o2, o3, fa, fb⟩ := pr_part  y M J hy hC hM
  have n9 : N 999 = M 999 := fa 999 (by omega)
  have nx : N 1000 = M 1000 := fa 1000 (by omega)
  refine ⟨N2, K2, ⟨y2, o1, o2, o3, by rw [fb 999 (by omega)]; exact h9, by rw [fb 1000 (by omega)]; exact hx⟩, ?_⟩
  rw [eL_law_531]
  simp (disch := omega) only [Int.reduceEq, Int.reduceLT, Int.reduceLE, Int.reduceAdd, Int.reduceMul, Int.reduceSub, Int.reduceNeg, Int.reduceDiv, li_0, li_1, li_2, li_3, li_4, li_5, li_6, li_7, li_8, li_9, li_10, li_16, li_20, li_22, li_32, li_36, li_39, li_40, li_42, li_48, li_60, li_67, li_69, li_70, li_71, li_76, li_77, li_80, li_83, li_86, li_90, li_100, li_120, li_200, li_209, li_234, li_240, li_255, li_300, li_309, li_310, ll_0, ll_1, ll_3, ll_5, ll_7, ll_8, ll_9, ll_20, ll_39, ll_40, ll_60, ll_100, ll_120, ll_200, ll_209, ll_300, ll_309, ll_600, ll_1000000000, zI_neg, zI_add, zI_sub, zI_mul, zL_add, zL_sub, zL_mul, zL_neg, zI_suc, zN_I, zI_ofNat, zI_le_t, zI_le_f, zI_lt_t, zI_lt_f, zI_eq_t, zI_eq_f, zL_le_t, zL_le_f, zL_lt_t, zL_lt_f, zL_eq_t, zL_eq_f, zI_cl, zI_L, mI_t, Int.reduceToNat, nt_le_f, nt_le_t, lc_le, lc_lt, lc_gt, lc_eq, zI_div, Int.toNat_natCast, zI_max, zI_min, or_false, false_or, or_true, true_or, not_false_eq_true, not_true_eq_false, ↓reduceIte, and_self, and_true, true_and, and_false, false_and, not_or, gt_iff_lt, ge_iff_le, mBI_rI, mBJ_rJ, mBR_rV, mBR_rR, rZ_0, rZ_1, h9, hx, j2, j3, j4, n9, nx, e1, e2, eL_law_831, eq_self]
theorem lg_parted {L : Nat} (hL : L ≤ 2048) {xs : Nat → Int32} {i : Nat} (hi : i + 4 ≤ L) {M : mMI} {J : mMJ} (h : lwI L xs M J) : lwG L xs i (kL_law_538 (zI (i : Int)) M J) := by
  obtain ⟨y, hy, hC, hM, h9, hx⟩ := h
  have j2 : ((i : Int) + 2).toNat = i + 2 := by omega
  have j3 : ((i : Int) + 3).toNat = i + 3 := by omega
  have j4 : (i : Int) + 4 = ((i + 4 : Nat) : Int) := by omega
  obtain ⟨v, N, K, N2, K2, y2, e1, e2, o1, o2, o3, fa, fb⟩ := pr_parted  y M J hy hC hM
  have n9 : N 999 = M 999 := fa 999 (by omega)
  have nx : N 1000 = M 1000 := fa 1000 (by omega)
  refine ⟨N2, K2, ⟨y2, o1, o2, o3, by rw [fb 999 (by omega)]; exact h9, by rw [fb 1000 (by omega)]; exact hx⟩, ?_⟩
  rw [eL_law_538]
  simp (disch := omega) only [Int.reduceEq, Int.reduceLT, Int.reduceLE, Int.reduceAdd, Int.reduceMul, Int.reduceSub, Int.reduceNeg, Int.reduceDiv, li_0, li_1, li_2, li_3, li_4, li_5, li_6, li_7, li_8, li_9, li_10, li_16, li_20, li_22, li_32, li_36, li_39, li_40, li_42, li_48, li_60, li_67, li_69, li_70, li_71, li_76, li_77, li_80, li_83, li_86, li_90, li_100, li_120, li_200, li_209, li_234, li_240, li_255, li_300, li_309, li_310, ll_0, ll_1, ll_3, ll_5, ll_7, ll_8, ll_9, ll_20, ll_39, ll_40, ll_60, ll_100, ll_120, ll_200, ll_209, ll_300, ll_309, ll_600, ll_1000000000, zI_neg, zI_add, zI_sub, zI_mul, zL_add, zL_sub, zL_mul, zL_neg, zI_suc, zN_I, zI_ofNat, zI_le_t, zI_le_f, zI_lt_t, zI_lt_f, zI_eq_t, zI_eq_f, zL_le_t, zL_le_f, zL_lt_t, zL_lt_f, zL_eq_t, zL_eq_f, zI_cl, zI_L, mI_t, Int.reduceToNat, nt_le_f, nt_le_t, lc_le, lc_lt, lc_gt, lc_eq, zI_div, Int.toNat_natCast, zI_max, zI_min, or_false, false_or, or_true, true_or, not_false_eq_true, not_true_eq_false, ↓reduceIte, and_self, and_true, true_and, and_false, false_and, not_or, gt_iff_lt, ge_iff_le, mBI_rI, mBJ_rJ, mBR_rV, mBR_rR, rZ_0, rZ_1, h9, hx, j2, j3, j4, n9, nx, e1, e2, eL_law_831, eq_self]
theorem lg_reply {L : Nat} (hL : L ≤ 2048) {xs : Nat → Int32} {i : Nat} (hi : i + 4 ≤ L) {M : mMI} {J : mMJ} (h : lwI L xs M J) : lwG L xs i (kL_law_546 (zI (i : Int)) M J) := by
  obtain ⟨y, hy, hC, hM, h9, hx⟩ := h
  have j2 : ((i : Int) + 2).toNat = i + 2 := by omega
  have j3 : ((i : Int) + 3).toNat = i + 3 := by omega
  have j4 : (i : Int) + 4 = ((i + 4 : Nat) : Int) := by omega
  obtain ⟨v, N, K, N2, K2, y2, e1, e2, o1, o2, o3, fa, fb⟩ := pr_reply (xs (i + 1)) (xs (i + 2)) y M J hy hC hM
  have n9 : N 999 = M 999 := fa 999 (by omega)
  have nx : N 1000 = M 1000 := fa 1000 (by omega)
  refine ⟨N2, K2, ⟨y2, o1, o2, o3, by rw [fb 999 (by omega)]; exact h9, by rw [fb 1000 (by omega)]; exact hx⟩, ?_⟩
  rw [eL_law_546]
  simp (disch := omega) only [Int.reduceEq, Int.reduceLT, Int.reduceLE, Int.reduceAdd, Int.reduceMul, Int.reduceSub, Int.reduceNeg, Int.reduceDiv, li_0, li_1, li_2, li_3, li_4, li_5, li_6, li_7, li_8, li_9, li_10, li_16, li_20, li_22, li_32, li_36, li_39, li_40, li_42, li_48, li_60, li_67, li_69, li_70, li_71, li_76, li_77, li_80, li_83, li_86, li_90, li_100, li_120, li_200, li_209, li_234, li_240, li_255, li_300, li_309, li_310, ll_0, ll_1, ll_3, ll_5, ll_7, ll_8, ll_9, ll_20, ll_39, ll_40, ll_60, ll_100, ll_120, ll_200, ll_209, ll_300, ll_309, ll_600, ll_1000000000, zI_neg, zI_add, zI_sub, zI_mul, zL_add, zL_sub, zL_mul, zL_neg, zI_suc, zN_I, zI_ofNat, zI_le_t, zI_le_f, zI_lt_t, zI_lt_f, zI_eq_t, zI_eq_f, zL_le_t, zL_le_f, zL_lt_t, zL_lt_f, zL_eq_t, zL_eq_f, zI_cl, zI_L, mI_t, Int.reduceToNat, nt_le_f, nt_le_t, lc_le, lc_lt, lc_gt, lc_eq, zI_div, Int.toNat_natCast, zI_max, zI_min, or_false, false_or, or_true, true_or, not_false_eq_true, not_true_eq_false, ↓reduceIte, and_self, and_true, true_and, and_false, false_and, not_or, gt_iff_lt, ge_iff_le, mBI_rI, mBJ_rJ, mBR_rV, mBR_rR, rZ_0, rZ_1, h9, hx, j2, j3, j4, n9, nx, e1, e2, eL_law_831, eq_self]
theorem lg_gain {L : Nat} (hL : L ≤ 2048) {xs : Nat → Int32} {i : Nat} (hi : i + 4 ≤ L) {M : mMI} {J : mMJ} (h : lwI L xs M J) : lwG L xs i (kL_law_573 (zI (i : Int)) M J) := by
  obtain ⟨y, hy, hC, hM, h9, hx⟩ := h
  have j2 : ((i : Int) + 2).toNat = i + 2 := by omega
  have j3 : ((i : Int) + 3).toNat = i + 3 := by omega
  have j4 : (i : Int) + 4 = ((i + 4 : Nat) : Int) := by omega
  obtain ⟨v, N, K, N2, K2, y2, e1, e2, o1, o2, o3, fa, fb⟩ := pr_gain (xs (i + 1)) (xs (i + 2)) (xs (i + 3)) y M J hy hC hM
  have n9 : N 999 = M 999 := fa 999 (by omega)
  have nx : N 1000 = M 1000 := fa 1000 (by omega)
  refine ⟨N2, K2, ⟨y2, o1, o2, o3, by rw [fb 999 (by omega)]; exact h9, by rw [fb 1000 (by omega)]; exact hx⟩, ?_⟩
  rw [eL_law_573]
  simp (disch := omega) only [Int.reduceEq, Int.reduceLT, Int.reduceLE, Int.reduceAdd, Int.reduceMul, Int.reduceSub, Int.reduceNeg, Int.reduceDiv, li_0, li_1, li_2, li_3, li_4, li_5, li_6, li_7, li_8, li_9, li_10, li_16, li_20, li_22, li_32, li_36, li_39, li_40, li_42, li_48, li_60, li_67, li_69, li_70, li_71, li_76, li_77, li_80, li_83, li_86, li_90, li_100, li_120, li_200, li_209, li_234, li_240, li_255, li_300, li_309, li_310, ll_0, ll_1, ll_3, ll_5, ll_7, ll_8, ll_9, ll_20, ll_39, ll_40, ll_60, ll_100, ll_120, ll_200, ll_209, ll_300, ll_309, ll_600, ll_1000000000, zI_neg, zI_add, zI_sub, zI_mul, zL_add, zL_sub, zL_mul, zL_neg, zI_suc, zN_I, zI_ofNat, zI_le_t, zI_le_f, zI_lt_t, zI_lt_f, zI_eq_t, zI_eq_f, zL_le_t, zL_le_f, zL_lt_t, zL_lt_f, zL_eq_t, zL_eq_f, zI_cl, zI_L, mI_t, Int.reduceToNat, nt_le_f, nt_le_t, lc_le, lc_lt, lc_gt, lc_eq, zI_div, Int.toNat_natCast, zI_max, zI_min, or_false, false_or, or_true, true_or, not_false_eq_true, not_true_eq_false, ↓reduceIte, and_self, and_true, true_and, and_false, false_and, not_or, gt_iff_lt, ge_iff_le, mBI_rI, mBJ_rJ, mBR_rV, mBR_rR, rZ_0, rZ_1, h9, hx, j2, j3, j4, n9, nx, e1, e2, eL_law_831, eq_self]
theorem lg_rest {L : Nat} (hL : L ≤ 2048) {xs : Nat → Int32} {i : Nat} (hi : i + 4 ≤ L) {M : mMI} {J : mMJ} (h : lwI L xs M J) : lwG L xs i (kL_law_611 (zI (i : Int)) M J) := by
  obtain ⟨y, hy, hC, hM, h9, hx⟩ := h
  have j2 : ((i : Int) + 2).toNat = i + 2 := by omega
  have j3 : ((i : Int) + 3).toNat = i + 3 := by omega
  have j4 : (i : Int) + 4 = ((i + 4 : Nat) : Int) := by omega
  obtain ⟨v, N, K, N2, K2, y2, e1, e2, o1, o2, o3, fa, fb⟩ := pr_rest (xs (i + 1)) y M J hy hC hM
  have n9 : N 999 = M 999 := fa 999 (by omega)
  have nx : N 1000 = M 1000 := fa 1000 (by omega)
  refine ⟨N2, K2, ⟨y2, o1, o2, o3, by rw [fb 999 (by omega)]; exact h9, by rw [fb 1000 (by omega)]; exact hx⟩, ?_⟩
  rw [eL_law_611]
  simp (disch := omega) only [Int.reduceEq, Int.reduceLT, Int.reduceLE, Int.reduceAdd, Int.reduceMul, Int.reduceSub, Int.reduceNeg, Int.reduceDiv, li_0, li_1, li_2, li_3, li_4, li_5, li_6, li_7, li_8, li_9, li_10, li_16, li_20, li_22, li_32, li_36, li_39, li_40, li_42, li_48, li_60, li_67, li_69, li_70, li_71, li_76, li_77, li_80, li_83, li_86, li_90, li_100, li_120, li_200, li_209, li_234, li_240, li_255, li_300, li_309, li_310, ll_0, ll_1, ll_3, ll_5, ll_7, ll_8, ll_9, ll_20, ll_39, ll_40, ll_60, ll_100, ll_120, ll_200, ll_209, ll_300, ll_309, ll_600, ll_1000000000, zI_neg, zI_add, zI_sub, zI_mul, zL_add, zL_sub, zL_mul, zL_neg, zI_suc, zN_I, zI_ofNat, zI_le_t, zI_le_f, zI_lt_t, zI_lt_f, zI_eq_t, zI_eq_f, zL_le_t, zL_le_f, zL_lt_t, zL_lt_f, zL_eq_t, zL_eq_f, zI_cl, zI_L, mI_t, Int.reduceToNat, nt_le_f, nt_le_t, lc_le, lc_lt, lc_gt, lc_eq, zI_div, Int.toNat_natCast, zI_max, zI_min, or_false, false_or, or_true, true_or, not_false_eq_true, not_true_eq_false, ↓reduceIte, and_self, and_true, true_and, and_false, false_and, not_or, gt_iff_lt, ge_iff_le, mBI_rI, mBJ_rJ, mBR_rV, mBR_rR, rZ_0, rZ_1, h9, hx, j2, j3, j4, n9, nx, e1, e2, eL_law_831, eq_self]
theorem lg_note {L : Nat} (hL : L ≤ 2048) {xs : Nat → Int32} {i : Nat} (hi : i + 4 ≤ L) {M : mMI} {J : mMJ} (h : lwI L xs M J) : lwG L xs i (kL_law_628 (zI (i : Int)) M J) := by
  obtain ⟨y, hy, hC, hM, h9, hx⟩ := h
  have j2 : ((i : Int) + 2).toNat = i + 2 := by omega
  have j3 : ((i : Int) + 3).toNat = i + 3 := by omega
  have j4 : (i : Int) + 4 = ((i + 4 : Nat) : Int) := by omega
  obtain ⟨v, N, K, N2, K2, y2, e1, e2, o1, o2, o3, fa, fb⟩ := pr_note (xs (i + 1)) (xs (i + 2)) (xs (i + 3)) y M J hy hC hM
  have n9 : N 999 = M 999 := fa 999 (by omega)
  have nx : N 1000 = M 1000 := fa 1000 (by omega)
  refine ⟨N2, K2, ⟨y2, o1, o2, o3, by rw [fb 999 (by omega)]; exact h9, by rw [fb 1000 (by omega)]; exact hx⟩, ?_⟩
  rw [eL_law_628]
  simp (disch := omega) only [Int.reduceEq, Int.reduceLT, Int.reduceLE, Int.reduceAdd, Int.reduceMul, Int.reduceSub, Int.reduceNeg, Int.reduceDiv, li_0, li_1, li_2, li_3, li_4, li_5, li_6, li_7, li_8, li_9, li_10, li_16, li_20, li_22, li_32, li_36, li_39, li_40, li_42, li_48, li_60, li_67, li_69, li_70, li_71, li_76, li_77, li_80, li_83, li_86, li_90, li_100, li_120, li_200, li_209, li_234, li_240, li_255, li_300, li_309, li_310, ll_0, ll_1, ll_3, ll_5, ll_7, ll_8, ll_9, ll_20, ll_39, ll_40, ll_60, ll_100, ll_120, ll_200, ll_209, ll_300, ll_309, ll_600, ll_1000000000, zI_neg, zI_add, zI_sub, zI_mul, zL_add, zL_sub, zL_mul, zL_neg, zI_suc, zN_I, zI_ofNat, zI_le_t, zI_le_f, zI_lt_t, zI_lt_f, zI_eq_t, zI_eq_f, zL_le_t, zL_le_f, zL_lt_t, zL_lt_f, zL_eq_t, zL_eq_f, zI_cl, zI_L, mI_t, Int.reduceToNat, nt_le_f, nt_le_t, lc_le, lc_lt, lc_gt, lc_eq, zI_div, Int.toNat_natCast, zI_max, zI_min, or_false, false_or, or_true, true_or, not_false_eq_true, not_true_eq_false, ↓reduceIte, and_self, and_true, true_and, and_false, false_and, not_or, gt_iff_lt, ge_iff_le, mBI_rI, mBJ_rJ, mBR_rV, mBR_rR, rZ_0, rZ_1, h9, hx, j2, j3, j4, n9, nx, e1, e2, eL_law_831, eq_self]
theorem lg_would {L : Nat} (hL : L ≤ 2048) {xs : Nat → Int32} {i : Nat} (hi : i + 4 ≤ L) {M : mMI} {J : mMJ} (h : lwI L xs M J) : lwG L xs i (kL_law_665 (zI (i : Int)) M J) := by
  obtain ⟨y, hy, hC, hM, h9, hx⟩ := h
  have j2 : ((i : Int) + 2).toNat = i + 2 := by omega
  have j3 : ((i : Int) + 3).toNat = i + 3 := by omega
  have j4 : (i : Int) + 4 = ((i + 4 : Nat) : Int) := by omega
  obtain ⟨v, N, K, N2, K2, y2, e1, e2, o1, o2, o3, fa, fb⟩ := pr_would (xs (i + 1)) (xs (i + 2)) (xs (i + 3)) y M J hy hC hM
  have n9 : N 999 = M 999 := fa 999 (by omega)
  have nx : N 1000 = M 1000 := fa 1000 (by omega)
  refine ⟨N2, K2, ⟨y2, o1, o2, o3, by rw [fb 999 (by omega)]; exact h9, by rw [fb 1000 (by omega)]; exact hx⟩, ?_⟩
  rw [eL_law_665]
  simp (disch := omega) only [Int.reduceEq, Int.reduceLT, Int.reduceLE, Int.reduceAdd, Int.reduceMul, Int.reduceSub, Int.reduceNeg, Int.reduceDiv, li_0, li_1, li_2, li_3, li_4, li_5, li_6, li_7, li_8, li_9, li_10, li_16, li_20, li_22, li_32, li_36, li_39, li_40, li_42, li_48, li_60, li_67, li_69, li_70, li_71, li_76, li_77, li_80, li_83, li_86, li_90, li_100, li_120, li_200, li_209, li_234, li_240, li_255, li_300, li_309, li_310, ll_0, ll_1, ll_3, ll_5, ll_7, ll_8, ll_9, ll_20, ll_39, ll_40, ll_60, ll_100, ll_120, ll_200, ll_209, ll_300, ll_309, ll_600, ll_1000000000, zI_neg, zI_add, zI_sub, zI_mul, zL_add, zL_sub, zL_mul, zL_neg, zI_suc, zN_I, zI_ofNat, zI_le_t, zI_le_f, zI_lt_t, zI_lt_f, zI_eq_t, zI_eq_f, zL_le_t, zL_le_f, zL_lt_t, zL_lt_f, zL_eq_t, zL_eq_f, zI_cl, zI_L, mI_t, Int.reduceToNat, nt_le_f, nt_le_t, lc_le, lc_lt, lc_gt, lc_eq, zI_div, Int.toNat_natCast, zI_max, zI_min, or_false, false_or, or_true, true_or, not_false_eq_true, not_true_eq_false, ↓reduceIte, and_self, and_true, true_and, and_false, false_and, not_or, gt_iff_lt, ge_iff_le, mBI_rI, mBJ_rJ, mBR_rV, mBR_rR, rZ_0, rZ_1, h9, hx, j2, j3, j4, n9, nx, e1, e2, eL_law_831, eq_self]
theorem lg_slips {L : Nat} (hL : L ≤ 2048) {xs : Nat → Int32} {i : Nat} (hi : i + 4 ≤ L) {M : mMI} {J : mMJ} (h : lwI L xs M J) : lwG L xs i (kL_law_702 (zI (i : Int)) M J) := by
  obtain ⟨y, hy, hC, hM, h9, hx⟩ := h
  have j2 : ((i : Int) + 2).toNat = i + 2 := by omega
  have j3 : ((i : Int) + 3).toNat = i + 3 := by omega
  have j4 : (i : Int) + 4 = ((i + 4 : Nat) : Int) := by omega
  obtain ⟨v, N, K, N2, K2, y2, e1, e2, o1, o2, o3, fa, fb⟩ := pr_slips (xs (i + 1)) (xs (i + 2)) y M J hy hC hM
  have n9 : N 999 = M 999 := fa 999 (by omega)
  have nx : N 1000 = M 1000 := fa 1000 (by omega)
  refine ⟨N2, K2, ⟨y2, o1, o2, o3, by rw [fb 999 (by omega)]; exact h9, by rw [fb 1000 (by omega)]; exact hx⟩, ?_⟩
  rw [eL_law_702]
  simp (disch := omega) only [Int.reduceEq, Int.reduceLT, Int.reduceLE, Int.reduceAdd, Int.reduceMul, Int.reduceSub, Int.reduceNeg, Int.reduceDiv, li_0, li_1, li_2, li_3, li_4, li_5, li_6, li_7, li_8, li_9, li_10, li_16, li_20, li_22, li_32, li_36, li_39, li_40, li_42, li_48, li_60, li_67, li_69, li_70, li_71, li_76, li_77, li_80, li_83, li_86, li_90, li_100, li_120, li_200, li_209, li_234, li_240, li_255, li_300, li_309, li_310, ll_0, ll_1, ll_3, ll_5, ll_7, ll_8, ll_9, ll_20, ll_39, ll_40, ll_60, ll_100, ll_120, ll_200, ll_209, ll_300, ll_309, ll_600, ll_1000000000, zI_neg, zI_add, zI_sub, zI_mul, zL_add, zL_sub, zL_mul, zL_neg, zI_suc, zN_I, zI_ofNat, zI_le_t, zI_le_f, zI_lt_t, zI_lt_f, zI_eq_t, zI_eq_f, zL_le_t, zL_le_f, zL_lt_t, zL_lt_f, zL_eq_t, zL_eq_f, zI_cl, zI_L, mI_t, Int.reduceToNat, nt_le_f, nt_le_t, lc_le, lc_lt, lc_gt, lc_eq, zI_div, Int.toNat_natCast, zI_max, zI_min, or_false, false_or, or_true, true_or, not_false_eq_true, not_true_eq_false, ↓reduceIte, and_self, and_true, true_and, and_false, false_and, not_or, gt_iff_lt, ge_iff_le, mBI_rI, mBJ_rJ, mBR_rV, mBR_rR, rZ_0, rZ_1, h9, hx, j2, j3, j4, n9, nx, e1, e2, eL_law_831, eq_self]
theorem lg_sort {L : Nat} (hL : L ≤ 2048) {xs : Nat → Int32} {i : Nat} (hi : i + 4 ≤ L) {M : mMI} {J : mMJ} (h : lwI L xs M J) : lwG L xs i (kL_law_729 (zI (i : Int)) M J) := by
  obtain ⟨y, hy, hC, hM, h9, hx⟩ := h
  have j2 : ((i : Int) + 2).toNat = i + 2 := by omega
  have j3 : ((i : Int) + 3).toNat = i + 3 := by omega
  have j4 : (i : Int) + 4 = ((i + 4 : Nat) : Int) := by omega
  obtain ⟨v, N, K, N2, K2, y2, e1, e2, o1, o2, o3, fa, fb⟩ := pr_sort (xs (i + 1)) y M J hy hC hM
  have n9 : N 999 = M 999 := fa 999 (by omega)
  have nx : N 1000 = M 1000 := fa 1000 (by omega)
  refine ⟨N2, K2, ⟨y2, o1, o2, o3, by rw [fb 999 (by omega)]; exact h9, by rw [fb 1000 (by omega)]; exact hx⟩, ?_⟩
  rw [eL_law_729]
  simp (disch := omega) only [Int.reduceEq, Int.reduceLT, Int.reduceLE, Int.reduceAdd, Int.reduceMul, Int.reduceSub, Int.reduceNeg, Int.reduceDiv, li_0, li_1, li_2, li_3, li_4, li_5, li_6, li_7, li_8, li_9, li_10, li_16, li_20, li_22, li_32, li_36, li_39, li_40, li_42, li_48, li_60, li_67, li_69, li_70, li_71, li_76, li_77, li_80, li_83, li_86, li_90, li_100, li_120, li_200, li_209, li_234, li_240, li_255, li_300, li_309, li_310, ll_0, ll_1, ll_3, ll_5, ll_7, ll_8, ll_9, ll_20, ll_39, ll_40, ll_60, ll_100, ll_120, ll_200, ll_209, ll_300, ll_309, ll_600, ll_1000000000, zI_neg, zI_add, zI_sub, zI_mul, zL_add, zL_sub, zL_mul, zL_neg, zI_suc, zN_I, zI_ofNat, zI_le_t, zI_le_f, zI_lt_t, zI_lt_f, zI_eq_t, zI_eq_f, zL_le_t, zL_le_f, zL_lt_t, zL_lt_f, zL_eq_t, zL_eq_f, zI_cl, zI_L, mI_t, Int.reduceToNat, nt_le_f, nt_le_t, lc_le, lc_lt, lc_gt, lc_eq, zI_div, Int.toNat_natCast, zI_max, zI_min, or_false, false_or, or_true, true_or, not_false_eq_true, not_true_eq_false, ↓reduceIte, and_self, and_true, true_and, and_false, false_and, not_or, gt_iff_lt, ge_iff_le, mBI_rI, mBJ_rJ, mBR_rV, mBR_rR, rZ_0, rZ_1, h9, hx, j2, j3, j4, n9, nx, e1, e2, eL_law_831, eq_self]
theorem lg_sorts {L : Nat} (hL : L ≤ 2048) {xs : Nat → Int32} {i : Nat} (hi : i + 4 ≤ L) {M : mMI} {J : mMJ} (h : lwI L xs M J) : lwG L xs i (kL_law_746 (zI (i : Int)) M J) := by
  obtain ⟨y, hy, hC, hM, h9, hx⟩ := h
  have j2 : ((i : Int) + 2).toNat = i + 2 := by omega
  have j3 : ((i : Int) + 3).toNat = i + 3 := by omega
  have j4 : (i : Int) + 4 = ((i + 4 : Nat) : Int) := by omega
  obtain ⟨v, N, K, N2, K2, y2, e1, e2, o1, o2, o3, fa, fb⟩ := pr_sorts (xs (i + 1)) (xs (i + 2)) y M J hy hC hM
  have n9 : N 999 = M 999 := fa 999 (by omega)
  have nx : N 1000 = M 1000 := fa 1000 (by omega)
  refine ⟨N2, K2, ⟨y2, o1, o2, o3, by rw [fb 999 (by omega)]; exact h9, by rw [fb 1000 (by omega)]; exact hx⟩, ?_⟩
  rw [eL_law_746]
  simp (disch := omega) only [Int.reduceEq, Int.reduceLT, Int.reduceLE, Int.reduceAdd, Int.reduceMul, Int.reduceSub, Int.reduceNeg, Int.reduceDiv, li_0, li_1, li_2, li_3, li_4, li_5, li_6, li_7, li_8, li_9, li_10, li_16, li_20, li_22, li_32, li_36, li_39, li_40, li_42, li_48, li_60, li_67, li_69, li_70, li_71, li_76, li_77, li_80, li_83, li_86, li_90, li_100, li_120, li_200, li_209, li_234, li_240, li_255, li_300, li_309, li_310, ll_0, ll_1, ll_3, ll_5, ll_7, ll_8, ll_9, ll_20, ll_39, ll_40, ll_60, ll_100, ll_120, ll_200, ll_209, ll_300, ll_309, ll_600, ll_1000000000, zI_neg, zI_add, zI_sub, zI_mul, zL_add, zL_sub, zL_mul, zL_neg, zI_suc, zN_I, zI_ofNat, zI_le_t, zI_le_f, zI_lt_t, zI_lt_f, zI_eq_t, zI_eq_f, zL_le_t, zL_le_f, zL_lt_t, zL_lt_f, zL_eq_t, zL_eq_f, zI_cl, zI_L, mI_t, Int.reduceToNat, nt_le_f, nt_le_t, lc_le, lc_lt, lc_gt, lc_eq, zI_div, Int.toNat_natCast, zI_max, zI_min, or_false, false_or, or_true, true_or, not_false_eq_true, not_true_eq_false, ↓reduceIte, and_self, and_true, true_and, and_false, false_and, not_or, gt_iff_lt, ge_iff_le, mBI_rI, mBJ_rJ, mBR_rV, mBR_rR, rZ_0, rZ_1, h9, hx, j2, j3, j4, n9, nx, e1, e2, eL_law_831, eq_self]
theorem lg_copy {L : Nat} (hL : L ≤ 2048) {xs : Nat → Int32} {i : Nat} (hi : i + 4 ≤ L) {M : mMI} {J : mMJ} (h : lwI L xs M J) : lwG L xs i (kL_law_773 (zI (i : Int)) M J) := by
  obtain ⟨y, hy, hC, hM, h9, hx⟩ := h
  have j2 : ((i : Int) + 2).toNat = i + 2 := by omega
  have j3 : ((i : Int) + 3).toNat = i + 3 := by omega
  have j4 : (i : Int) + 4 = ((i + 4 : Nat) : Int) := by omega
  obtain ⟨v, N, K, N2, K2, y2, e1, e2, o1, o2, o3, fa, fb⟩ := pr_copy  y M J hy hC hM
  have n9 : N 999 = M 999 := fa 999 (by omega)
  have nx : N 1000 = M 1000 := fa 1000 (by omega)
  refine ⟨N2, K2, ⟨y2, o1, o2, o3, by rw [fb 999 (by omega)]; exact h9, by rw [fb 1000 (by omega)]; exact hx⟩, ?_⟩
  rw [eL_law_773]
  simp (disch := omega) only [Int.reduceEq, Int.reduceLT, Int.reduceLE, Int.reduceAdd, Int.reduceMul, Int.reduceSub, Int.reduceNeg, Int.reduceDiv, li_0, li_1, li_2, li_3, li_4, li_5, li_6, li_7, li_8, li_9, li_10, li_16, li_20, li_22, li_32, li_36, li_39, li_40, li_42, li_48, li_60, li_67, li_69, li_70, li_71, li_76, li_77, li_80, li_83, li_86, li_90, li_100, li_120, li_200, li_209, li_234, li_240, li_255, li_300, li_309, li_310, ll_0, ll_1, ll_3, ll_5, ll_7, ll_8, ll_9, ll_20, ll_39, ll_40, ll_60, ll_100, ll_120, ll_200, ll_209, ll_300, ll_309, ll_600, ll_1000000000, zI_neg, zI_add, zI_sub, zI_mul, zL_add, zL_sub, zL_mul, zL_neg, zI_suc, zN_I, zI_ofNat, zI_le_t, zI_le_f, zI_lt_t, zI_lt_f, zI_eq_t, zI_eq_f, zL_le_t, zL_le_f, zL_lt_t, zL_lt_f, zL_eq_t, zL_eq_f, zI_cl, zI_L, mI_t, Int.reduceToNat, nt_le_f, nt_le_t, lc_le, lc_lt, lc_gt, lc_eq, zI_div, Int.toNat_natCast, zI_max, zI_min, or_false, false_or, or_true, true_or, not_false_eq_true, not_true_eq_false, ↓reduceIte, and_self, and_true, true_and, and_false, false_and, not_or, gt_iff_lt, ge_iff_le, mBI_rI, mBJ_rJ, mBR_rV, mBR_rR, rZ_0, rZ_1, h9, hx, j2, j3, j4, n9, nx, e1, e2, eL_law_831, eq_self]
theorem lg_keep {L : Nat} (hL : L ≤ 2048) {xs : Nat → Int32} {i : Nat} (hi : i + 4 ≤ L) {M : mMI} {J : mMJ} (h : lwI L xs M J) : lwG L xs i (kL_law_780 (zI (i : Int)) M J) := by
  obtain ⟨y, hy, hC, hM, h9, hx⟩ := h
  have j2 : ((i : Int) + 2).toNat = i + 2 := by omega
  have j3 : ((i : Int) + 3).toNat = i + 3 := by omega
  have j4 : (i : Int) + 4 = ((i + 4 : Nat) : Int) := by omega
  obtain ⟨v, N, K, N2, K2, y2, e1, e2, o1, o2, o3, fa, fb⟩ := pr_keep (xs (i + 1)) y M J hy hC hM
  have n9 : N 999 = M 999 := fa 999 (by omega)
  have nx : N 1000 = M 1000 := fa 1000 (by omega)
  refine ⟨N2, K2, ⟨y2, o1, o2, o3, by rw [fb 999 (by omega)]; exact h9, by rw [fb 1000 (by omega)]; exact hx⟩, ?_⟩
  rw [eL_law_780]
  simp (disch := omega) only [Int.reduceEq, Int.reduceLT, Int.reduceLE, Int.reduceAdd, Int.reduceMul, Int.reduceSub, Int.reduceNeg, Int.reduceDiv, li_0, li_1, li_2, li_3, li_4, li_5, li_6, li_7, li_8, li_9, li_10, li_16, li_20, li_22, li_32, li_36, li_39, li_40, li_42, li_48, li_60, li_67, li_69, li_70, li_71, li_76, li_77, li_80, li_83, li_86, li_90, li_100, li_120, li_200, li_209, li_234, li_240, li_255, li_300, li_309, li_310, ll_0, ll_1, ll_3, ll_5, ll_7, ll_8, ll_9, ll_20, ll_39, ll_40, ll_60, ll_100, ll_120, ll_200, ll_209, ll_300, ll_309, ll_600, ll_1000000000, zI_neg, zI_add, zI_sub, zI_mul, zL_add, zL_sub, zL_mul, zL_neg, zI_suc, zN_I, zI_ofNat, zI_le_t, zI_le_f, zI_lt_t, zI_lt_f, zI_eq_t, zI_eq_f, zL_le_t, zL_le_f, zL_lt_t, zL_lt_f, zL_eq_t, zL_eq_f, zI_cl, zI_L, mI_t, Int.reduceToNat, nt_le_f, nt_le_t, lc_le, lc_lt, lc_gt, lc_eq, zI_div, Int.toNat_natCast, zI_max, zI_min, or_false, false_or, or_true, true_or, not_false_eq_true, not_true_eq_false, ↓reduceIte, and_self, and_true, true_and, and_false, false_and, not_or, gt_iff_lt, ge_iff_le, mBI_rI, mBJ_rJ, mBR_rV, mBR_rR, rZ_0, rZ_1, h9, hx, j2, j3, j4, n9, nx, e1, e2, eL_law_831, eq_self]
theorem lg_again {L : Nat} (hL : L ≤ 2048) {xs : Nat → Int32} {i : Nat} (hi : i + 4 ≤ L) {M : mMI} {J : mMJ} (h : lwI L xs M J) : lwG L xs i (kL_law_797 (zI (i : Int)) M J) := by
  obtain ⟨y, hy, hC, hM, h9, hx⟩ := h
  have j2 : ((i : Int) + 2).toNat = i + 2 := by omega
  have j3 : ((i : Int) + 3).toNat = i + 3 := by omega
  have j4 : (i : Int) + 4 = ((i + 4 : Nat) : Int) := by omega
  obtain ⟨v, N, K, N2, K2, y2, e1, e2, o1, o2, o3, fa, fb⟩ := pr_again (xs (i + 1)) y M J hy hC hM
  have n9 : N 999 = M 999 := fa 999 (by omega)
  have nx : N 1000 = M 1000 := fa 1000 (by omega)
  refine ⟨N2, K2, ⟨y2, o1, o2, o3, by rw [fb 999 (by omega)]; exact h9, by rw [fb 1000 (by omega)]; exact hx⟩, ?_⟩
  rw [eL_law_797]
  simp (disch := omega) only [Int.reduceEq, Int.reduceLT, Int.reduceLE, Int.reduceAdd, Int.reduceMul, Int.reduceSub, Int.reduceNeg, Int.reduceDiv, li_0, li_1, li_2, li_3, li_4, li_5, li_6, li_7, li_8, li_9, li_10, li_16, li_20, li_22, li_32, li_36, li_39, li_40, li_42, li_48, li_60, li_67, li_69, li_70, li_71, li_76, li_77, li_80, li_83, li_86, li_90, li_100, li_120, li_200, li_209, li_234, li_240, li_255, li_300, li_309, li_310, ll_0, ll_1, ll_3, ll_5, ll_7, ll_8, ll_9, ll_20, ll_39, ll_40, ll_60, ll_100, ll_120, ll_200, ll_209, ll_300, ll_309, ll_600, ll_1000000000, zI_neg, zI_add, zI_sub, zI_mul, zL_add, zL_sub, zL_mul, zL_neg, zI_suc, zN_I, zI_ofNat, zI_le_t, zI_le_f, zI_lt_t, zI_lt_f, zI_eq_t, zI_eq_f, zL_le_t, zL_le_f, zL_lt_t, zL_lt_f, zL_eq_t, zL_eq_f, zI_cl, zI_L, mI_t, Int.reduceToNat, nt_le_f, nt_le_t, lc_le, lc_lt, lc_gt, lc_eq, zI_div, Int.toNat_natCast, zI_max, zI_min, or_false, false_or, or_true, true_or, not_false_eq_true, not_true_eq_false, ↓reduceIte, and_self, and_true, true_and, and_false, false_and, not_or, gt_iff_lt, ge_iff_le, mBI_rI, mBJ_rJ, mBR_rV, mBR_rR, rZ_0, rZ_1, h9, hx, j2, j3, j4, n9, nx, e1, e2, eL_law_831, eq_self]
theorem lg_count {L : Nat} (hL : L ≤ 2048) {xs : Nat → Int32} {i : Nat} (hi : i + 4 ≤ L) {M : mMI} {J : mMJ} (h : lwI L xs M J) : lwG L xs i (kL_law_814 (zI (i : Int)) M J) := by
  obtain ⟨y, hy, hC, hM, h9, hx⟩ := h
  have j2 : ((i : Int) + 2).toNat = i + 2 := by omega
  have j3 : ((i : Int) + 3).toNat = i + 3 := by omega
  have j4 : (i : Int) + 4 = ((i + 4 : Nat) : Int) := by omega
  obtain ⟨v, N, K, N2, K2, y2, e1, e2, o1, o2, o3, fa, fb⟩ := pr_count (xs (i + 1)) y M J hy hC hM
  have n9 : N 999 = M 999 := fa 999 (by omega)
  have nx : N 1000 = M 1000 := fa 1000 (by omega)
  refine ⟨N2, K2, ⟨y2, o1, o2, o3, by rw [fb 999 (by omega)]; exact h9, by rw [fb 1000 (by omega)]; exact hx⟩, ?_⟩
  rw [eL_law_814]
  simp (disch := omega) only [Int.reduceEq, Int.reduceLT, Int.reduceLE, Int.reduceAdd, Int.reduceMul, Int.reduceSub, Int.reduceNeg, Int.reduceDiv, li_0, li_1, li_2, li_3, li_4, li_5, li_6, li_7, li_8, li_9, li_10, li_16, li_20, li_22, li_32, li_36, li_39, li_40, li_42, li_48, li_60, li_67, li_69, li_70, li_71, li_76, li_77, li_80, li_83, li_86, li_90, li_100, li_120, li_200, li_209, li_234, li_240, li_255, li_300, li_309, li_310, ll_0, ll_1, ll_3, ll_5, ll_7, ll_8, ll_9, ll_20, ll_39, ll_40, ll_60, ll_100, ll_120, ll_200, ll_209, ll_300, ll_309, ll_600, ll_1000000000, zI_neg, zI_add, zI_sub, zI_mul, zL_add, zL_sub, zL_mul, zL_neg, zI_suc, zN_I, zI_ofNat, zI_le_t, zI_le_f, zI_lt_t, zI_lt_f, zI_eq_t, zI_eq_f, zL_le_t, zL_le_f, zL_lt_t, zL_lt_f, zL_eq_t, zL_eq_f, zI_cl, zI_L, mI_t, Int.reduceToNat, nt_le_f, nt_le_t, lc_le, lc_lt, lc_gt, lc_eq, zI_div, Int.toNat_natCast, zI_max, zI_min, or_false, false_or, or_true, true_or, not_false_eq_true, not_true_eq_false, ↓reduceIte, and_self, and_true, true_and, and_false, false_and, not_or, gt_iff_lt, ge_iff_le, mBI_rI, mBJ_rJ, mBR_rV, mBR_rR, rZ_0, rZ_1, h9, hx, j2, j3, j4, n9, nx, e1, e2, eL_law_831, eq_self]
theorem lg_all39 {L : Nat} (hL : L ≤ 2048) {xs : Nat → Int32} {i : Nat} (hi : i + 4 ≤ L) {M : mMI} {J : mMJ} (h : lwI L xs M J) : lwG L xs i (kL_law_10 (zI (i : Int)) M J) := by
  have q_write := lg_write hL hi h
  have q_wipe := lg_wipe hL hi h
  have q_fault := lg_fault hL hi h
  have q_rule := lg_rule hL hi h
  have q_group := lg_group hL hi h
  have q_ruled := lg_ruled hL hi h
  have q_person := lg_person hL hi h
  have q_tell := lg_tell hL hi h
  have q_send := lg_send hL hi h
  have q_fine := lg_fine hL hi h
  have q_put := lg_put hL hi h
  have q_paid := lg_paid hL hi h
  have q_pot := lg_pot hL hi h
  have q_here := lg_here hL hi h
  have q_holds := lg_holds hL hi h
  have q_all := lg_all hL hi h
  have q_lost := lg_lost hL hi h
  have q_fall := lg_fall hL hi h
  have q_pays := lg_pays hL hi h
  have q_vote := lg_vote hL hi h
  have q_least := lg_least hL hi h
  have q_leader := lg_leader hL hi h
  have q_led := lg_led hL hi h
  have q_whom := lg_whom hL hi h
  have q_without := lg_without hL hi h
  have q_part := lg_part hL hi h
  have q_parted := lg_parted hL hi h
  have q_reply := lg_reply hL hi h
  have q_gain := lg_gain hL hi h
  have q_rest := lg_rest hL hi h
  have q_note := lg_note hL hi h
  have q_would := lg_would hL hi h
  have q_slips := lg_slips hL hi h
  have q_sort := lg_sort hL hi h
  have q_sorts := lg_sorts hL hi h
  have q_copy := lg_copy hL hi h
  have q_keep := lg_keep hL hi h
  have q_again := lg_again hL hi h
  have q_count := lg_count hL hi h
  have q_none : lwG L xs i (kL_law_831 (zI (i : Int)) M J) := by
    refine ⟨M, J, h, ?_⟩
    have j4 : (i : Int) + 4 = ((i + 4 : Nat) : Int) := by omega
    rw [eL_law_831]
    simp (disch := omega) only [Int.reduceEq, Int.reduceLT, Int.reduceLE, Int.reduceAdd, Int.reduceMul, Int.reduceSub, Int.reduceNeg, Int.reduceDiv, li_0, li_1, li_2, li_3, li_4, li_5, li_6, li_7, li_8, li_9, li_10, li_16, li_20, li_22, li_32, li_36, li_39, li_40, li_42, li_48, li_60, li_67, li_69, li_70, li_71, li_76, li_77, li_80, li_83, li_86, li_90, li_100, li_120, li_200, li_209, li_234, li_240, li_255, li_300, li_309, li_310, ll_0, ll_1, ll_3, ll_5, ll_7, ll_8, ll_9, ll_20, ll_39, ll_40, ll_60, ll_100, ll_120, ll_200, ll_209, ll_300, ll_309, ll_600, ll_1000000000, zI_neg, zI_add, zI_sub, zI_mul, zL_add, zL_sub, zL_mul, zL_neg, zI_suc, zN_I, zI_ofNat, zI_le_t, zI_le_f, zI_lt_t, zI_lt_f, zI_eq_t, zI_eq_f, zL_le_t, zL_le_f, zL_lt_t, zL_lt_f, zL_eq_t, zL_eq_f, zI_cl, zI_L, mI_t, Int.reduceToNat, nt_le_f, nt_le_t, lc_le, lc_lt, lc_gt, lc_eq, zI_div, Int.toNat_natCast, zI_max, zI_min, or_false, false_or, or_true, true_or, not_false_eq_true, not_true_eq_false, ↓reduceIte, and_self, and_true, true_and, and_false, false_and, not_or, gt_iff_lt, ge_iff_le, mBI_rI, mBJ_rJ, mBR_rV, mBR_rR, rZ_0, rZ_1, j4]
  obtain ⟨y, hy, hC, hM, h9, hx⟩ := h
  have c1 : ¬ ((M 999 0) - 4 < zI (i : Int)) := by
    rw [h9, li_4, zI_sub, zI_lt_f (by omega) (by omega) (by omega)]
    exact not_false
  have c2 : mIn (zI (i : Int)) (M 999 0).toNatClampNeg := by
    rw [h9, zI_cl (by omega) (by omega), Int.toNat_natCast]
    exact of_eq_true (mI_t (by omega) (by omega) (by omega))
  rw [eL_law_10, if_neg c1, if_pos c2]
  exact (iteQ q_write (iteQ q_wipe (iteQ q_fault (iteQ q_rule (iteQ q_group (iteQ q_ruled (iteQ q_person (iteQ q_tell (iteQ q_send (iteQ q_fine (iteQ q_put (iteQ q_paid (iteQ q_pot (iteQ q_here (iteQ q_holds (iteQ q_all (iteQ q_lost (iteQ q_fall (iteQ q_pays (iteQ q_vote (iteQ q_least (iteQ q_leader (iteQ q_led (iteQ q_whom (iteQ q_without (iteQ q_part (iteQ q_parted (iteQ q_reply (iteQ q_gain (iteQ q_rest (iteQ q_note (iteQ q_would (iteQ q_slips (iteQ q_sort (iteQ q_sorts (iteQ q_copy (iteQ q_keep (iteQ q_again (iteQ q_count q_none)))))))))))))))))))))))))))))))))))))))
theorem lw_loop {L : Nat} (hL : L ≤ 2048) {xs : Nat → Int32} {M : mMI} {J : mMJ} (h : lwI L xs M J) : ∃ N K, kL_law_10 (zI 0) M J = some (some (.int (zI 1)), SH, N, K, 70, 8917) := by
  refine lp_Q (α := mMI × mMJ) (fun a j => kL_law_10 (zI ((4 * j : Nat) : Int)) a.1 a.2) (fun j a => lwI L xs a.1 a.2) (fun o => ∃ N K, o = some (some (.int (zI 1)), SH, N, K, 70, 8917)) (L / 4) ?_ ?_ (M, J) h
  · intro j ⟨N, K⟩ hj i1
    right
    obtain ⟨N2, K2, i2, e⟩ := lg_all39 hL (i := 4 * j) (by omega) i1
    exact ⟨(N2, K2), i2, e⟩
  · intro ⟨N, K⟩ i1
    obtain ⟨y, hy, hC, hM, h9, hx⟩ := i1
    refine ⟨N, K, ?_⟩
    show kL_law_10 (zI ((4 * (L / 4) : Nat) : Int)) N K = _
    have h9 : N 999 0 = zI (L : Int) := h9
    have c1 : (N 999 0) - 4 < zI ((4 * (L / 4) : Nat) : Int) := by
      rw [h9, li_4, zI_sub, zI_lt_t (by omega) (by omega) (by omega)]
      trivial
    rw [eL_law_10, if_pos c1, li_1]
    exact rZL_1 N K
