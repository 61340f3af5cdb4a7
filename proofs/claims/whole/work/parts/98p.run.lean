/-! the law's whole run -/
def y00 : sS := ((0, fun _ => 0), (fun j => [20, 16, 0, 1].getD j 0, 2, fun j _ => if j = 0 then 1 else 0), (fun _ _ => -9, fun _ => 40, fun _ => -9), (fun _ => 0, fun _ => (fun _ _ => 0, fun _ => 0, fun _ => 0)))
theorem y00_ok : yOk y00 := by
  refine ⟨⟨(by decide : 0 ≤ 40), fun i hi => absurd hi (Nat.not_lt_zero i)⟩, ⟨(by decide : 2 ≤ 2 ∧ 2 ≤ 6), (by decide : (1 : Int) ≤ 20 ∧ (20 : Int) ≤ 20), (by decide : (0 : Int) ≤ 16 ∧ (16 : Int) ≤ 60), (by decide : (0 : Int) ≤ 0 ∧ (0 : Int) ≤ 9), (by decide : (1 : Int) ≤ 1 ∧ (1 : Int) ≤ 9), fun k _ => ⟨(by decide : (0 : Int) ≤ 1 ∧ (1 : Int) ≤ 6), (by decide : (0 : Int) ≤ 0 ∧ (0 : Int) ≤ 20), (by decide : (0 : Int) ≤ 0 ∧ (0 : Int) ≤ 9)⟩⟩, ⟨fun k _ => (by decide : (0 : Int) ≤ 40 ∧ (40 : Int) ≤ 40), fun k t _ _ => Or.inl rfl, (by decide : (2 : Int) ≤ 2)⟩, fun i _ => Or.inl rfl, fun b _ => Or.inl rfl, fun b _ h => absurd (show (0 : Int) = 1 from h) (by decide)⟩
theorem l_m9 : (-9 : Int32) = zI (-9) := by decide +kernel
set_option maxRecDepth 20000 in
theorem lw_init {L : Nat} (hL : L ≤ 2048) (xs : Nat → Int32) : ∃ N K, lwI L xs N K ∧ mOut PG (197, 0, [some (.ref 1000), none, none, none], [], [], pM0 L xs, fun _ _ => 0, 0, 0) = kL_law_10 0 N K := by
  obtain ⟨f1, f2, f3, f4, f5, f6, f7, f8, f9, N, f11, h1, h2, h3, h4, h5, h6, h7, h8, h9, hF, q56, q57, q61, h11, e⟩ := mk_law (pM0 L xs) (fun _ _ => 0)
  have q : ∀ p, p ≠ 62 → p ≠ 56 → p ≠ 57 → p ≠ 61 → mSet N 62 f11 p = _ := fun p a b c d => (set_nk a).trans (hF p (by simp; omega))
  refine ⟨_, _, ⟨y00, y00_ok, ⟨⟨⟨?_, ?_, ?_, ?_, ?_, ?_⟩, ?_, ?_, ?_, ?_, ?_, ?_, ?_, ?_, ?_⟩, ⟨?_, fun i hi => absurd hi (Nat.not_lt_zero i)⟩, ⟨?_, fun j hj => ?_, fun k hk => ⟨?_, ?_, ?_⟩, fun k hk => ?_, fun k u hk hu => ?_⟩, fun i hi => ?_, fun b hb => ⟨?_, fun h => absurd (show (0 : Int) = 1 from h) (by decide)⟩, Or.inl ?_⟩, ⟨⟨?_, fun i hi => absurd hi (Nat.not_lt_zero i)⟩, ⟨?_, fun j hj => ?_, fun k hk => ⟨?_, ?_, ?_⟩, fun k hk => ?_, fun k u hk hu => ?_⟩, fun i hi => ?_, fun b hb => ⟨?_, fun h => absurd (show (0 : Int) = 1 from h) (by decide)⟩⟩, ?_, ?_⟩, e⟩
  · exact (congrFun (q 5 (by omega) (by omega) (by omega) (by omega)) 4).trans li_1
  · exact (congrFun (q 5 (by omega) (by omega) (by omega) (by omega)) 5).trans li_0
  · exact (congrFun (q 5 (by omega) (by omega) (by omega) (by omega)) 6).trans li_4
  · exact (congrFun (q 6 (by omega) (by omega) (by omega) (by omega)) 4).trans li_0
  · exact (congrFun (q 6 (by omega) (by omega) (by omega) (by omega)) 5).trans li_2
  · exact (congrFun (q 6 (by omega) (by omega) (by omega) (by omega)) 6).trans li_6
  · exact q 1004 (by omega) (by omega) (by omega) (by omega)
  · exact q 1052 (by omega) (by omega) (by omega) (by omega)
  · exact q 1053 (by omega) (by omega) (by omega) (by omega)
  · exact q 1054 (by omega) (by omega) (by omega) (by omega)
  · exact q 1062 (by omega) (by omega) (by omega) (by omega)
  · exact q 1063 (by omega) (by omega) (by omega) (by omega)
  · exact q 1064 (by omega) (by omega) (by omega) (by omega)
  · exact q 1051 (by omega) (by omega) (by omega) (by omega)
  · exact q 1061 (by omega) (by omega) (by omega) (by omega)
  · exact (congrFun (q 1 (by omega) (by omega) (by omega) (by omega)) 1).trans li_0
  · exact (congrFun (q 7 (by omega) (by omega) (by omega) (by omega)) 1).trans li_2
  · refine (congrFun (q 8 (by omega) (by omega) (by omega) (by omega)) j).trans ((h1 j hj).trans ?_)
    show ([20, 16, 0, 1] : List Int32).getD j 0 = zI (([20, 16, 0, 1] : List Int).getD j 0)
    rcases (show j = 0 ∨ j = 1 ∨ j = 2 ∨ j = 3 by omega) with rfl | rfl | rfl | rfl <;> decide +kernel
  · have hk : k < 2 := hk
    exact (congrFun (q 9 (by omega) (by omega) (by omega) (by omega)) k).trans ((h2 k (by omega)).trans li_1)
  · exact (congrFun (q 10 (by omega) (by omega) (by omega) (by omega)) k).trans li_0
  · exact (congrFun (q 11 (by omega) (by omega) (by omega) (by omega)) k).trans li_0
  · exact (congrFun (q 13 (by omega) (by omega) (by omega) (by omega)) k).trans ((h4 k hk).trans li_40)
  · exact (congrFun (q 12 (by omega) (by omega) (by omega) (by omega)) (6 * u + k)).trans ((h3 _ (by omega)).trans l_m9)
  · exact (congrFun (q 36 (by omega) (by omega) (by omega) (by omega)) i).trans ((h9 i hi).trans l_m9)
  · rcases (show b = 0 ∨ b = 1 by omega) with rfl | rfl
    · exact (congrFun (q 38 (by omega) (by omega) (by omega) (by omega)) 0).trans li_0
    · exact (congrFun (q 42 (by omega) (by omega) (by omega) (by omega)) 0).trans li_0
  · exact (congrFun (q 0 (by omega) (by omega) (by omega) (by omega)) 9).trans li_1
  · exact (congrFun (q 46 (by omega) (by omega) (by omega) (by omega)) 2).trans li_0
  · exact (congrFun (q 46 (by omega) (by omega) (by omega) (by omega)) 7).trans li_2
  · refine (congrFun (q 48 (by omega) (by omega) (by omega) (by omega)) j).trans ?_
    rcases (show j = 0 ∨ j = 1 ∨ j = 2 ∨ j = 3 by omega) with rfl | rfl | rfl | rfl
    · exact li_20
    · exact li_16
    · exact li_0
    · exact li_1
  · have hk : k < 2 := hk
    refine (congrFun (q 50 (by omega) (by omega) (by omega) (by omega)) k).trans ?_
    rcases (show k = 0 ∨ k = 1 by omega) with rfl | rfl
    · exact li_1
    · exact li_1
  · exact (congrFun (q 51 (by omega) (by omega) (by omega) (by omega)) k).trans li_0
  · exact (congrFun (q 52 (by omega) (by omega) (by omega) (by omega)) k).trans li_0
  · rw [set_nk (by omega)]; exact q57 k hk
  · rw [set_nk (by omega)]; exact q56 _ (by omega)
  · rw [set_at]; exact (h11 i hi).trans l_m9
  · rw [set_nk (by omega)]; exact q61 b hb
  · exact (congrFun (q 999 (by omega) (by omega) (by omega) (by omega)) 0).trans (zI_ofNat L)
  · exact q 1000 (by omega) (by omega) (by omega) (by omega)
theorem lw_run : lw_Run := by
  intro L xs hL
  obtain ⟨N, K, h, e⟩ := lw_init hL xs
  obtain ⟨N2, K2, e2⟩ := lw_loop hL h
  rw [← li_0, ← li_1] at e2
  exact ⟨_, e.trans e2⟩
