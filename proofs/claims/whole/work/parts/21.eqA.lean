/-! equations of the cuts: by wip/whole/sym.py -/
set_option maxRecDepth 20000 in
theorem e_Booe_toldBy (x1 : Int32) (x2 : Int32) (x3 : Int32) (M : mMI) (J : mMJ) : k_Book_toldBy x1 x2 x3 M J = (if ¬ (100 : Int32) = 0 then (if ¬ (100 : Int32) = 0 then (if (2 : Int32) ≤ (x1 / 100) then (if (1 : Int32) ≤ x3 then (if ¬ ((x1 / 100) : Int32) = 2 then (if mIn ((x2 * 8) + (x3 - 1)) 48 then (if ¬ ((M 36 ((x2 * 8) + (x3 - 1)).toNatClampNeg) : Int32) = (-9) then (rI (mMx 0 0 ((M 36 ((x2 * 8) + (x3 - 1)).toNatClampNeg) - (x1 - x1 / 100 * 100))) M J) else (rI (-9) M J)) else none) else (mBI (k_Book_meanOfOthers x2 (x3 - 1) M J) (fun v1 M1 J1 => (if ¬ (v1 : Int32) = (-9) then (rI (mMx 0 0 (v1 - (x1 - x1 / 100 * 100))) M1 J1) else (rI (-9) M1 J1))))) else (rI (-9) M J)) else (rI (x1 - x1 / 100 * 100) M J)) else none) else none) := (mDen_eq PG 300 (1, 0, [some (.ref 35), some (.int x1), some (.int x2), some (.int x3), none, none, none], [], SH, M, J, 0, 0)).symm.trans rfl
set_option maxRecDepth 20000 in
theorem e_Booe_countSlips (x1 : Int32) (x2 : Int32) (M : mMI) (J : mMJ) : k_Book_countSlips x1 x2 M J = (k_Book_countSlips_4 x1 x2 0 0 M J) := (mDen_eq PG 300 (2, 0, [some (.ref 35), some (.int x1), some (.int x2), none, none, none, none], [], SH, M, J, 0, 0)).symm.trans rfl
set_option maxRecDepth 20000 in
theorem e_Booe_countSlips_4 (x1 : Int32) (x2 : Int32) (x3 : Int32) (x4 : Int32) (M : mMI) (J : mMJ) : k_Book_countSlips_4 x1 x2 x3 x4 M J = (if (8 : Int32) ≤ x4 then (rI x3 M J) else (if mIn ((x2 * 8) + x4) 48 then (mBI (k_Book_toldBy x1 x2 x4 M J) (fun v1 M1 J1 => (if ((M 36 ((x2 * 8) + x4).toNatClampNeg) : Int32) = (-9) then (k_Book_countSlips_4 x1 x2 x3 (x4 + 1) M1 J1) else (if (v1 : Int32) = (-9) then (k_Book_countSlips_4 x1 x2 x3 (x4 + 1) M1 J1) else (if ((M 36 ((x2 * 8) + x4).toNatClampNeg) : Int32) = v1 then (k_Book_countSlips_4 x1 x2 x3 (x4 + 1) M1 J1) else (k_Book_countSlips_4 x1 x2 (x3 + 1) (x4 + 1) M1 J1)))))) else none)) := (mDen_eq PG 300 (2, 4, [some (.ref 35), some (.int x1), some (.int x2), some (.int x3), some (.int x4), none, none], [], SH, M, J, 0, 0)).symm.trans rfl
set_option maxRecDepth 20000 in
theorem e_Booe_bestSort (x1 : Int32) (M : mMI) (J : mMJ) : k_Book_bestSort x1 M J = (mBI (k_Book_countSlips 0 x1 M J) (fun v1 M1 J1 => (k_Book_bestSort_9 x1 0 v1 1 M1 J1))) := (mDen_eq PG 300 (3, 0, [some (.ref 35), some (.int x1), none, none, none, none], [], SH, M, J, 0, 0)).symm.trans rfl
set_option maxRecDepth 20000 in
theorem e_Booe_bestSort_9 (x1 : Int32) (x2 : Int32) (x3 : Int32) (x4 : Int32) (M : mMI) (J : mMJ) : k_Book_bestSort_9 x1 x2 x3 x4 M J = (if (42 : Int32) ≤ x4 then (rI x2 M J) else (mBI (k_Book_sortNumbered x4 M J) (fun v2 M2 J2 => (mBI (k_Book_countSlips v2 x1 M2 J2) (fun v3 M3 J3 => (if (x3 : Int32) ≤ v3 then (k_Book_bestSort_9 x1 x2 x3 (x4 + 1) M3 J3) else (mBI (k_Book_sortNumbered x4 M3 J3) (fun v4 M4 J4 => (k_Book_bestSort_9 x1 v4 v3 (x4 + 1) M4 J4))))))))) := (mDen_eq PG 300 (3, 9, [some (.ref 35), some (.int x1), some (.int x2), some (.int x3), some (.int x4), none], [], SH, M, J, 0, 0)).symm.trans rfl
set_option maxRecDepth 20000 in
theorem e_Booe_countSorts (x1 : Int32) (x2 : Int32) (M : mMI) (J : mMJ) : k_Book_countSorts x1 x2 M J = (k_Book_countSorts_4 x1 x2 0 0 M J) := (mDen_eq PG 300 (4, 0, [some (.ref 35), some (.int x1), some (.int x2), none, none], [], SH, M, J, 0, 0)).symm.trans rfl
set_option maxRecDepth 20000 in
theorem e_Booe_countSorts_4 (x1 : Int32) (x2 : Int32) (x3 : Int32) (x4 : Int32) (M : mMI) (J : mMJ) : k_Book_countSorts_4 x1 x2 x3 x4 M J = (if (42 : Int32) ≤ x4 then (rI x3 M J) else (mBI (k_Book_sortNumbered x4 M J) (fun v1 M1 J1 => (mBI (k_Book_countSlips v1 x1 M1 J1) (fun v2 M2 J2 => (if (x2 : Int32) < v2 then (k_Book_countSorts_4 x1 x2 x3 (x4 + 1) M2 J2) else (k_Book_countSorts_4 x1 x2 (x3 + 1) (x4 + 1) M2 J2))))))) := (mDen_eq PG 300 (4, 4, [some (.ref 35), some (.int x1), some (.int x2), some (.int x3), some (.int x4)], [], SH, M, J, 0, 0)).symm.trans rfl
set_option maxRecDepth 20000 in
theorem e_Booe_sortNumbered (x0 : Int32) (M : mMI) (J : mMJ) : k_Book_sortNumbered x0 M J = (if (1 : Int32) ≤ x0 then (if (22 : Int32) ≤ x0 then (if (32 : Int32) ≤ x0 then (rI ((300 + x0) - 32) M J) else (rI ((200 + x0) - 22) M J)) else (rI ((100 + x0) - 1) M J)) else (rI 0 M J)) := (mDen_eq PG 300 (5, 0, [some (.int x0)], [], SH, M, J, 0, 0)).symm.trans rfl
set_option maxRecDepth 20000 in
theorem e_Booe_meanOfOthers (x1 : Int32) (x2 : Int32) (M : mMI) (J : mMJ) : k_Book_meanOfOthers x1 x2 M J = (k_Book_meanOfOthers_6 x1 x2 0 0 0 M J) := (mDen_eq PG 300 (6, 0, [some (.ref 35), some (.int x1), some (.int x2), none, none, none, none], [], SH, M, J, 0, 0)).symm.trans rfl
set_option maxRecDepth 20000 in
theorem e_Booe_meanOfOthers_6 (x1 : Int32) (x2 : Int32) (x3 : Int32) (x4 : Int32) (x5 : Int32) (M : mMI) (J : mMJ) : k_Book_meanOfOthers_6 x1 x2 x3 x4 x5 M J = (if (6 : Int32) ≤ x5 then (if (x4 : Int32) ≤ 0 then (rI (-9) M J) else (mBI (k_Pot_meanOf x3 x4 M J) (fun v1 M1 J1 => (rI v1 M1 J1)))) else (if mIn ((x5 * 8) + x2) 48 then (if (x5 : Int32) = x1 then (k_Book_meanOfOthers_6 x1 x2 x3 x4 (x5 + 1) M J) else (if ((M 36 ((x5 * 8) + x2).toNatClampNeg) : Int32) = (-9) then (k_Book_meanOfOthers_6 x1 x2 x3 x4 (x5 + 1) M J) else (k_Book_meanOfOthers_6 x1 x2 (x3 + (M 36 ((x5 * 8) + x2).toNatClampNeg)) (x4 + 1) (x5 + 1) M J))) else none)) := (mDen_eq PG 300 (6, 6, [some (.ref 35), some (.int x1), some (.int x2), some (.int x3), some (.int x4), some (.int x5), none], [], SH, M, J, 0, 0)).symm.trans rfl
set_option maxRecDepth 20000 in
theorem e_Course_runAll (s : Nat) (hs : s = 7 ∨ s = 21)  (M : mMI) (J : mMJ) : k_Course_runAll s M J = (k_Course_runAll_2 s 0 M J) := by
  rcases hs with rfl | rfl
  · exact (mDen_eq PG 300 (8, 0, [some (.ref (7 + 7)), none], [], SH, M, J, 0, 0)).symm.trans rfl
  · exact (mDen_eq PG 300 (8, 0, [some (.ref (21 + 7)), none], [], SH, M, J, 0, 0)).symm.trans rfl
set_option maxRecDepth 20000 in
theorem e_Course_runAll_2 (s : Nat) (hs : s = 7 ∨ s = 21) (x1 : Int32) (M : mMI) (J : mMJ) : k_Course_runAll_2 s x1 M J = (if (40 : Int32) ≤ x1 then (rV M J) else (mBR (k_Course_putAll s x1 M J) 0 (fun M1 J1 => (mBR (k_Course_lookAt s x1 (-9) 0 M1 J1) 0 (fun M2 J2 => (if mIn x1 40 then (mBR (k_Course_payAll s x1 (mUp M2 (s + 12) x1.toNatClampNeg (M2 (s + 7) 7)) J2) 0 (fun M3 J3 => (mBR (k_Course_settleAll s x1 M3 J3) 0 (fun M4 J4 => (k_Course_runAll_2 s (x1 + 1) M4 J4))))) else none)))))) := by
  rcases hs with rfl | rfl
  · exact (mDen_eq PG 300 (8, 2, [some (.ref (7 + 7)), some (.int x1)], [], SH, M, J, 0, 0)).symm.trans rfl
  · exact (mDen_eq PG 300 (8, 2, [some (.ref (21 + 7)), some (.int x1)], [], SH, M, J, 0, 0)).symm.trans rfl
set_option maxRecDepth 20000 in
theorem e_Course_heldByAll (s : Nat) (hs : s = 7 ∨ s = 21) (x1 : Int32) (M : mMI) (J : mMJ) : k_Course_heldByAll s x1 M J = (k_Course_heldByAll_4 s x1 0 0 M J) := by
  rcases hs with rfl | rfl
  · exact (mDen_eq PG 300 (9, 0, [some (.ref (7 + 7)), some (.int x1), none, none, none], [], SH, M, J, 0, 0)).symm.trans rfl
  · exact (mDen_eq PG 300 (9, 0, [some (.ref (21 + 7)), some (.int x1), none, none, none], [], SH, M, J, 0, 0)).symm.trans rfl
set_option maxRecDepth 20000 in
theorem e_Course_heldByAll_4 (s : Nat) (hs : s = 7 ∨ s = 21) (x1 : Int32) (x2 : Int64) (x4 : Int32) (M : mMI) (J : mMJ) : k_Course_heldByAll_4 s x1 x2 x4 M J = (if ((M s 1) : Int32) ≤ x4 then (rJ x2 M J) else (if mIn ((x1 * 6) + x4) 240 then (k_Course_heldByAll_4 s x1 (x2 + (J (s + 11) ((x1 * 6) + x4).toNatClampNeg)) (x4 + 1) M J) else none)) := by
  rcases hs with rfl | rfl
  · exact (mDen_eq PG 300 (9, 4, [some (.ref (7 + 7)), some (.int x1), some (.long x2), none, some (.int x4)], [], SH, M, J, 0, 0)).symm.trans rfl
  · exact (mDen_eq PG 300 (9, 4, [some (.ref (21 + 7)), some (.int x1), some (.long x2), none, some (.int x4)], [], SH, M, J, 0, 0)).symm.trans rfl
set_option maxRecDepth 20000 in
theorem e_Course_gotBy (s : Nat) (hs : s = 7 ∨ s = 21) (x1 : Int32) (x2 : Int32) (x3 : Int32) (M : mMI) (J : mMJ) : k_Course_gotBy s x1 x2 x3 M J = (mBR (k_Course_lookAt s x2 x1 x3 M J) 0 (fun M1 J1 => (k_Course_gotBy_9 s x1 x2 0 0 M1 J1))) := by
  rcases hs with rfl | rfl
  · exact (mDen_eq PG 300 (10, 0, [some (.ref (7 + 7)), some (.int x1), some (.int x2), some (.int x3), none, none, none], [], SH, M, J, 0, 0)).symm.trans rfl
  · exact (mDen_eq PG 300 (10, 0, [some (.ref (21 + 7)), some (.int x1), some (.int x2), some (.int x3), none, none, none], [], SH, M, J, 0, 0)).symm.trans rfl
set_option maxRecDepth 20000 in
theorem e_Course_gotBy_9 (s : Nat) (hs : s = 7 ∨ s = 21) (x1 : Int32) (x2 : Int32) (x4 : Int64) (x6 : Int32) (M : mMI) (J : mMJ) : k_Course_gotBy_9 s x1 x2 x4 x6 M J = (if ((M s 1) : Int32) ≤ x6 then (mBJ (k_Course_gotFromPot s x1 M J) (fun v2 M2 J2 => (rJ (v2 - (600 * x4)) M2 J2))) else (mBI (k_Course_dueFrom s x1 x6 x2 M J) (fun v3 M3 J3 => (mBI (k_Course_dueFrom s x6 x1 x2 M3 J3) (fun v4 M4 J4 => (mBI (k_Course_lossBetween s v3 v4 M4 J4) (fun v5 M5 J5 => (k_Course_gotBy_9 s x1 x2 (x4 + v5.toInt64) (x6 + 1) M5 J5)))))))) := by
  rcases hs with rfl | rfl
  · exact (mDen_eq PG 300 (10, 9, [some (.ref (7 + 7)), some (.int x1), some (.int x2), none, some (.long x4), none, some (.int x6)], [], SH, M, J, 0, 0)).symm.trans rfl
  · exact (mDen_eq PG 300 (10, 9, [some (.ref (21 + 7)), some (.int x1), some (.int x2), none, some (.long x4), none, some (.int x6)], [], SH, M, J, 0, 0)).symm.trans rfl
set_option maxRecDepth 20000 in
theorem e_Course_bestPut (s : Nat) (hs : s = 7 ∨ s = 21) (x1 : Int32) (x2 : Int32) (M : mMI) (J : mMJ) : k_Course_bestPut s x1 x2 M J = (mBJ (k_Course_gotBy s x1 x2 0 M J) (fun v1 M1 J1 => (k_Course_bestPut_10 s x1 x2 0 v1 1 M1 J1))) := by
  rcases hs with rfl | rfl
  · exact (mDen_eq PG 300 (11, 0, [some (.ref (7 + 7)), some (.int x1), some (.int x2), none, none, none, none, none, none], [], SH, M, J, 0, 0)).symm.trans rfl
  · exact (mDen_eq PG 300 (11, 0, [some (.ref (21 + 7)), some (.int x1), some (.int x2), none, none, none, none, none, none], [], SH, M, J, 0, 0)).symm.trans rfl
set_option maxRecDepth 20000 in
theorem e_Course_bestPut_10 (s : Nat) (hs : s = 7 ∨ s = 21) (x1 : Int32) (x2 : Int32) (x3 : Int32) (x4 : Int64) (x6 : Int32) (M : mMI) (J : mMJ) : k_Course_bestPut_10 s x1 x2 x3 x4 x6 M J = (if mIn 0 4 then (if ((M (s + 1) (0 : Int32).toNatClampNeg) : Int32) < x6 then (rI x3 M J) else (mBJ (k_Course_gotBy s x1 x2 x6 M J) (fun v2 M2 J2 => (if ((lg_cmp v2 x4) : Int32) ≤ 0 then (k_Course_bestPut_10 s x1 x2 x3 x4 (x6 + 1) M2 J2) else (k_Course_bestPut_10 s x1 x2 x6 v2 (x6 + 1) M2 J2))))) else none) := by
  rcases hs with rfl | rfl
  · exact (mDen_eq PG 300 (11, 10, [some (.ref (7 + 7)), some (.int x1), some (.int x2), some (.int x3), some (.long x4), none, some (.int x6), none, none], [], SH, M, J, 0, 0)).symm.trans rfl
  · exact (mDen_eq PG 300 (11, 10, [some (.ref (21 + 7)), some (.int x1), some (.int x2), some (.int x3), some (.long x4), none, some (.int x6), none, none], [], SH, M, J, 0, 0)).symm.trans rfl
set_option maxRecDepth 20000 in
theorem e_Course_isAtRest (s : Nat) (hs : s = 7 ∨ s = 21) (x1 : Int32) (M : mMI) (J : mMJ) : k_Course_isAtRest s x1 M J = (k_Course_isAtRest_2 s x1 0 M J) := by
  rcases hs with rfl | rfl
  · exact (mDen_eq PG 300 (12, 0, [some (.ref (7 + 7)), some (.int x1), none, none, none], [], SH, M, J, 0, 0)).symm.trans rfl
  · exact (mDen_eq PG 300 (12, 0, [some (.ref (21 + 7)), some (.int x1), none, none, none], [], SH, M, J, 0, 0)).symm.trans rfl
set_option maxRecDepth 20000 in
theorem e_Course_isAtRest_2 (s : Nat) (hs : s = 7 ∨ s = 21) (x1 : Int32) (x2 : Int32) (M : mMI) (J : mMJ) : k_Course_isAtRest_2 s x1 x2 M J = (if ((M s 1) : Int32) ≤ x2 then (rZ 1 M J) else (mBI (k_Setup_isIn s x2 x1 M J) (fun v1 M1 J1 => (if (v1 : Int32) = 0 then (k_Course_isAtRest_2 s x1 (x2 + 1) M1 J1) else (mBI (k_Course_bestPut s x2 x1 M1 J1) (fun v2 M2 J2 => (mBJ (k_Course_gotBy s x2 x1 v2 M2 J2) (fun v3 M3 J3 => (if mIn ((x1 * 6) + x2) 240 then (mBJ (k_Course_gotBy s x2 x1 (M3 (s + 8) ((x1 * 6) + x2).toNatClampNeg) M3 J3) (fun v4 M4 J4 => (if ((lg_cmp v3 v4) : Int32) ≤ 0 then (k_Course_isAtRest_2 s x1 (x2 + 1) M4 J4) else (rZ 0 M4 J4)))) else none))))))))) := by
  rcases hs with rfl | rfl
  · exact (mDen_eq PG 300 (12, 2, [some (.ref (7 + 7)), some (.int x1), some (.int x2), none, none], [], SH, M, J, 0, 0)).symm.trans rfl
  · exact (mDen_eq PG 300 (12, 2, [some (.ref (21 + 7)), some (.int x1), some (.int x2), none, none], [], SH, M, J, 0, 0)).symm.trans rfl
set_option maxRecDepth 20000 in
theorem e_Course_putAll (s : Nat) (hs : s = 7 ∨ s = 21) (x1 : Int32) (M : mMI) (J : mMJ) : k_Course_putAll s x1 M J = (k_Course_putAll_2 s x1 0 M J) := by
  rcases hs with rfl | rfl
  · exact (mDen_eq PG 300 (13, 0, [some (.ref (7 + 7)), some (.int x1), none, none, none, none], [], SH, M, J, 0, 0)).symm.trans rfl
  · exact (mDen_eq PG 300 (13, 0, [some (.ref (21 + 7)), some (.int x1), none, none, none, none], [], SH, M, J, 0, 0)).symm.trans rfl
set_option maxRecDepth 20000 in
theorem e_Course_putAll_2 (s : Nat) (hs : s = 7 ∨ s = 21) (x1 : Int32) (x2 : Int32) (M : mMI) (J : mMJ) : k_Course_putAll_2 s x1 x2 M J = (if ((M s 1) : Int32) ≤ x2 then (rV M J) else (mBI (k_Setup_isIn s x2 x1 M J) (fun v1 M1 J1 => (if (v1 : Int32) = 0 then (if mIn ((x1 * 6) + x2) 240 then (k_Course_putAll_2 s x1 (x2 + 1) (mUp M1 (s + 8) ((x1 * 6) + x2).toNatClampNeg (-9)) J1) else none) else (if mIn ((x1 * 6) + x2) 240 then (if ¬ ((M1 (s + 5) ((x1 * 6) + x2).toNatClampNeg) : Int32) = (-9) then (if mIn 0 4 then (if mIn ((x1 * 6) + x2) 240 then (k_Course_putAll_2 s x1 (x2 + 1) (mUp M1 (s + 8) ((x1 * 6) + x2).toNatClampNeg (mMx 0 0 (mMx 1 (M1 (s + 5) ((x1 * 6) + x2).toNatClampNeg) (M1 (s + 1) (0 : Int32).toNatClampNeg)))) J1) else none) else none) else (mBI (k_Course_usualPut s x2 x1 M1 J1) (fun v2 M2 J2 => (if mIn 0 4 then (if mIn ((x1 * 6) + x2) 240 then (k_Course_putAll_2 s x1 (x2 + 1) (mUp M2 (s + 8) ((x1 * 6) + x2).toNatClampNeg (mMx 0 0 (mMx 1 v2 (M2 (s + 1) (0 : Int32).toNatClampNeg)))) J2) else none) else none)))) else none))))) := by
  rcases hs with rfl | rfl
  · exact (mDen_eq PG 300 (13, 2, [some (.ref (7 + 7)), some (.int x1), some (.int x2), none, none, none], [], SH, M, J, 0, 0)).symm.trans rfl
  · exact (mDen_eq PG 300 (13, 2, [some (.ref (21 + 7)), some (.int x1), some (.int x2), none, none, none], [], SH, M, J, 0, 0)).symm.trans rfl
set_option maxRecDepth 20000 in
theorem e_Course_usualPut (s : Nat) (hs : s = 7 ∨ s = 21) (x1 : Int32) (x2 : Int32) (M : mMI) (J : mMJ) : k_Course_usualPut s x1 x2 M J = (if mIn x1 6 then (if ¬ ((M (s + 2) x1.toNatClampNeg) : Int32) = 0 then (if ¬ ((M (s + 2) x1.toNatClampNeg) : Int32) = 1 then (if (1 : Int32) ≤ x2 then (if ((M (s + 2) x1.toNatClampNeg) : Int32) = 6 then (if mIn (((x2 - 1) * 6) + x1) 240 then (if mIn 2 4 then (mBI (k_Course_paidToFine s x1 (x2 - 1) M J) (fun v1 M1 J1 => (if (((M (s + 1) (2 : Int32).toNatClampNeg) * v1) : Int32) ≤ 0 then (if mIn x1 6 then (rI ((M (s + 8) (((x2 - 1) * 6) + x1).toNatClampNeg) - (M1 (s + 3) x1.toNatClampNeg)) M1 J1) else none) else (rI ((M (s + 8) (((x2 - 1) * 6) + x1).toNatClampNeg) + ((M (s + 1) (2 : Int32).toNatClampNeg) * v1)) M1 J1)))) else none) else none) else (mBI (k_Course_meanOfOthersBefore s x1 x2 M J) (fun v2 M2 J2 => (if mIn x1 6 then (rI (v2 - (M2 (s + 3) x1.toNatClampNeg)) M2 J2) else none)))) else (if mIn 0 4 then (if ¬ (2 : Int32) = 0 then (rI ((M (s + 1) (0 : Int32).toNatClampNeg) / 2) M J) else none) else none)) else (rI 0 M J)) else (if mIn x1 6 then (rI (M (s + 3) x1.toNatClampNeg) M J) else none)) else none) := by
  rcases hs with rfl | rfl
  · exact (mDen_eq PG 300 (14, 0, [some (.ref (7 + 7)), some (.int x1), some (.int x2), none, none, none], [], SH, M, J, 0, 0)).symm.trans rfl
  · exact (mDen_eq PG 300 (14, 0, [some (.ref (21 + 7)), some (.int x1), some (.int x2), none, none, none], [], SH, M, J, 0, 0)).symm.trans rfl
set_option maxRecDepth 20000 in
theorem e_Course_meanOfOthersBefore (s : Nat) (hs : s = 7 ∨ s = 21) (x1 : Int32) (x2 : Int32) (M : mMI) (J : mMJ) : k_Course_meanOfOthersBefore s x1 x2 M J = (k_Course_meanOfOthersBefore_6 s x1 x2 0 0 0 M J) := by
  rcases hs with rfl | rfl
  · exact (mDen_eq PG 300 (15, 0, [some (.ref (7 + 7)), some (.int x1), some (.int x2), none, none, none], [], SH, M, J, 0, 0)).symm.trans rfl
  · exact (mDen_eq PG 300 (15, 0, [some (.ref (21 + 7)), some (.int x1), some (.int x2), none, none, none], [], SH, M, J, 0, 0)).symm.trans rfl
set_option maxRecDepth 20000 in
theorem e_Course_meanOfOthersBefore_6 (s : Nat) (hs : s = 7 ∨ s = 21) (x1 : Int32) (x2 : Int32) (x3 : Int32) (x4 : Int32) (x5 : Int32) (M : mMI) (J : mMJ) : k_Course_meanOfOthersBefore_6 s x1 x2 x3 x4 x5 M J = (if ((M s 1) : Int32) ≤ x5 then (mBI (k_Pot_meanOf x3 x4 M J) (fun v1 M1 J1 => (rI v1 M1 J1))) else (if (x5 : Int32) = x1 then (k_Course_meanOfOthersBefore_6 s x1 x2 x3 x4 (x5 + 1) M J) else (mBI (k_Setup_isIn s x5 x2 M J) (fun v2 M2 J2 => (if (v2 : Int32) = 0 then (k_Course_meanOfOthersBefore_6 s x1 x2 x3 x4 (x5 + 1) M2 J2) else (if mIn (((x2 - 1) * 6) + x5) 240 then (k_Course_meanOfOthersBefore_6 s x1 x2 (x3 + (M2 (s + 8) (((x2 - 1) * 6) + x5).toNatClampNeg)) (x4 + 1) (x5 + 1) M2 J2) else none)))))) := by
  rcases hs with rfl | rfl
  · exact (mDen_eq PG 300 (15, 6, [some (.ref (7 + 7)), some (.int x1), some (.int x2), some (.int x3), some (.int x4), some (.int x5)], [], SH, M, J, 0, 0)).symm.trans rfl
  · exact (mDen_eq PG 300 (15, 6, [some (.ref (21 + 7)), some (.int x1), some (.int x2), some (.int x3), some (.int x4), some (.int x5)], [], SH, M, J, 0, 0)).symm.trans rfl
set_option maxRecDepth 20000 in
theorem e_Course_paidToFine (s : Nat) (hs : s = 7 ∨ s = 21) (x1 : Int32) (x2 : Int32) (M : mMI) (J : mMJ) : k_Course_paidToFine s x1 x2 M J = (k_Course_paidToFine_4 s x1 x2 0 0 M J) := by
  rcases hs with rfl | rfl
  · exact (mDen_eq PG 300 (16, 0, [some (.ref (7 + 7)), some (.int x1), some (.int x2), none, none], [], SH, M, J, 0, 0)).symm.trans rfl
  · exact (mDen_eq PG 300 (16, 0, [some (.ref (21 + 7)), some (.int x1), some (.int x2), none, none], [], SH, M, J, 0, 0)).symm.trans rfl
set_option maxRecDepth 20000 in
theorem e_Course_paidToFine_4 (s : Nat) (hs : s = 7 ∨ s = 21) (x1 : Int32) (x2 : Int32) (x3 : Int32) (x4 : Int32) (M : mMI) (J : mMJ) : k_Course_paidToFine_4 s x1 x2 x3 x4 M J = (if ((M s 1) : Int32) ≤ x4 then (rI x3 M J) else (if mIn ((((x2 * 6) + x4) * 6) + x1) 1440 then (k_Course_paidToFine_4 s x1 x2 (x3 + (M (s + 9) ((((x2 * 6) + x4) * 6) + x1).toNatClampNeg)) (x4 + 1) M J) else none)) := by
  rcases hs with rfl | rfl
  · exact (mDen_eq PG 300 (16, 4, [some (.ref (7 + 7)), some (.int x1), some (.int x2), some (.int x3), some (.int x4)], [], SH, M, J, 0, 0)).symm.trans rfl
  · exact (mDen_eq PG 300 (16, 4, [some (.ref (21 + 7)), some (.int x1), some (.int x2), some (.int x3), some (.int x4)], [], SH, M, J, 0, 0)).symm.trans rfl
set_option maxRecDepth 20000 in
theorem e_Course_paidBy (s : Nat) (hs : s = 7 ∨ s = 21) (x1 : Int32) (x2 : Int32) (M : mMI) (J : mMJ) : k_Course_paidBy s x1 x2 M J = (k_Course_paidBy_4 s x1 x2 0 0 M J) := by
  rcases hs with rfl | rfl
  · exact (mDen_eq PG 300 (17, 0, [some (.ref (7 + 7)), some (.int x1), some (.int x2), none, none], [], SH, M, J, 0, 0)).symm.trans rfl
  · exact (mDen_eq PG 300 (17, 0, [some (.ref (21 + 7)), some (.int x1), some (.int x2), none, none], [], SH, M, J, 0, 0)).symm.trans rfl
set_option maxRecDepth 20000 in
theorem e_Course_paidBy_4 (s : Nat) (hs : s = 7 ∨ s = 21) (x1 : Int32) (x2 : Int32) (x3 : Int32) (x4 : Int32) (M : mMI) (J : mMJ) : k_Course_paidBy_4 s x1 x2 x3 x4 M J = (if ((M s 1) : Int32) ≤ x4 then (rI x3 M J) else (if mIn ((((x2 * 6) + x1) * 6) + x4) 1440 then (k_Course_paidBy_4 s x1 x2 (x3 + (M (s + 9) ((((x2 * 6) + x1) * 6) + x4).toNatClampNeg)) (x4 + 1) M J) else none)) := by
  rcases hs with rfl | rfl
  · exact (mDen_eq PG 300 (17, 4, [some (.ref (7 + 7)), some (.int x1), some (.int x2), some (.int x3), some (.int x4)], [], SH, M, J, 0, 0)).symm.trans rfl
  · exact (mDen_eq PG 300 (17, 4, [some (.ref (21 + 7)), some (.int x1), some (.int x2), some (.int x3), some (.int x4)], [], SH, M, J, 0, 0)).symm.trans rfl
set_option maxRecDepth 20000 in
theorem e_Course_lookAt (s : Nat) (hs : s = 7 ∨ s = 21) (x1 : Int32) (x2 : Int32) (x3 : Int32) (M : mMI) (J : mMJ) : k_Course_lookAt s x1 x2 x3 M J = (k_Course_lookAt_8 s x1 x2 x3 0 (mUp (mUp M (s + 7) 7 0) (s + 7) 8 0) J) := by
  rcases hs with rfl | rfl
  · exact (mDen_eq PG 300 (18, 0, [some (.ref (7 + 7)), some (.int x1), some (.int x2), some (.int x3), none], [], SH, M, J, 0, 0)).symm.trans rfl
  · exact (mDen_eq PG 300 (18, 0, [some (.ref (21 + 7)), some (.int x1), some (.int x2), some (.int x3), none], [], SH, M, J, 0, 0)).symm.trans rfl
set_option maxRecDepth 20000 in
theorem e_Course_lookAt_8 (s : Nat) (hs : s = 7 ∨ s = 21) (x1 : Int32) (x2 : Int32) (x3 : Int32) (x4 : Int32) (M : mMI) (J : mMJ) : k_Course_lookAt_8 s x1 x2 x3 x4 M J = (if ((M s 1) : Int32) ≤ x4 then (mBI (k_Pot_meanOf (M (s + 7) 7) (M (s + 7) 8) M J) (fun v1 M1 J1 => (rV (mUp M1 (s + 7) 9 v1) J1))) else (if ¬ (x4 : Int32) = x2 then (if mIn ((x1 * 6) + x4) 240 then (if mIn x4 6 then (if mIn x4 6 then (if (((mUp M (s + 13) x4.toNatClampNeg (M (s + 8) ((x1 * 6) + x4).toNatClampNeg)) (s + 13) x4.toNatClampNeg) : Int32) = (-9) then (k_Course_lookAt_8 s x1 x2 x3 (x4 + 1) (mUp M (s + 13) x4.toNatClampNeg (M (s + 8) ((x1 * 6) + x4).toNatClampNeg)) J) else (if mIn x4 6 then (k_Course_lookAt_8 s x1 x2 x3 (x4 + 1) (mUp (mUp (mUp M (s + 13) x4.toNatClampNeg (M (s + 8) ((x1 * 6) + x4).toNatClampNeg)) (s + 7) 7 ((M (s + 7) 7) + ((mUp M (s + 13) x4.toNatClampNeg (M (s + 8) ((x1 * 6) + x4).toNatClampNeg)) (s + 13) x4.toNatClampNeg))) (s + 7) 8 ((M (s + 7) 8) + 1)) J) else none)) else none) else none) else none) else (if mIn x4 6 then (if mIn x4 6 then (if (((mUp M (s + 13) x4.toNatClampNeg x3) (s + 13) x4.toNatClampNeg) : Int32) = (-9) then (k_Course_lookAt_8 s x1 x2 x3 (x4 + 1) (mUp M (s + 13) x4.toNatClampNeg x3) J) else (if mIn x4 6 then (k_Course_lookAt_8 s x1 x2 x3 (x4 + 1) (mUp (mUp (mUp M (s + 13) x4.toNatClampNeg x3) (s + 7) 7 ((M (s + 7) 7) + ((mUp M (s + 13) x4.toNatClampNeg x3) (s + 13) x4.toNatClampNeg))) (s + 7) 8 ((M (s + 7) 8) + 1)) J) else none)) else none) else none))) := by
  rcases hs with rfl | rfl
  · exact (mDen_eq PG 300 (18, 8, [some (.ref (7 + 7)), some (.int x1), some (.int x2), some (.int x3), some (.int x4)], [], SH, M, J, 0, 0)).symm.trans rfl
  · exact (mDen_eq PG 300 (18, 8, [some (.ref (21 + 7)), some (.int x1), some (.int x2), some (.int x3), some (.int x4)], [], SH, M, J, 0, 0)).symm.trans rfl
set_option maxRecDepth 20000 in
theorem e_Course_payAll (s : Nat) (hs : s = 7 ∨ s = 21) (x1 : Int32) (M : mMI) (J : mMJ) : k_Course_payAll s x1 M J = (k_Course_payAll_2 s x1 0 M J) := by
  rcases hs with rfl | rfl
  · exact (mDen_eq PG 300 (19, 0, [some (.ref (7 + 7)), some (.int x1), none, none], [], SH, M, J, 0, 0)).symm.trans rfl
  · exact (mDen_eq PG 300 (19, 0, [some (.ref (21 + 7)), some (.int x1), none, none], [], SH, M, J, 0, 0)).symm.trans rfl
set_option maxRecDepth 20000 in
theorem e_Course_payAll_2 (s : Nat) (hs : s = 7 ∨ s = 21) (x1 : Int32) (x2 : Int32) (M : mMI) (J : mMJ) : k_Course_payAll_2 s x1 x2 M J = (if ((M s 1) : Int32) ≤ x2 then (rV M J) else (k_Course_payAll_9 s x1 x2 0 M J)) := by
  rcases hs with rfl | rfl
  · exact (mDen_eq PG 300 (19, 2, [some (.ref (7 + 7)), some (.int x1), some (.int x2), none], [], SH, M, J, 0, 0)).symm.trans rfl
  · exact (mDen_eq PG 300 (19, 2, [some (.ref (21 + 7)), some (.int x1), some (.int x2), none], [], SH, M, J, 0, 0)).symm.trans rfl
set_option maxRecDepth 20000 in
theorem e_Course_payAll_9 (s : Nat) (hs : s = 7 ∨ s = 21) (x1 : Int32) (x2 : Int32) (x3 : Int32) (M : mMI) (J : mMJ) : k_Course_payAll_9 s x1 x2 x3 M J = (if ((M s 1) : Int32) ≤ x3 then (k_Course_payAll_2 s x1 (x2 + 1) M J) else (mBI (k_Course_dueFrom s x2 x3 x1 M J) (fun v1 M1 J1 => (if mIn ((((x1 * 6) + x2) * 6) + x3) 1440 then (k_Course_payAll_9 s x1 x2 (x3 + 1) (mUp M1 (s + 9) ((((x1 * 6) + x2) * 6) + x3).toNatClampNeg v1) J1) else none)))) := by
  rcases hs with rfl | rfl
  · exact (mDen_eq PG 300 (19, 9, [some (.ref (7 + 7)), some (.int x1), some (.int x2), some (.int x3)], [], SH, M, J, 0, 0)).symm.trans rfl
  · exact (mDen_eq PG 300 (19, 9, [some (.ref (21 + 7)), some (.int x1), some (.int x2), some (.int x3)], [], SH, M, J, 0, 0)).symm.trans rfl
set_option maxRecDepth 20000 in
theorem e_Course_settleAll (s : Nat) (hs : s = 7 ∨ s = 21) (x1 : Int32) (M : mMI) (J : mMJ) : k_Course_settleAll s x1 M J = (k_Course_settleAll_2 s x1 0 M J) := by
  rcases hs with rfl | rfl
  · exact (mDen_eq PG 300 (20, 0, [some (.ref (7 + 7)), some (.int x1), none, none, none, none, none], [], SH, M, J, 0, 0)).symm.trans rfl
  · exact (mDen_eq PG 300 (20, 0, [some (.ref (21 + 7)), some (.int x1), none, none, none, none, none], [], SH, M, J, 0, 0)).symm.trans rfl
set_option maxRecDepth 20000 in
theorem e_Course_settleAll_2 (s : Nat) (hs : s = 7 ∨ s = 21) (x1 : Int32) (x2 : Int32) (M : mMI) (J : mMJ) : k_Course_settleAll_2 s x1 x2 M J = (if ((M s 1) : Int32) ≤ x2 then (rV M J) else (if mIn x2 6 then (if ((M (s + 13) x2.toNatClampNeg) : Int32) = (-9) then (if (x1 : Int32) ≤ 0 then (k_Course_settleAll_57 s x1 x2 ((x1 * 6) + x2) 0 ((x1 * 6) + x2) 0 0 M J) else (if mIn (((x1 - 1) * 6) + x2) 240 then (k_Course_settleAll_57 s x1 x2 ((x1 * 6) + x2) 0 ((x1 * 6) + x2) 0 (J (s + 11) (((x1 - 1) * 6) + x2).toNatClampNeg) M J) else none)) else (mBI (k_Course_paidBy s x2 x1 M J) (fun v1 M1 J1 => (mBI (k_Course_paidToFine s x2 x1 M1 J1) (fun v2 M2 J2 => (mBI (k_Course_lossBetween s v1 v2 M2 J2) (fun v3 M3 J3 => (mBJ (k_Course_gotFromPot s x2 M3 J3) (fun v4 M4 J4 => (if (x1 : Int32) ≤ 0 then (k_Course_settleAll_57 s x1 x2 ((x1 * 6) + x2) v3 ((x1 * 6) + x2) (v4 - (600 * v3.toInt64)) 0 M4 J4) else (if mIn (((x1 - 1) * 6) + x2) 240 then (k_Course_settleAll_57 s x1 x2 ((x1 * 6) + x2) v3 ((x1 * 6) + x2) (v4 - (600 * v3.toInt64)) (J4 (s + 11) (((x1 - 1) * 6) + x2).toNatClampNeg) M4 J4) else none))))))))))) else none)) := by
  rcases hs with rfl | rfl
  · exact (mDen_eq PG 300 (20, 2, [some (.ref (7 + 7)), some (.int x1), some (.int x2), none, none, none, none], [], SH, M, J, 0, 0)).symm.trans rfl
  · exact (mDen_eq PG 300 (20, 2, [some (.ref (21 + 7)), some (.int x1), some (.int x2), none, none, none, none], [], SH, M, J, 0, 0)).symm.trans rfl
set_option maxRecDepth 20000 in
theorem e_Course_settleAll_57 (s : Nat) (hs : s = 7 ∨ s = 21) (x1 : Int32) (x2 : Int32) (x3 : Int32) (x6 : Int32) (y1 : Int32) (y2 : Int64) (y3 : Int64) (M : mMI) (J : mMJ) : k_Course_settleAll_57 s x1 x2 x3 x6 y1 y2 y3 M J = (if mIn y1 240 then (if (x1 : Int32) ≤ 0 then (k_Course_settleAll_75 s x1 x2 x3 x6 0 M (mUpJ J (s + 11) y1.toNatClampNeg (y2 + y3))) else (if mIn (((x1 - 1) * 6) + x2) 240 then (k_Course_settleAll_75 s x1 x2 x3 x6 (M (s + 10) (((x1 - 1) * 6) + x2).toNatClampNeg) M (mUpJ J (s + 11) y1.toNatClampNeg (y2 + y3))) else none)) else none) := by
  rcases hs with rfl | rfl
  · exact (mDen_eq PG 300 (20, 57, [some (.ref (7 + 7)), some (.int x1), some (.int x2), some (.int x3), none, none, some (.int x6)], [(.long y3), (.long y2), (.int y1), (.ref (7 + 11))], SH, M, J, 0, 0)).symm.trans rfl
  · exact (mDen_eq PG 300 (20, 57, [some (.ref (21 + 7)), some (.int x1), some (.int x2), some (.int x3), none, none, some (.int x6)], [(.long y3), (.long y2), (.int y1), (.ref (21 + 11))], SH, M, J, 0, 0)).symm.trans rfl
set_option maxRecDepth 20000 in
theorem e_Course_settleAll_75 (s : Nat) (hs : s = 7 ∨ s = 21) (x1 : Int32) (x2 : Int32) (y1 : Int32) (y2 : Int32) (y3 : Int32) (M : mMI) (J : mMJ) : k_Course_settleAll_75 s x1 x2 y1 y2 y3 M J = (if mIn y1 240 then (k_Course_settleAll_2 s x1 (x2 + 1) (mUp M (s + 10) y1.toNatClampNeg (y2 + y3)) J) else none) := by
  rcases hs with rfl | rfl
  · exact (mDen_eq PG 300 (20, 75, [some (.ref (7 + 7)), some (.int x1), some (.int x2), none, none, none, none], [(.int y3), (.int y2), (.int y1), (.ref (7 + 10))], SH, M, J, 0, 0)).symm.trans rfl
  · exact (mDen_eq PG 300 (20, 75, [some (.ref (21 + 7)), some (.int x1), some (.int x2), none, none, none, none], [(.int y3), (.int y2), (.int y1), (.ref (21 + 10))], SH, M, J, 0, 0)).symm.trans rfl
set_option maxRecDepth 20000 in
theorem e_Course_lossBetween (s : Nat) (hs : s = 7 ∨ s = 21) (x1 : Int32) (x2 : Int32) (M : mMI) (J : mMJ) : k_Course_lossBetween s x1 x2 M J = (if mIn 3 4 then (if mIn 2 4 then (rI (((M (s + 1) (3 : Int32).toNatClampNeg) * x1) + ((M (s + 1) (2 : Int32).toNatClampNeg) * x2)) M J) else none) else none) := by
  rcases hs with rfl | rfl
  · exact (mDen_eq PG 300 (21, 0, [some (.ref (7 + 7)), some (.int x1), some (.int x2)], [], SH, M, J, 0, 0)).symm.trans rfl
  · exact (mDen_eq PG 300 (21, 0, [some (.ref (21 + 7)), some (.int x1), some (.int x2)], [], SH, M, J, 0, 0)).symm.trans rfl
set_option maxRecDepth 20000 in
theorem e_Course_gotFromPot (s : Nat) (hs : s = 7 ∨ s = 21) (x1 : Int32) (M : mMI) (J : mMJ) : k_Course_gotFromPot s x1 M J = (if mIn 0 4 then (if mIn x1 6 then (if mIn 1 4 then (mBI (k_Pot_meanOf (((M (s + 7) 7) * (M (s + 1) (1 : Int32).toNatClampNeg)) * 60) (M (s + 7) 8) M J) (fun v1 M1 J1 => (rJ ((600 * (((M (s + 1) (0 : Int32).toNatClampNeg) - (M (s + 13) x1.toNatClampNeg)).toInt64)) + v1.toInt64) M1 J1))) else none) else none) else none) := by
  rcases hs with rfl | rfl
  · exact (mDen_eq PG 300 (22, 0, [some (.ref (7 + 7)), some (.int x1), none, none], [], SH, M, J, 0, 0)).symm.trans rfl
  · exact (mDen_eq PG 300 (22, 0, [some (.ref (21 + 7)), some (.int x1), none, none], [], SH, M, J, 0, 0)).symm.trans rfl
set_option maxRecDepth 20000 in
theorem e_Course_dueFrom (s : Nat) (hs : s = 7 ∨ s = 21) (x1 : Int32) (x2 : Int32) (x3 : Int32) (M : mMI) (J : mMJ) : k_Course_dueFrom s x1 x2 x3 M J = (if mIn 2 4 then (if ((M (s + 1) (2 : Int32).toNatClampNeg) : Int32) ≤ 0 then (k_Course_dueFrom_21 s M J) else (if (x1 : Int32) = x2 then (k_Course_dueFrom_21 s M J) else (if mIn x1 6 then (if ((M (s + 13) x1.toNatClampNeg) : Int32) = (-9) then (k_Course_dueFrom_21 s M J) else (if mIn x2 6 then (if ¬ ((M (s + 13) x2.toNatClampNeg) : Int32) = (-9) then (if mIn x1 6 then (if (M (s + 2) x1.toNatClampNeg) = nI 3 then (if mIn x2 6 then (mBI (k_Course_byAnger s x1 ((M (s + 7) 9) - (M (s + 13) x2.toNatClampNeg)) M J) (fun v3 M3 J3 => (rI v3 M3 J3))) else none) else (if (M (s + 2) x1.toNatClampNeg) = nI 4 then (mBI (k_Course_greatestBeside s x1 M J) (fun v1 M1 J1 => (if ¬ (x2 : Int32) = v1 then (k_Course_dueFrom_57 s 0 M1 J1) else (if mIn x2 6 then (mBI (k_Course_byAnger s x1 ((M1 (s + 13) x2.toNatClampNeg) - (M1 (s + 7) 9)) M1 J1) (fun v2 M2 J2 => (k_Course_dueFrom_57 s v2 M2 J2))) else none)))) else (if (M (s + 2) x1.toNatClampNeg) = nI 5 then (if (x3 : Int32) ≤ 0 then (k_Course_dueFrom_71 s x1 x2 0 M J) else (if mIn (((((x3 - 1) * 6) + x2) * 6) + x1) 1440 then (k_Course_dueFrom_71 s x1 x2 (M (s + 9) (((((x3 - 1) * 6) + x2) * 6) + x1).toNatClampNeg) M J) else none)) else (rI 0 M J)))) else none) else (k_Course_dueFrom_21 s M J)) else none)) else none))) else none) := by
  rcases hs with rfl | rfl
  · exact (mDen_eq PG 300 (23, 0, [some (.ref (7 + 7)), some (.int x1), some (.int x2), some (.int x3), none], [], SH, M, J, 0, 0)).symm.trans rfl
  · exact (mDen_eq PG 300 (23, 0, [some (.ref (21 + 7)), some (.int x1), some (.int x2), some (.int x3), none], [], SH, M, J, 0, 0)).symm.trans rfl
set_option maxRecDepth 20000 in
theorem e_Course_dueFrom_21 (s : Nat) (hs : s = 7 ∨ s = 21)  (M : mMI) (J : mMJ) : k_Course_dueFrom_21 s M J = (rI 0 M J) := by
  rcases hs with rfl | rfl
  · exact (mDen_eq PG 300 (23, 21, [none, none, none, none, none], [], SH, M, J, 0, 0)).symm.trans rfl
  · exact (mDen_eq PG 300 (23, 21, [none, none, none, none, none], [], SH, M, J, 0, 0)).symm.trans rfl
set_option maxRecDepth 20000 in
theorem e_Course_dueFrom_71 (s : Nat) (hs : s = 7 ∨ s = 21) (x1 : Int32) (x2 : Int32) (y0 : Int32) (M : mMI) (J : mMJ) : k_Course_dueFrom_71 s x1 x2 y0 M J = (if mIn x2 6 then (mBI (k_Course_byAnger s x1 ((M (s + 7) 9) - (M (s + 13) x2.toNatClampNeg)) M J) (fun v4 M4 J4 => (rI (mMx 1 9 (v4 + y0)) M4 J4))) else none) := by
  rcases hs with rfl | rfl
  · exact (mDen_eq PG 300 (23, 71, [some (.ref (7 + 7)), some (.int x1), some (.int x2), none, none], [(.int y0)], SH, M, J, 0, 0)).symm.trans rfl
  · exact (mDen_eq PG 300 (23, 71, [some (.ref (21 + 7)), some (.int x1), some (.int x2), none, none], [(.int y0)], SH, M, J, 0, 0)).symm.trans rfl
set_option maxRecDepth 20000 in
theorem e_Course_dueFrom_57 (s : Nat) (hs : s = 7 ∨ s = 21) (y0 : Int32) (M : mMI) (J : mMJ) : k_Course_dueFrom_57 s y0 M J = (rI y0 M J) := by
  rcases hs with rfl | rfl
  · exact (mDen_eq PG 300 (23, 57, [none, none, none, none, none], [(.int y0)], SH, M, J, 0, 0)).symm.trans rfl
  · exact (mDen_eq PG 300 (23, 57, [none, none, none, none, none], [(.int y0)], SH, M, J, 0, 0)).symm.trans rfl
set_option maxRecDepth 20000 in
theorem e_Course_byAnger (s : Nat) (hs : s = 7 ∨ s = 21) (x1 : Int32) (x2 : Int32) (M : mMI) (J : mMJ) : k_Course_byAnger s x1 x2 M J = (if (x2 : Int32) ≤ 0 then (rI 0 M J) else (if mIn x1 6 then (if ¬ (9 : Int32) = 0 then (rI (mMx 1 9 ((x2 * (M (s + 4) x1.toNatClampNeg)) / 9)) M J) else none) else none)) := by
  rcases hs with rfl | rfl
  · exact (mDen_eq PG 300 (24, 0, [some (.ref (7 + 7)), some (.int x1), some (.int x2)], [], SH, M, J, 0, 0)).symm.trans rfl
  · exact (mDen_eq PG 300 (24, 0, [some (.ref (21 + 7)), some (.int x1), some (.int x2)], [], SH, M, J, 0, 0)).symm.trans rfl
set_option maxRecDepth 20000 in
theorem e_Course_greatestBeside (s : Nat) (hs : s = 7 ∨ s = 21) (x1 : Int32) (M : mMI) (J : mMJ) : k_Course_greatestBeside s x1 M J = (k_Course_greatestBeside_4 s x1 (-9) 0 M J) := by
  rcases hs with rfl | rfl
  · exact (mDen_eq PG 300 (25, 0, [some (.ref (7 + 7)), some (.int x1), none, none], [], SH, M, J, 0, 0)).symm.trans rfl
  · exact (mDen_eq PG 300 (25, 0, [some (.ref (21 + 7)), some (.int x1), none, none], [], SH, M, J, 0, 0)).symm.trans rfl
set_option maxRecDepth 20000 in
theorem e_Course_greatestBeside_4 (s : Nat) (hs : s = 7 ∨ s = 21) (x1 : Int32) (x2 : Int32) (x3 : Int32) (M : mMI) (J : mMJ) : k_Course_greatestBeside_4 s x1 x2 x3 M J = (if ((M s 1) : Int32) ≤ x3 then (rI x2 M J) else (if (x3 : Int32) = x1 then (k_Course_greatestBeside_4 s x1 x2 (x3 + 1) M J) else (if mIn x3 6 then (if ((M (s + 13) x3.toNatClampNeg) : Int32) = (-9) then (k_Course_greatestBeside_4 s x1 x2 (x3 + 1) M J) else (if (x2 : Int32) = (-9) then (k_Course_greatestBeside_4 s x1 x3 (x3 + 1) M J) else (if mIn x3 6 then (if mIn x2 6 then (if ((M (s + 13) x3.toNatClampNeg) : Int32) ≤ (M (s + 13) x2.toNatClampNeg) then (k_Course_greatestBeside_4 s x1 x2 (x3 + 1) M J) else (k_Course_greatestBeside_4 s x1 x3 (x3 + 1) M J)) else none) else none))) else none))) := by
  rcases hs with rfl | rfl
  · exact (mDen_eq PG 300 (25, 4, [some (.ref (7 + 7)), some (.int x1), some (.int x2), some (.int x3)], [], SH, M, J, 0, 0)).symm.trans rfl
  · exact (mDen_eq PG 300 (25, 4, [some (.ref (21 + 7)), some (.int x1), some (.int x2), some (.int x3)], [], SH, M, J, 0, 0)).symm.trans rfl
set_option maxRecDepth 20000 in
theorem e_Kept_fillFrom (k : Nat) (hk : k = 38 ∨ k = 42)  (M : mMI) (J : mMJ) : k_Kept_fillFrom k M J = (if ((0 : Int32) = 0 ∧ (0 : Int32) = 0) ∧ mIn (Int32.ofNat 240) (240 + 1) ∧ mIn (Int32.ofNat 240) (240 + 1) then (if ((0 : Int32) = 0 ∧ (0 : Int32) = 0) ∧ mIn (Int32.ofNat 6) (6 + 1) ∧ mIn (Int32.ofNat 6) (6 + 1) then (if ((0 : Int32) = 0 ∧ (0 : Int32) = 0) ∧ mIn (Int32.ofNat 48) (48 + 1) ∧ mIn (Int32.ofNat 48) (48 + 1) then (rV (mUp (mSet (mSet (mSet M (k + 1) (va_cpy (M 12) (M (k + 1)) 0 0 (Int32.ofNat 240).toNatClampNeg)) (k + 2) (va_cpy (M 13) (M (k + 2)) 0 0 (Int32.ofNat 6).toNatClampNeg)) (k + 3) (va_cpy (M 36) (M (k + 3)) 0 0 (Int32.ofNat 48).toNatClampNeg)) k 0 1) J) else none) else none) else none) := by
  rcases hk with rfl | rfl
  · exact (mDen_eq PG 300 (28, 0, [some (.ref 38), some (.ref 7), some (.ref 35)], [], SH, M, J, 0, 0)).symm.trans rfl
  · exact (mDen_eq PG 300 (28, 0, [some (.ref 42), some (.ref 7), some (.ref 35)], [], SH, M, J, 0, 0)).symm.trans rfl
set_option maxRecDepth 20000 in
theorem e_Kept_giveBack (k : Nat) (hk : k = 38 ∨ k = 42)  (M : mMI) (J : mMJ) : k_Kept_giveBack k M J = (if ((0 : Int32) = 0 ∧ (0 : Int32) = 0) ∧ mIn (Int32.ofNat 240) (240 + 1) ∧ mIn (Int32.ofNat 240) (240 + 1) then (if ((0 : Int32) = 0 ∧ (0 : Int32) = 0) ∧ mIn (Int32.ofNat 6) (6 + 1) ∧ mIn (Int32.ofNat 6) (6 + 1) then (if ((0 : Int32) = 0 ∧ (0 : Int32) = 0) ∧ mIn (Int32.ofNat 48) (48 + 1) ∧ mIn (Int32.ofNat 48) (48 + 1) then (rV (mSet (mSet (mSet M 12 (va_cpy (M (k + 1)) (M 12) 0 0 (Int32.ofNat 240).toNatClampNeg)) 13 (va_cpy (M (k + 2)) (M 13) 0 0 (Int32.ofNat 6).toNatClampNeg)) 36 (va_cpy (M (k + 3)) (M 36) 0 0 (Int32.ofNat 48).toNatClampNeg)) J) else none) else none) else none) := by
  rcases hk with rfl | rfl
  · exact (mDen_eq PG 300 (29, 0, [some (.ref 38), some (.ref 7), some (.ref 35)], [], SH, M, J, 0, 0)).symm.trans rfl
  · exact (mDen_eq PG 300 (29, 0, [some (.ref 42), some (.ref 7), some (.ref 35)], [], SH, M, J, 0, 0)).symm.trans rfl
set_option maxRecDepth 20000 in
theorem e_Setup_takeRuleText  (M : mMI) (J : mMJ) : k_Setup_takeRuleText M J = (if ((0 : Int32) = 0 ∧ (0 : Int32) = 0) ∧ mIn 4 (4 + 1) ∧ mIn 4 (4 + 1) then (k_Setup_takeRuleText_9 0 (mSet M 8 (va_cpy (M 1004) (M 8) 0 0 (4 : Int32).toNatClampNeg)) J) else none) := (mDen_eq PG 300 (31, 0, [some (.ref 7), some (.ref 1), none], [], SH, M, J, 0, 0)).symm.trans rfl
set_option maxRecDepth 20000 in
theorem e_Setup_takeRuleText_9 (x2 : Int32) (M : mMI) (J : mMJ) : k_Setup_takeRuleText_9 x2 M J = (if ((M 1 4) : Int32) ≤ x2 then (rV M J) else (if mIn x2 6 then (if mIn x2 6 then (if mIn (M 3 x2.toNatClampNeg) 4 then (k_Setup_takeRuleText_9 (x2 + 1) (mUp M 8 (M 3 x2.toNatClampNeg).toNatClampNeg (M 4 x2.toNatClampNeg)) J) else none) else none) else none)) := (mDen_eq PG 300 (31, 9, [some (.ref 7), some (.ref 1), some (.int x2)], [], SH, M, J, 0, 0)).symm.trans rfl
set_option maxRecDepth 20000 in
theorem e_Setup_takeGroupText  (M : mMI) (J : mMJ) : k_Setup_takeGroupText M J = (k_Setup_takeGroupText_6 0 (mUp M 7 1 (M 1 4)) J) := (mDen_eq PG 300 (32, 0, [some (.ref 7), some (.ref 1), none, none, none], [], SH, M, J, 0, 0)).symm.trans rfl
set_option maxRecDepth 20000 in
theorem e_Setup_takeGroupText_6 (x2 : Int32) (M : mMI) (J : mMJ) : k_Setup_takeGroupText_6 x2 M J = (if ((M 7 1) : Int32) ≤ x2 then (rV M J) else (if mIn x2 6 then (if mIn x2 6 then (if mIn x2 6 then (if mIn x2 6 then (mBI (k_Setup_canBeAngry ((mUp M 9 x2.toNatClampNeg (M 3 x2.toNatClampNeg)) 9 x2.toNatClampNeg) (mUp M 9 x2.toNatClampNeg (M 3 x2.toNatClampNeg)) J) (fun v1 M1 J1 => (if (v1 : Int32) = 0 then (if mIn x2 6 then (if (v1 : Int32) = 0 then (if mIn x2 6 then (k_Setup_takeGroupText_6 (x2 + 1) (mUp (mUp M1 10 x2.toNatClampNeg (M 4 x2.toNatClampNeg)) 11 x2.toNatClampNeg 0) J1) else none) else (if ¬ (10 : Int32) = 0 then (if mIn x2 6 then (k_Setup_takeGroupText_6 (x2 + 1) (mUp (mUp M1 10 x2.toNatClampNeg (M 4 x2.toNatClampNeg)) 11 x2.toNatClampNeg ((M 4 x2.toNatClampNeg) - (M 4 x2.toNatClampNeg) / 10 * 10)) J1) else none) else none)) else none) else (if ¬ (10 : Int32) = 0 then (if mIn x2 6 then (if (v1 : Int32) = 0 then (if mIn x2 6 then (k_Setup_takeGroupText_6 (x2 + 1) (mUp (mUp M1 10 x2.toNatClampNeg ((M 4 x2.toNatClampNeg) / 10)) 11 x2.toNatClampNeg 0) J1) else none) else (if ¬ (10 : Int32) = 0 then (if mIn x2 6 then (k_Setup_takeGroupText_6 (x2 + 1) (mUp (mUp M1 10 x2.toNatClampNeg ((M 4 x2.toNatClampNeg) / 10)) 11 x2.toNatClampNeg ((M 4 x2.toNatClampNeg) - (M 4 x2.toNatClampNeg) / 10 * 10)) J1) else none) else none)) else none) else none)))) else none) else none) else none) else none)) := (mDen_eq PG 300 (32, 6, [some (.ref 7), some (.ref 1), some (.int x2), none, none], [], SH, M, J, 0, 0)).symm.trans rfl
set_option maxRecDepth 20000 in
theorem e_Setup_canBeAngry (x0 : Int32) (M : mMI) (J : mMJ) : k_Setup_canBeAngry x0 M J = (if (x0 : Int32) = 3 then (rZ 1 M J) else (if (x0 : Int32) = 4 then (rZ 1 M J) else (if ¬ (x0 : Int32) = 5 then (rZ 0 M J) else (rZ 1 M J)))) := (mDen_eq PG 300 (33, 0, [some (.int x0)], [], SH, M, J, 0, 0)).symm.trans rfl
set_option maxRecDepth 20000 in
theorem e_Setup_untell (s : Nat) (hs : s = 7 ∨ s = 21)  (M : mMI) (J : mMJ) : k_Setup_untell s M J = (mBR (k_Arrays_fill_T s (-9) M J) 0 (fun M1 J1 => (mBR (k_Arrays_fill_O s 40 M1 J1) 0 (fun M2 J2 => (rV M2 J2))))) := by
  rcases hs with rfl | rfl
  · exact (mDen_eq PG 300 (34, 0, [some (.ref 7)], [], SH, M, J, 0, 0)).symm.trans rfl
  · exact (mDen_eq PG 300 (34, 0, [some (.ref 21)], [], SH, M, J, 0, 0)).symm.trans rfl
set_option maxRecDepth 20000 in
theorem e_Setup_takeFrom  (M : mMI) (J : mMJ) : k_Setup_takeFrom M J = (if ((0 : Int32) = 0 ∧ (0 : Int32) = 0) ∧ mIn 4 (4 + 1) ∧ mIn 4 (4 + 1) then (if ((0 : Int32) = 0 ∧ (0 : Int32) = 0) ∧ mIn 6 (6 + 1) ∧ mIn 6 (6 + 1) then (if ((0 : Int32) = 0 ∧ (0 : Int32) = 0) ∧ mIn 6 (6 + 1) ∧ mIn 6 (6 + 1) then (if ((0 : Int32) = 0 ∧ (0 : Int32) = 0) ∧ mIn 6 (6 + 1) ∧ mIn 6 (6 + 1) then (if ((0 : Int32) = 0 ∧ (0 : Int32) = 0) ∧ mIn (Int32.ofNat 240) (240 + 1) ∧ mIn (Int32.ofNat 240) (240 + 1) then (if ((0 : Int32) = 0 ∧ (0 : Int32) = 0) ∧ mIn 6 (6 + 1) ∧ mIn 6 (6 + 1) then (rV (mUp (mSet (mSet (mSet (mSet (mSet (mSet M 22 (va_cpy (M 8) (M 22) 0 0 (4 : Int32).toNatClampNeg)) 23 (va_cpy (M 9) (M 23) 0 0 (6 : Int32).toNatClampNeg)) 24 (va_cpy (M 10) (M 24) 0 0 (6 : Int32).toNatClampNeg)) 25 (va_cpy (M 11) (M 25) 0 0 (6 : Int32).toNatClampNeg)) 26 (va_cpy (M 12) (M 26) 0 0 (Int32.ofNat 240).toNatClampNeg)) 27 (va_cpy (M 13) (M 27) 0 0 (6 : Int32).toNatClampNeg)) 21 1 (M 7 1)) J) else none) else none) else none) else none) else none) else none) := (mDen_eq PG 300 (35, 0, [some (.ref 21), some (.ref 7)], [], SH, M, J, 0, 0)).symm.trans rfl
set_option maxRecDepth 20000 in
theorem e_Setup_takeSome (x2 : Int32) (M : mMI) (J : mMJ) : k_Setup_takeSome x2 M J = (if ((0 : Int32) = 0 ∧ (0 : Int32) = 0) ∧ mIn 4 (4 + 1) ∧ mIn 4 (4 + 1) then (mBR (k_Setup_untell 21 (mSet M 22 (va_cpy (M 8) (M 22) 0 0 (4 : Int32).toNatClampNeg)) J) 0 (fun M1 J1 => (k_Setup_takeSome_15 x2 0 (mUp M1 21 1 0) J1))) else none) := (mDen_eq PG 300 (36, 0, [some (.ref 21), some (.ref 7), some (.int x2), none], [], SH, M, J, 0, 0)).symm.trans rfl
set_option maxRecDepth 20000 in
theorem e_Setup_takeSome_15 (x2 : Int32) (x3 : Int32) (M : mMI) (J : mMJ) : k_Setup_takeSome_15 x2 x3 M J = (if ((M 7 1) : Int32) ≤ x3 then (rV M J) else (if ¬ (((x2 >>> (x3 &&& 31)) &&& 1) : Int32) = 1 then (k_Setup_takeSome_15 x2 (x3 + 1) M J) else (if mIn x3 6 then (if mIn (M 21 1) 6 then (if mIn x3 6 then (if mIn (M 21 1) 6 then (if mIn x3 6 then (if mIn (M 21 1) 6 then (k_Setup_takeSome_15 x2 (x3 + 1) (mUp (mUp (mUp (mUp M 23 (M 21 1).toNatClampNeg (M 9 x3.toNatClampNeg)) 24 (M 21 1).toNatClampNeg (M 10 x3.toNatClampNeg)) 25 (M 21 1).toNatClampNeg (M 11 x3.toNatClampNeg)) 21 1 ((M 21 1) + 1)) J) else none) else none) else none) else none) else none) else none))) := (mDen_eq PG 300 (36, 15, [some (.ref 21), some (.ref 7), some (.int x2), some (.int x3)], [], SH, M, J, 0, 0)).symm.trans rfl
set_option maxRecDepth 20000 in
theorem e_Setup_isIn (s : Nat) (hs : s = 7 ∨ s = 21) (x1 : Int32) (x2 : Int32) (M : mMI) (J : mMJ) : k_Setup_isIn s x1 x2 M J = (if mIn x1 6 then (if ((M (s + 6) x1.toNatClampNeg) : Int32) ≤ x2 then (rZ 0 M J) else (rZ 1 M J)) else none) := by
  rcases hs with rfl | rfl
  · exact (mDen_eq PG 300 (37, 0, [some (.ref 7), some (.int x1), some (.int x2)], [], SH, M, J, 0, 0)).symm.trans rfl
  · exact (mDen_eq PG 300 (37, 0, [some (.ref 21), some (.int x1), some (.int x2)], [], SH, M, J, 0, 0)).symm.trans rfl
set_option maxRecDepth 20000 in
theorem e_Setup_countIn (s : Nat) (hs : s = 7 ∨ s = 21) (x1 : Int32) (M : mMI) (J : mMJ) : k_Setup_countIn s x1 M J = (k_Setup_countIn_4 s x1 0 0 M J) := by
  rcases hs with rfl | rfl
  · exact (mDen_eq PG 300 (38, 0, [some (.ref 7), some (.int x1), none, none], [], SH, M, J, 0, 0)).symm.trans rfl
  · exact (mDen_eq PG 300 (38, 0, [some (.ref 21), some (.int x1), none, none], [], SH, M, J, 0, 0)).symm.trans rfl
set_option maxRecDepth 20000 in
theorem e_Setup_countIn_4 (s : Nat) (hs : s = 7 ∨ s = 21) (x1 : Int32) (x2 : Int32) (x3 : Int32) (M : mMI) (J : mMJ) : k_Setup_countIn_4 s x1 x2 x3 M J = (if ((M s 1) : Int32) ≤ x3 then (rI x2 M J) else (mBI (k_Setup_isIn s x3 x1 M J) (fun v1 M1 J1 => (if (v1 : Int32) = 0 then (k_Setup_countIn_4 s x1 x2 (x3 + 1) M1 J1) else (k_Setup_countIn_4 s x1 (x2 + 1) (x3 + 1) M1 J1))))) := by
  rcases hs with rfl | rfl
  · exact (mDen_eq PG 300 (38, 4, [some (.ref 7), some (.int x1), some (.int x2), some (.int x3)], [], SH, M, J, 0, 0)).symm.trans rfl
  · exact (mDen_eq PG 300 (38, 4, [some (.ref 21), some (.int x1), some (.int x2), some (.int x3)], [], SH, M, J, 0, 0)).symm.trans rfl
set_option maxRecDepth 20000 in
theorem e_Setup_canSpare (s : Nat) (hs : s = 7 ∨ s = 21) (x1 : Int32) (M : mMI) (J : mMJ) : k_Setup_canSpare s x1 M J = (mBI (k_Setup_countIn s 39 M J) (fun v1 M1 J1 => (mBI (k_Setup_isIn s x1 39 M1 J1) (fun v2 M2 J2 => (if (v2 : Int32) = 0 then (if ((v1 - 0) : Int32) < 2 then (rZ 0 M2 J2) else (rZ 1 M2 J2)) else (if ((v1 - 1) : Int32) < 2 then (rZ 0 M2 J2) else (rZ 1 M2 J2))))))) := by
  rcases hs with rfl | rfl
  · exact (mDen_eq PG 300 (39, 0, [some (.ref 7), some (.int x1), none], [], SH, M, J, 0, 0)).symm.trans rfl
  · exact (mDen_eq PG 300 (39, 0, [some (.ref 21), some (.int x1), none], [], SH, M, J, 0, 0)).symm.trans rfl
set_option maxRecDepth 20000 in
theorem e_Text_append (x1 : Int32) (M : mMI) (J : mMJ) : k_Text_append x1 M J = (if (40 : Int32) ≤ (M 1 1) then (rV M J) else (if mIn (M 1 1) 40 then (rV (mUp (mUp M 2 (M 1 1).toNatClampNeg x1) 1 1 ((M 1 1) + 1)) J) else none)) := (mDen_eq PG 300 (41, 0, [some (.ref 1), some (.int x1)], [], SH, M, J, 0, 0)).symm.trans rfl
set_option maxRecDepth 20000 in
theorem e_Text_scan (g : Nat) (hg : g = 5 ∨ g = 6)  (M : mMI) (J : mMJ) : k_Text_scan g M J = (k_Text_scan_7 g 0 0 (mUp M 1 4 0) J) := by
  rcases hg with rfl | rfl
  · exact (mDen_eq PG 300 (42, 0, [some (.ref 1), some (.ref 5), none, none, none, none], [], SH, M, J, 0, 0)).symm.trans rfl
  · exact (mDen_eq PG 300 (42, 0, [some (.ref 1), some (.ref 6), none, none, none, none], [], SH, M, J, 0, 0)).symm.trans rfl
set_option maxRecDepth 20000 in
theorem e_Text_scan_7 (g : Nat) (hg : g = 5 ∨ g = 6) (x2 : Int32) (x3 : Int32) (M : mMI) (J : mMJ) : k_Text_scan_7 g x2 x3 M J = (if ((M g 6) : Int32) < x3 then (k_Text_scan_74 g M J) else (if ((M 1 1) : Int32) ≤ x2 then (k_Text_scan_74 g M J) else (if mIn x2 40 then (mBI (k_String_indexOf g (((M 2 x2.toNatClampNeg).toUInt32 % 65536).toInt32) M J) (fun v1 M1 J1 => (if (x3 : Int32) = (M1 g 6) then (k_Text_scan_37 g x2 M1 J1) else (if (v1 : Int32) < 0 then (k_Text_scan_37 g x2 M1 J1) else (if ((M1 g 4) : Int32) = 0 then (k_Text_scan_39 g x2 x3 v1 M1 J1) else (mBI (k_Text_wasFound v1 M1 J1) (fun v2 M2 J2 => (if (v2 : Int32) = 0 then (k_Text_scan_39 g x2 x3 v1 M2 J2) else (k_Text_scan_37 g x2 M2 J2))))))))) else none))) := by
  rcases hg with rfl | rfl
  · exact (mDen_eq PG 300 (42, 7, [some (.ref 1), some (.ref 5), some (.int x2), some (.int x3), none, none], [], SH, M, J, 0, 0)).symm.trans rfl
  · exact (mDen_eq PG 300 (42, 7, [some (.ref 1), some (.ref 6), some (.int x2), some (.int x3), none, none], [], SH, M, J, 0, 0)).symm.trans rfl
set_option maxRecDepth 20000 in
theorem e_Text_scan_74 (g : Nat) (hg : g = 5 ∨ g = 6)  (M : mMI) (J : mMJ) : k_Text_scan_74 g M J = (if ((M g 5) : Int32) ≤ (M 1 4) then (k_Text_scan_83 g (-9) M J) else (k_Text_scan_83 g (M 1 1) M J)) := by
  rcases hg with rfl | rfl
  · exact (mDen_eq PG 300 (42, 74, [some (.ref 1), some (.ref 5), none, none, none, none], [], SH, M, J, 0, 0)).symm.trans rfl
  · exact (mDen_eq PG 300 (42, 74, [some (.ref 1), some (.ref 6), none, none, none, none], [], SH, M, J, 0, 0)).symm.trans rfl
set_option maxRecDepth 20000 in
theorem e_Text_scan_37 (g : Nat) (hg : g = 5 ∨ g = 6) (x2 : Int32) (M : mMI) (J : mMJ) : k_Text_scan_37 g x2 M J = (rI x2 M J) := by
  rcases hg with rfl | rfl
  · exact (mDen_eq PG 300 (42, 37, [none, none, some (.int x2), none, none, none], [], SH, M, J, 0, 0)).symm.trans rfl
  · exact (mDen_eq PG 300 (42, 37, [none, none, some (.int x2), none, none, none], [], SH, M, J, 0, 0)).symm.trans rfl
set_option maxRecDepth 20000 in
theorem e_Text_scan_39 (g : Nat) (hg : g = 5 ∨ g = 6) (x2 : Int32) (x3 : Int32) (x4 : Int32) (M : mMI) (J : mMJ) : k_Text_scan_39 g x2 x3 x4 M J = (mBI (k_Text_scanNumber g x4 (x2 + 1) x3 M J) (fun v3 M3 J3 => (if (v3 : Int32) = (-9) then (if mIn x3 6 then (if mIn x4 (3 * g - 11) then (k_Text_scan_7 g (x2 + (1 + (M3 (1000 + 10 * g + 2) x4.toNatClampNeg))) (x3 + 1) (mUp (mUp M3 3 x3.toNatClampNeg x4) 1 4 (x3 + 1)) J3) else none) else none) else (rI v3 M3 J3)))) := by
  rcases hg with rfl | rfl
  · exact (mDen_eq PG 300 (42, 39, [some (.ref 1), some (.ref 5), some (.int x2), some (.int x3), some (.int x4), none], [], SH, M, J, 0, 0)).symm.trans rfl
  · exact (mDen_eq PG 300 (42, 39, [some (.ref 1), some (.ref 6), some (.int x2), some (.int x3), some (.int x4), none], [], SH, M, J, 0, 0)).symm.trans rfl
set_option maxRecDepth 20000 in
theorem e_Text_scan_83 (g : Nat) (hg : g = 5 ∨ g = 6) (y0 : Int32) (M : mMI) (J : mMJ) : k_Text_scan_83 g y0 M J = (rI y0 M J) := by
  rcases hg with rfl | rfl
  · exact (mDen_eq PG 300 (42, 83, [none, none, none, none, none, none], [(.int y0)], SH, M, J, 0, 0)).symm.trans rfl
  · exact (mDen_eq PG 300 (42, 83, [none, none, none, none, none, none], [(.int y0)], SH, M, J, 0, 0)).symm.trans rfl
set_option maxRecDepth 20000 in
theorem e_Text_wasFound (x1 : Int32) (M : mMI) (J : mMJ) : k_Text_wasFound x1 M J = (k_Text_wasFound_2 x1 0 M J) := (mDen_eq PG 300 (43, 0, [some (.ref 1), some (.int x1), none], [], SH, M, J, 0, 0)).symm.trans rfl
set_option maxRecDepth 20000 in
theorem e_Text_wasFound_2 (x1 : Int32) (x2 : Int32) (M : mMI) (J : mMJ) : k_Text_wasFound_2 x1 x2 M J = (if ((M 1 4) : Int32) ≤ x2 then (rZ 0 M J) else (if mIn x2 6 then (if ¬ ((M 3 x2.toNatClampNeg) : Int32) = x1 then (k_Text_wasFound_2 x1 (x2 + 1) M J) else (rZ 1 M J)) else none)) := (mDen_eq PG 300 (43, 2, [some (.ref 1), some (.int x1), some (.int x2)], [], SH, M, J, 0, 0)).symm.trans rfl
set_option maxRecDepth 20000 in
theorem e_Text_scanNumber (g : Nat) (hg : g = 5 ∨ g = 6) (x2 : Int32) (x3 : Int32) (x4 : Int32) (M : mMI) (J : mMJ) : k_Text_scanNumber g x2 x3 x4 M J = (if mIn x2 (3 * g - 11) then (k_Text_scanNumber_9 g x2 x3 x4 (M (1000 + 10 * g + 2) x2.toNatClampNeg) 0 0 M J) else none) := by
  rcases hg with rfl | rfl
  · exact (mDen_eq PG 300 (44, 0, [some (.ref 1), some (.ref 5), some (.int x2), some (.int x3), some (.int x4), none, none, none, none, none, none], [], SH, M, J, 0, 0)).symm.trans rfl
  · exact (mDen_eq PG 300 (44, 0, [some (.ref 1), some (.ref 6), some (.int x2), some (.int x3), some (.int x4), none, none, none, none, none, none], [], SH, M, J, 0, 0)).symm.trans rfl
set_option maxRecDepth 20000 in
theorem e_Text_scanNumber_9 (g : Nat) (hg : g = 5 ∨ g = 6) (x2 : Int32) (x3 : Int32) (x4 : Int32) (x5 : Int32) (x6 : Int32) (x7 : Int32) (M : mMI) (J : mMJ) : k_Text_scanNumber_9 g x2 x3 x4 x5 x6 x7 M J = (if (x5 : Int32) ≤ x7 then (if mIn x4 6 then (rI (-9) (mUp M 4 x4.toNatClampNeg x6) J) else none) else (if ((x3 + x7) : Int32) < (M 1 1) then (if mIn (x3 + x7) 40 then (if (((M 2 (x3 + x7).toNatClampNeg) - 48) : Int32) < 0 then (k_Text_scanNumber_35 g (x3 + x7) M J) else (if (((M 2 (x3 + x7).toNatClampNeg) - 48) : Int32) ≤ 9 then (if (x5 : Int32) ≤ (x7 + 1) then (k_Text_scanNumber_51 g x2 x3 x4 x5 ((x6 * 10) + ((M 2 (x3 + x7).toNatClampNeg) - 48)) x7 (x3 + x7) 1 M J) else (k_Text_scanNumber_51 g x2 x3 x4 x5 ((x6 * 10) + ((M 2 (x3 + x7).toNatClampNeg) - 48)) x7 (x3 + x7) 10 M J)) else (k_Text_scanNumber_35 g (x3 + x7) M J))) else none) else (rI (M 1 1) M J))) := by
  rcases hg with rfl | rfl
  · exact (mDen_eq PG 300 (44, 9, [some (.ref 1), some (.ref 5), some (.int x2), some (.int x3), some (.int x4), some (.int x5), some (.int x6), some (.int x7), none, none, none], [], SH, M, J, 0, 0)).symm.trans rfl
  · exact (mDen_eq PG 300 (44, 9, [some (.ref 1), some (.ref 6), some (.int x2), some (.int x3), some (.int x4), some (.int x5), some (.int x6), some (.int x7), none, none, none], [], SH, M, J, 0, 0)).symm.trans rfl
set_option maxRecDepth 20000 in
theorem e_Text_scanNumber_35 (g : Nat) (hg : g = 5 ∨ g = 6) (x8 : Int32) (M : mMI) (J : mMJ) : k_Text_scanNumber_35 g x8 M J = (rI x8 M J) := by
  rcases hg with rfl | rfl
  · exact (mDen_eq PG 300 (44, 35, [none, none, none, none, none, none, none, none, some (.int x8), none, none], [], SH, M, J, 0, 0)).symm.trans rfl
  · exact (mDen_eq PG 300 (44, 35, [none, none, none, none, none, none, none, none, some (.int x8), none, none], [], SH, M, J, 0, 0)).symm.trans rfl
set_option maxRecDepth 20000 in
theorem e_Text_scanNumber_51 (g : Nat) (hg : g = 5 ∨ g = 6) (x2 : Int32) (x3 : Int32) (x4 : Int32) (x5 : Int32) (x6 : Int32) (x7 : Int32) (x8 : Int32) (y0 : Int32) (M : mMI) (J : mMJ) : k_Text_scanNumber_51 g x2 x3 x4 x5 x6 x7 x8 y0 M J = (if mIn x2 (3 * g - 11) then (if ((M (1000 + 10 * g + 4) x2.toNatClampNeg) : Int32) < (x6 * y0) then (k_Text_scanNumber_72 g x8 M J) else (if mIn x2 (3 * g - 11) then (if ((M (1000 + 10 * g + 3) x2.toNatClampNeg) : Int32) ≤ (((x6 * y0) + y0) - 1) then (k_Text_scanNumber_9 g x2 x3 x4 x5 x6 (x7 + 1) M J) else (k_Text_scanNumber_72 g x8 M J)) else none)) else none) := by
  rcases hg with rfl | rfl
  · exact (mDen_eq PG 300 (44, 51, [some (.ref 1), some (.ref 5), some (.int x2), some (.int x3), some (.int x4), some (.int x5), some (.int x6), some (.int x7), some (.int x8), none, none], [(.int y0)], SH, M, J, 0, 0)).symm.trans rfl
  · exact (mDen_eq PG 300 (44, 51, [some (.ref 1), some (.ref 6), some (.int x2), some (.int x3), some (.int x4), some (.int x5), some (.int x6), some (.int x7), some (.int x8), none, none], [(.int y0)], SH, M, J, 0, 0)).symm.trans rfl
set_option maxRecDepth 20000 in
theorem e_Text_scanNumber_72 (g : Nat) (hg : g = 5 ∨ g = 6) (x8 : Int32) (M : mMI) (J : mMJ) : k_Text_scanNumber_72 g x8 M J = (rI x8 M J) := by
  rcases hg with rfl | rfl
  · exact (mDen_eq PG 300 (44, 72, [none, none, none, none, none, none, none, none, some (.int x8), none, none], [], SH, M, J, 0, 0)).symm.trans rfl
  · exact (mDen_eq PG 300 (44, 72, [none, none, none, none, none, none, none, none, some (.int x8), none, none], [], SH, M, J, 0, 0)).symm.trans rfl
set_option maxRecDepth 20000 in
theorem e_String_indexOf (g : Nat) (hg : g = 5 ∨ g = 6) (x1 : Int32) (M : mMI) (J : mMJ) : k_String_indexOf g x1 M J = (mBI (k_String_indexFrom g x1 0 M J) (fun v1 M1 J1 => (rI v1 M1 J1))) := by
  rcases hg with rfl | rfl
  · exact (mDen_eq PG 300 (187, 0, [some (.ref (1000 + 10 * 5)), some (.int x1)], [], SH, M, J, 0, 0)).symm.trans rfl
  · exact (mDen_eq PG 300 (187, 0, [some (.ref (1000 + 10 * 6)), some (.int x1)], [], SH, M, J, 0, 0)).symm.trans rfl
set_option maxRecDepth 20000 in
theorem e_String_indexFrom (g : Nat) (hg : g = 5 ∨ g = 6) (x1 : Int32) (x2 : Int32) (M : mMI) (J : mMJ) : k_String_indexFrom g x1 x2 M J = (mBI (k_String_isLatin1 g M J) (fun v1 M1 J1 => (if (v1 : Int32) = 0 then (mBI (k_String_length g M1 J1) (fun v2 M2 J2 => none)) else (mBI (k_String_length g M1 J1) (fun v3 M3 J3 => (mBI (k_Latin_indexOf g x1 x2 v3 M3 J3) (fun v4 M4 J4 => (rI v4 M4 J4)))))))) := by
  rcases hg with rfl | rfl
  · exact (mDen_eq PG 300 (188, 0, [some (.ref (1000 + 10 * 5)), some (.int x1), some (.int x2)], [], SH, M, J, 0, 0)).symm.trans rfl
  · exact (mDen_eq PG 300 (188, 0, [some (.ref (1000 + 10 * 6)), some (.int x1), some (.int x2)], [], SH, M, J, 0, 0)).symm.trans rfl
set_option maxRecDepth 20000 in
theorem e_String_isLatin1 (g : Nat) (hg : g = 5 ∨ g = 6)  (M : mMI) (J : mMJ) : k_String_isLatin1 g M J = (if (1 : Int32) = 0 then (rZ 0 M J) else (if ¬ (0 : Int32) = 0 then (rZ 0 M J) else (rZ 1 M J))) := by
  rcases hg with rfl | rfl
  · exact (mDen_eq PG 300 (189, 0, [some (.ref (1000 + 10 * 5))], [], SH, M, J, 0, 0)).symm.trans rfl
  · exact (mDen_eq PG 300 (189, 0, [some (.ref (1000 + 10 * 6))], [], SH, M, J, 0, 0)).symm.trans rfl
set_option maxRecDepth 20000 in
theorem e_String_length (g : Nat) (hg : g = 5 ∨ g = 6)  (M : mMI) (J : mMJ) : k_String_length g M J = (mBI (k_String_coder g M J) (fun v1 M1 J1 => (rI ((Int32.ofNat (3 * g - 11)) >>> (v1 &&& 31)) M1 J1))) := by
  rcases hg with rfl | rfl
  · exact (mDen_eq PG 300 (190, 0, [some (.ref (1000 + 10 * 5))], [], SH, M, J, 0, 0)).symm.trans rfl
  · exact (mDen_eq PG 300 (190, 0, [some (.ref (1000 + 10 * 6))], [], SH, M, J, 0, 0)).symm.trans rfl
set_option maxRecDepth 20000 in
theorem e_String_coder (g : Nat) (hg : g = 5 ∨ g = 6)  (M : mMI) (J : mMJ) : k_String_coder g M J = (if (1 : Int32) = 0 then (rB 1 M J) else (rB 0 M J)) := by
  rcases hg with rfl | rfl
  · exact (mDen_eq PG 300 (191, 0, [some (.ref (1000 + 10 * 5))], [], SH, M, J, 0, 0)).symm.trans rfl
  · exact (mDen_eq PG 300 (191, 0, [some (.ref (1000 + 10 * 6))], [], SH, M, J, 0, 0)).symm.trans rfl
set_option maxRecDepth 20000 in
theorem e_Latin_canEncode (x0 : Int32) (M : mMI) (J : mMJ) : k_Latin_canEncode x0 M J = (if (x0 : Int32) < 0 then (rZ 0 M J) else (if (255 : Int32) < x0 then (rZ 0 M J) else (rZ 1 M J))) := (mDen_eq PG 300 (192, 0, [some (.int x0)], [], SH, M, J, 0, 0)).symm.trans rfl
set_option maxRecDepth 20000 in
theorem e_Latin_indexOf (g : Nat) (hg : g = 5 ∨ g = 6) (x1 : Int32) (x2 : Int32) (x3 : Int32) (M : mMI) (J : mMJ) : k_Latin_indexOf g x1 x2 x3 M J = (mBI (k_Latin_canEncode x1 M J) (fun v1 M1 J1 => (if ¬ (v1 : Int32) = 0 then (if ((mMx 0 x2 0) : Int32) < (mMx 1 x3 (Int32.ofNat (3 * g - 11))) then (mBI (k_Latin_indexOfChar g x1 (mMx 0 x2 0) (mMx 1 x3 (Int32.ofNat (3 * g - 11))) M1 J1) (fun v2 M2 J2 => (rI v2 M2 J2))) else (rI (-1) M1 J1)) else (rI (-1) M1 J1)))) := by
  rcases hg with rfl | rfl
  · exact (mDen_eq PG 300 (193, 0, [some (.ref (1000 + 10 * 5 + 1)), some (.int x1), some (.int x2), some (.int x3)], [], SH, M, J, 0, 0)).symm.trans rfl
  · exact (mDen_eq PG 300 (193, 0, [some (.ref (1000 + 10 * 6 + 1)), some (.int x1), some (.int x2), some (.int x3)], [], SH, M, J, 0, 0)).symm.trans rfl
set_option maxRecDepth 20000 in
theorem e_Latin_indexOfChar (g : Nat) (hg : g = 5 ∨ g = 6) (x1 : Int32) (x2 : Int32) (x3 : Int32) (M : mMI) (J : mMJ) : k_Latin_indexOfChar g x1 x2 x3 M J = (k_Latin_indexOfChar_5 g x3 x1.toInt8.toInt32 x2 M J) := by
  rcases hg with rfl | rfl
  · exact (mDen_eq PG 300 (194, 0, [some (.ref (1000 + 10 * 5 + 1)), some (.int x1), some (.int x2), some (.int x3), none, none], [], SH, M, J, 0, 0)).symm.trans rfl
  · exact (mDen_eq PG 300 (194, 0, [some (.ref (1000 + 10 * 6 + 1)), some (.int x1), some (.int x2), some (.int x3), none, none], [], SH, M, J, 0, 0)).symm.trans rfl
set_option maxRecDepth 20000 in
theorem e_Latin_indexOfChar_5 (g : Nat) (hg : g = 5 ∨ g = 6) (x3 : Int32) (x4 : Int32) (x5 : Int32) (M : mMI) (J : mMJ) : k_Latin_indexOfChar_5 g x3 x4 x5 M J = (if (x3 : Int32) ≤ x5 then (rI (-1) M J) else (if mIn x5 (3 * g - 11) then (if ¬ ((M (1000 + 10 * g + 1) x5.toNatClampNeg) : Int32) = x4 then (k_Latin_indexOfChar_5 g x3 x4 (x5 + 1) M J) else (rI x5 M J)) else none)) := by
  rcases hg with rfl | rfl
  · exact (mDen_eq PG 300 (194, 5, [some (.ref (1000 + 10 * 5 + 1)), none, none, some (.int x3), some (.int x4), some (.int x5)], [], SH, M, J, 0, 0)).symm.trans rfl
  · exact (mDen_eq PG 300 (194, 5, [some (.ref (1000 + 10 * 6 + 1)), none, none, some (.int x3), some (.int x4), some (.int x5)], [], SH, M, J, 0, 0)).symm.trans rfl
set_option maxRecDepth 20000 in
theorem e_Integer_bitCount (x0 : Int32) (M : mMI) (J : mMJ) : k_Integer_bitCount x0 M J = (rI ((((((((x0 - (((x0.toUInt32 >>> ((1 : Int32).toUInt32 &&& Int32.toUInt32 31)).toInt32) &&& 1431655765)) &&& 858993459) + ((((x0 - (((x0.toUInt32 >>> ((1 : Int32).toUInt32 &&& Int32.toUInt32 31)).toInt32) &&& 1431655765)).toUInt32 >>> ((2 : Int32).toUInt32 &&& Int32.toUInt32 31)).toInt32) &&& 858993459)) + (((((x0 - (((x0.toUInt32 >>> ((1 : Int32).toUInt32 &&& Int32.toUInt32 31)).toInt32) &&& 1431655765)) &&& 858993459) + ((((x0 - (((x0.toUInt32 >>> ((1 : Int32).toUInt32 &&& Int32.toUInt32 31)).toInt32) &&& 1431655765)).toUInt32 >>> ((2 : Int32).toUInt32 &&& Int32.toUInt32 31)).toInt32) &&& 858993459)).toUInt32 >>> ((4 : Int32).toUInt32 &&& Int32.toUInt32 31)).toInt32)) &&& 252645135) + (((((((x0 - (((x0.toUInt32 >>> ((1 : Int32).toUInt32 &&& Int32.toUInt32 31)).toInt32) &&& 1431655765)) &&& 858993459) + ((((x0 - (((x0.toUInt32 >>> ((1 : Int32).toUInt32 &&& Int32.toUInt32 31)).toInt32) &&& 1431655765)).toUInt32 >>> ((2 : Int32).toUInt32 &&& Int32.toUInt32 31)).toInt32) &&& 858993459)) + (((((x0 - (((x0.toUInt32 >>> ((1 : Int32).toUInt32 &&& Int32.toUInt32 31)).toInt32) &&& 1431655765)) &&& 858993459) + ((((x0 - (((x0.toUInt32 >>> ((1 : Int32).toUInt32 &&& Int32.toUInt32 31)).toInt32) &&& 1431655765)).toUInt32 >>> ((2 : Int32).toUInt32 &&& Int32.toUInt32 31)).toInt32) &&& 858993459)).toUInt32 >>> ((4 : Int32).toUInt32 &&& Int32.toUInt32 31)).toInt32)) &&& 252645135).toUInt32 >>> ((8 : Int32).toUInt32 &&& Int32.toUInt32 31)).toInt32)) + ((((((((x0 - (((x0.toUInt32 >>> ((1 : Int32).toUInt32 &&& Int32.toUInt32 31)).toInt32) &&& 1431655765)) &&& 858993459) + ((((x0 - (((x0.toUInt32 >>> ((1 : Int32).toUInt32 &&& Int32.toUInt32 31)).toInt32) &&& 1431655765)).toUInt32 >>> ((2 : Int32).toUInt32 &&& Int32.toUInt32 31)).toInt32) &&& 858993459)) + (((((x0 - (((x0.toUInt32 >>> ((1 : Int32).toUInt32 &&& Int32.toUInt32 31)).toInt32) &&& 1431655765)) &&& 858993459) + ((((x0 - (((x0.toUInt32 >>> ((1 : Int32).toUInt32 &&& Int32.toUInt32 31)).toInt32) &&& 1431655765)).toUInt32 >>> ((2 : Int32).toUInt32 &&& Int32.toUInt32 31)).toInt32) &&& 858993459)).toUInt32 >>> ((4 : Int32).toUInt32 &&& Int32.toUInt32 31)).toInt32)) &&& 252645135) + (((((((x0 - (((x0.toUInt32 >>> ((1 : Int32).toUInt32 &&& Int32.toUInt32 31)).toInt32) &&& 1431655765)) &&& 858993459) + ((((x0 - (((x0.toUInt32 >>> ((1 : Int32).toUInt32 &&& Int32.toUInt32 31)).toInt32) &&& 1431655765)).toUInt32 >>> ((2 : Int32).toUInt32 &&& Int32.toUInt32 31)).toInt32) &&& 858993459)) + (((((x0 - (((x0.toUInt32 >>> ((1 : Int32).toUInt32 &&& Int32.toUInt32 31)).toInt32) &&& 1431655765)) &&& 858993459) + ((((x0 - (((x0.toUInt32 >>> ((1 : Int32).toUInt32 &&& Int32.toUInt32 31)).toInt32) &&& 1431655765)).toUInt32 >>> ((2 : Int32).toUInt32 &&& Int32.toUInt32 31)).toInt32) &&& 858993459)).toUInt32 >>> ((4 : Int32).toUInt32 &&& Int32.toUInt32 31)).toInt32)) &&& 252645135).toUInt32 >>> ((8 : Int32).toUInt32 &&& Int32.toUInt32 31)).toInt32)).toUInt32 >>> ((16 : Int32).toUInt32 &&& Int32.toUInt32 31)).toInt32)) &&& 63) M J) := (mDen_eq PG 300 (195, 0, [some (.int x0)], [], SH, M, J, 0, 0)).symm.trans rfl
set_option maxRecDepth 20000 in
theorem e_Arrays_fill_T (s : Nat) (hs : s = 7 ∨ s = 21) (x1 : Int32) (M : mMI) (J : mMJ) : k_Arrays_fill_T s x1 M J = (k_Arrays_fill_T_5 s x1 0 (Int32.ofNat 240) M J) := by
  rcases hs with rfl | rfl
  · exact (mDen_eq PG 300 (196, 0, [some (.ref (7 + 5)), some (.int x1), none, none], [], SH, M, J, 0, 0)).symm.trans rfl
  · exact (mDen_eq PG 300 (196, 0, [some (.ref (21 + 5)), some (.int x1), none, none], [], SH, M, J, 0, 0)).symm.trans rfl
set_option maxRecDepth 20000 in
theorem e_Arrays_fill_T_5 (s : Nat) (hs : s = 7 ∨ s = 21) (x1 : Int32) (x2 : Int32) (x3 : Int32) (M : mMI) (J : mMJ) : k_Arrays_fill_T_5 s x1 x2 x3 M J = (if (x3 : Int32) ≤ x2 then (rV M J) else (if mIn x2 240 then (k_Arrays_fill_T_5 s x1 (x2 + 1) x3 (mUp M (s + 5) x2.toNatClampNeg x1) J) else none)) := by
  rcases hs with rfl | rfl
  · exact (mDen_eq PG 300 (196, 5, [some (.ref (7 + 5)), some (.int x1), some (.int x2), some (.int x3)], [], SH, M, J, 0, 0)).symm.trans rfl
  · exact (mDen_eq PG 300 (196, 5, [some (.ref (21 + 5)), some (.int x1), some (.int x2), some (.int x3)], [], SH, M, J, 0, 0)).symm.trans rfl
set_option maxRecDepth 20000 in
theorem e_Arrays_fill_O (s : Nat) (hs : s = 7 ∨ s = 21) (x1 : Int32) (M : mMI) (J : mMJ) : k_Arrays_fill_O s x1 M J = (k_Arrays_fill_O_5 s x1 0 (Int32.ofNat 6) M J) := by
  rcases hs with rfl | rfl
  · exact (mDen_eq PG 300 (196, 0, [some (.ref (7 + 6)), some (.int x1), none, none], [], SH, M, J, 0, 0)).symm.trans rfl
  · exact (mDen_eq PG 300 (196, 0, [some (.ref (21 + 6)), some (.int x1), none, none], [], SH, M, J, 0, 0)).symm.trans rfl
set_option maxRecDepth 20000 in
theorem e_Arrays_fill_O_5 (s : Nat) (hs : s = 7 ∨ s = 21) (x1 : Int32) (x2 : Int32) (x3 : Int32) (M : mMI) (J : mMJ) : k_Arrays_fill_O_5 s x1 x2 x3 M J = (if (x3 : Int32) ≤ x2 then (rV M J) else (if mIn x2 6 then (k_Arrays_fill_O_5 s x1 (x2 + 1) x3 (mUp M (s + 6) x2.toNatClampNeg x1) J) else none)) := by
  rcases hs with rfl | rfl
  · exact (mDen_eq PG 300 (196, 5, [some (.ref (7 + 6)), some (.int x1), some (.int x2), some (.int x3)], [], SH, M, J, 0, 0)).symm.trans rfl
  · exact (mDen_eq PG 300 (196, 5, [some (.ref (21 + 6)), some (.int x1), some (.int x2), some (.int x3)], [], SH, M, J, 0, 0)).symm.trans rfl
set_option maxRecDepth 20000 in
theorem e_Arrays_fill_B (x1 : Int32) (M : mMI) (J : mMJ) : k_Arrays_fill_B x1 M J = (k_Arrays_fill_B_5 x1 0 (Int32.ofNat 48) M J) := (mDen_eq PG 300 (196, 0, [some (.ref 36), some (.int x1), none, none], [], SH, M, J, 0, 0)).symm.trans rfl
set_option maxRecDepth 20000 in
theorem e_Arrays_fill_B_5 (x1 : Int32) (x2 : Int32) (x3 : Int32) (M : mMI) (J : mMJ) : k_Arrays_fill_B_5 x1 x2 x3 M J = (if (x3 : Int32) ≤ x2 then (rV M J) else (if mIn x2 48 then (k_Arrays_fill_B_5 x1 (x2 + 1) x3 (mUp M 36 x2.toNatClampNeg x1) J) else none)) := (mDen_eq PG 300 (196, 5, [some (.ref 36), some (.int x1), some (.int x2), some (.int x3)], [], SH, M, J, 0, 0)).symm.trans rfl
