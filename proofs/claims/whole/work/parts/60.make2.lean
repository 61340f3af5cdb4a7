/-! soundness of new arrays -/
section OPS
variable {p : Program} {l : Launch} {e : Env} {R : Room} {s : State} {m : MethodId} {args : Array Value} {below : List Frame} {meth : Method} {c : Code} {Q : State → Prop} {y : Nat} {D : va_G} {A : Nat → Prop} {ρ0 : mRho} {M0 : mMI} {sh0 : List mSC} {ρ : mRho} {sh : List mSC} {M : mMI} {J : mMJ} {nc ns : Nat} {H : Heap} {locs : List Loc} {ls : Array Slot} {st : List Value} {pc pn : Nat} {hs : List Nat}
/-- behind a cell that is an array -/
theorem so3x {cell : mSC} {w : Nat} {ty : FieldType} {E : ClassId → va_E} {L : List (Option Value)} {S : List Value} {nL : Nat} (I : mHI s y D A ρ0 M0 sh0 ρ sh M J nc ns H locs) (hL : mLoc ρ ls nL L) (hpl : (PG.2.1 y).2.2.1 = 0) (h900 : sh.length < 900) (hnc : nc + 1 ≤ (PG.2.1 y).2.2.2.2.2.1) (hns : ns + w ≤ (PG.2.1 y).2.2.2.2.2.2.1) (hrO : mNrO sh.length L = true) (hrS : mNrS sh.length S = true) (hrH : mNrH sh.length sh = true) (hkd : cell.1 ≤ 4) (hty : mAt1 cell = some ty) (hE : ∀ (q0 : Nat) (cA : ClassId), mCell (mRh ρ sh.length (q0, cA)) (mSet M sh.length (fun _ => 0)) (mSetJ J sh.length (fun _ => 0)) sh.length cell = E cA)
    (k : ∀ (ρ2 : mRho) (H1 : Heap), mHI s y D A ρ0 M0 sh0 ρ2 (sh ++ [cell]) (mSet M sh.length (fun _ => 0)) (mSetJ J sh.length (fun _ => 0)) (nc + 1) (ns + w) H1 locs → mLoc ρ2 ls nL L → W p l e R s m args below meth c H1 locs (nc + 1) (ns + w) Q (F0 m pn ls (.ref (ρ2 sh.length).1 :: S.map (mTr ρ2))))
    (q0 : Nat) (cA : ClassId) (H1 : Heap) (hK1 : va_K D vwCl ([] ++ [(cA, ty)]) s) (hP1 : va_P D vwCl (mWd ρ M J sh ++ [(q0, E cA)]) H1) (hD1 : va_D A (mWd ρ M J sh ++ [(q0, E cA)])) (hS1 : va_S A s.heap H1 locs) : W p l e R s m args below meth c H1 locs (nc + 1) (ns + w) Q (F0 m pn ls (.ref q0 :: S.map (mTr ρ))) := by
  rw [← hE q0 cA] at hP1 hD1
  have hρ2 : ∀ k, k < sh.length ∨ 999 ≤ k → mRh ρ sh.length (q0, cA) k = ρ k := fun k hk => mRh_ne ρ (by omega)
  have := k (mRh ρ sh.length (q0, cA)) H1 (I.push (q := (q0, cA)) hpl h900 hnc hns hrH hkd (fun t ht => by rw [hty] at ht; cases ht; exact hK1.2 0 _ rfl) hP1 hD1 hS1) (hL.re hrO hρ2)
  rw [mRh_at, mTrS_re hrS hρ2] at this
  exact this
theorem so31 {a b : Nat} {n : Int32} {L : List (Option Value)} {S : List Value} {nL : Nat} (C : mAct p s m args meth c R y D A ρ0 M0) (I : mHI s y D A ρ0 M0 sh0 ρ sh M J nc ns H locs) (hL : mLoc ρ ls nL L) (hpl : (PG.2.1 y).2.2.1 = 0) (h : ok31 (pby y) hs a b n pc pn = true) (h900 : sh.length < 900) (hnc : nc + 1 ≤ (PG.2.1 y).2.2.2.2.2.1) (hns : ns + b ≤ (PG.2.1 y).2.2.2.2.2.2.1) (hrO : mNrO sh.length L = true) (hrS : mNrS sh.length S = true) (hrH : mNrH sh.length sh = true) (k : ∀ (ρ2 : mRho) (H1 : Heap), mHI s y D A ρ0 M0 sh0 ρ2 (sh ++ [(a, b, [])]) (mSet M sh.length (fun _ => 0)) (mSetJ J sh.length (fun _ => 0)) (nc + 1) (ns + b) H1 locs → mLoc ρ2 ls nL L → W p l e R s m args below meth c H1 locs (nc + 1) (ns + b) Q (F0 m pn ls (.ref (ρ2 sh.length).1 :: S.map (mTr ρ2)))) : W p l e R s m args below meth c H locs nc ns Q (F0 m pc ls (.int n :: S.map (mTr ρ))) := by
  obtain ⟨hx, hb, hml, hown, hts, hnm, hA, hK, hCF, hf, hlo, hce, hsl⟩ := C
  have I0 := I
  obtain ⟨hP, hD, hS, hAF, hM, hkd, -⟩ := I
  unfold ok31 at h
  simp only [Bool.and_eq_true, decide_eq_true_eq] at h
  obtain ⟨rfl, ⟨rfl, hb1, hb2⟩, h⟩ := h
  have hN : (Int32.ofNat b).toNatClampNeg = b := nI_clamp (n := b) (by omega)
  have hn0 : ¬ Int32.ofNat b < 0 := nI_pos (n := b) (by omega)
  split at h <;> rename_i hd
  · simp only [Bool.and_eq_true, decide_eq_true_eq] at h
    obtain ⟨rfl, h⟩ := h
    exact va_newa (atype := .int) (ty := .int) (a0 := (b, .inl (fun _ => 0))) hx hb (hts _ (oW_in h)) rfl hK hP hD hS hA (fun _ => rfl) hn0 hN (by show b * 4 ≤ _; omega) (by omega) (by omega) hd (so3x (cell := (1, b, [])) (ty := .int) (E := fun cA => .inl (cA, b, .inl (fun _ => 0))) I0 hL hpl h900 hnc hns hrO hrS hrH (Nat.le_of_ble_eq_true rfl) rfl (fun q0 cA => by rw [mCell_1 (Or.inl rfl), mSet_at, mRh_at]) k)
  · simp only [Bool.and_eq_true, decide_eq_true_eq] at h
    obtain ⟨rfl, h⟩ := h
    exact va_newa (atype := .long) (ty := .long) (a0 := (b, .inr (.inl (fun _ => 0)))) hx hb (hts _ (oW_in h)) rfl hK hP hD hS hA (fun _ => rfl) hn0 hN (by show b * 8 ≤ _; omega) (by omega) (by omega) hd (so3x (cell := (2, b, [])) (ty := .long) (E := fun cA => .inl (cA, b, .inr (.inl (fun _ => 0)))) I0 hL hpl h900 hnc hns hrO hrS hrH (Nat.le_of_ble_eq_true rfl) rfl (fun q0 cA => by rw [mCell_2 rfl, mSetJ_at, mRh_at]) k)
  · simp only [Bool.and_eq_true, decide_eq_true_eq] at h
    obtain ⟨rfl, h⟩ := h
    exact va_newa (atype := .boolean) (ty := .boolean) (a0 := (b, .inl (fun _ => 0))) hx hb (hts _ (oW_in h)) rfl hK hP hD hS hA (fun _ => rfl) hn0 hN (by show b * 1 ≤ _; omega) (by omega) (by omega) hd (so3x (cell := (3, b, [])) (ty := .boolean) (E := fun cA => .inl (cA, b, .inl (fun _ => 0))) I0 hL hpl h900 hnc hns hrO hrS hrH (Nat.le_of_ble_eq_true rfl) rfl (fun q0 cA => by rw [mCell_1 (Or.inr rfl), mSet_at, mRh_at]) k)
  · cases h
theorem so32 {b : Nat} {n : Int32} {L : List (Option Value)} {S : List Value} {nL : Nat} (C : mAct p s m args meth c R y D A ρ0 M0) (I : mHI s y D A ρ0 M0 sh0 ρ sh M J nc ns H locs) (hL : mLoc ρ ls nL L) (hpl : (PG.2.1 y).2.2.1 = 0) (h : ok32 (pby y) (pnm y).cls hs b n pc pn = true) (h900 : sh.length < 900) (hnc : nc + 1 ≤ (PG.2.1 y).2.2.2.2.2.1) (hns : ns + b ≤ (PG.2.1 y).2.2.2.2.2.2.1) (hrO : mNrO sh.length L = true) (hrS : mNrS sh.length S = true) (hrH : mNrH sh.length sh = true) (k : ∀ (ρ2 : mRho) (H1 : Heap), mHI s y D A ρ0 M0 sh0 ρ2 (sh ++ [(4, b, mZeros b)]) (mSet M sh.length (fun _ => 0)) (mSetJ J sh.length (fun _ => 0)) (nc + 1) (ns + b) H1 locs → mLoc ρ2 ls nL L → W p l e R s m args below meth c H1 locs (nc + 1) (ns + b) Q (F0 m pn ls (.ref (ρ2 sh.length).1 :: S.map (mTr ρ2)))) : W p l e R s m args below meth c H locs nc ns Q (F0 m pc ls (.int n :: S.map (mTr ρ))) := by
  obtain ⟨hx, hb, hml, hown, hts, hnm, hA, hK, hCF, hf, hlo, hce, hsl⟩ := C
  have I0 := I
  obtain ⟨hP, hD, hS, hAF, hM, hkd, -⟩ := I
  unfold ok32 at h
  simp only [Bool.and_eq_true, decide_eq_true_eq] at h
  obtain ⟨rfl, ⟨rfl, hb1, hb2⟩, h⟩ := h
  have hN : (Int32.ofNat b).toNatClampNeg = b := nI_clamp (n := b) (by omega)
  have hn0 : ¬ Int32.ofNat b < 0 := nI_pos (n := b) (by omega)
  have hz : ∀ n j, mNth 0 (mZeros n) j = 0 := by
    intro n
    induction n with
    | zero => intro j; exact mNth_far 0 [] j (by simp)
    | succ n ih => intro j; cases j with
      | zero => rfl
      | succ j => exact ih j
  split at h
  · rename_i kx hd
    exact va_newq hx hb hown (hts _ (oW_in h)) hCF.2.2.2.2.2.1 hK hP hD hS hA hn0 hN (by omega) (by omega) (by omega) hd (so3x (cell := (4, b, mZeros b)) (ty := .object "PotAndFine$Kept") (E := fun cA => .inl (cA, b, .inr (.inr (.inr (.inr (fun _ => none)))))) I0 hL hpl h900 hnc hns hrO hrS hrH (Nat.le_of_ble_eq_true rfl) rfl (fun q0 cA => by
      rw [mCell_4 rfl, mRh_at]
      have : (fun i => mRo (mRh ρ sh.length (q0, cA)) (mNth 0 (mZeros b) i)) = fun _ => none := by
        funext i
        rw [hz]
        rfl
      dsimp only
      rw [this]) k)
  · cases h
end OPS
