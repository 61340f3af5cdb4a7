/-! soundness of what is made -/
def mRh (ρ : mRho) (n : Nat) (q : Nat × ClassId) : mRho := fun k => if k = n then q else ρ k
theorem mRh_at (ρ : mRho) (n : Nat) (q : Nat × ClassId) : mRh ρ n q n = q := if_pos rfl
theorem mRh_ne (ρ : mRho) {n k : Nat} {q : Nat × ClassId} (h : k ≠ n) : mRh ρ n q k = ρ k := if_neg h
theorem mNrR_at {n : Nat} : ∀ {l : List Nat}, mNrR n l = true → ∀ j, mNth 0 l j ≤ n ∨ 1000 ≤ mNth 0 l j
  | [], _, j => Or.inl (by rw [mNth_far 0 [] j (by simp)]; omega)
  | r :: l, h, j => by
    simp only [mNrR, Bool.and_eq_true, Bool.or_eq_true, Nat.ble_eq] at h
    cases j with
    | zero => exact h.1
    | succ j => exact mNrR_at h.2 j
theorem mNrH_at {n : Nat} : ∀ {l : List mSC}, mNrH n l = true → ∀ c ∈ l, mNrR n c.2.2 = true
  | [], _, c, hc => by simp at hc
  | d :: l, h, c, hc => by
    simp only [mNrH, Bool.and_eq_true] at h
    rcases List.mem_cons.mp hc with rfl | hc
    · exact h.1
    · exact mNrH_at h.2 c hc
theorem mTr_new {ρ : mRho} {n r : Nat} {q : Nat × ClassId} (hn : n < 999) (h : r ≤ n ∨ 1000 ≤ r) : mTr (mRh ρ n q) (mRef r) = mTr ρ (mRef r) := by
  cases r with
  | zero => rfl
  | succ a =>
    show Value.ref (mRh ρ n q a).1 = Value.ref (ρ a).1
    rw [mRh_ne ρ (by omega)]
theorem mRo_new {ρ : mRho} {n r : Nat} {q : Nat × ClassId} (hn : n < 999) (h : r ≤ n ∨ 1000 ≤ r) : mRo (mRh ρ n q) r = mRo ρ r := by
  cases r with
  | zero => rfl
  | succ a =>
    show some (mRh ρ n q a).1 = some (ρ a).1
    rw [mRh_ne ρ (by omega)]
theorem mCell_new {ρ : mRho} {M : mMI} {J : mMJ} {n k : Nat} {c : mSC} {q : Nat × ClassId} (hn : n < 999) (hk : k ≠ n) (h : mNrR n c.2.2 = true) : mCell (mRh ρ n q) M J k c = mCell ρ M J k c := by
  unfold mCell
  rw [mRh_ne ρ hk]
  have e1 : mFV (mRh ρ n q) (mNth [] pkin c.2.1) c.2.2 (M k) = mFV ρ (mNth [] pkin c.2.1) c.2.2 (M k) := by
    unfold mFV
    apply List.map_congr_left
    intro j _
    rw [mTr_new hn (mNrR_at h j)]
  have e2 : (fun i => mRo (mRh ρ n q) (mNth 0 c.2.2 i)) = fun i => mRo ρ (mNth 0 c.2.2 i) := by
    funext i
    rw [mRo_new hn (mNrR_at h i)]
  rw [e1, e2]
theorem mWd_push {ρ : mRho} {M M2 : mMI} {J J2 : mMJ} {sh : List mSC} {c : mSC} {q : Nat × ClassId} (hn : sh.length < 999) (hM : ∀ k, k ≠ sh.length → M2 k = M k) (hJ : ∀ k, k ≠ sh.length → J2 k = J k) (hr : mNrH sh.length sh = true) : mWd (mRh ρ sh.length q) M2 J2 (sh ++ [c]) = mWd ρ M J sh ++ [(q.1, mCell (mRh ρ sh.length q) M2 J2 sh.length c)] := by
  apply List.ext_getElem?
  intro i
  rcases Nat.lt_trichotomy i sh.length with h | h | h
  · rw [List.getElem?_append_left (by rw [mWd_len]; exact h)]
    have hi : sh[i]? = some sh[i] := List.getElem?_eq_getElem h
    rw [mWd_at (c := sh[i]) (by rw [List.getElem?_append_left h]; exact hi), mWd_at hi, mRh_ne ρ (by omega), mCell_new hn (by omega) (mNrH_at hr _ (List.mem_of_getElem? hi)), mCell_cong (hM i (by omega)) (hJ i (by omega))]
  · subst h
    rw [List.getElem?_append_right (by rw [mWd_len]; omega), mWd_len, Nat.sub_self]
    rw [mWd_at (c := c) (by rw [List.getElem?_append_right (by omega), Nat.sub_self]; rfl), mRh_at]
    rfl
  · rw [List.getElem?_eq_none_iff.mpr (by rw [mWd_len]; simp; omega), List.getElem?_eq_none_iff.mpr (by simp [mWd_len]; omega)]
theorem mNrO_at {n : Nat} : ∀ {L : List (Option Value)}, mNrO n L = true → ∀ (i k : Nat), L[i]? = some (some (.ref k)) → k < n ∨ 999 ≤ k
  | [], _, i, k, h => by simp at h
  | x :: L, h, i, k, hi => by
    cases i with
    | zero =>
      cases hi
      simp only [mNrO, Bool.and_eq_true, Bool.or_eq_true, Nat.ble_eq, Nat.blt_eq] at h
      exact h.1
    | succ i =>
      have h2 : mNrO n L = true := by
        match x, h with
        | none, h => exact h
        | some (.ref _), h => simp only [mNrO, Bool.and_eq_true] at h; exact h.2
        | some (.int _), h => exact h
        | some (.long _), h => exact h
        | some (.float _), h => exact h
        | some (.double _), h => exact h
        | some .null, h => exact h
        | some (.retAddr _), h => exact h
      exact mNrO_at h2 i k hi
theorem mNrS_at {n : Nat} : ∀ {S : List Value}, mNrS n S = true → ∀ v ∈ S, ∀ k, v = .ref k → k < n ∨ 999 ≤ k
  | [], _, v, hv => by simp at hv
  | x :: S, h, v, hv => by
    intro k e
    rcases List.mem_cons.mp hv with rfl | hv
    · subst e
      simp only [mNrS, Bool.and_eq_true, Bool.or_eq_true, Nat.ble_eq, Nat.blt_eq] at h
      exact h.1
    · have h2 : mNrS n S = true := by
        match x, h with
        | .ref _, h => simp only [mNrS, Bool.and_eq_true] at h; exact h.2
        | .int _, h => exact h
        | .long _, h => exact h
        | .float _, h => exact h
        | .double _, h => exact h
        | .null, h => exact h
        | .retAddr _, h => exact h
      exact mNrS_at h2 v hv k e
/-- references that are below n are the same under a map that agrees there -/
theorem mLoc.re {ρ ρ2 : mRho} {ls : Array Slot} {nL n : Nat} {L : List (Option Value)} (h : mLoc ρ ls nL L) (hr : mNrO n L = true) (hρ : ∀ k, k < n ∨ 999 ≤ k → ρ2 k = ρ k) : mLoc ρ2 ls nL L := by
  refine ⟨h.1, h.2.1, fun i v hi => ?_⟩
  rw [h.2.2 i v hi]
  cases v <;> try rfl
  rename_i k
  show some (Slot.val (.ref (ρ k).1)) = some (Slot.val (.ref (ρ2 k).1))
  rw [hρ k (mNrO_at hr i k hi)]
theorem mTrS_re {ρ ρ2 : mRho} {n : Nat} {S : List Value} (hr : mNrS n S = true) (hρ : ∀ k, k < n ∨ 999 ≤ k → ρ2 k = ρ k) : S.map (mTr ρ2) = S.map (mTr ρ) := by
  apply List.map_congr_left
  intro v hv
  cases v <;> try rfl
  rename_i k
  show Value.ref (ρ2 k).1 = Value.ref (ρ k).1
  rw [hρ k (mNrS_at hr _ hv k rfl)]
section OPS
variable {p : Program} {l : Launch} {e : Env} {R : Room} {s : State} {m : MethodId} {args : Array Value} {below : List Frame} {meth : Method} {c : Code} {Q : State → Prop} {y : Nat} {D : va_G} {A : Nat → Prop} {ρ0 : mRho} {M0 : mMI} {sh0 : List mSC} {ρ : mRho} {sh : List mSC} {M : mMI} {J : mMJ} {nc ns : Nat} {H : Heap} {locs : List Loc} {ls : Array Slot} {st : List Value} {pc pn : Nat} {hs : List Nat}
theorem mHI.push {cell : mSC} {q : Nat × ClassId} {w : Nat} {H1 : Heap} (I : mHI s y D A ρ0 M0 sh0 ρ sh M J nc ns H locs) (hpl : (PG.2.1 y).2.2.1 = 0) (h900 : sh.length < 900) (hnc : nc + 1 ≤ (PG.2.1 y).2.2.2.2.2.1) (hns : ns + w ≤ (PG.2.1 y).2.2.2.2.2.2.1) (hr : mNrH sh.length sh = true) (hkd : cell.1 ≤ 4) (haf : ∀ ty, mAt1 cell = some ty → ArrOfT s q.2 ty ∧ va_RA s q.2 ty)
    (hP : va_P D vwCl (mWd ρ M J sh ++ [(q.1, mCell (mRh ρ sh.length q) (mSet M sh.length (fun _ => 0)) (mSetJ J sh.length (fun _ => 0)) sh.length cell)]) H1) (hD : va_D A (mWd ρ M J sh ++ [(q.1, mCell (mRh ρ sh.length q) (mSet M sh.length (fun _ => 0)) (mSetJ J sh.length (fun _ => 0)) sh.length cell)])) (hS : va_S A s.heap H1 locs) : mHI s y D A ρ0 M0 sh0 (mRh ρ sh.length q) (sh ++ [cell]) (mSet M sh.length (fun _ => 0)) (mSetJ J sh.length (fun _ => 0)) (nc + 1) (ns + w) H1 locs := by
  obtain ⟨-, -, -, h4, h5, h6, h7, h8, h9, -⟩ := I
  have ew := mWd_push (ρ := ρ) (M := M) (M2 := mSet M sh.length (fun _ => 0)) (J := J) (J2 := mSetJ J sh.length (fun _ => 0)) (c := cell) (q := q) h6.1 (fun k hk => mSet_ne M hk) (fun k hk => mSetJ_ne J hk) hr
  refine ⟨by rw [ew]; exact hP, by rw [ew]; exact hD, hS, fun k c2 ty hk ht => ?_, fun k hk => (mSet_ne M (by omega)).trans (h5 k hk), ⟨by simp; omega, fun z hz => ?_⟩, fun z => absurd hpl z, fun k hk => (mRh_ne ρ (by omega)).trans (h8 k hk), by simp; omega, hnc, hns⟩
  · rcases Nat.lt_trichotomy k sh.length with g | g | g
    · rw [mRh_ne ρ (by omega)]
      rw [List.getElem?_append_left g] at hk
      exact h4 k c2 ty hk ht
    · subst g
      rw [List.getElem?_append_right (by omega), Nat.sub_self] at hk
      cases hk
      rw [mRh_at]
      exact haf ty ht
    · rw [List.getElem?_eq_none_iff.mpr (by simp; omega)] at hk
      cases hk
  · rcases List.mem_append.mp hz with g | g
    · exact h6.2 z g
    · rw [List.mem_singleton] at g
      subst g
      exact hkd
theorem so30 {ci w : Nat} {L : List (Option Value)} {S : List Value} {nL : Nat} (C : mAct p s m args meth c R y D A ρ0 M0) (I : mHI s y D A ρ0 M0 sh0 ρ sh M J nc ns H locs) (hL : mLoc ρ ls nL L) (hpl : (PG.2.1 y).2.2.1 = 0) (h : ok30 (pby y) (pnm y).cls hs ci w pc pn = true) (h900 : sh.length < 900) (hnc : nc + 1 ≤ (PG.2.1 y).2.2.2.2.2.1) (hns : ns + w ≤ (PG.2.1 y).2.2.2.2.2.2.1) (hrO : mNrO sh.length L = true) (hrS : mNrS sh.length S = true) (hrH : mNrH sh.length sh = true) (k : ∀ (ρ2 : mRho) (H1 : Heap), mHI s y D A ρ0 M0 sh0 ρ2 (sh ++ [(0, ci, mZeros w)]) (mSet M sh.length (fun _ => 0)) (mSetJ J sh.length (fun _ => 0)) (nc + 1) (ns + w) H1 locs → mLoc ρ2 ls nL L → W p l e R s m args below meth c H1 locs (nc + 1) (ns + w) Q (F0 m pn ls (.ref (ρ2 sh.length).1 :: S.map (mTr ρ2)))) : W p l e R s m args below meth c H locs nc ns Q (F0 m pc ls (S.map (mTr ρ))) := by
  obtain ⟨hx, hb, hml, hown, hts, hnm, hA, hK, hCF, hf, hlo, hce, hsl⟩ := C
  have I0 := I
  obtain ⟨hP, hD, hS, hAF, hM, hkd, -⟩ := I
  unfold ok30 at h
  split at h
  · rename_i kx hd
    simp only [Bool.and_eq_true, decide_eq_true_eq] at h
    obtain ⟨rfl, h⟩ := h
    split at h
    · rename_i q hq
      simp only [Bool.and_eq_true, decide_eq_true_eq] at h
      obtain ⟨rfl, g1, g2, g3⟩ := h
      obtain ⟨hnames, ty, hty, hrf, hdef, hlen, hkk⟩ := vw_ty hq
      refine va_new (fs := mFV ρ (mNth [] pkin ci) [] (fun _ => 0)) hx hb hts (vw_in hq) ty hty hown (hts _ (oW_in g1)) (hts _ (oW_in g2)) (hts _ (oW_in g3)) hK hP hD hS hA hq (fun j hj => ?_) (by omega) (by omega) hd (fun q0 H1 hP1 hD1 hS1 => ?_)
      · rw [hdef j hj]
        unfold vp_V
        rw [List.getD_eq_getElem?_getD, mFV_get (by rcases hkk j hj with t | t <;> rw [t] <;> decide)]
        rcases hkk j hj with t | t
        · rw [if_pos t, if_pos t]
          rfl
        · rw [if_neg (by rw [t]; decide), if_neg (by rw [t]; decide), mNth_far 0 [] j (by simp)]
          rfl
      · have ec : mCell (mRh ρ sh.length (q0, 0)) (mSet M sh.length (fun _ => 0)) (mSetJ J sh.length (fun _ => 0)) sh.length (0, ci, mZeros q.2.2) = .inr (ci, mFV ρ (mNth [] pkin ci) [] (fun _ => 0)) := by
          rw [mCell_0 rfl, mSet_at]
          refine congrArg (fun z => Sum.inr (ci, z)) ?_
          unfold mFV
          apply List.map_congr_left
          intro j _
          have hz : ∀ n j, mNth 0 (mZeros n) j = 0 := by
            intro n
            induction n with
            | zero => intro j; exact mNth_far 0 [] j (by simp)
            | succ n ih => intro j; cases j with
              | zero => rfl
              | succ j => exact ih j
          rw [hz, mNth_far 0 [] j (by simp)]
          rfl
        rw [← ec] at hP1 hD1
        have hρ2 : ∀ k, k < sh.length ∨ 999 ≤ k → mRh ρ sh.length (q0, 0) k = ρ k := fun k hk => mRh_ne ρ (by omega)
        have := k (mRh ρ sh.length (q0, 0)) H1 (I0.push (q := (q0, 0)) hpl h900 hnc hns hrH (Nat.zero_le 4) (fun ty ht => by cases ht) hP1 hD1 hS1) (hL.re hrO hρ2)
        rw [mRh_at, mTrS_re hrS hρ2] at this
        exact this
    · cases h
  · cases h
end OPS
