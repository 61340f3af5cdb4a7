/-! SOUNDNESS of the small machine -/
theorem mNo_not {K : mCf → Option mRs} {r : mRs} {P : Prop} (h : mApp mNo K = some r) : P := nomatch (show (none : Option mRs) = some r from h)
theorem mGo_ev {K : mCf → Option mRs} {c : mCf} {r : mRs} (h : mApp (mGo c) K = some r) : K c = some r := h
theorem mCk_ev {K : mCf → Option mRs} {q : mDc} {c : mCf} {r : mRs} (h : mApp (mCk q c) K = some r) : q.1 ∧ K c = some r := by
  have h : @ite (Option mRs) q.1 q.2 (K c) none = some r := h
  by_cases hq : q.1
  · exact ⟨hq, (@if_pos _ q.2 hq _ (K c) none).symm.trans h⟩
  · have e := (@if_neg _ q.2 hq _ (K c) none).symm.trans h
    cases e
theorem mIf1_ev {K : mCf → Option mRs} {q : mDc} {c d : mCf} {r : mRs} (h : mApp (.inr (.inl ([(q, c)], some d))) K = some r) : (q.1 → K c = some r) ∧ (¬ q.1 → K d = some r) := by
  have h : @ite (Option mRs) q.1 q.2 (K c) (K d) = some r := h
  exact ⟨fun hq => (@if_pos _ q.2 hq _ (K c) (K d)).symm.trans h, fun hq => (@if_neg _ q.2 hq _ (K c) (K d)).symm.trans h⟩
theorem mSw_ev {K : mCf → Option mRs} {x : Int32} {y : Nat} {L : List (Option Value)} {S : List Value} {h : mHp} {d : mCf} {r : mRs} : ∀ (ts : List Nat) (b : Nat), mIf (mSw x b y L S h ts) K (K d) = some r → (∀ (j t : Nat), (∀ i, i < j → ¬ x = nI (b + i)) → ts[j]? = some t → x = nI (b + j) → K (y, t, L, S, h) = some r) ∧ ((∀ j, j < ts.length → ¬ x = nI (b + j)) → K d = some r)
  | [], b, hev => ⟨fun j t _ hj => by simp at hj, fun _ => hev⟩
  | t :: ts, b, hev => by
    have hev : (if x = nI b then K (y, t, L, S, h) else mIf (mSw x (b + 1) y L S h ts) K (K d)) = some r := hev
    by_cases hx : x = nI b
    · rw [if_pos hx] at hev
      refine ⟨fun j u hlt hj he => ?_, fun hn => absurd hx (hn 0 (by simp))⟩
      cases j with
      | zero => cases hj; exact hev
      | succ j => exact absurd hx (hlt 0 (by omega))
    · rw [if_neg hx] at hev
      obtain ⟨g1, g2⟩ := mSw_ev ts (b + 1) hev
      refine ⟨fun j u hlt hj he => ?_, fun hn => g2 (fun j hj => by rw [show b + 1 + j = b + (j + 1) by omega]; exact hn (j + 1) (by simpa using hj))⟩
      cases j with
      | zero => exact absurd he hx
      | succ j => exact g1 j u (fun i hi => by rw [show b + 1 + i = b + (i + 1) by omega]; exact hlt (i + 1) (by omega)) hj (by rw [show b + 1 + j = b + (j + 1) by omega]; exact he)
theorem mRw_ev {K : mCf → Option mRs} {x : Int32} {y i : Nat} {L : List (Option Value)} {S : List Value} {h : mHp} {r : mRs} : ∀ (rs : List Nat) (b : Nat), mIf (mRw x b y i L S h rs) K none = some r → ∃ (j t : Nat), rs[j]? = some t ∧ x = nI (b + j) ∧ K (y, i, L, mRef t :: S, h) = some r
  | [], b, hev => by cases hev
  | t :: ts, b, hev => by
    have hev : (if x = nI b then K (y, i, L, mRef t :: S, h) else mIf (mRw x (b + 1) y i L S h ts) K none) = some r := hev
    by_cases hx : x = nI b
    · rw [if_pos hx] at hev
      exact ⟨0, t, rfl, hx, hev⟩
    · rw [if_neg hx] at hev
      obtain ⟨j, u, g1, g2, g3⟩ := mRw_ev ts (b + 1) hev
      exact ⟨j + 1, u, g1, by rw [g2]; congr 1; omega, g3⟩
theorem mRwS_ev {K : mCf → Option mRs} {x : Int32} {f : Nat → mCf} {r : mRs} : ∀ (rs : List Nat) (b : Nat), mIf (mRwS x b f rs) K none = some r → ∃ j : Nat, j < rs.length ∧ x = nI (b + j) ∧ K (f (b + j)) = some r
  | [], b, hev => by cases hev
  | t :: ts, b, hev => by
    have hev : (if x = nI b then K (f b) else mIf (mRwS x (b + 1) f ts) K none) = some r := hev
    by_cases hx : x = nI b
    · rw [if_pos hx] at hev
      exact ⟨0, by simp, hx, hev⟩
    · rw [if_neg hx] at hev
      obtain ⟨j, g1, g2, g3⟩ := mRwS_ev ts (b + 1) hev
      exact ⟨j + 1, by simp; omega, by rw [g2]; congr 1; omega, by rw [show b + (j + 1) = b + 1 + j by omega]; exact g3⟩
theorem ok19_lt {cc : ByteArray} {pcs : Nat → Nat} {a b pc : Nat} {l : List Nat} (h : ok19 cc pcs a b pc l = true) : b + l.length < 2 ^ 31 := by
  unfold ok19 at h
  split at h
  · simp only [Bool.and_eq_true, decide_eq_true_eq] at h
    omega
  · cases h
section SIM
variable {p : Program} {l : Launch} {e : Env} {R : Room} {s : State} {m : MethodId} {args : Array Value} {below : List Frame} {meth : Method} {c : Code} {Q : State → Prop} {y i : Nat} {D : va_G} {A : Nat → Prop} {ρ0 : mRho} {M0 : mMI} {sh0 : List mSC} {ρ : mRho} {sh : List mSC} {M : mMI} {J : mMJ} {nc ns : Nat} {H : Heap} {locs : List Loc} {ls : Array Slot} {L : List (Option Value)} {S : List Value} {r : mRs} {oa ob on oq : Nat} {oc : Int32} {od : Int64} {ol oe : List Nat} {n : Nat}
theorem sx0 (IH : mSim n) (C : mAct p s m args meth c R y D A ρ0 M0) (I : mHI s y D A ρ0 M0 sh0 ρ sh M J nc ns H locs) (hL : mLoc ρ ls (PG.2.1 y).1 L) (hret : mRetH p l e R s m args below meth c Q y D A ρ0 M0 sh0 r) (hm : okOp (pby y) (pnm y).cls (pnm y).name (PG.2.1 y).1 (PG.2.1 y).2.1 (PG.2.1 y).2.2.2.1 (pPc y) (pHi y i) (pPc y i) (0, oa, ob, oc, od, oq, on, ol, oe) = true) (hev : mApp (mExec PG 0 oa ob oc od on ol y L S sh M J nc ns) (mEv PG n) = some r) : W p l e R s m args below meth c H locs nc ns Q (F0 m (pPc y i) ls (S.map (mTr ρ))) := by
  simp only [mExec] at hev
  exact so0 C I.2.2.1 hm (IH p l e R s m args below meth c Q y _ _ _ sh M J nc ns r D A ρ0 M0 sh0 ρ H locs _ (show mEv PG n (y, on, L, .int oc :: S, sh, M, J, nc, ns) = some r from hev) C I hL hret)
theorem sx1 (IH : mSim n) (C : mAct p s m args meth c R y D A ρ0 M0) (I : mHI s y D A ρ0 M0 sh0 ρ sh M J nc ns H locs) (hL : mLoc ρ ls (PG.2.1 y).1 L) (hret : mRetH p l e R s m args below meth c Q y D A ρ0 M0 sh0 r) (hm : okOp (pby y) (pnm y).cls (pnm y).name (PG.2.1 y).1 (PG.2.1 y).2.1 (PG.2.1 y).2.2.2.1 (pPc y) (pHi y i) (pPc y i) (1, oa, ob, oc, od, oq, on, ol, oe) = true) (hev : mApp (mExec PG 1 oa ob oc od on ol y L S sh M J nc ns) (mEv PG n) = some r) : W p l e R s m args below meth c H locs nc ns Q (F0 m (pPc y i) ls (S.map (mTr ρ))) := by
  simp only [mExec] at hev
  exact so1 C hm (IH p l e R s m args below meth c Q y _ _ _ sh M J nc ns r D A ρ0 M0 sh0 ρ H locs _ (show mEv PG n (y, on, L, .long od :: S, sh, M, J, nc, ns) = some r from hev) C I hL hret)
theorem sx2 (IH : mSim n) (C : mAct p s m args meth c R y D A ρ0 M0) (I : mHI s y D A ρ0 M0 sh0 ρ sh M J nc ns H locs) (hL : mLoc ρ ls (PG.2.1 y).1 L) (hret : mRetH p l e R s m args below meth c Q y D A ρ0 M0 sh0 r) (hm : okOp (pby y) (pnm y).cls (pnm y).name (PG.2.1 y).1 (PG.2.1 y).2.1 (PG.2.1 y).2.2.2.1 (pPc y) (pHi y i) (pPc y i) (2, oa, ob, oc, od, oq, on, ol, oe) = true) (hev : mApp (mExec PG 2 oa ob oc od on ol y L S sh M J nc ns) (mEv PG n) = some r) : W p l e R s m args below meth c H locs nc ns Q (F0 m (pPc y i) ls (S.map (mTr ρ))) := by
  simp only [mExec] at hev
  split at hev
  · rename_i v hv
    split at hev
    · rename_i ht
      exact so2 (ρ := ρ) C hm ht (hL.get hv) (IH p l e R s m args below meth c Q y _ _ _ sh M J nc ns r D A ρ0 M0 sh0 ρ H locs _ (show mEv PG n (y, on, L, v :: S, sh, M, J, nc, ns) = some r from hev) C I hL hret)
    · exact mNo_not hev
  · exact mNo_not hev
theorem sx3 (IH : mSim n) (C : mAct p s m args meth c R y D A ρ0 M0) (I : mHI s y D A ρ0 M0 sh0 ρ sh M J nc ns H locs) (hL : mLoc ρ ls (PG.2.1 y).1 L) (hret : mRetH p l e R s m args below meth c Q y D A ρ0 M0 sh0 r) (hm : okOp (pby y) (pnm y).cls (pnm y).name (PG.2.1 y).1 (PG.2.1 y).2.1 (PG.2.1 y).2.2.2.1 (pPc y) (pHi y i) (pPc y i) (3, oa, ob, oc, od, oq, on, ol, oe) = true) (hev : mApp (mExec PG 3 oa ob oc od on ol y L S sh M J nc ns) (mEv PG n) = some r) : W p l e R s m args below meth c H locs nc ns Q (F0 m (pPc y i) ls (S.map (mTr ρ))) := by
  simp only [mExec] at hev
  split at hev
  · rename_i v S2
    split at hev
    · rename_i ht
      rw [mF_eq] at hev
      exact so3 C hm ht hL (fun ls2 hL2 => (IH p l e R s m args below meth c Q y _ _ _ sh M J nc ns r D A ρ0 M0 sh0 ρ H locs _ (show mEv PG n (y, on, mSto L oa v, S2, sh, M, J, nc, ns) = some r from hev) C I hL2 hret))
    · exact mNo_not hev
  · exact mNo_not hev
theorem sx4 (IH : mSim n) (C : mAct p s m args meth c R y D A ρ0 M0) (I : mHI s y D A ρ0 M0 sh0 ρ sh M J nc ns H locs) (hL : mLoc ρ ls (PG.2.1 y).1 L) (hret : mRetH p l e R s m args below meth c Q y D A ρ0 M0 sh0 r) (hm : okOp (pby y) (pnm y).cls (pnm y).name (PG.2.1 y).1 (PG.2.1 y).2.1 (PG.2.1 y).2.2.2.1 (pPc y) (pHi y i) (pPc y i) (4, oa, ob, oc, od, oq, on, ol, oe) = true) (hev : mApp (mExec PG 4 oa ob oc od on ol y L S sh M J nc ns) (mEv PG n) = some r) : W p l e R s m args below meth c H locs nc ns Q (F0 m (pPc y i) ls (S.map (mTr ρ))) := by
  simp only [mExec] at hev
  split at hev
  · rename_i x hv
    rw [mF_eq] at hev
    exact so4 C hm hL hv (fun ls2 hL2 => (IH p l e R s m args below meth c Q y _ _ _ sh M J nc ns r D A ρ0 M0 sh0 ρ H locs _ (show mEv PG n (y, on, mPut L oa (some (.int (x + oc))), S, sh, M, J, nc, ns) = some r from hev) C I hL2 hret))
  · exact mNo_not hev
theorem sx5 (IH : mSim n) (C : mAct p s m args meth c R y D A ρ0 M0) (I : mHI s y D A ρ0 M0 sh0 ρ sh M J nc ns H locs) (hL : mLoc ρ ls (PG.2.1 y).1 L) (hret : mRetH p l e R s m args below meth c Q y D A ρ0 M0 sh0 r) (hm : okOp (pby y) (pnm y).cls (pnm y).name (PG.2.1 y).1 (PG.2.1 y).2.1 (PG.2.1 y).2.2.2.1 (pPc y) (pHi y i) (pPc y i) (5, oa, ob, oc, od, oq, on, ol, oe) = true) (hev : mApp (mExec PG 5 oa ob oc od on ol y L S sh M J nc ns) (mEv PG n) = some r) : W p l e R s m args below meth c H locs nc ns Q (F0 m (pPc y i) ls (S.map (mTr ρ))) := by
  simp only [mExec] at hev
  split at hev
  · rename_i v x S2
    exact so5 C hm (IH p l e R s m args below meth c Q y _ _ _ sh M J nc ns r D A ρ0 M0 sh0 ρ H locs _ (show mEv PG n (y, on, L, .int (mBin ob x v) :: S2, sh, M, J, nc, ns) = some r from hev) C I hL hret)
  · exact mNo_not hev
theorem sx6 (IH : mSim n) (C : mAct p s m args meth c R y D A ρ0 M0) (I : mHI s y D A ρ0 M0 sh0 ρ sh M J nc ns H locs) (hL : mLoc ρ ls (PG.2.1 y).1 L) (hret : mRetH p l e R s m args below meth c Q y D A ρ0 M0 sh0 r) (hm : okOp (pby y) (pnm y).cls (pnm y).name (PG.2.1 y).1 (PG.2.1 y).2.1 (PG.2.1 y).2.2.2.1 (pPc y) (pHi y i) (pPc y i) (6, oa, ob, oc, od, oq, on, ol, oe) = true) (hev : mApp (mExec PG 6 oa ob oc od on ol y L S sh M J nc ns) (mEv PG n) = some r) : W p l e R s m args below meth c H locs nc ns Q (F0 m (pPc y i) ls (S.map (mTr ρ))) := by
  simp only [mExec] at hev
  split at hev
  · rename_i v x S2
    obtain ⟨hq, hev⟩ := mCk_ev hev
    exact so6 C hm hq (IH p l e R s m args below meth c Q y _ _ _ sh M J nc ns r D A ρ0 M0 sh0 ρ H locs _ hev C I hL hret)
  · exact mNo_not hev
theorem sx7 (IH : mSim n) (C : mAct p s m args meth c R y D A ρ0 M0) (I : mHI s y D A ρ0 M0 sh0 ρ sh M J nc ns H locs) (hL : mLoc ρ ls (PG.2.1 y).1 L) (hret : mRetH p l e R s m args below meth c Q y D A ρ0 M0 sh0 r) (hm : okOp (pby y) (pnm y).cls (pnm y).name (PG.2.1 y).1 (PG.2.1 y).2.1 (PG.2.1 y).2.2.2.1 (pPc y) (pHi y i) (pPc y i) (7, oa, ob, oc, od, oq, on, ol, oe) = true) (hev : mApp (mExec PG 7 oa ob oc od on ol y L S sh M J nc ns) (mEv PG n) = some r) : W p l e R s m args below meth c H locs nc ns Q (F0 m (pPc y i) ls (S.map (mTr ρ))) := by
  simp only [mExec] at hev
  split at hev
  · rename_i v x S2
    obtain ⟨hq, hev⟩ := mCk_ev hev
    exact so7 C hm hq (IH p l e R s m args below meth c Q y _ _ _ sh M J nc ns r D A ρ0 M0 sh0 ρ H locs _ hev C I hL hret)
  · exact mNo_not hev
theorem sx8 (IH : mSim n) (C : mAct p s m args meth c R y D A ρ0 M0) (I : mHI s y D A ρ0 M0 sh0 ρ sh M J nc ns H locs) (hL : mLoc ρ ls (PG.2.1 y).1 L) (hret : mRetH p l e R s m args below meth c Q y D A ρ0 M0 sh0 r) (hm : okOp (pby y) (pnm y).cls (pnm y).name (PG.2.1 y).1 (PG.2.1 y).2.1 (PG.2.1 y).2.2.2.1 (pPc y) (pHi y i) (pPc y i) (8, oa, ob, oc, od, oq, on, ol, oe) = true) (hev : mApp (mExec PG 8 oa ob oc od on ol y L S sh M J nc ns) (mEv PG n) = some r) : W p l e R s m args below meth c H locs nc ns Q (F0 m (pPc y i) ls (S.map (mTr ρ))) := by
  simp only [mExec] at hev
  split at hev
  · rename_i x S2
    exact so8 C hm (IH p l e R s m args below meth c Q y _ _ _ sh M J nc ns r D A ρ0 M0 sh0 ρ H locs _ (show mEv PG n (y, on, L, .int (-x) :: S2, sh, M, J, nc, ns) = some r from hev) C I hL hret)
  · exact mNo_not hev
theorem sx9 (IH : mSim n) (C : mAct p s m args meth c R y D A ρ0 M0) (I : mHI s y D A ρ0 M0 sh0 ρ sh M J nc ns H locs) (hL : mLoc ρ ls (PG.2.1 y).1 L) (hret : mRetH p l e R s m args below meth c Q y D A ρ0 M0 sh0 r) (hm : okOp (pby y) (pnm y).cls (pnm y).name (PG.2.1 y).1 (PG.2.1 y).2.1 (PG.2.1 y).2.2.2.1 (pPc y) (pHi y i) (pPc y i) (9, oa, ob, oc, od, oq, on, ol, oe) = true) (hev : mApp (mExec PG 9 oa ob oc od on ol y L S sh M J nc ns) (mEv PG n) = some r) : W p l e R s m args below meth c H locs nc ns Q (F0 m (pPc y i) ls (S.map (mTr ρ))) := by
  simp only [mExec] at hev
  split at hev
  · rename_i v x S2
    exact so9 C hm (IH p l e R s m args below meth c Q y _ _ _ sh M J nc ns r D A ρ0 M0 sh0 ρ H locs _ (show mEv PG n (y, on, L, .long (mBinJ ob x v) :: S2, sh, M, J, nc, ns) = some r from hev) C I hL hret)
  · exact mNo_not hev
theorem sx10 (IH : mSim n) (C : mAct p s m args meth c R y D A ρ0 M0) (I : mHI s y D A ρ0 M0 sh0 ρ sh M J nc ns H locs) (hL : mLoc ρ ls (PG.2.1 y).1 L) (hret : mRetH p l e R s m args below meth c Q y D A ρ0 M0 sh0 r) (hm : okOp (pby y) (pnm y).cls (pnm y).name (PG.2.1 y).1 (PG.2.1 y).2.1 (PG.2.1 y).2.2.2.1 (pPc y) (pHi y i) (pPc y i) (10, oa, ob, oc, od, oq, on, ol, oe) = true) (hev : mApp (mExec PG 10 oa ob oc od on ol y L S sh M J nc ns) (mEv PG n) = some r) : W p l e R s m args below meth c H locs nc ns Q (F0 m (pPc y i) ls (S.map (mTr ρ))) := by
  simp only [mExec] at hev
  split at hev
  · rename_i v x S2
    obtain ⟨hq, hev⟩ := mCk_ev hev
    exact so10 C hm hq (IH p l e R s m args below meth c Q y _ _ _ sh M J nc ns r D A ρ0 M0 sh0 ρ H locs _ hev C I hL hret)
  · exact mNo_not hev
theorem sx11 (IH : mSim n) (C : mAct p s m args meth c R y D A ρ0 M0) (I : mHI s y D A ρ0 M0 sh0 ρ sh M J nc ns H locs) (hL : mLoc ρ ls (PG.2.1 y).1 L) (hret : mRetH p l e R s m args below meth c Q y D A ρ0 M0 sh0 r) (hm : okOp (pby y) (pnm y).cls (pnm y).name (PG.2.1 y).1 (PG.2.1 y).2.1 (PG.2.1 y).2.2.2.1 (pPc y) (pHi y i) (pPc y i) (11, oa, ob, oc, od, oq, on, ol, oe) = true) (hev : mApp (mExec PG 11 oa ob oc od on ol y L S sh M J nc ns) (mEv PG n) = some r) : W p l e R s m args below meth c H locs nc ns Q (F0 m (pPc y i) ls (S.map (mTr ρ))) := by
  simp only [mExec] at hev
  split at hev
  · rename_i v x S2
    exact so11 C hm (IH p l e R s m args below meth c Q y _ _ _ sh M J nc ns r D A ρ0 M0 sh0 ρ H locs _ (show mEv PG n (y, on, L, .long (mShJ ob x v) :: S2, sh, M, J, nc, ns) = some r from hev) C I hL hret)
  · exact mNo_not hev
theorem sx12 (IH : mSim n) (C : mAct p s m args meth c R y D A ρ0 M0) (I : mHI s y D A ρ0 M0 sh0 ρ sh M J nc ns H locs) (hL : mLoc ρ ls (PG.2.1 y).1 L) (hret : mRetH p l e R s m args below meth c Q y D A ρ0 M0 sh0 r) (hm : okOp (pby y) (pnm y).cls (pnm y).name (PG.2.1 y).1 (PG.2.1 y).2.1 (PG.2.1 y).2.2.2.1 (pPc y) (pHi y i) (pPc y i) (12, oa, ob, oc, od, oq, on, ol, oe) = true) (hev : mApp (mExec PG 12 oa ob oc od on ol y L S sh M J nc ns) (mEv PG n) = some r) : W p l e R s m args below meth c H locs nc ns Q (F0 m (pPc y i) ls (S.map (mTr ρ))) := by
  simp only [mExec] at hev
  split at hev
  · rename_i v S2
    split at hev
    · rename_i w hw
      exact so12 (ρ := ρ) C hm hw (IH p l e R s m args below meth c Q y _ _ _ sh M J nc ns r D A ρ0 M0 sh0 ρ H locs _ (show mEv PG n (y, on, L, w :: S2, sh, M, J, nc, ns) = some r from hev) C I hL hret)
    · exact mNo_not hev
  · exact mNo_not hev
theorem sx13 (IH : mSim n) (C : mAct p s m args meth c R y D A ρ0 M0) (I : mHI s y D A ρ0 M0 sh0 ρ sh M J nc ns H locs) (hL : mLoc ρ ls (PG.2.1 y).1 L) (hret : mRetH p l e R s m args below meth c Q y D A ρ0 M0 sh0 r) (hm : okOp (pby y) (pnm y).cls (pnm y).name (PG.2.1 y).1 (PG.2.1 y).2.1 (PG.2.1 y).2.2.2.1 (pPc y) (pHi y i) (pPc y i) (13, oa, ob, oc, od, oq, on, ol, oe) = true) (hev : mApp (mExec PG 13 oa ob oc od on ol y L S sh M J nc ns) (mEv PG n) = some r) : W p l e R s m args below meth c H locs nc ns Q (F0 m (pPc y i) ls (S.map (mTr ρ))) := by
  simp only [mExec] at hev
  split at hev
  · rename_i v x S2
    exact so13 C hm (IH p l e R s m args below meth c Q y _ _ _ sh M J nc ns r D A ρ0 M0 sh0 ρ H locs _ (show mEv PG n (y, on, L, .int (lg_cmp x v) :: S2, sh, M, J, nc, ns) = some r from hev) C I hL hret)
  · exact mNo_not hev
theorem sx14 (IH : mSim n) (C : mAct p s m args meth c R y D A ρ0 M0) (I : mHI s y D A ρ0 M0 sh0 ρ sh M J nc ns H locs) (hL : mLoc ρ ls (PG.2.1 y).1 L) (hret : mRetH p l e R s m args below meth c Q y D A ρ0 M0 sh0 r) (hm : okOp (pby y) (pnm y).cls (pnm y).name (PG.2.1 y).1 (PG.2.1 y).2.1 (PG.2.1 y).2.2.2.1 (pPc y) (pHi y i) (pPc y i) (14, oa, ob, oc, od, oq, on, ol, oe) = true) (hev : mApp (mExec PG 14 oa ob oc od on ol y L S sh M J nc ns) (mEv PG n) = some r) : W p l e R s m args below meth c H locs nc ns Q (F0 m (pPc y i) ls (S.map (mTr ρ))) := by
  simp only [mExec] at hev
  split at hev
  · rename_i v S2
    split at hev
    · rename_i hv
      exact so14 C hm (by rw [mTr_cat]; rcases lv_cat v with q | q; exact q; rw [mCat2_iff.mpr q] at hv; cases hv) (IH p l e R s m args below meth c Q y _ _ _ sh M J nc ns r D A ρ0 M0 sh0 ρ H locs _ (show mEv PG n (y, on, L, v :: v :: S2, sh, M, J, nc, ns) = some r from hev) C I hL hret)
    · exact mNo_not hev
  · exact mNo_not hev
theorem sx15 (IH : mSim n) (C : mAct p s m args meth c R y D A ρ0 M0) (I : mHI s y D A ρ0 M0 sh0 ρ sh M J nc ns H locs) (hL : mLoc ρ ls (PG.2.1 y).1 L) (hret : mRetH p l e R s m args below meth c Q y D A ρ0 M0 sh0 r) (hm : okOp (pby y) (pnm y).cls (pnm y).name (PG.2.1 y).1 (PG.2.1 y).2.1 (PG.2.1 y).2.2.2.1 (pPc y) (pHi y i) (pPc y i) (15, oa, ob, oc, od, oq, on, ol, oe) = true) (hev : mApp (mExec PG 15 oa ob oc od on ol y L S sh M J nc ns) (mEv PG n) = some r) : W p l e R s m args below meth c H locs nc ns Q (F0 m (pPc y i) ls (S.map (mTr ρ))) := by
  simp only [mExec] at hev
  split at hev
  · rename_i v S2
    split at hev
    · rename_i hv
      exact so15 C hm (by rw [mTr_cat]; rcases lv_cat v with q | q; exact q; rw [mCat2_iff.mpr q] at hv; cases hv) (IH p l e R s m args below meth c Q y _ _ _ sh M J nc ns r D A ρ0 M0 sh0 ρ H locs _ (show mEv PG n (y, on, L, S2, sh, M, J, nc, ns) = some r from hev) C I hL hret)
    · exact mNo_not hev
  · exact mNo_not hev
theorem sx16 (IH : mSim n) (C : mAct p s m args meth c R y D A ρ0 M0) (I : mHI s y D A ρ0 M0 sh0 ρ sh M J nc ns H locs) (hL : mLoc ρ ls (PG.2.1 y).1 L) (hret : mRetH p l e R s m args below meth c Q y D A ρ0 M0 sh0 r) (hm : okOp (pby y) (pnm y).cls (pnm y).name (PG.2.1 y).1 (PG.2.1 y).2.1 (PG.2.1 y).2.2.2.1 (pPc y) (pHi y i) (pPc y i) (16, oa, ob, oc, od, oq, on, ol, oe) = true) (hev : mApp (mExec PG 16 oa ob oc od on ol y L S sh M J nc ns) (mEv PG n) = some r) : W p l e R s m args below meth c H locs nc ns Q (F0 m (pPc y i) ls (S.map (mTr ρ))) := by
  simp only [mExec] at hev
  exact so16 C hm (IH p l e R s m args below meth c Q y _ _ _ sh M J nc ns r D A ρ0 M0 sh0 ρ H locs _ (show mEv PG n (y, oa, L, S, sh, M, J, nc, ns) = some r from hev) C I hL hret)
theorem sx17 (IH : mSim n) (C : mAct p s m args meth c R y D A ρ0 M0) (I : mHI s y D A ρ0 M0 sh0 ρ sh M J nc ns H locs) (hL : mLoc ρ ls (PG.2.1 y).1 L) (hret : mRetH p l e R s m args below meth c Q y D A ρ0 M0 sh0 r) (hm : okOp (pby y) (pnm y).cls (pnm y).name (PG.2.1 y).1 (PG.2.1 y).2.1 (PG.2.1 y).2.2.2.1 (pPc y) (pHi y i) (pPc y i) (17, oa, ob, oc, od, oq, on, ol, oe) = true) (hev : mApp (mExec PG 17 oa ob oc od on ol y L S sh M J nc ns) (mEv PG n) = some r) : W p l e R s m args below meth c H locs nc ns Q (F0 m (pPc y i) ls (S.map (mTr ρ))) := by
  simp only [mExec] at hev
  split at hev
  · rename_i x S2
    obtain ⟨h1, h2⟩ := mIf1_ev hev
    exact so17 C hm (fun q => (IH p l e R s m args below meth c Q y _ _ _ sh M J nc ns r D A ρ0 M0 sh0 ρ H locs _ (h1 q) C I hL hret)) (fun q => (IH p l e R s m args below meth c Q y _ _ _ sh M J nc ns r D A ρ0 M0 sh0 ρ H locs _ (h2 q) C I hL hret))
  · exact mNo_not hev
theorem sx18 (IH : mSim n) (C : mAct p s m args meth c R y D A ρ0 M0) (I : mHI s y D A ρ0 M0 sh0 ρ sh M J nc ns H locs) (hL : mLoc ρ ls (PG.2.1 y).1 L) (hret : mRetH p l e R s m args below meth c Q y D A ρ0 M0 sh0 r) (hm : okOp (pby y) (pnm y).cls (pnm y).name (PG.2.1 y).1 (PG.2.1 y).2.1 (PG.2.1 y).2.2.2.1 (pPc y) (pHi y i) (pPc y i) (18, oa, ob, oc, od, oq, on, ol, oe) = true) (hev : mApp (mExec PG 18 oa ob oc od on ol y L S sh M J nc ns) (mEv PG n) = some r) : W p l e R s m args below meth c H locs nc ns Q (F0 m (pPc y i) ls (S.map (mTr ρ))) := by
  simp only [mExec] at hev
  split at hev
  · rename_i v x S2
    obtain ⟨h1, h2⟩ := mIf1_ev hev
    exact so18 C hm (fun q => (IH p l e R s m args below meth c Q y _ _ _ sh M J nc ns r D A ρ0 M0 sh0 ρ H locs _ (h1 q) C I hL hret)) (fun q => (IH p l e R s m args below meth c Q y _ _ _ sh M J nc ns r D A ρ0 M0 sh0 ρ H locs _ (h2 q) C I hL hret))
  · exact mNo_not hev
theorem sx19 (IH : mSim n) (C : mAct p s m args meth c R y D A ρ0 M0) (I : mHI s y D A ρ0 M0 sh0 ρ sh M J nc ns H locs) (hL : mLoc ρ ls (PG.2.1 y).1 L) (hret : mRetH p l e R s m args below meth c Q y D A ρ0 M0 sh0 r) (hm : okOp (pby y) (pnm y).cls (pnm y).name (PG.2.1 y).1 (PG.2.1 y).2.1 (PG.2.1 y).2.2.2.1 (pPc y) (pHi y i) (pPc y i) (19, oa, ob, oc, od, oq, on, ol, oe) = true) (hev : mApp (mExec PG 19 oa ob oc od on ol y L S sh M J nc ns) (mEv PG n) = some r) : W p l e R s m args below meth c H locs nc ns Q (F0 m (pPc y i) ls (S.map (mTr ρ))) := by
  simp only [mExec] at hev
  split at hev
  · rename_i x S2
    obtain ⟨h1, h2⟩ := mSw_ev (K := mEv PG n) ol ob hev
    by_cases hall : ∀ j, j < ol.length → ¬ x = nI (ob + j)
    · exact so19 C hm (fun j t hj he => absurd he (hall j (List.getElem?_eq_some_iff.mp hj).1)) (fun _ => (IH p l e R s m args below meth c Q y _ _ _ sh M J nc ns r D A ρ0 M0 sh0 ρ H locs _ (h2 hall) C I hL hret))
    · refine so19 C hm (fun j t hj he => ?_) (fun q => absurd q hall)
      by_cases hlt : ∀ i, i < j → ¬ x = nI (ob + i)
      · exact (IH p l e R s m args below meth c Q y _ _ _ sh M J nc ns r D A ρ0 M0 sh0 ρ H locs _ (h1 j t hlt hj he) C I hL hret)
      · refine absurd (fun i hi hx => ?_) hlt
        have hb := ok19_lt hm
        have hjl := (List.getElem?_eq_some_iff.mp hj).1
        have := (nI_eq (by omega) (by omega)).mp (hx.symm.trans he)
        omega
  · exact mNo_not hev
theorem sx20 (IH : mSim n) (C : mAct p s m args meth c R y D A ρ0 M0) (I : mHI s y D A ρ0 M0 sh0 ρ sh M J nc ns H locs) (hL : mLoc ρ ls (PG.2.1 y).1 L) (hret : mRetH p l e R s m args below meth c Q y D A ρ0 M0 sh0 r) (hm : okOp (pby y) (pnm y).cls (pnm y).name (PG.2.1 y).1 (PG.2.1 y).2.1 (PG.2.1 y).2.2.2.1 (pPc y) (pHi y i) (pPc y i) (20, oa, ob, oc, od, oq, on, ol, oe) = true) (hev : mApp (mExec PG 20 oa ob oc od on ol y L S sh M J nc ns) (mEv PG n) = some r) : W p l e R s m args below meth c H locs nc ns Q (F0 m (pPc y i) ls (S.map (mTr ρ))) := by
  simp only [mExec] at hev
  split at hev
  · rename_i a S2
    have hm : ok20 (pby y) (pnm y).cls (pHi y i) (mNth 9 ol 0) oa ob (pPc y i) (pPc y on) = true := hm
    have hev : mApp (mGetf (mAt pcon sh a) (mNth 9 ol 0) oa ob a y on L S2 sh M J nc ns) (mEv PG n) = some r := hev
    unfold mGetf at hev
    split at hev
    · rename_i hk
      rcases mAt_or I.2.2.2.2.2.1.2 (by rw [hk]; decide) with ⟨w0, -⟩ | ⟨j, -, -, w0⟩
      · split at hev
        · rename_i hci
          have hci : (mAt pcon sh a).2.1 = mNth 9 ol 0 := by simpa using hci
          split at hev
          · exact so20 C I hm w0 hk hci (Or.inl ⟨rfl, rfl⟩) (IH p l e R s m args below meth c Q y _ _ _ sh M J nc ns r D A ρ0 M0 sh0 ρ H locs _ (show mEv PG n (y, on, L, .int (M a oa) :: S2, sh, M, J, nc, ns) = some r from hev) C I hL hret)
          · rename_i hb0
            split at hev
            · exact mNo_not hev
            · rename_i q hq
              exact so20 C I hm w0 hk hci (Or.inr ⟨hb0, q, hq, rfl⟩) (IH p l e R s m args below meth c Q y _ _ _ sh M J nc ns r D A ρ0 M0 sh0 ρ H locs _ (show mEv PG n (y, on, L, .ref q :: S2, sh, M, J, nc, ns) = some r from hev) C I hL hret)
        · exact mNo_not hev
      · rw [hk] at w0
        simp at w0
    · rename_i hk
      rcases mAt_or I.2.2.2.2.2.1.2 (by rw [hk]; decide) with ⟨-, w0⟩ | ⟨j, rfl, w0, -⟩
      · rw [hk] at w0
        simp at w0
      · have hp : ∀ q, mNth 0 (mAt pcon sh (1000 + j)).2.2 0 = q + 1 → 999 ≤ q := fun q hq => by
          have := (pcon_tx _ (List.mem_of_getElem? w0) hk).2
          omega
        split at hev
        · rename_i hci
          have hci : mNth 9 ol 0 = 8 := by simpa using hci
          rw [hci] at hm
          split at hev
          · exact so20s C I hm w0 hk (Or.inl ⟨rfl, rfl⟩) hp (IH p l e R s m args below meth c Q y _ _ _ sh M J nc ns r D A ρ0 M0 sh0 ρ H locs _ (show mEv PG n (y, on, L, .int 0 :: S2, sh, M, J, nc, ns) = some r from hev) C I hL hret)
          · rename_i hb0
            split at hev
            · exact mNo_not hev
            · rename_i q hq
              exact so20s C I hm w0 hk (Or.inr ⟨hb0, q, hq, rfl⟩) hp (IH p l e R s m args below meth c Q y _ _ _ sh M J nc ns r D A ρ0 M0 sh0 ρ H locs _ (show mEv PG n (y, on, L, .ref q :: S2, sh, M, J, nc, ns) = some r from hev) C I hL hret)
        · exact mNo_not hev
    · exact mNo_not hev
  · exact mNo_not hev
theorem sx21 (IH : mSim n) (C : mAct p s m args meth c R y D A ρ0 M0) (I : mHI s y D A ρ0 M0 sh0 ρ sh M J nc ns H locs) (hL : mLoc ρ ls (PG.2.1 y).1 L) (hret : mRetH p l e R s m args below meth c Q y D A ρ0 M0 sh0 r) (hm : okOp (pby y) (pnm y).cls (pnm y).name (PG.2.1 y).1 (PG.2.1 y).2.1 (PG.2.1 y).2.2.2.1 (pPc y) (pHi y i) (pPc y i) (21, oa, ob, oc, od, oq, on, ol, oe) = true) (hev : mApp (mExec PG 21 oa ob oc od on ol y L S sh M J nc ns) (mEv PG n) = some r) : W p l e R s m args below meth c H locs nc ns Q (F0 m (pPc y i) ls (S.map (mTr ρ))) := by
  simp only [mExec] at hev
  have hm := hm
  simp only [okOp, Bool.and_eq_true, decide_eq_true_eq] at hm
  split at hev
  · rename_i v a S2
    split at hev
    · rename_i ho
      obtain ⟨o1, o2, o3⟩ := mObj_at I.2.2.2.2.2.1.2 ho
      exact so21 C I hm.1 o1 o2 o3 (fun q => by cases q) (fun H1 locs1 I1 => hm.2 ▸ IH p l e R s m args below meth c Q y _ _ _ _ _ _ _ _ r D A ρ0 M0 sh0 ρ H1 locs1 _ (show mEv PG n (y, on, L, S2, sh, mUp M a oa v, J, nc, ns) = some r from hev) C I1 hL hret)
    · exact mNo_not hev
  · exact mNo_not hev
theorem sx22 (IH : mSim n) (C : mAct p s m args meth c R y D A ρ0 M0) (I : mHI s y D A ρ0 M0 sh0 ρ sh M J nc ns H locs) (hL : mLoc ρ ls (PG.2.1 y).1 L) (hret : mRetH p l e R s m args below meth c Q y D A ρ0 M0 sh0 r) (hm : okOp (pby y) (pnm y).cls (pnm y).name (PG.2.1 y).1 (PG.2.1 y).2.1 (PG.2.1 y).2.2.2.1 (pPc y) (pHi y i) (pPc y i) (22, oa, ob, oc, od, oq, on, ol, oe) = true) (hev : mApp (mExec PG 22 oa ob oc od on ol y L S sh M J nc ns) (mEv PG n) = some r) : W p l e R s m args below meth c H locs nc ns Q (F0 m (pPc y i) ls (S.map (mTr ρ))) := by
  simp only [mExec] at hev
  exact so22 C I hm (IH p l e R s m args below meth c Q y _ _ _ sh M J nc ns r D A ρ0 M0 sh0 ρ H locs _ (show mEv PG n (y, on, L, .ref oa :: S, sh, M, J, nc, ns) = some r from hev) C I hL hret)
theorem sx23 (IH : mSim n) (C : mAct p s m args meth c R y D A ρ0 M0) (I : mHI s y D A ρ0 M0 sh0 ρ sh M J nc ns H locs) (hL : mLoc ρ ls (PG.2.1 y).1 L) (hret : mRetH p l e R s m args below meth c Q y D A ρ0 M0 sh0 r) (hm : okOp (pby y) (pnm y).cls (pnm y).name (PG.2.1 y).1 (PG.2.1 y).2.1 (PG.2.1 y).2.2.2.1 (pPc y) (pHi y i) (pPc y i) (23, oa, ob, oc, od, oq, on, ol, oe) = true) (hev : mApp (mExec PG 23 oa ob oc od on ol y L S sh M J nc ns) (mEv PG n) = some r) : W p l e R s m args below meth c H locs nc ns Q (F0 m (pPc y i) ls (S.map (mTr ρ))) := by
  simp only [mExec] at hev
  split at hev
  · rename_i x a S2
    split at hev
    · rename_i k hk
      obtain ⟨hq, hev⟩ := mCk_ev hev
      exact so23 C I hm hk hq (IH p l e R s m args below meth c Q y _ _ _ sh M J nc ns r D A ρ0 M0 sh0 ρ H locs _ hev C I hL hret)
    · exact mNo_not hev
  · exact mNo_not hev
theorem sx24 (IH : mSim n) (C : mAct p s m args meth c R y D A ρ0 M0) (I : mHI s y D A ρ0 M0 sh0 ρ sh M J nc ns H locs) (hL : mLoc ρ ls (PG.2.1 y).1 L) (hret : mRetH p l e R s m args below meth c Q y D A ρ0 M0 sh0 r) (hm : okOp (pby y) (pnm y).cls (pnm y).name (PG.2.1 y).1 (PG.2.1 y).2.1 (PG.2.1 y).2.2.2.1 (pPc y) (pHi y i) (pPc y i) (24, oa, ob, oc, od, oq, on, ol, oe) = true) (hev : mApp (mExec PG 24 oa ob oc od on ol y L S sh M J nc ns) (mEv PG n) = some r) : W p l e R s m args below meth c H locs nc ns Q (F0 m (pPc y i) ls (S.map (mTr ρ))) := by
  simp only [mExec] at hev
  split at hev
  · rename_i x a S2
    split at hev
    · rename_i hk
      obtain ⟨hq, hev⟩ := mCk_ev hev
      exact so24 C I hm hk hq (IH p l e R s m args below meth c Q y _ _ _ sh M J nc ns r D A ρ0 M0 sh0 ρ H locs _ hev C I hL hret)
    · exact mNo_not hev
  · exact mNo_not hev
theorem sx25 (IH : mSim n) (C : mAct p s m args meth c R y D A ρ0 M0) (I : mHI s y D A ρ0 M0 sh0 ρ sh M J nc ns H locs) (hL : mLoc ρ ls (PG.2.1 y).1 L) (hret : mRetH p l e R s m args below meth c Q y D A ρ0 M0 sh0 r) (hm : okOp (pby y) (pnm y).cls (pnm y).name (PG.2.1 y).1 (PG.2.1 y).2.1 (PG.2.1 y).2.2.2.1 (pPc y) (pHi y i) (pPc y i) (25, oa, ob, oc, od, oq, on, ol, oe) = true) (hev : mApp (mExec PG 25 oa ob oc od on ol y L S sh M J nc ns) (mEv PG n) = some r) : W p l e R s m args below meth c H locs nc ns Q (F0 m (pPc y i) ls (S.map (mTr ρ))) := by
  simp only [mExec] at hev
  split at hev
  · rename_i x a S2
    split at hev
    · rename_i hk
      obtain ⟨j, t, h1, h2, h3⟩ := mRw_ev (K := mEv PG n) _ 0 hev
      rw [Nat.zero_add] at h2
      exact so25 C I hm hk h1 h2 (IH p l e R s m args below meth c Q y _ _ _ sh M J nc ns r D A ρ0 M0 sh0 ρ H locs _ h3 C I hL hret)
    · exact mNo_not hev
  · exact mNo_not hev
theorem sx26 (IH : mSim n) (C : mAct p s m args meth c R y D A ρ0 M0) (I : mHI s y D A ρ0 M0 sh0 ρ sh M J nc ns H locs) (hL : mLoc ρ ls (PG.2.1 y).1 L) (hret : mRetH p l e R s m args below meth c Q y D A ρ0 M0 sh0 r) (hm : okOp (pby y) (pnm y).cls (pnm y).name (PG.2.1 y).1 (PG.2.1 y).2.1 (PG.2.1 y).2.2.2.1 (pPc y) (pHi y i) (pPc y i) (26, oa, ob, oc, od, oq, on, ol, oe) = true) (hev : mApp (mExec PG 26 oa ob oc od on ol y L S sh M J nc ns) (mEv PG n) = some r) : W p l e R s m args below meth c H locs nc ns Q (F0 m (pPc y i) ls (S.map (mTr ρ))) := by
  simp only [mExec] at hev
  split at hev
  · rename_i v x a S2
    split at hev
    · rename_i hk
      obtain ⟨hq, hev⟩ := mCk_ev hev
      exact so26 C I hm hk hq (fun H1 locs1 I1 => IH p l e R s m args below meth c Q y _ _ _ _ _ _ _ _ r D A ρ0 M0 sh0 ρ H1 locs1 _ hev C I1 hL hret)
    · exact mNo_not hev
  · exact mNo_not hev
theorem sx27 (IH : mSim n) (C : mAct p s m args meth c R y D A ρ0 M0) (I : mHI s y D A ρ0 M0 sh0 ρ sh M J nc ns H locs) (hL : mLoc ρ ls (PG.2.1 y).1 L) (hret : mRetH p l e R s m args below meth c Q y D A ρ0 M0 sh0 r) (hm : okOp (pby y) (pnm y).cls (pnm y).name (PG.2.1 y).1 (PG.2.1 y).2.1 (PG.2.1 y).2.2.2.1 (pPc y) (pHi y i) (pPc y i) (27, oa, ob, oc, od, oq, on, ol, oe) = true) (hev : mApp (mExec PG 27 oa ob oc od on ol y L S sh M J nc ns) (mEv PG n) = some r) : W p l e R s m args below meth c H locs nc ns Q (F0 m (pPc y i) ls (S.map (mTr ρ))) := by
  simp only [mExec] at hev
  split at hev
  · rename_i v x a S2
    split at hev
    · rename_i hk
      obtain ⟨hq, hev⟩ := mCk_ev hev
      exact so27 C I hm hk hq (fun H1 locs1 I1 => IH p l e R s m args below meth c Q y _ _ _ _ _ _ _ _ r D A ρ0 M0 sh0 ρ H1 locs1 _ hev C I1 hL hret)
    · exact mNo_not hev
  · exact mNo_not hev
theorem sx29 (IH : mSim n) (C : mAct p s m args meth c R y D A ρ0 M0) (I : mHI s y D A ρ0 M0 sh0 ρ sh M J nc ns H locs) (hL : mLoc ρ ls (PG.2.1 y).1 L) (hret : mRetH p l e R s m args below meth c Q y D A ρ0 M0 sh0 r) (hm : okOp (pby y) (pnm y).cls (pnm y).name (PG.2.1 y).1 (PG.2.1 y).2.1 (PG.2.1 y).2.2.2.1 (pPc y) (pHi y i) (pPc y i) (29, oa, ob, oc, od, oq, on, ol, oe) = true) (hev : mApp (mExec PG 29 oa ob oc od on ol y L S sh M J nc ns) (mEv PG n) = some r) : W p l e R s m args below meth c H locs nc ns Q (F0 m (pPc y i) ls (S.map (mTr ρ))) := by
  simp only [mExec] at hev
  split at hev
  · rename_i a S2
    split at hev
    · rename_i k hk
      exact so29 C I hm hk (IH p l e R s m args below meth c Q y _ _ _ sh M J nc ns r D A ρ0 M0 sh0 ρ H locs _ (show mEv PG n (y, on, L, .int k :: S2, sh, M, J, nc, ns) = some r from hev) C I hL hret)
    · exact mNo_not hev
  · exact mNo_not hev
theorem sx34 (IH : mSim n) (C : mAct p s m args meth c R y D A ρ0 M0) (I : mHI s y D A ρ0 M0 sh0 ρ sh M J nc ns H locs) (hL : mLoc ρ ls (PG.2.1 y).1 L) (hret : mRetH p l e R s m args below meth c Q y D A ρ0 M0 sh0 r) (hm : okOp (pby y) (pnm y).cls (pnm y).name (PG.2.1 y).1 (PG.2.1 y).2.1 (PG.2.1 y).2.2.2.1 (pPc y) (pHi y i) (pPc y i) (34, oa, ob, oc, od, oq, on, ol, oe) = true) (hev : mApp (mExec PG 34 oa ob oc od on ol y L S sh M J nc ns) (mEv PG n) = some r) : W p l e R s m args below meth c H locs nc ns Q (F0 m (pPc y i) ls (S.map (mTr ρ))) := by
  simp only [mExec] at hev
  exact hret i ρ S sh M J nc ns H locs ls hm hev I
theorem sx35 (IH : mSim n) (C : mAct p s m args meth c R y D A ρ0 M0) (I : mHI s y D A ρ0 M0 sh0 ρ sh M J nc ns H locs) (hL : mLoc ρ ls (PG.2.1 y).1 L) (hret : mRetH p l e R s m args below meth c Q y D A ρ0 M0 sh0 r) (hm : okOp (pby y) (pnm y).cls (pnm y).name (PG.2.1 y).1 (PG.2.1 y).2.1 (PG.2.1 y).2.2.2.1 (pPc y) (pHi y i) (pPc y i) (35, oa, ob, oc, od, oq, on, ol, oe) = true) (hev : mApp (mExec PG 35 oa ob oc od on ol y L S sh M J nc ns) (mEv PG n) = some r) : W p l e R s m args below meth c H locs nc ns Q (F0 m (pPc y i) ls (S.map (mTr ρ))) := by
  simp only [mExec] at hev
  have hm := hm
  simp only [okOp, Bool.and_eq_true, decide_eq_true_eq] at hm
  split at hev
  · rename_i k dp d sp a S2
    split at hev
    · rename_i hk
      simp only [Bool.and_eq_true, Bool.or_eq_true, beq_iff_eq, Nat.blt_eq, Bool.not_eq_true', beq_eq_false_iff_ne] at hk
      obtain ⟨⟨hk1, hk2, hk3⟩, hk4⟩ := hk
      obtain ⟨hq, hev2⟩ := mCk_ev hev
      obtain ⟨⟨rfl, rfl⟩, hn1, hn2⟩ := hq
      exact so35 C I hL.1 hm.1 hm.2 (mShort_le hk4) hk1 hk2 hk3 hn1 hn2 (fun H1 locs1 I1 => IH p l e R s m args below meth c Q y _ _ _ _ _ _ _ _ r D A ρ0 M0 sh0 ρ H1 locs1 _ hev2 C I1 hL hret)
    · exact mNo_not hev
  · exact mNo_not hev
theorem sx37 (IH : mSim n) (C : mAct p s m args meth c R y D A ρ0 M0) (I : mHI s y D A ρ0 M0 sh0 ρ sh M J nc ns H locs) (hL : mLoc ρ ls (PG.2.1 y).1 L) (hret : mRetH p l e R s m args below meth c Q y D A ρ0 M0 sh0 r) (hm : okOp (pby y) (pnm y).cls (pnm y).name (PG.2.1 y).1 (PG.2.1 y).2.1 (PG.2.1 y).2.2.2.1 (pPc y) (pHi y i) (pPc y i) (37, oa, ob, oc, od, oq, on, ol, oe) = true) (hev : mApp (mExec PG 37 oa ob oc od on ol y L S sh M J nc ns) (mEv PG n) = some r) : W p l e R s m args below meth c H locs nc ns Q (F0 m (pPc y i) ls (S.map (mTr ρ))) := by
  simp only [mExec] at hev
  have hm := hm
  simp only [okOp, Bool.and_eq_true, decide_eq_true_eq] at hm
  split at hev
  · rename_i a S2
    split at hev
    · rename_i hk
      exact so37 C hL.1 hm.1 hm.2 (mShort_le hk) (IH p l e R s m args below meth c Q y _ _ _ sh M J nc ns r D A ρ0 M0 sh0 ρ H locs _ (show mEv PG n (y, on, L, S2, sh, M, J, nc, ns) = some r from hev) C I hL hret)
    · exact mNo_not hev
  · exact mNo_not hev
theorem sx39 (IH : mSim n) (C : mAct p s m args meth c R y D A ρ0 M0) (I : mHI s y D A ρ0 M0 sh0 ρ sh M J nc ns H locs) (hL : mLoc ρ ls (PG.2.1 y).1 L) (hret : mRetH p l e R s m args below meth c Q y D A ρ0 M0 sh0 r) (hm : okOp (pby y) (pnm y).cls (pnm y).name (PG.2.1 y).1 (PG.2.1 y).2.1 (PG.2.1 y).2.2.2.1 (pPc y) (pHi y i) (pPc y i) (39, oa, ob, oc, od, oq, on, ol, oe) = true) (hev : mApp (mExec PG 39 oa ob oc od on ol y L S sh M J nc ns) (mEv PG n) = some r) : W p l e R s m args below meth c H locs nc ns Q (F0 m (pPc y i) ls (S.map (mTr ρ))) := by
  simp only [mExec] at hev
  have hm := hm
  simp only [okOp, Bool.and_eq_true, decide_eq_true_eq] at hm
  split at hev
  · rename_i a S2
    split at hev
    · rename_i ho
      obtain ⟨o1, o2, o3⟩ := mObj_at I.2.2.2.2.2.1.2 ho
      exact so39 C I hm.1 hm.2.1 o1 o2 o3 (fun H1 locs1 I1 => hm.2.2 ▸ IH p l e R s m args below meth c Q y _ _ _ _ _ _ _ _ r D A ρ0 M0 sh0 ρ H1 locs1 _ (show mEv PG n (y, on, L, S2, sh, mUp M a oa oc, J, nc, ns) = some r from hev) C I1 hL hret)
    · exact mNo_not hev
  · exact mNo_not hev
theorem sx40 (IH : mSim n) (C : mAct p s m args meth c R y D A ρ0 M0) (I : mHI s y D A ρ0 M0 sh0 ρ sh M J nc ns H locs) (hL : mLoc ρ ls (PG.2.1 y).1 L) (hret : mRetH p l e R s m args below meth c Q y D A ρ0 M0 sh0 r) (hm : okOp (pby y) (pnm y).cls (pnm y).name (PG.2.1 y).1 (PG.2.1 y).2.1 (PG.2.1 y).2.2.2.1 (pPc y) (pHi y i) (pPc y i) (40, oa, ob, oc, od, oq, on, ol, oe) = true) (hev : mApp (mExec PG 40 oa ob oc od on ol y L S sh M J nc ns) (mEv PG n) = some r) : W p l e R s m args below meth c H locs nc ns Q (F0 m (pPc y i) ls (S.map (mTr ρ))) := by
  simp only [mExec] at hev
  have hm := hm
  simp only [okOp, Bool.and_eq_true, decide_eq_true_eq] at hm
  split at hev
  · rename_i x a S2
    split at hev
    · rename_i hk
      obtain ⟨hq, hev⟩ := mCk_ev hev
      exact so40 C I hm.1 hm.2 hk hq (fun H1 locs1 I1 => IH p l e R s m args below meth c Q y _ _ _ _ _ _ _ _ r D A ρ0 M0 sh0 ρ H1 locs1 _ hev C I1 hL hret)
    · exact mNo_not hev
  · exact mNo_not hev
theorem sx41 (IH : mSim n) (C : mAct p s m args meth c R y D A ρ0 M0) (I : mHI s y D A ρ0 M0 sh0 ρ sh M J nc ns H locs) (hL : mLoc ρ ls (PG.2.1 y).1 L) (hret : mRetH p l e R s m args below meth c Q y D A ρ0 M0 sh0 r) (hm : okOp (pby y) (pnm y).cls (pnm y).name (PG.2.1 y).1 (PG.2.1 y).2.1 (PG.2.1 y).2.2.2.1 (pPc y) (pHi y i) (pPc y i) (41, oa, ob, oc, od, oq, on, ol, oe) = true) (hev : mApp (mExec PG 41 oa ob oc od on ol y L S sh M J nc ns) (mEv PG n) = some r) : W p l e R s m args below meth c H locs nc ns Q (F0 m (pPc y i) ls (S.map (mTr ρ))) := by
  simp only [mExec] at hev
  have hm := hm
  simp only [okOp, Bool.and_eq_true, decide_eq_true_eq] at hm
  split at hev
  · rename_i v x S2
    split at hev
    · rename_i hk
      exact so41i C I hL.1 hm.1 (by decide) hm.2 (mShort_le (by assumption)) (IH p l e R s m args below meth c Q y _ _ _ sh M J nc ns r D A ρ0 M0 sh0 ρ H locs _ (show mEv PG n (y, on, L, .int (mMx 0 x v) :: S2, sh, M, J, nc, ns) = some r from hev) C I hL hret)
    · rename_i hk
      exact so41i C I hL.1 hm.1 (by decide) hm.2 (mShort_le (by assumption)) (IH p l e R s m args below meth c Q y _ _ _ sh M J nc ns r D A ρ0 M0 sh0 ρ H locs _ (show mEv PG n (y, on, L, .int (mMx 1 x v) :: S2, sh, M, J, nc, ns) = some r from hev) C I hL hret)
    · exact mNo_not hev
  · rename_i v x S2
    split at hev
    · rename_i hk
      exact so41j C I hL.1 hm.1 hm.2 (mShort_le (by assumption)) (IH p l e R s m args below meth c Q y _ _ _ sh M J nc ns r D A ρ0 M0 sh0 ρ H locs _ (show mEv PG n (y, on, L, .long (mMxJ x v) :: S2, sh, M, J, nc, ns) = some r from hev) C I hL hret)
    · exact mNo_not hev
  · exact mNo_not hev
end SIM
