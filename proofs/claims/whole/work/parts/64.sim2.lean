/-! SOUNDNESS: calls, makers, all codes -/
section SIM
variable {p : Program} {l : Launch} {e : Env} {R : Room} {s : State} {m : MethodId} {args : Array Value} {below : List Frame} {meth : Method} {c : Code} {Q : State → Prop} {y i : Nat} {D : va_G} {A : Nat → Prop} {ρ0 : mRho} {M0 : mMI} {sh0 : List mSC} {ρ : mRho} {sh : List mSC} {M : mMI} {J : mMJ} {nc ns : Nat} {H : Heap} {locs : List Loc} {ls : Array Slot} {L : List (Option Value)} {S : List Value} {r : mRs} {oa ob on oq : Nat} {oc : Int32} {od : Int64} {ol oe : List Nat} {n : Nat}
set_option maxHeartbeats 4000000 in
theorem sx33 (hz : ∀ z, z < 197 → okZ z = true) (IH : mSim n) (C : mAct p s m args meth c R y D A ρ0 M0) (I : mHI s y D A ρ0 M0 sh0 ρ sh M J nc ns H locs) (hL : mLoc ρ ls (PG.2.1 y).1 L) (hret : mRetH p l e R s m args below meth c Q y D A ρ0 M0 sh0 r) (hm : okOp (pby y) (pnm y).cls (pnm y).name (PG.2.1 y).1 (PG.2.1 y).2.1 (PG.2.1 y).2.2.2.1 (pPc y) (pHi y i) (pPc y i) (33, oa, ob, oc, od, oq, on, ol, oe) = true) (hev : mApp (mExec PG 33 oa ob oc od on ol y L S sh M J nc ns) (mEv PG n) = some r) : W p l e R s m args below meth c H locs nc ns Q (F0 m (pPc y i) ls (S.map (mTr ρ))) := by
  have hm : ok33 (pby y) (pnm y).cls (pHi y i) oa ob (pPc y i) (pPc y on) = true := hm
  have hev : mApp (mCall PG oa ob y on L S sh M J nc ns) (mEv PG n) = some r := hev
  have hz1 : okZ oa = true := hz oa (by
    unfold ok33 at hm
    simp only [Bool.and_eq_true, decide_eq_true_eq] at hm
    exact hm.2.1)
  obtain ⟨-, -, ⟨-, -, -, -, -, h3n⟩, -, hrt, hpz⟩ := okZ_at hz1
  unfold mCall at hev
  split at hev
  · rename_i A1 S2 hrk hpop
    split at hev
    · rename_i hck
      simp only [Bool.and_eq_true, Nat.ble_eq] at hck
      obtain ⟨hsh, hrc, hal⟩ := hck
      obtain ⟨hst, hAl⟩ := mPop_eq hpop
      have hst : S = A1.reverse ++ S2 := by simpa using hst.symm
      have hAl : A1.length = ob := by simpa using hAl
      have hrk : (PG.2.1 oa).2.2.2.1 < (PG.2.1 y).2.2.2.1 := by simpa [Nat.blt_eq] using hrk
      rw [hst]
      unfold mCallK at hev
      split at hev
      · rename_i hp0
        split at hev
        · rename_i hpy hck2
          simp only [Bool.and_eq_true, Nat.ble_eq] at hck2
          obtain ⟨⟨hc1, hc2⟩, hc3, hc4⟩ := hck2
          rw [mApp_C] at hev
          obtain ⟨g, hg, hev⟩ := mBC_some hev
          refine so33 IH C I hL.1 hm hz1 hrk hc1 hc2 hAl hsh hrc hal hg (fun ρ2 H1 locs1 g1 g2 g3 g4 g5 g6 g7 g8 g9 => ?_)
          have I1 : mHI s y D A ρ0 M0 sh0 ρ2 g.1 g.2.1 g.2.2.1 (nc + (PG.2.1 oa).2.2.2.2.2.1) (ns + (PG.2.1 oa).2.2.2.2.2.2.1) H1 locs1 := by
            obtain ⟨-, -, -, -, -, -, -, h8, h9, -⟩ := I
            exact ⟨g6, g7, g8, g9, g5, g4, fun q => absurd hpy q, fun k hk => (g2 k (by omega)).trans (h8 k hk), Nat.le_trans h9 g3, hc1, hc2⟩
          have := IH p l e R s m args below meth c Q y on L S2 _ _ _ _ _ r D A ρ0 M0 sh0 ρ2 H1 locs1 ls hev C I1 (hL.re hc3 g2) hret
          rw [mTrS_re hc4 g2] at this
          exact this
        · exact mNo_not hev
      · rename_i hp0
        obtain ⟨hm0, hs0⟩ : (PG.2.1 oa).2.2.2.2.2.1 = 0 ∧ (PG.2.1 oa).2.2.2.2.2.2.1 = 0 := by
          rcases hpz with q | q
          · exact absurd q.1 hp0
          · exact q.2
        have hc1 : nc + (PG.2.1 oa).2.2.2.2.2.1 ≤ (PG.2.1 y).2.2.2.2.2.1 := by rw [hm0]; exact I.2.2.2.2.2.2.2.2.2.1
        have hc2 : ns + (PG.2.1 oa).2.2.2.2.2.2.1 ≤ (PG.2.1 y).2.2.2.2.2.2.1 := by rw [hs0]; exact I.2.2.2.2.2.2.2.2.2.2
        have fin : ∀ (v : Option Value) (g : mHp) (S3 : List Value), mEv PG n (mEnt PG oa A1 sh M J) = some (v, g) → mEv PG n (y, on, L, S3 ++ S2, sh, g.2.1, g.2.2.1, nc, ns) = some r → (v.map (mTr ρ)).toList = S3.map (mTr ρ) → W p l e R s m args below meth c H locs nc ns Q (F0 m (pPc y i) ls ((A1.reverse ++ S2).map (mTr ρ))) := by
          intro v g S3 hg hev2 hv
          refine so33 IH C I hL.1 hm hz1 hrk hc1 hc2 hAl hsh hrc hal hg (fun ρ2 H1 locs1 g1 g2 g3 g4 g5 g6 g7 g8 g9 => ?_)
          obtain ⟨e1, e2⟩ := g1 hp0
          subst e1
          have e2 : g.1 = sh := e2
          simp only [hm0, hs0, Nat.add_zero]
          have I1 : mHI s y D A ρ0 M0 sh0 ρ2 sh g.2.1 g.2.2.1 nc ns H1 locs1 := by
            obtain ⟨-, -, -, h4, -, h6, h7⟩ := I
            dsimp only at g6 g7 g9
            rw [e2] at g6 g7
            exact ⟨g6, g7, g8, h4, g5, h6, h7⟩
          have := IH p l e R s m args below meth c Q y on L (S3 ++ S2) sh _ _ nc ns r D A ρ0 M0 sh0 ρ2 H1 locs1 ls hev2 C I1 hL hret
          rw [List.map_append, ← hv] at this
          exact this
        split at hev
        · rw [mApp_R] at hev
          obtain ⟨v, g, h1, h2, h3⟩ := mBR_some hev
          rcases h2 with ⟨rfl, -⟩ | ⟨a, -, h2⟩
          · exact fin none g [] h1 h3 rfl
          · cases h2
        · rw [mApp_J] at hev
          obtain ⟨v, g, h1, h3⟩ := mBJ_some hev
          exact fin (some (.long v)) g [.long v] h1 h3 rfl
        · rw [mApp_R] at hev
          obtain ⟨v, g, h1, h2, h3⟩ := mBR_some hev
          rcases h2 with ⟨rfl, h2⟩ | ⟨a, rfl, h2⟩
          · rcases h3n with q | q
            · exact absurd (by assumption) q
            · exact absurd h2 q
          · rw [h2] at h3
            exact fin (some (.ref a)) g [.ref a] h1 h3 rfl
        · rw [mApp_I] at hev
          obtain ⟨v, g, h1, h3⟩ := mBI_some hev
          exact fin (some (.int v)) g [.int v] h1 h3 rfl
    · exact mNo_not hev
  · exact mNo_not hev
theorem mNew_ev {K : mCf → Option mRs} {k w q : Nat} {rs : List Nat} (h : mApp (mNew PG y on k w q rs L S sh M J nc ns) K = some r) : (sh.length < 900 ∧ nc + 1 ≤ (PG.2.1 y).2.2.2.2.2.1 ∧ ns + q ≤ (PG.2.1 y).2.2.2.2.2.2.1) ∧ (mNrO sh.length L = true ∧ mNrS sh.length S = true ∧ mNrH sh.length sh = true) ∧ K (y, on, L, .ref sh.length :: S, sh ++ [(k, w, rs)], mSet M sh.length (fun _ => 0), mSetJ J sh.length (fun _ => 0), nc + 1, ns + q) = some r := by
  unfold mNew at h
  split at h
  · rename_i hc
    simp only [Bool.and_eq_true, Nat.ble_eq, Nat.blt_eq] at hc
    exact ⟨hc.1, hc.2, h⟩
  · exact mNo_not h
theorem sx28 (IH : mSim n) (C : mAct p s m args meth c R y D A ρ0 M0) (I : mHI s y D A ρ0 M0 sh0 ρ sh M J nc ns H locs) (hL : mLoc ρ ls (PG.2.1 y).1 L) (hret : mRetH p l e R s m args below meth c Q y D A ρ0 M0 sh0 r) (hm : okOp (pby y) (pnm y).cls (pnm y).name (PG.2.1 y).1 (PG.2.1 y).2.1 (PG.2.1 y).2.2.2.1 (pPc y) (pHi y i) (pPc y i) (28, oa, ob, oc, od, oq, on, ol, oe) = true) (hpl : (PG.2.1 y).2.2.1 = 0) (hev : mApp (mMake PG 28 oa ob oc od on ol y L S sh M J nc ns) (mEv PG n) = some r) : W p l e R s m args below meth c H locs nc ns Q (F0 m (pPc y i) ls (S.map (mTr ρ))) := by
  have hm : okP (pby y) 28 (pPc y i) (pPc y on) = true := hm
  simp only [mMake] at hev
  split at hev
  · rename_i r1 x a S2
    split at hev
    · rename_i hc
      simp only [Bool.and_eq_true] at hc
      obtain ⟨j, h1, h2, h3⟩ := mRwS_ev (K := mEv PG n) _ 0 hev
      rw [Nat.zero_add] at h2 h3
      exact so28 C I hpl hm hc.1 hc.2 h1 h2 (fun H1 locs1 I1 => IH p l e R s m args below meth c Q y _ _ _ _ _ _ _ _ r D A ρ0 M0 sh0 ρ H1 locs1 _ h3 C I1 hL hret)
    · exact mNo_not hev
  · exact mNo_not hev
theorem sx30 (IH : mSim n) (C : mAct p s m args meth c R y D A ρ0 M0) (I : mHI s y D A ρ0 M0 sh0 ρ sh M J nc ns H locs) (hL : mLoc ρ ls (PG.2.1 y).1 L) (hret : mRetH p l e R s m args below meth c Q y D A ρ0 M0 sh0 r) (hm : okOp (pby y) (pnm y).cls (pnm y).name (PG.2.1 y).1 (PG.2.1 y).2.1 (PG.2.1 y).2.2.2.1 (pPc y) (pHi y i) (pPc y i) (30, oa, ob, oc, od, oq, on, ol, oe) = true) (hpl : (PG.2.1 y).2.2.1 = 0) (hev : mApp (mMake PG 30 oa ob oc od on ol y L S sh M J nc ns) (mEv PG n) = some r) : W p l e R s m args below meth c H locs nc ns Q (F0 m (pPc y i) ls (S.map (mTr ρ))) := by
  have hm : ok30 (pby y) (pnm y).cls (pHi y i) oa ob (pPc y i) (pPc y on) = true := hm
  simp only [mMake] at hev
  obtain ⟨⟨h900, hnc, hns⟩, ⟨hO, hSS, hH⟩, h3⟩ := mNew_ev hev
  exact so30 C I hL hpl hm h900 hnc hns hO hSS hH (fun ρ2 H1 I1 hL2 => IH p l e R s m args below meth c Q y _ _ _ _ _ _ _ _ r D A ρ0 M0 sh0 ρ2 H1 locs _ h3 C I1 hL2 hret)
theorem sx31 (IH : mSim n) (C : mAct p s m args meth c R y D A ρ0 M0) (I : mHI s y D A ρ0 M0 sh0 ρ sh M J nc ns H locs) (hL : mLoc ρ ls (PG.2.1 y).1 L) (hret : mRetH p l e R s m args below meth c Q y D A ρ0 M0 sh0 r) (hm : okOp (pby y) (pnm y).cls (pnm y).name (PG.2.1 y).1 (PG.2.1 y).2.1 (PG.2.1 y).2.2.2.1 (pPc y) (pHi y i) (pPc y i) (31, oa, ob, oc, od, oq, on, ol, oe) = true) (hpl : (PG.2.1 y).2.2.1 = 0) (hev : mApp (mMake PG 31 oa ob oc od on ol y L S sh M J nc ns) (mEv PG n) = some r) : W p l e R s m args below meth c H locs nc ns Q (F0 m (pPc y i) ls (S.map (mTr ρ))) := by
  have hm : ok31 (pby y) (pHi y i) oa ob oc (pPc y i) (pPc y on) = true := hm
  simp only [mMake] at hev
  split at hev
  · rename_i k S2
    split at hev
    · rename_i hk
      rw [decide_eq_true_eq] at hk
      subst hk
      obtain ⟨⟨h900, hnc, hns⟩, ⟨hO, hSS, hH⟩, h3⟩ := mNew_ev hev
      exact so31 C I hL hpl hm h900 hnc hns hO hSS hH (fun ρ2 H1 I1 hL2 => IH p l e R s m args below meth c Q y _ _ _ _ _ _ _ _ r D A ρ0 M0 sh0 ρ2 H1 locs _ h3 C I1 hL2 hret)
    · exact mNo_not hev
  · exact mNo_not hev
theorem sx32 (IH : mSim n) (C : mAct p s m args meth c R y D A ρ0 M0) (I : mHI s y D A ρ0 M0 sh0 ρ sh M J nc ns H locs) (hL : mLoc ρ ls (PG.2.1 y).1 L) (hret : mRetH p l e R s m args below meth c Q y D A ρ0 M0 sh0 r) (hm : okOp (pby y) (pnm y).cls (pnm y).name (PG.2.1 y).1 (PG.2.1 y).2.1 (PG.2.1 y).2.2.2.1 (pPc y) (pHi y i) (pPc y i) (32, oa, ob, oc, od, oq, on, ol, oe) = true) (hpl : (PG.2.1 y).2.2.1 = 0) (hev : mApp (mMake PG 32 oa ob oc od on ol y L S sh M J nc ns) (mEv PG n) = some r) : W p l e R s m args below meth c H locs nc ns Q (F0 m (pPc y i) ls (S.map (mTr ρ))) := by
  have hm : ok32 (pby y) (pnm y).cls (pHi y i) ob oc (pPc y i) (pPc y on) = true := hm
  simp only [mMake] at hev
  split at hev
  · rename_i k S2
    split at hev
    · rename_i hk
      rw [decide_eq_true_eq] at hk
      subst hk
      obtain ⟨⟨h900, hnc, hns⟩, ⟨hO, hSS, hH⟩, h3⟩ := mNew_ev hev
      exact so32 C I hL hpl hm h900 hnc hns hO hSS hH (fun ρ2 H1 I1 hL2 => IH p l e R s m args below meth c Q y _ _ _ _ _ _ _ _ r D A ρ0 M0 sh0 ρ2 H1 locs _ h3 C I1 hL2 hret)
    · exact mNo_not hev
  · exact mNo_not hev
theorem sx36 (IH : mSim n) (C : mAct p s m args meth c R y D A ρ0 M0) (I : mHI s y D A ρ0 M0 sh0 ρ sh M J nc ns H locs) (hL : mLoc ρ ls (PG.2.1 y).1 L) (hret : mRetH p l e R s m args below meth c Q y D A ρ0 M0 sh0 r) (hm : okOp (pby y) (pnm y).cls (pnm y).name (PG.2.1 y).1 (PG.2.1 y).2.1 (PG.2.1 y).2.2.2.1 (pPc y) (pHi y i) (pPc y i) (36, oa, ob, oc, od, oq, on, ol, oe) = true) (hpl : (PG.2.1 y).2.2.1 = 0) (hev : mApp (mMake PG 36 oa ob oc od on ol y L S sh M J nc ns) (mEv PG n) = some r) : W p l e R s m args below meth c H locs nc ns Q (F0 m (pPc y i) ls (S.map (mTr ρ))) := by
  simp only [okOp, Bool.and_eq_true, decide_eq_true_eq] at hm
  simp only [mMake] at hev
  split at hev
  · rename_i r1 a S2
    split at hev
    · rename_i hc
      simp only [Bool.and_eq_true, Nat.blt_eq] at hc
      obtain ⟨o1, o2, o3⟩ := mObj_at I.2.2.2.2.2.1.2 hc.1
      exact so36 C I hpl hm.1 o1 o2 o3 hc.2 (fun H1 locs1 I1 => hm.2 ▸ IH p l e R s m args below meth c Q y _ _ _ _ _ _ _ _ r D A ρ0 M0 sh0 ρ H1 locs1 _ (show mEv PG n (y, on, L, S2, mPut sh a (mLinkO r1 (mAt pcon sh a) oa), M, J, nc, ns) = some r from hev) C I1 hL hret)
    · exact mNo_not hev
  · exact mNo_not hev
theorem sx38 (IH : mSim n) (C : mAct p s m args meth c R y D A ρ0 M0) (I : mHI s y D A ρ0 M0 sh0 ρ sh M J nc ns H locs) (hL : mLoc ρ ls (PG.2.1 y).1 L) (hret : mRetH p l e R s m args below meth c Q y D A ρ0 M0 sh0 r) (hm : okOp (pby y) (pnm y).cls (pnm y).name (PG.2.1 y).1 (PG.2.1 y).2.1 (PG.2.1 y).2.2.2.1 (pPc y) (pHi y i) (pPc y i) (38, oa, ob, oc, od, oq, on, ol, oe) = true) (hpl : (PG.2.1 y).2.2.1 = 0) (hev : mApp (mMake PG 38 oa ob oc od on ol y L S sh M J nc ns) (mEv PG n) = some r) : W p l e R s m args below meth c H locs nc ns Q (F0 m (pPc y i) ls (S.map (mTr ρ))) := by
  simp only [okOp, Bool.and_eq_true, decide_eq_true_eq] at hm
  simp only [mMake] at hev
  split at hev
  · rename_i v a S2
    split at hev
    · rename_i ho
      obtain ⟨o1, o2, o3⟩ := mObj_at I.2.2.2.2.2.1.2 ho
      obtain ⟨hq, hev2⟩ := mCk_ev hev
      exact so21 C I hm.1 o1 o2 o3 (fun _ => hq) (fun H1 locs1 I1 => hm.2 ▸ IH p l e R s m args below meth c Q y _ _ _ _ _ _ _ _ r D A ρ0 M0 sh0 ρ H1 locs1 _ hev2 C I1 hL hret)
    · exact mNo_not hev
  · exact mNo_not hev
theorem sxAll {ok : Nat} (hz : ∀ z, z < 197 → okZ z = true) (IH : mSim n) (C : mAct p s m args meth c R y D A ρ0 M0) (I : mHI s y D A ρ0 M0 sh0 ρ sh M J nc ns H locs) (hL : mLoc ρ ls (PG.2.1 y).1 L) (hret : mRetH p l e R s m args below meth c Q y D A ρ0 M0 sh0 r) (hm : okOp (pby y) (pnm y).cls (pnm y).name (PG.2.1 y).1 (PG.2.1 y).2.1 (PG.2.1 y).2.2.2.1 (pPc y) (pHi y i) (pPc y i) (ok, oa, ob, oc, od, oq, on, ol, oe) = true) (hev : mApp (mExec PG ok oa ob oc od on ol y L S sh M J nc ns) (mEv PG n) = some r) : W p l e R s m args below meth c H locs nc ns Q (F0 m (pPc y i) ls (S.map (mTr ρ))) := by
  match ok, hm, hev with
  | 0, hm, hev => exact sx0 IH C I hL hret hm hev
  | 1, hm, hev => exact sx1 IH C I hL hret hm hev
  | 2, hm, hev => exact sx2 IH C I hL hret hm hev
  | 3, hm, hev => exact sx3 IH C I hL hret hm hev
  | 4, hm, hev => exact sx4 IH C I hL hret hm hev
  | 5, hm, hev => exact sx5 IH C I hL hret hm hev
  | 6, hm, hev => exact sx6 IH C I hL hret hm hev
  | 7, hm, hev => exact sx7 IH C I hL hret hm hev
  | 8, hm, hev => exact sx8 IH C I hL hret hm hev
  | 9, hm, hev => exact sx9 IH C I hL hret hm hev
  | 10, hm, hev => exact sx10 IH C I hL hret hm hev
  | 11, hm, hev => exact sx11 IH C I hL hret hm hev
  | 12, hm, hev => exact sx12 IH C I hL hret hm hev
  | 13, hm, hev => exact sx13 IH C I hL hret hm hev
  | 14, hm, hev => exact sx14 IH C I hL hret hm hev
  | 15, hm, hev => exact sx15 IH C I hL hret hm hev
  | 16, hm, hev => exact sx16 IH C I hL hret hm hev
  | 17, hm, hev => exact sx17 IH C I hL hret hm hev
  | 18, hm, hev => exact sx18 IH C I hL hret hm hev
  | 19, hm, hev => exact sx19 IH C I hL hret hm hev
  | 20, hm, hev => exact sx20 IH C I hL hret hm hev
  | 21, hm, hev => exact sx21 IH C I hL hret hm hev
  | 22, hm, hev => exact sx22 IH C I hL hret hm hev
  | 23, hm, hev => exact sx23 IH C I hL hret hm hev
  | 24, hm, hev => exact sx24 IH C I hL hret hm hev
  | 25, hm, hev => exact sx25 IH C I hL hret hm hev
  | 26, hm, hev => exact sx26 IH C I hL hret hm hev
  | 27, hm, hev => exact sx27 IH C I hL hret hm hev
  | 28, hm, hev => exact mNo_not hev
  | 29, hm, hev => exact sx29 IH C I hL hret hm hev
  | 30, hm, hev => exact mNo_not hev
  | 31, hm, hev => exact mNo_not hev
  | 32, hm, hev => exact mNo_not hev
  | 33, hm, hev => exact sx33 hz IH C I hL hret hm hev
  | 34, hm, hev => exact sx34 IH C I hL hret hm hev
  | 35, hm, hev => exact sx35 IH C I hL hret hm hev
  | 36, hm, hev => exact mNo_not hev
  | 37, hm, hev => exact sx37 IH C I hL hret hm hev
  | 38, hm, hev => exact mNo_not hev
  | 39, hm, hev => exact sx39 IH C I hL hret hm hev
  | 40, hm, hev => exact sx40 IH C I hL hret hm hev
  | 41, hm, hev => exact sx41 IH C I hL hret hm hev
  | k + 42, hm, hev => exact mNo_not hev
theorem sxMake {ok : Nat} (hz : ∀ z, z < 197 → okZ z = true) (IH : mSim n) (C : mAct p s m args meth c R y D A ρ0 M0) (I : mHI s y D A ρ0 M0 sh0 ρ sh M J nc ns H locs) (hL : mLoc ρ ls (PG.2.1 y).1 L) (hret : mRetH p l e R s m args below meth c Q y D A ρ0 M0 sh0 r) (hm : okOp (pby y) (pnm y).cls (pnm y).name (PG.2.1 y).1 (PG.2.1 y).2.1 (PG.2.1 y).2.2.2.1 (pPc y) (pHi y i) (pPc y i) (ok, oa, ob, oc, od, oq, on, ol, oe) = true) (hpl : (PG.2.1 y).2.2.1 = 0) (hev : mApp (mMake PG ok oa ob oc od on ol y L S sh M J nc ns) (mEv PG n) = some r) : W p l e R s m args below meth c H locs nc ns Q (F0 m (pPc y i) ls (S.map (mTr ρ))) := by
  match ok, hm, hev with
  | 0, hm, hev => exact sxAll (ok := 0) hz IH C I hL hret hm hev
  | 1, hm, hev => exact sxAll (ok := 1) hz IH C I hL hret hm hev
  | 2, hm, hev => exact sxAll (ok := 2) hz IH C I hL hret hm hev
  | 3, hm, hev => exact sxAll (ok := 3) hz IH C I hL hret hm hev
  | 4, hm, hev => exact sxAll (ok := 4) hz IH C I hL hret hm hev
  | 5, hm, hev => exact sxAll (ok := 5) hz IH C I hL hret hm hev
  | 6, hm, hev => exact sxAll (ok := 6) hz IH C I hL hret hm hev
  | 7, hm, hev => exact sxAll (ok := 7) hz IH C I hL hret hm hev
  | 8, hm, hev => exact sxAll (ok := 8) hz IH C I hL hret hm hev
  | 9, hm, hev => exact sxAll (ok := 9) hz IH C I hL hret hm hev
  | 10, hm, hev => exact sxAll (ok := 10) hz IH C I hL hret hm hev
  | 11, hm, hev => exact sxAll (ok := 11) hz IH C I hL hret hm hev
  | 12, hm, hev => exact sxAll (ok := 12) hz IH C I hL hret hm hev
  | 13, hm, hev => exact sxAll (ok := 13) hz IH C I hL hret hm hev
  | 14, hm, hev => exact sxAll (ok := 14) hz IH C I hL hret hm hev
  | 15, hm, hev => exact sxAll (ok := 15) hz IH C I hL hret hm hev
  | 16, hm, hev => exact sxAll (ok := 16) hz IH C I hL hret hm hev
  | 17, hm, hev => exact sxAll (ok := 17) hz IH C I hL hret hm hev
  | 18, hm, hev => exact sxAll (ok := 18) hz IH C I hL hret hm hev
  | 19, hm, hev => exact sxAll (ok := 19) hz IH C I hL hret hm hev
  | 20, hm, hev => exact sxAll (ok := 20) hz IH C I hL hret hm hev
  | 21, hm, hev => exact sxAll (ok := 21) hz IH C I hL hret hm hev
  | 22, hm, hev => exact sxAll (ok := 22) hz IH C I hL hret hm hev
  | 23, hm, hev => exact sxAll (ok := 23) hz IH C I hL hret hm hev
  | 24, hm, hev => exact sxAll (ok := 24) hz IH C I hL hret hm hev
  | 25, hm, hev => exact sxAll (ok := 25) hz IH C I hL hret hm hev
  | 26, hm, hev => exact sxAll (ok := 26) hz IH C I hL hret hm hev
  | 27, hm, hev => exact sxAll (ok := 27) hz IH C I hL hret hm hev
  | 28, hm, hev => exact sx28 IH C I hL hret hm hpl hev
  | 29, hm, hev => exact sxAll (ok := 29) hz IH C I hL hret hm hev
  | 30, hm, hev => exact sx30 IH C I hL hret hm hpl hev
  | 31, hm, hev => exact sx31 IH C I hL hret hm hpl hev
  | 32, hm, hev => exact sx32 IH C I hL hret hm hpl hev
  | 33, hm, hev => exact sxAll (ok := 33) hz IH C I hL hret hm hev
  | 34, hm, hev => exact sxAll (ok := 34) hz IH C I hL hret hm hev
  | 35, hm, hev => exact sxAll (ok := 35) hz IH C I hL hret hm hev
  | 36, hm, hev => exact sx36 IH C I hL hret hm hpl hev
  | 37, hm, hev => exact sxAll (ok := 37) hz IH C I hL hret hm hev
  | 38, hm, hev => exact sx38 IH C I hL hret hm hpl hev
  | 39, hm, hev => exact sxAll (ok := 39) hz IH C I hL hret hm hev
  | 40, hm, hev => exact sxAll (ok := 40) hz IH C I hL hret hm hev
  | 41, hm, hev => exact sxAll (ok := 41) hz IH C I hL hret hm hev
  | k + 42, hm, hev => exact sxAll (ok := k + 42) hz IH C I hL hret hm hev
end SIM
theorem mSim_all (hok : ∀ y i, okMi y i = true) (hz : ∀ z, z < 197 → okZ z = true) : ∀ n, mSim n
  | 0 => by
    intro p l e R s m args below meth c Q y i L S sh M J nc ns r D A ρ0 M0 sh0 ρ H locs ls hev
    cases hev
  | n + 1 => by
    intro p l e R s m args below meth c Q y i L S sh M J nc ns r D A ρ0 M0 sh0 ρ H locs ls hev C I hL hret
    have IH := mSim_all hok hz n
    have hev : mApp (mStep PG (y, i, L, S, sh, M, J, nc, ns)) (mEv PG n) = some r := hev
    rw [mStep_eq] at hev
    have hm := hok y i
    unfold okMi at hm
    generalize mFe PG y i = o at hev hm
    obtain ⟨ok, oa, ob, oc, od, oq, on, ol, oe⟩ := o
    dsimp only at hev
    have hL2 := hL.ers oe
    unfold mDo at hev
    split at hev
    · rename_i hp
      exact sxMake hz IH C I hL2 hret hm hp hev
    · exact sxAll hz IH C I hL2 hret hm hev
