/-! SOUNDNESS: calls, makers, all codes -/
section SIM
variable {p : Program} {l : Launch} {e : Env} {R : Room} {s : State} {m : MethodId} {args : Array Value} {below : List Frame} {meth : Method} {c : Code} {Q : State → Prop} {y i : Nat} {D : va_G} {A : Nat → Prop} {ρ0 : mRho} {M0 : mMI} {sh0 : List mSC} {ρ : mRho} {sh : List mSC} {M : mMI} {J : mMJ} {nc ns : Nat} {H : Heap} {locs : List Loc} {ls : Array Slot} {L : List (Option Value)} {S : List Value} {r : mRs} {oa ob on oq : Nat} {oc : Int32} {od : Int64} {ol oe : List Nat} {n : Nat}
set_option maxHeartbeats 4000000 in
theorem sx33 (hz : ∀ z, z < 196 → okZ z = true) (IH : mSim n) (C : mAct p s m args meth c R y D A ρ0 M0) (I : mHI s y D A ρ0 M0 sh0 ρ sh M J nc ns H locs) (hL : mLoc ρ ls (PG.2.1 y).1 L) (hret : mRetH p l e R s m args below meth c Q y D A ρ0 M0 sh0 r) (hm : okOp (pby y) (pnm y).cls (pnm y).name (PG.2.1 y).1 (PG.2.1 y).2.1 (PG.2.1 y).2.2.2.1 (pPc y) (pHi y i) (pPc y i) (33, oa, ob, oc, od, oq, on, ol, oe) = true) (hev : mApp (mExec PG 33 oa ob oc od on ol y L S sh M J nc ns) (mEv PG n) = some r) : W p l e R s m args below meth c H locs nc ns Q (F0 m (pPc y i) ls (S.map (mTr ρ))) := by
  have hm : ok33 (pby y) (pnm y).cls (pHi y i) oa ob (pPc y i) (pPc y on) = true := hm
  have hev : mApp (mCall PG oa ob y on L S sh M J nc ns) (mEv PG n) = some r := hev
  have hz1 : okZ oa = true := hz oa (by
    unfold ok33 at hm
    simp only [Bool.and_eq_true, decide_eq_true_eq] at hm
    exact hm.2.1)
  obtain ⟨-, -, -, -, hrt, hpz⟩ := okZ_at hz1
  unfold mCall at hev
  split at hev
  · rename_i A1 S2 hrk hpop
    split at hev
    · rename_i hck
      simp only [Bool.and_eq_true, Nat.ble_eq] at hck
      obtain ⟨hsh, hrc, hal⟩ := hck
      obtain ⟨hst, hAl⟩ := mPop_eq hpop
      have hst : S = A1.reverse ++ S2 := by simpa using hst.symm
      have hAl : A1.length = ob := by simpa using hAl
      have hrk : (PG.2.1 oa).2.2.2.1 < (PG.2.1 y).2.2.2.1 := by simpa [Nat.blt_eq] using hrk
      rw [hst]
      unfold mCallK at hev
      split at hev
      · rename_i hp0
        split at hev
        · rename_i hpy hck2
          simp only [Bool.and_eq_true, Nat.ble_eq] at hck2
          obtain ⟨⟨hc1, hc2⟩, hc3, hc4⟩ := hck2
          rw [mApp_C] at hev
          obtain ⟨g, hg, hev⟩ := mBC_some hev
          refine so33 IH C I hL.1 hm hz1 hrk hc1 hc2 hAl hsh hrc hal hg (fun ρ2 H1 locs1 g1 g2 g3 g4 g5 g6 g7 g8 g9 => ?_)
          have I1 : mHI s y D A ρ0 M0 sh0 ρ2 g.1 g.2.1 g.2.2.1 (nc + (PG.2.1 oa).2.2.2.2.2.1) (ns + (PG.2.1 oa).2.2.2.2.2.2.1) H1 locs1 := by
            obtain ⟨-, -, -, -, -, -, -, h8, h9, -⟩ := I
            exact ⟨g6, g7, g8, g9, g5, g4, fun q => absurd hpy q, fun k hk => (g2 k (by omega)).trans (h8 k hk), Nat.le_trans h9 g3, hc1, hc2⟩
          have := IH p l e R s m args below meth c Q y on L S2 _ _ _ _ _ r D A ρ0 M0 sh0 ρ2 H1 locs1 ls hev C I1 (hL.re hc3 g2) hret
          rw [mTrS_re hc4 g2] at this
          exact this
        · exact mNo_not hev
      · rename_i hp0
        obtain ⟨hm0, hs0⟩ : (PG.2.1 oa).2.2.2.2.2.1 = 0 ∧ (PG.2.1 oa).2.2.2.2.2.2.1 = 0 := by
          rcases hpz with q | q
          · exact absurd q.1 hp0
          · exact q.2
        have hc1 : nc + (PG.2.1 oa).2.2.2.2.2.1 ≤ (PG.2.1 y).2.2.2.2.2.1 := by rw [hm0]; exact I.2.2.2.2.2.2.2.2.2.1
        have hc2 : ns + (PG.2.1 oa).2.2.2.2.2.2.1 ≤ (PG.2.1 y).2.2.2.2.2.2.1 := by rw [hs0]; exact I.2.2.2.2.2.2.2.2.2.2
        have fin : ∀ (v : Option Value) (g : mHp) (S3 : List Value), mEv PG n (mEnt PG oa A1 sh M J) = some (v, g) → mEv PG n (y, on, L, S3 ++ S2, sh, g.2.1, g.2.2.1, nc, ns) = some r → (v.map (mTr ρ)).toList = S3.map (mTr ρ) → W p l e R s m args below meth c H locs nc ns Q (F0 m (pPc y i) ls ((A1.reverse ++ S2).map (mTr ρ))) := by
          intro v g S3 hg hev2 hv
          refine so33 IH C I hL.1 hm hz1 hrk hc1 hc2 hAl hsh hrc hal hg (fun ρ2 H1 locs1 g1 g2 g3 g4 g5 g6 g7 g8 g9 => ?_)
          obtain ⟨e1, e2⟩ := g1 hp0
          subst e1
          have e2 : g.1 = sh := e2
          simp only [hm0, hs0, Nat.add_zero]
          have I1 : mHI s y D A ρ0 M0 sh0 ρ2 sh g.2.1 g.2.2.1 nc ns H1 locs1 := by
            obtain ⟨-, -, -, h4, -, h6, h7⟩ := I
            dsimp only at g6 g7 g9
            rw [e2] at g6 g7
            exact ⟨g6, g7, g8, h4, g5, h6, h7⟩
          have := IH p l e R s m args below meth c Q y on L (S3 ++ S2) sh _ _ nc ns r D A ρ0 M0 sh0 ρ2 H1 locs1 ls hev2 C I1 hL hret
          rw [List.map_append, ← hv] at this
          exact this
        split at hev
        · rw [mApp_R] at hev
          obtain ⟨v, g, h1, h2, h3⟩ := mBR_some hev
          rcases h2 with ⟨rfl, -⟩ | ⟨a, -, h2⟩
          · exact fin none g [] h1 h3 rfl
          · cases h2
        · rw [mApp_J] at hev
          obtain ⟨v, g, h1, h3⟩ := mBJ_some hev
          exact fin (some (.long v)) g [.long v] h1 h3 rfl
        · rw [mApp_R] at hev
          obtain ⟨v, g, h1, h2, h3⟩ := mBR_some hev
          rcases h2 with ⟨rfl, h2⟩ | ⟨a, rfl, h2⟩
          · rw [h2] at h3
            exfalso
            have := okZ_at hz1
            sorry
          · rw [h2] at h3
            exact fin (some (.ref a)) g [.ref a] h1 h3 rfl
        · rw [mApp_I] at hev
          obtain ⟨v, g, h1, h3⟩ := mBI_some hev
          exact fin (some (.int v)) g [.int v] h1 h3 rfl
    · exact mNo_not hev
  · exact mNo_not hev
end SIM
