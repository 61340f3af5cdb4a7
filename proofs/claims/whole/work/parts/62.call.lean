/-! soundness of calls -/
theorem mPop_eq : ∀ {n : Nat} {a S0 A S : List Value}, mPop n a S0 = some (A, S) → A.reverse ++ S = a.reverse ++ S0 ∧ A.length = n + a.length
  | 0, a, S0, A, S, h => by
    cases h
    exact ⟨rfl, by omega⟩
  | n + 1, a, [], A, S, h => by cases h
  | n + 1, a, v :: S0, A, S, h => by
    obtain ⟨h1, h2⟩ := mPop_eq (n := n) (a := v :: a) h
    refine ⟨by rw [h1]; simp, ?_⟩
    rw [h2]
    simp
    omega
theorem pcon_tx : ∀ q ∈ pcon, q.1 = 7 → ¬ mNth 0 q.2.2 0 = 0 ∧ 1000 ≤ mNth 0 q.2.2 0 := by decide +kernel
theorem mCF.re {ρ ρ2 : mRho} {M0 : mMI} {A : Nat → Prop} {U : State} {H : Heap} (h : mCF ρ M0 A U H) (hρ : ∀ k, 999 ≤ k → ρ2 k = ρ k) : mCF ρ2 M0 A U H := by
  obtain ⟨h1, h2, h3, h4, h5, h6, h7⟩ := h
  have pl1 : ∀ q ∈ pSt, 999 ≤ q.1 := by decide +kernel
  have pl2 : ∀ q ∈ pTx, 999 ≤ q.2.2 := by decide +kernel
  refine ⟨fun j c hj => ?_, fun q hq => by rw [hρ q.1 (pl1 q hq)]; exact h2 q hq, fun q hq => by rw [hρ q.2.2 (pl2 q hq)]; exact h3 q hq, h4, h5, h6, h7⟩
  have g := h1 j c hj
  have e0 : ρ2 (1000 + j) = ρ (1000 + j) := hρ _ (by omega)
  have e1 : c.1 = 7 → mTr ρ2 (mRef (mNth 0 c.2.2 0)) = mTr ρ (mRef (mNth 0 c.2.2 0)) := by
    intro h7
    obtain ⟨g1, g2⟩ := pcon_tx c (List.mem_of_getElem? hj) h7
    obtain ⟨r, hr⟩ : ∃ r, mNth 0 c.2.2 0 = r + 1 := ⟨mNth 0 c.2.2 0 - 1, by omega⟩
    rw [hr]
    show Value.ref (ρ2 r).1 = Value.ref (ρ r).1
    rw [hρ r (by omega)]
  obtain ⟨k1, k2, k3⟩ := c
  unfold mCC at g ⊢
  split at g <;> rename_i hc
  · simp only [hc] at *
    rw [e0]
    exact g
  · simp only [hc] at *
    rw [e0]
    exact g
  · simp only [hc] at *
    rw [e0, e1 (by first | exact hc | trivial | rfl)]
    exact g
  · trivial
theorem TB_sub {w : Cond} {ws : List Cond} (hw : w ∈ TB) : GoodIn TB (w :: TB) := by
  intro v hv
  have h : v ∈ TB := by
    rcases List.mem_cons.mp hv with rfl | h
    · exact hw
    · exact h
  exact ⟨h, good_of_word (TB_good h)⟩
theorem TB_app {a b : List Cond} (ha : ∀ w ∈ a, w ∈ TB) (hb : GoodIn TB b) : GoodIn TB (a ++ b) := by
  intro v hv
  rcases List.mem_append.mp hv with h | h
  · exact ⟨ha v h, good_of_word (TB_good (ha v h))⟩
  · exact hb v h
section OPS
variable {p : Program} {l : Launch} {e : Env} {R : Room} {s : State} {m : MethodId} {args : Array Value} {below : List Frame} {meth : Method} {c : Code} {Q : State → Prop} {y : Nat} {D : va_G} {A0 : Nat → Prop} {ρ0 : mRho} {M0 : mMI} {sh0 : List mSC} {ρ : mRho} {sh : List mSC} {M : mMI} {J : mMJ} {nc ns : Nat} {H : Heap} {locs : List Loc} {ls : Array Slot} {pc pn : Nat} {hs : List Nat}
/-- behind a call -/
theorem mw_call {cells slots mc ms sz z : Nat} {r : mRs} {a : Array Value} {free : Addr → Prop} {st0 rest : List Value} (hr : va_Run p l e R s m args below meth c H locs cells slots mc ms (F0 m pc ls st0) rest (mPost D ρ M0 sh M J sz z r a) free) (hS : va_S A0 s.heap H locs) (hA : ∀ q, q < H.size → va_A (mWd ρ M J sh) sz q → A0 q) (hA2 : ∀ q, va_A (mWd ρ M J sh) sz q → A0 q) (hf : ∀ q, free q → A0 q)
    (kk : ∀ (ρ2 : mRho) (H1 : Heap) (locs1 : List Loc), (¬ (PG.2.1 z).2.2.1 = 0 → ρ2 = ρ ∧ r.2.1 = sh) → (∀ k, k < sh.length ∨ 999 ≤ k → ρ2 k = ρ k) → sh.length ≤ r.2.1.length → (r.2.1.length < 999 ∧ ∀ q ∈ r.2.1, q.1 ≤ 4) → (∀ k, 999 ≤ k → r.2.2.1 k = M0 k) → va_P D vwCl (mWd ρ2 r.2.2.1 r.2.2.2.1 r.2.1) H1 → va_D A0 (mWd ρ2 r.2.2.1 r.2.2.2.1 r.2.1) → va_S A0 s.heap H1 locs1 → mAF ρ2 r.2.1 s → W p l e R s m args below meth c H1 locs1 (cells + mc) (slots + ms) Q (F0 m (pc + 3) ls ((r.1.map (mTr ρ2)).toList ++ rest))) : W p l e R s m args below meth c H locs cells slots Q (F0 m pc ls st0) := by
  intro T hT X
  obtain ⟨v, st₀, t, T', L, h0, X', hL, e1, e2, ⟨⟨ρ2, hv, g1, g2, g3, g4, g5, g6, g7, g8, g9⟩, hz, hk⟩, st⟩ := hr T hT X
  cases hv
  rw [h0] at hz hk
  have hvm : s.vm.Alike t.vm := by rw [← e2]; exact X'.warmed.alike
  obtain ⟨t2, a1, b1⟩ := kk ρ2 T'.heap (locs ++ L) g1 g2 g3 g4 g5 (by rw [e1]; exact g6) (g8.weaken (fun _ q _ h => hA2 q.1 h)) ⟨Nat.le_trans hS.1 (by rw [e1]; exact hz), fun q h1 h2 => by rw [e1, hk q (Nat.lt_of_lt_of_le h1 hS.1) (fun z => h2 (hA q (Nat.lt_of_lt_of_le h1 hS.1) z))]; exact hS.2.1 q h1 h2, fun q hq => by
      rcases List.mem_append.mp hq with h | h
      · exact hS.2.2 q h
      · exact hf _ (hL q h)⟩ (g9.moved hvm.symm) T' rfl X'
  exact ⟨t2, st t2 a1, b1⟩
/-- a call: words, room, receiver, contract, and what comes back -/
theorem so33 {n : Nat} (IH : mSim n) {z w : Nat} (C : mAct p s m args meth c R y D A0 ρ0 M0) (I : mHI s y D A0 ρ0 M0 sh0 ρ sh M J nc ns H locs) (hls : ls.size = (PG.2.1 y).1) (h : ok33 (pby y) (pnm y).cls hs z w pc pn = true) (hzz : okZ z = true) (hrank : (PG.2.1 z).2.2.2.1 < (PG.2.1 y).2.2.2.1) (hcl : nc + (PG.2.1 z).2.2.2.2.2.1 ≤ (PG.2.1 y).2.2.2.2.2.1) (hsl : ns + (PG.2.1 z).2.2.2.2.2.2.1 ≤ (PG.2.1 y).2.2.2.2.2.2.1) {A S : List Value} (hAl : A.length = w) (hsh : mShort S 8 = true) (hrcv : mRcv pcon sh (PG.2.1 z).2.2.2.2.1 A = true) (hal : (mArgs A).length ≤ (PG.2.1 z).1) {r : mRs} (hev : mEv PG n (mEnt PG z A sh M J) = some r)
    (k : ∀ (ρ2 : mRho) (H1 : Heap) (locs1 : List Loc), (¬ (PG.2.1 z).2.2.1 = 0 → ρ2 = ρ ∧ r.2.1 = sh) → (∀ k, k < sh.length ∨ 999 ≤ k → ρ2 k = ρ k) → sh.length ≤ r.2.1.length → (r.2.1.length < 999 ∧ ∀ q ∈ r.2.1, q.1 ≤ 4) → (∀ k, 999 ≤ k → r.2.2.1 k = M0 k) → va_P D vwCl (mWd ρ2 r.2.2.1 r.2.2.2.1 r.2.1) H1 → va_D A0 (mWd ρ2 r.2.2.1 r.2.2.2.1 r.2.1) → va_S A0 s.heap H1 locs1 → mAF ρ2 r.2.1 s → W p l e R s m args below meth c H1 locs1 (nc + (PG.2.1 z).2.2.2.2.2.1) (ns + (PG.2.1 z).2.2.2.2.2.2.1) Q (F0 m pn ls ((r.1.map (mTr ρ2)).toList ++ S.map (mTr ρ)))) : W p l e R s m args below meth c H locs nc ns Q (F0 m pc ls ((A.reverse ++ S).map (mTr ρ))) := by
  obtain ⟨hx, hb, hml, hown, hts, hnm, hA, hK, hCF, hfr, hlo, hce, hslo⟩ := C
  obtain ⟨hP, hD, hS, hAF, hM, hkd, hpl, hρ, -⟩ := I
  obtain ⟨hcode, hini, ⟨hc1, hc2, -, hmx, -, -⟩, hcls, hrt, hplz⟩ := okZ_at hzz
  have hA2 : ∀ q, va_A (mWd ρ M J sh) H.size q → A0 q := by
    intro q hq
    rcases hq with ⟨k, e, hk⟩ | hq
    · exact hD.2 k _ hk
    · exact hA q (Nat.le_trans hS.1 hq)
  have hMet := mMet IH hzz hev hM hkd hal l D ρ H.size
  have hblind : FrameBlind (mPre D ρ M0 sh M J A H.size) := by
    intro a U g mk q
    obtain ⟨q0, q1, q2, q3, q4, q5, q6⟩ := q
    exact ⟨q0, q1, q2, va_K.moved (u := U) (U := U.calling g mk a) (Vm.Alike.refl U.vm) q3, q4, mAF.moved (u := U) (U := U.calling g mk a) (Vm.Alike.refl U.vm) q5, mCF.to (U := U.calling g mk a) q6 (va_S.rf (A := va_A (mWd ρ M J sh) H.size) (H0 := U.heap)) (State.WarmedH.refl U) (fun _ z => z)⟩
  have hpre : ∀ U : State, U.heap = H → s.WarmedH U.vm → mPre D ρ M0 sh M J A H.size (A.map (mTr ρ)).toArray U := by
    intro U hU hW
    refine ⟨rfl, by rw [hU], by rw [hU]; exact hP, va_K.moved hW.alike hK, ?_, hAF.moved hW.alike, ?_⟩
    · exact hD.self (sz := H.size)
    · rw [hU]
      exact (hCF.re (fun k hk => hρ k (Or.inr hk))).to hS hW hA2
  have hGood : GoodIn TB (Cond.code (pnm z) (pby z) (PG.2.1 z).1 (prt z) :: TB) := TB_sub (ws := []) hcode
  have hroom : (mRoom z).frames + 1 ≤ R.frames ∧ 8 + ((PG.2.1 z).1 + 11) + (mRoom z).locals ≤ R.locals := by
    refine ⟨?_, ?_⟩
    · show (PG.2.1 z).2.2.2.1 + 1 ≤ R.frames
      omega
    · show 8 + ((PG.2.1 z).1 + 11) + 37 * (PG.2.1 z).2.2.2.1 ≤ R.locals
      omega
  have hfit : nc + (PG.2.1 z).2.2.2.2.2.1 ≤ R.cells ∧ ns + (PG.2.1 z).2.2.2.2.2.2.1 ≤ R.slots := ⟨by omega, by omega⟩
  have hst : ((S.map (mTr ρ)).map fun v => v.category).sum ≤ 8 := mShort_le hsh
  have hpar : ∀ {k : Nat}, (parseMethodDescriptor (pnm z).desc).map (fun d => d.parameters.length + 1) = some (k + 1) → (parseMethodDescriptor (pnm z).desc).map (fun d => d.parameters.length) = some k := by
    intro k hk
    cases hp : parseMethodDescriptor (pnm z).desc with
    | none => rw [hp] at hk; cases hk
    | some d =>
      rw [hp] at hk
      simp only [Option.map_some, Option.some.injEq] at hk ⊢
      omega
  unfold ok33 at h
  simp only [Bool.and_eq_true, decide_eq_true_eq] at h
  obtain ⟨rfl, -, h⟩ := h
  have recv : (PG.2.1 z).2.2.2.2.1 < 9 → ∃ (o : Nat) (B : List Value), A = .ref o :: B ∧ ∃ cellB : Cell, H[(ρ o).1]? = some cellB ∧ cellB.vm.isStatics = false ∧ s.vm.findClass (pnm z).cls = some cellB.cls := by
    intro h9
    match A, hrcv with
    | [], hrcv => 
      unfold mRcv at hrcv
      split at hrcv
      · omega
      · cases hrcv
      · cases hrcv
    | v :: B, hrcv =>
      unfold mRcv at hrcv
      split at hrcv
      · omega
      · rename_i e8
        split at hrcv
        · rename_i a rest hq
          cases hq
          refine ⟨a, B, rfl, ?_⟩
          have hk7 : (mAt pcon sh a).1 = 7 := by simpa using hrcv
          rcases mAt_or hkd.2 (by rw [hk7]; decide) with ⟨-, w0⟩ | ⟨j, rfl, w0, -⟩
          · rw [hk7] at w0
            simp at w0
          · have g := (mCC_7 hk7 (hCF.1 j _ w0)).1
            rw [hρ (1000 + j) (Or.inr (by omega))]
            have hn : (pnm z).cls = "java/lang/String" := by
              rcases hcls with q | q | q
              · omega
              · exact q.2
              · rw [e8] at q
                simp [vwCl] at q
            rw [hn]
            obtain ⟨cell, c1, c2, c3, c4⟩ := g
            exact ⟨cell, by rw [hS.2.1 _ (Array.getElem?_eq_some_iff.mp c1).1 c4]; exact c1, c2, c3⟩
        · cases hrcv
      · rename_i x e9 e8
        split at hrcv
        · rename_i a rest hq
          cases hq
          refine ⟨a, B, rfl, ?_⟩
          simp only [Bool.and_eq_true, beq_iff_eq, Nat.blt_eq] at hrcv
          obtain ⟨hk0, hkc, -⟩ := hrcv
          rcases mAt_or hkd.2 (by rw [hk0]; decide) with ⟨w0, -⟩ | ⟨j, -, -, w0⟩
          · have hw := mWd_at (ρ := ρ) (M := M) (J := J) w0
            rw [mCell_0 hk0, hkc] at hw
            obtain ⟨q, hq, -⟩ := hP a _ hw
            have hq : vwCl[(PG.2.1 z).2.2.2.2.1]? = some q := hq
            have hn : (pnm z).cls = q.1 := by
              rcases hcls with t | t | t
              · omega
              · exact absurd t.1 e8
              · rw [hq] at t
                exact (Option.some.inj t).symm
            rw [hn]
            exact va_recv hK hP hq hw
          · rw [hk0] at w0
            simp at w0
        · cases hrcv
  split at h
  · rename_i kx hd
    simp only [Bool.and_eq_true, decide_eq_true_eq] at h
    obtain ⟨⟨h9, hpl1, hpa⟩, w1, w2, w3⟩ := h
    obtain ⟨o, B, rfl, hre⟩ := recv h9
    simp only [List.length_cons] at hAl
    subst hAl
    have est : ((Value.ref o :: B).reverse ++ S).map (mTr ρ) = (B.map (mTr ρ)).reverse ++ .ref (ρ o).1 :: S.map (mTr ρ) := by simp [List.map_reverse, mTr]
    rw [est]
    refine mw_call (va_runV (As := B.map (mTr ρ)) (rest := S.map (mTr ρ)) (C := (pnm z).cls) ⟨hx, hb, hml, hown, hts⟩ hMet (cwV B.length hts (TB_app (a := [.methodLink (pnm y).cls kx (pnm z), .instanceMethod (pnm z), .selects (pnm z).cls (pnm z) (pnm z), .initialized (pnm z).cls]) (fun v hv => ?_) hGood) rfl rfl rfl ⟨rfl, hc1, hc2, hpar hpa⟩ hroom) ⟨hblind, hre, hpre⟩ rfl (by simp) hls rfl (lv_room hst) hd hfit) hS (fun q _ hq => hA2 q hq) hA2 hA2 k
    simp only [List.mem_cons, List.not_mem_nil, or_false] at hv
    rcases hv with rfl | rfl | rfl | rfl
    · exact oW_in w1
    · exact oW_in w2
    · exact oW_in w3
    · exact hini
  · rename_i kx hd
    simp only [Bool.and_eq_true, Bool.or_eq_true, decide_eq_true_eq] at h
    obtain ⟨⟨h9, hpl1, hpa⟩, h⟩ := h
    have est : (A.reverse ++ S).map (mTr ρ) = (A.map (mTr ρ)).reverse ++ S.map (mTr ρ) := by simp [List.map_reverse]
    rw [est]
    subst hAl
    rcases h with ⟨w1, w2⟩ | ⟨w1, w2⟩
    · refine mw_call (va_runS (As := A.map (mTr ρ)) (rest := S.map (mTr ρ)) ⟨hx, hb, hml, hown, hts⟩ hMet (va_cwS A.length hts (TB_app (a := [.methodLink (pnm y).cls kx (pnm z), .static (pnm z), .initialized (pnm z).cls]) (fun v hv => ?_) hGood) rfl rfl rfl ⟨hc1, hc2, hpa⟩ hroom) ⟨hblind, hpre⟩ rfl (by simp) hls rfl (lv_room hst) hd hfit) hS (fun q _ hq => hA2 q hq) hA2 hA2 k
      simp only [List.mem_cons, List.not_mem_nil, or_false] at hv
      rcases hv with rfl | rfl | rfl
      · exact oW_in w1
      · exact oW_in w2
      · exact hini
    · have hn := hCF.2.2.2.2.1 _ (of_decide_eq_true w1)
      exact mw_call (va_runSN (As := A.map (mTr ρ)) (rest := S.map (mTr ρ)) ⟨hx, hb, hml, hown, hts⟩ hMet ⟨va_cnB A.length hts hGood rfl rfl rfl hn (hts _ hini) ⟨hc1, hc2, hpa⟩ hroom, hts _ (oW_in w2), trivial⟩ ⟨hblind, hpre⟩ rfl (by simp) hls rfl (lv_room hst) hd hfit) hS (fun q _ hq => hA2 q hq) hA2 hA2 k
  · rename_i kx hd
    simp only [Bool.and_eq_true, Bool.or_eq_true, decide_eq_true_eq] at h
    obtain ⟨⟨h9, hpl1, hnmz, hrz, hpa⟩, h⟩ := h
    obtain ⟨o, B, rfl, hre⟩ := recv (by omega)
    simp only [List.length_cons] at hAl
    subst hAl
    have est : ((Value.ref o :: B).reverse ++ S).map (mTr ρ) = (B.map (mTr ρ)).reverse ++ .ref (ρ o).1 :: S.map (mTr ρ) := by simp [List.map_reverse, mTr]
    rw [est]
    rw [hrz] at hMet hGood
    rcases h with ⟨w1, w2⟩ | ⟨w1, w2⟩
    · exact mw_call (va_runI (As := B.map (mTr ρ)) (rest := S.map (mTr ρ)) ⟨hx, hb, hml, hown, hts⟩ hMet (cwI B.length hts hGood rfl rfl rfl (hts _ hini) (hts _ (oW_in w1)) (hts _ (oW_in w2)) hnmz ⟨hc1, hc2, hpar hpa⟩ hroom) ⟨hblind, hpre⟩ rfl (by simp) hls rfl (lv_room hst) hd hfit) hS (fun q _ hq => hA2 q hq) hA2 hA2 k
    · have hn := hCF.2.2.2.2.1 _ (of_decide_eq_true w1)
      exact mw_call (va_runIN (As := B.map (mTr ρ)) (rest := S.map (mTr ρ)) ⟨hx, hb, hml, hown, hts⟩ hMet ⟨va_cnB B.length hts hGood rfl rfl rfl hn (hts _ hini) ⟨hc1, hc2, hpar hpa⟩ hroom, hnmz, hts _ (oW_in w2)⟩ ⟨hblind, hpre⟩ rfl (by simp) hls rfl (lv_room hst) hd hfit) hS (fun q _ hq => hA2 q hq) hA2 hA2 k
  · cases h
end OPS
