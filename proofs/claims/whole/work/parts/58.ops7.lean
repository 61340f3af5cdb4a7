/-! soundness of arraycopy and of makers -/
section OPS
variable {p : Program} {l : Launch} {e : Env} {R : Room} {s : State} {m : MethodId} {args : Array Value} {below : List Frame} {meth : Method} {c : Code} {Q : State → Prop} {y : Nat} {D : va_G} {A : Nat → Prop} {ρ0 : mRho} {M0 : mMI} {sh0 : List mSC} {ρ : mRho} {sh : List mSC} {M : mMI} {J : mMJ} {nc ns : Nat} {H : Heap} {locs : List Loc} {ls : Array Slot} {st : List Value} {pc pn : Nat} {hs : List Nat}
theorem so35 {a d : Nat} {n : Int32} (C : mAct p s m args meth c R y D A ρ0 M0) (I : mHI s y D A ρ0 M0 sh0 ρ sh M J nc ns H locs) (hls : ls.size = (PG.2.1 y).1) (h : ok35 (pby y) (pnm y).cls hs pc pn = true) (hrk : 1 ≤ (PG.2.1 y).2.2.2.1) (hst : (st.map fun v => v.category).sum ≤ 8) (hka : (mAt pcon sh a).1 = 1 ∨ ((mAt pcon sh a).1 = 5 ∧ 0 < (mAt pcon sh a).2.1)) (hkd2 : (mAt pcon sh d).1 = 1) (had : ¬ a = d) (hn1 : mIn n ((mAt pcon sh a).2.1 + 1)) (hn2 : mIn n ((mAt pcon sh d).2.1 + 1)) (k : ∀ (H1 : Heap) (locs1 : List Loc), mHI s y D A ρ0 M0 sh0 ρ sh (mSet M d (va_cpy (M a) (M d) 0 0 n.toNatClampNeg)) J nc ns H1 locs1 → W p l e R s m args below meth c H1 locs1 nc ns Q (F0 m pn ls st)) : W p l e R s m args below meth c H locs nc ns Q (F0 m pc ls (.int n :: .int 0 :: .ref (ρ d).1 :: .int 0 :: .ref (ρ a).1 :: st)) := by
  obtain ⟨hx, hb, hml, hown, hts, hnm, hA, hK, hCF, hf, hlo, -⟩ := C
  have I0 := I
  obtain ⟨hP, hD, hS, hAF, hM, hkd, hpl, hρ, -⟩ := I
  have hnf := nfw
  unfold ok35 at h
  split at h
  · rename_i kx hd
    simp only [Bool.and_eq_true, decide_eq_true_eq] at h
    obtain ⟨rfl, g1, g2, g3, g4⟩ := h
    have z0 : (0 : Int32).toNatClampNeg = 0 := by decide
    have zn : ¬ (0 : Int32) < 0 := by decide
    have hn0 : ¬ n < 0 := fun q => hn1 (Or.inl q)
    have hl1 : n.toNatClampNeg ≤ (mAt pcon sh a).2.1 := Nat.not_lt.mp fun q => hn1 (Or.inr (by omega))
    have hl2 : n.toNatClampNeg ≤ (mAt pcon sh d).2.1 := Nat.not_lt.mp fun q => hn2 (Or.inr (by omega))
    rcases mAt_or hkd.2 (by rw [hkd2]; decide) with ⟨w1, -⟩ | ⟨j, -, -, w1⟩
    · have hw1 := mWd_at (ρ := ρ) (M := M) (J := J) w1
      have hdl := sh_lt w1
      rw [mCell_1 (Or.inl hkd2)] at hw1
      have fin : ∀ (H1 : Heap) (locs1 : List Loc), va_P D vwCl ((mWd ρ M J sh).set d ((ρ d).1, .inl ((ρ d).2, (mAt pcon sh d).2.1, .inl (va_cpy (M a) (M d) 0 0 n.toNatClampNeg)))) H1 → va_D A ((mWd ρ M J sh).set d ((ρ d).1, .inl ((ρ d).2, (mAt pcon sh d).2.1, .inl (va_cpy (M a) (M d) 0 0 n.toNatClampNeg)))) → va_S A s.heap H1 locs1 → W p l e R s m args below meth c H1 locs1 nc ns Q (F0 m (pc + 3) ls st) := by
        intro H1 locs1 hP1 hD1 hS1
        have ew : (mWd ρ M J sh).set d ((ρ d).1, .inl ((ρ d).2, (mAt pcon sh d).2.1, .inl (va_cpy (M a) (M d) 0 0 n.toNatClampNeg))) = mWd ρ (mSet M d (va_cpy (M a) (M d) 0 0 n.toNatClampNeg)) J sh := by
          rw [mWd_set (M := M) (J := J) (M2 := mSet M d (va_cpy (M a) (M d) 0 0 n.toNatClampNeg)) (J2 := J) w1 (fun k hk => mSet_ne M hk) (fun _ _ => rfl), mCell_1 (Or.inl hkd2), mSet_at]
        rw [ew] at hP1 hD1
        exact k H1 locs1 (I0.upd hP1 hD1 hS1 (fun k hk => mSet_ne M (by omega)))
      rcases hka with hka | ⟨hka, hpos⟩
      · rcases mAt_or hkd.2 (by rw [hka]; decide) with ⟨w0, -⟩ | ⟨j, -, -, w0⟩
        · have hw0 := mWd_at (ρ := ρ) (M := M) (J := J) w0
          rw [mCell_1 (Or.inl hka)] at hw0
          exact va_copyi hx hb (hml.trans hls.symm) hown (hts _ (oW_in g1)) (hts _ (oW_in g2)) (hts _ (oW_in g3)) (hts _ (oW_in g4)) (mK2 hK (hAF a _ .int w0 (mAt1_i hka)) (hAF d _ .int w1 (mAt1_i hkd2))) hP hD hS a d 0 1 hw0 hw1 rfl rfl rfl zn zn hn0 (by rw [z0]; omega) (by rw [z0]; omega) (fun _ _ => rfl) (by omega) (by omega) hd fin
        · rw [hka] at w0
          simp at w0
      · rcases mAt_or hkd.2 (by rw [hka]; decide) with ⟨-, w0⟩ | ⟨j, rfl, w0, -⟩
        · rw [hka] at w0
          simp at w0
        · have g := mCC_5 hka (hCF.1 j _ w0)
          obtain ⟨q, hq⟩ : ∃ q, (mAt pcon sh (1000 + j)).2.1 = q + 1 := ⟨(mAt pcon sh (1000 + j)).2.1 - 1, by omega⟩
          rw [hq] at g hl1
          have g : va_T .int (ρ0 (1000 + j)).1 (q + 1) (fun i => .int (M0 (1000 + j) i)) A s s.heap := g
          rw [← hM (1000 + j) (by omega)] at g
          rw [hρ (1000 + j) (Or.inr (by omega))]
          exact vs_copyT hx hb (hml.trans hls.symm) hown (hts _ (oW_in g1)) (hts _ (oW_in g2)) (hts _ (oW_in g3)) (hts _ (oW_in g4)) (mK1 hK (hAF d _ .int w1 (mAt1_i hkd2))) hP hD hS g d 0 hw1 rfl zn zn hn0 (by rw [z0]; omega) (by rw [z0]; omega) (by omega) (by omega) hd fin
    · rw [hkd2] at w1
      simp at w1
  · cases h
/-- a shape changes at one place: kind and length stay -/
theorem mHI.shp {cell d : mSC} {o : Nat} {H1 : Heap} {locs1 : List Loc} (I : mHI s y D A ρ0 M0 sh0 ρ sh M J nc ns H locs) (hpl : (PG.2.1 y).2.2.1 = 0) (hc : sh[o]? = some cell) (hd : d.1 = cell.1) (hP : va_P D vwCl (mWd ρ M J (mPut sh o d)) H1) (hD : va_D A (mWd ρ M J (mPut sh o d))) (hS : va_S A s.heap H1 locs1) : mHI s y D A ρ0 M0 sh0 ρ (mPut sh o d) M J nc ns H1 locs1 := by
  obtain ⟨-, -, -, h4, h5, h6, h7, h8, h9, h10⟩ := I
  refine ⟨hP, hD, hS, fun k c2 ty hk ht => ?_, h5, ⟨by rw [mPut_len]; exact h6.1, fun q hq => ?_⟩, fun z => absurd hpl z, h8, by rw [mPut_len]; exact h9, h10⟩
  · rw [mPut_at hc] at hk
    split at hk
    · rename_i ek
      subst ek
      cases hk
      refine h4 k cell ty hc ?_
      unfold mAt1 at ht ⊢
      rw [hd] at ht
      exact ht
    · exact h4 k c2 ty hk ht
  · obtain ⟨i, hi⟩ := List.getElem?_of_mem hq
    rw [mPut_at hc] at hi
    split at hi
    · cases hi
      rw [hd]
      exact h6.2 _ (List.mem_of_getElem? hc)
    · exact h6.2 _ (List.mem_of_getElem? hi)
/-- a reference is put into a field -/
theorem so36 {ci a o r : Nat} {cell : mSC} (C : mAct p s m args meth c R y D A ρ0 M0) (I : mHI s y D A ρ0 M0 sh0 ρ sh M J nc ns H locs) (hpl : (PG.2.1 y).2.2.1 = 0) (h : okPut (pby y) (pnm y).cls (pnm y).name hs ci a pc false 1 = true) (hc : sh[o]? = some cell) (hk : cell.1 = 0) (hci : cell.2.1 = ci) (hal : a < cell.2.2.length) (k : ∀ (H1 : Heap) (locs1 : List Loc), mHI s y D A ρ0 M0 sh0 ρ (mPut sh o (mLinkO r cell a)) M J nc ns H1 locs1 → W p l e R s m args below meth c H1 locs1 nc ns Q (F0 m (pc + 3) ls st)) : W p l e R s m args below meth c H locs nc ns Q (F0 m pc ls (.ref (ρ r).1 :: .ref (ρ o).1 :: st)) := by
  obtain ⟨hx, hb, hml, hown, hts, hnm, hA, hK, hCF, -⟩ := C
  have I0 := I
  obtain ⟨hP, hD, hS, hAF, hM, hkd, -⟩ := I
  have hw := mWd_at (ρ := ρ) (M := M) (J := J) hc
  rw [mCell_0 hk, hci] at hw
  obtain ⟨q, hq, -⟩ := hP o _ hw
  have hq : vwCl[ci]? = some q := hq
  obtain ⟨kx, hd, hlt, hlk, hr, hfin, hds⟩ := okPut_at hq h
  obtain ⟨hnames, ty, hty, hrf, -⟩ := vw_ty hq
  obtain ⟨g2, g3⟩ := fits_ref (hrf a hlt hr) (ρ r).1
  have hlen : a < (mFV ρ (mNth [] pkin ci) cell.2.2 (M o)).length := by
    rw [mFV_len]
    rcases Nat.lt_or_ge a (mNth [] pkin ci).length with t | t
    · exact t
    · rw [mNth_far 2 _ a t] at hr; cases hr
  have ew : (mWd ρ M J sh).set o ((ρ o).1, .inr (ci, (mFV ρ (mNth [] pkin ci) cell.2.2 (M o)).set a (.ref (ρ r).1))) = mWd ρ M J (mPut sh o (mLinkO r cell a)) := by
    rw [mWd_put hc, mCell_0 (c := mLinkO r cell a) hk]
    show _ = (mWd ρ M J sh).set o ((ρ o).1, .inr (cell.2.1, mFV ρ (mNth [] pkin cell.2.1) (mPut cell.2.2 a (r + 1)) (M o)))
    rw [hci, mFV_lnk hr hal]
  have fin : ∀ (H1 : Heap) (locs1 : List Loc), va_P D vwCl ((mWd ρ M J sh).set o ((ρ o).1, .inr (ci, (mFV ρ (mNth [] pkin ci) cell.2.2 (M o)).set a (.ref (ρ r).1)))) H1 → va_D A ((mWd ρ M J sh).set o ((ρ o).1, .inr (ci, (mFV ρ (mNth [] pkin ci) cell.2.2 (M o)).set a (.ref (ρ r).1)))) → va_S A s.heap H1 locs1 → W p l e R s m args below meth c H1 locs1 nc ns Q (F0 m (pc + 3) ls st) := by
    intro H1 locs1 hP1 hD1 hS1
    rw [ew] at hP1 hD1
    exact k H1 locs1 (I0.shp hpl hc rfl hP1 hD1 hS1)
  by_cases hf : (q.2.1 a).2.2.2 = false
  · exact va_put hx hb hts (vw_in hq) ty hty hnames hown hK hP hD hS o hw hq a hlt (hts _ hlk) (fun _ z => z) hf (hty a hlt) g2 g3 hlen hd fin
  · obtain ⟨hf1, hf2⟩ := hfin.resolve_left hf
    exact va_putF hx hb hts (vw_in hq) ty hty hnames hown hK hP hD hS o hw hq a hlt (hts _ hlk) (fun _ z => z) (by simpa using hf) (hnm hf1) hf2 (hty a hlt) g2 g3 hlen hd fin
/-- an object is put into a row -/
theorem so28 {a j r : Nat} {x : Int32} (C : mAct p s m args meth c R y D A ρ0 M0) (I : mHI s y D A ρ0 M0 sh0 ρ sh M J nc ns H locs) (hpl : (PG.2.1 y).2.2.1 = 0) (h : okP (pby y) 28 pc pn = true) (hk : mRowR (mAt pcon sh a) = true) (hr : mObj pcon sh r 3 = true) (hjl : j < (mAt pcon sh a).2.2.length) (hx2 : x = nI j) (k : ∀ (H1 : Heap) (locs1 : List Loc), mHI s y D A ρ0 M0 sh0 ρ (mPut sh a (mLinkO r (mAt pcon sh a) j)) M J nc ns H1 locs1 → W p l e R s m args below meth c H1 locs1 nc ns Q (F0 m pn ls st)) : W p l e R s m args below meth c H locs nc ns Q (F0 m pc ls (.ref (ρ r).1 :: .int x :: .ref (ρ a).1 :: st)) := by
  obtain ⟨rfl, h2⟩ := okP_at h
  have h : decode (pby y) pc = .ok (.aastore, 1) := by simpa using h2
  obtain ⟨hx, hb, hml, hown, hts, hnm, hA, hK, hCF, -⟩ := C
  have I0 := I
  obtain ⟨hP, hD, hS, hAF, hM, hkd, -⟩ := I
  obtain ⟨hk1, hk2, hk3⟩ := mRowR_at hk
  obtain ⟨v1, v2, v3⟩ := mObj_at hkd.2 hr
  subst hx2
  rcases mAt_or hkd.2 (by rw [hk1]; decide) with ⟨h1, -⟩ | ⟨i, -, -, h1⟩
  · have hw := mWd_at (ρ := ρ) (M := M) (J := J) h1
    rw [mCell_4 hk1] at hw
    have hv := mWd_at (ρ := ρ) (M := M) (J := J) v1
    rw [mCell_0 v2, v3] at hv
    refine va_astq (r := (RX3, TX3, 4)) hx hb (mK1 hK (hAF a _ _ h1 (mAt1_r hk1))) hP hD hS a 0 r 3 hw rfl hv rfl (vp_in_nI (by omega) (by omega)) h (fun H1 locs1 hP1 hD1 hS1 => ?_)
    obtain ⟨z, hz⟩ : ∃ z, (mAt pcon sh a).2.2[j]? = some z := ⟨_, List.getElem?_eq_getElem hjl⟩
    have ef : va_up (fun i => mRo ρ (mNth 0 (mAt pcon sh a).2.2 i)) (nI j).toNatClampNeg (some (ρ r).1) = fun i => mRo ρ (mNth 0 (mPut (mAt pcon sh a).2.2 j (r + 1)) i) := by
      funext i
      rw [nI_clamp (by omega)]
      show (if i = j then some (ρ r).1 else mRo ρ (mNth 0 (mAt pcon sh a).2.2 i)) = mRo ρ (mNth 0 (mPut (mAt pcon sh a).2.2 j (r + 1)) i)
      rw [mNth_get, mNth_get, mPut_at hz]
      by_cases hi : i = j
      · rw [if_pos hi, if_pos hi]
        rfl
      · rw [if_neg hi, if_neg hi]
    have ew : (mWd ρ M J sh).set a ((ρ a).1, .inl ((ρ a).2, (mAt pcon sh a).2.1, .inr (.inr (.inr (.inr (va_up (fun i => mRo ρ (mNth 0 (mAt pcon sh a).2.2 i)) (nI j).toNatClampNeg (some (ρ r).1))))))) = mWd ρ M J (mPut sh a (mLinkO r (mAt pcon sh a) j)) := by
      rw [ef, mWd_put h1, mCell_4 (c := mLinkO r (mAt pcon sh a) j) hk1]
      rfl
    rw [ew] at hP1 hD1
    exact k H1 locs1 (I0.shp hpl h1 rfl hP1 hD1 hS1)
  · rw [hk1] at h1
    simp at h1
end OPS
