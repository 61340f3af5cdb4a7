/-! soundness of rows of references, of copies, of calls that the kit knows, of makers -/
theorem mRowR_at {c : mSC} (h : mRowR c = true) : c.1 = 4 ∧ c.2.2.length = c.2.1 ∧ c.2.1 < 65536 := by
  unfold mRowR at h
  simp only [Bool.and_eq_true, beq_iff_eq, Nat.blt_eq] at h
  exact h
theorem mObj_at {sh : List mSC} {a ci : Nat} (hk : ∀ q ∈ sh, q.1 ≤ 4) (h : mObj pcon sh a ci = true) : sh[a]? = some (mAt pcon sh a) ∧ (mAt pcon sh a).1 = 0 ∧ (mAt pcon sh a).2.1 = ci := by
  unfold mObj at h
  simp only [Bool.and_eq_true, beq_iff_eq, Nat.blt_eq] at h
  refine ⟨?_, h.2.1, h.2.2⟩
  rcases mAt_or hk (by rw [h.2.1]; decide) with ⟨h1, -⟩ | ⟨j, -, -, h1⟩
  · exact h1
  · rw [h.2.1] at h1
    simp at h1
theorem mRo_rf (ρ : mRho) (r : Nat) : va_rf (mRo ρ r) = mTr ρ (mRef r) := by cases r <;> rfl
section OPS
variable {p : Program} {l : Launch} {e : Env} {R : Room} {s : State} {m : MethodId} {args : Array Value} {below : List Frame} {meth : Method} {c : Code} {Q : State → Prop} {y : Nat} {D : va_G} {A : Nat → Prop} {ρ0 : mRho} {M0 : mMI} {sh0 : List mSC} {ρ : mRho} {sh : List mSC} {M : mMI} {J : mMJ} {nc ns : Nat} {H : Heap} {locs : List Loc} {ls : Array Slot} {st : List Value} {pc pn : Nat} {hs : List Nat}
theorem so25 {a j r : Nat} {x : Int32} (C : mAct p s m args meth c R y D A ρ0 M0) (I : mHI s y D A ρ0 M0 sh0 ρ sh M J nc ns H locs) (h : okP (pby y) 25 pc pn = true) (hk : mRowR (mAt pcon sh a) = true) (hj : (mAt pcon sh a).2.2[j]? = some r) (hx2 : x = nI j) (k : W p l e R s m args below meth c H locs nc ns Q (F0 m pn ls (mTr ρ (mRef r) :: st))) : W p l e R s m args below meth c H locs nc ns Q (F0 m pc ls (.int x :: .ref (ρ a).1 :: st)) := by
  obtain ⟨rfl, h2⟩ := okP_at h
  have h : decode (pby y) pc = .ok (.aaload, 1) := by simpa using h2
  obtain ⟨hx, hb, hml, hown, hts, hnm, hA, hK, hCF, -⟩ := C
  obtain ⟨hP, hD, hS, hAF, hM, hkd, hpl, hρ, -⟩ := I
  obtain ⟨hk1, hk2, hk3⟩ := mRowR_at hk
  have hjl : j < (mAt pcon sh a).2.1 := by rw [← hk2]; exact (List.getElem?_eq_some_iff.mp hj).1
  subst hx2
  rcases mAt_or hkd.2 (by rw [hk1]; decide) with ⟨h1, -⟩ | ⟨i, -, -, h1⟩
  · have hw := mWd_at (ρ := ρ) (M := M) (J := J) h1
    rw [mCell_4 hk1] at hw
    refine va_aldq hx hb (mK1 hK (hAF a _ _ h1 (mAt1_r hk1))) hP a 0 hw rfl (vp_in_nI hjl (by omega)) h ?_
    rw [mRo_rf, nI_clamp (by omega), mNth_get, hj]
    exact k
  · rw [hk1] at h1
    simp at h1
theorem so37 {a : Nat} (C : mAct p s m args meth c R y D A ρ0 M0) (hls : ls.size = (PG.2.1 y).1) (h : ok37 (pby y) (pnm y).cls hs pc pn = true) (hrk : 1 ≤ (PG.2.1 y).2.2.2.1) (hst : (st.map fun v => v.category).sum ≤ 8) (k : W p l e R s m args below meth c H locs nc ns Q (F0 m pn ls st)) : W p l e R s m args below meth c H locs nc ns Q (F0 m pc ls (.ref a :: st)) := by
  obtain ⟨hx, hb, hml, hown, hts, hnm, hA, hK, hCF, hf, hlo, -⟩ := C
  unfold ok37 at h
  split at h
  · rename_i kx hd
    simp only [Bool.and_eq_true, decide_eq_true_eq] at h
    obtain ⟨rfl, h1, h2, h3⟩ := h
    have hroom := lv_room (m := m) (pc := pc) (ls := ls) (rest := .ref a :: st) hst
    exact W.objInit hx hb hown (hts _ (oW_in h1)) (hts _ (oW_in h2)) (hts _ (oW_in h3)) (g := F0 m pc ls (.ref a :: st)) rfl (hls.trans hml.symm) rfl hd (by omega) (by omega) k
  · cases h
theorem so41i {b : Nat} {x v : Int32} (C : mAct p s m args meth c R y D A ρ0 M0) (I : mHI s y D A ρ0 M0 sh0 ρ sh M J nc ns H locs) (hls : ls.size = (PG.2.1 y).1) (h : ok41 (pby y) (pnm y).cls hs b pc pn = true) (hb2 : ¬ b = 2) (hrk : 1 ≤ (PG.2.1 y).2.2.2.1) (hst : (st.map fun v => v.category).sum ≤ 8) (k : W p l e R s m args below meth c H locs nc ns Q (F0 m pn ls (.int (mMx b x v) :: st))) : W p l e R s m args below meth c H locs nc ns Q (F0 m pc ls (.int v :: .int x :: st)) := by
  obtain ⟨hx, hb, hml, hown, hts, hnm, hA, hK, hCF, hf, hlo, hce, hsl⟩ := C
  obtain ⟨-, -, -, -, -, -, -, -, -, hnc, hns⟩ := I
  unfold ok41 at h
  split at h
  · rename_i kx hd
    simp only [Bool.and_eq_true, decide_eq_true_eq] at h
    obtain ⟨rfl, h1, h⟩ := h
    split at h
    · simp only [Bool.and_eq_true] at h
      exact va_mmax hx hb (hml.trans hls.symm) hown (hts _ (oW_in h.1)) (hts _ (oW_in h.2.1)) (hts _ (oW_in h1)) (hts _ (oW_in h.2.2)) (by omega) (by omega) (by omega) (by omega) hd k
    · simp only [Bool.and_eq_true] at h
      exact va_mmin hx hb (hml.trans hls.symm) hown (hts _ (oW_in h.1)) (hts _ (oW_in h.2.1)) (hts _ (oW_in h1)) (hts _ (oW_in h.2.2)) (by omega) (by omega) (by omega) (by omega) hd k
    · exact absurd rfl hb2
    · cases h
  · cases h
theorem so41j {x v : Int64} (C : mAct p s m args meth c R y D A ρ0 M0) (I : mHI s y D A ρ0 M0 sh0 ρ sh M J nc ns H locs) (hls : ls.size = (PG.2.1 y).1) (h : ok41 (pby y) (pnm y).cls hs 2 pc pn = true) (hrk : 1 ≤ (PG.2.1 y).2.2.2.1) (hst : (st.map fun v => v.category).sum ≤ 8) (k : W p l e R s m args below meth c H locs nc ns Q (F0 m pn ls (.long (mMxJ x v) :: st))) : W p l e R s m args below meth c H locs nc ns Q (F0 m pc ls (.long v :: .long x :: st)) := by
  obtain ⟨hx, hb, hml, hown, hts, hnm, hA, hK, hCF, hf, hlo, hce, hsl⟩ := C
  obtain ⟨-, -, -, -, -, -, -, -, -, hnc, hns⟩ := I
  unfold ok41 at h
  split at h
  · rename_i kx hd
    simp only [Bool.and_eq_true, decide_eq_true_eq] at h
    obtain ⟨rfl, h1, h⟩ := h
    exact va_mmax_long hx hb (hml.trans hls.symm) hown (hts _ (oW_in h.1)) (hts _ (oW_in h.2.1)) (hts _ (oW_in h1)) (hts _ (oW_in h.2.2)) (by omega) (by omega) (by omega) (by omega) hd k
  · cases h
theorem so40 {a : Nat} {x v : Int32} (C : mAct p s m args meth c R y D A ρ0 M0) (I : mHI s y D A ρ0 M0 sh0 ρ sh M J nc ns H locs) (h : okC (pby y) pc (pc + 1) v = true) (h2 : ok40 (pby y) (pc + 1) pn = true) (hk : (mAt pcon sh a).1 = 3) (hin : mIn x (mAt pcon sh a).2.1) (k : ∀ (H1 : Heap) (locs1 : List Loc), mHI s y D A ρ0 M0 sh0 ρ sh (mUp M a x.toNatClampNeg v) J nc ns H1 locs1 → W p l e R s m args below meth c H1 locs1 nc ns Q (F0 m pn ls st)) : W p l e R s m args below meth c H locs nc ns Q (F0 m pc ls (.int x :: .ref (ρ a).1 :: st)) := by
  obtain ⟨hx, hb, hml, hown, hts, hnm, hA, hK, hCF, -⟩ := C
  have I0 := I
  obtain ⟨hP, hD, hS, hAF, hM, hkd, hpl, hρ, -⟩ := I
  unfold okC at h
  split at h
  · rename_i n hd
    simp only [Bool.and_eq_true, decide_eq_true_eq] at h
    obtain ⟨g1, -, g2⟩ := h
    unfold ok40 at h2
    split at h2
    · rename_i hd2
      rw [decide_eq_true_eq] at h2
      subst h2
      refine lv_iconst hx hb hd g1 ?_
      rcases mAt_or hkd.2 (by rw [hk]; decide) with ⟨h1, -⟩ | ⟨j, -, -, h1⟩
      · have hw := mWd_at (ρ := ρ) (M := M) (J := J) h1
        have hl := sh_lt h1
        rw [mCell_1 (Or.inr hk)] at hw
        refine va_zast hx hb (mK1 hK (hAF a _ .boolean h1 (mAt1_z hk))) hP hD hS a 0 hw rfl hin hd2 (fun H1 locs1 hP1 hD1 hS1 => ?_)
        have en : vp_nar .boolean v = v := by rcases g2 with rfl | rfl <;> decide +kernel
        rw [en] at hP1 hD1
        have ew : (mWd ρ M J sh).set a ((ρ a).1, .inl ((ρ a).2, (mAt pcon sh a).2.1, .inl (upd (M a) x.toNatClampNeg v))) = mWd ρ (mUp M a x.toNatClampNeg v) J sh := by
          rw [mWd_set (M := M) (J := J) (M2 := mUp M a x.toNatClampNeg v) (J2 := J) h1 (fun k hk => mUp_ne M hk) (fun _ _ => rfl), mCell_1 (Or.inr hk), mUp_at]
        rw [ew] at hP1 hD1
        exact k H1 locs1 (I0.upd hP1 hD1 hS1 (fun k hk => mUp_ne M (by omega)))
      · rw [hk] at h1
        simp at h1
    · cases h2
  · cases h
theorem so39 {ci a o : Nat} {cell : mSC} {v : Int32} (C : mAct p s m args meth c R y D A ρ0 M0) (I : mHI s y D A ρ0 M0 sh0 ρ sh M J nc ns H locs) (h : okC (pby y) pc (pc + 1) v = true) (h2 : okPut (pby y) (pnm y).cls (pnm y).name hs ci a (pc + 1) true 0 = true) (hc : sh[o]? = some cell) (hk : cell.1 = 0) (hci : cell.2.1 = ci) (k : ∀ (H1 : Heap) (locs1 : List Loc), mHI s y D A ρ0 M0 sh0 ρ sh (mUp M o a v) J nc ns H1 locs1 → W p l e R s m args below meth c H1 locs1 nc ns Q (F0 m (pc + 4) ls st)) : W p l e R s m args below meth c H locs nc ns Q (F0 m pc ls (.ref (ρ o).1 :: st)) := by
  have C0 := C
  obtain ⟨hx, hb, -⟩ := C
  unfold okC at h
  split at h
  · rename_i n hd
    simp only [Bool.and_eq_true, decide_eq_true_eq] at h
    obtain ⟨g1, -, g2⟩ := h
    refine lv_iconst hx hb hd g1 ?_
    exact so21 (pc := pc + 1) C0 I h2 hc hk hci (fun _ => g2) k
  · cases h
end OPS
