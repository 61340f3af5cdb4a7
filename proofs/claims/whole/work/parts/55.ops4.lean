/-! soundness of stores, of arrays, of what was there before -/
theorem mUp_at (M : mMI) (o a : Nat) (v : Int32) : mUp M o a v o = upd (M o) a v := if_pos rfl
theorem mUp_ne (M : mMI) {o a k : Nat} {v : Int32} (h : k ≠ o) : mUp M o a v k = M k := if_neg h
theorem mUpJ_at (M : mMJ) (o a : Nat) (v : Int64) : mUpJ M o a v o = vp_updL (M o) a v := if_pos rfl
theorem mUpJ_ne (M : mMJ) {o a k : Nat} {v : Int64} (h : k ≠ o) : mUpJ M o a v k = M k := if_neg h
theorem mSet_at (M : mMI) (o : Nat) (f : Nat → Int32) : mSet M o f o = f := if_pos rfl
theorem mSet_ne (M : mMI) {o k : Nat} {f : Nat → Int32} (h : k ≠ o) : mSet M o f k = M k := if_neg h
theorem mSetJ_at (M : mMJ) (o : Nat) (f : Nat → Int64) : mSetJ M o f o = f := if_pos rfl
theorem mSetJ_ne (M : mMJ) {o k : Nat} {f : Nat → Int64} (h : k ≠ o) : mSetJ M o f k = M k := if_neg h
theorem mHI.upd {s : State} {y : Nat} {D : va_G} {A : Nat → Prop} {ρ0 : mRho} {M0 : mMI} {sh0 : List mSC} {ρ : mRho} {sh : List mSC} {M M2 : mMI} {J J2 : mMJ} {nc ns : Nat} {H H1 : Heap} {locs locs1 : List Loc} (I : mHI s y D A ρ0 M0 sh0 ρ sh M J nc ns H locs) (hP : va_P D vwCl (mWd ρ M2 J2 sh) H1) (hD : va_D A (mWd ρ M2 J2 sh)) (hS : va_S A s.heap H1 locs1) (hM : ∀ k, 999 ≤ k → M2 k = M k) : mHI s y D A ρ0 M0 sh0 ρ sh M2 J2 nc ns H1 locs1 := by
  obtain ⟨-, -, -, h4, h5, h6, h7⟩ := I
  exact ⟨hP, hD, hS, h4, fun k hk => (hM k hk).trans (h5 k hk), h6, h7⟩
theorem sh_lt {sh : List mSC} {o : Nat} {cell : mSC} (h : sh[o]? = some cell) : o < sh.length := (List.getElem?_eq_some_iff.mp h).1
theorem mLenI_0 {c : mSC} {M : mMI} {n : Nat} (h : mLenI 0 c M = some n) : (c.1 = 1 ∧ n = c.2.1) ∨ (c.1 = 5 ∧ n = (match c.2.1 with | 0 => (M 999 0).toNatClampNeg | k + 1 => k + 1)) := by
  obtain ⟨k1, k2, k3⟩ := c
  match k1, h with
  | 0, h => cases h
  | 1, h => cases h; exact Or.inl ⟨rfl, rfl⟩
  | 2, h => cases h
  | 3, h => cases h
  | 4, h => cases h
  | 5, h => exact Or.inr ⟨rfl, by cases k2 <;> (cases h; rfl)⟩
  | n + 6, h => cases h
theorem mLenI_1 {c : mSC} {M : mMI} {n : Nat} (h : mLenI 1 c M = some n) : (c.1 = 3 ∨ c.1 = 6) ∧ n = c.2.1 := by
  obtain ⟨k1, k2, k3⟩ := c
  match k1, h with
  | 0, h => cases h
  | 1, h => cases h
  | 2, h => cases h
  | 3, h => cases h; exact ⟨Or.inl rfl, rfl⟩
  | 4, h => cases h
  | 5, h => cases h
  | 6, h => cases h; exact ⟨Or.inr rfl, rfl⟩
  | n + 7, h => cases h
theorem mLn_at {c : mSC} {M : mMI} {n : Int32} (h : mLn c M = some n) : ((c.1 = 1 ∨ c.1 = 6) ∧ n = Int32.ofNat c.2.1) ∨ (c.1 = 5 ∧ ((c.2.1 = 0 ∧ n = M 999 0) ∨ ∃ k, c.2.1 = k + 1 ∧ n = Int32.ofNat (k + 1))) := by
  obtain ⟨k1, k2, k3⟩ := c
  match k1, h with
  | 0, h => cases h
  | 1, h => cases h; exact Or.inl ⟨Or.inl rfl, rfl⟩
  | 2, h => cases h
  | 3, h => cases h
  | 4, h => cases h
  | 5, h =>
    refine Or.inr ⟨rfl, ?_⟩
    cases k2 with
    | zero => cases h; exact Or.inl ⟨rfl, rfl⟩
    | succ k => cases h; exact Or.inr ⟨k, rfl, rfl⟩
  | 6, h => cases h; exact Or.inl ⟨Or.inr rfl, rfl⟩
  | n + 7, h => cases h
theorem mAt1_i {c : mSC} (h : c.1 = 1) : mAt1 c = some .int := by
  obtain ⟨k1, k2, k3⟩ := c
  cases h
  rfl
theorem mAt1_j {c : mSC} (h : c.1 = 2) : mAt1 c = some .long := by
  obtain ⟨k1, k2, k3⟩ := c
  cases h
  rfl
theorem mAt1_z {c : mSC} (h : c.1 = 3) : mAt1 c = some .boolean := by
  obtain ⟨k1, k2, k3⟩ := c
  cases h
  rfl
theorem mAt1_r {c : mSC} (h : c.1 = 4) : mAt1 c = some (.object "PotAndFine$Kept") := by
  obtain ⟨k1, k2, k3⟩ := c
  cases h
  rfl
section OPS
variable {p : Program} {l : Launch} {e : Env} {R : Room} {s : State} {m : MethodId} {args : Array Value} {below : List Frame} {meth : Method} {c : Code} {Q : State → Prop} {y : Nat} {D : va_G} {A : Nat → Prop} {ρ0 : mRho} {M0 : mMI} {sh0 : List mSC} {ρ : mRho} {sh : List mSC} {M : mMI} {J : mMJ} {nc ns : Nat} {H : Heap} {locs : List Loc} {ls : Array Slot} {st : List Value} {pc pn : Nat} {hs : List Nat}
theorem okPut_at {ci a r : Nat} {z : Bool} {q : vw_C} (hq : vwCl[ci]? = some q) (h : okPut (pby y) (pnm y).cls (pnm y).name hs ci a pc z r = true) : ∃ kx, decode (pby y) pc = .ok (.putfield kx, 3) ∧ a < q.2.2 ∧ Cond.fieldLink (pnm y).cls kx (q.2.1 a).1 (q.2.1 a).2.1 (q.2.1 a).2.2.1 ∈ TB ∧ mNth 2 (mNth [] pkin ci) a = r ∧ ((q.2.1 a).2.2.2 = false ∨ ((pnm y).name = "<init>" ∧ (q.2.1 a).1 = (pnm y).cls)) ∧ (r = 1 ∨ (q.2.1 a).2.2.1 = (if z then "Z" else "I")) := by
  unfold okPut at h
  split at h
  · rename_i kx hd
    split at h
    · rename_i f hf
      unfold oF at hf
      rw [hq] at hf
      dsimp only at hf
      split at hf
      · rename_i hlt
        cases hf
        simp only [Bool.and_eq_true, Bool.or_eq_true, decide_eq_true_eq] at h
        exact ⟨kx, hd, hlt, oW_in h.1, h.2.1, h.2.2.1, h.2.2.2⟩
      · cases hf
    · cases h
  · cases h
/-- a number is put into a field -/
theorem so21 {ci a o : Nat} {cell : mSC} {v : Int32} {z : Bool} (C : mAct p s m args meth c R y D A ρ0 M0) (I : mHI s y D A ρ0 M0 sh0 ρ sh M J nc ns H locs) (h : okPut (pby y) (pnm y).cls (pnm y).name hs ci a pc z 0 = true) (hc : sh[o]? = some cell) (hk : cell.1 = 0) (hci : cell.2.1 = ci) (hz : z = true → v = 0 ∨ v = 1) (k : ∀ (H1 : Heap) (locs1 : List Loc), mHI s y D A ρ0 M0 sh0 ρ sh (mUp M o a v) J nc ns H1 locs1 → W p l e R s m args below meth c H1 locs1 nc ns Q (F0 m (pc + 3) ls st)) : W p l e R s m args below meth c H locs nc ns Q (F0 m pc ls (.int v :: .ref (ρ o).1 :: st)) := by
  obtain ⟨hx, hb, hml, hown, hts, hnm, hA, hK, hCF, -⟩ := C
  have I0 := I
  obtain ⟨hP, hD, hS, hAF, hM, hkd, -⟩ := I
  have hol := sh_lt hc
  have hw := mWd_at (ρ := ρ) (M := M) (J := J) hc
  rw [mCell_0 hk, hci] at hw
  obtain ⟨q, hq, -⟩ := hP o _ hw
  have hq : vwCl[ci]? = some q := hq
  obtain ⟨kx, hd, hlt, hlk, hr, hfin, hds⟩ := okPut_at hq h
  obtain ⟨hnames, ty, hty, -⟩ := vw_ty hq
  have hds : (q.2.1 a).2.2.1 = (if z then "Z" else "I") := hds.resolve_left (by decide)
  have hd2 : ∃ ty1, parseFieldDescriptor (q.2.1 a).2.2.1 = some ty1 ∧ narrow ty1 (.int v) = .int v ∧ fits ty1 (.int v) = true := by
    rw [hds]
    cases z with
    | false => exact ⟨.int, by decide +kernel, rfl, rfl⟩
    | true =>
      rcases hz rfl with rfl | rfl
      · exact ⟨.boolean, by decide +kernel, by decide +kernel, by decide +kernel⟩
      · exact ⟨.boolean, by decide +kernel, by decide +kernel, by decide +kernel⟩
  obtain ⟨ty1, g1, g2, g3⟩ := hd2
  have hlen : a < (mFV ρ (mNth [] pkin ci) cell.2.2 (M o)).length := by
    rw [mFV_len]
    rcases Nat.lt_or_ge a (mNth [] pkin ci).length with t | t
    · exact t
    · rw [mNth_far 2 _ a t] at hr; cases hr
  have ew : (mWd ρ M J sh).set o ((ρ o).1, .inr (ci, (mFV ρ (mNth [] pkin ci) cell.2.2 (M o)).set a (.int v))) = mWd ρ (mUp M o a v) J sh := by
    rw [mWd_set (M := M) (J := J) (M2 := mUp M o a v) (J2 := J) hc (fun k hk => mUp_ne M hk) (fun _ _ => rfl), mCell_0 hk, hci, mUp_at, mFV_upd hr]
  have fin : ∀ (H1 : Heap) (locs1 : List Loc), va_P D vwCl ((mWd ρ M J sh).set o ((ρ o).1, .inr (ci, (mFV ρ (mNth [] pkin ci) cell.2.2 (M o)).set a (.int v)))) H1 → va_D A ((mWd ρ M J sh).set o ((ρ o).1, .inr (ci, (mFV ρ (mNth [] pkin ci) cell.2.2 (M o)).set a (.int v)))) → va_S A s.heap H1 locs1 → W p l e R s m args below meth c H1 locs1 nc ns Q (F0 m (pc + 3) ls st) := by
    intro H1 locs1 hP1 hD1 hS1
    rw [ew] at hP1 hD1
    exact k H1 locs1 (I0.upd hP1 hD1 hS1 (fun k hk => mUp_ne M (by omega)))
  rcases hfin with hf | ⟨hf1, hf2⟩
  · exact va_put hx hb hts (vw_in hq) ty hty hnames hown hK hP hD hS o hw hq a hlt (hts _ hlk) (fun _ z => z) hf g1 g2 g3 hlen hd fin
  · by_cases hf : (q.2.1 a).2.2.2 = false
    · exact va_put hx hb hts (vw_in hq) ty hty hnames hown hK hP hD hS o hw hq a hlt (hts _ hlk) (fun _ z => z) hf g1 g2 g3 hlen hd fin
    · exact va_putF hx hb hts (vw_in hq) ty hty hnames hown hK hP hD hS o hw hq a hlt (hts _ hlk) (fun _ z => z) (by simpa using hf) (hnm hf1) hf2 g1 g2 g3 hlen hd fin
/-- a static row or a text -/
theorem so22 {a : Nat} (C : mAct p s m args meth c R y D A ρ0 M0) (I : mHI s y D A ρ0 M0 sh0 ρ sh M J nc ns H locs) (h : ok22 (pby y) (pnm y).cls hs a pc pn = true) (k : W p l e R s m args below meth c H locs nc ns Q (F0 m pn ls (.ref (ρ a).1 :: st))) : W p l e R s m args below meth c H locs nc ns Q (F0 m pc ls st) := by
  obtain ⟨hx, hb, hml, hown, hts, hnm, hA, hK, hCF, -⟩ := C
  obtain ⟨hP, hD, hS, hAF, hM, hkd, hpl, hρ, -⟩ := I
  have pl1 : ∀ q ∈ pSt, 999 ≤ q.1 := by decide +kernel
  have pl2 : ∀ q ∈ pTx, 999 ≤ q.2.2 := by decide +kernel
  unfold ok22 at h
  split at h
  · rename_i kx hd
    simp only [Bool.and_eq_true, decide_eq_true_eq] at h
    obtain ⟨rfl, h⟩ := h
    split at h
    · rename_i q hq
      have hq1 := List.mem_of_find?_eq_some hq
      have hq2 : q.1 = a := by simpa using List.find?_some hq
      subst hq2
      rw [hρ q.1 (Or.inr (pl1 q hq1))] at k
      simp only [Bool.or_eq_true] at h
      rcases h with h | h
      · exact va_gets hx hb (hCF.2.1 q hq1) hS hown (hts _ (oW_in h)) (fun _ z => z) hd k
      · have hn := hCF.2.2.2.2.1 _ (of_decide_eq_true h)
        exact va_getsN hx hb (hCF.2.1 q hq1) hS hown (va_Nw.use rfl hn) (fun _ z => z) hd k
    · cases h
  · rename_i kx hd
    simp only [Bool.and_eq_true, decide_eq_true_eq] at h
    obtain ⟨rfl, ho, h⟩ := h
    split at h
    · rename_i q hq
      have hq1 := List.mem_of_find?_eq_some hq
      have hq2 : q.2.2 = a := by simpa using List.find?_some hq
      subst hq2
      rw [decide_eq_true_eq] at h
      subst h
      rw [hρ q.2.2 (Or.inr (pl2 q hq1))] at k
      exact va_ldcS hx hb (ho ▸ hown) (hCF.2.2.1 q hq1) hd k
    · cases h
  · cases h
/-- reading a row of numbers -/
theorem so23 {a b n : Nat} {x : Int32} (C : mAct p s m args meth c R y D A ρ0 M0) (I : mHI s y D A ρ0 M0 sh0 ρ sh M J nc ns H locs) (h : ok23 (pby y) b pc pn = true) (hn : mLenI b (mAt pcon sh a) M = some n) (hin : mIn x n) (k : W p l e R s m args below meth c H locs nc ns Q (F0 m pn ls (.int (M a x.toNatClampNeg) :: st))) : W p l e R s m args below meth c H locs nc ns Q (F0 m pc ls (.int x :: .ref (ρ a).1 :: st)) := by
  obtain ⟨hx, hb, hml, hown, hts, hnm, hA, hK, hCF, -⟩ := C
  obtain ⟨hP, hD, hS, hAF, hM, hkd, hpl, hρ, -⟩ := I
  unfold ok23 at h
  simp only [Bool.and_eq_true, decide_eq_true_eq] at h
  obtain ⟨rfl, h⟩ := h
  split at h <;> rename_i hd
  · rw [decide_eq_true_eq] at h
    subst h
    rcases mLenI_0 hn with ⟨hk, rfl⟩ | ⟨hk, rfl⟩
    · rcases mAt_or hkd.2 (by rw [hk]; decide) with ⟨h1, -⟩ | ⟨j, -, -, h1⟩
      · have hw := mWd_at (ρ := ρ) (M := M) (J := J) h1
        rw [mCell_1 (Or.inl hk)] at hw
        exact va_iald hx hb (mK1 hK (hAF a _ .int h1 (mAt1_i hk))) hP a 0 hw rfl hin hd k
      · rw [hk] at h1
        simp at h1
    · rcases mAt_or hkd.2 (by rw [hk]; decide) with ⟨-, h1⟩ | ⟨j, rfl, h1, -⟩
      · rw [hk] at h1
        simp at h1
      · have g := mCC_5 hk (hCF.1 j _ h1)
        rw [hM (1000 + j) (by omega)] at k
        rw [hρ (1000 + j) (Or.inr (by omega))]
        rw [hM 999 (by omega)] at hin
        exact va_ti hx hb g hS hin rfl hd k
  · rw [decide_eq_true_eq] at h
    subst h
    obtain ⟨hk, rfl⟩ := mLenI_1 hn
    rcases hk with hk | hk
    · rcases mAt_or hkd.2 (by rw [hk]; decide) with ⟨h1, -⟩ | ⟨j, -, -, h1⟩
      · have hw := mWd_at (ρ := ρ) (M := M) (J := J) h1
        rw [mCell_1 (Or.inr hk)] at hw
        exact va_zald hx hb (mK1 hK (hAF a _ .boolean h1 (mAt1_z hk))) hP a 0 hw rfl hin hd k
      · rw [hk] at h1
        simp at h1
    · rcases mAt_or hkd.2 (by rw [hk]; decide) with ⟨-, h1⟩ | ⟨j, rfl, h1, -⟩
      · rw [hk] at h1
        simp at h1
      · have g := mCC_6 hk (hCF.1 j _ h1)
        rw [hM (1000 + j) (by omega)] at k
        rw [hρ (1000 + j) (Or.inr (by omega))]
        exact va_tb hx hb g hS hin rfl hd k
  · cases h
theorem so24 {a : Nat} {x : Int32} (C : mAct p s m args meth c R y D A ρ0 M0) (I : mHI s y D A ρ0 M0 sh0 ρ sh M J nc ns H locs) (h : okP (pby y) 24 pc pn = true) (hk : (mAt pcon sh a).1 = 2) (hin : mIn x (mAt pcon sh a).2.1) (k : W p l e R s m args below meth c H locs nc ns Q (F0 m pn ls (.long (J a x.toNatClampNeg) :: st))) : W p l e R s m args below meth c H locs nc ns Q (F0 m pc ls (.int x :: .ref (ρ a).1 :: st)) := by
  obtain ⟨rfl, h2⟩ := okP_at h
  have h : decode (pby y) pc = .ok (.laload, 1) := by simpa using h2
  obtain ⟨hx, hb, hml, hown, hts, hnm, hA, hK, hCF, -⟩ := C
  obtain ⟨hP, hD, hS, hAF, hM, hkd, hpl, hρ, -⟩ := I
  rcases mAt_or hkd.2 (by rw [hk]; decide) with ⟨h1, -⟩ | ⟨j, -, -, h1⟩
  · have hw := mWd_at (ρ := ρ) (M := M) (J := J) h1
    rw [mCell_2 hk] at hw
    exact va_lald hx hb (mK1 hK (hAF a _ .long h1 (mAt1_j hk))) hP a 0 hw rfl hin h k
  · rw [hk] at h1
    simp at h1
theorem so26 {a : Nat} {x v : Int32} (C : mAct p s m args meth c R y D A ρ0 M0) (I : mHI s y D A ρ0 M0 sh0 ρ sh M J nc ns H locs) (h : okP (pby y) 26 pc pn = true) (hk : (mAt pcon sh a).1 = 1) (hin : mIn x (mAt pcon sh a).2.1) (k : ∀ (H1 : Heap) (locs1 : List Loc), mHI s y D A ρ0 M0 sh0 ρ sh (mUp M a x.toNatClampNeg v) J nc ns H1 locs1 → W p l e R s m args below meth c H1 locs1 nc ns Q (F0 m pn ls st)) : W p l e R s m args below meth c H locs nc ns Q (F0 m pc ls (.int v :: .int x :: .ref (ρ a).1 :: st)) := by
  obtain ⟨rfl, h2⟩ := okP_at h
  have h : decode (pby y) pc = .ok (.iastore, 1) := by simpa using h2
  obtain ⟨hx, hb, hml, hown, hts, hnm, hA, hK, hCF, -⟩ := C
  have I0 := I
  obtain ⟨hP, hD, hS, hAF, hM, hkd, hpl, hρ, -⟩ := I
  rcases mAt_or hkd.2 (by rw [hk]; decide) with ⟨h1, -⟩ | ⟨j, -, -, h1⟩
  · have hw := mWd_at (ρ := ρ) (M := M) (J := J) h1
    have hl := sh_lt h1
    rw [mCell_1 (Or.inl hk)] at hw
    refine va_iast hx hb (mK1 hK (hAF a _ .int h1 (mAt1_i hk))) hP hD hS a 0 hw rfl hin h (fun H1 locs1 hP1 hD1 hS1 => ?_)
    have ew : (mWd ρ M J sh).set a ((ρ a).1, .inl ((ρ a).2, (mAt pcon sh a).2.1, .inl (upd (M a) x.toNatClampNeg v))) = mWd ρ (mUp M a x.toNatClampNeg v) J sh := by
      rw [mWd_set (M := M) (J := J) (M2 := mUp M a x.toNatClampNeg v) (J2 := J) h1 (fun k hk => mUp_ne M hk) (fun _ _ => rfl), mCell_1 (Or.inl hk), mUp_at]
    rw [ew] at hP1 hD1
    exact k H1 locs1 (I0.upd hP1 hD1 hS1 (fun k hk => mUp_ne M (by omega)))
  · rw [hk] at h1
    simp at h1
theorem so27 {a : Nat} {x : Int32} {v : Int64} (C : mAct p s m args meth c R y D A ρ0 M0) (I : mHI s y D A ρ0 M0 sh0 ρ sh M J nc ns H locs) (h : okP (pby y) 27 pc pn = true) (hk : (mAt pcon sh a).1 = 2) (hin : mIn x (mAt pcon sh a).2.1) (k : ∀ (H1 : Heap) (locs1 : List Loc), mHI s y D A ρ0 M0 sh0 ρ sh M (mUpJ J a x.toNatClampNeg v) nc ns H1 locs1 → W p l e R s m args below meth c H1 locs1 nc ns Q (F0 m pn ls st)) : W p l e R s m args below meth c H locs nc ns Q (F0 m pc ls (.long v :: .int x :: .ref (ρ a).1 :: st)) := by
  obtain ⟨rfl, h2⟩ := okP_at h
  have h : decode (pby y) pc = .ok (.lastore, 1) := by simpa using h2
  obtain ⟨hx, hb, hml, hown, hts, hnm, hA, hK, hCF, -⟩ := C
  have I0 := I
  obtain ⟨hP, hD, hS, hAF, hM, hkd, hpl, hρ, -⟩ := I
  rcases mAt_or hkd.2 (by rw [hk]; decide) with ⟨h1, -⟩ | ⟨j, -, -, h1⟩
  · have hw := mWd_at (ρ := ρ) (M := M) (J := J) h1
    have hl := sh_lt h1
    rw [mCell_2 hk] at hw
    refine va_last hx hb (mK1 hK (hAF a _ .long h1 (mAt1_j hk))) hP hD hS a 0 hw rfl hin h (fun H1 locs1 hP1 hD1 hS1 => ?_)
    have ew : (mWd ρ M J sh).set a ((ρ a).1, .inl ((ρ a).2, (mAt pcon sh a).2.1, .inr (.inl (vp_updL (J a) x.toNatClampNeg v)))) = mWd ρ M (mUpJ J a x.toNatClampNeg v) sh := by
      rw [mWd_set (M := M) (J := J) (M2 := M) (J2 := mUpJ J a x.toNatClampNeg v) h1 (fun _ _ => rfl) (fun k hk => mUpJ_ne J hk), mCell_2 hk, mUpJ_at]
    rw [ew] at hP1 hD1
    exact k H1 locs1 (I0.upd hP1 hD1 hS1 (fun _ _ => rfl))
  · rw [hk] at h1
    simp at h1
theorem so29 {a : Nat} {n : Int32} (C : mAct p s m args meth c R y D A ρ0 M0) (I : mHI s y D A ρ0 M0 sh0 ρ sh M J nc ns H locs) (h : okP (pby y) 29 pc pn = true) (hn : mLn (mAt pcon sh a) M = some n) (k : W p l e R s m args below meth c H locs nc ns Q (F0 m pn ls (.int n :: st))) : W p l e R s m args below meth c H locs nc ns Q (F0 m pc ls (.ref (ρ a).1 :: st)) := by
  obtain ⟨rfl, h2⟩ := okP_at h
  have h : decode (pby y) pc = .ok (.arraylength, 1) := by simpa using h2
  obtain ⟨hx, hb, hml, hown, hts, hnm, hA, hK, hCF, -⟩ := C
  obtain ⟨hP, hD, hS, hAF, hM, hkd, hpl, hρ, -⟩ := I
  rcases mLn_at hn with ⟨hk | hk, rfl⟩ | ⟨hk, hn⟩
  · rcases mAt_or hkd.2 (by rw [hk]; decide) with ⟨h1, -⟩ | ⟨j, -, -, h1⟩
    · have hw := mWd_at (ρ := ρ) (M := M) (J := J) h1
      rw [mCell_1 (Or.inl hk)] at hw
      exact va_alen hx hb (mK1 hK (hAF a _ .int h1 (mAt1_i hk))) hP a 0 hw rfl rfl h k
    · rw [hk] at h1
      simp at h1
  · rcases mAt_or hkd.2 (by rw [hk]; decide) with ⟨-, h1⟩ | ⟨j, rfl, h1, -⟩
    · rw [hk] at h1
      simp at h1
    · have g := mCC_6 hk (hCF.1 j _ h1)
      rw [hρ (1000 + j) (Or.inr (by omega))]
      exact va_tlen hx hb g hS rfl h k
  · rcases mAt_or hkd.2 (by rw [hk]; decide) with ⟨-, h1⟩ | ⟨j, rfl, h1, -⟩
    · rw [hk] at h1
      simp at h1
    · have g := mCC_5 hk (hCF.1 j _ h1)
      rw [hρ (1000 + j) (Or.inr (by omega))]
      rcases hn with ⟨h0, rfl⟩ | ⟨i, h0, rfl⟩
      · rw [h0] at g
        rw [hM 999 (by omega)] at k
        exact va_tlen hx hb g hS hCF.2.2.2.2.2.2 h k
      · rw [h0] at g
        exact va_tlen hx hb g hS rfl h k
end OPS
