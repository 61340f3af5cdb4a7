/-! an activation, its world, and what a run of the small machine promises -/
/-- facts of an activation of method y -/
def mAct (p : Program) (s : State) (m : MethodId) (args : Array Value) (meth : Method) (c : Code) (R : Room) (y : Nat) (D : va_G) (A : Nat → Prop) (ρ0 : mRho) (M0 : mMI) : Prop :=
  p.tables.exec = Jvm.exec ∧ c.code = pby y ∧ c.maxLocals = (PG.2.1 y).1 ∧ s.vm.findClass (pnm y).cls = some m.cls ∧ (∀ w ∈ TB, w.before args s = true) ∧ ((pnm y).name = "<init>" → meth.name = "<init>") ∧ (∀ q : Nat, s.heap.size ≤ q → A q) ∧ va_K D vwCl [] s ∧ mCF ρ0 M0 A s s.heap ∧ (PG.2.1 y).2.2.2.1 ≤ R.frames ∧ 37 * (PG.2.1 y).2.2.2.1 ≤ R.locals ∧ (PG.2.1 y).2.2.2.2.2.1 ≤ R.cells ∧ (PG.2.1 y).2.2.2.2.2.2.1 ≤ R.slots
/-- the heap of an activation -/
def mHI (s : State) (y : Nat) (D : va_G) (A : Nat → Prop) (ρ0 : mRho) (M0 : mMI) (sh0 : List mSC) (ρ : mRho) (sh : List mSC) (M : mMI) (J : mMJ) (nc ns : Nat) (H : Heap) (locs : List Loc) : Prop :=
  va_P D vwCl (mWd ρ M J sh) H ∧ va_D A (mWd ρ M J sh) ∧ va_S A s.heap H locs ∧ mAF ρ sh s ∧ (∀ k, 999 ≤ k → M k = M0 k) ∧ (sh.length < 999 ∧ ∀ q ∈ sh, q.1 ≤ 4) ∧ (¬ (PG.2.1 y).2.2.1 = 0 → ρ = ρ0 ∧ sh = sh0 ∧ nc = 0 ∧ ns = 0) ∧ (∀ k, k < sh0.length ∨ 999 ≤ k → ρ k = ρ0 k) ∧ sh0.length ≤ sh.length ∧ nc ≤ (PG.2.1 y).2.2.2.2.2.1 ∧ ns ≤ (PG.2.1 y).2.2.2.2.2.2.1
/-- what is wanted at a return -/
def mRetH (p : Program) (l : Launch) (e : Env) (R : Room) (s : State) (m : MethodId) (args : Array Value) (below : List Frame) (meth : Method) (c : Code) (Q : State → Prop) (y : Nat) (D : va_G) (A : Nat → Prop) (ρ0 : mRho) (M0 : mMI) (sh0 : List mSC) (r : mRs) : Prop :=
  ∀ (i : Nat) (ρ : mRho) (S : List Value) (sh : List mSC) (M : mMI) (J : mMJ) (nc ns : Nat) (H : Heap) (locs : List Loc) (ls : Array Slot), ok34 (pby y) (PG.2.1 y).2.1 (pPc y i) = true → mRet (PG.2.1 y).2.1 S (sh, M, J, nc, ns) = some r → mHI s y D A ρ0 M0 sh0 ρ sh M J nc ns H locs → W p l e R s m args below meth c H locs nc ns Q (F0 m (pPc y i) ls (S.map (mTr ρ)))
/-- soundness of n steps -/
def mSim (n : Nat) : Prop := ∀ (p : Program) (l : Launch) (e : Env) (R : Room) (s : State) (m : MethodId) (args : Array Value) (below : List Frame) (meth : Method) (c : Code) (Q : State → Prop) (y i : Nat) (L : List (Option Value)) (S : List Value) (sh : List mSC) (M : mMI) (J : mMJ) (nc ns : Nat) (r : mRs) (D : va_G) (A : Nat → Prop) (ρ0 : mRho) (M0 : mMI) (sh0 : List mSC) (ρ : mRho) (H : Heap) (locs : List Loc) (ls : Array Slot),
  mEv PG n (y, i, L, S, sh, M, J, nc, ns) = some r → mAct p s m args meth c R y D A ρ0 M0 → mHI s y D A ρ0 M0 sh0 ρ sh M J nc ns H locs → mLoc ρ ls (PG.2.1 y).1 L → mRetH p l e R s m args below meth c Q y D A ρ0 M0 sh0 r → W p l e R s m args below meth c H locs nc ns Q (F0 m (pPc y i) ls (S.map (mTr ρ)))
section OPS
variable {p : Program} {l : Launch} {e : Env} {R : Room} {s : State} {m : MethodId} {args : Array Value} {below : List Frame} {meth : Method} {c : Code} {Q : State → Prop} {y : Nat} {D : va_G} {A : Nat → Prop} {ρ0 : mRho} {M0 : mMI} {H : Heap} {locs : List Loc} {cells slots : Nat} {ls : Array Slot} {st : List Value} {pc pn : Nat}
theorem so0 {hs : List Nat} {v : Int32} (C : mAct p s m args meth c R y D A ρ0 M0) (hS : va_S A s.heap H locs) (h : ok0 (pby y) (pnm y).cls hs v pc pn = true) (k : W p l e R s m args below meth c H locs cells slots Q (F0 m pn ls (.int v :: st))) : W p l e R s m args below meth c H locs cells slots Q (F0 m pc ls st) := by
  obtain ⟨hx, hb, hml, hown, hts, hnm, hA, hK, hCF, -⟩ := C
  unfold ok0 at h
  split at h
  · rename_i n hd
    simp only [Bool.and_eq_true, decide_eq_true_eq] at h
    obtain ⟨h1, rfl⟩ := h
    exact lv_iconst hx hb hd h1 k
  · rename_i n hd
    simp only [Bool.and_eq_true, decide_eq_true_eq] at h
    obtain ⟨h1, rfl⟩ := h
    exact lv_bipush hx hb hd h1 k
  · rename_i n hd
    simp only [Bool.and_eq_true, decide_eq_true_eq] at h
    obtain ⟨h1, rfl⟩ := h
    exact lv_sipush hx hb hd h1 k
  · rename_i n hd
    simp only [Bool.and_eq_true, decide_eq_true_eq] at h
    obtain ⟨h1, rfl⟩ := h
    exact lv_ldc hx hb hown (hts _ (oW_in h1)) hd k
  · rename_i n hd
    simp only [Bool.and_eq_true, decide_eq_true_eq] at h
    obtain ⟨h1, rfl⟩ := h
    exact lv_ldcw hx hb hown (hts _ (oW_in h1)) hd k
  · rename_i n hd
    simp only [Bool.and_eq_true, decide_eq_true_eq] at h
    obtain ⟨rfl, h1, rfl⟩ := h
    exact va_gets hx hb hCF.2.2.2.1 hS hown (hts _ (oW_in h1)) (fun _ q => q) hd k
  · cases h
theorem so1 {hs : List Nat} {v : Int64} (C : mAct p s m args meth c R y D A ρ0 M0) (h : ok1 (pby y) (pnm y).cls hs v pc pn = true) (k : W p l e R s m args below meth c H locs cells slots Q (F0 m pn ls (.long v :: st))) : W p l e R s m args below meth c H locs cells slots Q (F0 m pc ls st) := by
  obtain ⟨hx, hb, hml, hown, hts, hnm, hA, hK, hCF, -⟩ := C
  unfold ok1 at h
  split at h
  · rename_i n hd
    simp only [Bool.and_eq_true, decide_eq_true_eq] at h
    obtain ⟨h1, rfl⟩ := h
    exact lv_lconst hx hb hd h1 k
  · rename_i n hd
    simp only [Bool.and_eq_true, decide_eq_true_eq] at h
    obtain ⟨h1, rfl⟩ := h
    exact lv_ldc2 hx hb hown (hts _ (oW_in h1)) hd k
  · cases h
theorem so2 {a b : Nat} {v : Value} {ρ : mRho} (C : mAct p s m args meth c R y D A ρ0 M0) (h : ok2 (pby y) a b pc pn = true) (ht : mTyp b v = true) (hl : ls[a]? = some (.val (mTr ρ v))) (k : W p l e R s m args below meth c H locs cells slots Q (F0 m pn ls (mTr ρ v :: st))) : W p l e R s m args below meth c H locs cells slots Q (F0 m pc ls st) := by
  obtain ⟨hx, hb, hml, hown, hts, hnm, hA, hK, hCF, -⟩ := C
  unfold ok2 at h
  split at h <;> rename_i n hd
  all_goals (try (simp only [Bool.and_eq_true, decide_eq_true_eq] at h; obtain ⟨rfl, h1, rfl⟩ := h))
  · cases v <;> first | (simp [mTyp] at ht; done) | exact lv_iload_n hx hb hd h1 hl k
  · subst h1
    cases v <;> first | (simp [mTyp] at ht; done) | exact lv_iload hx hb hd hl k
  · cases v <;> first | (simp [mTyp] at ht; done) | exact lv_lload_n hx hb hd h1 hl k
  · subst h1
    cases v <;> first | (simp [mTyp] at ht; done) | exact lv_lload hx hb hd hl k
  · cases v <;> first | (simp [mTyp] at ht; done) | exact lv_aload_n hx hb hd h1 hl k
  · subst h1
    cases v <;> first | (simp [mTyp] at ht; done) | exact lv_aload hx hb hd hl k
  · cases h
theorem so3 {a b : Nat} {v : Value} {ρ : mRho} {L : List (Option Value)} {nL : Nat} (C : mAct p s m args meth c R y D A ρ0 M0) (h : ok3 (pby y) nL a b pc pn = true) (ht : mTyp b v = true) (hL : mLoc ρ ls nL L) (k : ∀ ls2 : Array Slot, mLoc ρ ls2 nL (mSto L a v) → W p l e R s m args below meth c H locs cells slots Q (F0 m pn ls2 st)) : W p l e R s m args below meth c H locs cells slots Q (F0 m pc ls (mTr ρ v :: st)) := by
  obtain ⟨hx, hb, hml, hown, hts, hnm, hA, hK, hCF, -⟩ := C
  unfold ok3 at h
  split at h <;> rename_i n hd
  all_goals (try (simp only [Bool.and_eq_true, decide_eq_true_eq] at h; obtain ⟨rfl, h1, h2, rfl⟩ := h))
  · cases v <;> first | (simp [mTyp] at ht; done) | exact lv_istore_n hx hb hd h1 hL.has h2 rfl (fun ls2 q => k ls2 (mLoc.sto1 (by simp [Value.category]) q))
  · subst h1
    cases v <;> first | (simp [mTyp] at ht; done) | exact lv_istore hx hb hd hL.has h2 rfl (fun ls2 q => k ls2 (mLoc.sto1 (by simp [Value.category]) q))
  · cases v <;> first | (simp [mTyp] at ht; done) | exact lv_lstore_n hx hb hd h1 hL.has h2 rfl (fun ls2 q => k ls2 (mLoc.sto2 (by simp [Value.category]) q))
  · subst h1
    cases v <;> first | (simp [mTyp] at ht; done) | exact lv_lstore hx hb hd hL.has h2 rfl (fun ls2 q => k ls2 (mLoc.sto2 (by simp [Value.category]) q))
  · cases v <;> first | (simp [mTyp] at ht; done) | exact lv_astore_n hx hb hd h1 hL.has h2 rfl (fun ls2 q => k ls2 (mLoc.sto1 (ρ := ρ) (by simp [Value.category]) q))
  · subst h1
    cases v <;> first | (simp [mTyp] at ht; done) | exact lv_astore hx hb hd hL.has h2 rfl (fun ls2 q => k ls2 (mLoc.sto1 (ρ := ρ) (by simp [Value.category]) q))
  · cases h
theorem so4 {a : Nat} {x v : Int32} {ρ : mRho} {L : List (Option Value)} {nL : Nat} (C : mAct p s m args meth c R y D A ρ0 M0) (h : ok4 (pby y) nL a v pc pn = true) (hL : mLoc ρ ls nL L) (hv : mNth none L a = some (.int x)) (k : ∀ ls2 : Array Slot, mLoc ρ ls2 nL (mPut L a (some (.int (x + v)))) → W p l e R s m args below meth c H locs cells slots Q (F0 m pn ls2 st)) : W p l e R s m args below meth c H locs cells slots Q (F0 m pc ls st) := by
  obtain ⟨hx, hb, hml, hown, hts, hnm, hA, hK, hCF, -⟩ := C
  have hL1 : L[a]? = some (some (.int x)) := mNth_some hv (by simp)
  obtain ⟨j, hj⟩ := List.getElem?_of_mem (mLs_mem.mpr ⟨a, .int x, hL1, rfl⟩ : (a, mTr ρ (.int x)) ∈ mLs ρ L)
  unfold ok4 at h
  split at h
  · rename_i n2 n hd
    simp only [Bool.and_eq_true, decide_eq_true_eq] at h
    obtain ⟨rfl, h1, h2, rfl⟩ := h
    exact lv_iinc (v := x + v) hx hb hd hL.has (k := j) hj (by rw [h1]) h2 rfl (fun ls2 q => k ls2 (hL.inc hL1 q))
  · cases h
end OPS
