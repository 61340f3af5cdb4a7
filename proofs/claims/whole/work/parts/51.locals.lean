/-! locals by places -/
def mLoc (ρ : mRho) (ls : Array Slot) (nL : Nat) (L : List (Option Value)) : Prop := ls.size = nL ∧ lv_wf ls ∧ ∀ (i : Nat) (v : Value), L[i]? = some (some v) → ls[i]? = some (.val (mTr ρ v))
def mLs (ρ : mRho) (L : List (Option Value)) : List (Nat × Value) := (L.mapIdx (fun i o => (i, o))).filterMap (fun q => q.2.map (fun v => (q.1, mTr ρ v)))
theorem mLs_mem {ρ : mRho} {L : List (Option Value)} {q : Nat × Value} : q ∈ mLs ρ L ↔ ∃ (i : Nat) (v : Value), L[i]? = some (some v) ∧ q = (i, mTr ρ v) := by
  unfold mLs
  rw [List.mem_filterMap]
  constructor
  · rintro ⟨x, hx, hq⟩
    obtain ⟨i, hi⟩ := List.getElem?_of_mem hx
    rw [List.getElem?_mapIdx] at hi
    cases hL : L[i]? with
    | none => rw [hL] at hi; cases hi
    | some o =>
      rw [hL] at hi
      cases hi
      cases o with
      | none => cases hq
      | some v =>
        cases hq
        exact ⟨i, v, hL, rfl⟩
  · rintro ⟨i, v, h, rfl⟩
    refine ⟨(i, some v), ?_, rfl⟩
    refine List.mem_of_getElem? (i := i) ?_
    rw [List.getElem?_mapIdx, h]
    rfl
theorem mLoc.has {ρ : mRho} {ls : Array Slot} {nL : Nat} {L : List (Option Value)} (h : mLoc ρ ls nL L) : lv_has ls nL (mLs ρ L) := by
  refine ⟨h.1, h.2.1, fun q hq => ?_⟩
  obtain ⟨i, v, h1, rfl⟩ := mLs_mem.mp hq
  exact h.2.2 i v h1
theorem mLoc.ers {ρ : mRho} {ls : Array Slot} {nL : Nat} {L : List (Option Value)} (h : mLoc ρ ls nL L) (l : List Nat) : mLoc ρ ls nL (mErs l L) := by
  refine ⟨h.1, h.2.1, fun i v hi => h.2.2 i v ?_⟩
  rw [mErs_get] at hi
  split at hi
  · cases hi
  · exact hi
theorem mLoc.get {ρ : mRho} {ls : Array Slot} {nL : Nat} {L : List (Option Value)} (h : mLoc ρ ls nL L) {a : Nat} {v : Value} (hv : mNth none L a = some v) : ls[a]? = some (.val (mTr ρ v)) := h.2.2 a v (mNth_some hv (by simp))
theorem mSto_in {L : List (Option Value)} {a : Nat} {v : Value} {i : Nat} {w : Value} (h : (mSto L a v)[i]? = some (some w)) : (i = a ∧ w = v) ∨ (¬ i = a ∧ L[i]? = some (some w) ∧ ¬ (i + 1 = a ∧ w.category = 2) ∧ ¬ (v.category = 2 ∧ i = a + 1)) := by
  have key : ∀ (L1 : List (Option Value)), (∀ j u, L1[j]? = some (some u) → L[j]? = some (some u) ∧ ¬ (j + 1 = a ∧ u.category = 2)) → (mPut L1 a (some v))[i]? = some (some w) → (i = a ∧ w = v) ∨ (¬ i = a ∧ L[i]? = some (some w) ∧ ¬ (i + 1 = a ∧ w.category = 2)) := by
    intro L1 h1 h2
    rw [mPut_get] at h2
    split at h2
    · rename_i hc
      cases h2
      exact Or.inl ⟨hc.1, rfl⟩
    · rename_i hc
      have h3 := h1 i w h2
      by_cases hi : i = a
      · exact absurd ⟨hi, (List.getElem?_eq_some_iff.mp h2).1⟩ hc
      · exact Or.inr ⟨hi, h3⟩
  have base : ∀ j u, (mBrk L a)[j]? = some (some u) → L[j]? = some (some u) ∧ ¬ (j + 1 = a ∧ u.category = 2) := by
    intro j u hj
    unfold mBrk at hj
    cases a with
    | zero => exact ⟨hj, fun q => absurd q.1 (by omega)⟩
    | succ b =>
      cases hb : mCat2 (mNth none L b) with
      | true =>
        simp only [hb] at hj
        rw [mPut_get] at hj
        split at hj
        · cases hj
        · rename_i hc
          refine ⟨hj, fun q => hc ⟨by omega, (List.getElem?_eq_some_iff.mp hj).1⟩⟩
      | false =>
        simp only [hb] at hj
        refine ⟨hj, fun q => ?_⟩
        have e2 : j = b := by omega
        subst e2
        rw [mNth_get, hj] at hb
        have := mCat2_iff.mpr q.2
        rw [show (some (some u)).getD none = some u from rfl] at hb
        rw [this] at hb
        cases hb
  unfold mSto at h
  cases hv : mCat2 (some v) with
  | false =>
    simp only [hv] at h
    have hc : ¬ v.category = 2 := fun q => by rw [mCat2_iff.mpr q] at hv; cases hv
    rcases key _ base h with h | h
    · exact Or.inl h
    · exact Or.inr ⟨h.1, h.2.1, h.2.2, fun q => hc q.1⟩
  | true =>
    simp only [hv] at h
    rw [mPut_get] at h
    split at h
    · cases h
    · rename_i hn
      rcases key _ base h with g | g
      · exact Or.inl g
      · exact Or.inr ⟨g.1, g.2.1, g.2.2, fun q => hn ⟨q.2, (List.getElem?_eq_some_iff.mp h).1⟩⟩
theorem mLoc.sto1 {ρ : mRho} {ls2 : Array Slot} {nL : Nat} {L : List (Option Value)} {a : Nat} {v : Value} (hc : ¬ v.category = 2) (h2 : lv_has ls2 nL ((a, mTr ρ v) :: (mLs ρ L).filter (fun q => !(q.1 == a) && !(q.1 + 1 == a && q.2.category == 2)))) : mLoc ρ ls2 nL (mSto L a v) := by
  refine ⟨h2.1, h2.2.1, fun i w hi => h2.2.2 (i, mTr ρ w) ?_⟩
  rcases mSto_in hi with ⟨rfl, rfl⟩ | ⟨g1, g2, g3, -⟩
  · exact List.mem_cons_self
  · refine List.mem_cons_of_mem _ (List.mem_filter.mpr ⟨mLs_mem.mpr ⟨i, w, g2, rfl⟩, ?_⟩)
    simp only [mTr_cat, Bool.and_eq_true, Bool.not_eq_true', beq_eq_false_iff_ne, Bool.and_eq_false_iff]
    refine ⟨g1, ?_⟩
    by_cases q : i + 1 = a
    · exact Or.inr (fun z => g3 ⟨q, z⟩)
    · exact Or.inl q
theorem mLoc.sto2 {ρ : mRho} {ls2 : Array Slot} {nL : Nat} {L : List (Option Value)} {a : Nat} {v : Value} (hc : v.category = 2) (h2 : lv_has ls2 nL ((a, mTr ρ v) :: (mLs ρ L).filter (fun q => !(q.1 == a) && (!(q.1 == a + 1) && !(q.1 + 1 == a && q.2.category == 2))))) : mLoc ρ ls2 nL (mSto L a v) := by
  refine ⟨h2.1, h2.2.1, fun i w hi => h2.2.2 (i, mTr ρ w) ?_⟩
  rcases mSto_in hi with ⟨rfl, rfl⟩ | ⟨g1, g2, g3, g4⟩
  · exact List.mem_cons_self
  · refine List.mem_cons_of_mem _ (List.mem_filter.mpr ⟨mLs_mem.mpr ⟨i, w, g2, rfl⟩, ?_⟩)
    simp only [mTr_cat, Bool.and_eq_true, Bool.not_eq_true', beq_eq_false_iff_ne, Bool.and_eq_false_iff]
    refine ⟨g1, fun z => g4 ⟨hc, z⟩, ?_⟩
    by_cases q : i + 1 = a
    · exact Or.inr (fun z => g3 ⟨q, z⟩)
    · exact Or.inl q
theorem mLoc.inc {ρ : mRho} {ls ls2 : Array Slot} {nL : Nat} {L : List (Option Value)} {a : Nat} {x v : Int32} (h : mLoc ρ ls nL L) (hx : L[a]? = some (some (.int x))) (h2 : lv_has ls2 nL ((a, Value.int v) :: (mLs ρ L).filter (fun q => !(q.1 == a) && !(q.1 + 1 == a && q.2.category == 2)))) : mLoc ρ ls2 nL (mPut L a (some (.int v))) := by
  refine ⟨h2.1, h2.2.1, fun i w hi => h2.2.2 (i, mTr ρ w) ?_⟩
  rw [mPut_at hx] at hi
  split at hi
  · rename_i e
    subst e
    cases hi
    exact List.mem_cons_self
  · rename_i e
    refine List.mem_cons_of_mem _ (List.mem_filter.mpr ⟨mLs_mem.mpr ⟨i, w, hi, rfl⟩, ?_⟩)
    simp only [mTr_cat, Bool.and_eq_true, Bool.not_eq_true', beq_eq_false_iff_ne, Bool.and_eq_false_iff]
    refine ⟨e, ?_⟩
    by_cases q : i + 1 = a
    · refine Or.inr (fun z => ?_)
      have g1 := h.2.2 i w hi
      have g2 := h.2.2 a (.int x) hx
      have g3 := h.2.1.1 i (mTr ρ w) g1 (by rw [mTr_cat]; exact z)
      rw [q, g2] at g3
      cases g3
    · exact Or.inl q
/-- a new frame's locals -/
theorem mLoc.entry {ρ : mRho} (vs : List Value) {n : Nat} (h : (lg_sl (vs.map (mTr ρ))).length ≤ n) : mLoc ρ ((lg_sl (vs.map (mTr ρ)) ++ List.replicate (n - (lg_sl (vs.map (mTr ρ))).length) Slot.unset).toArray) n (mPad n (mArgs vs)) := by
  have h1 := lv_entry (vs.map (mTr ρ)) h
  refine ⟨h1.1, h1.2.1, fun i v hi => h1.2.2 (i, mTr ρ v) ?_⟩
  have pad : ∀ (n : Nat) (l : List (Option Value)) (i : Nat) (v : Value), (mPad n l)[i]? = some (some v) → l[i]? = some (some v) := by
    intro n
    induction n with
    | zero => intro l i v h; simp [mPad] at h
    | succ n ih =>
      intro l i v h
      cases l with
      | nil =>
        cases i with
        | zero => simp [mPad] at h
        | succ i => exact absurd (ih [] i v (by simpa [mPad] using h)) (by simp)
      | cons x l =>
        cases i with
        | zero => simpa [mPad] using h
        | succ i => simpa using ih l i v (by simpa [mPad] using h)
  have key : ∀ (vs : List Value) (b i : Nat) (v : Value), (mArgs vs)[i]? = some (some v) → (b + i, mTr ρ v) ∈ lv_args b (vs.map (mTr ρ)) := by
    intro vs
    induction vs with
    | nil => intro b i v h; simp [mArgs] at h
    | cons w vs ih =>
      intro b i v h
      cases hw : mCat2 (some w) with
      | true =>
        have e : mArgs (w :: vs) = some w :: none :: mArgs vs := by simp [mArgs, hw]
        rw [e] at h
        have hcat : (mTr ρ w).category = 2 := by rw [mTr_cat]; exact mCat2_iff.mp hw
        match i, h with
        | 0, h => cases h; simp [lv_args]
        | 1, h => cases h
        | i + 2, h =>
          have := ih (b + 2) i v (by simpa using h)
          rw [List.map_cons, lv_args, hcat]
          refine List.mem_cons_of_mem _ ?_
          rw [show b + (i + 2) = b + 2 + i by omega]
          exact this
      | false =>
        have e : mArgs (w :: vs) = some w :: mArgs vs := by simp [mArgs, hw]
        rw [e] at h
        have hcat : (mTr ρ w).category = 1 := by
          rcases lv_cat (mTr ρ w) with q | q
          · exact q
          · rw [mTr_cat] at q
            rw [mCat2_iff.mpr q] at hw
            cases hw
        match i, h with
        | 0, h => cases h; simp [lv_args]
        | i + 1, h =>
          have := ih (b + 1) i v (by simpa using h)
          rw [List.map_cons, lv_args, hcat]
          refine List.mem_cons_of_mem _ ?_
          rw [show b + (i + 1) = b + 1 + i by omega]
          exact this
  have := key vs 0 i v (pad n _ i v hi)
  rwa [Nat.zero_add] at this
