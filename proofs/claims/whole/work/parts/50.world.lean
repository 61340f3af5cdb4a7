/-! THE SMALL MACHINE'S WORLD in the kit's words: addresses and array classes by places -/
abbrev mRho : Type := Nat → Nat × ClassId
def mTr (ρ : mRho) (v : Value) : Value := match v with
  | .ref k => .ref (ρ k).1
  | v => v
def mRo (ρ : mRho) (r : Nat) : Option Nat := match r with
  | 0 => none
  | a + 1 => some (ρ a).1
/-- an object's fields -/
def mFV (ρ : mRho) (ks rs : List Nat) (f : Nat → Int32) : List Value := (List.range ks.length).map (fun j => if mNth 2 ks j = 0 then .int (f j) else mTr ρ (mRef (mNth 0 rs j)))
noncomputable def mCell (ρ : mRho) (M : mMI) (J : mMJ) (k : Nat) (c : mSC) : va_E := match c.1 with
  | 0 => .inr (c.2.1, mFV ρ (mNth [] pkin c.2.1) c.2.2 (M k))
  | 1 => .inl ((ρ k).2, c.2.1, .inl (M k))
  | 2 => .inl ((ρ k).2, c.2.1, .inr (.inl (J k)))
  | 3 => .inl ((ρ k).2, c.2.1, .inl (M k))
  | _ => .inl ((ρ k).2, c.2.1, .inr (.inr (.inr (.inr (fun i => mRo ρ (mNth 0 c.2.2 i))))))
noncomputable def mWd (ρ : mRho) (M : mMI) (J : mMJ) (sh : List mSC) : va_W := sh.mapIdx (fun k c => ((ρ k).1, mCell ρ M J k c))
def mAt1 (c : mSC) : Option FieldType := match c.1 with
  | 0 => none
  | 1 => some .int
  | 2 => some .long
  | 3 => some .boolean
  | _ => some (.object "PotAndFine$Kept")
/-- what is known of the classes of arrays -/
def mAF (ρ : mRho) (sh : List mSC) (U : State) : Prop := ∀ (k : Nat) (c : mSC) (ty : FieldType), sh[k]? = some c → mAt1 c = some ty → ArrOfT U (ρ k).2 ty ∧ va_RA U (ρ k).2 ty
/-- one thing that was there before -/
def mCC (ρ : mRho) (M0 : mMI) (A : Nat → Prop) (U : State) (H : Heap) (a : Nat) (c : mSC) : Prop := match c.1 with
  | 5 => va_T .int (ρ a).1 (match c.2.1 with | 0 => (M0 999 0).toNatClampNeg | n + 1 => n + 1) (fun j => .int (M0 a j)) A U H
  | 6 => va_T .byte (ρ a).1 c.2.1 (fun j => .int (M0 a j)) A U H
  | 7 => va_O "java/lang/String" (ρ a).1 A U H ∧ va_OF "java/lang/String" "value" "[B" (mTr ρ (mRef (mNth 0 c.2.2 0))) (ρ a).1 A U H ∧ va_OF "java/lang/String" "coder" "B" (.int 0) (ρ a).1 A U H
  | _ => True
/-- all that was there before -/
def mCF (ρ : mRho) (M0 : mMI) (A : Nat → Prop) (U : State) (H : Heap) : Prop :=
  (∀ (j : Nat) (c : mSC), pcon[j]? = some c → mCC ρ M0 A U H (1000 + j) c) ∧ (∀ q ∈ pSt, va_Z "PotAndFine" q.2 "[I" (.ref (ρ q.1).1) A U H) ∧ (∀ q ∈ pTx, vk_R "PotAndFine" q.1 q.2.1 (ρ q.2.2).1 U) ∧ va_Z "java/lang/String" "COMPACT_STRINGS" "Z" (.int 1) A U H ∧ (∀ w ∈ pNW, va_Nw w U) ∧ va_AO "PotAndFine$Kept" U ∧ Int32.ofNat (M0 999 0).toNatClampNeg = M0 999 0
theorem mWd_at {ρ : mRho} {M : mMI} {J : mMJ} {sh : List mSC} {k : Nat} {c : mSC} (h : sh[k]? = some c) : (mWd ρ M J sh)[k]? = some ((ρ k).1, mCell ρ M J k c) := by
  unfold mWd
  rw [List.getElem?_mapIdx, h]
  rfl
theorem mWd_len {ρ : mRho} {M : mMI} {J : mMJ} {sh : List mSC} : (mWd ρ M J sh).length = sh.length := by
  unfold mWd
  simp
theorem mCell_cong {ρ : mRho} {M M2 : mMI} {J J2 : mMJ} {k : Nat} {c : mSC} (h1 : M2 k = M k) (h2 : J2 k = J k) : mCell ρ M2 J2 k c = mCell ρ M J k c := by
  unfold mCell
  rw [h1, h2]
theorem mCell_0 {ρ : mRho} {M : mMI} {J : mMJ} {k : Nat} {c : mSC} (h : c.1 = 0) : mCell ρ M J k c = .inr (c.2.1, mFV ρ (mNth [] pkin c.2.1) c.2.2 (M k)) := by
  obtain ⟨a, b, d⟩ := c
  cases h
  rfl
theorem mCell_1 {ρ : mRho} {M : mMI} {J : mMJ} {k : Nat} {c : mSC} (h : c.1 = 1 ∨ c.1 = 3) : mCell ρ M J k c = .inl ((ρ k).2, c.2.1, .inl (M k)) := by
  obtain ⟨a, b, d⟩ := c
  rcases h with h | h <;> (cases h; rfl)
theorem mCell_2 {ρ : mRho} {M : mMI} {J : mMJ} {k : Nat} {c : mSC} (h : c.1 = 2) : mCell ρ M J k c = .inl ((ρ k).2, c.2.1, .inr (.inl (J k))) := by
  obtain ⟨a, b, d⟩ := c
  cases h
  rfl
theorem mCell_4 {ρ : mRho} {M : mMI} {J : mMJ} {k : Nat} {c : mSC} (h : c.1 = 4) : mCell ρ M J k c = .inl ((ρ k).2, c.2.1, .inr (.inr (.inr (.inr (fun i => mRo ρ (mNth 0 c.2.2 i)))))) := by
  obtain ⟨a, b, d⟩ := c
  cases h
  rfl
theorem mCC_5 {ρ : mRho} {M0 : mMI} {A : Nat → Prop} {U : State} {H : Heap} {a : Nat} {c : mSC} (h : c.1 = 5) (g : mCC ρ M0 A U H a c) : va_T .int (ρ a).1 (match c.2.1 with | 0 => (M0 999 0).toNatClampNeg | n + 1 => n + 1) (fun j => .int (M0 a j)) A U H := by
  obtain ⟨x, b, d⟩ := c
  cases h
  exact g
theorem mCC_6 {ρ : mRho} {M0 : mMI} {A : Nat → Prop} {U : State} {H : Heap} {a : Nat} {c : mSC} (h : c.1 = 6) (g : mCC ρ M0 A U H a c) : va_T .byte (ρ a).1 c.2.1 (fun j => .int (M0 a j)) A U H := by
  obtain ⟨x, b, d⟩ := c
  cases h
  exact g
theorem mCC_7 {ρ : mRho} {M0 : mMI} {A : Nat → Prop} {U : State} {H : Heap} {a : Nat} {c : mSC} (h : c.1 = 7) (g : mCC ρ M0 A U H a c) : va_O "java/lang/String" (ρ a).1 A U H ∧ va_OF "java/lang/String" "value" "[B" (mTr ρ (mRef (mNth 0 c.2.2 0))) (ρ a).1 A U H ∧ va_OF "java/lang/String" "coder" "B" (.int 0) (ρ a).1 A U H := by
  obtain ⟨x, b, d⟩ := c
  cases h
  exact g
theorem mWd_set {ρ : mRho} {M M2 : mMI} {J J2 : mMJ} {sh : List mSC} {a : Nat} {c : mSC} (h : sh[a]? = some c) (hM : ∀ k, k ≠ a → M2 k = M k) (hJ : ∀ k, k ≠ a → J2 k = J k) : mWd ρ M2 J2 sh = (mWd ρ M J sh).set a ((ρ a).1, mCell ρ M2 J2 a c) := by
  apply List.ext_getElem?
  intro i
  by_cases hi : i = a
  · subst hi
    have hl := (List.getElem?_eq_some_iff.mp h).1
    rw [List.getElem?_set_self (by rw [mWd_len]; exact hl)]
    exact mWd_at h
  · rw [List.getElem?_set_ne (Ne.symm hi)]
    unfold mWd
    rw [List.getElem?_mapIdx, List.getElem?_mapIdx]
    cases sh[i]? with
    | none => rfl
    | some c => exact congrArg some (congrArg (Prod.mk _) (mCell_cong (hM i hi) (hJ i hi)))
theorem mWd_same {ρ : mRho} {M M2 : mMI} {J J2 : mMJ} {sh : List mSC} (hM : ∀ k, k < sh.length → M2 k = M k) (hJ : ∀ k, k < sh.length → J2 k = J k) : mWd ρ M2 J2 sh = mWd ρ M J sh := by
  apply List.ext_getElem?
  intro i
  unfold mWd
  rw [List.getElem?_mapIdx, List.getElem?_mapIdx]
  cases h : sh[i]? with
  | none => rfl
  | some c =>
    have hl := (List.getElem?_eq_some_iff.mp h).1
    exact congrArg some (congrArg (Prod.mk _) (mCell_cong (hM i hl) (hJ i hl)))
theorem mPut_at {α : Type} {l : List α} {a : Nat} {c v : α} (h : l[a]? = some c) (k : Nat) : (mPut l a v)[k]? = if k = a then some v else l[k]? := by
  rw [mPut_get]
  have hl := (List.getElem?_eq_some_iff.mp h).1
  by_cases hk : k = a
  · subst hk
    simp [hl]
  · simp [hk]
theorem mWd_put {ρ : mRho} {M : mMI} {J : mMJ} {sh : List mSC} {a : Nat} {c d : mSC} (h : sh[a]? = some c) : mWd ρ M J (mPut sh a d) = (mWd ρ M J sh).set a ((ρ a).1, mCell ρ M J a d) := by
  apply List.ext_getElem?
  intro i
  by_cases hi : i = a
  · subst hi
    have hl := (List.getElem?_eq_some_iff.mp h).1
    rw [List.getElem?_set_self (by rw [mWd_len]; exact hl)]
    exact mWd_at (by rw [mPut_at h]; simp)
  · rw [List.getElem?_set_ne (Ne.symm hi)]
    unfold mWd
    rw [List.getElem?_mapIdx, List.getElem?_mapIdx, mPut_at h, if_neg hi]
theorem mTr_cat (ρ : mRho) (v : Value) : (mTr ρ v).category = v.category := by cases v <;> rfl
theorem mCat2_iff {v : Value} : mCat2 (some v) = true ↔ v.category = 2 := by cases v <;> simp [mCat2, Value.category]
theorem mCF.to {ρ : mRho} {M0 : mMI} {A B : Nat → Prop} {s U : State} {H : Heap} {locs : List Loc} (h : mCF ρ M0 A s s.heap) (hS : va_S A s.heap H locs) (hW : s.WarmedH U.vm) (hB : ∀ q, B q → A q) : mCF ρ M0 B U H := by
  obtain ⟨h1, h2, h3, h4, h5, h6, h7⟩ := h
  have hq : ∀ a : Nat, a < s.heap.size → ¬ A a → H[a]? = s.heap[a]? := hS.2.1
  refine ⟨fun j c hj => ?_, fun q hq1 => (((h2 q hq1).moved hW.alike).kept hq).narrow hB, fun q hq1 => (h3 q hq1).warm hW, ((h4.moved hW.alike).kept hq).narrow hB, fun w hw => ?_, h6.moved hW.alike, h7⟩
  · have g := h1 j c hj
    unfold mCC at g ⊢
    split at g <;> rename_i hc
    · exact ((g.moved hW.alike).kept hq).narrow hB
    · exact ((g.moved hW.alike).kept hq).narrow hB
    · exact ⟨((g.1.moved hW.alike).kept hq).narrow hB, ((g.2.1.moved hW.alike).kept hq).narrow hB, ((g.2.2.moved hW.alike).kept hq).narrow hB⟩
    · trivial
  · have g := h5 w hw
    simp only [pNW, List.mem_cons, List.not_mem_nil, or_false] at hw
    rcases hw with rfl | rfl | rfl | rfl | rfl | rfl | rfl | rfl <;> first | exact g.warmM hW | exact g.warmF hW
