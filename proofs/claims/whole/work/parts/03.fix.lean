/-! the small machine's answer is a fixed point -/
theorem mBI_some {o : Option mRs} {k : Int32 → mMI → mMJ → Option mRs} {r : mRs} (h : mBI o k = some r) : ∃ v g, o = some (some (.int v), g) ∧ k v g.2.1 g.2.2.1 = some r := by
  unfold mBI at h
  split at h
  · exact ⟨_, _, rfl, h⟩
  · cases h
theorem mBJ_some {o : Option mRs} {k : Int64 → mMI → mMJ → Option mRs} {r : mRs} (h : mBJ o k = some r) : ∃ v g, o = some (some (.long v), g) ∧ k v g.2.1 g.2.2.1 = some r := by
  unfold mBJ at h
  split at h
  · exact ⟨_, _, rfl, h⟩
  · cases h
theorem mBR_some {o : Option mRs} {w : Nat} {k : mMI → mMJ → Option mRs} {r : mRs} (h : mBR o w k = some r) : ∃ v g, o = some (v, g) ∧ ((v = none ∧ w = 0) ∨ ∃ a, v = some (.ref a) ∧ w = a + 1) ∧ k g.2.1 g.2.2.1 = some r := by
  unfold mBR at h
  split at h
  · split at h
    · exact ⟨_, _, rfl, Or.inl ⟨rfl, by assumption⟩, h⟩
    · cases h
  · split at h
    · exact ⟨_, _, rfl, Or.inr ⟨_, rfl, by assumption⟩, h⟩
    · cases h
  · cases h
theorem mBC_some {o : Option mRs} {k : mHp → Option mRs} {r : mRs} (h : mBC o k = some r) : ∃ g, o = some (none, g) ∧ k g = some r := by
  unfold mBC at h
  split at h
  · exact ⟨_, rfl, h⟩
  · cases h
theorem mApp_I (c : mCf) (k : Int32 → mMI → mMJ → mCf) (K : mCf → Option mRs) : mApp (.inr (.inr (.inl (c, k)))) K = mBI (K c) (fun v M J => K (k v M J)) := rfl
theorem mApp_J (c : mCf) (k : Int64 → mMI → mMJ → mCf) (K : mCf → Option mRs) : mApp (.inr (.inr (.inr (.inl (c, k))))) K = mBJ (K c) (fun v M J => K (k v M J)) := rfl
theorem mApp_R (c : mCf) (w : Nat) (k : mMI → mMJ → mCf) (K : mCf → Option mRs) : mApp (.inr (.inr (.inr (.inr (.inl (c, w, k)))))) K = mBR (K c) w (fun M J => K (k M J)) := rfl
theorem mApp_C (c : mCf) (k : mHp → mCf) (K : mCf → Option mRs) : mApp (.inr (.inr (.inr (.inr (.inr (c, k)))))) K = mBC (K c) (fun h => K (k h)) := rfl
theorem mBR_of {o : Option mRs} {w : Nat} {k : mMI → mMJ → Option mRs} {v : Option Value} {g : mHp} (h : o = some (v, g)) (hv : (v = none ∧ w = 0) ∨ ∃ a, v = some (.ref a) ∧ w = a + 1) : mBR o w k = k g.2.1 g.2.2.1 := by
  subst h
  rcases hv with ⟨rfl, rfl⟩ | ⟨a, rfl, rfl⟩
  · rfl
  · exact if_pos rfl
theorem mIf_le {K K2 : mCf → Option mRs} (hK : ∀ c r, K c = some r → K2 c = some r) {z z2 : Option mRs} {r : mRs} (hz : z = some r → z2 = some r) : ∀ (l : List (mDc × mCf)), mIf l K z = some r → mIf l K2 z2 = some r
  | [], h => hz h
  | q :: l, h => by
    by_cases hq : q.1.1
    · have e1 : mIf (q :: l) K z = K q.2 := @if_pos _ q.1.2 hq _ _ _
      have e2 : mIf (q :: l) K2 z2 = K2 q.2 := @if_pos _ q.1.2 hq _ _ _
      rw [e1] at h
      rw [e2]
      exact hK _ _ h
    · have e1 : mIf (q :: l) K z = mIf l K z := @if_neg _ q.1.2 hq _ _ _
      have e2 : mIf (q :: l) K2 z2 = mIf l K2 z2 := @if_neg _ q.1.2 hq _ _ _
      rw [e1] at h
      rw [e2]
      exact mIf_le hK hz l h
theorem mTo_le {K K2 : mCf → Option mRs} (hK : ∀ c r, K c = some r → K2 c = some r) {r : mRs} : ∀ {d : Option mCf}, mTo d K = some r → mTo d K2 = some r
  | none, h => h
  | some c, h => hK c r h
theorem mApp_le {K K2 : mCf → Option mRs} (hK : ∀ c r, K c = some r → K2 c = some r) (s : mSh) {r : mRs} (h : mApp s K = some r) : mApp s K2 = some r := by
  match s, h with
  | .inl o, h => exact h
  | .inr (.inl (l, d)), h => exact mIf_le hK (mTo_le hK) l h
  | .inr (.inr (.inl (c, k))), h =>
    rw [mApp_I] at h
    obtain ⟨v, g, h1, h2⟩ := mBI_some h
    rw [mApp_I]
    rw [hK _ _ h1]
    exact hK _ _ h2
  | .inr (.inr (.inr (.inl (c, k)))), h =>
    rw [mApp_J] at h
    obtain ⟨v, g, h1, h2⟩ := mBJ_some h
    rw [mApp_J]
    rw [hK _ _ h1]
    exact hK _ _ h2
  | .inr (.inr (.inr (.inr (.inl (c, w, k))))), h =>
    rw [mApp_R] at h
    obtain ⟨v, g, h1, hv, h2⟩ := mBR_some h
    rw [mApp_R]
    rw [mBR_of (hK _ _ h1) hv]
    exact hK _ _ h2
  | .inr (.inr (.inr (.inr (.inr (c, k))))), h =>
    rw [mApp_C] at h
    obtain ⟨g, h1, h2⟩ := mBC_some h
    rw [mApp_C]
    rw [hK _ _ h1]
    exact hK _ _ h2
theorem mEv_up (P : mPg) : ∀ (n : Nat) (c : mCf) (r : mRs), mEv P n c = some r → mEv P (n + 1) c = some r
  | 0, c, r, h => by cases h
  | n + 1, c, r, h => mApp_le (mEv_up P n) _ h
theorem mEv_add (P : mPg) (n : Nat) (c : mCf) (r : mRs) (h : mEv P n c = some r) : ∀ k, mEv P (n + k) c = some r
  | 0 => h
  | k + 1 => mEv_up P (n + k) c r (mEv_add P n c r h k)
theorem mEv_max (P : mPg) {n m : Nat} {c : mCf} {r : mRs} (h : mEv P n c = some r) (hm : n ≤ m) : mEv P m c = some r := by
  have := mEv_add P n c r h (m - n)
  rwa [Nat.add_sub_of_le hm] at this
theorem mEv_one (P : mPg) {n m : Nat} {c : mCf} {r q : mRs} (h : mEv P n c = some r) (h2 : mEv P m c = some q) : r = q := by
  have a := mEv_max P h (Nat.le_max_left n m)
  have b := mEv_max P h2 (Nat.le_max_right n m)
  rw [a] at b
  exact Option.some.inj b
theorem mOut_of (P : mPg) {n : Nat} {c : mCf} {r : mRs} (h : mEv P n c = some r) : mOut P c = some r := by
  have hx : ∃ n r, mEv P n c = some r := ⟨n, r, h⟩
  have e : mOut P c = mEv P (Classical.choose hx) c := @dif_pos _ (Classical.propDecidable _) hx _ _ _
  rw [e]
  obtain ⟨q, hq⟩ := Classical.choose_spec hx
  rw [hq, mEv_one P hq h]
theorem mOut_ex (P : mPg) {c : mCf} {r : mRs} (h : mOut P c = some r) : ∃ n, mEv P n c = some r := by
  by_cases hx : ∃ n r, mEv P n c = some r
  · obtain ⟨n, q, hq⟩ := hx
    have := mOut_of P hq
    rw [h] at this
    cases this
    exact ⟨n, hq⟩
  · have e : mOut P c = none := @dif_neg _ (Classical.propDecidable _) hx _ _ _
    rw [e] at h
    cases h
theorem mApp_out (P : mPg) (s : mSh) {r : mRs} (h : mApp s (mOut P) = some r) : ∃ n, mApp s (mEv P n) = some r := by
  match s, h with
  | .inl o, h => exact ⟨0, h⟩
  | .inr (.inl (l, d)), h =>
    have key : ∀ (l : List (mDc × mCf)), mIf l (mOut P) (mTo d (mOut P)) = some r → ∃ n, mIf l (mEv P n) (mTo d (mEv P n)) = some r := by
      intro l
      induction l with
      | nil =>
        intro h
        cases d with
        | none => cases h
        | some c => exact mOut_ex P h
      | cons q l ih =>
        intro h
        by_cases hq : q.1.1
        · have e1 : mIf (q :: l) (mOut P) (mTo d (mOut P)) = mOut P q.2 := @if_pos _ q.1.2 hq _ _ _
          rw [e1] at h
          obtain ⟨n, hn⟩ := mOut_ex P h
          exact ⟨n, (show mIf (q :: l) (mEv P n) _ = _ from @if_pos _ q.1.2 hq _ _ _).trans hn⟩
        · have e1 : mIf (q :: l) (mOut P) (mTo d (mOut P)) = mIf l (mOut P) (mTo d (mOut P)) := @if_neg _ q.1.2 hq _ _ _
          rw [e1] at h
          obtain ⟨n, hn⟩ := ih h
          exact ⟨n, (show mIf (q :: l) (mEv P n) _ = _ from @if_neg _ q.1.2 hq _ _ _).trans hn⟩
    exact key l h
  | .inr (.inr (.inl (c, k))), h =>
    rw [mApp_I] at h
    obtain ⟨v, g, h1, h2⟩ := mBI_some h
    obtain ⟨n1, h1⟩ := mOut_ex P h1
    obtain ⟨n2, h2⟩ := mOut_ex P h2
    refine ⟨max n1 n2, ?_⟩
    rw [mApp_I]
    rw [mEv_max P h1 (Nat.le_max_left _ _)]
    exact mEv_max P h2 (Nat.le_max_right _ _)
  | .inr (.inr (.inr (.inl (c, k)))), h =>
    rw [mApp_J] at h
    obtain ⟨v, g, h1, h2⟩ := mBJ_some h
    obtain ⟨n1, h1⟩ := mOut_ex P h1
    obtain ⟨n2, h2⟩ := mOut_ex P h2
    refine ⟨max n1 n2, ?_⟩
    rw [mApp_J]
    rw [mEv_max P h1 (Nat.le_max_left _ _)]
    exact mEv_max P h2 (Nat.le_max_right _ _)
  | .inr (.inr (.inr (.inr (.inl (c, w, k))))), h =>
    rw [mApp_R] at h
    obtain ⟨v, g, h1, hv, h2⟩ := mBR_some h
    obtain ⟨n1, h1⟩ := mOut_ex P h1
    obtain ⟨n2, h2⟩ := mOut_ex P h2
    refine ⟨max n1 n2, ?_⟩
    rw [mApp_R]
    rw [mBR_of (mEv_max P h1 (Nat.le_max_left _ _)) hv]
    exact mEv_max P h2 (Nat.le_max_right _ _)
  | .inr (.inr (.inr (.inr (.inr (c, k))))), h =>
    rw [mApp_C] at h
    obtain ⟨g, h1, h2⟩ := mBC_some h
    obtain ⟨n1, h1⟩ := mOut_ex P h1
    obtain ⟨n2, h2⟩ := mOut_ex P h2
    refine ⟨max n1 n2, ?_⟩
    rw [mApp_C]
    rw [mEv_max P h1 (Nat.le_max_left _ _)]
    exact mEv_max P h2 (Nat.le_max_right _ _)
theorem mOut_fix (P : mPg) (c : mCf) : mOut P c = mApp (mStep P c) (mOut P) := by
  cases h : mApp (mStep P c) (mOut P) with
  | some r =>
    obtain ⟨n, hn⟩ := mApp_out P _ h
    exact mOut_of P (n := n + 1) hn
  | none =>
    cases h2 : mOut P c with
    | none => rfl
    | some r =>
      obtain ⟨n, hn⟩ := mOut_ex P h2
      cases n with
      | zero => cases hn
      | succ n =>
        have := mApp_le (K2 := mOut P) (fun c r q => mOut_of P q) _ (show mApp (mStep P c) (mEv P n) = some r from hn)
        rw [h] at this
        cases this
theorem mPut_get {α : Type} (v : α) : ∀ (L : List α) (a j : Nat), (mPut L a v)[j]? = if j = a ∧ j < L.length then some v else L[j]?
  | [], a, j => by simp [mPut]
  | x :: l, 0, 0 => by simp [mPut]
  | x :: l, 0, j + 1 => by simp [mPut]
  | x :: l, a + 1, 0 => by simp [mPut]
  | x :: l, a + 1, j + 1 => by
    have h := mPut_get v l a j
    simp [mPut, h]
theorem mPut_len {α : Type} (v : α) : ∀ (L : List α) (a : Nat), (mPut L a v).length = L.length
  | [], a => rfl
  | x :: l, 0 => rfl
  | x :: l, a + 1 => by simp [mPut, mPut_len v l a]
theorem mErs_len : ∀ (l : List Nat) (L : List (Option Value)), (mErs l L).length = L.length
  | [], L => rfl
  | a :: l, L => by rw [mErs, mErs_len l, mPut_len]
theorem mErs_get : ∀ (l : List Nat) (L : List (Option Value)) (j : Nat), (mErs l L)[j]? = if j ∈ l ∧ j < L.length then some none else L[j]?
  | [], L, j => by simp [mErs]
  | a :: l, L, j => by
    rw [mErs, mErs_get l, mPut_get, mPut_len]
    by_cases h1 : j ∈ l <;> by_cases h2 : j < L.length <;> by_cases h3 : j = a <;> simp [h1, h2, h3] <;> (intro _ q1 q2; omega)
theorem mErs_twice (l : List Nat) (L : List (Option Value)) : mErs l (mErs l L) = mErs l L := by
  apply List.ext_getElem?
  intro j
  rw [mErs_get, mErs_get, mErs_len]
  by_cases h1 : j ∈ l ∧ j < L.length <;> simp [h1]
theorem mF_eq {α : Type} {β : Type} : ∀ (l : List α) (k : List α → β), mF l k = k l
  | [], k => rfl
  | x :: l, k => mF_eq l (fun l => k (x :: l))
theorem mStep_eq (P : mPg) (y i : Nat) (L : List (Option Value)) (S : List Value) (sh : List mSC) (M : mMI) (J : mMJ) (nc ns : Nat) : mStep P (y, i, L, S, sh, M, J, nc, ns) = mDo P (mFe P y i).1 (mFe P y i).2.1 (mFe P y i).2.2.1 (mFe P y i).2.2.2.1 (mFe P y i).2.2.2.2.1 (mFe P y i).2.2.2.2.2.2.1 (mFe P y i).2.2.2.2.2.2.2.1 y (mErs (mFe P y i).2.2.2.2.2.2.2.2 L) S sh M J nc ns := by
  simp only [mStep]
  generalize mFe P y i = o
  obtain ⟨ok, oa, ob, oc, od, q, on, ol, oe⟩ := o
  cases oe with
  | nil => rfl
  | cons a l => rfl
theorem mClean_step (P : mPg) (c : mCf) : mStep P (mClean P c) = mStep P c := by
  obtain ⟨y, i, L, S, sh, M, J, nc, ns⟩ := c
  show mStep P (y, i, mErs (mFe P y i).2.2.2.2.2.2.2.2 L, S, sh, M, J, nc, ns) = _
  rw [mStep_eq, mStep_eq, mErs_twice]
theorem mClean_out (P : mPg) (c : mCf) : mOut P (mClean P c) = mOut P c := by
  rw [mOut_fix P c, mOut_fix P (mClean P c), mClean_step]
theorem mDen_eq (P : mPg) : ∀ (n : Nat) (c : mCf), mDen P n c = mOut P c
  | 0, c => rfl
  | n + 1, c => by
    have e : (fun c => cond (mCut P c) (mOut P (mClean P c)) (mDen P n c)) = mOut P := by
      funext c
      cases mCut P c with
      | true => exact mClean_out P c
      | false => exact mDen_eq P n c
    have e2 : mDen P (n + 1) c = mApp (mStep P c) (fun c => cond (mCut P c) (mOut P (mClean P c)) (mDen P n c)) := rfl
    rw [e2, e]
    exact (mOut_fix P c).symm
