/-! soundness of fields and arrays -/
noncomputable def oWs (ws : List Cond) : Bool := ws.all (fun w => decide (w ∈ lw_tbl) && goodWord w)
theorem oWs_in {ws : List Cond} (h : oWs ws = true) : ∀ w ∈ ws, w ∈ TB := by
  intro w hw
  have := List.all_eq_true.mp h w hw
  simp only [Bool.and_eq_true, decide_eq_true_eq] at this
  exact List.mem_filter.mpr this
theorem vw_in {ci : Nat} {q : vw_C} (h : vwCl[ci]? = some q) : ∀ w ∈ u_ws q.1 q.2.1 q.2.2, w ∈ TB := by
  match ci, h with
  | 0, h => cases h; exact oWs_in (by decide +kernel)
  | 1, h => cases h; exact oWs_in (by decide +kernel)
  | 2, h => cases h; exact oWs_in (by decide +kernel)
  | 3, h => cases h; exact oWs_in (by decide +kernel)
  | 4, h => cases h; exact oWs_in (by decide +kernel)
  | 5, h => cases h; exact oWs_in (by decide +kernel)
  | 6, h => cases h; exact oWs_in (by decide +kernel)
  | 7, h => cases h; exact oWs_in (by decide +kernel)
  | n + 8, h => simp [vwCl] at h
theorem fits_ref {t : FieldType} (h : fits t (.ref 0) = true) (a : Nat) : narrow t (.ref a) = .ref a ∧ fits t (.ref a) = true := by
  cases t <;> first | exact ⟨rfl, rfl⟩ | (simp [fits] at h)
/-- the fields' names and types -/
theorem vw_ty {ci : Nat} {q : vw_C} (h : vwCl[ci]? = some q) : (∀ a, a < q.2.2 → ∀ b, b < q.2.2 → a ≠ b → (q.2.1 a).2.1 ≠ (q.2.1 b).2.1) ∧ ∃ ty : Nat → FieldType, (∀ k, k < q.2.2 → parseFieldDescriptor (q.2.1 k).2.2.1 = some (ty k)) ∧ (∀ k, k < q.2.2 → mNth 2 (mNth [] pkin ci) k = 1 → fits (ty k) (.ref 0) = true) ∧ (∀ k, k < q.2.2 → defaultValue (ty k) = if mNth 2 (mNth [] pkin ci) k = 0 then .int 0 else .null) ∧ (mNth [] pkin ci).length = q.2.2 ∧ (∀ k, k < q.2.2 → mNth 2 (mNth [] pkin ci) k = 0 ∨ mNth 2 (mNth [] pkin ci) k = 1) := by
  match ci, h with
  | 0, h => cases h; exact ⟨nmX0, tyX0, tyX0_ok, by decide +kernel, by decide +kernel, by decide +kernel, by decide +kernel⟩
  | 1, h => cases h; exact ⟨nmX1, tyX1, tyX1_ok, by decide +kernel, by decide +kernel, by decide +kernel, by decide +kernel⟩
  | 2, h => cases h; exact ⟨nmX2, tyX2, tyX2_ok, by decide +kernel, by decide +kernel, by decide +kernel, by decide +kernel⟩
  | 3, h => cases h; exact ⟨nmX3, tyX3, tyX3_ok, by decide +kernel, by decide +kernel, by decide +kernel, by decide +kernel⟩
  | 4, h => cases h; exact ⟨nmX4, tyX4, tyX4_ok, by decide +kernel, by decide +kernel, by decide +kernel, by decide +kernel⟩
  | 5, h => cases h; exact ⟨nmX5, tyX5, tyX5_ok, by decide +kernel, by decide +kernel, by decide +kernel, by decide +kernel⟩
  | 6, h => cases h; exact ⟨nmX6, tyX6, tyX6_ok, by decide +kernel, by decide +kernel, by decide +kernel, by decide +kernel⟩
  | 7, h => cases h; exact ⟨nmX7, tyX7, tyX7_ok, by decide +kernel, by decide +kernel, by decide +kernel, by decide +kernel⟩
  | n + 8, h => simp [vwCl] at h
theorem mFV_get {ρ : mRho} {ks rs : List Nat} {f : Nat → Int32} {a : Nat} (h : ¬ mNth 2 ks a = 2) : (mFV ρ ks rs f)[a]? = some (if mNth 2 ks a = 0 then .int (f a) else mTr ρ (mRef (mNth 0 rs a))) := by
  have hl : a < ks.length := by
    rcases Nat.lt_or_ge a ks.length with q | q
    · exact q
    · exact absurd (mNth_far 2 ks a q) h
  unfold mFV
  rw [List.getElem?_map, List.getElem?_range hl]
  rfl
theorem mFV_len {ρ : mRho} {ks rs : List Nat} {f : Nat → Int32} : (mFV ρ ks rs f).length = ks.length := by simp [mFV]
theorem mFV_upd {ρ : mRho} {ks rs : List Nat} {f : Nat → Int32} {a : Nat} {v : Int32} (h : mNth 2 ks a = 0) : mFV ρ ks rs (upd f a v) = (mFV ρ ks rs f).set a (.int v) := by
  have hl : a < ks.length := by
    rcases Nat.lt_or_ge a ks.length with q | q
    · exact q
    · rw [mNth_far 2 ks a q] at h; cases h
  apply List.ext_getElem?
  intro i
  by_cases hi : i = a
  · subst hi
    rw [List.getElem?_set_self (by rw [mFV_len]; exact hl), mFV_get (by rw [h]; decide), if_pos h]
    simp [upd]
  · rw [List.getElem?_set_ne (Ne.symm hi)]
    unfold mFV
    rw [List.getElem?_map, List.getElem?_map]
    rcases Nat.lt_or_ge i ks.length with q | q
    · rw [List.getElem?_range q]
      simp [upd, hi]
    · rw [List.getElem?_eq_none_iff.mpr (by simpa using q)]
      rfl
theorem mFV_lnk {ρ : mRho} {ks rs : List Nat} {f : Nat → Int32} {a r : Nat} (h : mNth 2 ks a = 1) (hr : a < rs.length) : mFV ρ ks (mPut rs a (r + 1)) f = (mFV ρ ks rs f).set a (.ref (ρ r).1) := by
  have hl : a < ks.length := by
    rcases Nat.lt_or_ge a ks.length with q | q
    · exact q
    · rw [mNth_far 2 ks a q] at h; cases h
  obtain ⟨z, hz⟩ : ∃ z, rs[a]? = some z := ⟨_, List.getElem?_eq_getElem hr⟩
  apply List.ext_getElem?
  intro i
  by_cases hi : i = a
  · subst hi
    rw [List.getElem?_set_self (by rw [mFV_len]; exact hl), mFV_get (by rw [h]; decide), if_neg (by rw [h]; decide)]
    have : mNth 0 (mPut rs i (r + 1)) i = r + 1 := by rw [mNth_get, mPut_at hz]; simp
    rw [this]
    rfl
  · rw [List.getElem?_set_ne (Ne.symm hi)]
    unfold mFV
    rw [List.getElem?_map, List.getElem?_map]
    rcases Nat.lt_or_ge i ks.length with q | q
    · rw [List.getElem?_range q]
      have : mNth 0 (mPut rs a (r + 1)) i = mNth 0 rs i := by rw [mNth_get, mNth_get, mPut_at hz, if_neg hi]
      simp [this]
    · rw [List.getElem?_eq_none_iff.mpr (by simpa using q)]
      rfl
theorem pcon_kd : ∀ q ∈ pcon, q.1 = 5 ∨ q.1 = 6 ∨ q.1 = 7 ∨ q.1 = 9 := by decide +kernel
/-- what a place is: of the world, or of what was there before -/
theorem mAt_or {sh : List mSC} {a : Nat} (hk : ∀ q ∈ sh, q.1 ≤ 4) (h9 : ¬ (mAt pcon sh a).1 = 9) : (sh[a]? = some (mAt pcon sh a) ∧ (mAt pcon sh a).1 ≤ 4) ∨ (∃ j, a = 1000 + j ∧ pcon[j]? = some (mAt pcon sh a) ∧ ((mAt pcon sh a).1 = 5 ∨ (mAt pcon sh a).1 = 6 ∨ (mAt pcon sh a).1 = 7)) := by
  by_cases ha : a < 1000
  · have e : mAt pcon sh a = mNth (9, 0, []) sh a := if_pos ha
    rw [e] at h9 ⊢
    have g := mNth_some (d := (9, 0, [])) (l := sh) (n := a) rfl (fun q => h9 (by rw [q]))
    exact Or.inl ⟨g, hk _ (List.mem_of_getElem? g)⟩
  · have e : mAt pcon sh a = mNth (9, 0, []) pcon (a - 1000) := if_neg ha
    rw [e] at h9 ⊢
    have g := mNth_some (d := (9, 0, [])) (l := pcon) (n := a - 1000) rfl (fun q => h9 (by rw [q]))
    refine Or.inr ⟨a - 1000, by omega, g, ?_⟩
    have := pcon_kd _ (List.mem_of_getElem? g)
    simpa [h9] using this
theorem mK1 {D : va_G} {s : State} {cA : ClassId} {ty : FieldType} (hK : va_K D vwCl [] s) (h : ArrOfT s cA ty ∧ va_RA s cA ty) : va_K D vwCl [(cA, ty)] s := ⟨hK.1, fun k q hk => by
  cases k with
  | zero => cases hk; exact h
  | succ k => simp at hk⟩
theorem mK2 {D : va_G} {s : State} {cA cB : ClassId} {ty tz : FieldType} (hK : va_K D vwCl [] s) (h : ArrOfT s cA ty ∧ va_RA s cA ty) (h2 : ArrOfT s cB tz ∧ va_RA s cB tz) : va_K D vwCl [(cA, ty), (cB, tz)] s := ⟨hK.1, fun k q hk => by
  match k, hk with
  | 0, hk => cases hk; exact h
  | 1, hk => cases hk; exact h2
  | k + 2, hk => simp at hk⟩
section OPS
variable {p : Program} {l : Launch} {e : Env} {R : Room} {s : State} {m : MethodId} {args : Array Value} {below : List Frame} {meth : Method} {c : Code} {Q : State → Prop} {y : Nat} {D : va_G} {A : Nat → Prop} {ρ0 : mRho} {M0 : mMI} {sh0 : List mSC} {ρ : mRho} {sh : List mSC} {M : mMI} {J : mMJ} {nc ns : Nat} {H : Heap} {locs : List Loc} {ls : Array Slot} {st : List Value} {pc pn : Nat} {hs : List Nat}
/-- getfield of an object of the world -/
theorem so20 {ci a b o : Nat} {cell : mSC} {v : Value} (C : mAct p s m args meth c R y D A ρ0 M0) (I : mHI s y D A ρ0 M0 sh0 ρ sh M J nc ns H locs) (h : ok20 (pby y) (pnm y).cls hs ci a b pc pn = true) (hc : sh[o]? = some cell) (hk : cell.1 = 0) (hci : cell.2.1 = ci) (hv : (b = 0 ∧ v = .int (M o a)) ∨ (¬ b = 0 ∧ ∃ r, mNth 0 cell.2.2 a = r + 1 ∧ v = .ref r)) (k : W p l e R s m args below meth c H locs nc ns Q (F0 m pn ls (mTr ρ v :: st))) : W p l e R s m args below meth c H locs nc ns Q (F0 m pc ls (.ref (ρ o).1 :: st)) := by
  obtain ⟨hx, hb, hml, hown, hts, hnm, hA, hK, hCF, -⟩ := C
  obtain ⟨hP, hD, hS, -⟩ := I
  have hw := mWd_at (ρ := ρ) (M := M) (J := J) hc
  have ecell : mCell ρ M J o cell = .inr (ci, mFV ρ (mNth [] pkin ci) cell.2.2 (M o)) := by rw [mCell_0 hk, hci]
  rw [ecell] at hw
  obtain ⟨q, hq, -⟩ := hP o _ hw
  unfold ok20 at h
  simp only [Bool.and_eq_true, decide_eq_true_eq] at h
  obtain ⟨rfl, h⟩ := h
  split at h
  · rename_i kx hd
    split at h
    · simp [vwCl] at hq
    · split at h
      · rename_i f hf
        unfold oF at hf
        have hq' : vwCl[ci]? = some q := hq
        rw [hq'] at hf
        dsimp only at hf
        split at hf
        · rename_i hlt
          cases hf
          simp only [Bool.and_eq_true, decide_eq_true_eq] at h
          have hv2 : (mFV ρ (mNth [] pkin ci) cell.2.2 (M o))[a]? = some (mTr ρ v) := by
            rcases hv with ⟨hb0, rfl⟩ | ⟨hb0, r, hr, rfl⟩
            · have h0 : mNth 2 (mNth [] pkin ci) a = 0 := by
                rcases h.2 with g | g
                · exact g.2
                · exact absurd hb0 g.1
              rw [mFV_get (by rw [h0]; decide), if_pos h0]
              rfl
            · have h0 : mNth 2 (mNth [] pkin ci) a = 1 := by
                rcases h.2 with g | g
                · exact absurd g.1 hb0
                · exact g.2
              rw [mFV_get (by rw [h0]; decide), if_neg (by rw [h0]; decide), hr]
              rfl
          exact va_get hx hb hts (vw_in hq') hown hK hP o hw hq' a hlt (hts _ (oW_in h.1)) (fun _ z => z) hv2 hd k
        · cases hf
      · cases h
  · cases h
/-- getfield of a text that was there before -/
theorem so20s {a b j : Nat} {cell : mSC} {v : Value} (C : mAct p s m args meth c R y D A ρ0 M0) (I : mHI s y D A ρ0 M0 sh0 ρ sh M J nc ns H locs) (h : ok20 (pby y) (pnm y).cls hs 8 a b pc pn = true) (hc : pcon[j]? = some cell) (hk : cell.1 = 7) (hv : (b = 0 ∧ v = .int 0) ∨ (¬ b = 0 ∧ ∃ r, mNth 0 cell.2.2 a = r + 1 ∧ v = .ref r)) (hp : ∀ r, mNth 0 cell.2.2 0 = r + 1 → 999 ≤ r) (k : W p l e R s m args below meth c H locs nc ns Q (F0 m pn ls (mTr ρ v :: st))) : W p l e R s m args below meth c H locs nc ns Q (F0 m pc ls (.ref (ρ (1000 + j)).1 :: st)) := by
  obtain ⟨hx, hb, hml, hown, hts, hnm, hA, hK, hCF, -⟩ := C
  obtain ⟨hP, hD, hS, hAF, hM, hkd, hpl, hρ, -⟩ := I
  have g := mCC_7 hk (hCF.1 j cell hc)
  rw [hρ (1000 + j) (Or.inr (by omega))]
  unfold ok20 at h
  simp only [Bool.and_eq_true, decide_eq_true_eq] at h
  obtain ⟨rfl, h⟩ := h
  split at h
  · rename_i kx hd
    simp only [Bool.or_eq_true, Bool.and_eq_true, decide_eq_true_eq] at h
    rcases h with ⟨⟨rfl, hb0⟩, hw⟩ | ⟨⟨rfl, hb0⟩, hw⟩
    · rcases hv with ⟨q, -⟩ | ⟨-, r, hr, rfl⟩
      · exact absurd q hb0
      · have g2 := g.2.1
        rw [hr] at g2
        have e : mTr ρ (.ref r) = mTr ρ0 (mRef (r + 1)) := by
          show Value.ref (ρ r).1 = Value.ref (ρ0 r).1
          rw [hρ r (Or.inr (hp r hr))]
        rw [e] at k
        exact vk_getf hx hb g2 hS hown (hts _ (oW_in hw)) (fun _ z => z) hd k
    · rcases hv with ⟨-, rfl⟩ | ⟨q, -⟩
      · exact vk_getf hx hb g.2.2 hS hown (hts _ (oW_in hw)) (fun _ z => z) hd k
      · exact absurd hb0 q
  · cases h
end OPS
