/-! a callee's contract out of a run of the small machine -/
def mPre (D : va_G) (ρ0 : mRho) (M0 : mMI) (sh : List mSC) (M : mMI) (J : mMJ) (As : List Value) (sz : Nat) : Array Value → State → Prop := va_Pc (As.map (mTr ρ0)) (fun U => U.heap.size = sz ∧ va_P D vwCl (mWd ρ0 M J sh) U.heap ∧ va_K D vwCl [] U ∧ va_D (va_A (mWd ρ0 M J sh) sz) (mWd ρ0 M J sh) ∧ mAF ρ0 sh U ∧ mCF ρ0 M0 (va_A (mWd ρ0 M J sh) sz) U U.heap)
def mPost (D : va_G) (ρ0 : mRho) (M0 : mMI) (sh : List mSC) (M : mMI) (J : mMJ) (sz z : Nat) (r : mRs) : Array Value → State → Outcome → State → Prop := fun _ st oc t => (∃ ρ : mRho, oc = .returned (r.1.map (mTr ρ)) ∧ (¬ (PG.2.1 z).2.2.1 = 0 → ρ = ρ0 ∧ r.2.1 = sh) ∧ (∀ k, k < sh.length ∨ 999 ≤ k → ρ k = ρ0 k) ∧ sh.length ≤ r.2.1.length ∧ (r.2.1.length < 999 ∧ ∀ q ∈ r.2.1, q.1 ≤ 4) ∧ (∀ k, 999 ≤ k → r.2.2.1 k = M0 k) ∧ va_P D vwCl (mWd ρ r.2.2.1 r.2.2.2.1 r.2.1) t.heap ∧ va_K D vwCl [] t ∧ va_D (va_A (mWd ρ0 M J sh) sz) (mWd ρ r.2.2.1 r.2.2.2.1 r.2.1) ∧ mAF ρ r.2.1 t) ∧ va_F (va_A (mWd ρ0 M J sh) sz) st t
noncomputable def mRoom (z : Nat) : Room := { frames := (PG.2.1 z).2.2.2.1, cells := (PG.2.1 z).2.2.2.2.2.1, slots := (PG.2.1 z).2.2.2.2.2.2.1, locals := 37 * (PG.2.1 z).2.2.2.1 }
theorem mAF.moved {ρ : mRho} {sh : List mSC} {u U : State} (hvm : u.vm.Alike U.vm) (h : mAF ρ sh u) : mAF ρ sh U := fun k c ty h1 h2 => ⟨arrOfT_moved hvm (h k c ty h1 h2).1, (h k c ty h1 h2).2.moved hvm⟩
theorem lg_len (ρ : mRho) : ∀ (vs : List Value), (lg_sl (vs.map (mTr ρ))).length = (mArgs vs).length
  | [] => rfl
  | v :: vs => by
    have ih := lg_len ρ vs
    have hc := mTr_cat ρ v
    unfold lg_sl at ih ⊢
    cases hv : mCat2 (some v) with
    | true =>
      have h2 : (mTr ρ v).category = 2 := by rw [hc]; exact mCat2_iff.mp hv
      simp only [List.map_cons, List.flatMap_cons, List.length_append, h2, if_true, mArgs, hv, List.length_cons, List.length_nil, ih]
      omega
    | false =>
      have h2 : ¬ (mTr ρ v).category = 2 := by rw [hc]; intro q; rw [mCat2_iff.mpr q] at hv; cases hv
      simp only [List.map_cons, List.flatMap_cons, List.length_append, if_neg h2, mArgs, hv, List.length_cons, List.length_nil, ih]
      omega
/-- what okZ says -/
theorem okZ_at {z : Nat} (h : okZ z = true) : Cond.code (pnm z) (pby z) (PG.2.1 z).1 (prt z) ∈ TB ∧ Cond.initialized (pnm z).cls ∈ TB ∧ ((pnm z).cls ≠ "java/lang/invoke/MethodHandle" ∧ (pnm z).cls ≠ "java/lang/invoke/VarHandle" ∧ plainName (pnm z).cls = true ∧ (PG.2.1 z).1 ≤ 18 ∧ pPc z 0 = 0 ∧ (¬ (PG.2.1 z).2.1 = 3 ∨ ¬ (PG.2.1 z).2.2.2.2.2.2.2 = 0)) ∧ ((PG.2.1 z).2.2.2.2.1 = 9 ∨ ((PG.2.1 z).2.2.2.2.1 = 8 ∧ (pnm z).cls = "java/lang/String") ∨ (vwCl[(PG.2.1 z).2.2.2.2.1]?).map (fun q => q.1) = some (pnm z).cls) ∧ (((PG.2.1 z).2.1 = 0 ∧ prt z = none) ∨ ((PG.2.1 z).2.1 = 1 ∧ prt z = some .int) ∨ ((PG.2.1 z).2.1 = 2 ∧ prt z = some .long) ∨ ((PG.2.1 z).2.1 = 3 ∧ prt z = some (.object "PotAndFine$Course")) ∨ ((PG.2.1 z).2.1 = 4 ∧ prt z = some .boolean) ∨ ((PG.2.1 z).2.1 = 5 ∧ prt z = some .byte)) ∧ (((PG.2.1 z).2.2.1 = 0 ∧ (PG.2.1 z).2.1 = 0) ∨ ((PG.2.1 z).2.2.1 = 1 ∧ (PG.2.1 z).2.2.2.2.2.1 = 0 ∧ (PG.2.1 z).2.2.2.2.2.2.1 = 0)) := by
  unfold okZ at h
  simp only [Bool.and_eq_true, decide_eq_true_eq] at h
  exact ⟨oW_in h.1, oW_in h.2.1, h.2.2.1, h.2.2.2.1, h.2.2.2.2.1, h.2.2.2.2.2⟩
set_option maxHeartbeats 4000000 in
theorem mMet {n : Nat} (IH : mSim n) {z : Nat} (hz : okZ z = true) {As : List Value} {sh : List mSC} {M : mMI} {J : mMJ} {r : mRs} (hev : mEv PG n (mEnt PG z As sh M J) = some r) {M0 : mMI} (hM : ∀ k, 999 ≤ k → M k = M0 k) (hkd : sh.length < 999 ∧ ∀ q ∈ sh, q.1 ≤ 4) (hal : (mArgs As).length ≤ (PG.2.1 z).1) (l : Launch) (D : va_G) (ρ0 : mRho) (sz : Nat) : Met l (pnm z) (Cond.code (pnm z) (pby z) (PG.2.1 z).1 (prt z) :: TB) (mRoom z) (mPre D ρ0 M0 sh M J As sz) (mPost D ρ0 M0 sh M J sz z r) (PG.2.1 z).2.2.2.2.2.1 (PG.2.1 z).2.2.2.2.2.2.1 (va_A (mWd ρ0 M J sh) sz) := by
  obtain ⟨-, -, ⟨-, -, hpn, -, hp0, -⟩, -, hrt, hpl⟩ := okZ_at hz
  refine Met.ofW (cc := pby z) (maxL := (PG.2.1 z).1) (ret := prt z) hpn rfl ?_
  intro p e s m args below meth c s₁ B hml hv
  obtain ⟨rfl, hsz, hP, hK, hD, hAF, hCF⟩ := hv
  have hx := B.exec
  have hb := B.bytes
  have hr := B.returns
  have hts := atoms_spec (ws := Cond.code (pnm z) (pby z) (PG.2.1 z).1 (prt z) :: TB) B.pre
  have hown : s.vm.findClass (pnm z).cls = some m.cls := findClass_of_methodNamed B.named
  have hlocks := B.notSynchronized
  have hnm : meth.name = (pnm z).name := (name_of_methodNamed B.named B.method).1
  subst hsz
  generalize hAe : va_A (mWd ρ0 M J sh) s.heap.size = A at hD hCF ⊢
  have hA : ∀ q : Nat, s.heap.size ≤ q → A q := fun q h => by rw [← hAe]; exact Or.inr h
  have hC : mAct p s m (As.map (mTr ρ0)).toArray meth c (mRoom z) z D A ρ0 M0 := ⟨hx, hb, hml, hown, fun w hw => hts w (List.mem_cons_of_mem _ hw), fun q => hnm.trans q, hA, hK, hCF, Nat.le_refl _, Nat.le_refl _, Nat.le_refl _, Nat.le_refl _⟩
  have hI : mHI s z D A ρ0 M0 sh ρ0 sh M J 0 0 s.heap [] := ⟨hP, hD, va_S.rf, hAF, hM, hkd, fun _ => ⟨rfl, rfl, rfl, rfl⟩, fun _ _ => rfl, Nat.le_refl _, Nat.zero_le _, Nat.zero_le _⟩
  rw [lg_entry_eq]
  have hl := mLoc.entry (ρ := ρ0) As (n := (PG.2.1 z).1) (by rw [lg_len]; exact hal)
  generalize (lg_sl (As.map (mTr ρ0)) ++ List.replicate ((PG.2.1 z).1 - (lg_sl (As.map (mTr ρ0))).length) Slot.unset).toArray = ls at hl ⊢
  have key := IH p l e (mRoom z) s m (As.map (mTr ρ0)).toArray below meth c (MQ below (mPost D ρ0 M0 sh M J s.heap.size z r) (As.map (mTr ρ0)).toArray s (PG.2.1 z).2.2.2.2.2.1 (PG.2.1 z).2.2.2.2.2.2.1 A) z 0 (mPad (PG.2.1 z).1 (mArgs As)) [] sh M J 0 0 r D A ρ0 M0 sh ρ0 s.heap [] ls hev hC hI hl
  rw [hp0] at key
  refine key ?_
  intro i ρ S sh2 M2 J2 nc ns H locs ls2 h34 hret I2
  obtain ⟨iP, iD, iS, iAF, iM, ikd, ipl, iρ, ilen, inc, ins⟩ := I2
  have hq : ∀ v : Option Value, r = (v, sh2, M2, J2, nc, ns) → ∀ t : State, t.heap = H → s.WarmedH t.vm → mPost D ρ0 M0 sh M J s.heap.size z r (As.map (mTr ρ0)).toArray s (.returned (v.map (mTr ρ))) t := by
    intro v e t ht hW
    subst e
    refine ⟨⟨ρ, rfl, fun q => ⟨(ipl q).1, (ipl q).2.1⟩, iρ, ilen, ikd, iM, by rw [ht]; exact iP, va_K.moved hW.alike hK, by rw [hAe]; exact iD, iAF.moved hW.alike⟩, ?_⟩
    rw [hAe]
    exact iS.F ht
  refine W.widen (k := (PG.2.1 z).2.2.2.2.2.1) (n := (PG.2.1 z).2.2.2.2.2.2.1) inc ins ?_
  unfold ok34 at h34
  generalize (PG.2.1 z).2.1 = rt at h34 hret hrt
  split at h34 <;> rename_i hd
  · rw [decide_eq_true_eq] at h34
    subst h34
    have hn : prt z = none := by simpa using hrt
    match S, hret with
    | [], hret => exact W.vret hx hb (hr.trans hn) (hq none (Option.some.inj hret).symm) iS.2.2 hd
    | _ :: _, hret => cases hret
  · rw [decide_eq_true_eq] at h34
    rcases h34 with rfl | rfl | rfl
    · have hn : prt z = some .int := by simpa using hrt
      match S, hret with
      | [.int v], hret => exact W.iret hx hb (hr.trans hn) (hq (some (.int v)) (Option.some.inj hret).symm) iS.2.2 hd
    · have hn : prt z = some .boolean := by simpa using hrt
      match S, hret with
      | [.int v], hret =>
        have hret : mZ v (sh2, M2, J2, nc, ns) = some r := hret
        unfold mZ at hret
        split at hret
        · rename_i e0
          subst e0
          exact W.zret hx hb (hr.trans hn) (by decide +kernel) (hq (some (.int 0)) (Option.some.inj hret).symm) iS.2.2 hd
        · split at hret
          · rename_i e1
            subst e1
            exact W.zret hx hb (hr.trans hn) (by decide +kernel) (hq (some (.int 1)) (Option.some.inj hret).symm) iS.2.2 hd
          · cases hret
    · have hn : prt z = some .byte := by simpa using hrt
      match S, hret with
      | [.int v], hret =>
        have hret : (if v = 0 then some (some (.int 0), (sh2, M2, J2, nc, ns)) else none) = some r := hret
        split at hret
        · rename_i e0
          subst e0
          exact W.zret hx hb (hr.trans hn) (by decide +kernel) (hq (some (.int 0)) (Option.some.inj hret).symm) iS.2.2 hd
        · cases hret
  · rw [decide_eq_true_eq] at h34
    subst h34
    have hn : prt z = some .long := by simpa using hrt
    match S, hret with
    | [.long v], hret => exact W.lret hx hb (hr.trans hn) (hq (some (.long v)) (Option.some.inj hret).symm) iS.2.2 hd
  · rw [decide_eq_true_eq] at h34
    subst h34
    have hn : prt z = some (.object "PotAndFine$Course") := by simpa using hrt
    match S, hret with
    | [.ref v], hret => exact W.aret hx hb (hr.trans hn) (Or.inl ⟨_, rfl⟩) (Or.inr ⟨_, rfl⟩) (hq (some (.ref v)) (Option.some.inj hret).symm) iS.2.2 hd
  · cases h34
