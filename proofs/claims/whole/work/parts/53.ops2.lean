/-! soundness of numbers, jumps and switches -/
section OPS
variable {p : Program} {l : Launch} {e : Env} {R : Room} {s : State} {m : MethodId} {args : Array Value} {below : List Frame} {meth : Method} {c : Code} {Q : State → Prop} {y : Nat} {D : va_G} {A : Nat → Prop} {ρ0 : mRho} {M0 : mMI} {H : Heap} {locs : List Loc} {cells slots : Nat} {ls : Array Slot} {st : List Value} {pc pn pt : Nat}
theorem so5 {b : Nat} {x v : Int32} (C : mAct p s m args meth c R y D A ρ0 M0) (h : ok5 (pby y) b pc pn = true) (k : W p l e R s m args below meth c H locs cells slots Q (F0 m pn ls (.int (mBin b x v) :: st))) : W p l e R s m args below meth c H locs cells slots Q (F0 m pc ls (.int v :: .int x :: st)) := by
  obtain ⟨hx, hb, hml, hown, hts, hnm, hA, hK, hCF, -⟩ := C
  unfold ok5 at h
  simp only [Bool.and_eq_true, decide_eq_true_eq] at h
  obtain ⟨rfl, h⟩ := h
  split at h <;> rename_i hd
  all_goals (try (rw [decide_eq_true_eq] at h; subst h))
  · exact lv_iadd hx hb hd k
  · exact lv_isub hx hb hd k
  · exact lv_imul hx hb hd k
  · exact lv_iand hx hb hd k
  · exact lv_ior hx hb hd k
  · exact lv_ixor hx hb hd k
  · exact lv_ishl hx hb hd k
  · exact lv_ishr hx hb hd k
  · exact lv_iushr hx hb hd rfl k
  · cases h
theorem so9 {b : Nat} {x v : Int64} (C : mAct p s m args meth c R y D A ρ0 M0) (h : ok9 (pby y) b pc pn = true) (k : W p l e R s m args below meth c H locs cells slots Q (F0 m pn ls (.long (mBinJ b x v) :: st))) : W p l e R s m args below meth c H locs cells slots Q (F0 m pc ls (.long v :: .long x :: st)) := by
  obtain ⟨hx, hb, hml, hown, hts, hnm, hA, hK, hCF, -⟩ := C
  unfold ok9 at h
  simp only [Bool.and_eq_true, decide_eq_true_eq] at h
  obtain ⟨rfl, h⟩ := h
  split at h <;> rename_i hd
  all_goals (try (rw [decide_eq_true_eq] at h; subst h))
  · exact lv_ladd hx hb hd k
  · exact lv_lsub hx hb hd k
  · exact lv_lmul hx hb hd k
  · exact lv_land hx hb hd k
  · exact lv_lor hx hb hd k
  · exact lv_lxor hx hb hd k
  · cases h
theorem so11 {b : Nat} {x : Int64} {v : Int32} (C : mAct p s m args meth c R y D A ρ0 M0) (h : ok11 (pby y) b pc pn = true) (k : W p l e R s m args below meth c H locs cells slots Q (F0 m pn ls (.long (mShJ b x v) :: st))) : W p l e R s m args below meth c H locs cells slots Q (F0 m pc ls (.int v :: .long x :: st)) := by
  obtain ⟨hx, hb, hml, hown, hts, hnm, hA, hK, hCF, -⟩ := C
  unfold ok11 at h
  simp only [Bool.and_eq_true, decide_eq_true_eq] at h
  obtain ⟨rfl, h⟩ := h
  split at h <;> rename_i hd
  all_goals (try (rw [decide_eq_true_eq] at h; subst h))
  · exact lv_lshl hx hb hd rfl k
  · exact lv_lshr hx hb hd rfl k
  · exact lv_lushr hx hb hd rfl k
  · cases h
theorem so12 {b : Nat} {v w : Value} {ρ : mRho} (C : mAct p s m args meth c R y D A ρ0 M0) (h : ok12 (pby y) b pc pn = true) (hv : mCv b v = some w) (k : W p l e R s m args below meth c H locs cells slots Q (F0 m pn ls (mTr ρ w :: st))) : W p l e R s m args below meth c H locs cells slots Q (F0 m pc ls (mTr ρ v :: st)) := by
  obtain ⟨hx, hb, hml, hown, hts, hnm, hA, hK, hCF, -⟩ := C
  unfold ok12 at h
  simp only [Bool.and_eq_true, decide_eq_true_eq] at h
  obtain ⟨rfl, h⟩ := h
  split at h <;> rename_i hd
  all_goals (try (rw [decide_eq_true_eq] at h; subst h))
  · cases v <;> first | (simp [mCv] at hv; done) | (cases hv; exact lv_i2l hx hb hd rfl k)
  · cases v <;> first | (simp [mCv] at hv; done) | (cases hv; exact lv_l2i hx hb hd rfl k)
  · cases v <;> first | (simp [mCv] at hv; done) | (cases hv; exact lv_i2c hx hb hd rfl k)
  · cases v <;> first | (simp [mCv] at hv; done) | (cases hv; exact lv_i2b hx hb hd rfl k)
  · cases h
theorem okP_at {k : Nat} (h : okP (pby y) k pc pn = true) : pn = pc + 1 ∧ ((k = 6 ∧ decode (pby y) pc = .ok (.idiv, 1)) ∨ (k = 7 ∧ decode (pby y) pc = .ok (.irem, 1)) ∨ (k = 8 ∧ decode (pby y) pc = .ok (.ineg, 1)) ∨ (k = 10 ∧ decode (pby y) pc = .ok (.ldiv, 1)) ∨ (k = 13 ∧ decode (pby y) pc = .ok (.lcmp, 1)) ∨ (k = 14 ∧ decode (pby y) pc = .ok (.dup, 1)) ∨ (k = 15 ∧ decode (pby y) pc = .ok (.pop, 1)) ∨ (k = 24 ∧ decode (pby y) pc = .ok (.laload, 1)) ∨ (k = 25 ∧ decode (pby y) pc = .ok (.aaload, 1)) ∨ (k = 26 ∧ decode (pby y) pc = .ok (.iastore, 1)) ∨ (k = 27 ∧ decode (pby y) pc = .ok (.lastore, 1)) ∨ (k = 28 ∧ decode (pby y) pc = .ok (.aastore, 1)) ∨ (k = 29 ∧ decode (pby y) pc = .ok (.arraylength, 1))) := by
  unfold okP at h
  simp only [Bool.and_eq_true, decide_eq_true_eq] at h
  obtain ⟨rfl, h⟩ := h
  refine ⟨rfl, ?_⟩
  split at h <;> rename_i hd
  all_goals (try (rw [decide_eq_true_eq] at h; subst h; simp [hd]; done))
  cases h
theorem so6 {x v : Int32} (C : mAct p s m args meth c R y D A ρ0 M0) (h : okP (pby y) 6 pc pn = true) (hv : ¬ v = 0) (k : W p l e R s m args below meth c H locs cells slots Q (F0 m pn ls (.int (x / v) :: st))) : W p l e R s m args below meth c H locs cells slots Q (F0 m pc ls (.int v :: .int x :: st)) := by
  obtain ⟨rfl, h2⟩ := okP_at h
  have h : decode (pby y) pc = .ok (.idiv, 1) := by simpa using h2
  exact lv_idiv C.1 C.2.1 h hv k
theorem so7 {x v : Int32} (C : mAct p s m args meth c R y D A ρ0 M0) (h : okP (pby y) 7 pc pn = true) (hv : ¬ v = 0) (k : W p l e R s m args below meth c H locs cells slots Q (F0 m pn ls (.int (x - x / v * v) :: st))) : W p l e R s m args below meth c H locs cells slots Q (F0 m pc ls (.int v :: .int x :: st)) := by
  obtain ⟨rfl, h2⟩ := okP_at h
  have h : decode (pby y) pc = .ok (.irem, 1) := by simpa using h2
  exact lv_irem C.1 C.2.1 h hv k
theorem so8 {x : Int32} (C : mAct p s m args meth c R y D A ρ0 M0) (h : okP (pby y) 8 pc pn = true) (k : W p l e R s m args below meth c H locs cells slots Q (F0 m pn ls (.int (-x) :: st))) : W p l e R s m args below meth c H locs cells slots Q (F0 m pc ls (.int x :: st)) := by
  obtain ⟨rfl, h2⟩ := okP_at h
  have h : decode (pby y) pc = .ok (.ineg, 1) := by simpa using h2
  exact lv_ineg C.1 C.2.1 h k
theorem so10 {x v : Int64} (C : mAct p s m args meth c R y D A ρ0 M0) (h : okP (pby y) 10 pc pn = true) (hv : ¬ v = 0) (k : W p l e R s m args below meth c H locs cells slots Q (F0 m pn ls (.long (x / v) :: st))) : W p l e R s m args below meth c H locs cells slots Q (F0 m pc ls (.long v :: .long x :: st)) := by
  obtain ⟨rfl, h2⟩ := okP_at h
  have h : decode (pby y) pc = .ok (.ldiv, 1) := by simpa using h2
  exact lv_ldiv C.1 C.2.1 h hv k
theorem so13 {x v : Int64} (C : mAct p s m args meth c R y D A ρ0 M0) (h : okP (pby y) 13 pc pn = true) (k : W p l e R s m args below meth c H locs cells slots Q (F0 m pn ls (.int (lg_cmp x v) :: st))) : W p l e R s m args below meth c H locs cells slots Q (F0 m pc ls (.long v :: .long x :: st)) := by
  obtain ⟨rfl, h2⟩ := okP_at h
  have h : decode (pby y) pc = .ok (.lcmp, 1) := by simpa using h2
  exact W.lcmp C.1 C.2.1 h k
theorem so14 {v : Value} (C : mAct p s m args meth c R y D A ρ0 M0) (h : okP (pby y) 14 pc pn = true) (hv : v.category = 1) (k : W p l e R s m args below meth c H locs cells slots Q (F0 m pn ls (v :: v :: st))) : W p l e R s m args below meth c H locs cells slots Q (F0 m pc ls (v :: st)) := by
  obtain ⟨rfl, h2⟩ := okP_at h
  have h : decode (pby y) pc = .ok (.dup, 1) := by simpa using h2
  exact lv_dup C.1 C.2.1 h hv k
theorem so15 {v : Value} (C : mAct p s m args meth c R y D A ρ0 M0) (h : okP (pby y) 15 pc pn = true) (hv : v.category = 1) (k : W p l e R s m args below meth c H locs cells slots Q (F0 m pn ls st)) : W p l e R s m args below meth c H locs cells slots Q (F0 m pc ls (v :: st)) := by
  obtain ⟨rfl, h2⟩ := okP_at h
  have h : decode (pby y) pc = .ok (.pop, 1) := by simpa using h2
  exact lv_pop C.1 C.2.1 h hv k
theorem so16 (C : mAct p s m args meth c R y D A ρ0 M0) (h : ok16 (pby y) pc pt = true) (k : W p l e R s m args below meth c H locs cells slots Q (F0 m pt ls st)) : W p l e R s m args below meth c H locs cells slots Q (F0 m pc ls st) := by
  unfold ok16 at h
  split at h
  · rename_i n hd
    rw [decide_eq_true_eq] at h
    exact lv_goto C.1 C.2.1 hd h k
  · cases h
theorem so17 {b : Nat} {x : Int32} (C : mAct p s m args meth c R y D A ρ0 M0) (h : ok17 (pby y) b pc pt pn = true) (k1 : (mCc b x 0).1 → W p l e R s m args below meth c H locs cells slots Q (F0 m pt ls st)) (k2 : ¬ (mCc b x 0).1 → W p l e R s m args below meth c H locs cells slots Q (F0 m pn ls st)) : W p l e R s m args below meth c H locs cells slots Q (F0 m pc ls (.int x :: st)) := by
  obtain ⟨hx, hb, -⟩ := C
  unfold ok17 at h
  simp only [Bool.and_eq_true, decide_eq_true_eq] at h
  obtain ⟨rfl, h⟩ := h
  split at h <;> rename_i hd
  all_goals (try (simp only [Bool.and_eq_true, decide_eq_true_eq] at h; obtain ⟨rfl, h⟩ := h))
  · exact lv_if_eq hx hb hd h k1 k2
  · exact lv_if_ne hx hb hd h k1 (fun q => k2 (fun z => z q))
  · exact lv_if_lt hx hb hd h k1 k2
  · exact lv_if_ge hx hb hd h k1 k2
  · exact lv_if_gt hx hb hd h k1 k2
  · exact lv_if_le hx hb hd h k1 k2
  · cases h
theorem so18 {b : Nat} {x v : Int32} (C : mAct p s m args meth c R y D A ρ0 M0) (h : ok18 (pby y) b pc pt pn = true) (k1 : (mCc b x v).1 → W p l e R s m args below meth c H locs cells slots Q (F0 m pt ls st)) (k2 : ¬ (mCc b x v).1 → W p l e R s m args below meth c H locs cells slots Q (F0 m pn ls st)) : W p l e R s m args below meth c H locs cells slots Q (F0 m pc ls (.int v :: .int x :: st)) := by
  obtain ⟨hx, hb, -⟩ := C
  unfold ok18 at h
  simp only [Bool.and_eq_true, decide_eq_true_eq] at h
  obtain ⟨rfl, h⟩ := h
  split at h <;> rename_i hd
  all_goals (try (simp only [Bool.and_eq_true, decide_eq_true_eq] at h; obtain ⟨rfl, h⟩ := h))
  · exact lv_icmp_eq hx hb hd h k1 k2
  · exact lv_icmp_ne hx hb hd h k1 (fun q => k2 (fun z => z q))
  · exact lv_icmp_lt hx hb hd h k1 k2
  · exact lv_icmp_ge hx hb hd h k1 k2
  · exact lv_icmp_gt hx hb hd h k1 k2
  · exact lv_icmp_le hx hb hd h k1 k2
  · cases h
theorem okOff_at {pcs : Nat → Nat} : ∀ {os : List Int} {ts : List Nat}, okOff pc pcs os ts = true → os.length = ts.length ∧ ∀ (j t : Nat), ts[j]? = some t → ∃ o : Int, os[j]? = some o ∧ (pc : Int) + o = ((pcs t : Nat) : Int)
  | [], [], _ => ⟨rfl, fun j t h => by simp at h⟩
  | [], _ :: _, h => by cases h
  | _ :: _, [], h => by cases h
  | o :: os, t :: ts, h => by
    simp only [okOff, Bool.and_eq_true, decide_eq_true_eq] at h
    obtain ⟨h1, h2⟩ := okOff_at h.2
    refine ⟨by simp [h1], fun j u hj => ?_⟩
    cases j with
    | zero => cases hj; exact ⟨o, rfl, h.1⟩
    | succ j => exact h2 j u hj
theorem so19 {a b : Nat} {ts : List Nat} {x : Int32} {pcs : Nat → Nat} (C : mAct p s m args meth c R y D A ρ0 M0) (h : ok19 (pby y) pcs a b pc ts = true) (k1 : ∀ (j t : Nat), ts[j]? = some t → x = nI (b + j) → W p l e R s m args below meth c H locs cells slots Q (F0 m (pcs t) ls st)) (k2 : (∀ j, j < ts.length → ¬ x = nI (b + j)) → W p l e R s m args below meth c H locs cells slots Q (F0 m (pcs a) ls st)) : W p l e R s m args below meth c H locs cells slots Q (F0 m pc ls (.int x :: st)) := by
  obtain ⟨hx, hb, -⟩ := C
  unfold ok19 at h
  split at h
  · rename_i d lo hi os len hd
    simp only [Bool.and_eq_true, decide_eq_true_eq] at h
    obtain ⟨rfl, h1, h2, h3, h4⟩ := h
    obtain ⟨h5, h6⟩ := okOff_at h4
    by_cases hin : x.toInt < (b : Int) ∨ hi < x.toInt
    · refine lv_tableOut hx hb hd hin h3 (k2 fun j hj e => ?_)
      have : x.toInt = ((b + j : Nat) : Int) := by rw [e]; exact nI_toInt (by omega)
      omega
    · have g1 : ¬ x.toInt < (b : Int) := fun q => hin (Or.inl q)
      have g2 : ¬ hi < x.toInt := fun q => hin (Or.inr q)
      have g3 : (x.toInt - b).toNat < ts.length := by omega
      obtain ⟨t, ht⟩ : ∃ t, ts[(x.toInt - b).toNat]? = some t := ⟨_, List.getElem?_eq_getElem g3⟩
      obtain ⟨o, ho, hp⟩ := h6 _ t ht
      refine lv_tableIn hx hb hd g1 g2 (by rw [← Array.getElem?_toList]; exact ho) hp (k1 _ t ht ?_)
      have e : x.toInt = (nI (b + (x.toInt - b).toNat)).toInt := by
        rw [nI_toInt (by omega)]
        omega
      exact Int32.toInt_inj.mp e
  · cases h
end OPS
