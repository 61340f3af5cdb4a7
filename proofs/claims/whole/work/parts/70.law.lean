/-! THE CLAIM OUT OF ONE WALK OF THE LAW'S BODY. Your part is whole_start (and what it stands on); all else here is the same for every law, but numbers. -/
def R_law : String := "PotAndFineLaw"
def lw_P (b : Addr) (xs : List Int32) (args : Array Value) (s : State) : Prop := args = #[.ref b] ∧ s.IntsAt b xs ∧ xs.length ≤ 2048 ∧ (Jvm.Cond.and given_1 narrow_1).before args s = true
def lw_Q (_ : Array Value) (s : State) (o : Outcome) (t : State) : Prop := o = .returned (some (.int 1)) ∧ Framed s o t [] 600000 7302250
def lw_Z (below : List Frame) (a : Array Value) (s : State) : State → Prop := fun t => ∃ o, t.status = .running ∧ Ended t below o ∧ lw_Q a s o t
/-- the law's own end, with 1 on the stack, nothing written that was there before, its room as the claim has it -/
theorem lw_ret {p : Program} {l : Launch} {e : Env} {s : State} {m : MethodId} {below : List Frame} {meth : Method} {c : Code} {b : Nat} (hx : p.tables.exec = Jvm.exec) (hb : c.code = code) (hr : meth.sig.returnType = ret) (hlocks : meth.locks = false) {pc : Nat} {H : Heap} {ls : Array Slot} (hdg : decode code pc = .ok (.ireturn, 1)) : W p l e room_1 s m #[Value.ref b] below meth c H [] 600000 7302250 (lw_Z below #[Value.ref b] s) (F0 m pc ls [.int 1]) := by
  intro T hT X
  obtain ⟨fs, hret, hrun, hended, hW, hframe⟩ := X.leave (v := some (.int 1)) (hlocks := hlocks) (fun h => by rw [hr] at h; cases h)
  have hmeth' : T.vm.method? m = some meth := X.method'
  refine ⟨T.setFrames fs, ?_, .returned (some (.int 1)), hrun, hended, rfl, ⟨_, rfl⟩, hW, hframe⟩
  jvm_step X.here [X.here.top, hx, hb, hdg, hmeth', hr, ret, narrow_b1]
  (try refine ⟨rfl, ?_⟩); (try refine ⟨rfl, ?_⟩)
  first | (intro acts; rw [hret _ acts rfl rfl rfl]) | rw [hret _ _ rfl rfl rfl]
  exact Steps.refl _
/-- what holds at the law's entry: the machine, the code, the tables' words (any of lw_tbl by 'hts w (by decide +kernel)'), the script of L ints xs at the cell b, what the Statement gives of the start (any of its parts by flat_of_before) -/
def lw_At (p : Program) (s : State) (m : MethodId) (meth : Method) (c : Code) (b L : Nat) (xs : Nat → Int32) : Prop :=
  p.tables.exec = Jvm.exec ∧ c.code = code ∧ meth.sig.returnType = ret ∧ c.maxLocals = 4 ∧ s.vm.findClass R_law = some m.cls ∧ (∀ w ∈ lw_tbl, w.before #[Value.ref b] s = true) ∧ va_X b L xs s s.heap ∧ b < s.heap.size ∧ meth.locks = false ∧ (Jvm.Cond.and given_1 narrow_1).before #[Value.ref b] s = true
/-- what the rows that were there before hold -/
def pM0 (L : Nat) (xs : Nat → Int32) : mMI := fun k => match k with
  | 999 => fun _ => Int32.ofNat L
  | 1000 => xs
  | 1004 => fun j => [20, 16, 0, 1].getD j 0
  | 1052 => fun j => [2, 2, 1, 1].getD j 0
  | 1053 => fun j => [1, 0, 0, 1].getD j 0
  | 1054 => fun j => [20, 60, 9, 9].getD j 0
  | 1062 => fun j => [2, 0, 1, 2, 2, 2, 1].getD j 0
  | 1063 => fun j => [0, 0, 0, 0, 0, 0, 0].getD j 0
  | 1064 => fun j => [20, 0, 9, 99, 99, 99, 9].getD j 0
  | 1051 => fun j => [69, 77, 70, 67].getD j 0
  | 1061 => fun j => [80, 90, 77, 71, 83, 86, 76].getD j 0
  | _ => fun _ => 0
theorem lw_stat {args : Array Value} {s : State} {A : Nat → Prop} {n : String} {vs : List Int32} (hs : ∀ c ∈ flatC (Jvm.Cond.and given_1 narrow_1), c.before args s = true) (ht : ∀ w ∈ lw_tbl, w.before args s = true) (hA : ∀ a : Nat, a < s.heap.size → ¬ A a) (hl : Cond.laysStatic "PotAndFine" n "[I" ∈ lw_tbl) (hi : Cond.initialized "PotAndFine" ∈ lw_tbl) (hN : vs.length < 2 ^ 31) (h1 : Cond.arrayOf (.static "PotAndFine" n "[I") .int ∈ flatC (Jvm.Cond.and given_1 narrow_1)) (h2 : Cond.eq (.length (.static "PotAndFine" n "[I")) (.int (Int32.ofNat vs.length)) ∈ flatC (Jvm.Cond.and given_1 narrow_1)) (h3 : ∀ j, j < vs.length → Cond.eq (.elem (.static "PotAndFine" n "[I") (.int (Int32.ofNat j))) (.int (vs.getD j 0)) ∈ flatC (Jvm.Cond.and given_1 narrow_1)) : ∃ t : Nat, va_Z "PotAndFine" n "[I" (.ref t) A s s.heap ∧ va_T .int t vs.length (fun j => .int (vs.getD j 0)) A s s.heap := by
  obtain ⟨t, e, hT⟩ := va_Tof (tm := .static "PotAndFine" n "[I") (ty := .int) (f := fun j => .int (vs.getD j 0)) (A := A) hN (hs _ h1) (va_eqt (hs _ h2)) (fun j hj => va_eqt (hs _ (h3 j hj))) hA
  exact ⟨t, va_Zof (ht _ hl) (ht _ hi) e hA, hT⟩
theorem vw_inst {ci : Nat} {q : vw_C} (h : vwCl[ci]? = some q) : ∃ n, Cond.instantiable q.1 n ∈ lw_tbl := by
  match ci, h with
  | 0, h => cases h; exact ⟨1, List.mem_of_getElem? (i := 259) (by decide +kernel)⟩
  | 1, h => cases h; exact ⟨10, List.mem_of_getElem? (i := 216) (by decide +kernel)⟩
  | 2, h => cases h; exact ⟨7, List.mem_of_getElem? (i := 115) (by decide +kernel)⟩
  | 3, h => cases h; exact ⟨4, List.mem_of_getElem? (i := 273) (by decide +kernel)⟩
  | 4, h => cases h; exact ⟨7, List.mem_of_getElem? (i := 165) (by decide +kernel)⟩
  | 5, h => cases h; exact ⟨5, List.mem_of_getElem? (i := 87) (by decide +kernel)⟩
  | 6, h => cases h; exact ⟨10, List.mem_of_getElem? (i := 79) (by decide +kernel)⟩
  | 7, h => cases h; exact ⟨31, List.mem_of_getElem? (i := 820) (by decide +kernel)⟩
  | n + 8, h => simp [vwCl] at h
theorem lw_K {args : Array Value} {s : State} (ht : ∀ w ∈ lw_tbl, w.before args s = true) : ∃ D : va_G, va_K D vwCl [] s := by
  have hT : ∀ w ∈ TB, w.before args s = true := fun w hw => ht w (List.mem_filter.mp hw).1
  have h : ∀ k : Nat, ∃ z : ClassId × (Nat → Nat), ∀ q, vwCl[k]? = some q → u_Kn s q.1 q.2.1 q.2.2 z.1 z.2 := by
    intro k
    cases hk : vwCl[k]? with
    | none => exact ⟨(0, fun _ => 0), fun q h => by cases h⟩
    | some q =>
      obtain ⟨n, hn⟩ := vw_inst hk
      obtain ⟨cC, iS, hKn⟩ := u_known (C := q.1) (T := q.2.1) (N := q.2.2) (n := n) hT (vw_in hk) (ht _ hn)
      exact ⟨(cC, iS), fun q2 h => by cases h; exact hKn⟩
  obtain ⟨f, hf⟩ := Classical.axiomOfChoice h
  exact ⟨(fun k => (f k).1, fun k => (f k).2), fun k q hq => hf k q hq, fun k q h => by simp at h⟩
set_option maxRecDepth 100000 in
set_option maxHeartbeats 4000000 in
/-- all that was there before, at the law's start -/
theorem lw_CF {s : State} {b L : Nat} {xs : Nat → Int32} (hL : L ≤ 2048) (ht : ∀ w ∈ lw_tbl, w.before #[Value.ref b] s = true) (hX : va_X b L xs s s.heap) (hbl : b < s.heap.size) (hgv : (Jvm.Cond.and given_1 narrow_1).before #[Value.ref b] s = true) : ∃ ρ0 : mRho, (ρ0 1000).1 = b ∧ mCF ρ0 (pM0 L xs) (fun q : Nat => s.heap.size ≤ q) s s.heap := by
  have hs := flat_of_before _ hgv
  have hA : ∀ a : Nat, a < s.heap.size → ¬ (fun q : Nat => s.heap.size ≤ q) a := fun a h => Nat.not_le.mpr h
  have hi : Cond.initialized "PotAndFine" ∈ lw_tbl := List.mem_of_getElem? (i := 61) (by decide +kernel)
  obtain ⟨t1004, z1004, g1004⟩ := lw_stat (n := "RULE_ELSE") (vs := [20, 16, 0, 1]) hs ht hA (List.mem_of_getElem? (i := 171) (by decide +kernel)) hi (by decide) (by decide +kernel) (by decide +kernel) (by decide +kernel)
  obtain ⟨t1052, z1052, g1052⟩ := lw_stat (n := "RULE_DIGITS") (vs := [2, 2, 1, 1]) hs ht hA (List.mem_of_getElem? (i := 118) (by decide +kernel)) hi (by decide) (by decide +kernel) (by decide +kernel) (by decide +kernel)
  obtain ⟨t1053, z1053, g1053⟩ := lw_stat (n := "RULE_LEAST") (vs := [1, 0, 0, 1]) hs ht hA (List.mem_of_getElem? (i := 120) (by decide +kernel)) hi (by decide) (by decide +kernel) (by decide +kernel) (by decide +kernel)
  obtain ⟨t1054, z1054, g1054⟩ := lw_stat (n := "RULE_MOST") (vs := [20, 60, 9, 9]) hs ht hA (List.mem_of_getElem? (i := 122) (by decide +kernel)) hi (by decide) (by decide +kernel) (by decide +kernel) (by decide +kernel)
  obtain ⟨t1062, z1062, g1062⟩ := lw_stat (n := "PEOPLE_DIGITS") (vs := [2, 0, 1, 2, 2, 2, 1]) hs ht hA (List.mem_of_getElem? (i := 159) (by decide +kernel)) hi (by decide) (by decide +kernel) (by decide +kernel) (by decide +kernel)
  obtain ⟨t1063, z1063, g1063⟩ := lw_stat (n := "PEOPLE_LEAST") (vs := [0, 0, 0, 0, 0, 0, 0]) hs ht hA (List.mem_of_getElem? (i := 161) (by decide +kernel)) hi (by decide) (by decide +kernel) (by decide +kernel) (by decide +kernel)
  obtain ⟨t1064, z1064, g1064⟩ := lw_stat (n := "PEOPLE_MOST") (vs := [20, 0, 9, 99, 99, 99, 9]) hs ht hA (List.mem_of_getElem? (i := 163) (by decide +kernel)) hi (by decide) (by decide +kernel) (by decide +kernel) (by decide +kernel)
  have zc : va_Z "java/lang/String" "COMPACT_STRINGS" "Z" (.int 1) (fun q : Nat => s.heap.size ≤ q) s s.heap := va_Zof (ht _ (List.mem_of_getElem? (i := 356) (by decide +kernel))) (ht _ (List.mem_of_getElem? (i := 71) (by decide +kernel))) (va_eqt (hs _ (by decide +kernel))) hA
  have i2 : ∀ {P : Nat → Prop}, P 0 → P 1 → ∀ i, i < 2 → P i := fun h0 h1 i hi => by
    match i, hi with
    | 0, _ => exact h0
    | 1, _ => exact h1
  obtain ⟨adK, adV, hSt, hSe⟩ := vk_Sof (N := 2) (tm := fun i => .string "PotAndFine" ([18, 37].getD i 0)) (len := [4, 7]) (byt := [[69, 77, 70, 67], [80, 90, 77, 71, 83, 86, 76]]) (A := fun q : Nat => s.heap.size ≤ q) (args := #[Value.ref b]) (s := s) (i2 (by decide) (by decide)) (i2 (hs _ (by decide +kernel)) (hs _ (by decide +kernel))) (i2 (hs _ (by decide +kernel)) (hs _ (by decide +kernel))) (i2 (hs _ (by decide +kernel)) (hs _ (by decide +kernel))) (i2 (hs _ (by decide +kernel)) (hs _ (by decide +kernel))) (i2 (fun j hj => hs _ ((by decide +kernel : ∀ j, j < 4 → Cond.eq (.elem (.field (.string "PotAndFine" 18) "java/lang/String" "value" "[B") (.int (Int32.ofNat j))) (.int ([69, 77, 70, 67].getD j 0)) ∈ flatC (Jvm.Cond.and given_1 narrow_1)) j hj)) (fun j hj => hs _ ((by decide +kernel : ∀ j, j < 7 → Cond.eq (.elem (.field (.string "PotAndFine" 37) "java/lang/String" "value" "[B") (.int (Int32.ofNat j))) (.int ([80, 90, 77, 71, 83, 86, 76].getD j 0)) ∈ flatC (Jvm.Cond.and given_1 narrow_1)) j hj))) (fun i j hi hj hij => by
      have h1 : (Cond.not (Cond.eq (.string "PotAndFine" 18) (.string "PotAndFine" 37))).before #[Value.ref b] s = true := hs _ (by decide +kernel)
      match i, j, hi, hj, hij with
      | 0, 0, _, _, hij => exact absurd rfl hij
      | 0, 1, _, _, _ => exact Or.inl h1
      | 1, 0, _, _, _ => exact Or.inr h1
      | 1, 1, _, _, hij => exact absurd rfl hij) hA
  have hq0 := hSt.1 0 (by omega)
  have hq1 := hSt.1 1 (by omega)
  refine ⟨fun k => (match k with
    | 1000 => b
    | 1004 => t1004
    | 1050 => adK 0
    | 1051 => adV 0
    | 1052 => t1052
    | 1053 => t1053
    | 1054 => t1054
    | 1060 => adK 1
    | 1061 => adV 1
    | 1062 => t1062
    | 1063 => t1063
    | 1064 => t1064
    | _ => 0, 0), rfl, fun j c hj => ?_, fun q hq => ?_, fun q hq => ?_, zc, fun w hw => ?_, ?_, ?_⟩
  · match j, hj with
    | 0, hj =>
      cases hj
      obtain ⟨scr, x1, x2, x3, x4, x5⟩ := hX
      have hcl : (Int32.ofNat L).toNatClampNeg = L := nI_clamp (n := L) (by omega)
      show va_T .int b (Int32.ofNat L).toNatClampNeg (fun j => .int (xs j)) _ s s.heap
      rw [hcl]
      exact ⟨scr, x1, x2, x3, by omega, by rw [x4], x5, hA b hbl⟩
    | 1, hj => cases hj; trivial
    | 2, hj => cases hj; trivial
    | 3, hj => cases hj; trivial
    | 4, hj => cases hj; exact g1004
    | 5, hj => cases hj; trivial
    | 6, hj => cases hj; trivial
    | 7, hj => cases hj; trivial
    | 8, hj => cases hj; trivial
    | 9, hj => cases hj; trivial
    | 10, hj => cases hj; trivial
    | 11, hj => cases hj; trivial
    | 12, hj => cases hj; trivial
    | 13, hj => cases hj; trivial
    | 14, hj => cases hj; trivial
    | 15, hj => cases hj; trivial
    | 16, hj => cases hj; trivial
    | 17, hj => cases hj; trivial
    | 18, hj => cases hj; trivial
    | 19, hj => cases hj; trivial
    | 20, hj => cases hj; trivial
    | 21, hj => cases hj; trivial
    | 22, hj => cases hj; trivial
    | 23, hj => cases hj; trivial
    | 24, hj => cases hj; trivial
    | 25, hj => cases hj; trivial
    | 26, hj => cases hj; trivial
    | 27, hj => cases hj; trivial
    | 28, hj => cases hj; trivial
    | 29, hj => cases hj; trivial
    | 30, hj => cases hj; trivial
    | 31, hj => cases hj; trivial
    | 32, hj => cases hj; trivial
    | 33, hj => cases hj; trivial
    | 34, hj => cases hj; trivial
    | 35, hj => cases hj; trivial
    | 36, hj => cases hj; trivial
    | 37, hj => cases hj; trivial
    | 38, hj => cases hj; trivial
    | 39, hj => cases hj; trivial
    | 40, hj => cases hj; trivial
    | 41, hj => cases hj; trivial
    | 42, hj => cases hj; trivial
    | 43, hj => cases hj; trivial
    | 44, hj => cases hj; trivial
    | 45, hj => cases hj; trivial
    | 46, hj => cases hj; trivial
    | 47, hj => cases hj; trivial
    | 48, hj => cases hj; trivial
    | 49, hj => cases hj; trivial
    | 50, hj => cases hj; exact ⟨hq0.1, hq0.2.2.1, hq0.2.1⟩
    | 51, hj => cases hj; exact hq0.2.2.2
    | 52, hj => cases hj; exact g1052
    | 53, hj => cases hj; exact g1053
    | 54, hj => cases hj; exact g1054
    | 55, hj => cases hj; trivial
    | 56, hj => cases hj; trivial
    | 57, hj => cases hj; trivial
    | 58, hj => cases hj; trivial
    | 59, hj => cases hj; trivial
    | 60, hj => cases hj; exact ⟨hq1.1, hq1.2.2.1, hq1.2.1⟩
    | 61, hj => cases hj; exact hq1.2.2.2
    | 62, hj => cases hj; exact g1062
    | 63, hj => cases hj; exact g1063
    | 64, hj => cases hj; exact g1064
    | j + 65, hj => simp [pcon] at hj
  · simp only [pSt, List.mem_cons, List.not_mem_nil, or_false] at hq
    rcases hq with rfl | rfl | rfl | rfl | rfl | rfl | rfl
    · exact z1004
    · exact z1052
    · exact z1053
    · exact z1054
    · exact z1062
    · exact z1063
    · exact z1064
  · simp only [pTx, List.mem_cons, List.not_mem_nil, or_false] at hq
    rcases hq with rfl | rfl
    · exact vk_R.of (A := #[Value.ref b]) (ht _ (List.mem_of_getElem? (i := 116) (by decide +kernel))) (hSe 0 (by omega))
    · exact vk_R.of (A := #[Value.ref b]) (ht _ (List.mem_of_getElem? (i := 157) (by decide +kernel))) (hSe 1 (by omega))
  · simp only [pNW, List.mem_cons, List.not_mem_nil, or_false] at hw
    rcases hw with rfl | rfl | rfl | rfl | rfl | rfl | rfl | rfl
    · exact va_Nw.of (A := #[Value.ref b]) rfl (ht _ (List.mem_of_getElem? (i := 88) (by decide +kernel)))
    · exact va_Nw.of (A := #[Value.ref b]) rfl (ht _ (List.mem_of_getElem? (i := 170) (by decide +kernel)))
    · exact va_Nw.of (A := #[Value.ref b]) rfl (ht _ (List.mem_of_getElem? (i := 274) (by decide +kernel)))
    · exact va_Nw.of (A := #[Value.ref b]) rfl (ht _ (List.mem_of_getElem? (i := 522) (by decide +kernel)))
    · exact va_Nw.of (A := #[Value.ref b]) rfl (ht _ (List.mem_of_getElem? (i := 531) (by decide +kernel)))
    · exact va_Nw.of (A := #[Value.ref b]) rfl (ht _ (List.mem_of_getElem? (i := 538) (by decide +kernel)))
    · exact va_Nw.of (A := #[Value.ref b]) rfl (ht _ (List.mem_of_getElem? (i := 755) (by decide +kernel)))
    · exact va_Nw.of (A := #[Value.ref b]) rfl (ht _ (List.mem_of_getElem? (i := 756) (by decide +kernel)))
  · exact va_AO.of (A := #[Value.ref b]) (ht _ (List.mem_of_getElem? (i := 272) (by decide +kernel)))
  · show Int32.ofNat (Int32.ofNat L).toNatClampNeg = Int32.ofNat L
    rw [show (Int32.ofNat L).toNatClampNeg = L from nI_clamp (n := L) (by omega)]
/-- the law's run in the small machine: from its entry, with nothing made, to 1 -/
def lw_Run : Prop := ∀ (L : Nat) (xs : Nat → Int32), L ≤ 2048 → ∃ h : mHp, mOut PG (197, 0, [some (.ref 1000), none, none, none], [], [], pM0 L xs, fun _ _ => 0, 0, 0) = some (some (.int 1), h)
set_option maxRecDepth 100000 in
set_option maxHeartbeats 4000000 in
theorem whole_of_run (hrun : lw_Run) {p : Program} {e : Env} {s : State} {m : MethodId} {below : List Frame} {meth : Method} {c : Code} (l : Launch) {b L : Nat} {xs : Nat → Int32} (hL : L ≤ 2048) (C0 : lw_At p s m meth c b L xs) : W p l e room_1 s m #[Value.ref b] below meth c s.heap [] 0 0 (lw_Z below #[Value.ref b] s) (entryFrame m ([Value.ref b] : List Value).toArray 4) := by
  obtain ⟨hx, hb, hr, hml, hown, hts, hX, hbl, hlocks, hgv⟩ := C0
  obtain ⟨ρ0, hb0, hCF⟩ := lw_CF hL hts hX hbl hgv
  obtain ⟨D, hK⟩ := lw_K hts
  obtain ⟨h, hrun⟩ := hrun L xs hL
  obtain ⟨n, hn⟩ := mOut_ex PG hrun
  have e1 : pby 197 = code := rfl
  have e2 : (PG.2.1 197).1 = 4 := rfl
  have e3 : (pnm 197).cls = R_law := rfl
  have e4 : (pnm 197).name = "law" := rfl
  have e5 : (PG.2.1 197).2.1 = 4 := rfl
  have e6 : (PG.2.1 197).2.2.1 = 0 := rfl
  have e7 : pPc 197 0 = 0 := rfl
  have C : mAct p s m #[Value.ref b] meth c room_1 197 D (fun q : Nat => s.heap.size ≤ q) ρ0 (pM0 L xs) := ⟨hx, hb.trans e1.symm, hml.trans e2.symm, by rw [e3]; exact hown, fun w hw => hts w (List.mem_filter.mp hw).1, fun q => by rw [e4] at q; exact absurd q (by decide), fun _ q => q, hK, hCF, by decide +kernel, by decide +kernel, by decide +kernel, by decide +kernel⟩
  have I : mHI s 197 D (fun q : Nat => s.heap.size ≤ q) ρ0 (pM0 L xs) [] ρ0 [] (pM0 L xs) (fun _ _ => 0) 0 0 s.heap [] := ⟨fun k q hq => by simp [mWd] at hq, ⟨fun i j p q hp => by simp [mWd] at hp, fun k q hq => by simp [mWd] at hq⟩, va_S.rf, fun k c2 ty hk => by simp at hk, fun _ _ => rfl, ⟨by decide, fun q hq => by simp at hq⟩, fun q => absurd e6 q, fun _ _ => rfl, Nat.le_refl _, Nat.zero_le _, Nat.zero_le _⟩
  have hl := mLoc.entry (ρ := ρ0) [.ref 1000] (n := 4) (show (1 : Nat) ≤ 4 by decide)
  have em : ([Value.ref 1000] : List Value).map (mTr ρ0) = [.ref b] := by
    show [Value.ref (ρ0 1000).1] = _
    rw [hb0]
  rw [em] at hl
  rw [lg_entry_eq]
  generalize (lg_sl ([Value.ref b] : List Value) ++ List.replicate (4 - (lg_sl ([Value.ref b] : List Value)).length) Slot.unset).toArray = ls at hl ⊢
  have key := mSim_all okAll okZ_all n p l e room_1 s m #[Value.ref b] below meth c (lw_Z below #[Value.ref b] s) 197 0 [some (.ref 1000), none, none, none] [] [] (pM0 L xs) (fun _ _ => 0) 0 0 _ D (fun q : Nat => s.heap.size ≤ q) ρ0 (pM0 L xs) [] ρ0 s.heap [] ls hn C I hl
  rw [e7] at key
  refine key ?_
  intro i ρ S sh M J nc ns H locs ls2 h34 hret I2
  obtain ⟨iP, iD, iS, iAF, iM, ikd, ipl, iρ, ilen, inc, ins⟩ := I2
  rw [e5] at h34 hret
  rw [e1] at h34
  unfold ok34 at h34
  split at h34 <;> rename_i hd
  · cases h34
  · match S, hret with
    | [.int v], hret =>
      have hret : mZ v (sh, M, J, nc, ns) = some (some (.int 1), h) := hret
      have hv : v = 1 := by
        unfold mZ at hret
        split at hret
        · cases hret
        · split at hret
          · assumption
          · cases hret
      subst hv
      refine va_forget (fun q hq => iS.2.2 q hq) ?_
      exact W.widen (k := 600000) (n := 7302250) inc ins (lw_ret hx hb hr hlocks hd)
  · cases h34
  · cases h34
  · cases h34
