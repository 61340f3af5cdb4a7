/-! THE TABLES AGREE WITH THE BYTES: one check for each micro-operation, run by the kernel -/
theorem mNth_get {α : Type} (d : α) : ∀ (l : List α) (n : Nat), mNth d l n = (l[n]?).getD d
  | [], n => by cases n <;> rfl
  | x :: l, 0 => rfl
  | x :: l, n + 1 => by simp [mNth, mNth_get d l n]
theorem mNth_far {α : Type} (d : α) (l : List α) (n : Nat) (h : l.length ≤ n) : mNth d l n = d := by
  rw [mNth_get, List.getElem?_eq_none_iff.mpr h]
  rfl
theorem mNth_some {α : Type} {d x : α} {l : List α} {n : Nat} (h : mNth d l n = x) (hx : x ≠ d) : l[n]? = some x := by
  rw [mNth_get] at h
  cases hl : l[n]? with
  | none => rw [hl] at h; exact absurd h.symm hx
  | some y => rw [hl] at h; exact congrArg some h
noncomputable def oW (w : Cond) (h : Nat) : Bool := match lw_tbl[h]? with
  | some v => decide (v = w) && goodWord w
  | none => false
noncomputable def TB : List Cond := lw_tbl.filter goodWord
theorem oW_in {w : Cond} {h : Nat} (q : oW w h = true) : w ∈ TB := by
  unfold oW at q
  split at q
  · rename_i v hv
    simp only [Bool.and_eq_true, decide_eq_true_eq] at q
    obtain ⟨rfl, q2⟩ := q
    exact List.mem_filter.mpr ⟨List.mem_of_getElem? hv, q2⟩
  · cases q
theorem TB_good {w : Cond} (h : w ∈ TB) : goodWord w = true := (List.mem_filter.mp h).2
noncomputable def oN (w : Cond) : Bool := decide (w ∈ pNW)
noncomputable def oH (hs : List Nat) (i : Nat) : Nat := mNth 5000 hs i
noncomputable def ok0 (cc : ByteArray) (own : String) (hs : List Nat) (c : Int32) (pc pn : Nat) : Bool := match decode cc pc with
  | .ok (.iconst n, 1) => decide (Int32.ofInt n = c) && decide (pn = pc + 1)
  | .ok (.bipush n, 2) => decide ((Int8.ofInt n).toInt32 = c) && decide (pn = pc + 2)
  | .ok (.sipush n, 3) => decide ((Int16.ofInt n).toInt32 = c) && decide (pn = pc + 3)
  | .ok (.ldc k, 2) => oW (.constant own k c) (oH hs 0) && decide (pn = pc + 2)
  | .ok (.ldc_w k, 3) => oW (.constant own k c) (oH hs 0) && decide (pn = pc + 3)
  | .ok (.getstatic k, 3) => decide (c = 1) && (oW (.fieldLink own k "java/lang/String" "COMPACT_STRINGS" "Z") (oH hs 0) && decide (pn = pc + 3))
  | _ => false
noncomputable def ok1 (cc : ByteArray) (own : String) (hs : List Nat) (d : Int64) (pc pn : Nat) : Bool := match decode cc pc with
  | .ok (.lconst n, 1) => decide (Int64.ofNat (n : Nat) = d) && decide (pn = pc + 1)
  | .ok (.ldc2_w k, 3) => oW (.constantLong own k d) (oH hs 0) && decide (pn = pc + 3)
  | _ => false
noncomputable def ok2 (cc : ByteArray) (a b : Nat) (pc pn : Nat) : Bool := match decode cc pc with
  | .ok (.iload_n k, 1) => decide (b = 0) && (decide ((k : Nat) = a) && decide (pn = pc + 1))
  | .ok (.iload k, 2) => decide (b = 0) && (decide (k = a) && decide (pn = pc + 2))
  | .ok (.lload_n k, 1) => decide (b = 1) && (decide ((k : Nat) = a) && decide (pn = pc + 1))
  | .ok (.lload k, 2) => decide (b = 1) && (decide (k = a) && decide (pn = pc + 2))
  | .ok (.aload_n k, 1) => decide (b = 2) && (decide ((k : Nat) = a) && decide (pn = pc + 1))
  | .ok (.aload k, 2) => decide (b = 2) && (decide (k = a) && decide (pn = pc + 2))
  | _ => false
noncomputable def ok3 (cc : ByteArray) (nL a b : Nat) (pc pn : Nat) : Bool := match decode cc pc with
  | .ok (.istore_n k, 1) => decide (b = 0) && (decide ((k : Nat) = a) && (decide (a < nL) && decide (pn = pc + 1)))
  | .ok (.istore k, 2) => decide (b = 0) && (decide (k = a) && (decide (a < nL) && decide (pn = pc + 2)))
  | .ok (.lstore_n k, 1) => decide (b = 1) && (decide ((k : Nat) = a) && (decide (a + 1 < nL) && decide (pn = pc + 1)))
  | .ok (.lstore k, 2) => decide (b = 1) && (decide (k = a) && (decide (a + 1 < nL) && decide (pn = pc + 2)))
  | .ok (.astore_n k, 1) => decide (b = 2) && (decide ((k : Nat) = a) && (decide (a < nL) && decide (pn = pc + 1)))
  | .ok (.astore k, 2) => decide (b = 2) && (decide (k = a) && (decide (a < nL) && decide (pn = pc + 2)))
  | _ => false
noncomputable def ok4 (cc : ByteArray) (nL a : Nat) (c : Int32) (pc pn : Nat) : Bool := match decode cc pc with
  | .ok (.iinc k n, 3) => decide (k = a) && (decide (Int32.ofInt n = c) && (decide (a < nL) && decide (pn = pc + 3)))
  | _ => false
noncomputable def ok5 (cc : ByteArray) (b : Nat) (pc pn : Nat) : Bool := decide (pn = pc + 1) && (match decode cc pc with
  | .ok (.iadd, 1) => decide (b = 0)
  | .ok (.isub, 1) => decide (b = 1)
  | .ok (.imul, 1) => decide (b = 2)
  | .ok (.iand, 1) => decide (b = 3)
  | .ok (.ior, 1) => decide (b = 4)
  | .ok (.ixor, 1) => decide (b = 5)
  | .ok (.ishl, 1) => decide (b = 6)
  | .ok (.ishr, 1) => decide (b = 7)
  | .ok (.iushr, 1) => decide (b = 8)
  | _ => false)
noncomputable def ok9 (cc : ByteArray) (b : Nat) (pc pn : Nat) : Bool := decide (pn = pc + 1) && (match decode cc pc with
  | .ok (.ladd, 1) => decide (b = 0)
  | .ok (.lsub, 1) => decide (b = 1)
  | .ok (.lmul, 1) => decide (b = 2)
  | .ok (.land, 1) => decide (b = 3)
  | .ok (.lor, 1) => decide (b = 4)
  | .ok (.lxor, 1) => decide (b = 5)
  | _ => false)
noncomputable def ok11 (cc : ByteArray) (b : Nat) (pc pn : Nat) : Bool := decide (pn = pc + 1) && (match decode cc pc with
  | .ok (.lshl, 1) => decide (b = 0)
  | .ok (.lshr, 1) => decide (b = 1)
  | .ok (.lushr, 1) => decide (b = 2)
  | _ => false)
noncomputable def ok12 (cc : ByteArray) (b : Nat) (pc pn : Nat) : Bool := decide (pn = pc + 1) && (match decode cc pc with
  | .ok (.i2l, 1) => decide (b = 0)
  | .ok (.l2i, 1) => decide (b = 1)
  | .ok (.i2c, 1) => decide (b = 2)
  | .ok (.i2b, 1) => decide (b = 3)
  | _ => false)
/-- an instruction of one byte without anything beside it -/
noncomputable def okP (cc : ByteArray) (k pc pn : Nat) : Bool := decide (pn = pc + 1) && (match decode cc pc with
  | .ok (.idiv, 1) => decide (k = 6)
  | .ok (.irem, 1) => decide (k = 7)
  | .ok (.ineg, 1) => decide (k = 8)
  | .ok (.ldiv, 1) => decide (k = 10)
  | .ok (.lcmp, 1) => decide (k = 13)
  | .ok (.dup, 1) => decide (k = 14)
  | .ok (.pop, 1) => decide (k = 15)
  | .ok (.laload, 1) => decide (k = 24)
  | .ok (.aaload, 1) => decide (k = 25)
  | .ok (.iastore, 1) => decide (k = 26)
  | .ok (.lastore, 1) => decide (k = 27)
  | .ok (.aastore, 1) => decide (k = 28)
  | .ok (.arraylength, 1) => decide (k = 29)
  | _ => false)
noncomputable def ok16 (cc : ByteArray) (pc pt : Nat) : Bool := match decode cc pc with
  | .ok (.goto n, 3) => decide ((pc : Int) + n = (pt : Int))
  | _ => false
noncomputable def ok17 (cc : ByteArray) (b pc pt pn : Nat) : Bool := decide (pn = pc + 3) && (match decode cc pc with
  | .ok (.ifCond .eq n, 3) => decide (b = 0) && decide ((pc : Int) + n = (pt : Int))
  | .ok (.ifCond .ne n, 3) => decide (b = 1) && decide ((pc : Int) + n = (pt : Int))
  | .ok (.ifCond .lt n, 3) => decide (b = 2) && decide ((pc : Int) + n = (pt : Int))
  | .ok (.ifCond .ge n, 3) => decide (b = 3) && decide ((pc : Int) + n = (pt : Int))
  | .ok (.ifCond .gt n, 3) => decide (b = 4) && decide ((pc : Int) + n = (pt : Int))
  | .ok (.ifCond .le n, 3) => decide (b = 5) && decide ((pc : Int) + n = (pt : Int))
  | _ => false)
noncomputable def ok18 (cc : ByteArray) (b pc pt pn : Nat) : Bool := decide (pn = pc + 3) && (match decode cc pc with
  | .ok (.if_icmp .eq n, 3) => decide (b = 0) && decide ((pc : Int) + n = (pt : Int))
  | .ok (.if_icmp .ne n, 3) => decide (b = 1) && decide ((pc : Int) + n = (pt : Int))
  | .ok (.if_icmp .lt n, 3) => decide (b = 2) && decide ((pc : Int) + n = (pt : Int))
  | .ok (.if_icmp .ge n, 3) => decide (b = 3) && decide ((pc : Int) + n = (pt : Int))
  | .ok (.if_icmp .gt n, 3) => decide (b = 4) && decide ((pc : Int) + n = (pt : Int))
  | .ok (.if_icmp .le n, 3) => decide (b = 5) && decide ((pc : Int) + n = (pt : Int))
  | _ => false)
/-- a switch: its offsets are the targets' -/
def okOff (pc : Nat) (pcs : Nat → Nat) : List Int → List Nat → Bool
  | [], [] => true
  | o :: os, t :: ts => decide ((pc : Int) + o = ((pcs t : Nat) : Int)) && okOff pc pcs os ts
  | _, _ => false
noncomputable def ok19 (cc : ByteArray) (pcs : Nat → Nat) (a b pc : Nat) (l : List Nat) : Bool := match decode cc pc with
  | .ok (.tableswitch d lo hi os, _) => decide (lo = (b : Int)) && (decide (hi + 1 = (b : Int) + l.length) && (decide ((b : Int) + l.length < 2147483648) && (decide ((pc : Int) + d = ((pcs a : Nat) : Int)) && okOff pc pcs os.toList l)))
  | _ => false
/-- a field of a class by its number -/
noncomputable def oF (ci a : Nat) : Option (String × String × String × Bool) := match vwCl[ci]? with
  | some q => if a < q.2.2 then some (q.2.1 a) else none
  | none => none
noncomputable def ok20 (cc : ByteArray) (own : String) (hs : List Nat) (ci a b pc pn : Nat) : Bool := decide (pn = pc + 3) && (match decode cc pc with
  | .ok (.getfield k, 3) => match ci with
    | 8 => (decide (a = 0 ∧ ¬ b = 0) && oW (.fieldLink own k "java/lang/String" "value" "[B") (oH hs 0)) || (decide (a = 1 ∧ b = 0) && oW (.fieldLink own k "java/lang/String" "coder" "B") (oH hs 0))
    | ci => match oF ci a with
      | some f => oW (.fieldLink own k f.1 f.2.1 f.2.2.1) (oH hs 0) && decide ((b = 0 ∧ mNth 2 (mNth [] pkin ci) a = 0) ∨ (¬ b = 0 ∧ mNth 2 (mNth [] pkin ci) a = 1))
      | none => false
  | _ => false)
/-- a put into a field: of a type, final ones in a maker of the class alone -/
noncomputable def okPut (cc : ByteArray) (own nm : String) (hs : List Nat) (ci a pc : Nat) (z : Bool) (r : Nat) : Bool := match decode cc pc with
  | .ok (.putfield k, 3) => match oF ci a with
    | some f => oW (.fieldLink own k f.1 f.2.1 f.2.2.1) (oH hs 0) && (decide (mNth 2 (mNth [] pkin ci) a = r) && ((decide (f.2.2.2 = false) || (decide (nm = "<init>") && decide (f.1 = own))) && (decide (r = 1) || decide (f.2.2.1 = (if z then "Z" else "I")))))
    | none => false
  | _ => false
noncomputable def okC (cc : ByteArray) (pc pc2 : Nat) (c : Int32) : Bool := match decode cc pc with
  | .ok (.iconst n, 1) => decide (Int32.ofInt n = c) && (decide (pc2 = pc + 1) && decide (c = 0 ∨ c = 1))
  | _ => false
noncomputable def ok40 (cc : ByteArray) (pc pn : Nat) : Bool := match decode cc pc with
  | .ok (.bastore, 1) => decide (pn = pc + 1)
  | _ => false
noncomputable def oSt (a : Nat) (n : String) : Bool := decide ((a, n) ∈ pSt)
noncomputable def ok22 (cc : ByteArray) (own : String) (hs : List Nat) (a pc pn : Nat) : Bool := match decode cc pc with
  | .ok (.getstatic k, 3) => decide (pn = pc + 3) && (match pSt.find? (fun q => q.1 == a) with
    | some q => oW (.fieldLink own k "PotAndFine" q.2 "[I") (oH hs 0) || oN (.fieldLinkNest own k "PotAndFine" q.2 "[I" "PotAndFine")
    | none => false)
  | .ok (.ldc k, 2) => decide (pn = pc + 2) && (decide (own = "PotAndFine") && (match pTx.find? (fun q => q.2.2 == a) with
    | some q => decide (q.1 = k)
    | none => false))
  | _ => false
noncomputable def ok23 (cc : ByteArray) (b pc pn : Nat) : Bool := decide (pn = pc + 1) && (match decode cc pc with
  | .ok (.iaload, 1) => decide (b = 0)
  | .ok (.baload, 1) => decide (b = 1)
  | _ => false)
noncomputable def ok30 (cc : ByteArray) (own : String) (hs : List Nat) (ci n pc pn : Nat) : Bool := match decode cc pc with
  | .ok (.new k, 3) => decide (pn = pc + 3) && (match vwCl[ci]? with
    | some q => decide (q.2.2 = n) && (oW (.classLink own k q.1) (oH hs 0) && (oW (.instantiable q.1 n) (oH hs 1) && oW (.initialized q.1) (oH hs 2)))
    | none => false)
  | _ => false
noncomputable def ok31 (cc : ByteArray) (hs : List Nat) (a b : Nat) (c : Int32) (pc pn : Nat) : Bool := decide (pn = pc + 2) && (decide (c = Int32.ofNat b ∧ b < 65536 ∧ 0 < b) && (match decode cc pc with
  | .ok (.newarray .int, 2) => decide (a = 1) && oW (.arrayClass .int) (oH hs 0)
  | .ok (.newarray .long, 2) => decide (a = 2) && oW (.arrayClass .long) (oH hs 0)
  | .ok (.newarray .boolean, 2) => decide (a = 3) && oW (.arrayClass .boolean) (oH hs 0)
  | _ => false))
noncomputable def ok32 (cc : ByteArray) (own : String) (hs : List Nat) (b : Nat) (c : Int32) (pc pn : Nat) : Bool := decide (pn = pc + 3) && (decide (c = Int32.ofNat b ∧ b < 65536 ∧ 0 < b) && (match decode cc pc with
  | .ok (.anewarray k, 3) => oW (.classLink own k "PotAndFine$Kept") (oH hs 0)
  | _ => false))
noncomputable def ok33 (cc : ByteArray) (own : String) (hs : List Nat) (z n pc pn : Nat) : Bool := decide (pn = pc + 3) && (decide (z < 197) && (match decode cc pc with
  | .ok (.invokevirtual k, 3) => decide ((PG.2.1 z).2.2.2.2.1 < 9 ∧ (PG.2.1 z).2.2.1 = 1 ∧ (parseMethodDescriptor (pnm z).desc).map (fun d => d.parameters.length + 1) = some n) && (oW (.methodLink own k (pnm z)) (oH hs 0) && (oW (.instanceMethod (pnm z)) (oH hs 1) && oW (.selects (pnm z).cls (pnm z) (pnm z)) (oH hs 2)))
  | .ok (.invokestatic k, 3) => decide ((PG.2.1 z).2.2.2.2.1 = 9 ∧ (PG.2.1 z).2.2.1 = 1 ∧ (parseMethodDescriptor (pnm z).desc).map (fun d => d.parameters.length) = some n) && ((oW (.methodLink own k (pnm z)) (oH hs 0) && oW (.static (pnm z)) (oH hs 1)) || (oN (.methodLinkNest own k (pnm z) "PotAndFine") && oW (.static (pnm z)) (oH hs 0)))
  | .ok (.invokespecial k, 3) => decide ((PG.2.1 z).2.2.2.2.1 < 8 ∧ (PG.2.1 z).2.2.1 = 0 ∧ (pnm z).name = "<init>" ∧ prt z = none ∧ (parseMethodDescriptor (pnm z).desc).map (fun d => d.parameters.length + 1) = some n) && ((oW (.methodLink own k (pnm z)) (oH hs 0) && oW (.instanceMethod (pnm z)) (oH hs 1)) || (oN (.methodLinkNest own k (pnm z) "PotAndFine") && oW (.instanceMethod (pnm z)) (oH hs 0)))
  | _ => false))
noncomputable def ok34 (cc : ByteArray) (r pc : Nat) : Bool := match decode cc pc with
  | .ok (.return_, 1) => decide (r = 0)
  | .ok (.ireturn, 1) => decide (r = 1 ∨ r = 4 ∨ r = 5)
  | .ok (.lreturn, 1) => decide (r = 2)
  | .ok (.areturn, 1) => decide (r = 3)
  | _ => false
noncomputable def ok35 (cc : ByteArray) (own : String) (hs : List Nat) (pc pn : Nat) : Bool := match decode cc pc with
  | .ok (.invokestatic k, 3) => decide (pn = pc + 3) && (oW (.methodLink own k arraycopyName) (oH hs 0) && (oW (.native arraycopyName) (oH hs 1) && (oW (.static arraycopyName) (oH hs 2) && oW (.initialized "java/lang/System") (oH hs 3))))
  | _ => false
noncomputable def ok37 (cc : ByteArray) (own : String) (hs : List Nat) (pc pn : Nat) : Bool := match decode cc pc with
  | .ok (.invokespecial k, 3) => decide (pn = pc + 3) && (oW (.methodLink own k Lib.objectInit) (oH hs 0) && (oW (.instanceMethod Lib.objectInit) (oH hs 1) && oW (.code Lib.objectInit ⟨#[0xb1]⟩ 1 none) (oH hs 2)))
  | _ => false
noncomputable def ok41 (cc : ByteArray) (own : String) (hs : List Nat) (b pc pn : Nat) : Bool := match decode cc pc with
  | .ok (.invokestatic k, 3) => decide (pn = pc + 3) && (oW (.initialized "java/lang/Math") (oH hs 2) && (match b with
    | 0 => oW (.methodLink own k Lib.Math.max.name) (oH hs 0) && (oW (.static Lib.Math.max.name) (oH hs 1) && oW (.code Lib.Math.max.name Lib.Math.max.code 2 (some .int)) (oH hs 3))
    | 1 => oW (.methodLink own k Lib.Math.min.name) (oH hs 0) && (oW (.static Lib.Math.min.name) (oH hs 1) && oW (.code Lib.Math.min.name Lib.Math.min.code 2 (some .int)) (oH hs 3))
    | 2 => oW (.methodLink own k Lib.MathLoose.max_long.x) (oH hs 0) && (oW (.static Lib.MathLoose.max_long.x) (oH hs 1) && oW (.code Lib.MathLoose.max_long.x Lib.MathLoose.max_long.code 4 (some .long)) (oH hs 3))
    | _ => false))
  | _ => false
/-- the check of one micro-operation at its place -/
noncomputable def okOp (cc : ByteArray) (own nm : String) (nL rt rk : Nat) (pcs : Nat → Nat) (hs : List Nat) (pc : Nat) (o : mOp) : Bool := match o with
  | (ok, oa, ob, oc, od, _, on, ol, _) => match ok with
    | 0 => ok0 cc own hs oc pc (pcs on)
    | 1 => ok1 cc own hs od pc (pcs on)
    | 2 => ok2 cc oa ob pc (pcs on)
    | 3 => ok3 cc nL oa ob pc (pcs on)
    | 4 => ok4 cc nL oa oc pc (pcs on)
    | 5 => ok5 cc ob pc (pcs on)
    | 9 => ok9 cc ob pc (pcs on)
    | 11 => ok11 cc ob pc (pcs on)
    | 12 => ok12 cc ob pc (pcs on)
    | 16 => ok16 cc pc (pcs oa)
    | 17 => ok17 cc ob pc (pcs oa) (pcs on)
    | 18 => ok18 cc ob pc (pcs oa) (pcs on)
    | 19 => ok19 cc pcs oa ob pc ol
    | 20 => ok20 cc own hs (mNth 9 ol 0) oa ob pc (pcs on)
    | 21 => okPut cc own nm hs (mNth 9 ol 0) oa pc false 0 && decide (pcs on = pc + 3)
    | 22 => ok22 cc own hs oa pc (pcs on)
    | 23 => ok23 cc ob pc (pcs on)
    | 30 => ok30 cc own hs oa ob pc (pcs on)
    | 31 => ok31 cc hs oa ob oc pc (pcs on)
    | 32 => ok32 cc own hs ob oc pc (pcs on)
    | 33 => ok33 cc own hs oa ob pc (pcs on)
    | 34 => ok34 cc rt pc
    | 35 => ok35 cc own hs pc (pcs on) && decide (1 ≤ rk)
    | 36 => okPut cc own nm hs (mNth 9 ol 0) oa pc false 1 && decide (pcs on = pc + 3)
    | 37 => ok37 cc own hs pc (pcs on) && decide (1 ≤ rk)
    | 38 => okPut cc own nm hs (mNth 9 ol 0) oa pc true 0 && decide (pcs on = pc + 3)
    | 39 => okC cc pc (pc + 1) oc && (okPut cc own nm hs (mNth 9 ol 0) oa (pc + 1) true 0 && decide (pcs on = pc + 4))
    | 40 => okC cc pc (pc + 1) oc && ok40 cc (pc + 1) (pcs on)
    | 41 => ok41 cc own hs ob pc (pcs on) && decide (1 ≤ rk)
    | 99 => true
    | k => okP cc k pc (pcs on)
noncomputable def okMi (y i : Nat) : Bool := okOp (pby y) (pnm y).cls (pnm y).name (PG.2.1 y).1 (PG.2.1 y).2.1 (PG.2.1 y).2.2.2.1 (pPc y) (pHi y i) (pPc y i) (mFe PG y i)
/-- the check of a method's code -/
noncomputable def okM (y : Nat) : Bool := (List.range (32 * (PG.1 y).length)).all (okMi y)
/-- what a callee's contract wants of its tables -/
noncomputable def okZ (z : Nat) : Bool := oW (.code (pnm z) (pby z) (PG.2.1 z).1 (prt z)) (pHm z).1 && (oW (.initialized (pnm z).cls) (pHm z).2 && (decide ((pnm z).cls ≠ "java/lang/invoke/MethodHandle" ∧ (pnm z).cls ≠ "java/lang/invoke/VarHandle" ∧ plainName (pnm z).cls = true ∧ (PG.2.1 z).1 ≤ 18 ∧ pPc z 0 = 0 ∧ (¬ (PG.2.1 z).2.1 = 3 ∨ ¬ (PG.2.1 z).2.2.2.2.2.2.2 = 0)) && (decide ((PG.2.1 z).2.2.2.2.1 = 9 ∨ ((PG.2.1 z).2.2.2.2.1 = 8 ∧ (pnm z).cls = "java/lang/String") ∨ (vwCl[(PG.2.1 z).2.2.2.2.1]?).map (fun q => q.1) = some (pnm z).cls) && (decide (((PG.2.1 z).2.1 = 0 ∧ prt z = none) ∨ ((PG.2.1 z).2.1 = 1 ∧ prt z = some .int) ∨ ((PG.2.1 z).2.1 = 2 ∧ prt z = some .long) ∨ ((PG.2.1 z).2.1 = 3 ∧ prt z = some (.object "PotAndFine$Course")) ∨ ((PG.2.1 z).2.1 = 4 ∧ prt z = some .boolean) ∨ ((PG.2.1 z).2.1 = 5 ∧ prt z = some .byte)) && decide (((PG.2.1 z).2.2.1 = 0 ∧ (PG.2.1 z).2.1 = 0) ∨ ((PG.2.1 z).2.2.1 = 1 ∧ (PG.2.1 z).2.2.2.2.2.1 = 0 ∧ (PG.2.1 z).2.2.2.2.2.2.1 = 0))))))
