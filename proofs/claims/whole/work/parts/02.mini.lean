/-! THE SMALL MACHINE: a pure picture of bytecode over a heap by places -/
/-- code, a, b, an int, a long, whether it is a cut, erased locals (or a switch's targets) -/
abbrev mOp : Type := Nat × Nat × Nat × Int32 × Int64 × Nat × List Nat
/-- kind, class or length, references -/
abbrev mSC : Type := Nat × Nat × List Nat
abbrev mMI : Type := Nat → Nat → Int32
abbrev mMJ : Type := Nat → Nat → Int64
/-- shape, ints, longs, cells made, slots made -/
abbrev mHp : Type := List mSC × mMI × mMJ × Nat × Nat
/-- method, place in its code, locals, stack, heap -/
abbrev mCf : Type := Nat × Nat × List (Option Value) × List Value × mHp
abbrev mRs : Type := Option Value × mHp
abbrev mDc : Type := (q : Prop) ×' Decidable q
/-- what one step says: an end; cases with a rest; a call that answers int, long, nothing or a known reference; a maker's call -/
abbrev mSh : Type := Option mRs ⊕ (List (mDc × mCf) × Option mCf) ⊕ (mCf × (Int32 → mMI → mMJ → mCf)) ⊕ (mCf × (Int64 → mMI → mMJ → mCf)) ⊕ (mCf × Nat × (mMI → mMJ → mCf)) ⊕ (mCf × (mHp → mCf))
def mBI (o : Option mRs) (k : Int32 → mMI → mMJ → Option mRs) : Option mRs := match o with
  | some (some (.int v), h) => k v h.2.1 h.2.2.1
  | _ => none
def mBJ (o : Option mRs) (k : Int64 → mMI → mMJ → Option mRs) : Option mRs := match o with
  | some (some (.long v), h) => k v h.2.1 h.2.2.1
  | _ => none
/-- an answer that is nothing (w = 0) or the reference of place w - 1 -/
def mBR (o : Option mRs) (w : Nat) (k : mMI → mMJ → Option mRs) : Option mRs := match o with
  | some (none, h) => if w = 0 then k h.2.1 h.2.2.1 else none
  | some (some (.ref a), h) => if w = a + 1 then k h.2.1 h.2.2.1 else none
  | _ => none
def mBC (o : Option mRs) (k : mHp → Option mRs) : Option mRs := match o with
  | some (none, h) => k h
  | _ => none
def mIf (l : List (mDc × mCf)) (K : mCf → Option mRs) (z : Option mRs) : Option mRs := match l with
  | [] => z
  | q :: l => @ite _ q.1.1 q.1.2 (K q.2) (mIf l K z)
def mTo (d : Option mCf) (K : mCf → Option mRs) : Option mRs := match d with
  | none => none
  | some c => K c
def mApp (s : mSh) (K : mCf → Option mRs) : Option mRs := match s with
  | .inl o => o
  | .inr (.inl (l, d)) => mIf l K (mTo d K)
  | .inr (.inr (.inl (c, k))) => mBI (K c) (fun v M J => K (k v M J))
  | .inr (.inr (.inr (.inl (c, k)))) => mBJ (K c) (fun v M J => K (k v M J))
  | .inr (.inr (.inr (.inr (.inl (c, w, k))))) => mBR (K c) w (fun M J => K (k M J))
  | .inr (.inr (.inr (.inr (.inr (c, k))))) => mBC (K c) (fun h => K (k h))
def mNth {α : Type} (d : α) : List α → Nat → α
  | [], _ => d
  | x :: _, 0 => x
  | _ :: l, n + 1 => mNth d l n
def mPut {α : Type} : List α → Nat → α → List α
  | [], _, _ => []
  | _ :: l, 0, v => v :: l
  | x :: l, n + 1, v => x :: mPut l n v
def mUp (M : mMI) (k i : Nat) (v : Int32) : mMI := fun j => if j = k then upd (M k) i v else M j
def mUpJ (M : mMJ) (k i : Nat) (v : Int64) : mMJ := fun j => if j = k then vp_updL (M k) i v else M j
def mSet (M : mMI) (k : Nat) (f : Nat → Int32) : mMI := fun j => if j = k then f else M j
def mSetJ (M : mMJ) (k : Nat) (f : Nat → Int64) : mMJ := fun j => if j = k then f else M j
abbrev mIn (i : Int32) (n : Nat) : Prop := ¬ (i < 0 ∨ n ≤ i.toNatClampNeg)
def mDec (q : Prop) [d : Decidable q] : mDc := ⟨q, d⟩
def mErs : List Nat → List (Option Value) → List (Option Value)
  | [], L => L
  | a :: l, L => mErs l (mPut L a none)
def mCat2 (o : Option Value) : Bool := match o with
  | some (.long _) => true
  | some (.double _) => true
  | _ => false
/-- a local is stored: a long takes two places, what it breaks is forgotten -/
def mSto (L : List (Option Value)) (a : Nat) (v : Value) : List (Option Value) :=
  let L1 := match a with
    | 0 => L
    | b + 1 => match mCat2 (mNth none L b) with
      | true => mPut L b none
      | false => L
  match mCat2 (some v) with
    | true => mPut (mPut L1 a (some v)) (a + 1) none
    | false => mPut L1 a (some v)
def mArgs : List Value → List (Option Value)
  | [] => []
  | v :: l => match mCat2 (some v) with
    | true => some v :: none :: mArgs l
    | false => some v :: mArgs l
def mPad : Nat → List (Option Value) → List (Option Value)
  | 0, _ => []
  | n + 1, [] => none :: mPad n []
  | n + 1, x :: l => x :: mPad n l
/-- what lies at a place: of the world, or of what was there before -/
def mAt (cs sh : List mSC) (a : Nat) : mSC := if a < 999 then mNth (9, 0, []) sh a else mNth (9, 0, []) cs (a - 1000)
/-- the length of an array; of the script by a number of its own -/
def mLen (c : mSC) (M : mMI) : Nat := if c.2.1 = 0 then (M 999 0).toNatClampNeg else c.2.1
def mRef (n : Nat) : Value := match n with
  | 0 => .null
  | a + 1 => .ref a
def mBin (b : Nat) (x y : Int32) : Int32 := match b with
  | 0 => x + y
  | 1 => x - y
  | 2 => x * y
  | 3 => x &&& y
  | 4 => x ||| y
  | 5 => x ^^^ y
  | 6 => x <<< (y &&& 31)
  | 7 => x >>> (y &&& 31)
  | _ => (x.toUInt32 >>> (y.toUInt32 &&& Int32.toUInt32 31)).toInt32
def mBinJ (b : Nat) (x y : Int64) : Int64 := match b with
  | 0 => x + y
  | 1 => x - y
  | 2 => x * y
  | 3 => x &&& y
  | 4 => x ||| y
  | _ => x ^^^ y
def mShJ (b : Nat) (x : Int64) (y : Int32) : Int64 := match b with
  | 0 => x <<< (y.toInt64 &&& 63)
  | 1 => x >>> (y.toInt64 &&& 63)
  | _ => (x.toUInt64 >>> (y.toInt64.toUInt64 &&& Int64.toUInt64 63)).toInt64
def mCv (b : Nat) (v : Value) : Value := match b, v with
  | 0, .int x => .long x.toInt64
  | 1, .long x => .int x.toInt32
  | 2, .int x => .int (x.toUInt32 % 65536).toInt32
  | 3, .int x => .int x.toInt8.toInt32
  | _, _ => .null
def mCc (b : Nat) (x y : Int32) : mDc := match b with
  | 0 => mDec (x = y)
  | 1 => mDec (¬ x = y)
  | 2 => mDec (x < y)
  | 3 => mDec (y ≤ x)
  | 4 => mDec (y < x)
  | _ => mDec (x ≤ y)
/-- of a method: locals, answer (0 none, 1 int, 2 long, 3 reference, 4 boolean), plain, rank, receiver's class (9: none), cells, slots, the place that it answers + 1 -/
abbrev mInf : Type := Nat × Nat × Nat × Nat × Nat × Nat × Nat × Nat
/-- the program: a method's code by pieces of 32, what is said of it, what was there before -/
abbrev mPg : Type := (Nat → List (List mOp)) × (Nat → mInf) × List mSC
def mFe (P : mPg) (y i : Nat) : mOp := mNth (99, 0, 0, 0, 0, 0, []) (mNth [] (P.1 y) (i / 32)) (i % 32)
def mNo : mSh := .inl none
def mGo (y i : Nat) (L : List (Option Value)) (S : List Value) (h : mHp) : mSh := .inr (.inl ([], some (y, i, L, S, h)))
def mCk (q : mDc) (y i : Nat) (L : List (Option Value)) (S : List Value) (h : mHp) : mSh := .inr (.inl ([(q, (y, i, L, S, h))], none))
/-- a switch's cases -/
def mSw (x k : Int32) (y : Nat) (L : List (Option Value)) (S : List Value) (h : mHp) : List Nat → List (mDc × mCf)
  | [] => []
  | t :: l => (mDec (x = k), (y, t, L, S, h)) :: mSw x (k + 1) y L S h l
/-- a row of references: the cases of its index -/
def mRw (x k : Int32) (y i : Nat) (L : List (Option Value)) (S : List Value) (h : mHp) : List Nat → List (mDc × mCf)
  | [] => []
  | r :: l => (mDec (x = k), (y, i, L, mRef r :: S, h)) :: mRw x (k + 1) y i L S h l
def mGetf (cs : List mSC) (a b o y i : Nat) (L : List (Option Value)) (S : List Value) (h : mHp) : mSh :=
  match mAt cs h.1 o with
  | (0, _, rs) => match b with
    | 0 => mGo y (i + 1) L (.int (h.2.1 o a) :: S) h
    | _ => match mNth 0 rs a with
      | 0 => mNo
      | r + 1 => mGo y (i + 1) L (.ref r :: S) h
  | (7, _, rs) => match b with
    | 0 => mGo y (i + 1) L (.int 0 :: S) h
    | _ => match mNth 0 rs a with
      | 0 => mNo
      | r + 1 => mGo y (i + 1) L (.ref r :: S) h
  | _ => mNo
def mAld (cs : List mSC) (a : Nat) (x : Int32) (y i : Nat) (L : List (Option Value)) (S : List Value) (h : mHp) : mSh :=
  match mAt cs h.1 a with
  | (1, n, _) => mCk (mDec (mIn x n)) y (i + 1) L (.int (h.2.1 a x.toNatClampNeg) :: S) h
  | (3, n, _) => mCk (mDec (mIn x n)) y (i + 1) L (.int (h.2.1 a x.toNatClampNeg) :: S) h
  | (5, n, z) => mCk (mDec (mIn x (mLen (5, n, z) h.2.1))) y (i + 1) L (.int (h.2.1 a x.toNatClampNeg) :: S) h
  | (6, n, _) => mCk (mDec (mIn x n)) y (i + 1) L (.int (h.2.1 a x.toNatClampNeg) :: S) h
  | _ => mNo
def mLn (cs : List mSC) (a y i : Nat) (L : List (Option Value)) (S : List Value) (h : mHp) : mSh :=
  match mAt cs h.1 a with
  | (1, n, _) => mGo y (i + 1) L (.int (Int32.ofNat n) :: S) h
  | (5, n, _) => match n with
    | 0 => mGo y (i + 1) L (.int (h.2.1 999 0) :: S) h
    | n + 1 => mGo y (i + 1) L (.int (Int32.ofNat (n + 1)) :: S) h
  | (6, n, _) => mGo y (i + 1) L (.int (Int32.ofNat n) :: S) h
  | _ => mNo
def mIsK (cs sh : List mSC) (k a : Nat) : Bool := (mAt cs sh a).1 == k
/-- whether a call's receiver is of the method's class -/
def mRcv (cs sh : List mSC) (c : Nat) (args : List Value) : Bool := match c with
  | 9 => true
  | 8 => match args with
    | .ref a :: _ => (mAt cs sh a).1 == 7
    | _ => false
  | c => match args with
    | .ref a :: _ => (mAt cs sh a).1 == 0 && ((mAt cs sh a).2.1 == c && decide (a < 999))
    | _ => false
def mEnt (P : mPg) (y : Nat) (args : List Value) (h : mHp) : mCf := (y, 0, mPad (P.2.1 y).1 (mArgs args), [], h.1, h.2.1, h.2.2.1, 0, 0)
def mCall (P : mPg) (z n y i : Nat) (L : List (Option Value)) (S : List Value) (h : mHp) : mSh :=
  match (decide ((P.2.1 z).2.2.2.1 < (P.2.1 y).2.2.2.1) && (decide ((S.drop n).length ≤ 4) && (decide ((S.take n).length = n) && mRcv P.2.2 h.1 (P.2.1 z).2.2.2.2.1 (S.take n).reverse))) with
  | false => mNo
  | true => match (P.2.1 z).2.2.1 with
    | 0 => match (P.2.1 y).2.2.1, decide (h.2.2.2.1 + (P.2.1 z).2.2.2.2.2.1 ≤ (P.2.1 y).2.2.2.2.2.1 ∧ h.2.2.2.2 + (P.2.1 z).2.2.2.2.2.2.1 ≤ (P.2.1 y).2.2.2.2.2.2.1) with
      | 0, true => .inr (.inr (.inr (.inr (.inr (mEnt P z (S.take n).reverse h, fun g => (y, i + 1, L, S.drop n, g.1, g.2.1, g.2.2.1, h.2.2.2.1 + (P.2.1 z).2.2.2.2.2.1, h.2.2.2.2 + (P.2.1 z).2.2.2.2.2.2.1))))))
      | _, _ => mNo
    | _ => match (P.2.1 z).2.1 with
      | 0 => .inr (.inr (.inr (.inr (.inl (mEnt P z (S.take n).reverse h, 0, fun M J => (y, i + 1, L, S.drop n, h.1, M, J, h.2.2.2))))))
      | 2 => .inr (.inr (.inr (.inl (mEnt P z (S.take n).reverse h, fun v M J => (y, i + 1, L, .long v :: S.drop n, h.1, M, J, h.2.2.2)))))
      | 3 => .inr (.inr (.inr (.inr (.inl (mEnt P z (S.take n).reverse h, (P.2.1 z).2.2.2.2.2.2.2, fun M J => (y, i + 1, L, mRef (P.2.1 z).2.2.2.2.2.2.2 :: S.drop n, h.1, M, J, h.2.2.2))))))
      | _ => .inr (.inr (.inl (mEnt P z (S.take n).reverse h, fun v M J => (y, i + 1, L, .int v :: S.drop n, h.1, M, J, h.2.2.2))))
def mZ (v : Int32) (h : mHp) : Option mRs := if v = 0 then some (some (.int 0), h) else if v = 1 then some (some (.int 1), h) else none
def mRet (r : Nat) (S : List Value) (h : mHp) : Option mRs := match r, S with
  | 0, [] => some (none, h)
  | 1, [.int v] => some (some (.int v), h)
  | 2, [.long v] => some (some (.long v), h)
  | 3, [.ref v] => some (some (.ref v), h)
  | 4, [.int v] => mZ v h
  | _, _ => none
/-- arrays of a kind (1 ints, 2 longs, 3 booleans) are made -/
def mNewa (y i k : Nat) (L : List (Option Value)) (n : Nat) (S : List Value) (h : mHp) (mc ms : Nat) : mSh :=
  match decide (h.1.length < 900 ∧ 0 < n ∧ n < 65536 ∧ h.2.2.2.1 + 1 ≤ mc ∧ h.2.2.2.2 + n ≤ ms) with
  | true => mGo y (i + 1) L (.ref h.1.length :: S) (h.1 ++ [(k, n, [])], mSet h.2.1 h.1.length (fun _ => 0), mSetJ h.2.2.1 h.1.length (fun _ => 0), h.2.2.2.1 + 1, h.2.2.2.2 + n)
  | false => mNo
def mZeros : Nat → List Nat
  | 0 => []
  | n + 1 => 0 :: mZeros n
/-- rows of references (k = 4, n long) and objects (k = 0, class w, n fields) are made -/
def mNewo (y i k w n : Nat) (L : List (Option Value)) (S : List Value) (h : mHp) (mc ms : Nat) : mSh :=
  match decide (h.1.length < 900 ∧ n < 65536 ∧ h.2.2.2.1 + 1 ≤ mc ∧ h.2.2.2.2 + n ≤ ms) with
  | true => mGo y (i + 1) L (.ref h.1.length :: S) (h.1 ++ [(k, w, mZeros n)], mSet h.2.1 h.1.length (fun _ => 0), h.2.2.1, h.2.2.2.1 + 1, h.2.2.2.2 + n)
  | false => mNo
def mPlace (v : Value) : Nat := match v with
  | .ref a => a + 1
  | _ => 0
/-- a reference is put into an object or a row -/
def mLink (y i o k : Nat) (v : Value) (L : List (Option Value)) (S : List Value) (h : mHp) : mSh :=
  match mPlace v, mNth (9, 0, []) h.1 o with
  | 0, _ => mNo
  | r + 1, (d, w, rs) => mGo y (i + 1) L S (mPut h.1 o (d, w, mPut rs k (r + 1)), h.2)
/-- one instruction of a plain kind -/
def mExec (P : mPg) (o : mOp) (y i : Nat) (L : List (Option Value)) (S : List Value) (h : mHp) : mSh := match o.1 with
  | 0 => mGo y (i + 1) L (.int o.2.2.2.1 :: S) h
  | 1 => mGo y (i + 1) L (.long o.2.2.2.2.1 :: S) h
  | 2 => match mNth none L o.2.1 with
    | some v => mGo y (i + 1) L (v :: S) h
    | none => mNo
  | 3 => match S with
    | v :: S => mGo y (i + 1) (mSto L o.2.1 v) S h
    | _ => mNo
  | 4 => match mNth none L o.2.1 with
    | some (.int x) => mGo y (i + 1) (mPut L o.2.1 (some (.int (x + o.2.2.2.1)))) S h
    | _ => mNo
  | 5 => match S with
    | .int v :: .int x :: S => mGo y (i + 1) L (.int (mBin o.2.2.1 x v) :: S) h
    | _ => mNo
  | 6 => match S with
    | .int v :: .int x :: S => mCk (mDec (¬ v = 0)) y (i + 1) L (.int (x / v) :: S) h
    | _ => mNo
  | 7 => match S with
    | .int v :: .int x :: S => mCk (mDec (¬ v = 0)) y (i + 1) L (.int (x - x / v * v) :: S) h
    | _ => mNo
  | 8 => match S with
    | .int x :: S => mGo y (i + 1) L (.int (-x) :: S) h
    | _ => mNo
  | 9 => match S with
    | .long v :: .long x :: S => mGo y (i + 1) L (.long (mBinJ o.2.2.1 x v) :: S) h
    | _ => mNo
  | 10 => match S with
    | .long v :: .long x :: S => mCk (mDec (¬ v = 0)) y (i + 1) L (.long (x / v) :: S) h
    | _ => mNo
  | 11 => match S with
    | .int v :: .long x :: S => mGo y (i + 1) L (.long (mShJ o.2.2.1 x v) :: S) h
    | _ => mNo
  | 12 => match S with
    | v :: S => match mCv o.2.2.1 v with
      | .null => mNo
      | w => mGo y (i + 1) L (w :: S) h
    | _ => mNo
  | 13 => match S with
    | .long v :: .long x :: S => mGo y (i + 1) L (.int (lg_cmp x v) :: S) h
    | _ => mNo
  | 14 => match S with
    | v :: S => match mCat2 (some v) with
      | false => mGo y (i + 1) L (v :: v :: S) h
      | true => mNo
    | _ => mNo
  | 15 => match S with
    | v :: S => match mCat2 (some v) with
      | false => mGo y (i + 1) L S h
      | true => mNo
    | _ => mNo
  | 16 => mGo y o.2.1 L S h
  | 17 => match S with
    | .int x :: S => .inr (.inl ([(mCc o.2.2.1 x 0, (y, o.2.1, L, S, h))], some (y, i + 1, L, S, h)))
    | _ => mNo
  | 18 => match S with
    | .int v :: .int x :: S => .inr (.inl ([(mCc o.2.2.1 x v, (y, o.2.1, L, S, h))], some (y, i + 1, L, S, h)))
    | _ => mNo
  | 19 => match S with
    | .int x :: S => .inr (.inl (mSw x o.2.2.2.1 y L S h o.2.2.2.2.2.2, some (y, o.2.1, L, S, h)))
    | _ => mNo
  | 20 => match S with
    | .ref a :: S => mGetf P.2.2 o.2.1 o.2.2.1 a y i L S h
    | _ => mNo
  | 21 => match S with
    | .int v :: .ref a :: S => match decide (a < 999) && mIsK P.2.2 h.1 0 a with
      | true => mGo y (i + 1) L S (h.1, mUp h.2.1 a o.2.1 v, h.2.2)
      | false => mNo
    | _ => mNo
  | 22 => mGo y (i + 1) L (.ref o.2.1 :: S) h
  | 23 => match S with
    | .int x :: .ref a :: S => mAld P.2.2 a x y i L S h
    | _ => mNo
  | 24 => match S with
    | .int x :: .ref a :: S => match mAt P.2.2 h.1 a with
      | (2, n, _) => mCk (mDec (mIn x n)) y (i + 1) L (.long (h.2.2.1 a x.toNatClampNeg) :: S) h
      | _ => mNo
    | _ => mNo
  | 25 => match S with
    | .int x :: .ref a :: S => match mAt P.2.2 h.1 a with
      | (4, _, rs) => .inr (.inl (mRw x 0 y (i + 1) L S h rs, none))
      | _ => mNo
    | _ => mNo
  | 26 => match S with
    | .int v :: .int x :: .ref a :: S => match mAt P.2.2 h.1 a with
      | (1, n, _) => mCk (mDec (mIn x n)) y (i + 1) L S (h.1, mUp h.2.1 a x.toNatClampNeg v, h.2.2)
      | _ => mNo
    | _ => mNo
  | 27 => match S with
    | .long v :: .int x :: .ref a :: S => match mAt P.2.2 h.1 a with
      | (2, n, _) => mCk (mDec (mIn x n)) y (i + 1) L S (h.1, h.2.1, mUpJ h.2.2.1 a x.toNatClampNeg v, h.2.2.2)
      | _ => mNo
    | _ => mNo
  | 29 => match S with
    | .ref a :: S => mLn P.2.2 a y i L S h
    | _ => mNo
  | 33 => mCall P o.2.1 o.2.2.1 y i L S h
  | 34 => .inl (mRet (P.2.1 y).2.1 S h)
  | 35 => match S with
    | .int n :: .int dp :: .ref d :: .int sp :: .ref a :: S => match mAt P.2.2 h.1 a, mAt P.2.2 h.1 d with
      | (_, n1, _), (1, n2, _) => mCk (mDec ((dp = 0 ∧ sp = 0 ∧ mIn n (min n1 n2 + 1)) ∧ (mIsK P.2.2 h.1 1 a = true ∨ mIsK P.2.2 h.1 5 a = true) ∧ ¬ a = d)) y (i + 1) L S (h.1, mSet h.2.1 d (va_cpy (h.2.1 a) (h.2.1 d) 0 0 n.toNatClampNeg), h.2.2)
      | _, _ => mNo
    | _ => mNo
  | 37 => match S with
    | .ref _ :: S => mGo y (i + 1) L S h
    | _ => mNo
  | 39 => match S with
    | .ref a :: S => match decide (a < 999) && mIsK P.2.2 h.1 0 a with
      | true => mGo y (i + 1) L S (h.1, mUp h.2.1 a o.2.1 o.2.2.2.1, h.2.2)
      | false => mNo
    | _ => mNo
  | 40 => match S with
    | .int x :: .ref a :: S => match mAt P.2.2 h.1 a with
      | (3, n, _) => mCk (mDec (mIn x n)) y (i + 1) L S (h.1, mUp h.2.1 a x.toNatClampNeg o.2.2.2.1, h.2.2)
      | _ => mNo
    | _ => mNo
  | _ => mNo
/-- one instruction of a maker: what it makes and links beside the plain ones -/
def mMake (P : mPg) (o : mOp) (y i : Nat) (L : List (Option Value)) (S : List Value) (h : mHp) : mSh := match o.1 with
  | 28 => match S with
    | v :: .int x :: .ref a :: S => match decide (0 ≤ x ∧ x.toNatClampNeg < 65536) && (decide (a < 999) && mIsK P.2.2 h.1 4 a) with
      | true => mLink y i a x.toNatClampNeg v L S h
      | false => mNo
    | _ => mNo
  | 30 => mNewo y i 0 o.2.1 o.2.2.1 L S h (P.2.1 y).2.2.2.2.2.1 (P.2.1 y).2.2.2.2.2.2.1
  | 31 => match S with
    | .int n :: S => match decide (0 ≤ n) with
      | true => mNewa y i o.2.1 L n.toNatClampNeg S h (P.2.1 y).2.2.2.2.2.1 (P.2.1 y).2.2.2.2.2.2.1
      | false => mNo
    | _ => mNo
  | 32 => match S with
    | .int n :: S => match decide (0 ≤ n) with
      | true => mNewo y i 4 n.toNatClampNeg n.toNatClampNeg L S h (P.2.1 y).2.2.2.2.2.1 (P.2.1 y).2.2.2.2.2.2.1
      | false => mNo
    | _ => mNo
  | 36 => match S with
    | v :: .ref a :: S => match decide (a < 999) && mIsK P.2.2 h.1 0 a with
      | true => mLink y i a o.2.1 v L S h
      | false => mNo
    | _ => mNo
  | 38 => match S with
    | .int v :: .ref a :: S => match decide (a < 999) && mIsK P.2.2 h.1 0 a with
      | true => mCk (mDec (v = 0 ∨ v = 1)) y (i + 1) L S (h.1, mUp h.2.1 a o.2.1 v, h.2.2)
      | false => mNo
    | _ => mNo
  | _ => mExec P o y i L S h
def mErL (o : mOp) (L : List (Option Value)) : List (Option Value) := match o.1 with
  | 19 => L
  | _ => mErs o.2.2.2.2.2.2 L
def mStep (P : mPg) (c : mCf) : mSh := match (P.2.1 c.1).2.2.1 with
  | 0 => mMake P (mFe P c.1 c.2.1) c.1 c.2.1 (mErL (mFe P c.1 c.2.1) c.2.2.1) c.2.2.2.1 c.2.2.2.2
  | _ => mExec P (mFe P c.1 c.2.1) c.1 c.2.1 (mErL (mFe P c.1 c.2.1) c.2.2.1) c.2.2.2.1 c.2.2.2.2
def mEv (P : mPg) : Nat → mCf → Option mRs
  | 0, _ => none
  | n + 1, c => mApp (mStep P c) (mEv P n)
noncomputable def mOut (P : mPg) (c : mCf) : Option mRs := @dite (Option mRs) (∃ n r, mEv P n c = some r) (Classical.propDecidable _) (fun h => mEv P (Classical.choose h) c) (fun _ => none)
/-- whether a place of the code is a cut -/
def mCut (P : mPg) (c : mCf) : Bool := (mFe P c.1 c.2.1).2.2.2.2.2.1 == 1
noncomputable def mDen (P : mPg) : Nat → mCf → Option mRs
  | 0, c => mOut P c
  | n + 1, c => mApp (mStep P c) (fun c => cond (mCut P c) (mOut P c) (mDen P n c))
