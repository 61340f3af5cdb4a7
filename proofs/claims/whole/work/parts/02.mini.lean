/-! THE SMALL MACHINE: a pure picture of bytecode over a heap by places -/
/-- code, a, b, an int, a long, whether it is a cut, the next place, a switch's targets, erased locals -/
abbrev mOp : Type := Nat × Nat × Nat × Int32 × Int64 × Nat × Nat × List Nat × List Nat
/-- kind, class or length, references -/
abbrev mSC : Type := Nat × Nat × List Nat
abbrev mMI : Type := Nat → Nat → Int32
abbrev mMJ : Type := Nat → Nat → Int64
/-- shape, ints, longs, cells made, slots made -/
abbrev mHp : Type := List mSC × mMI × mMJ × Nat × Nat
/-- method, place in its code, locals, stack, heap -/
abbrev mCf : Type := Nat × Nat × List (Option Value) × List Value × mHp
abbrev mRs : Type := Option Value × mHp
abbrev mDc : Type := (q : Prop) ×' Decidable q
/-- what one step says: an end; cases with a rest; a call that answers int, long, nothing or a known reference; a maker's call -/
abbrev mSh : Type := Option mRs ⊕ (List (mDc × mCf) × Option mCf) ⊕ (mCf × (Int32 → mMI → mMJ → mCf)) ⊕ (mCf × (Int64 → mMI → mMJ → mCf)) ⊕ (mCf × Nat × (mMI → mMJ → mCf)) ⊕ (mCf × (mHp → mCf))
def mBI (o : Option mRs) (k : Int32 → mMI → mMJ → Option mRs) : Option mRs := match o with
  | some (some (.int v), h) => k v h.2.1 h.2.2.1
  | _ => none
def mBJ (o : Option mRs) (k : Int64 → mMI → mMJ → Option mRs) : Option mRs := match o with
  | some (some (.long v), h) => k v h.2.1 h.2.2.1
  | _ => none
/-- an answer that is nothing (w = 0) or the reference of place w - 1 -/
def mBR (o : Option mRs) (w : Nat) (k : mMI → mMJ → Option mRs) : Option mRs := match o with
  | some (none, h) => if w = 0 then k h.2.1 h.2.2.1 else none
  | some (some (.ref a), h) => if w = a + 1 then k h.2.1 h.2.2.1 else none
  | _ => none
def mBC (o : Option mRs) (k : mHp → Option mRs) : Option mRs := match o with
  | some (none, h) => k h
  | _ => none
def mIf (l : List (mDc × mCf)) (K : mCf → Option mRs) (z : Option mRs) : Option mRs := match l with
  | [] => z
  | q :: l => @ite _ q.1.1 q.1.2 (K q.2) (mIf l K z)
def mTo (d : Option mCf) (K : mCf → Option mRs) : Option mRs := match d with
  | none => none
  | some c => K c
def mApp (s : mSh) (K : mCf → Option mRs) : Option mRs := match s with
  | .inl o => o
  | .inr (.inl (l, d)) => mIf l K (mTo d K)
  | .inr (.inr (.inl (c, k))) => mBI (K c) (fun v M J => K (k v M J))
  | .inr (.inr (.inr (.inl (c, k)))) => mBJ (K c) (fun v M J => K (k v M J))
  | .inr (.inr (.inr (.inr (.inl (c, w, k))))) => mBR (K c) w (fun M J => K (k M J))
  | .inr (.inr (.inr (.inr (.inr (c, k))))) => mBC (K c) (fun h => K (k h))
def mNth {α : Type} (d : α) : List α → Nat → α
  | [], _ => d
  | x :: _, 0 => x
  | _ :: l, n + 1 => mNth d l n
def mPut {α : Type} : List α → Nat → α → List α
  | [], _, _ => []
  | _ :: l, 0, v => v :: l
  | x :: l, n + 1, v => x :: mPut l n v
def mUp (M : mMI) (k i : Nat) (v : Int32) : mMI := fun j => if j = k then upd (M k) i v else M j
def mUpJ (M : mMJ) (k i : Nat) (v : Int64) : mMJ := fun j => if j = k then vp_updL (M k) i v else M j
def mSet (M : mMI) (k : Nat) (f : Nat → Int32) : mMI := fun j => if j = k then f else M j
def mSetJ (M : mMJ) (k : Nat) (f : Nat → Int64) : mMJ := fun j => if j = k then f else M j
abbrev mIn (i : Int32) (n : Nat) : Prop := ¬ (i < 0 ∨ n ≤ i.toNatClampNeg)
def mDec (q : Prop) [d : Decidable q] : mDc := ⟨q, d⟩
def mErs : List Nat → List (Option Value) → List (Option Value)
  | [], L => L
  | a :: l, L => mErs l (mPut L a none)
def mCat2 (o : Option Value) : Bool := match o with
  | some (.long _) => true
  | some (.double _) => true
  | _ => false
/-- what a store into a place breaks is forgotten -/
def mBrk (L : List (Option Value)) (a : Nat) : List (Option Value) := match a with
  | 0 => L
  | b + 1 => match mCat2 (mNth none L b) with
    | true => mPut L b none
    | false => L
/-- a local is stored: a long takes two places -/
def mSto (L : List (Option Value)) (a : Nat) (v : Value) : List (Option Value) := match mCat2 (some v) with
  | true => mPut (mPut (mBrk L a) a (some v)) (a + 1) none
  | false => mPut (mBrk L a) a (some v)
def mArgs : List Value → List (Option Value)
  | [] => []
  | v :: l => match mCat2 (some v) with
    | true => some v :: none :: mArgs l
    | false => some v :: mArgs l
def mPad : Nat → List (Option Value) → List (Option Value)
  | 0, _ => []
  | n + 1, [] => none :: mPad n []
  | n + 1, x :: l => x :: mPad n l
/-- a list, its cells laid open -/
def mF {α : Type} {β : Type} : List α → (List α → β) → β
  | [], k => k []
  | x :: l, k => mF l (fun l => k (x :: l))
/-- the topmost n of a stack, the lowest of them first, and the rest -/
def mPop : Nat → List Value → List Value → Option (List Value × List Value)
  | 0, a, S => some (a, S)
  | n + 1, a, v :: S => mPop n (v :: a) S
  | _ + 1, _, [] => none
/-- at most n words -/
def mShort : List Value → Nat → Bool
  | [], _ => true
  | v :: l, n => match mCat2 (some v), n with
    | true, n + 2 => mShort l n
    | false, n + 1 => mShort l n
    | _, _ => false
/-- what lies at a place: of the world, or of what was there before -/
def mAt (cs sh : List mSC) (a : Nat) : mSC := if a < 1000 then mNth (9, 0, []) sh a else mNth (9, 0, []) cs (a - 1000)
def mRef (n : Nat) : Value := match n with
  | 0 => .null
  | a + 1 => .ref a
def mBin (b : Nat) (x y : Int32) : Int32 := match b with
  | 0 => x + y
  | 1 => x - y
  | 2 => x * y
  | 3 => x &&& y
  | 4 => x ||| y
  | 5 => x ^^^ y
  | 6 => x <<< (y &&& 31)
  | 7 => x >>> (y &&& 31)
  | _ => (x.toUInt32 >>> (y.toUInt32 &&& Int32.toUInt32 31)).toInt32
def mBinJ (b : Nat) (x y : Int64) : Int64 := match b with
  | 0 => x + y
  | 1 => x - y
  | 2 => x * y
  | 3 => x &&& y
  | 4 => x ||| y
  | _ => x ^^^ y
def mShJ (b : Nat) (x : Int64) (y : Int32) : Int64 := match b with
  | 0 => x <<< (y.toInt64 &&& 63)
  | 1 => x >>> (y.toInt64 &&& 63)
  | _ => (x.toUInt64 >>> (y.toInt64.toUInt64 &&& Int64.toUInt64 63)).toInt64
def mCv (b : Nat) (v : Value) : Option Value := match b, v with
  | 0, .int x => some (.long x.toInt64)
  | 1, .long x => some (.int x.toInt32)
  | 2, .int x => some (.int (x.toUInt32 % 65536).toInt32)
  | 3, .int x => some (.int x.toInt8.toInt32)
  | _, _ => none
def mCc (b : Nat) (x y : Int32) : mDc := match b with
  | 0 => mDec (x = y)
  | 1 => mDec (¬ x = y)
  | 2 => mDec (x < y)
  | 3 => mDec (y ≤ x)
  | 4 => mDec (y < x)
  | _ => mDec (x ≤ y)
/-- of a method: locals, answer (0 none, 1 int, 2 long, 3 reference, 4 boolean), plain, rank, receiver's class (9: none), cells, slots, the place that it answers + 1 -/
abbrev mInf : Type := Nat × Nat × Nat × Nat × Nat × Nat × Nat × Nat
/-- the program: a method's code by pieces of 32, what is said of it, what was there before -/
abbrev mPg : Type := (Nat → List (List mOp)) × (Nat → mInf) × List mSC
def mFe (P : mPg) (y i : Nat) : mOp := mNth (99, 0, 0, 0, 0, 0, 0, [], []) (mNth [] (P.1 y) (i / 32)) (i % 32)
def mNo : mSh := .inl none
def mGo (c : mCf) : mSh := .inr (.inl ([], some c))
def mCk (q : mDc) (c : mCf) : mSh := .inr (.inl ([(q, c)], none))
/-- a switch's cases -/
def mSw (x : Int32) (k y : Nat) (L : List (Option Value)) (S : List Value) (h : mHp) : List Nat → List (mDc × mCf)
  | [] => []
  | t :: l => (mDec (x = nI k), (y, t, L, S, h)) :: mSw x (k + 1) y L S h l
/-- a row of references: the cases of its index -/
def mRw (x : Int32) (k y i : Nat) (L : List (Option Value)) (S : List Value) (h : mHp) : List Nat → List (mDc × mCf)
  | [] => []
  | r :: l => (mDec (x = nI k), (y, i, L, mRef r :: S, h)) :: mRw x (k + 1) y i L S h l
/-- the same, when one is put there -/
def mRwS (x : Int32) (j : Nat) (c : Nat → mCf) : List Nat → List (mDc × mCf)
  | [] => []
  | _ :: l => (mDec (x = nI j), c j) :: mRwS x (j + 1) c l
def mGetf (c : mSC) (ci a b o y n : Nat) (L : List (Option Value)) (S : List Value) (sh : List mSC) (M : mMI) (J : mMJ) (nc ns : Nat) : mSh :=
  match c.1 with
  | 0 => match c.2.1 == ci with
    | true => match b with
      | 0 => mGo (y, n, L, .int (M o a) :: S, sh, M, J, nc, ns)
      | _ => match mNth 0 c.2.2 a with
        | 0 => mNo
        | r + 1 => mGo (y, n, L, .ref r :: S, sh, M, J, nc, ns)
    | false => mNo
  | 7 => match ci == 8 with
    | true => match b with
      | 0 => mGo (y, n, L, .int 0 :: S, sh, M, J, nc, ns)
      | _ => match mNth 0 c.2.2 a with
        | 0 => mNo
        | r + 1 => mGo (y, n, L, .ref r :: S, sh, M, J, nc, ns)
    | false => mNo
  | _ => mNo
/-- the length of a row of ints (b = 0), of booleans or bytes; of the script by a number of its own -/
def mLenI (b : Nat) (c : mSC) (M : mMI) : Option Nat := match b with
  | 0 => match c.1 with
    | 1 => some c.2.1
    | 5 => match c.2.1 with
      | 0 => some (M 999 0).toNatClampNeg
      | n + 1 => some (n + 1)
    | _ => none
  | _ => match c.1 with
    | 3 => some c.2.1
    | 6 => some c.2.1
    | _ => none
def mLn (c : mSC) (M : mMI) : Option Int32 := match c.1 with
  | 1 => some (Int32.ofNat c.2.1)
  | 6 => some (Int32.ofNat c.2.1)
  | 5 => match c.2.1 with
    | 0 => some (M 999 0)
    | n + 1 => some (Int32.ofNat (n + 1))
  | _ => none
/-- whether a call's receiver is of the method's class -/
def mRcv (cs sh : List mSC) (c : Nat) (args : List Value) : Bool := match c with
  | 9 => true
  | 8 => match args with
    | .ref a :: _ => (mAt cs sh a).1 == 7
    | _ => false
  | c => match args with
    | .ref a :: _ => (mAt cs sh a).1 == 0 && ((mAt cs sh a).2.1 == c && Nat.blt a 999)
    | _ => false
def mEnt (P : mPg) (y : Nat) (args : List Value) (sh : List mSC) (M : mMI) (J : mMJ) : mCf := (y, 0, mPad (P.2.1 y).1 (mArgs args), [], sh, M, J, 0, 0)
/-- all references are below n, or were there before -/
def mNrO (n : Nat) : List (Option Value) → Bool
  | [] => true
  | some (.ref k) :: l => (Nat.blt k n || Nat.ble 999 k) && mNrO n l
  | _ :: l => mNrO n l
def mNrS (n : Nat) : List Value → Bool
  | [] => true
  | .ref k :: l => (Nat.blt k n || Nat.ble 999 k) && mNrS n l
  | _ :: l => mNrS n l
def mNrR (n : Nat) : List Nat → Bool
  | [] => true
  | r :: l => (Nat.ble r n || Nat.ble 1000 r) && mNrR n l
def mNrH (n : Nat) : List mSC → Bool
  | [] => true
  | c :: l => mNrR n c.2.2 && mNrH n l
def mCallK (P : mPg) (z y n : Nat) (L : List (Option Value)) (A S : List Value) (sh : List mSC) (M : mMI) (J : mMJ) (nc ns : Nat) : mSh :=
  match (P.2.1 z).2.2.1 with
    | 0 => match (P.2.1 y).2.2.1, (Nat.ble (nc + (P.2.1 z).2.2.2.2.2.1) (P.2.1 y).2.2.2.2.2.1 && Nat.ble (ns + (P.2.1 z).2.2.2.2.2.2.1) (P.2.1 y).2.2.2.2.2.2.1) && (mNrO sh.length L && mNrS sh.length S) with
      | 0, true => .inr (.inr (.inr (.inr (.inr (mEnt P z A sh M J, fun g => (y, n, L, S, g.1, g.2.1, g.2.2.1, nc + (P.2.1 z).2.2.2.2.2.1, ns + (P.2.1 z).2.2.2.2.2.2.1))))))
      | _, _ => mNo
    | _ => match (P.2.1 z).2.1 with
      | 0 => .inr (.inr (.inr (.inr (.inl (mEnt P z A sh M J, 0, fun M J => (y, n, L, S, sh, M, J, nc, ns))))))
      | 2 => .inr (.inr (.inr (.inl (mEnt P z A sh M J, fun v M J => (y, n, L, .long v :: S, sh, M, J, nc, ns)))))
      | 3 => .inr (.inr (.inr (.inr (.inl (mEnt P z A sh M J, (P.2.1 z).2.2.2.2.2.2.2, fun M J => (y, n, L, mRef (P.2.1 z).2.2.2.2.2.2.2 :: S, sh, M, J, nc, ns))))))
      | _ => .inr (.inr (.inl (mEnt P z A sh M J, fun v M J => (y, n, L, .int v :: S, sh, M, J, nc, ns))))
def mCall (P : mPg) (z w y n : Nat) (L : List (Option Value)) (S : List Value) (sh : List mSC) (M : mMI) (J : mMJ) (nc ns : Nat) : mSh :=
  match Nat.blt (P.2.1 z).2.2.2.1 (P.2.1 y).2.2.2.1, mPop w [] S with
  | true, some (A, S) => match mShort S 8 && (mRcv P.2.2 sh (P.2.1 z).2.2.2.2.1 A && Nat.ble (mArgs A).length (P.2.1 z).1) with
    | true => mCallK P z y n L A S sh M J nc ns
    | false => mNo
  | _, _ => mNo
def mZ (v : Int32) (h : mHp) : Option mRs := if v = 0 then some (some (.int 0), h) else if v = 1 then some (some (.int 1), h) else none
def mRet (r : Nat) (S : List Value) (h : mHp) : Option mRs := match r, S with
  | 0, [] => some (none, h)
  | 1, [.int v] => some (some (.int v), h)
  | 2, [.long v] => some (some (.long v), h)
  | 3, [.ref v] => some (some (.ref v), h)
  | 4, [.int v] => mZ v h
  | 5, [.int v] => if v = 0 then some (some (.int 0), h) else none
  | _, _ => none
def mZeros : Nat → List Nat
  | 0 => []
  | n + 1 => 0 :: mZeros n
/-- a cell is made: arrays (kinds 1 ints, 2 longs, 3 booleans, w long), rows of references (4, w long), objects (0, class w), with m slots -/
def mNew (P : mPg) (y n k w m : Nat) (rs : List Nat) (L : List (Option Value)) (S : List Value) (sh : List mSC) (M : mMI) (J : mMJ) (nc ns : Nat) : mSh :=
  match (Nat.blt sh.length 900 && (Nat.ble (nc + 1) (P.2.1 y).2.2.2.2.2.1 && Nat.ble (ns + m) (P.2.1 y).2.2.2.2.2.2.1)) && (mNrO sh.length L && (mNrS sh.length S && mNrH sh.length sh)) with
  | true => mGo (y, n, L, .ref sh.length :: S, sh ++ [(k, w, rs)], mSet M sh.length (fun _ => 0), mSetJ J sh.length (fun _ => 0), nc + 1, ns + m)
  | false => mNo
def mLinkO (r : Nat) (c : mSC) (k : Nat) : mSC := (c.1, c.2.1, mPut c.2.2 k (r + 1))
/-- an object of the world -/
def mObj (cs sh : List mSC) (a ci : Nat) : Bool := Nat.blt a 999 && ((mAt cs sh a).1 == 0 && (mAt cs sh a).2.1 == ci)
/-- a row of references -/
def mRowR (c : mSC) : Bool := c.1 == 4 && (c.2.2.length == c.2.1 && Nat.blt c.2.1 65536)
def mTop (on y : Nat) (L : List (Option Value)) (v : Value) (S : List Value) (sh : List mSC) (M : mMI) (J : mMJ) (nc ns : Nat) : mSh := mGo (y, on, L, v :: S, sh, M, J, nc, ns)
def mMx (b : Nat) (x y : Int32) : Int32 := match b with
  | 0 => if x < y then y else x
  | _ => if y < x then y else x
def mMxJ (x y : Int64) : Int64 := if y < x then x else y
/-- whether a value is an int (0), a long (1), a reference (2) -/
def mTyp (b : Nat) (v : Value) : Bool := match b, v with
  | 0, .int _ => true
  | 1, .long _ => true
  | 2, .ref _ => true
  | _, _ => false
/-- one instruction of a plain kind -/
def mExec (P : mPg) (ok oa ob : Nat) (oc : Int32) (od : Int64) (on : Nat) (ol : List Nat) (y : Nat) (L : List (Option Value)) (S : List Value) (sh : List mSC) (M : mMI) (J : mMJ) (nc ns : Nat) : mSh := match ok with
  | 0 => mTop on y L (.int oc) S sh M J nc ns
  | 1 => mTop on y L (.long od) S sh M J nc ns
  | 2 => match mNth none L oa with
    | some v => match mTyp ob v with
      | true => mTop on y L v S sh M J nc ns
      | false => mNo
    | none => mNo
  | 3 => match S with
    | v :: S => match mTyp ob v with
      | true => mF (mSto L oa v) (fun L => mGo (y, on, L, S, sh, M, J, nc, ns))
      | false => mNo
    | _ => mNo
  | 4 => match mNth none L oa with
    | some (.int x) => mF (mPut L oa (some (.int (x + oc)))) (fun L => mGo (y, on, L, S, sh, M, J, nc, ns))
    | _ => mNo
  | 5 => match S with
    | .int v :: .int x :: S => mTop on y L (.int (mBin ob x v)) S sh M J nc ns
    | _ => mNo
  | 6 => match S with
    | .int v :: .int x :: S => mCk (mDec (¬ v = 0)) (y, on, L, .int (x / v) :: S, sh, M, J, nc, ns)
    | _ => mNo
  | 7 => match S with
    | .int v :: .int x :: S => mCk (mDec (¬ v = 0)) (y, on, L, .int (x - x / v * v) :: S, sh, M, J, nc, ns)
    | _ => mNo
  | 8 => match S with
    | .int x :: S => mTop on y L (.int (-x)) S sh M J nc ns
    | _ => mNo
  | 9 => match S with
    | .long v :: .long x :: S => mTop on y L (.long (mBinJ ob x v)) S sh M J nc ns
    | _ => mNo
  | 10 => match S with
    | .long v :: .long x :: S => mCk (mDec (¬ v = 0)) (y, on, L, .long (x / v) :: S, sh, M, J, nc, ns)
    | _ => mNo
  | 11 => match S with
    | .int v :: .long x :: S => mTop on y L (.long (mShJ ob x v)) S sh M J nc ns
    | _ => mNo
  | 12 => match S with
    | v :: S => match mCv ob v with
      | some w => mTop on y L w S sh M J nc ns
      | none => mNo
    | _ => mNo
  | 13 => match S with
    | .long v :: .long x :: S => mTop on y L (.int (lg_cmp x v)) S sh M J nc ns
    | _ => mNo
  | 14 => match S with
    | v :: S => match mCat2 (some v) with
      | false => mTop on y L v (v :: S) sh M J nc ns
      | true => mNo
    | _ => mNo
  | 15 => match S with
    | v :: S => match mCat2 (some v) with
      | false => mGo (y, on, L, S, sh, M, J, nc, ns)
      | true => mNo
    | _ => mNo
  | 16 => mGo (y, oa, L, S, sh, M, J, nc, ns)
  | 17 => match S with
    | .int x :: S => .inr (.inl ([(mCc ob x 0, (y, oa, L, S, sh, M, J, nc, ns))], some (y, on, L, S, sh, M, J, nc, ns)))
    | _ => mNo
  | 18 => match S with
    | .int v :: .int x :: S => .inr (.inl ([(mCc ob x v, (y, oa, L, S, sh, M, J, nc, ns))], some (y, on, L, S, sh, M, J, nc, ns)))
    | _ => mNo
  | 19 => match S with
    | .int x :: S => .inr (.inl (mSw x ob y L S (sh, M, J, nc, ns) ol, some (y, oa, L, S, sh, M, J, nc, ns)))
    | _ => mNo
  | 20 => match S with
    | .ref a :: S => mGetf (mAt P.2.2 sh a) (mNth 9 ol 0) oa ob a y on L S sh M J nc ns
    | _ => mNo
  | 21 => match S with
    | .int v :: .ref a :: S => match mObj P.2.2 sh a (mNth 9 ol 0) with
      | true => mGo (y, on, L, S, sh, mUp M a oa v, J, nc, ns)
      | false => mNo
    | _ => mNo
  | 22 => mTop on y L (.ref oa) S sh M J nc ns
  | 23 => match S with
    | .int x :: .ref a :: S => match mLenI ob (mAt P.2.2 sh a) M with
      | some n => mCk (mDec (mIn x n)) (y, on, L, .int (M a x.toNatClampNeg) :: S, sh, M, J, nc, ns)
      | none => mNo
    | _ => mNo
  | 24 => match S with
    | .int x :: .ref a :: S => match (mAt P.2.2 sh a).1 with
      | 2 => mCk (mDec (mIn x (mAt P.2.2 sh a).2.1)) (y, on, L, .long (J a x.toNatClampNeg) :: S, sh, M, J, nc, ns)
      | _ => mNo
    | _ => mNo
  | 25 => match S with
    | .int x :: .ref a :: S => match mRowR (mAt P.2.2 sh a) with
      | true => .inr (.inl (mRw x 0 y on L S (sh, M, J, nc, ns) (mAt P.2.2 sh a).2.2, none))
      | false => mNo
    | _ => mNo
  | 26 => match S with
    | .int v :: .int x :: .ref a :: S => match (mAt P.2.2 sh a).1 with
      | 1 => mCk (mDec (mIn x (mAt P.2.2 sh a).2.1)) (y, on, L, S, sh, mUp M a x.toNatClampNeg v, J, nc, ns)
      | _ => mNo
    | _ => mNo
  | 27 => match S with
    | .long v :: .int x :: .ref a :: S => match (mAt P.2.2 sh a).1 with
      | 2 => mCk (mDec (mIn x (mAt P.2.2 sh a).2.1)) (y, on, L, S, sh, M, mUpJ J a x.toNatClampNeg v, nc, ns)
      | _ => mNo
    | _ => mNo
  | 29 => match S with
    | .ref a :: S => match mLn (mAt P.2.2 sh a) M with
      | some n => mTop on y L (.int n) S sh M J nc ns
      | none => mNo
    | _ => mNo
  | 33 => mCall P oa ob y on L S sh M J nc ns
  | 34 => .inl (mRet (P.2.1 y).2.1 S (sh, M, J, nc, ns))
  | 35 => match S with
    | .int n :: .int dp :: .ref d :: .int sp :: .ref a :: S => match (((mAt P.2.2 sh a).1 == 1 || ((mAt P.2.2 sh a).1 == 5 && Nat.blt 0 (mAt P.2.2 sh a).2.1)) && ((mAt P.2.2 sh d).1 == 1 && !(a == d))) && mShort S 8 with
      | true => mCk (mDec ((dp = 0 ∧ sp = 0) ∧ mIn n ((mAt P.2.2 sh a).2.1 + 1) ∧ mIn n ((mAt P.2.2 sh d).2.1 + 1))) (y, on, L, S, sh, mSet M d (va_cpy (M a) (M d) 0 0 n.toNatClampNeg), J, nc, ns)
      | false => mNo
    | _ => mNo
  | 37 => match S with
    | .ref _ :: S => match mShort S 8 with
      | true => mGo (y, on, L, S, sh, M, J, nc, ns)
      | false => mNo
    | _ => mNo
  | 39 => match S with
    | .ref a :: S => match mObj P.2.2 sh a (mNth 9 ol 0) with
      | true => mGo (y, on, L, S, sh, mUp M a oa oc, J, nc, ns)
      | false => mNo
    | _ => mNo
  | 40 => match S with
    | .int x :: .ref a :: S => match (mAt P.2.2 sh a).1 with
      | 3 => mCk (mDec (mIn x (mAt P.2.2 sh a).2.1)) (y, on, L, S, sh, mUp M a x.toNatClampNeg oc, J, nc, ns)
      | _ => mNo
    | _ => mNo
  | 41 => match S with
    | .int v :: .int x :: S => match ob, mShort S 8 with
      | 0, true => mTop on y L (.int (mMx 0 x v)) S sh M J nc ns
      | 1, true => mTop on y L (.int (mMx 1 x v)) S sh M J nc ns
      | _, _ => mNo
    | .long v :: .long x :: S => match ob, mShort S 8 with
      | 2, true => mTop on y L (.long (mMxJ x v)) S sh M J nc ns
      | _, _ => mNo
    | _ => mNo
  | _ => mNo
/-- one instruction of a maker: what it makes and links beside the plain ones -/
def mMake (P : mPg) (ok oa ob : Nat) (oc : Int32) (od : Int64) (on : Nat) (ol : List Nat) (y : Nat) (L : List (Option Value)) (S : List Value) (sh : List mSC) (M : mMI) (J : mMJ) (nc ns : Nat) : mSh := match ok with
  | 28 => match S with
    | .ref r :: .int x :: .ref a :: S => match mRowR (mAt P.2.2 sh a) && mObj P.2.2 sh r 3 with
      | true => .inr (.inl (mRwS x 0 (fun j => (y, on, L, S, mPut sh a (mLinkO r (mAt P.2.2 sh a) j), M, J, nc, ns)) (mAt P.2.2 sh a).2.2, none))
      | false => mNo
    | _ => mNo
  | 30 => mNew P y on 0 oa ob (mZeros ob) L S sh M J nc ns
  | 31 => match S with
    | .int n :: S => match decide (n = oc) with
      | true => mNew P y on oa ob ob [] L S sh M J nc ns
      | false => mNo
    | _ => mNo
  | 32 => match S with
    | .int n :: S => match decide (n = oc) with
      | true => mNew P y on 4 ob ob (mZeros ob) L S sh M J nc ns
      | false => mNo
    | _ => mNo
  | 36 => match S with
    | .ref r :: .ref a :: S => match mObj P.2.2 sh a (mNth 9 ol 0) && Nat.blt oa (mAt P.2.2 sh a).2.2.length with
      | true => mGo (y, on, L, S, mPut sh a (mLinkO r (mAt P.2.2 sh a) oa), M, J, nc, ns)
      | false => mNo
    | _ => mNo
  | 38 => match S with
    | .int v :: .ref a :: S => match mObj P.2.2 sh a (mNth 9 ol 0) with
      | true => mCk (mDec (v = 0 ∨ v = 1)) (y, on, L, S, sh, mUp M a oa v, J, nc, ns)
      | false => mNo
    | _ => mNo
  | _ => mExec P ok oa ob oc od on ol y L S sh M J nc ns
def mDo (P : mPg) (ok oa ob : Nat) (oc : Int32) (od : Int64) (on : Nat) (ol : List Nat) (y : Nat) (L : List (Option Value)) (S : List Value) (sh : List mSC) (M : mMI) (J : mMJ) (nc ns : Nat) : mSh := match (P.2.1 y).2.2.1 with
  | 0 => mMake P ok oa ob oc od on ol y L S sh M J nc ns
  | _ => mExec P ok oa ob oc od on ol y L S sh M J nc ns
def mStep (P : mPg) (c : mCf) : mSh := match c with
  | (y, i, L, S, sh, M, J, nc, ns) => match mFe P y i with
    | (ok, oa, ob, oc, od, _, on, ol, oe) => match oe with
      | [] => mDo P ok oa ob oc od on ol y L S sh M J nc ns
      | a :: l => mDo P ok oa ob oc od on ol y (mErs l (mPut L a none)) S sh M J nc ns
/-- what is dead at a cut is forgotten -/
def mClean (P : mPg) (c : mCf) : mCf := match c with
  | (y, i, L, h) => (y, i, mErs (mFe P y i).2.2.2.2.2.2.2.2 L, h)
def mEv (P : mPg) : Nat → mCf → Option mRs
  | 0, _ => none
  | n + 1, c => mApp (mStep P c) (mEv P n)
noncomputable def mOut (P : mPg) (c : mCf) : Option mRs := @dite (Option mRs) (∃ n r, mEv P n c = some r) (Classical.propDecidable _) (fun h => mEv P (Classical.choose h) c) (fun _ => none)
/-- whether a place of the code is a cut -/
def mCut (P : mPg) (c : mCf) : Bool := match c with
  | (y, i, _) => (mFe P y i).2.2.2.2.2.1 == 1
noncomputable def mDen (P : mPg) : Nat → mCf → Option mRs
  | 0, c => mOut P c
  | n + 1, c => mApp (mStep P c) (fun c => cond (mCut P c) (mOut P (mClean P c)) (mDen P n c))
