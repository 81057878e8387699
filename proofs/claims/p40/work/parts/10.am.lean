/-! ===== an abstract machine: one frame over numbered cells; calls by a function of smaller depth ===== -/
abbrev aC : Type := (FieldType × vp_A) ⊕ (Nat × List Value)
abbrev aHf : Type := Nat → Option aC
/-- cells by their addresses; how long the heap is; how many slots were made; two objects that statics hold (the steps; the library's access to memory) -/
abbrev aH : Type := aHf × Nat × Nat × Nat × Nat
abbrev aLs : Type := List (Option Value)
abbrev aO : Type := (Option Value) ⊕ String
abbrev aR : Type := Option (aO × aH)
abbrev aQ : Type := Nat × aLs × List Value × aH
def aup (h : aHf) (a : Nat) (c : aC) : aHf := fun q => if q = a then some c else h q
def aI (ty : FieldType) (N : Nat) (f : Nat → Int32) : aC := .inl (ty, N, .inl f)
def aL (N : Nat) (f : Nat → Int64) : aC := .inl (.long, N, .inr (.inl f))
def aP (ty : FieldType) (N : Nat) (f : Nat → Option Nat) : aC := .inl (ty, N, .inr (.inr (.inr (.inr f))))
def aB (ci : Nat) (fs : List Value) : aC := .inr (ci, fs)
/-- an int as a whole number, a long as a whole number -/
def iI (z : Int) : Int32 := Int32.ofInt z
def lI (z : Int) : Int64 := Int64.ofInt z
/-! locals -/
def ldL (ls : aLs) (i : Nat) : Option Value := match ls[i]? with
  | some (some v) => some v
  | _ => none
def klL : Option Value → Option Value
  | some (.long _) => none
  | some (.double _) => none
  | v => v
def klA (ls : aLs) : Nat → aLs
  | 0 => ls
  | j + 1 => ls.modify j klL
def stL1 (ls : aLs) (i : Nat) (v : Value) : aLs := (klA ls i).set i (some v)
def stL2 (ls : aLs) (i : Nat) (v : Value) : aLs := ((klA ls i).set i (some v)).set (i + 1) none
def stL (ls : aLs) (i : Nat) (v : Value) : Option aLs :=
  if v.category = 2 then (if i + 1 < ls.length then some (stL2 ls i v) else none) else (if i < ls.length then some (stL1 ls i v) else none)
/-- the locals of a frame that begins -/
def entA : List Value → aLs
  | [] => []
  | v :: vs => if v.category = 2 then some v :: none :: entA vs else some v :: entA vs
def entL (vs : List Value) (n : Nat) : aLs := entA vs ++ List.replicate (n - (entA vs).length) none
/-! kinds of values -/
def kI : Value → Bool | .int _ => true | _ => false
def kL : Value → Bool | .long _ => true | _ => false
def kD : Value → Bool | .double _ => true | _ => false
def kA : Value → Bool | .ref _ => true | .null => true | _ => false
/-- a field's or an answer's kind: 0 int, 1 boolean, 2 long, 3 a reference, 4 double -/
def fitK : Nat → Value → Bool
  | 0, .int _ => true
  | 1, .int x => x == 0 || x == 1
  | 2, .long _ => true
  | 3, .ref _ => true
  | 3, .null => true
  | 4, .double _ => true
  | _, _ => false
def dflK : Nat → Value
  | 2 => .long 0
  | 3 => .null
  | 4 => .double 0
  | _ => .int 0
/-! cells -/
def inB (i : Int32) (N : Nat) : Bool := !(decide (i < 0)) && decide (i.toNatClampNeg < N)
def gI (c : Option aC) (i : Int32) : Option Int32 := match c with
  | some (.inl (.int, N, .inl f)) => if inB i N then some (f i.toNatClampNeg) else none
  | some (.inl (.float, N, .inl f)) => if inB i N then some (f i.toNatClampNeg) else none
  | _ => none
def gL (c : Option aC) (i : Int32) : Option Int64 := match c with
  | some (.inl (_, N, .inr (.inl f))) => if inB i N then some (f i.toNatClampNeg) else none
  | _ => none
def gP (c : Option aC) (i : Int32) : Option Value := match c with
  | some (.inl (_, N, .inr (.inr (.inr (.inr f))))) => if inB i N then some (va_rf (f i.toNatClampNeg)) else none
  | _ => none
def gF (c : Option aC) (ci k : Nat) : Option Value := match c with
  | some (.inr (cj, fs)) => if cj = ci then fs[k]? else none
  | _ => none
def gN (c : Option aC) : Option Nat := match c with
  | some (.inl (_, N, _)) => some N
  | _ => none
def updO (f : Nat → Option Nat) (k : Nat) (x : Option Nat) : Nat → Option Nat := fun j => if j = k then x else f j
def sI (c : Option aC) (i : Int32) (x : Int32) : Option aC := match c with
  | some (.inl (.int, N, .inl f)) => if inB i N then some (aI .int N (upd f i.toNatClampNeg x)) else none
  | _ => none
def sZ (c : Option aC) (i : Int32) (x : Int32) : Option aC := match c with
  | some (.inl (.boolean, N, .inl f)) => if inB i N && (x == 0 || x == 1) then some (aI .boolean N (upd f i.toNatClampNeg x)) else none
  | _ => none
def gZ (c : Option aC) (i : Int32) : Option Int32 := match c with
  | some (.inl (.boolean, N, .inl f)) => if inB i N then some (f i.toNatClampNeg) else none
  | _ => none
def sL (c : Option aC) (i : Int32) (x : Int64) : Option aC := match c with
  | some (.inl (.long, N, .inr (.inl f))) => if inB i N then some (aL N (vp_updL f i.toNatClampNeg x)) else none
  | _ => none
def sF (c : Option aC) (ci k tc : Nat) (v : Value) : Option aC := match c with
  | some (.inr (cj, fs)) => if cj = ci ∧ k < fs.length ∧ fitK tc v = true then some (aB ci (fs.set k v)) else none
  | _ => none
/-- writes a cell; what is only read bears another type (float) -/
def wr (h : aHf) (a : Nat) (c : Option aC) : Option aHf := c.map (aup h a)
def sP (c v : Option aC) (i : Int32) (q : Nat) : Option aC := match c with
  | some (.inl (.object C, N, .inr (.inr (.inr (.inr f))))) => match v with
    | some (.inr (cj, _)) => if inB i N = true ∧ (aCl[cj]?).map (·.1) = some C then some (aP (.object C) N (updO f i.toNatClampNeg (some q))) else none
    | _ => none
  | some (.inl (.array .int, N, .inr (.inr (.inr (.inr f))))) => match v with
    | some (.inl (.int, _, .inl _)) => if inB i N then some (aP (.array .int) N (updO f i.toNatClampNeg (some q))) else none
    | _ => none
  | _ => none
/-- makes a cell of so many slots -/
def mk (H : aH) (c : aC) (s : Nat) : aH := (aup H.1 H.2.1 c, H.2.1 + 1, H.2.2.1 + s, H.2.2.2)
def mk2 (H : aH) (n c : Nat) : aH :=
  (fun q => if q = H.2.1 then some (aP (.array .int) n (fun i => if i < n then some (H.2.1 + 1 + i) else none)) else if H.2.1 < q ∧ q ≤ H.2.1 + n then some (aI .int c (fun _ => 0)) else H.1 q, H.2.1 + 1 + n, H.2.2.1 + n + n * c, H.2.2.2)
def nwA (t : ArrayType) (n : Nat) : Option aC := match t with
  | .int => some (aI .int n (fun _ => 0))
  | .long => some (aL n (fun _ => 0))
  | _ => none
/-! branches -/
def aTg (pc : Nat) (off : Int) : Option Nat := if 0 ≤ (pc : Int) + off then some ((pc : Int) + off).toNat else none
def aBr {α : Type} (c : Jvm.ClassFile.Cond) (x y : Int32) (t f : α) : α := match c with
  | .eq => if x = y then t else f
  | .ne => if x = y then f else t
  | .lt => if x < y then t else f
  | .ge => if y ≤ x then t else f
  | .gt => if y < x then t else f
  | .le => if x ≤ y then t else f
def go (pc : Nat) (ls : aLs) (st : List Value) (H : aH) : Option (aQ ⊕ (aO × aH)) := some (.inl (pc, ls, st, H))
/-! look-ups -/
def fnd3 {α : Type} (l : List (Nat × Nat × α)) (a b : Nat) : Option α := match l with
  | [] => none
  | (x, y, z) :: t => if x == a && y == b then some z else fnd3 t a b
def aRec (M : Nat) : Option aMR := aMT[M]?
def rY (r : aMR) : MethodName := r.1
def rB (r : aMR) : ByteArray := r.2.1
def rML (r : aMR) : Nat := r.2.2.1
def rRet (r : aMR) : Option FieldType := r.2.2.2.1
def rHH (r : aMR) : List (Nat × Nat × Nat × Nat) := r.2.2.2.2.1
def rNA (r : aMR) : Nat := r.2.2.2.2.2.1
def rKd (r : aMR) : Nat := r.2.2.2.2.2.2.1
def rTmp (r : aMR) : Bool := r.2.2.2.2.2.2.2.1
def rCi (r : aMR) : Nat := r.2.2.2.2.2.2.2.2.1
def rOc (r : aMR) : Nat := r.2.2.2.2.2.2.2.2.2.1
/-- how long an instruction is in its short form; 0: any length -/
def ilen : Instr → Nat
  | .tableswitch .. => 0
  | .bipush _ => 2
  | .ldc _ => 2
  | .iload _ => 2
  | .lload _ => 2
  | .dload _ => 2
  | .aload _ => 2
  | .istore _ => 2
  | .lstore _ => 2
  | .dstore _ => 2
  | .astore _ => 2
  | .newarray _ => 2
  | .sipush _ => 3
  | .ldc_w _ => 3
  | .ldc2_w _ => 3
  | .iinc .. => 3
  | .goto _ => 3
  | .ifCond .. => 3
  | .if_icmp .. => 3
  | .if_acmp .. => 3
  | .ifnull _ => 3
  | .ifnonnull _ => 3
  | .getfield _ => 3
  | .putfield _ => 3
  | .getstatic _ => 3
  | .invokevirtual _ => 3
  | .invokestatic _ => 3
  | .invokespecial _ => 3
  | .new _ => 3
  | .anewarray _ => 3
  | .multianewarray .. => 4
  | _ => 1
def mDec (M pc : Nat) : Option (Instr × Nat) := match aRec M with
  | none => none
  | some r => match decode (rB r) pc with
    | .ok q => if ilen q.1 = 0 ∨ ilen q.1 = q.2 then some q else none
    | .error _ => none
def mNm (M : Nat) : String := match aRec M with | some r => (rY r).name | none => ""
def mOc (M : Nat) : Nat := match aRec M with | some r => rOc r | none => 99
def mRet (M : Nat) : Option FieldType := match aRec M with | some r => rRet r | none => none
def mHH (M : Nat) : List (Nat × Nat × Nat × Nat) := match aRec M with | some r => rHH r | none => []
def mKd (M : Nat) : Nat := match aRec M with | some r => rKd r | none => 99
def mNA (M : Nat) : Nat := match aRec M with | some r => rNA r | none => 0
def mCi (M : Nat) : Nat := match aRec M with | some r => rCi r | none => 99
def mML (M : Nat) : Nat := match aRec M with | some r => rML r | none => 0
def mTmp (M : Nat) : Bool := match aRec M with | some r => rTmp r | none => false
/-- what a method wants of frames and of words of locals -/
def mFR (M : Nat) : Nat := (aRQ[M]?.getD (0, 0)).1
def mLO (M : Nat) : Nat := (aRQ[M]?.getD (0, 0)).2
/-- the room of a call, of a throw, of an object's first call -/
def rqC (M M' : Nat) : Bool := Nat.ble (mFR M' + 1) (mFR M) && Nat.ble (19 + mML M' + mLO M') (mLO M)
def rqT (M : Nat) : Bool := Nat.ble 6 (mFR M) && Nat.ble 82 (mLO M)
def rqP (M : Nat) : Bool := Nat.ble 1 (mFR M) && Nat.ble 20 (mLO M)
/-- a final field is written by a constructor of its own class alone -/
def finB (M ci j : Nat) : Bool := match aCl[ci]? with
  | some (C, T, _) => !(T j).2.2.2 || (mNm M == "<init>" && aON[mOc M]? == some C)
  | none => false
/-- what an answer of a type may be -/
def retK : Option FieldType → Value → Bool
  | some .int, .int _ => true
  | some .boolean, .int x => x == 0 || x == 1
  | some .long, .long _ => true
  | some .double, .double _ => true
  | some (.object _), .ref _ => true
  | some (.object _), .null => true
  | some (.array _), .ref _ => true
  | some (.array _), .null => true
  | _, _ => false
def catS (l : List Value) : Nat := (l.map fun v => v.category).sum
/-- pairs of classes: the first is none of the second -/
def aNC : List (String × String) := [("java/lang/IllegalArgumentException", "java/lang/IllegalStateException"), ("java/lang/IllegalArgumentException", "java/lang/IndexOutOfBoundsException"), ("java/lang/IllegalStateException", "java/lang/IllegalArgumentException"), ("java/lang/IllegalStateException", "java/lang/IndexOutOfBoundsException"), ("java/lang/IndexOutOfBoundsException", "java/lang/IllegalArgumentException"), ("java/lang/IndexOutOfBoundsException", "java/lang/IllegalStateException")]
/-- the handler that takes an exception of class E thrown at pc: none: not told; some none: none takes it -/
def hnd (oc : Nat) (pc : Nat) (E : String) : List (Nat × Nat × Nat × Nat) → Option (Option Nat)
  | [] => some none
  | (a, b, h, t) :: r => if a ≤ pc ∧ pc < b then (match fnd3 aCT oc t with
      | some nm => if nm.1 = E then some (some h) else if (E, nm.1) ∈ aNC then hnd oc pc E r else none
      | none => none) else hnd oc pc E r
/-- what a static holds: the two objects are told by their places -/
def gsV (H : aH) : Value → Value
  | .ref 1 => .ref H.2.2.2.1
  | .ref 2 => .ref H.2.2.2.2
  | v => v
/-! one step that calls nothing and ends nothing -/
def aS (M pc len : Nat) (i : Instr) (ls : aLs) (st : List Value) (H : aH) : Option (aQ ⊕ (aO × aH)) :=
  match i with
  | .iconst n => go (pc + len) ls (.int (Int32.ofInt n) :: st) H
  | .bipush n => go (pc + len) ls (.int (Int8.ofInt n).toInt32 :: st) H
  | .sipush n => go (pc + len) ls (.int (Int16.ofInt n).toInt32 :: st) H
  | .lconst n => go (pc + len) ls (.long (Int64.ofNat (n : Nat)) :: st) H
  | .dconst n => if n = 0 then go (pc + len) ls (.double FP.dconst0 :: st) H else none
  | .aconst_null => go (pc + len) ls (.null :: st) H
  | .ldc k => (fnd3 aIT (mOc M) k).bind fun v => go (pc + len) ls (.int v.1 :: st) H
  | .ldc_w k => (fnd3 aIT (mOc M) k).bind fun v => go (pc + len) ls (.int v.1 :: st) H
  | .ldc2_w k => (fnd3 aLT (mOc M) k).bind fun v => go (pc + len) ls (.long v.1 :: st) H
  | .iload k => (ldL ls k).bind fun v => if kI v then go (pc + len) ls (v :: st) H else none
  | .iload_n k => (ldL ls k).bind fun v => if kI v then go (pc + len) ls (v :: st) H else none
  | .lload k => (ldL ls k).bind fun v => if kL v then go (pc + len) ls (v :: st) H else none
  | .lload_n k => (ldL ls k).bind fun v => if kL v then go (pc + len) ls (v :: st) H else none
  | .dload k => (ldL ls k).bind fun v => if kD v then go (pc + len) ls (v :: st) H else none
  | .dload_n k => (ldL ls k).bind fun v => if kD v then go (pc + len) ls (v :: st) H else none
  | .aload k => (ldL ls k).bind fun v => if kA v then go (pc + len) ls (v :: st) H else none
  | .aload_n k => (ldL ls k).bind fun v => if kA v then go (pc + len) ls (v :: st) H else none
  | .istore k => match st with | v :: t => if kI v then (stL ls k v).bind fun ls => go (pc + len) ls t H else none | _ => none
  | .istore_n k => match st with | v :: t => if kI v then (stL ls k v).bind fun ls => go (pc + len) ls t H else none | _ => none
  | .lstore k => match st with | v :: t => if kL v then (stL ls k v).bind fun ls => go (pc + len) ls t H else none | _ => none
  | .lstore_n k => match st with | v :: t => if kL v then (stL ls k v).bind fun ls => go (pc + len) ls t H else none | _ => none
  | .dstore k => match st with | v :: t => if kD v then (stL ls k v).bind fun ls => go (pc + len) ls t H else none | _ => none
  | .dstore_n k => match st with | v :: t => if kD v then (stL ls k v).bind fun ls => go (pc + len) ls t H else none | _ => none
  | .astore k => match st with | v :: t => if kA v then (stL ls k v).bind fun ls => go (pc + len) ls t H else none | _ => none
  | .astore_n k => match st with | v :: t => if kA v then (stL ls k v).bind fun ls => go (pc + len) ls t H else none | _ => none
  | .iinc k n => match ldL ls k with | some (.int x) => (stL ls k (.int (x + Int32.ofInt n))).bind fun ls => go (pc + len) ls st H | _ => none
  | .iadd => match st with | .int y :: .int x :: t => go (pc + len) ls (.int (x + y) :: t) H | _ => none
  | .isub => match st with | .int y :: .int x :: t => go (pc + len) ls (.int (x - y) :: t) H | _ => none
  | .imul => match st with | .int y :: .int x :: t => go (pc + len) ls (.int (x * y) :: t) H | _ => none
  | .iand => match st with | .int y :: .int x :: t => go (pc + len) ls (.int (x &&& y) :: t) H | _ => none
  | .ior => match st with | .int y :: .int x :: t => go (pc + len) ls (.int (x ||| y) :: t) H | _ => none
  | .ixor => match st with | .int y :: .int x :: t => go (pc + len) ls (.int (x ^^^ y) :: t) H | _ => none
  | .idiv => match st with | .int y :: .int x :: t => if y = 0 then none else go (pc + len) ls (.int (x / y) :: t) H | _ => none
  | .irem => match st with | .int y :: .int x :: t => if y = 0 then none else go (pc + len) ls (.int (x - x / y * y) :: t) H | _ => none
  | .ineg => match st with | .int x :: t => go (pc + len) ls (.int (-x) :: t) H | _ => none
  | .ishl => match st with | .int y :: .int x :: t => go (pc + len) ls (.int (x <<< (y &&& 31)) :: t) H | _ => none
  | .ishr => match st with | .int y :: .int x :: t => go (pc + len) ls (.int (x >>> (y &&& 31)) :: t) H | _ => none
  | .iushr => match st with | .int y :: .int x :: t => go (pc + len) ls (.int ((x.toUInt32 >>> (y.toUInt32 &&& Int32.toUInt32 31)).toInt32) :: t) H | _ => none
  | .ladd => match st with | .long y :: .long x :: t => go (pc + len) ls (.long (x + y) :: t) H | _ => none
  | .lsub => match st with | .long y :: .long x :: t => go (pc + len) ls (.long (x - y) :: t) H | _ => none
  | .lmul => match st with | .long y :: .long x :: t => go (pc + len) ls (.long (x * y) :: t) H | _ => none
  | .land => match st with | .long y :: .long x :: t => go (pc + len) ls (.long (x &&& y) :: t) H | _ => none
  | .lor => match st with | .long y :: .long x :: t => go (pc + len) ls (.long (x ||| y) :: t) H | _ => none
  | .lxor => match st with | .long y :: .long x :: t => go (pc + len) ls (.long (x ^^^ y) :: t) H | _ => none
  | .ldiv => match st with | .long y :: .long x :: t => if y = 0 then none else go (pc + len) ls (.long (x / y) :: t) H | _ => none
  | .lshl => match st with | .int y :: .long x :: t => go (pc + len) ls (.long (x <<< (y.toInt64 &&& 63)) :: t) H | _ => none
  | .lshr => match st with | .int y :: .long x :: t => go (pc + len) ls (.long (x >>> (y.toInt64 &&& 63)) :: t) H | _ => none
  | .lushr => match st with | .int y :: .long x :: t => go (pc + len) ls (.long ((x.toUInt64 >>> (y.toInt64.toUInt64 &&& Int64.toUInt64 63)).toInt64) :: t) H | _ => none
  | .lcmp => match st with | .long y :: .long x :: t => go (pc + len) ls (.int (lg_cmp x y) :: t) H | _ => none
  | .i2l => match st with | .int x :: t => go (pc + len) ls (.long x.toInt64 :: t) H | _ => none
  | .l2i => match st with | .long x :: t => go (pc + len) ls (.int x.toInt32 :: t) H | _ => none
  | .i2d => match st with | .int x :: t => go (pc + len) ls (.double (FP.i2d x) :: t) H | _ => none
  | .ddiv => match st with | .double y :: .double x :: t => if FP.ddiv x y &&& 0x7fffffffffffffff ≤ 0x7ff0000000000000 then go (pc + len) ls (.double (FP.ddiv x y) :: t) H else none | _ => none
  | .dcmp o => match st with | .double y :: .double x :: t => go (pc + len) ls (.int (Op.cmpValue (FP.dcmp x y) o) :: t) H | _ => none
  | .dup => match st with | v :: t => if v.category = 1 then go (pc + len) ls (v :: v :: t) H else none | _ => none
  | .pop => match st with | v :: t => if v.category = 1 then go (pc + len) ls t H else none | _ => none
  | .dup2 => match st with | v :: u :: t => if v.category = 1 ∧ u.category = 1 then go (pc + len) ls (v :: u :: v :: u :: t) H else none | _ => none
  | .goto o => (aTg pc o).bind fun tg => go tg ls st H
  | .ifCond c o => match st with | .int x :: t => (aTg pc o).bind fun tg => aBr c x 0 (go tg ls t H) (go (pc + len) ls t H) | _ => none
  | .if_icmp c o => match st with | .int y :: .int x :: t => (aTg pc o).bind fun tg => aBr c x y (go tg ls t H) (go (pc + len) ls t H) | _ => none
  | .ifnull o => match st with | .ref _ :: t => go (pc + len) ls t H | .null :: t => (aTg pc o).bind fun tg => go tg ls t H | _ => none
  | .ifnonnull o => match st with | .ref _ :: t => (aTg pc o).bind fun tg => go tg ls t H | .null :: t => go (pc + len) ls t H | _ => none
  | .if_acmp .ne o => match st with | .ref b :: .ref a :: t => if (H.1 a).isSome = true ∧ (H.1 b).isSome = true then (aTg pc o).bind fun tg => if a = b then go (pc + len) ls t H else go tg ls t H else none | _ => none
  | .tableswitch df lo hi offs => match st with
    | .int x :: t => if x.toInt < lo ∨ hi < x.toInt then (aTg pc df).bind fun tg => go tg ls t H
      else (offs[(x.toInt - lo).toNat]?).bind fun o => (aTg pc o).bind fun tg => go tg ls t H
    | _ => none
  | .getfield k => match st with
    | .ref a :: t => (fnd3 aFT (mOc M) k).bind fun q => (gF (H.1 a) q.1 q.2.1).bind fun v => go (pc + len) ls (v :: t) H
    | _ => none
  | .putfield k => match st with
    | v :: .ref a :: t => (fnd3 aFT (mOc M) k).bind fun q => if finB M q.1 q.2.1 then (wr H.1 a (sF (H.1 a) q.1 q.2.1 q.2.2.1 v)).bind fun h => go (pc + len) ls t (h, H.2) else none
    | _ => none
  | .arraylength => match st with | .ref a :: t => (gN (H.1 a)).bind fun n => go (pc + len) ls (.int (nI n) :: t) H | _ => none
  | .iaload => match st with | .int j :: .ref a :: t => (gI (H.1 a) j).bind fun v => go (pc + len) ls (.int v :: t) H | _ => none
  | .laload => match st with | .int j :: .ref a :: t => (gL (H.1 a) j).bind fun v => go (pc + len) ls (.long v :: t) H | _ => none
  | .baload => match st with | .int j :: .ref a :: t => (gZ (H.1 a) j).bind fun v => go (pc + len) ls (.int v :: t) H | _ => none
  | .aaload => match st with | .int j :: .ref a :: t => (gP (H.1 a) j).bind fun v => go (pc + len) ls (v :: t) H | _ => none
  | .iastore => match st with | .int x :: .int j :: .ref a :: t => (wr H.1 a (sI (H.1 a) j x)).bind fun h => go (pc + len) ls t (h, H.2) | _ => none
  | .lastore => match st with | .long x :: .int j :: .ref a :: t => (wr H.1 a (sL (H.1 a) j x)).bind fun h => go (pc + len) ls t (h, H.2) | _ => none
  | .aastore => match st with | .ref v :: .int j :: .ref a :: t => (wr H.1 a (sP (H.1 a) (H.1 v) j v)).bind fun h => go (pc + len) ls t (h, H.2) | _ => none
  | .newarray ty => match st with | .int c :: t => if c < 0 ∨ 60000000 < c.toNatClampNeg then none else (nwA ty c.toNatClampNeg).bind fun x => go (pc + len) ls (.ref H.2.1 :: t) (mk H x c.toNatClampNeg) | _ => none
  | .anewarray k => match st with | .int c :: t => if c < 0 ∨ 60000000 < c.toNatClampNeg then none else (fnd3 aAT (mOc M) k).bind fun C => go (pc + len) ls (.ref H.2.1 :: t) (mk H (aP (.object C.1) c.toNatClampNeg (fun _ => none)) c.toNatClampNeg) | _ => none
  | .getstatic k => (fnd3 aGT (mOc M) k).bind fun v => go (pc + len) ls (gsV H v.1 :: st) H
  | .bastore => match st with | .int x :: .int j :: .ref a :: t => (wr H.1 a (sZ (H.1 a) j x)).bind fun h => go (pc + len) ls t (h, H.2) | _ => none
  | _ => none
/-! calls -/
def aArgs (n : Nat) (st : List Value) : Option (List Value × List Value) := if n ≤ st.length then some ((st.take n).reverse, st.drop n) else none
/-- arraycopy -/
def isIA (c : Option aC) : Bool := match c with
  | some (.inl (.int, _, .inl _)) => true
  | _ => false
def cpC (h : aHf) (s d : Option aC) (sp dp n : Int32) : Option aC := match s, d with
  | some (.inl (.int, N, .inl f)), some (.inl (.int, K, .inl g)) => if sp < 0 ∨ dp < 0 ∨ n < 0 ∨ N < sp.toNatClampNeg + n.toNatClampNeg ∨ K < dp.toNatClampNeg + n.toNatClampNeg then none
      else some (aI .int K (va_cpy f g sp.toNatClampNeg dp.toNatClampNeg n.toNatClampNeg))
  | some (.inl (.array .int, N, .inr (.inr (.inr (.inr f))))), some (.inl (.array .int, K, .inr (.inr (.inr (.inr g))))) => if sp < 0 ∨ dp < 0 ∨ n < 0 ∨ N < sp.toNatClampNeg + n.toNatClampNeg ∨ K < dp.toNatClampNeg + n.toNatClampNeg ∨ ((List.range n.toNatClampNeg).all fun i => match f (sp.toNatClampNeg + i) with | some y => isIA (h y) | none => true) = false then none
      else some (aP (.array .int) K (va_cpy f g sp.toNatClampNeg dp.toNatClampNeg n.toNatClampNeg))
  | _, _ => none
/-- two ints as a long -/
def lJ (lo hi : Int32) : Int64 := (lo.toUInt32.toNat + hi.toUInt32.toNat * 4294967296).toUInt64.toInt64
def pGL (c : Option aC) (off : Int64) : Option Int64 := match c with
  | some (.inl (.int, N, .inl f)) => if 16 ≤ off.toInt ∧ off.toInt % 8 = 0 ∧ ((off.toInt - 16) / 4).toNat + 1 < N then some (lJ (f ((off.toInt - 16) / 4).toNat) (f (((off.toInt - 16) / 4).toNat + 1))) else none
  | _ => none
/-- the receiver's class -/
def recv (kd ci : Nat) (as : List Value) (H : aH) : Bool := match kd with
  | 1 => true
  | 2 => match as with | .ref _ :: _ => true | _ => false
  | _ => match as with
    | .ref a :: _ => if ci = 11 then false else (match H.1 a with
      | some (.inr (cj, _)) => cj == ci
      | _ => false)
    | _ => false
/-- what the library does without bytes -/
def aPrim (p : Nat) (as : List Value) (H : aH) : aR := match p, as with
  | 1000, [.ref _] => some (.inl none, H)
  | _, _ => none
def pNA (p : Nat) : Nat := match p with | 1000 => 1 | 1001 => 5 | 1002 => 3 | _ => 0
def pKd (p : Nat) : Nat := match p with | 1000 => 2 | 1001 => 1 | 1002 => 0 | _ => 99
/-- what is done with a callee's end -/
def aBack (M pc : Nat) (ls : aLs) (rest : List Value) (x : aR) : Option (aQ ⊕ (aO × aH)) := match x with
  | none => none
  | some (.inl v, H) => go (pc + 3) ls (v.toList ++ rest) H
  | some (.inr E, H) => match hnd (mOc M) pc E (mHH M) with
    | none => none
    | some (some hp) => match mDec M hp with
      | some (.astore k, len) => if k < ls.length then go (hp + len) ((klA ls k).set k none) [] H else none
      | some (.astore_n k, len) => if (k : Nat) < ls.length then go (hp + len) ((klA ls k).set k none) [] H else none
      | _ => none
    | some none => if mHH M = [] then some (.inr (.inr E, H)) else none
def aCall (EE : Nat → List Value → aH → aR) (M pc kd k : Nat) (ls : aLs) (st : List Value) (H : aH) : Option (aQ ⊕ (aO × aH)) :=
  match fnd3 aKT (mOc M) k with
  | none => none
  | some q =>
    if 1000 ≤ q.1 then
      (if pKd q.1 = kd ∧ rqP M = true then (aArgs (pNA q.1) st).bind fun a => if catS a.2 ≤ 8 then aBack M pc ls a.2 (aPrim q.1 a.1 H) else none else none)
    else
      (if mKd q.1 = kd ∧ rqC M q.1 = true then (aArgs (mNA q.1 + (if kd = 1 then 0 else 1)) st).bind fun a => if catS a.2 ≤ 8 ∧ recv kd (mCi q.1) a.1 H = true then aBack M pc ls a.2 (EE q.1 a.1 H) else none else none)
def aAct2 (EE : Nat → List Value → aH → aR) (d M pc : Nat) (ls : aLs) (st : List Value) (H : aH) (il : Instr × Nat) : Option (aQ ⊕ (aO × aH)) :=
  match il with
  | (.invokevirtual k, _) => aCall EE M pc 0 k ls st H
  | (.invokestatic k, _) => aCall EE M pc 1 k ls st H
  | (.invokespecial k, _) => aCall EE M pc 2 k ls st H
  | (.ireturn, _) => match st with | [v] => if kI v && retK (mRet M) v then some (.inr (.inl (some v), H)) else none | _ => none
  | (.lreturn, _) => match st with | [v] => if kL v && retK (mRet M) v then some (.inr (.inl (some v), H)) else none | _ => none
  | (.dreturn, _) => match st with | [v] => if kD v && retK (mRet M) v then some (.inr (.inl (some v), H)) else none | _ => none
  | (.areturn, _) => match st with | [v] => if kA v && retK (mRet M) v then some (.inr (.inl (some v), H)) else none | _ => none
  | (.return_, _) => match st with | [] => if (mRet M).isNone then some (.inr (.inl none, H)) else none | _ => none
  | (.new k, len) => match fnd3 aXT M pc with
    | some x => match st with | [] => if 8 ≤ d ∧ rqT M = true then some (.inr (.inr x.1, (H.1, H.2.1 + 1, H.2.2.1 + 6, H.2.2.2))) else none | _ => none
    | none => (fnd3 aNT (mOc M) k).bind fun q => (aFK[q.1]?).bind fun ks => go (pc + len) ls (.ref H.2.1 :: st) (mk H (aB q.1 (ks.map dflK)) ks.length)
  | (i, len) => aS M pc len i ls st H
def aAct (EE : Nat → List Value → aH → aR) (d M pc : Nat) (ls : aLs) (st : List Value) (H : aH) : Option (aQ ⊕ (aO × aH)) :=
  match mDec M pc with
  | none => none
  | some il => aAct2 EE d M pc ls st H il
def aRun (EE : Nat → List Value → aH → aR) (d M : Nat) : Nat → Nat → aLs → List Value → aH → aR
  | 0, _, _, _, _ => none
  | f + 1, pc, ls, st, H => match aAct EE d M pc ls st H with
    | none => none
    | some (.inr x) => some x
    | some (.inl q) => aRun EE d M f q.1 q.2.1 q.2.2.1 q.2.2.2
noncomputable def aLim (g : Nat → aR) : aR := @dite _ (∃ f, (g f).isSome = true) (Classical.propDecidable _) (fun h => g (Classical.choose h)) (fun _ => none)
/-- a method whose cells die with it -/
def aFin (tmp : Bool) (H : aH) (x : aR) : aR := if tmp then (match x with
    | some (o, H') => some (o, (fun q => if q < H.2.1 then H'.1 q else H.1 q, H'.2))
    | none => none) else x
noncomputable def aE : Nat → Nat → List Value → aH → aR
  | 0, _, _, _ => none
  | d + 1, M, as, H => if (entA as).length ≤ mML M then aFin (mTmp M) H (aLim fun f => aRun (aE d) d M f 0 (entL as (mML M)) [] H) else none
noncomputable def L (d M pc : Nat) (ls : aLs) (st : List Value) (H : aH) : aR := aLim fun f => aRun (aE d) d M f pc ls st H
theorem aRun_mono {EE : Nat → List Value → aH → aR} {d M : Nat} {x : aO × aH} : ∀ (f pc : Nat) (ls : aLs) (st : List Value) (H : aH), aRun EE d M f pc ls st H = some x → aRun EE d M (f + 1) pc ls st H = some x := by
  intro f
  induction f with
  | zero => intro pc ls st H h; cases h
  | succ f ih =>
    intro pc ls st H h
    rw [aRun] at h ⊢
    cases ha : aAct EE d M pc ls st H with
    | none => rw [ha] at h; exact absurd h (by simp)
    | some y =>
      rw [ha] at h
      cases y with
      | inl q => exact ih _ _ _ _ h
      | inr r => exact h
theorem aRun_le {EE : Nat → List Value → aH → aR} {d M : Nat} {x : aO × aH} {f g : Nat} (hfg : f ≤ g) {pc : Nat} {ls : aLs} {st : List Value} {H : aH} (h : aRun EE d M f pc ls st H = some x) : aRun EE d M g pc ls st H = some x := by
  induction hfg with
  | refl => exact h
  | step _ ih => exact aRun_mono _ _ _ _ _ ih
theorem aLim_some {g : Nat → aR} (hm : ∀ f f' x, f ≤ f' → g f = some x → g f' = some x) {x : aO × aH} : aLim g = some x ↔ ∃ f, g f = some x := by
  unfold aLim
  by_cases h : ∃ f, (g f).isSome = true
  · rw [dif_pos h]
    constructor
    · intro e; exact ⟨_, e⟩
    · rintro ⟨f, e⟩
      have hc := Classical.choose_spec h
      obtain ⟨y, hy⟩ := Option.isSome_iff_exists.mp hc
      rcases Nat.le_total f (Classical.choose h) with q | q
      · exact hm _ _ _ q e
      · have := hm _ _ _ q hy
        rw [e] at this
        rw [hy]; exact this.symm
  · rw [dif_neg h]
    constructor
    · intro e; cases e
    · rintro ⟨f, e⟩; exact absurd ⟨f, by rw [e]; rfl⟩ h
theorem L_some {d M pc : Nat} {ls : aLs} {st : List Value} {H : aH} {x : aO × aH} : L d M pc ls st H = some x ↔ ∃ f, aRun (aE d) d M f pc ls st H = some x :=
  aLim_some (fun _ _ _ hf h => aRun_le hf h)
theorem L_eq (d M pc : Nat) (ls : aLs) (st : List Value) (H : aH) : L d M pc ls st H = (match aAct (aE d) d M pc ls st H with
    | none => none
    | some (.inr x) => some x
    | some (.inl q) => L d M q.1 q.2.1 q.2.2.1 q.2.2.2) := by
  apply Option.ext
  intro x
  rw [L_some]
  constructor
  · rintro ⟨f, h⟩
    cases f with
    | zero => cases h
    | succ f =>
      rw [aRun] at h
      cases ha : aAct (aE d) d M pc ls st H with
      | none => rw [ha] at h; cases h
      | some y =>
        rw [ha] at h
        cases y with
        | inl q => exact L_some.mpr ⟨f, h⟩
        | inr r => exact h
  · intro h
    cases ha : aAct (aE d) d M pc ls st H with
    | none => rw [ha] at h; cases h
    | some y =>
      rw [ha] at h
      cases y with
      | inl q =>
        obtain ⟨f, hf⟩ := L_some.mp h
        refine ⟨f + 1, ?_⟩
        rw [aRun, ha]
        exact hf
      | inr r => exact ⟨1, by rw [aRun, ha]; exact h⟩
theorem L_next {d M pc pc' : Nat} {ls ls' : aLs} {st st' : List Value} {H H' : aH} (h : aAct (aE d) d M pc ls st H = go pc' ls' st' H') : L d M pc ls st H = L d M pc' ls' st' H' := by
  rw [L_eq, h]; rfl
theorem aE_succ (d M : Nat) (as : List Value) (H : aH) : aE (d + 1) M as H = if (entA as).length ≤ mML M then aFin (mTmp M) H (L d M 0 (entL as (mML M)) [] H) else none := rfl
