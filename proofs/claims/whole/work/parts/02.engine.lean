/-! THE ENGINE: an abstract run of bytecode over a memory of numbered cells. A reference k below 1000 is the k-th cell that the law made; from 1000 on: old cells, which nobody writes. -/
abbrev gE : Type := (FieldType × vp_A) ⊕ (Nat × List Value)
abbrev gL : Type := List (Option Value)
/-- an entry of a method's code: instruction, its length, two numbers, the place of its word in the tables, a value -/
abbrev gI : Type := Instr × Nat × Nat × Nat × Nat × Value
abbrev gS : Type := Nat × gL × List Value × List gE
/-- a method: name, bytes, locals, answer's type; size, code; arguments (with the receiver), how it is called: 0 static, 1 virtual, 2 constructor; class of the receiver -/
abbrev gR : Type := (MethodName × ByteArray × Nat × Option FieldType) × (Nat × (Nat → Option gI)) × (Nat × Nat × Nat)
def gIn (i : Int32) (n : Nat) : Bool := !decide (i < 0) && Nat.blt i.toNatClampNeg n
def gAt (O : Nat → Option gE) (M : List gE) (p : Nat) : Option gE := bif Nat.blt p 1000 then M[p]? else O (p - 1000)
def gClr (L : gL) : Nat → gL
  | 0 => L
  | j + 1 => match L[j]? with
    | some (some v) => bif Nat.beq v.category 2 then L.set j none else L
    | _ => L
def gSto (L : gL) (i : Nat) (v : Value) : gL := bif Nat.beq v.category 2 then ((gClr L i).set (i + 1) none).set i (some v) else (gClr L i).set i (some v)
def gCmp (c : ClassFile.Cond) (x y : Int32) : Bool := match c with
  | .eq => decide (x = y)
  | .ne => !decide (x = y)
  | .lt => decide (x < y)
  | .ge => decide (y ≤ x)
  | .gt => decide (y < x)
  | .le => decide (x ≤ y)
def gFits (ty : FieldType) (v : Value) : Bool := match ty with
  | .int => (match v with | .int _ => true | _ => false)
  | .long => (match v with | .long _ => true | _ => false)
  | .boolean => (match v with | .int x => decide (x = 0) || decide (x = 1) | _ => false)
  | .object _ => (match v with | .ref _ => true | .null => true | _ => false)
  | .array _ => (match v with | .ref _ => true | .null => true | _ => false)
  | _ => false
def gB2 (f : Int32 → Int32 → Int32) (pc : Nat) (L : gL) (st : List Value) (M : List gE) : Option gS := match st with
  | .int y :: .int x :: r => some (pc, L, .int (f x y) :: r, M)
  | _ => none
def gB2L (f : Int64 → Int64 → Int64) (pc : Nat) (L : gL) (st : List Value) (M : List gE) : Option gS := match st with
  | .long y :: .long x :: r => some (pc, L, .long (f x y) :: r, M)
  | _ => none
def gLdI (a pc : Nat) (L : gL) (st : List Value) (M : List gE) : Option gS := match L[a]? with
  | some (some (.int x)) => some (pc, L, .int x :: st, M)
  | _ => none
def gLdL (a pc : Nat) (L : gL) (st : List Value) (M : List gE) : Option gS := match L[a]? with
  | some (some (.long x)) => some (pc, L, .long x :: st, M)
  | _ => none
def gLdA (a pc : Nat) (L : gL) (st : List Value) (M : List gE) : Option gS := match L[a]? with
  | some (some (.ref x)) => some (pc, L, .ref x :: st, M)
  | some (some .null) => some (pc, L, .null :: st, M)
  | _ => none
def gStI (a pc : Nat) (L : gL) (st : List Value) (M : List gE) : Option gS := match st with
  | .int x :: r => bif Nat.blt a L.length then some (pc, gSto L a (.int x), r, M) else none
  | _ => none
def gStL (a pc : Nat) (L : gL) (st : List Value) (M : List gE) : Option gS := match st with
  | .long x :: r => bif Nat.blt (a + 1) L.length then some (pc, gSto L a (.long x), r, M) else none
  | _ => none
def gStA (a pc : Nat) (L : gL) (st : List Value) (M : List gE) : Option gS := match st with
  | .ref x :: r => bif Nat.blt a L.length then some (pc, gSto L a (.ref x), r, M) else none
  | .null :: r => bif Nat.blt a L.length then some (pc, gSto L a .null, r, M) else none
  | _ => none
def gSwT (pc : Nat) (d lo hi : Int) (offs : Array Int) (x : Int32) : Option Nat :=
  bif decide (x.toInt < lo) || decide (hi < x.toInt) then some ((pc : Int) + d).toNat else match offs[(x.toInt - lo).toNat]? with
    | some o => some ((pc : Int) + o).toNat
    | none => none
/-- Math.max, min, abs of ints, max of longs: 2, 3, 4, 5 -/
def gMath (d b pc : Nat) (L : gL) (st : List Value) (M : List gE) : Option gS := match b, st with
  | 2, .int y :: .int x :: r => bif Nat.blt 0 d && Nat.ble (r.map fun v => v.category).sum 8 then some (pc, L, .int (if x < y then y else x) :: r, M) else none
  | 3, .int y :: .int x :: r => bif Nat.blt 0 d && Nat.ble (r.map fun v => v.category).sum 8 then some (pc, L, .int (if y < x then y else x) :: r, M) else none
  | 4, .int x :: r => bif Nat.blt 0 d && Nat.ble (r.map fun v => v.category).sum 8 then some (pc, L, .int (if 0 ≤ x then x else 0 - x) :: r, M) else none
  | 5, .long y :: .long x :: r => bif Nat.blt 0 d && Nat.ble (r.map fun v => v.category).sum 8 then some (pc, L, .long (if y < x then x else y) :: r, M) else none
  | _, _ => none
/-- one instruction that neither calls, makes nor leaves -/
def gStep (O : Nat → Option gE) (fty : Nat → Nat → FieldType) (cn : Nat → String) (d : Nat) (e : gI) (pc : Nat) (L : gL) (st : List Value) (M : List gE) : Option gS :=
  match e.1 with
  | .iconst _ => some (pc + e.2.1, L, e.2.2.2.2.2 :: st, M)
  | .bipush _ => some (pc + e.2.1, L, e.2.2.2.2.2 :: st, M)
  | .sipush _ => some (pc + e.2.1, L, e.2.2.2.2.2 :: st, M)
  | .lconst _ => some (pc + e.2.1, L, e.2.2.2.2.2 :: st, M)
  | .ldc _ => some (pc + e.2.1, L, e.2.2.2.2.2 :: st, M)
  | .ldc_w _ => some (pc + e.2.1, L, e.2.2.2.2.2 :: st, M)
  | .ldc2_w _ => some (pc + e.2.1, L, e.2.2.2.2.2 :: st, M)
  | .getstatic _ => some (pc + e.2.1, L, e.2.2.2.2.2 :: st, M)
  | .aconst_null => some (pc + e.2.1, L, e.2.2.2.2.2 :: st, M)
  | .iload_n _ => gLdI e.2.2.1 (pc + e.2.1) L st M
  | .iload _ => gLdI e.2.2.1 (pc + e.2.1) L st M
  | .lload_n _ => gLdL e.2.2.1 (pc + e.2.1) L st M
  | .lload _ => gLdL e.2.2.1 (pc + e.2.1) L st M
  | .aload_n _ => gLdA e.2.2.1 (pc + e.2.1) L st M
  | .aload _ => gLdA e.2.2.1 (pc + e.2.1) L st M
  | .istore_n _ => gStI e.2.2.1 (pc + e.2.1) L st M
  | .istore _ => gStI e.2.2.1 (pc + e.2.1) L st M
  | .lstore_n _ => gStL e.2.2.1 (pc + e.2.1) L st M
  | .lstore _ => gStL e.2.2.1 (pc + e.2.1) L st M
  | .astore_n _ => gStA e.2.2.1 (pc + e.2.1) L st M
  | .astore _ => gStA e.2.2.1 (pc + e.2.1) L st M
  | .iinc _ _ => (match L[e.2.2.1]?, e.2.2.2.2.2 with
    | some (some (.int x)), .int c => bif Nat.blt e.2.2.1 L.length then some (pc + e.2.1, gSto L e.2.2.1 (.int (x + c)), st, M) else none
    | _, _ => none)
  | .iadd => gB2 (fun x y => x + y) (pc + e.2.1) L st M
  | .isub => gB2 (fun x y => x - y) (pc + e.2.1) L st M
  | .imul => gB2 (fun x y => x * y) (pc + e.2.1) L st M
  | .iand => gB2 (fun x y => x &&& y) (pc + e.2.1) L st M
  | .ior => gB2 (fun x y => x ||| y) (pc + e.2.1) L st M
  | .ishl => gB2 (fun x y => x <<< (y &&& 31)) (pc + e.2.1) L st M
  | .ishr => gB2 (fun x y => x >>> (y &&& 31)) (pc + e.2.1) L st M
  | .iushr => gB2 (fun x y => (x.toUInt32 >>> (y.toUInt32 &&& Int32.toUInt32 31)).toInt32) (pc + e.2.1) L st M
  | .idiv => (match st with
    | .int y :: .int x :: r => bif decide (y = 0) then none else some (pc + e.2.1, L, .int (x / y) :: r, M)
    | _ => none)
  | .irem => (match st with
    | .int y :: .int x :: r => bif decide (y = 0) then none else some (pc + e.2.1, L, .int (x - x / y * y) :: r, M)
    | _ => none)
  | .ladd => gB2L (fun x y => x + y) (pc + e.2.1) L st M
  | .lsub => gB2L (fun x y => x - y) (pc + e.2.1) L st M
  | .lmul => gB2L (fun x y => x * y) (pc + e.2.1) L st M
  | .land => gB2L (fun x y => x &&& y) (pc + e.2.1) L st M
  | .lor => gB2L (fun x y => x ||| y) (pc + e.2.1) L st M
  | .lshl => (match st with
    | .int y :: .long x :: r => some (pc + e.2.1, L, .long (x <<< (y.toInt64 &&& 63)) :: r, M)
    | _ => none)
  | .ldiv => (match st with
    | .long y :: .long x :: r => bif decide (y = 0) then none else some (pc + e.2.1, L, .long (x / y) :: r, M)
    | _ => none)
  | .lrem => (match st with
    | .long y :: .long x :: r => bif decide (y = 0) then none else some (pc + e.2.1, L, .long (x - x / y * y) :: r, M)
    | _ => none)
  | .lcmp => (match st with
    | .long y :: .long x :: r => some (pc + e.2.1, L, .int (lg_cmp x y) :: r, M)
    | _ => none)
  | .ineg => (match st with
    | .int x :: r => some (pc + e.2.1, L, .int (-x) :: r, M)
    | _ => none)
  | .i2l => (match st with
    | .int x :: r => some (pc + e.2.1, L, .long x.toInt64 :: r, M)
    | _ => none)
  | .l2i => (match st with
    | .long x :: r => some (pc + e.2.1, L, .int x.toInt32 :: r, M)
    | _ => none)
  | .i2b => (match st with
    | .int x :: r => some (pc + e.2.1, L, .int x.toInt8.toInt32 :: r, M)
    | _ => none)
  | .i2s => (match st with
    | .int x :: r => some (pc + e.2.1, L, .int x.toInt16.toInt32 :: r, M)
    | _ => none)
  | .i2c => (match st with
    | .int x :: r => some (pc + e.2.1, L, .int (x.toUInt32 % 65536).toInt32 :: r, M)
    | _ => none)
  | .dup => (match st with
    | x :: r => bif Nat.beq x.category 1 then some (pc + e.2.1, L, x :: x :: r, M) else none
    | _ => none)
  | .dup2 => (match st with
    | x :: y :: r => bif Nat.beq x.category 1 && Nat.beq y.category 1 then some (pc + e.2.1, L, x :: y :: x :: y :: r, M) else none
    | _ => none)
  | .pop => (match st with
    | x :: r => bif Nat.beq x.category 1 then some (pc + e.2.1, L, r, M) else none
    | _ => none)
  | .ifCond c _ => (match st with
    | .int x :: r => some (bif gCmp c x 0 then e.2.2.1 else pc + e.2.1, L, r, M)
    | _ => none)
  | .if_icmp c _ => (match st with
    | .int y :: .int x :: r => some (bif gCmp c x y then e.2.2.1 else pc + e.2.1, L, r, M)
    | _ => none)
  | .ifnull _ => (match st with
    | .ref q :: r => bif Nat.blt q 1000 then some (pc + e.2.1, L, r, M) else none
    | .null :: r => some (e.2.2.1, L, r, M)
    | _ => none)
  | .ifnonnull _ => (match st with
    | .ref q :: r => bif Nat.blt q 1000 then some (e.2.2.1, L, r, M) else none
    | .null :: r => some (pc + e.2.1, L, r, M)
    | _ => none)
  | .goto _ => some (e.2.2.1, L, st, M)
  | .tableswitch df lo hi offs => (match st with
    | .int x :: r => (match gSwT pc df lo hi offs x with
      | some t => some (t, L, r, M)
      | none => none)
    | _ => none)
  | .getfield _ => (match st with
    | .ref p :: r => (match gAt O M p with
      | some (.inr (ci, fs)) => bif Nat.beq ci e.2.2.1 then (match fs[e.2.2.2.1]? with
        | some v => some (pc + e.2.1, L, v :: r, M)
        | none => none) else none
      | _ => none)
    | _ => none)
  | .putfield _ => (match st with
    | v :: .ref p :: r => bif Nat.blt p 1000 then (match M[p]? with
      | some (.inr (ci, fs)) => bif Nat.beq ci e.2.2.1 && Nat.blt e.2.2.2.1 fs.length && gFits (fty ci e.2.2.2.1) v then some (pc + e.2.1, L, r, M.set p (.inr (ci, fs.set e.2.2.2.1 v))) else none
      | _ => none) else none
    | _ => none)
  | .iaload => (match st with
    | .int i :: .ref p :: r => (match gAt O M p with
      | some (.inl (.int, n, .inl f)) => bif gIn i n then some (pc + e.2.1, L, .int (f i.toNatClampNeg) :: r, M) else none
      | _ => none)
    | _ => none)
  | .baload => (match st with
    | .int i :: .ref p :: r => (match gAt O M p with
      | some (.inl (.byte, n, .inl f)) => bif gIn i n then some (pc + e.2.1, L, .int (f i.toNatClampNeg) :: r, M) else none
      | _ => none)
    | _ => none)
  | .caload => (match st with
    | .int i :: .ref p :: r => (match gAt O M p with
      | some (.inl (.char, n, .inl f)) => bif Nat.blt p 1000 && gIn i n then some (pc + e.2.1, L, .int (f i.toNatClampNeg) :: r, M) else none
      | _ => none)
    | _ => none)
  | .laload => (match st with
    | .int i :: .ref p :: r => (match M[p]? with
      | some (.inl (.long, n, .inr (.inl f))) => bif Nat.blt p 1000 && gIn i n then some (pc + e.2.1, L, .long (f i.toNatClampNeg) :: r, M) else none
      | _ => none)
    | _ => none)
  | .aaload => (match st with
    | .int i :: .ref p :: r => (match M[p]? with
      | some (.inl (.object _, n, .inr (.inr (.inr (.inr f))))) => bif Nat.blt p 1000 && gIn i n then (match f i.toNatClampNeg with
        | some q => bif Nat.blt q 1000 then some (pc + e.2.1, L, .ref q :: r, M) else none
        | none => some (pc + e.2.1, L, .null :: r, M)) else none
      | _ => none)
    | _ => none)
  | .iastore => (match st with
    | .int x :: .int i :: .ref p :: r => (match M[p]? with
      | some (.inl (.int, n, .inl f)) => bif Nat.blt p 1000 && gIn i n then some (pc + e.2.1, L, r, M.set p (.inl (.int, n, .inl (upd f i.toNatClampNeg x)))) else none
      | _ => none)
    | _ => none)
  | .bastore => (match st with
    | .int x :: .int i :: .ref p :: r => (match M[p]? with
      | some (.inl (.byte, n, .inl f)) => bif Nat.blt p 1000 && gIn i n then some (pc + e.2.1, L, r, M.set p (.inl (.byte, n, .inl (upd f i.toNatClampNeg x.toInt8.toInt32)))) else none
      | _ => none)
    | _ => none)
  | .castore => (match st with
    | .int x :: .int i :: .ref p :: r => (match M[p]? with
      | some (.inl (.char, n, .inl f)) => bif Nat.blt p 1000 && gIn i n then some (pc + e.2.1, L, r, M.set p (.inl (.char, n, .inl (upd f i.toNatClampNeg x.toUInt32.toUInt16.toUInt32.toInt32)))) else none
      | _ => none)
    | _ => none)
  | .lastore => (match st with
    | .long x :: .int i :: .ref p :: r => (match M[p]? with
      | some (.inl (.long, n, .inr (.inl f))) => bif Nat.blt p 1000 && gIn i n then some (pc + e.2.1, L, r, M.set p (.inl (.long, n, .inr (.inl (vp_updL f i.toNatClampNeg x))))) else none
      | _ => none)
    | _ => none)
  | .aastore => (match st with
    | .ref q :: .int i :: .ref p :: r => (match M[p]?, M[q]? with
      | some (.inl (.object C, n, .inr (.inr (.inr (.inr f))))), some (.inr (ci, _)) => bif Nat.blt p 1000 && Nat.blt q 1000 && gIn i n && decide (cn ci = C) then some (pc + e.2.1, L, r, M.set p (.inl (.object C, n, .inr (.inr (.inr (.inr (va_up f i.toNatClampNeg (some q)))))))) else none
      | _, _ => none)
    | _ => none)
  | .arraylength => (match st with
    | .ref p :: r => (match gAt O M p with
      | some (.inl (_, n, _)) => some (pc + e.2.1, L, .int (Int32.ofNat n) :: r, M)
      | _ => none)
    | _ => none)
  | .invokespecial _ => bif Nat.beq e.2.2.2.1 0 then (match st with
    | .ref q :: r => bif Nat.blt q 1000 && Nat.blt 0 d && Nat.ble (r.map fun v => v.category).sum 8 then some (pc + e.2.1, L, r, M) else none
    | _ => none) else none
  | .invokestatic _ => bif Nat.beq e.2.2.2.1 1 then (match st with
    | .int n :: .int dp :: .ref q :: .int sp :: .ref p :: r => (match M[p]?, M[q]? with
      | some (.inl (.int, n0, .inl f)), some (.inl (.int, n1, .inl g)) => bif Nat.blt 0 d && Nat.ble (r.map fun v => v.category).sum 8 && (Nat.blt p 1000 && Nat.blt q 1000) && !decide (sp < 0) && !decide (dp < 0) && !decide (n < 0) && Nat.ble (sp.toNatClampNeg + n.toNatClampNeg) n0 && Nat.ble (dp.toNatClampNeg + n.toNatClampNeg) n1 then
          some (pc + e.2.1, L, r, M.set q (.inl (.int, n1, .inl (va_cpy f g sp.toNatClampNeg dp.toNatClampNeg n.toNatClampNeg)))) else none
      | _, _ => none)
    | _ => none) else gMath d e.2.2.2.1 (pc + e.2.1) L st M
  | _ => none
