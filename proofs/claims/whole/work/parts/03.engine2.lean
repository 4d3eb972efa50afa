/-- leaving: the answer -/
def gRet (e : gI) (ret : Option FieldType) (st : List Value) : Option (Option Value) := match e.1 with
  | .ireturn => (match st with
    | [.int x] => (match ret with
      | some .int => some (some (.int x))
      | some .boolean => bif decide (x = 0) || decide (x = 1) then some (some (.int x)) else none
      | some .char => bif decide (vp_nar .char x = x) then some (some (.int x)) else none
      | some .byte => bif decide (vp_nar .byte x = x) then some (some (.int x)) else none
      | _ => none)
    | _ => none)
  | .lreturn => (match st with
    | [.long x] => (match ret with
      | some .long => some (some (.long x))
      | _ => none)
    | _ => none)
  | .areturn => (match ret with
    | some (.object _) => (match st with
      | [.ref x] => some (some (.ref x))
      | [.null] => some (some .null)
      | _ => none)
    | some (.array _) => (match st with
      | [.ref x] => some (some (.ref x))
      | [.null] => some (some .null)
      | _ => none)
    | _ => none)
  | .return_ => (match st with
    | [] => (match ret with
      | none => some none
      | _ => none)
    | _ => none)
  | _ => none
/-- making: the new cell, the rest of the stack, its slots -/
def gNew (cn : Nat → String) (df : Nat → List Value) (e : gI) (st : List Value) (M : List gE) : Option (gE × List Value × Nat) := bif Nat.blt M.length 1000 then (match e.1 with
  | .new _ => some (.inr (e.2.2.1, df e.2.2.1), st, (df e.2.2.1).length)
  | .newarray t => (match st with
    | .int n :: r => bif !decide (n < 0) && Nat.ble n.toNatClampNeg 100000 then (match t with
      | .int => some (.inl (.int, n.toNatClampNeg, .inl (fun _ => 0)), r, n.toNatClampNeg)
      | .byte => some (.inl (.byte, n.toNatClampNeg, .inl (fun _ => 0)), r, n.toNatClampNeg)
      | .char => some (.inl (.char, n.toNatClampNeg, .inl (fun _ => 0)), r, n.toNatClampNeg)
      | .long => some (.inl (.long, n.toNatClampNeg, .inr (.inl (fun _ => 0))), r, n.toNatClampNeg)
      | _ => none) else none
    | _ => none)
  | .anewarray _ => (match st with
    | .int n :: r => bif !decide (n < 0) && Nat.ble n.toNatClampNeg 100000 then some (.inl (.object (cn e.2.2.1), n.toNatClampNeg, .inr (.inr (.inr (.inr (fun _ => none))))), r, n.toNatClampNeg) else none
    | _ => none)
  | _ => none) else none
def gIsCal (e : gI) : Bool := match e.1 with
  | .invokestatic _ => Nat.beq e.2.2.2.1 0
  | .invokevirtual _ => true
  | .invokespecial _ => Nat.beq e.2.2.2.1 1 || Nat.beq e.2.2.2.1 2
  | _ => false
def gRecv (O : Nat → Option gE) (r : gR) (vals : List Value) (M : List gE) : Bool := match r.2.2.2.1 with
  | 0 => true
  | 1 => (match vals with
    | .ref p :: _ => (match gAt O M p with
      | some (.inr (ci, _)) => Nat.beq ci r.2.2.2.2
      | _ => false)
    | _ => false)
  | _ => (match vals with
    | .ref p :: _ => Nat.blt p 1000
    | _ => false)
def gArgs : List Value → gL
  | [] => []
  | v :: vs => bif Nat.beq v.category 2 then some v :: none :: gArgs vs else some v :: gArgs vs
def gIni (n : Nat) (vals : List Value) : gL := gArgs vals ++ List.replicate (n - (gArgs vals).length) none
/-- calling: the method, its arguments, the rest of the stack -/
def gCal (O : Nat → Option gE) (tb : Nat → Option gR) (e : gI) (st : List Value) (M : List gE) : Option (gR × List Value × List Value) := bif gIsCal e then (match tb e.2.2.1 with
  | some r => bif Nat.ble r.2.2.1 st.length && Nat.ble ((st.drop r.2.2.1).map fun v => v.category).sum 8 && gRecv O r (st.take r.2.2.1).reverse M && Nat.ble (gArgs (st.take r.2.2.1).reverse).length r.1.2.2.1 then some (r, (st.take r.2.2.1).reverse, st.drop r.2.2.1) else none
  | none => none) else none
def gFe (r : gR) (pc : Nat) : Option gI := bif Nat.blt pc r.2.1.1 then r.2.1.2 pc else none
/-- THE RUN: of at most n steps, of at most d calls in one another: the answer, the memory behind, cells made, slots made -/
def gEv (O : Nat → Option gE) (fty : Nat → Nat → FieldType) (cn : Nat → String) (df : Nat → List Value) (tb : Nat → Option gR) : Nat → Nat → gR → Nat → gL → List Value → List gE → Option (Option Value × List gE × Nat × Nat)
  | 0, _, _, _, _, _, _ => none
  | n + 1, d, r, pc, L, st, M => match gFe r pc with
    | none => none
    | some e => match gStep O fty cn d e pc L st M with
      | some (pc', L', st', M') => gEv O fty cn df tb n d r pc' L' st' M'
      | none => match gRet e r.1.2.2.2 st with
        | some v => some (v, M, 0, 0)
        | none => match gNew cn df e st M with
          | some (c, st', k) => (match gEv O fty cn df tb n d r (pc + e.2.1) L (.ref M.length :: st') (M ++ [c]) with
            | some (v, M', x, y) => some (v, M', x + 1, y + k)
            | none => none)
          | none => match gCal O tb e st M with
            | none => none
            | some (r', vals, rest) => match d with
              | 0 => none
              | d' + 1 => match gEv O fty cn df tb n d' r' 0 (gIni r'.1.2.2.1 vals) [] M with
                | none => none
                | some (v1, M1, x1, y1) => match gEv O fty cn df tb n (d' + 1) r (pc + 3) L (v1.toList ++ rest) M1 with
                  | none => none
                  | some (v, M', x, y) => some (v, M', x1 + x, y1 + y)
/-! what a method's table must be: checked by program, method by method -/
def gWd (w : Nat) (c : Jvm.Cond) : Bool := decide (lw_tbl[w]? = some c) && goodWord c
/-- the tables' side of a check: classes, statics (class, name, descriptor, value), String constants (class, place, text, value), words of nest mates, old objects' fields -/
abbrev gT : Type := List vw_C × List (String × String × String × Value) × List (String × Nat × String × Nat) × List (String × Nat × String × String × String × String) × List (String × Nat × MethodName × String) × List (String × String × String) × List String
def gChk (tt : gT) (fty : Nat → Nat → FieldType) (cn : Nat → String) (tb : Nat → Option gR) (x : MethodName) (bytes : ByteArray) (pc : Nat) (e : gI) : Bool :=
  decide (decode bytes pc = .ok (e.1, e.2.1)) && (match e.1 with
  | .iconst n => decide (e.2.2.2.2.2 = .int (Int32.ofInt n)) && Nat.beq e.2.1 1
  | .bipush n => decide (e.2.2.2.2.2 = .int (Int8.ofInt n).toInt32) && Nat.beq e.2.1 2
  | .sipush n => decide (e.2.2.2.2.2 = .int (Int16.ofInt n).toInt32) && Nat.beq e.2.1 3
  | .lconst n => decide (e.2.2.2.2.2 = .long (Int64.ofNat (n : Nat))) && Nat.beq e.2.1 1
  | .ldc i => Nat.beq e.2.1 2 && (match e.2.2.2.2.2 with
    | .int v => gWd e.2.2.2.2.1 (.constant x.cls i v)
    | .ref k => (match tt.2.2.1[e.2.2.2.2.1]? with
      | some q => decide (q.1 = x.cls) && Nat.beq q.2.1 i && Nat.beq q.2.2.2 k && Nat.beq 1000 1000
      | none => false)
    | _ => false)
  | .ldc_w i => Nat.beq e.2.1 3 && (match e.2.2.2.2.2 with
    | .int v => gWd e.2.2.2.2.1 (.constant x.cls i v)
    | _ => false)
  | .ldc2_w i => Nat.beq e.2.1 3 && (match e.2.2.2.2.2 with
    | .long v => gWd e.2.2.2.2.1 (.constantLong x.cls i v)
    | _ => false)
  | .getstatic i => Nat.beq e.2.1 3 && (match tt.2.1[e.2.2.1]? with
    | some q => decide (q.2.2.2 = e.2.2.2.2.2) && (bif Nat.beq e.2.2.2.1 0 then gWd e.2.2.2.2.1 (.fieldLink x.cls i q.1 q.2.1 q.2.2.1) else (match tt.2.2.2.1[e.2.2.2.2.1]? with
      | some z => decide (z.1 = x.cls) && Nat.beq z.2.1 i && decide (z.2.2.1 = q.1) && decide (z.2.2.2.1 = q.2.1) && decide (z.2.2.2.2.1 = q.2.2.1)
      | none => false))
    | none => false)
  | .aconst_null => decide (e.2.2.2.2.2 = .null) && Nat.beq e.2.1 1
  | .iload_n k => Nat.beq e.2.2.1 k.val && Nat.beq e.2.1 1
  | .iload k => Nat.beq e.2.2.1 k && Nat.beq e.2.1 2
  | .lload_n k => Nat.beq e.2.2.1 k.val && Nat.beq e.2.1 1
  | .lload k => Nat.beq e.2.2.1 k && Nat.beq e.2.1 2
  | .aload_n k => Nat.beq e.2.2.1 k.val && Nat.beq e.2.1 1
  | .aload k => Nat.beq e.2.2.1 k && Nat.beq e.2.1 2
  | .istore_n k => Nat.beq e.2.2.1 k.val && Nat.beq e.2.1 1
  | .istore k => Nat.beq e.2.2.1 k && Nat.beq e.2.1 2
  | .lstore_n k => Nat.beq e.2.2.1 k.val && Nat.beq e.2.1 1
  | .lstore k => Nat.beq e.2.2.1 k && Nat.beq e.2.1 2
  | .astore_n k => Nat.beq e.2.2.1 k.val && Nat.beq e.2.1 1
  | .astore k => Nat.beq e.2.2.1 k && Nat.beq e.2.1 2
  | .iinc k c => Nat.beq e.2.2.1 k && Nat.beq e.2.1 3 && decide (e.2.2.2.2.2 = .int (Int32.ofInt c))
  | .ifCond _ off => Nat.beq e.2.1 3 && decide ((pc : Int) + off = (e.2.2.1 : Int))
  | .if_icmp _ off => Nat.beq e.2.1 3 && decide ((pc : Int) + off = (e.2.2.1 : Int))
  | .ifnull off => Nat.beq e.2.1 3 && decide ((pc : Int) + off = (e.2.2.1 : Int))
  | .ifnonnull off => Nat.beq e.2.1 3 && decide ((pc : Int) + off = (e.2.2.1 : Int))
  | .goto off => Nat.beq e.2.1 3 && decide ((pc : Int) + off = (e.2.2.1 : Int))
  | .tableswitch df _ _ offs => decide (0 ≤ (pc : Int) + df) && offs.toList.all (fun o => decide (0 ≤ (pc : Int) + o))
  | .getfield i => Nat.beq e.2.1 3 && (bif Nat.blt e.2.2.1 tt.1.length then (match tt.1[e.2.2.1]? with
      | some q => Nat.blt e.2.2.2.1 q.2.2 && gWd e.2.2.2.2.1 (.fieldLink x.cls i (q.2.1 e.2.2.2.1).1 (q.2.1 e.2.2.2.1).2.1 (q.2.1 e.2.2.2.1).2.2.1)
      | none => false) else (match tt.2.2.2.2.2.1[e.2.2.2.1]? with
      | some q => gWd e.2.2.2.2.1 (.fieldLink x.cls i q.1 q.2.1 q.2.2)
      | none => false))
  | .putfield i => Nat.beq e.2.1 3 && (match tt.1[e.2.2.1]? with
      | some q => Nat.blt e.2.2.2.1 q.2.2 && gWd e.2.2.2.2.1 (.fieldLink x.cls i (q.2.1 e.2.2.2.1).1 (q.2.1 e.2.2.2.1).2.1 (q.2.1 e.2.2.2.1).2.2.1) && (!(q.2.1 e.2.2.2.1).2.2.2 || (decide (x.name = "<init>") && decide ((q.2.1 e.2.2.2.1).1 = x.cls)))
      | none => false)
  | .new i => Nat.beq e.2.1 3 && Nat.blt e.2.2.1 tt.1.length && gWd e.2.2.2.2.1 (.classLink x.cls i (cn e.2.2.1))
  | .newarray t => Nat.beq e.2.1 2 && gWd e.2.2.2.2.1 (.arrayClass (newarray.typeOf t))
  | .anewarray i => Nat.beq e.2.1 3 && gWd e.2.2.2.2.1 (.classLink x.cls i (cn e.2.2.1)) && decide (cn e.2.2.1 ∈ tt.2.2.2.2.2.2)
  | .invokestatic i => Nat.beq e.2.1 3 && (bif Nat.beq e.2.2.2.1 0 then (match tb e.2.2.1 with
      | some r => gWd e.2.2.2.2.1 (.methodLink x.cls i r.1.1) && Nat.beq r.2.2.2.1 0
      | none => false) else bif Nat.beq e.2.2.2.1 1 then gWd e.2.2.2.2.1 (.methodLink x.cls i arraycopyName) else bif Nat.beq e.2.2.2.1 2 then gWd e.2.2.2.2.1 (.methodLink x.cls i Lib.Math.max.name) else bif Nat.beq e.2.2.2.1 3 then gWd e.2.2.2.2.1 (.methodLink x.cls i Lib.Math.min.name) else bif Nat.beq e.2.2.2.1 4 then gWd e.2.2.2.2.1 (.methodLink x.cls i Lib.Math.abs.name) else Nat.beq e.2.2.2.1 5 && gWd e.2.2.2.2.1 (.methodLink x.cls i Lib.MathLoose.max_long.x))
  | .invokevirtual i => Nat.beq e.2.1 3 && (match tb e.2.2.1 with
      | some r => gWd e.2.2.2.2.1 (.methodLink x.cls i r.1.1) && Nat.beq r.2.2.2.1 1
      | none => false)
  | .invokespecial i => Nat.beq e.2.1 3 && (bif Nat.beq e.2.2.2.1 0 then gWd e.2.2.2.2.1 (.methodLink x.cls i objectInit) else (match tb e.2.2.1 with
      | some r => Nat.beq r.2.2.2.1 2 && (bif Nat.beq e.2.2.2.1 1 then gWd e.2.2.2.2.1 (.methodLink x.cls i r.1.1) else (match tt.2.2.2.2.1[e.2.2.2.2.1]? with
        | some z => decide (z.1 = x.cls) && Nat.beq z.2.1 i && decide (z.2.2.1 = r.1.1)
        | none => false))
      | none => false))
  | _ => Nat.beq e.2.1 1)
/-- a method's own words: their places -/
def gMet (tt : gT) (cn : Nat → String) (r : gR) (w : Nat × Nat × Nat × Nat) : Bool :=
  gWd w.2.1 (.initialized r.1.1.cls) && plainName r.1.1.cls && Nat.ble r.1.2.2.1 18 &&
  decide (r.1.1.cls ≠ "java/lang/invoke/MethodHandle") && decide (r.1.1.cls ≠ "java/lang/invoke/VarHandle") && (match r.2.2.2.1 with
  | 0 => gWd w.2.2.1 (.static r.1.1) && decide ((parseMethodDescriptor r.1.1.desc).map (fun d => d.parameters.length) = some r.2.2.1)
  | 1 => gWd w.2.2.1 (.instanceMethod r.1.1) && gWd w.2.2.2 (.selects r.1.1.cls r.1.1 r.1.1) && decide (cn r.2.2.2.2 = r.1.1.cls) && decide ((parseMethodDescriptor r.1.1.desc).map (fun d => d.parameters.length + 1) = some r.2.2.1)
  | _ => gWd w.2.2.1 (.instanceMethod r.1.1) && decide (r.1.1.name = "<init>") && decide (r.1.2.2.2 = none) && decide ((parseMethodDescriptor r.1.1.desc).map (fun d => d.parameters.length + 1) = some r.2.2.1))
def gCode (tt : gT) (fty : Nat → Nat → FieldType) (cn : Nat → String) (tb : Nat → Option gR) (r : gR) : Bool :=
  (List.range r.2.1.1).all fun pc => match r.2.1.2 pc with
    | none => true
    | some e => gChk tt fty cn tb r.1.1 r.1.2.1 pc e
def gCls (tt : gT) (fty : Nat → Nat → FieldType) (cn : Nat → String) (df : Nat → List Value) (ci : Nat) : Bool := match tt.1[ci]? with
  | none => false
  | some q => (u_ws q.1 q.2.1 q.2.2).all (fun w => decide (w ∈ lw_tbl) && goodWord w) && decide (Jvm.Cond.instantiable q.1 q.2.2 ∈ lw_tbl) && decide (Jvm.Cond.initialized q.1 ∈ lw_tbl) && decide (cn ci = q.1) && Nat.beq (df ci).length q.2.2 &&
    (List.range q.2.2).all (fun k => decide (parseFieldDescriptor (q.2.1 k).2.2.1 = some (fty ci k)) && decide ((df ci)[k]? = some (defaultValue (fty ci k)))) &&
    (List.range q.2.2).all (fun a => (List.range q.2.2).all fun b => Nat.beq a b || decide ((q.2.1 a).2.1 ≠ (q.2.1 b).2.1))
