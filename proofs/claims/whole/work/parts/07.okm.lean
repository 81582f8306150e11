/-! an instruction's length, its operand against the links -/
def xokI (own nL pc : Nat) (i : Instr) (len op : Nat) : Bool := match i with
  | .aload _ => Nat.beq len 2
  | .iload _ => Nat.beq len 2
  | .lload _ => Nat.beq len 2
  | .istore n => Nat.beq len 2 && Nat.blt n nL
  | .astore n => Nat.beq len 2 && Nat.blt n nL
  | .lstore n => Nat.beq len 2 && Nat.blt (n + 1) nL
  | .istore_n n => Nat.beq len 1 && Nat.blt n.val nL
  | .astore_n n => Nat.beq len 1 && Nat.blt n.val nL
  | .lstore_n n => Nat.beq len 1 && Nat.blt (n.val + 1) nL
  | .iinc n _ => Nat.beq len 3 && Nat.blt n nL
  | .bipush _ => Nat.beq len 2
  | .sipush _ => Nat.beq len 3
  | .ldc2_w x => Nat.beq len 3 && xDL.contains (own, x, op)
  | .ifCond _ off => Nat.beq len 3 && decide ((pc : Int) + off = (op : Int))
  | .if_icmp _ off => Nat.beq len 3 && decide ((pc : Int) + off = (op : Int))
  | .goto off => Nat.beq len 3 && decide ((pc : Int) + off = (op : Int))
  | .tableswitch .. => true
  | .lookupswitch .. => true
  | .getfield x => Nat.beq len 3 && xFL.contains (own, x, op)
  | .putfield x => Nat.beq len 3 && xFL.contains (own, x, op)
  | .getstatic x => Nat.beq len 3 && xSL.contains (own, x, op)
  | .new x => Nat.beq len 3 && xCL.contains (own, x, op)
  | .newarray t => Nat.beq len 2 && (match t with
    | .int => Nat.beq op 20
    | .long => Nat.beq op 21
    | .boolean => Nat.beq op 22
    | _ => false)
  | .anewarray x => Nat.beq len 3 && xAL.contains (own, x, op)
  | .invokespecial x => Nat.beq len 3 && (bif Nat.beq op 9999 then xOL.contains (own, x, 0) else xML.contains (own, x, op) || xMN.contains (own, x, op))
  | .invokevirtual x => Nat.beq len 3 && (xML.contains (own, x, op) || xMN.contains (own, x, op))
  | .invokestatic x => Nat.beq len 3 && (xML.contains (own, x, op) || xMN.contains (own, x, op))
  | _ => Nat.beq len 1
def xdec (bytes : ByteArray) (c : List (List (Nat × xI))) : Bool := c.all (fun b => b.all (fun q => decide (decode bytes q.1 = .ok (q.2.1, q.2.2.1))))
def xokc (own nL : Nat) (c : List (List (Nat × xI))) : Bool := c.all (fun b => b.all (fun q => xokI own nL q.1 q.2.1 q.2.2.1 q.2.2.2))
/-- a method's own words, and its code as decoded -/
def xMok (y : xMt) : Prop :=
  plainFor y.2.2.2.1 = true ∧ Cond.code y.2.2.2.1 y.2.2.2.2.1 y.2.2.2.2.2.1 y.2.2.2.2.2.2.1 ∈ lw_tbl ∧ Cond.initialized y.2.2.2.1.cls ∈ lw_tbl ∧
  (y.2.2.2.1.cls ≠ "java/lang/invoke/MethodHandle" ∧ y.2.2.2.1.cls ≠ "java/lang/invoke/VarHandle" ∧ (parseMethodDescriptor y.2.2.2.1.desc).map (fun d => d.parameters.length) = some y.2.2.1) ∧
  xnm y.1 = y.2.2.2.1.cls ∧ y.2.2.2.2.2.1 ≤ 17 ∧ (y.2.1 = 0 → Cond.static y.2.2.2.1 ∈ lw_tbl) ∧ (y.2.1 = 1 → Cond.instanceMethod y.2.2.2.1 ∈ lw_tbl ∧ Cond.selects y.2.2.2.1.cls y.2.2.2.1 y.2.2.2.1 ∈ lw_tbl) ∧
  (y.2.1 = 2 → y.2.2.2.1.name = "<init>" ∧ Cond.instanceMethod y.2.2.2.1 ∈ lw_tbl ∧ y.2.2.2.2.2.2.1 = none) ∧ xdec y.2.2.2.2.1 y.2.2.2.2.2.2.2 = true ∧ xokc y.1 y.2.2.2.2.2.1 y.2.2.2.2.2.2.2 = true
