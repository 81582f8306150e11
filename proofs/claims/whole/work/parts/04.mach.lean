/-! THE PURE MACHINE: a method's run over a memory of numbers and places; sound for the JVM's (part 06). -/
/-- memory: the cells (kind, slots), what their places hold: references, ints, longs. Kinds: 0..9 objects of class k, 20 int[], 21 long[], 22 boolean[], 23, 24 arrays of objects. Cells from 1000 on: int arrays that nobody writes; their lengths are references of row 1000. -/
abbrev xM : Type := List (Nat × Nat) × (Nat → Nat → Option Nat) × (Nat → Nat → Int32) × (Nat → Nat → Int64)
abbrev xL : Type := List (Nat × Value)
/-- pc, locals, operands, memory -/
abbrev xS : Type := Nat × xL × List Value × xM
def xU {α : Type} (f : Nat → Nat → α) (a k : Nat) (v : α) : Nat → Nat → α := va_up f a (va_up (f a) k v)
def xget : xL → Nat → Option Value
  | [], _ => none
  | (j, v) :: t, i => bif Nat.beq j i then some v else xget t i
def xput : xL → Nat → Value → xL
  | [], i, v => [(i, v)]
  | (j, w) :: t, i, v => bif Nat.blt i j then (i, v) :: (j, w) :: t else (j, w) :: xput t i v
/-- is it of two words -/
def xwide : Value → Bool
  | .long _ => true
  | .double _ => true
  | _ => false
def xdel1 : xL → Nat → xL
  | [], _ => []
  | (j, v) :: t, i => bif Nat.beq j i || (Nat.beq (j + 1) i && xwide v) then xdel1 t i else (j, v) :: xdel1 t i
def xdel2 : xL → Nat → xL
  | [], _ => []
  | (j, v) :: t, i => bif Nat.beq j i || (Nat.beq j (i + 1) || (Nat.beq (j + 1) i && xwide v)) then xdel2 t i else (j, v) :: xdel2 t i
def xset1 (l : xL) (i : Nat) (v : Value) : xL := xput (xdel1 l i) i v
def xset2 (l : xL) (i : Nat) (v : Value) : xL := xput (xdel2 l i) i v
def xlook : List (Nat × xI) → Nat → Option xI
  | [], _ => none
  | (j, v) :: t, i => bif Nat.beq j i then some v else xlook t i
def xat (mt : xMt) (pc : Nat) : Option xI := xlook (mt.2.2.2.2.2.2.2.getD (pc / 16) []) pc
def xsuml : List (Nat × Nat) → Nat
  | [] => 0
  | (_, n) :: t => n + xsuml t
def xsum (M : xM) : Nat := xsuml M.1
/-- at most n words -/
def xroom : Nat → List Value → Bool
  | _, [] => true
  | 0, _ :: _ => false
  | n + 1, v :: t => bif xwide v then (match n with
    | 0 => false
    | n + 1 => xroom n t) else xroom n t
/-- the locals at a method's entry -/
def xargs : Nat → List Value → xL
  | _, [] => []
  | i, v :: t => (i, v) :: xargs (bif xwide v then i + 2 else i + 1) t
def xrv (o : Option Nat) : Value := match o with
  | some b => .ref b
  | none => .null
/-- what a field of a type holds -/
def xfv (ty : FieldType) (M : xM) (a k : Nat) : Value := match ty, M with
  | .int, (_, _, mi, _) => .int (mi a k)
  | .boolean, (_, _, mi, _) => .int (mi a k)
  | .long, (_, _, _, ml) => .long (ml a k)
  | _, (_, mr, _, _) => xrv (mr a k)
def xz (x : Int32) : Bool := x == 0 || x == 1
def xwi (M : xM) (a k : Nat) (x : Int32) : xM := match M with
  | (lay, mr, mi, ml) => (lay, mr, xU mi a k x, ml)
def xwl (M : xM) (a k : Nat) (x : Int64) : xM := match M with
  | (lay, mr, mi, ml) => (lay, mr, mi, xU ml a k x)
def xwr (M : xM) (a k : Nat) (x : Option Nat) : xM := match M with
  | (lay, mr, mi, ml) => (lay, xU mr a k x, mi, ml)
/-- a field of a type is written -/
def xfw (ty : FieldType) (M : xM) (a k : Nat) (v : Value) : Option xM := match ty, v with
  | .int, .int x => some (xwi M a k x)
  | .boolean, .int x => bif xz x then some (xwi M a k x) else none
  | .long, .long x => some (xwl M a k x)
  | .object _, .ref b => some (xwr M a k (some b))
  | .array _, .ref b => some (xwr M a k (some b))
  | _, _ => none
/-- an array's kind and length -/
def xar (M : xM) (a : Nat) : Option (Nat × Nat) := bif Nat.ble 1000 a then (bif Nat.ble a 1003 then (match M with
  | (_, mr, _, _) => match mr 1000 (a - 1000) with
    | some n => some (20, n)
    | none => none) else none) else M.1[a]?
def xin (i : Int32) (n : Nat) : Bool := !(decide (i < 0) || Nat.ble n i.toNatClampNeg)
/-- a cell more -/
def xnew (M : xM) (kind n : Nat) : xM := match M with
  | (lay, mr, mi, ml) => (lay ++ [(kind, n)], va_up mr lay.length (fun _ => none), va_up mi lay.length (fun _ => 0), va_up ml lay.length (fun _ => 0))
def xmk (M : xM) (lim : Nat × Nat) (kind n : Nat) : Option xM := match M, lim with
  | (lay, mr, mi, ml), (l1, l2) => bif Nat.ble (lay.length + 1) l1 && Nat.ble (xsuml lay + n) l2 && Nat.ble (lay.length + 1) 1000 then some (xnew (lay, mr, mi, ml) kind n) else none
def xbr (c : Bool) (pc : Nat) (ls : xL) (r : List Value) (M : xM) (op len : Nat) : Option xS := bif c then some (op, ls, r, M) else some (pc + len, ls, r, M)
def xldi (i len pc : Nat) (ls : xL) (st : List Value) (M : xM) : Option xS := match xget ls i with
  | some (.int v) => some (pc + len, ls, .int v :: st, M)
  | _ => none
def xldl (i len pc : Nat) (ls : xL) (st : List Value) (M : xM) : Option xS := match xget ls i with
  | some (.long v) => some (pc + len, ls, .long v :: st, M)
  | _ => none
def xlda (i len pc : Nat) (ls : xL) (st : List Value) (M : xM) : Option xS := match xget ls i with
  | some (.ref v) => some (pc + len, ls, .ref v :: st, M)
  | _ => none
def xto (off : Int) (pc : Nat) (ls : xL) (r : List Value) (M : xM) : Option xS := match (pc : Int) + off with
  | .ofNat t => some (t, ls, r, M)
  | .negSucc _ => none
def xcm (c : ClassFile.Cond) (x y : Int32) : Bool := match c with
  | .eq => decide (x = y)
  | .ne => decide (¬ x = y)
  | .lt => decide (x < y)
  | .ge => decide (y ≤ x)
  | .gt => decide (y < x)
  | .le => decide (x ≤ y)
/-- one instruction that is no call and no return -/
def xins (own mk : Nat) (lim : Nat × Nat) (i : Instr) (len op pc : Nat) (ls : xL) (st : List Value) (M : xM) : Option xS :=
  match i with
  | .aload n => xlda n len pc ls st M
  | .aload_n n => xlda n.val len pc ls st M
  | .iload n => xldi n len pc ls st M
  | .iload_n n => xldi n.val len pc ls st M
  | .lload n => xldl n len pc ls st M
  | .lload_n n => xldl n.val len pc ls st M
  | .istore n => match st with
    | .int x :: r => some (pc + len, xset1 ls n (.int x), r, M)
    | _ => none
  | .istore_n n => match st with
    | .int x :: r => some (pc + len, xset1 ls n.val (.int x), r, M)
    | _ => none
  | .astore n => match st with
    | .ref x :: r => some (pc + len, xset1 ls n (.ref x), r, M)
    | _ => none
  | .astore_n n => match st with
    | .ref x :: r => some (pc + len, xset1 ls n.val (.ref x), r, M)
    | _ => none
  | .lstore n => match st with
    | .long x :: r => some (pc + len, xset2 ls n (.long x), r, M)
    | _ => none
  | .lstore_n n => match st with
    | .long x :: r => some (pc + len, xset2 ls n.val (.long x), r, M)
    | _ => none
  | .iinc n k => match xget ls n with
    | some (.int x) => some (pc + len, xset1 ls n (.int (x + Int32.ofInt k)), st, M)
    | _ => none
  | .iconst n => some (pc + len, ls, .int (Int32.ofInt n) :: st, M)
  | .bipush n => some (pc + len, ls, .int (Int8.ofInt n).toInt32 :: st, M)
  | .sipush n => some (pc + len, ls, .int (Int16.ofInt n).toInt32 :: st, M)
  | .lconst n => some (pc + len, ls, .long (Int64.ofNat n.val) :: st, M)
  | .ldc2_w _ => some (pc + len, ls, .long (Int64.ofNat op) :: st, M)
  | .iadd => match st with
    | .int y :: .int x :: r => some (pc + len, ls, .int (x + y) :: r, M)
    | _ => none
  | .isub => match st with
    | .int y :: .int x :: r => some (pc + len, ls, .int (x - y) :: r, M)
    | _ => none
  | .imul => match st with
    | .int y :: .int x :: r => some (pc + len, ls, .int (x * y) :: r, M)
    | _ => none
  | .iand => match st with
    | .int y :: .int x :: r => some (pc + len, ls, .int (x &&& y) :: r, M)
    | _ => none
  | .ior => match st with
    | .int y :: .int x :: r => some (pc + len, ls, .int (x ||| y) :: r, M)
    | _ => none
  | .ixor => match st with
    | .int y :: .int x :: r => some (pc + len, ls, .int (x ^^^ y) :: r, M)
    | _ => none
  | .irem => match st with
    | .int y :: .int x :: r => bif decide (y = 0) then none else some (pc + len, ls, .int (x - x / y * y) :: r, M)
    | _ => none
  | .ladd => match st with
    | .long y :: .long x :: r => some (pc + len, ls, .long (x + y) :: r, M)
    | _ => none
  | .lsub => match st with
    | .long y :: .long x :: r => some (pc + len, ls, .long (x - y) :: r, M)
    | _ => none
  | .lmul => match st with
    | .long y :: .long x :: r => some (pc + len, ls, .long (x * y) :: r, M)
    | _ => none
  | .land => match st with
    | .long y :: .long x :: r => some (pc + len, ls, .long (x &&& y) :: r, M)
    | _ => none
  | .lor => match st with
    | .long y :: .long x :: r => some (pc + len, ls, .long (x ||| y) :: r, M)
    | _ => none
  | .lxor => match st with
    | .long y :: .long x :: r => some (pc + len, ls, .long (x ^^^ y) :: r, M)
    | _ => none
  | .lneg => match st with
    | .long x :: r => some (pc + len, ls, .long (-x) :: r, M)
    | _ => none
  | .lshl => match st with
    | .int y :: .long x :: r => some (pc + len, ls, .long (x <<< (y.toInt64 &&& 63)) :: r, M)
    | _ => none
  | .lushr => match st with
    | .int y :: .long x :: r => some (pc + len, ls, .long (x.toUInt64 >>> (y.toInt64.toUInt64 &&& Int64.toUInt64 63)).toInt64 :: r, M)
    | _ => none
  | .i2l => match st with
    | .int x :: r => some (pc + len, ls, .long x.toInt64 :: r, M)
    | _ => none
  | .l2i => match st with
    | .long x :: r => some (pc + len, ls, .int x.toInt32 :: r, M)
    | _ => none
  | .lcmp => match st with
    | .long y :: .long x :: r => some (pc + len, ls, .int (lg_cmp x y) :: r, M)
    | _ => none
  | .dup => match st with
    | v :: r => bif !xwide v then some (pc + len, ls, v :: v :: r, M) else none
    | _ => none
  | .dup2 => match st with
    | v :: w :: r => bif !xwide v && !xwide w then some (pc + len, ls, v :: w :: v :: w :: r, M) else none
    | _ => none
  | .ifCond c _ => match st with
    | .int x :: r => xbr (xcm c x 0) pc ls r M op len
    | _ => none
  | .if_icmp c _ => match st with
    | .int y :: .int x :: r => xbr (xcm c x y) pc ls r M op len
    | _ => none
  | .goto _ => some (op, ls, st, M)
  | .tableswitch d lo hi offs => match st with
    | .int x :: r => bif decide (x.toInt < lo) || decide (hi < x.toInt) then xto d pc ls r M else (match offs[(x.toInt - lo).toNat]? with
      | some o => xto o pc ls r M
      | none => none)
    | _ => none
  | .lookupswitch d ps => match st with
    | .int x :: r => bif (ps.toList.zip (ps.toList.drop 1)).all (fun (a, next) => a.1 < next.1) then xto (Op.lookupswitch.offset ps.toList d x.toInt) pc ls r M else none
    | _ => none
  | .getfield _ => match st with
    | .ref a :: r => match M.1[a]? with
      | some (q1, q2) => bif Nat.beq q1 (op / 64) then some (pc + len, ls, xfv (xty (op / 64) (op % 64)) M a (op % 64) :: r, M) else none
      | none => none
    | _ => none
  | .putfield _ => match st with
    | v :: .ref a :: r => match M.1[a]? with
      | some (q1, q2) => bif Nat.beq q1 (op / 64) && (!(xT (op / 64) (op % 64)).2.2.2 || (Nat.beq mk 2 && Nat.beq own (op / 64))) then (match xfw (xty (op / 64) (op % 64)) M a (op % 64) v with
        | some M => some (pc + len, ls, r, M)
        | none => none) else none
      | none => none
    | _ => none
  | .getstatic _ => some (pc + len, ls, .ref (1000 + op) :: st, M)
  | .new _ => match xmk M lim op (xN op) with
    | some M' => some (pc + len, ls, .ref M.1.length :: st, M')
    | none => none
  | .newarray _ => match st with
    | .int n :: r => bif !(decide (n < 0)) && Nat.ble (n.toNatClampNeg * 8) 536870912 then (match xmk M lim op n.toNatClampNeg with
      | some M' => some (pc + len, ls, .ref M.1.length :: r, M')
      | none => none) else none
    | _ => none
  | .anewarray _ => match st with
    | .int n :: r => bif !(decide (n < 0)) && Nat.ble (n.toNatClampNeg * 8) 536870912 then (match xmk M lim op n.toNatClampNeg with
      | some M' => some (pc + len, ls, .ref M.1.length :: r, M')
      | none => none) else none
    | _ => none
  | .arraylength => match st with
    | .ref a :: r => match xar M a with
      | some (q1, q2) => bif Nat.ble 20 q1 && Nat.ble q1 24 then some (pc + len, ls, .int (Int32.ofNat q2) :: r, M) else none
      | none => none
    | _ => none
  | .iaload => match st with
    | .int j :: .ref a :: r => match xar M a with
      | some (q1, q2) => bif Nat.beq q1 20 && xin j q2 then some (pc + len, ls, .int (M.2.2.1 a j.toNatClampNeg) :: r, M) else none
      | none => none
    | _ => none
  | .baload => match st with
    | .int j :: .ref a :: r => match M.1[a]? with
      | some (q1, q2) => bif Nat.beq q1 22 && xin j q2 then some (pc + len, ls, .int (M.2.2.1 a j.toNatClampNeg) :: r, M) else none
      | none => none
    | _ => none
  | .laload => match st with
    | .int j :: .ref a :: r => match M.1[a]? with
      | some (q1, q2) => bif Nat.beq q1 21 && xin j q2 then some (pc + len, ls, .long (M.2.2.2 a j.toNatClampNeg) :: r, M) else none
      | none => none
    | _ => none
  | .aaload => match st with
    | .int j :: .ref a :: r => match M.1[a]? with
      | some (q1, q2) => bif (Nat.beq q1 23 || Nat.beq q1 24) && xin j q2 then some (pc + len, ls, xrv (M.2.1 a j.toNatClampNeg) :: r, M) else none
      | none => none
    | _ => none
  | .iastore => match st with
    | .int x :: .int j :: .ref a :: r => match M.1[a]? with
      | some (q1, q2) => bif Nat.beq q1 20 && xin j q2 then some (pc + len, ls, r, xwi M a j.toNatClampNeg x) else none
      | none => none
    | _ => none
  | .bastore => match st with
    | .int x :: .int j :: .ref a :: r => match M.1[a]? with
      | some (q1, q2) => bif Nat.beq q1 22 && xin j q2 && xz x then some (pc + len, ls, r, xwi M a j.toNatClampNeg x) else none
      | none => none
    | _ => none
  | .lastore => match st with
    | .long x :: .int j :: .ref a :: r => match M.1[a]? with
      | some (q1, q2) => bif Nat.beq q1 21 && xin j q2 then some (pc + len, ls, r, xwl M a j.toNatClampNeg x) else none
      | none => none
    | _ => none
  | .aastore => match st with
    | .ref b :: .int j :: .ref a :: r => match M.1[a]?, M.1[b]? with
      | some (q1, q2), some (o1, _) => bif Nat.ble 23 q1 && Nat.ble q1 24 && Nat.beq (xcomp q1) o1 && xin j q2 then some (pc + len, ls, r, xwr M a j.toNatClampNeg (some b)) else none
      | _, _ => none
    | _ => none
  | .invokespecial _ => match st with
    | .ref _ :: r => bif Nat.beq op 9999 && xroom 8 r then some (pc + len, ls, r, M) else none
    | _ => none
  | _ => none
def xstep (mt : xMt) (lim : Nat × Nat) (s : xS) : Option xS := match s with
  | (pc, ls, st, M) => match xat mt pc with
    | some (i, len, op) => xins mt.1 mt.2.1 lim i len op pc ls st M
    | none => none
/-- a return -/
def xret (mt : xMt) (s : xS) : Option (Option Value × xM) := match s with
  | (pc, _, st, M) => match xat mt pc with
    | some (i, _, _) => (match i, mt.2.2.2.2.2.2.1, st with
      | .ireturn, some .int, [.int v] => some (some (.int v), M)
      | .ireturn, some .boolean, [.int v] => bif xz v then some (some (.int v), M) else none
      | .lreturn, some .long, [.long v] => some (some (.long v), M)
      | .areturn, some (.object _), [.ref v] => some (some (.ref v), M)
      | .return_, none, [] => some (none, M)
      | _, _, _ => none)
    | none => none
/-- the upper n operands, the lowest first, and the rest -/
def xpop : Nat → List Value → List Value → Option (List Value × List Value)
  | 0, acc, st => some (acc, st)
  | n + 1, acc, v :: st => xpop n (v :: acc) st
  | _ + 1, _, [] => none
/-- a call: the method, its arguments (the receiver first), the operands below -/
def xcall (mt : xMt) (s : xS) : Option (Nat × List Value × List Value) := match s with
  | (pc, _, st, M) => match xat mt pc with
    | some (i, _, op) => (match xtab[op]? with
      | some (own, kd, np, _) => (match xpop np [] st with
        | some (as, rest) => (match i with
          | .invokestatic _ => bif Nat.beq kd 0 && xroom 8 rest then some (op, as, rest) else none
          | .invokevirtual _ => (match rest with
            | .ref b :: r => (match M.1[b]? with
              | some (o1, _) => bif Nat.beq kd 1 && Nat.beq o1 own && xroom 8 r then some (op, .ref b :: as, r) else none
              | none => none)
            | _ => none)
          | .invokespecial _ => (match rest with
            | .ref b :: r => bif Nat.beq kd 2 && xroom 8 r then some (op, .ref b :: as, r) else none
            | _ => none)
          | _ => none)
        | none => none)
      | none => none)
    | none => none
/-- behind a call -/
def xback (s : xS) (rest : List Value) (r : Option Value) (M : xM) : xS := match s with
  | (pc, ls, _, _) => (pc + 3, ls, (match r with
    | some v => v :: rest
    | none => rest), M)
/-- from a state of a method's body it comes to a return with Q: the least such property -/
def xR (Call : Nat → List Value → xM → Nat → Nat → (Option Value → xM → Prop) → Prop) (mt : xMt) (lim : Nat × Nat) (Q : Option Value → xM → Prop) (s : xS) : Prop :=
  ∀ P : xS → Prop, (∀ s r M, xret mt s = some (r, M) → Q r M → P s) → (∀ s s', xstep mt lim s = some s' → P s' → P s) →
    (∀ s j as rest kc ks Q', xcall mt s = some (j, as, rest) → s.2.2.2.1.length + kc ≤ lim.1 → xsum s.2.2.2 + ks ≤ lim.2 → Call j as s.2.2.2 kc ks Q' → (∀ r M, Q' r M → P (xback s rest r M)) → P s) →
    (∀ s ls, (∀ q ∈ ls, q ∈ s.2.1) → P (s.1, ls, s.2.2.1, s.2.2.2) → P s) → P s
/-- the words of the arguments -/
def xwords : List Value → Nat
  | [] => 0
  | v :: t => (bif xwide v then 2 else 1) + xwords t
/-- method j, called with as: comes back with Q, kc cells of ks places more; d calls deep at most -/
def xC : Nat → Nat → List Value → xM → Nat → Nat → (Option Value → xM → Prop) → Prop
  | 0, _, _, _, _, _, _ => False
  | d + 1, j, as, M, kc, ks, Q => ∃ mt, xtab[j]? = some mt ∧ xwords as ≤ mt.2.2.2.2.2.1 ∧
      xR (xC d) mt (M.1.length + kc, xsum M + ks) (fun r M' => Q r M' ∧ M'.1.length = M.1.length + kc ∧ xsum M' = xsum M + ks) (0, xargs 0 as, [], M)
