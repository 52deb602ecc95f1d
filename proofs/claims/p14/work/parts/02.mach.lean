/-! The small machine: a pure interpreter over a list of cells; a reference is a place in that list. -/
abbrev qLV := List (Nat × Value)
/-- a cell: an object (class, fields), an array of ints or bytes (0: int, 1: byte; contents), of longs, of references, one that is only read, or one of which nothing is told (its slots) -/
abbrev qC := (Nat × List Value) ⊕ (Nat × List Int32) ⊕ (List Int64) ⊕ (List (Option Nat)) ⊕ (Nat × List Int32) ⊕ Nat
abbrev qH := List qC
def qlg : qLV → Nat → Option Value
  | [], _ => none
  | (i, v) :: l, k => bif Nat.beq i k then some v else qlg l k
/-- locals stand in the order of their numbers -/
def qins (x : Nat × Value) : qLV → qLV
  | [] => [x]
  | y :: l => bif Nat.blt x.1 y.1 then x :: y :: l else y :: qins x l
def qls1 (l : qLV) (i : Nat) (v : Value) : qLV := qins (i, v) (l.filter (fun q => !(q.1 == i) && !(q.1 + 1 == i && q.2.category == 2)))
def qls2 (l : qLV) (i : Nat) (v : Value) : qLV := qins (i, v) (l.filter (fun q => !(q.1 == i) && (!(q.1 == i + 1) && !(q.1 + 1 == i && q.2.category == 2))))
/-- instructions that touch locals and stack alone; nL: how many locals there are -/
def qsim (nL : Nat) (ins : Instr) (len : Nat) (lv : qLV) (st : List Value) : Option (qLV × List Value) :=
  match ins with
  | .iconst n => bif len == 1 then some (lv, .int (Int32.ofInt n) :: st) else none
  | .bipush n => bif len == 2 then some (lv, .int (Int8.ofInt n).toInt32 :: st) else none
  | .sipush n => bif len == 3 then some (lv, .int (Int16.ofInt n).toInt32 :: st) else none
  | .lconst n => bif len == 1 then some (lv, .long (Int64.ofNat (n : Nat)) :: st) else none
  | .aconst_null => bif len == 1 then some (lv, .null :: st) else none
  | .iload_n k => match len, qlg lv (k : Nat) with
    | 1, some (.int x) => some (lv, .int x :: st)
    | _, _ => none
  | .iload k => match len, qlg lv k with
    | 2, some (.int x) => some (lv, .int x :: st)
    | _, _ => none
  | .lload_n k => match len, qlg lv (k : Nat) with
    | 1, some (.long x) => some (lv, .long x :: st)
    | _, _ => none
  | .lload k => match len, qlg lv k with
    | 2, some (.long x) => some (lv, .long x :: st)
    | _, _ => none
  | .aload_n k => match len, qlg lv (k : Nat) with
    | 1, some (.ref x) => some (lv, .ref x :: st)
    | 1, some .null => some (lv, .null :: st)
    | _, _ => none
  | .aload k => match len, qlg lv k with
    | 2, some (.ref x) => some (lv, .ref x :: st)
    | 2, some .null => some (lv, .null :: st)
    | _, _ => none
  | .istore_n k => match len, st with
    | 1, .int x :: r => bif Nat.blt (k : Nat) nL then some (qls1 lv (k : Nat) (.int x), r) else none
    | _, _ => none
  | .istore k => match len, st with
    | 2, .int x :: r => bif Nat.blt k nL then some (qls1 lv k (.int x), r) else none
    | _, _ => none
  | .astore_n k => match len, st with
    | 1, .ref x :: r => bif Nat.blt (k : Nat) nL then some (qls1 lv (k : Nat) (.ref x), r) else none
    | 1, .null :: r => bif Nat.blt (k : Nat) nL then some (qls1 lv (k : Nat) .null, r) else none
    | _, _ => none
  | .astore k => match len, st with
    | 2, .ref x :: r => bif Nat.blt k nL then some (qls1 lv k (.ref x), r) else none
    | 2, .null :: r => bif Nat.blt k nL then some (qls1 lv k .null, r) else none
    | _, _ => none
  | .lstore_n k => match len, st with
    | 1, .long x :: r => bif Nat.blt ((k : Nat) + 1) nL then some (qls2 lv (k : Nat) (.long x), r) else none
    | _, _ => none
  | .lstore k => match len, st with
    | 2, .long x :: r => bif Nat.blt (k + 1) nL then some (qls2 lv k (.long x), r) else none
    | _, _ => none
  | .iinc k n => match len, qlg lv k with
    | 3, some (.int x) => bif Nat.blt k nL then some (qls1 lv k (.int (x + Int32.ofInt n)), st) else none
    | _, _ => none
  | .iadd => match len, st with
    | 1, .int y :: .int x :: r => some (lv, .int (x + y) :: r)
    | _, _ => none
  | .isub => match len, st with
    | 1, .int y :: .int x :: r => some (lv, .int (x - y) :: r)
    | _, _ => none
  | .imul => match len, st with
    | 1, .int y :: .int x :: r => some (lv, .int (x * y) :: r)
    | _, _ => none
  | .iand => match len, st with
    | 1, .int y :: .int x :: r => some (lv, .int (x &&& y) :: r)
    | _, _ => none
  | .ior => match len, st with
    | 1, .int y :: .int x :: r => some (lv, .int (x ||| y) :: r)
    | _, _ => none
  | .ixor => match len, st with
    | 1, .int y :: .int x :: r => some (lv, .int (x ^^^ y) :: r)
    | _, _ => none
  | .ishl => match len, st with
    | 1, .int y :: .int x :: r => some (lv, .int (x <<< (y &&& 31)) :: r)
    | _, _ => none
  | .ishr => match len, st with
    | 1, .int y :: .int x :: r => some (lv, .int (x >>> (y &&& 31)) :: r)
    | _, _ => none
  | .iushr => match len, st with
    | 1, .int y :: .int x :: r => some (lv, .int (x.toUInt32 >>> (y.toUInt32 &&& Int32.toUInt32 31)).toInt32 :: r)
    | _, _ => none
  | .ladd => match len, st with
    | 1, .long y :: .long x :: r => some (lv, .long (x + y) :: r)
    | _, _ => none
  | .lsub => match len, st with
    | 1, .long y :: .long x :: r => some (lv, .long (x - y) :: r)
    | _, _ => none
  | .land => match len, st with
    | 1, .long y :: .long x :: r => some (lv, .long (x &&& y) :: r)
    | _, _ => none
  | .lor => match len, st with
    | 1, .long y :: .long x :: r => some (lv, .long (x ||| y) :: r)
    | _, _ => none
  | .lxor => match len, st with
    | 1, .long y :: .long x :: r => some (lv, .long (x ^^^ y) :: r)
    | _, _ => none
  | .lushr => match len, st with
    | 1, .int y :: .long x :: r => some (lv, .long (x.toUInt64 >>> (y.toInt64.toUInt64 &&& Int64.toUInt64 63)).toInt64 :: r)
    | _, _ => none
  | .lshl => match len, st with
    | 1, .int y :: .long x :: r => some (lv, .long (x <<< (y.toInt64 &&& 63)) :: r)
    | _, _ => none
  | .lshr => match len, st with
    | 1, .int y :: .long x :: r => some (lv, .long (x >>> (y.toInt64 &&& 63)) :: r)
    | _, _ => none
  | .i2l => match len, st with
    | 1, .int x :: r => some (lv, .long x.toInt64 :: r)
    | _, _ => none
  | .l2i => match len, st with
    | 1, .long x :: r => some (lv, .int x.toInt32 :: r)
    | _, _ => none
  | .i2b => match len, st with
    | 1, .int x :: r => some (lv, .int x.toInt8.toInt32 :: r)
    | _, _ => none
  | .i2c => match len, st with
    | 1, .int x :: r => some (lv, .int (x.toUInt32 % 65536).toInt32 :: r)
    | _, _ => none
  | .idiv => match len, st with
    | 1, .int y :: .int x :: r => bif !(y == 0) then some (lv, .int (x / y) :: r) else none
    | _, _ => none
  | .irem => match len, st with
    | 1, .int y :: .int x :: r => bif !(y == 0) then some (lv, .int (x - x / y * y) :: r) else none
    | _, _ => none
  | .lcmp => match len, st with
    | 1, .long y :: .long x :: r => some (lv, .int (lg_cmp x y) :: r)
    | _, _ => none
  | .dup => match len, st with
    | 1, v :: r => bif v.category == 1 then some (lv, v :: v :: r) else none
    | _, _ => none
  | .pop => match len, st with
    | 1, v :: r => bif v.category == 1 then some (lv, r) else none
    | _, _ => none
  | .dup2 => match len, st with
    | 1, v :: w :: r => bif v.category == 1 && w.category == 1 then some (lv, v :: w :: v :: w :: r) else none
    | _, _ => none
  | _ => none
/-- where a value lies in the machine -/
def qv (ρ : Nat → Nat) : Value → Value
  | .ref a => .ref (ρ a)
  | v => v
def qtg (t : Int) : Option Nat := match t with
  | .ofNat n => some n
  | _ => none
/-- branches: where it goes on, and the stack there -/
def qjmp (ins : Instr) (len pc : Nat) (st : List Value) : Option (Nat × List Value) :=
  match ins with
  | .goto off => match len, qtg ((pc : Int) + off) with
    | 3, some t => some (t, st)
    | _, _ => none
  | .ifCond cnd off => match len, st, qtg ((pc : Int) + off) with
    | 3, .int x :: r, some t => match cnd with
      | .eq => some (if x = 0 then t else pc + 3, r)
      | .ne => some (if x = 0 then pc + 3 else t, r)
      | .lt => some (if x < 0 then t else pc + 3, r)
      | .ge => some (if 0 ≤ x then t else pc + 3, r)
      | .gt => some (if 0 < x then t else pc + 3, r)
      | .le => some (if x ≤ 0 then t else pc + 3, r)
    | _, _, _ => none
  | .if_icmp cnd off => match len, st, qtg ((pc : Int) + off) with
    | 3, .int y :: .int x :: r, some t => match cnd with
      | .eq => some (if x = y then t else pc + 3, r)
      | .ne => some (if x = y then pc + 3 else t, r)
      | .lt => some (if x < y then t else pc + 3, r)
      | .ge => some (if y ≤ x then t else pc + 3, r)
      | .gt => some (if y < x then t else pc + 3, r)
      | .le => some (if x ≤ y then t else pc + 3, r)
    | _, _, _ => none
  | .ifnull off => match len, st, qtg ((pc : Int) + off) with
    | 3, .null :: r, some t => some (t, r)
    | 3, .ref _ :: r, some _ => some (pc + 3, r)
    | _, _, _ => none
  | .ifnonnull off => match len, st, qtg ((pc : Int) + off) with
    | 3, .null :: r, some _ => some (pc + 3, r)
    | 3, .ref _ :: r, some t => some (t, r)
    | _, _, _ => none
  | .tableswitch dflt lo hi offs => match st with
    | .int x :: r => bif decide (x.toInt < lo) || decide (hi < x.toInt) then
        (match qtg ((pc : Int) + dflt) with
        | some t => some (t, r)
        | none => none)
      else (match offs[(x.toInt - lo).toNat]? with
        | some off => (match qtg ((pc : Int) + off) with
          | some t => some (t, r)
          | none => none)
        | none => none)
    | _ => none
  | _ => none
