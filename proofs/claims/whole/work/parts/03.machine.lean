-- 03: the abstract machine: an abstract heap, a step, a run; all that follows is said of it, and part 05 says that the machine does what it does
/-- an abstract heap: kind and size of each cell in the order made; ints, longs, references by cell and place -/
abbrev AH : Type := List (Nat × Nat) × (Nat → Nat → Int32) × (Nat → Nat → Int64) × (Nat → Nat → Option Nat)
def aN (H : AH) : Nat := H.1.length
def kd (H : AH) (o : Nat) : Nat := (H.1.getD o (99, 0)).1
def sz (H : AH) (o : Nat) : Nat := (H.1.getD o (99, 0)).2
def aI (H : AH) (k i : Nat) : Int32 := H.2.1 k i
def aJ (H : AH) (k i : Nat) : Int64 := H.2.2.1 k i
def aR (H : AH) (k i : Nat) : Option Nat := H.2.2.2 k i
def u2 {α : Type} (f : Nat → Nat → α) (k i : Nat) (v : α) : Nat → Nat → α := fun a b => if a = k ∧ b = i then v else f a b
def sI (H : AH) (k i : Nat) (v : Int32) : AH := (H.1, u2 H.2.1 k i v, H.2.2.1, H.2.2.2)
def sJ (H : AH) (k i : Nat) (v : Int64) : AH := (H.1, H.2.1, u2 H.2.2.1 k i v, H.2.2.2)
def sR (H : AH) (k i : Nat) (v : Option Nat) : AH := (H.1, H.2.1, H.2.2.1, u2 H.2.2.2 k i v)
def gr (H : AH) (kind n : Nat) : AH := (H.1 ++ [(kind, n)], (fun a b => if a = H.1.length then 0 else H.2.1 a b), (fun a b => if a = H.1.length then 0 else H.2.2.1 a b), (fun a b => if a = H.1.length then none else H.2.2.2 a b))
/-- a row of ints is copied -/
def cI (H : AH) (s sp d dp n : Nat) : AH := (H.1, (fun a b => if a = d then va_cpy (H.2.1 s) (H.2.1 d) sp dp n b else H.2.1 a b), H.2.2.1, H.2.2.2)
def cJ (H : AH) (s sp d dp n : Nat) : AH := (H.1, H.2.1, (fun a b => if a = d then va_cpy (H.2.2.1 s) (H.2.2.1 d) sp dp n b else H.2.2.1 a b), H.2.2.2)
def slotsOf (H : AH) : Nat := (H.1.map (·.2)).sum
def bz (x : Int32) : Int32 := if x = 0 then 0 else 1
def rv (r : Option Nat) : Value := match r with | none => .null | some o => .ref o
def hole : Value := .float 0
/-- the script -/
abbrev SC : Type := Nat × (Nat → Int32)
def kaL : List Int32 := [-1, 0, 0, 0, 1, 2, 3]
def bodL : List Int32 := [10, 11, 12, 0, 20, 0, 30, 0, 0, 0, 0, 40, 50, 51, 0, 0, 0, 60, 71, 70, 0]
/-- the bytes of the text constants, from the base cell 3 on -/
def strL : List (List Int32) := [[104, 101, 101, 100], [100, 101, 97, 102], [109, 97, 110, 121], [108, 107, 118, 109, 102, 100], [60, 61, 62], [48, 49, 50, 51, 52, 53, 54, 55, 56, 57]]
/-- a base cell's row of ints: 0 the script, 1 KIND_ABOVE, 2 BODIES -/
def bI (S : SC) (j : Nat) : Nat × (Nat → Int32) := if j = 0 then S else if j = 1 then (7, fun i => kaL.getD i 0) else if j = 2 then (21, fun i => bodL.getD i 0) else (0, fun _ => 0)
/-- a base cell's row of bytes: 13 .. 18 -/
def bB (j : Nat) : Nat × (Nat → Int32) := ((strL.getD (j - 13) []).length, fun i => (strL.getD (j - 13) []).getD i 0)
abbrev inb (i : Int32) (n : Nat) : Prop := ¬ (i < 0 ∨ n ≤ i.toNatClampNeg)
abbrev okv (ty : FieldType) (v : Int32) : Prop := narrow ty (.int v) = .int v
def tgt (pc : Nat) (off : Int) : Nat := ((pc : Int) + off).toNat
/-- a store into the locals: the place before holds no long -/
def lset (ls : List Value) (i : Nat) (v : Value) : Option (List Value) := match i with
  | 0 => some (ls.set 0 v)
  | i + 1 => match ls[i]? with
    | some (.long _) => none
    | some (.double _) => none
    | _ => some (ls.set (i + 1) v)
abbrev AO : Type := Option (Nat × List Value × List Value × AH)
def ite1 (c : Prop) [Decidable c] (x : Nat × List Value × List Value × AH) : AO := if c then some x else none
def cmpB (cond : ClassFile.Cond) (x y : Int32) : Bool := match cond with
  | .eq => decide (x = y)
  | .ne => decide (¬ x = y)
  | .lt => decide (x < y)
  | .ge => decide (y ≤ x)
  | .gt => decide (y < x)
  | .le => decide (x ≤ y)
/-- a switch over a row of keys from lo on: the offset -/
def swT (lo : Int) (dflt : Int) (x : Int32) : List Int → Int
  | [] => dflt
  | o :: r => if x = Int32.ofInt lo then o else swT (lo + 1) dflt x r
def swL (dflt : Int) (x : Int32) : List (Int × Int) → Int
  | [] => dflt
  | q :: r => if x = Int32.ofInt q.1 then q.2 else swL dflt x r
def sizeC (a : Nat) : Nat := match vwCl[a]? with | some r => r.2.2 | none => 0
def push1 (pc : Nat) (ls st : List Value) (H : AH) (v : Value) : AO := some (pc, ls, v :: st, H)
def load (ls : List Value) (i : Nat) : Option Value := ls[i]?
/-- a step of an instruction that is neither a call nor a return -/
def stepA (S : SC) (ins : Instr) (a b c e : Nat) (v : Int) (pc : Nat) (ls st : List Value) (H : AH) : AO :=
  match ins with
  | .iconst n => some (pc + 1, ls, .int (Int32.ofInt n) :: st, H)
  | .bipush n => some (pc + 2, ls, .int (Int8.ofInt n).toInt32 :: st, H)
  | .sipush n => some (pc + 3, ls, .int (Int16.ofInt n).toInt32 :: st, H)
  | .lconst n => some (pc + 1, ls, .long (Int64.ofNat n) :: st, H)
  | .aconst_null => some (pc + 1, ls, .null :: st, H)
  | .ldc _ => if b = 1 then some (pc + 2, ls, .retAddr a :: st, H) else none
  | .ldc_w _ => some (pc + 3, ls, .int (Int32.ofInt v) :: st, H)
  | .ldc2_w _ => some (pc + 3, ls, .long (Int64.ofInt v) :: st, H)
  | .iload_n k => match load ls k with | some (.int x) => some (pc + 1, ls, .int x :: st, H) | _ => none
  | .iload k => match load ls k with | some (.int x) => some (pc + 2, ls, .int x :: st, H) | _ => none
  | .lload_n k => match load ls k with | some (.long x) => some (pc + 1, ls, .long x :: st, H) | _ => none
  | .aload_n k => match load ls k with
    | some (.ref x) => some (pc + 1, ls, .ref x :: st, H)
    | some .null => some (pc + 1, ls, .null :: st, H)
    | some (.retAddr x) => some (pc + 1, ls, .retAddr x :: st, H)
    | _ => none
  | .aload k => match load ls k with
    | some (.ref x) => some (pc + 2, ls, .ref x :: st, H)
    | some .null => some (pc + 2, ls, .null :: st, H)
    | some (.retAddr x) => some (pc + 2, ls, .retAddr x :: st, H)
    | _ => none
  | .istore_n k => match st with | .int x :: r => (lset ls k (.int x)).map fun l => (pc + 1, l, r, H) | _ => none
  | .istore k => match st with | .int x :: r => (lset ls k (.int x)).map fun l => (pc + 2, l, r, H) | _ => none
  | .astore_n k => match st with
    | .ref x :: r => (lset ls k (.ref x)).map fun l => (pc + 1, l, r, H)
    | .null :: r => (lset ls k .null).map fun l => (pc + 1, l, r, H)
    | _ => none
  | .astore k => match st with
    | .ref x :: r => (lset ls k (.ref x)).map fun l => (pc + 2, l, r, H)
    | .null :: r => (lset ls k .null).map fun l => (pc + 2, l, r, H)
    | _ => none
  | .iinc k n => match load ls k with | some (.int x) => (lset ls k (.int (x + Int32.ofInt n))).map fun l => (pc + 3, l, st, H) | _ => none
  | .iadd => match st with | .int y :: .int x :: r => some (pc + 1, ls, .int (x + y) :: r, H) | _ => none
  | .isub => match st with | .int y :: .int x :: r => some (pc + 1, ls, .int (x - y) :: r, H) | _ => none
  | .imul => match st with | .int y :: .int x :: r => some (pc + 1, ls, .int (x * y) :: r, H) | _ => none
  | .idiv => match st with | .int y :: .int x :: r => ite1 (¬ y = 0) (pc + 1, ls, .int (x / y) :: r, H) | _ => none
  | .irem => match st with | .int y :: .int x :: r => ite1 (¬ y = 0) (pc + 1, ls, .int (x - x / y * y) :: r, H) | _ => none
  | .ineg => match st with | .int x :: r => some (pc + 1, ls, .int (-x) :: r, H) | _ => none
  | .iand => match st with | .int y :: .int x :: r => some (pc + 1, ls, .int (x &&& y) :: r, H) | _ => none
  | .ior => match st with | .int y :: .int x :: r => some (pc + 1, ls, .int (x ||| y) :: r, H) | _ => none
  | .ixor => match st with | .int y :: .int x :: r => some (pc + 1, ls, .int (x ^^^ y) :: r, H) | _ => none
  | .ishl => match st with | .int y :: .int x :: r => some (pc + 1, ls, .int (x <<< (y &&& 31)) :: r, H) | _ => none
  | .ishr => match st with | .int y :: .int x :: r => some (pc + 1, ls, .int (x >>> (y &&& 31)) :: r, H) | _ => none
  | .iushr => match st with | .int y :: .int x :: r => some (pc + 1, ls, .int (x.toUInt32 >>> (y.toUInt32 &&& Int32.toUInt32 31)).toInt32 :: r, H) | _ => none
  | .i2l => match st with | .int x :: r => some (pc + 1, ls, .long x.toInt64 :: r, H) | _ => none
  | .l2i => match st with | .long x :: r => some (pc + 1, ls, .int x.toInt32 :: r, H) | _ => none
  | .i2b => match st with | .int x :: r => some (pc + 1, ls, .int x.toInt8.toInt32 :: r, H) | _ => none
  | .i2s => match st with | .int x :: r => some (pc + 1, ls, .int x.toInt16.toInt32 :: r, H) | _ => none
  | .i2c => match st with | .int x :: r => some (pc + 1, ls, .int (x.toUInt32 % 65536).toInt32 :: r, H) | _ => none
  | .lcmp => match st with | .long y :: .long x :: r => some (pc + 1, ls, .int (lg_cmp x y) :: r, H) | _ => none
  | .lshl => match st with | .int y :: .long x :: r => some (pc + 1, ls, .long (x <<< (y.toInt64 &&& 63)) :: r, H) | _ => none
  | .land => match st with | .long y :: .long x :: r => some (pc + 1, ls, .long (x &&& y) :: r, H) | _ => none
  | .lor => match st with | .long y :: .long x :: r => some (pc + 1, ls, .long (x ||| y) :: r, H) | _ => none
  | .pop => match st with | .int _ :: r => some (pc + 1, ls, r, H) | _ => none
  | .dup => match st with
    | .int x :: r => some (pc + 1, ls, .int x :: .int x :: r, H)
    | .ref x :: r => some (pc + 1, ls, .ref x :: .ref x :: r, H)
    | _ => none
  | .dup2 => match st with | .int y :: .ref x :: r => some (pc + 1, ls, .int y :: .ref x :: .int y :: .ref x :: r, H) | _ => none
  | .goto off => some (tgt pc off, ls, st, H)
  | .ifCond cd off => match st with | .int x :: r => some (if cmpB cd x 0 = true then tgt pc off else pc + 3, ls, r, H) | _ => none
  | .if_icmp cd off => match st with | .int y :: .int x :: r => some (if cmpB cd x y = true then tgt pc off else pc + 3, ls, r, H) | _ => none
  | .ifnull off => match st with
    | .null :: r => some (tgt pc off, ls, r, H)
    | .ref _ :: r => some (pc + 3, ls, r, H)
    | _ => none
  | .ifnonnull off => match st with
    | .null :: r => some (pc + 3, ls, r, H)
    | .ref _ :: r => some (tgt pc off, ls, r, H)
    | _ => none
  | .tableswitch dflt lo _ offs => match st with | .int x :: r => some (tgt pc (swT lo dflt x offs.toList), ls, r, H) | _ => none
  | .lookupswitch dflt ps => match st with | .int x :: r => some (tgt pc (swL dflt x ps.toList), ls, r, H) | _ => none
  | .getfield _ => match st with
    | .ref o :: r =>
      if e = 0 then ite1 (kd H o = a) (pc + 3, ls, .int (aI H o b) :: r, H)
      else if e = 1 then ite1 (kd H o = a) (pc + 3, ls, .int (bz (aI H o b)) :: r, H)
      else ite1 (kd H o = a) (pc + 3, ls, rv (aR H o b) :: r, H)
    | .retAddr j :: r => if b = 0 then ite1 ((3 ≤ j ∧ j ≤ 8) ∧ a = 50) (pc + 3, ls, .retAddr (j + 10) :: r, H) else ite1 ((3 ≤ j ∧ j ≤ 8) ∧ a = 50) (pc + 3, ls, .int 0 :: r, H)
    | _ => none
  | .putfield _ => match st with
    | .int x :: .ref o :: r =>
      if e = 0 then ite1 (kd H o = a) (pc + 3, ls, r, sI H o b x)
      else if e = 1 then ite1 (kd H o = a ∧ (x = 0 ∨ x = 1)) (pc + 3, ls, r, sI H o b x)
      else none
    | .ref x :: .ref o :: r => if e = 2 then ite1 (kd H o = a) (pc + 3, ls, r, sR H o b (some x)) else none
    | .null :: .ref o :: r => if e = 2 then ite1 (kd H o = a) (pc + 3, ls, r, sR H o b none) else none
    | _ => none
  | .getstatic _ => if a = 21 then some (pc + 3, ls, .int 1 :: st, H) else some (pc + 3, ls, .retAddr a :: st, H)
  | .new _ => ite1 (aN H < 1000) (pc + 3, ls, .ref (aN H) :: st, gr H a (sizeC a))
  | .newarray _ => match st with | .int n :: r => ite1 (aN H < 1000 ∧ ¬ n < 0 ∧ n.toNatClampNeg ≤ 4096) (pc + 2, ls, .ref (aN H) :: r, gr H a n.toNatClampNeg) | _ => none
  | .anewarray _ => match st with | .int n :: r => ite1 (aN H < 1000 ∧ ¬ n < 0 ∧ n.toNatClampNeg ≤ 4096) (pc + 3, ls, .ref (aN H) :: r, gr H 23 n.toNatClampNeg) | _ => none
  | .arraylength => match st with
    | .ref o :: r => ite1 (kd H o = 20) (pc + 1, ls, .int (Int32.ofNat (sz H o)) :: r, H)
    | .retAddr j :: r => if j ≤ 2 then some (pc + 1, ls, .int (Int32.ofNat (bI S j).1) :: r, H) else ite1 (13 ≤ j ∧ j ≤ 18) (pc + 1, ls, .int (Int32.ofNat (bB j).1) :: r, H)
    | _ => none
  | .iaload => match st with
    | .int i :: .ref o :: r => ite1 (kd H o = 20 ∧ inb i (sz H o)) (pc + 1, ls, .int (aI H o i.toNatClampNeg) :: r, H)
    | .int i :: .retAddr j :: r => ite1 (j ≤ 2 ∧ inb i (bI S j).1) (pc + 1, ls, .int ((bI S j).2 i.toNatClampNeg) :: r, H)
    | _ => none
  | .iastore => match st with | .int x :: .int i :: .ref o :: r => ite1 (kd H o = 20 ∧ inb i (sz H o)) (pc + 1, ls, r, sI H o i.toNatClampNeg x) | _ => none
  | .baload => match st with
    | .int i :: .ref o :: r => ite1 (kd H o = 22 ∧ inb i (sz H o)) (pc + 1, ls, .int (bz (aI H o i.toNatClampNeg)) :: r, H)
    | .int i :: .retAddr j :: r => ite1 ((13 ≤ j ∧ j ≤ 18) ∧ inb i (bB j).1) (pc + 1, ls, .int ((bB j).2 i.toNatClampNeg) :: r, H)
    | _ => none
  | .bastore => match st with | .int x :: .int i :: .ref o :: r => ite1 (kd H o = 22 ∧ inb i (sz H o) ∧ (x = 0 ∨ x = 1)) (pc + 1, ls, r, sI H o i.toNatClampNeg x) | _ => none
  | .laload => match st with | .int i :: .ref o :: r => ite1 (kd H o = 21 ∧ inb i (sz H o)) (pc + 1, ls, .long (aJ H o i.toNatClampNeg) :: r, H) | _ => none
  | .lastore => match st with | .long x :: .int i :: .ref o :: r => ite1 (kd H o = 21 ∧ inb i (sz H o)) (pc + 1, ls, r, sJ H o i.toNatClampNeg x) | _ => none
  | .aaload => match st with | .int i :: .ref o :: r => ite1 (kd H o = 23 ∧ inb i (sz H o)) (pc + 1, ls, rv (aR H o i.toNatClampNeg) :: r, H) | _ => none
  | .aastore => match st with | .ref x :: .int i :: .ref o :: r => ite1 (kd H o = 23 ∧ inb i (sz H o) ∧ kd H x = 4) (pc + 1, ls, r, sR H o i.toNatClampNeg (some x)) | _ => none
  | .invokespecial _ => if a = 1001 then (match st with | [.ref _] => some (pc + 3, ls, [], H) | _ => none) else none
  | .invokestatic _ => if a = 1002 then (match st with | .int y :: .int x :: r => ite1 (r.length ≤ 4) (pc + 3, ls, .int (if y < x then y else x) :: r, H) | _ => none) else if a = 1000 then (match st with
    | [.int n, .int dp, .ref d, .int sp, .ref s] =>
      if kd H s = 20 then ite1 (kd H s = 20 ∧ kd H d = 20 ∧ ¬ sp < 0 ∧ ¬ dp < 0 ∧ ¬ n < 0 ∧ sp.toNatClampNeg + n.toNatClampNeg ≤ sz H s ∧ dp.toNatClampNeg + n.toNatClampNeg ≤ sz H d) (pc + 3, ls, [], cI H s sp.toNatClampNeg d dp.toNatClampNeg n.toNatClampNeg)
      else ite1 (kd H s = 21 ∧ kd H d = 21 ∧ ¬ sp < 0 ∧ ¬ dp < 0 ∧ ¬ n < 0 ∧ sp.toNatClampNeg + n.toNatClampNeg ≤ sz H s ∧ dp.toNatClampNeg + n.toNatClampNeg ≤ sz H d) (pc + 3, ls, [], cJ H s sp.toNatClampNeg d dp.toNatClampNeg n.toNatClampNeg)
    | _ => none) else none
  | _ => none
/-- 1 a return, 2 a call of a method of the tables, 0 a step -/
def kindA (ins : Instr) (a : Nat) : Nat := match ins with
  | .ireturn => 1
  | .lreturn => 1
  | .areturn => 1
  | .return_ => 1
  | .invokevirtual _ => 2
  | .invokespecial _ => if a < 1000 then 2 else 0
  | .invokestatic _ => if a < 1000 then 2 else 0
  | _ => 0
/-- what a return answers -/
def retA (ins : Instr) (rt : Option FieldType) (st : List Value) : Option (Option Value) := match ins with
  | .ireturn => match st, rt with | [.int x], some ty => if okv ty x then some (some (.int x)) else none | _, _ => none
  | .lreturn => match st with | [.long x] => some (some (.long x)) | _ => none
  | .areturn => match st with | [.ref x] => some (some (.ref x)) | [.null] => some (some .null) | _ => none
  | .return_ => match st with | [] => some none | _ => none
  | _ => none
def flatV : List Value → List Value
  | [] => []
  | .long x :: r => .long x :: hole :: flatV r
  | .double x :: r => .double x :: hole :: flatV r
  | v :: r => v :: flatV r
def entryL (args : List Value) (n : Nat) : List Value := flatV args ++ List.replicate (n - (flatV args).length) hole
def argN (ins : Instr) (e : Nat) : Nat := match ins with | .invokestatic _ => e | _ => e + 1
/-- the receiver is of the class that declares the method -/
def recvB (ins : Instr) (H : AH) (cls : String) (as : List Value) : Bool := match ins with
  | .invokestatic _ => true
  | _ => match as with
    | .ref o :: _ => decide ((vwCl[kd H o]?).map (·.1) = some cls)
    | .retAddr j :: _ => decide (3 ≤ j ∧ j ≤ 8) && decide (cls = "java/lang/String")
    | _ => false
def pushr (r : Option Value) (st : List Value) : List Value := match r with | none => st | some v => v :: st
def codeAt (M pc : Nat) : Option AI := ((CT.getD M []).find? (fun r => r.1 == pc)).map (·.2)
def mLoc (M : Nat) : Nat := match MT[M]? with | some r => r.2.2.1 | none => 0
def mRet (M : Nat) : Option FieldType := match MT[M]? with | some r => r.2.2.2.1 | none => none
def mName (M : Nat) : MethodName := match MT[M]? with | some r => r.1 | none => x
