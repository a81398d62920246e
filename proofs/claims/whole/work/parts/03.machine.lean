/-! THE MINI MACHINE: a heap of typed places by address (0: the script, from 1 on the cells that the run has made, in order), locals and stack as lists, one step a function of what comes behind it -/
/-- kind of each cell (0 none, c + 1 an object of class c, 14 byte[], 15 int[], 16 long[], 17 Lang[], 18 Setup[], 19 State[], 20 the script), length, references, how many cells, how many slots -/
abbrev jG : Type := (Nat → Nat) × (Nat → Nat) × (Nat → Nat → Option Nat) × Nat × Nat
abbrev jS : Type := jG × (Nat → Nat → Int32) × (Nat → Nat → Int64)
abbrev jK (S : jS) : Nat → Nat := S.1.1
abbrev jLn (S : jS) : Nat → Nat := S.1.2.1
abbrev jR (S : jS) : Nat → Nat → Option Nat := S.1.2.2.1
abbrev jC (S : jS) : Nat := S.1.2.2.2.1
abbrev jQ (S : jS) : Nat := S.1.2.2.2.2
abbrev jI (S : jS) : Nat → Nat → Int32 := S.2.1
abbrev jJ (S : jS) : Nat → Nat → Int64 := S.2.2
def jup {α : Type} (f : Nat → α) (a : Nat) (x : α) : Nat → α := fun b => if b = a then x else f b
def ju {α : Type} (f : Nat → Nat → α) (a k : Nat) (x : α) : Nat → Nat → α := jup f a (jup (f a) k x)
def jsI (S : jS) (a k : Nat) (x : Int32) : jS := (S.1, ju S.2.1 a k x, S.2.2)
def jsJ (S : jS) (a k : Nat) (x : Int64) : jS := (S.1, S.2.1, ju S.2.2 a k x)
def jsR (S : jS) (a k : Nat) (x : Option Nat) : jS := ((S.1.1, S.1.2.1, ju S.1.2.2.1 a k x, S.1.2.2.2), S.2)
/-- a new cell -/
def jal (S : jS) (kd ln n : Nat) : jS := ((jup S.1.1 (jC S + 1) kd, jup S.1.2.1 (jC S + 1) ln, jup S.1.2.2.1 (jC S + 1) (fun _ => none), jC S + 1, jQ S + n), jup S.2.1 (jC S + 1) (fun _ => 0), jup S.2.2 (jC S + 1) (fun _ => 0))
/-- a stretch copied from one row to another -/
def jcp (S : jS) (a sp b dp n : Nat) : jS := (S.1, jup S.2.1 b (va_cpy (S.2.1 a) (S.2.1 b) sp dp n), S.2.2)
def jcq (S : jS) (a sp b dp n : Nat) : jS := (S.1, S.2.1, jup S.2.2 b (va_cpy (S.2.2 a) (S.2.2 b) sp dp n))
def jjunk : Value := .retAddr 0
def jclr (lv : List Value) (i : Nat) : List Value := match i with
  | 0 => lv
  | k + 1 => match jnth lv k jjunk with
    | .long _ => lv.set k jjunk
    | .double _ => lv.set k jjunk
    | _ => lv
def jst1 (lv : List Value) (i : Nat) (v : Value) : List Value := (jclr lv i).set i v
def jst2 (lv : List Value) (i : Nat) (v : Value) : List Value := ((jclr lv i).set i v).set (i + 1) jjunk
def jexp : List Value → List Value
  | [] => []
  | .long x :: r => .long x :: jjunk :: jexp r
  | .double x :: r => .double x :: jjunk :: jexp r
  | v :: r => v :: jexp r
/-- the locals at a method's entry -/
def jent (n : Nat) (args : List Value) : List Value := jexp args ++ List.replicate (n - (jexp args).length) jjunk
/-- conditions over numbers: nothing here reckons with them -/
noncomputable def jb (c : Prop) : Bool := @decide c (Classical.propDecidable c)
noncomputable def jif {α : Type} (c : Prop) (a b : α) : α := cond (jb c) a b
noncomputable def jmx (x y : Int32) : Int32 := jif (x < y) y x
noncomputable def jmm (x y : Int32) : Int32 := jif (y < x) y x
noncomputable def jin (i : Int32) (n : Nat) : Bool := jb (0 ≤ i ∧ i.toNatClampNeg < n)
def jt (pc : Nat) (off : Int) : Nat := ((pc : Int) + off).toNat
def jcat (r : List Value) : Nat := (r.map fun v => v.category).sum
def jp1 {α : Type} (st : List Value) (bad : α) (k : Int32 → List Value → α) : α := match st with
  | .int x :: r => k x r
  | _ => bad
def jq1 {α : Type} (st : List Value) (bad : α) (k : Int64 → List Value → α) : α := match st with
  | .long x :: r => k x r
  | _ => bad
def jpr {α : Type} (st : List Value) (bad : α) (k : Nat → List Value → α) : α := match st with
  | .ref a :: r => k a r
  | _ => bad
/-- a reference or null -/
def jpo {α : Type} (st : List Value) (bad : α) (kn : List Value → α) (k : Nat → List Value → α) : α := match st with
  | .null :: r => kn r
  | .ref a :: r => k a r
  | _ => bad
def jo {α : Type} (o : Option Nat) (kn : α) (k : Nat → α) : α := match o with
  | none => kn
  | some a => k a
/-- any one entry that takes one place -/
def jpv {α : Type} (st : List Value) (bad : α) (k : Value → List Value → α) : α := match st with
  | .int x :: r => k (.int x) r
  | .ref a :: r => k (.ref a) r
  | .null :: r => k .null r
  | _ => bad
def jp0 {α : Type} (st : List Value) (bad : α) (k : α) : α := match st with
  | [] => k
  | _ => bad
/-- what a class' rows of references hold -/
def jel (kd : Nat) : Nat := match kd with
  | 17 => 2
  | 18 => 9
  | 19 => 10
  | _ => 0
def jat (t : ArrayType) : Nat := match t with
  | .byte => 14
  | .int => 15
  | .long => 16
  | _ => 0
noncomputable def jtab {α : Type} (x : Int32) (lo : Int) (offs : List Int) (kd : α) (k : Int → α) : α := match offs with
  | [] => kd
  | o :: r => jif (x = Int32.ofInt lo) (k o) (jtab x (lo + 1) r kd k)
noncomputable def jlok {α : Type} (x : Int32) (ps : List (Int × Int)) (kd : α) (k : Int → α) : α := match ps with
  | [] => kd
  | p :: r => jif (x = Int32.ofInt p.1) (k p.2) (jlok x r kd k)
/-- a local that is read: what it must be -/
def jld {α : Type} (lv : List Value) (i : Nat) (bad : α) (kI : Int32 → α) (kJ : Int64 → α) (kN : α) (kR : Nat → α) : α := match jnth lv i jjunk with
  | .int x => kI x
  | .long x => kJ x
  | .null => kN
  | .ref a => kR a
  | _ => bad
def jget {α : Type} (own n : Nat) (S : jS) (st : List Value) (bad : α) (k : Value → List Value → α) : α := match jfld own n with
  | none => bad
  | some (ci, j, _) => jpr st bad fun a r => if jK S a = ci + 1 then (match jtg ci j with
      | 0 => k (.int (jI S a j)) r
      | 1 => k (.long (jJ S a j)) r
      | 3 => k (.int (jI S a j)) r
      | _ => jo (jR S a j) (k .null r) (fun b => k (.ref b) r)) else bad
noncomputable def jput {α : Type} (own n : Nat) (ini : Bool) (S : jS) (st : List Value) (bad : α) (k : jS → List Value → α) : α := match jfld own n with
  | none => bad
  | some (ci, j, nest, _) => cond ((jT ci j).2.2.2 && !(ini && own.beq ci && nest.beq 0)) bad (match jtg ci j with
      | 0 => jp1 st bad fun x r => jpr r bad fun a r => if jK S a = ci + 1 then k (jsI S a j x) r else bad
      | 1 => jq1 st bad fun x r => jpr r bad fun a r => if jK S a = ci + 1 then k (jsJ S a j x) r else bad
      | 3 => jp1 st bad fun x r => jpr r bad fun a r => if jK S a = ci + 1 then (jif (x = 0 ∨ x = 1) (k (jsI S a j x) r) bad) else bad
      | _ => jpo st bad (fun r => jpr r bad fun a r => if jK S a = ci + 1 then k (jsR S a j none) r else bad) (fun b r => jpr r bad fun a r => if jK S a = ci + 1 then k (jsR S a j (some b)) r else bad))
/-- room for one more cell of n slots -/
noncomputable def jrm (S : jS) (n : Nat) : Bool := jb (jC S + 1 ≤ 600000 ∧ jQ S + n ≤ 7302250)
def jfix (pc : Nat) (off : Int) : Bool := decide ((pc : Int) + off = ((jt pc off : Nat) : Int))
/-- a jump -/
def jmp {α : Type} (pc : Nat) (off : Int) (bad : α) (k : Nat → α) : α := cond (jfix pc off) (k (jt pc off)) bad
/-- one step: mi's own class, whether it is a constructor, what it returns; the instruction, where it stands; locals, stack, heap; then what comes: nothing, the next place, a call (method, arguments, the stack below), the end -/
noncomputable def jstep {α : Type} (own : Nat) (ini : Bool) (rt : Nat) (i : Instr) (pc : Nat) (lv st : List Value) (S : jS) (bad : α) (kn : Nat → List Value → List Value → jS → α) (kc : Nat → List Value → List Value → α) (kr : Option Value → jS → α) : α :=
  match i with
  | .aload_n n => jld lv n bad (fun _ => bad) (fun _ => bad) (kn (pc + 1) lv (.null :: st) S) (fun a => kn (pc + 1) lv (.ref a :: st) S)
  | .aload n => jld lv n bad (fun _ => bad) (fun _ => bad) (kn (pc + 2) lv (.null :: st) S) (fun a => kn (pc + 2) lv (.ref a :: st) S)
  | .iload_n n => jld lv n bad (fun x => kn (pc + 1) lv (.int x :: st) S) (fun _ => bad) bad (fun _ => bad)
  | .iload n => jld lv n bad (fun x => kn (pc + 2) lv (.int x :: st) S) (fun _ => bad) bad (fun _ => bad)
  | .lload_n n => jld lv n bad (fun _ => bad) (fun x => kn (pc + 1) lv (.long x :: st) S) bad (fun _ => bad)
  | .lload n => jld lv n bad (fun _ => bad) (fun x => kn (pc + 2) lv (.long x :: st) S) bad (fun _ => bad)
  | .istore_n n => jp1 st bad fun x r => if (n : Nat) < lv.length then kn (pc + 1) (jst1 lv n (.int x)) r S else bad
  | .istore n => jp1 st bad fun x r => if n < lv.length then kn (pc + 2) (jst1 lv n (.int x)) r S else bad
  | .lstore_n n => jq1 st bad fun x r => if (n : Nat) + 1 < lv.length then kn (pc + 1) (jst2 lv n (.long x)) r S else bad
  | .lstore n => jq1 st bad fun x r => if n + 1 < lv.length then kn (pc + 2) (jst2 lv n (.long x)) r S else bad
  | .astore_n n => jpo st bad (fun r => if (n : Nat) < lv.length then kn (pc + 1) (jst1 lv n .null) r S else bad) (fun a r => if (n : Nat) < lv.length then kn (pc + 1) (jst1 lv n (.ref a)) r S else bad)
  | .astore n => jpo st bad (fun r => if n < lv.length then kn (pc + 2) (jst1 lv n .null) r S else bad) (fun a r => if n < lv.length then kn (pc + 2) (jst1 lv n (.ref a)) r S else bad)
  | .iinc n c => jld lv n bad (fun x => if n < lv.length then kn (pc + 3) (jst1 lv n (.int (x + Int32.ofInt c))) st S else bad) (fun _ => bad) bad (fun _ => bad)
  | .iconst v => kn (pc + 1) lv (.int (Int32.ofInt v) :: st) S
  | .bipush v => kn (pc + 2) lv (.int (Int8.ofInt v).toInt32 :: st) S
  | .sipush v => kn (pc + 3) lv (.int (Int16.ofInt v).toInt32 :: st) S
  | .lconst v => kn (pc + 1) lv (.long (Int64.ofNat (v : Nat)) :: st) S
  | .aconst_null => kn (pc + 1) lv (.null :: st) S
  | .ldc n => match jcti own n with
    | none => bad
    | some (x, _) => kn (pc + 2) lv (.int x :: st) S
  | .ldc_w n => match jcti own n with
    | none => bad
    | some (x, _) => kn (pc + 3) lv (.int x :: st) S
  | .ldc2_w n => match jctj own n with
    | none => bad
    | some (x, _) => kn (pc + 3) lv (.long x :: st) S
  | .iadd => jp1 st bad fun y r => jp1 r bad fun x r => kn (pc + 1) lv (.int (x + y) :: r) S
  | .isub => jp1 st bad fun y r => jp1 r bad fun x r => kn (pc + 1) lv (.int (x - y) :: r) S
  | .imul => jp1 st bad fun y r => jp1 r bad fun x r => kn (pc + 1) lv (.int (x * y) :: r) S
  | .iand => jp1 st bad fun y r => jp1 r bad fun x r => kn (pc + 1) lv (.int (x &&& y) :: r) S
  | .ior => jp1 st bad fun y r => jp1 r bad fun x r => kn (pc + 1) lv (.int (x ||| y) :: r) S
  | .ishl => jp1 st bad fun y r => jp1 r bad fun x r => kn (pc + 1) lv (.int (x <<< (y &&& 31)) :: r) S
  | .ishr => jp1 st bad fun y r => jp1 r bad fun x r => kn (pc + 1) lv (.int (x >>> (y &&& 31)) :: r) S
  | .iushr => jp1 st bad fun y r => jp1 r bad fun x r => kn (pc + 1) lv (.int (x.toUInt32 >>> (y.toUInt32 &&& Int32.toUInt32 31)).toInt32 :: r) S
  | .idiv => jp1 st bad fun y r => jp1 r bad fun x r => jif (y = 0) bad (kn (pc + 1) lv (.int (x / y) :: r) S)
  | .irem => jp1 st bad fun y r => jp1 r bad fun x r => jif (y = 0) bad (kn (pc + 1) lv (.int (x - x / y * y) :: r) S)
  | .ladd => jq1 st bad fun y r => jq1 r bad fun x r => kn (pc + 1) lv (.long (x + y) :: r) S
  | .lmul => jq1 st bad fun y r => jq1 r bad fun x r => kn (pc + 1) lv (.long (x * y) :: r) S
  | .land => jq1 st bad fun y r => jq1 r bad fun x r => kn (pc + 1) lv (.long (x &&& y) :: r) S
  | .lor => jq1 st bad fun y r => jq1 r bad fun x r => kn (pc + 1) lv (.long (x ||| y) :: r) S
  | .lxor => jq1 st bad fun y r => jq1 r bad fun x r => kn (pc + 1) lv (.long (x ^^^ y) :: r) S
  | .ldiv => jq1 st bad fun y r => jq1 r bad fun x r => jif (y = 0) bad (kn (pc + 1) lv (.long (x / y) :: r) S)
  | .lrem => jq1 st bad fun y r => jq1 r bad fun x r => jif (y = 0) bad (kn (pc + 1) lv (.long (x - x / y * y) :: r) S)
  | .lshl => jp1 st bad fun y r => jq1 r bad fun x r => kn (pc + 1) lv (.long (x <<< (y.toInt64 &&& 63)) :: r) S
  | .lushr => jp1 st bad fun y r => jq1 r bad fun x r => kn (pc + 1) lv (.long (x.toUInt64 >>> (y.toInt64.toUInt64 &&& Int64.toUInt64 63)).toInt64 :: r) S
  | .lcmp => jq1 st bad fun y r => jq1 r bad fun x r => kn (pc + 1) lv (.int (lg_cmp x y) :: r) S
  | .i2l => jp1 st bad fun x r => kn (pc + 1) lv (.long x.toInt64 :: r) S
  | .l2i => jq1 st bad fun x r => kn (pc + 1) lv (.int x.toInt32 :: r) S
  | .i2b => jp1 st bad fun x r => kn (pc + 1) lv (.int x.toInt8.toInt32 :: r) S
  | .dup => jpv st bad fun v r => kn (pc + 1) lv (v :: v :: r) S
  | .dup2 => jpv st bad fun v r => jpv r bad fun w r => kn (pc + 1) lv (v :: w :: v :: w :: r) S
  | .pop => jpv st bad fun _ r => kn (pc + 1) lv r S
  | .goto o => jmp pc o bad fun t => kn t lv st S
  | .ifCond .eq o => jp1 st bad fun x r => jmp pc o bad fun t => jif (x = 0) (kn t lv r S) (kn (pc + 3) lv r S)
  | .ifCond .ne o => jp1 st bad fun x r => jmp pc o bad fun t => jif (x = 0) (kn (pc + 3) lv r S) (kn t lv r S)
  | .ifCond .lt o => jp1 st bad fun x r => jmp pc o bad fun t => jif (x < 0) (kn t lv r S) (kn (pc + 3) lv r S)
  | .ifCond .ge o => jp1 st bad fun x r => jmp pc o bad fun t => jif (0 ≤ x) (kn t lv r S) (kn (pc + 3) lv r S)
  | .ifCond .gt o => jp1 st bad fun x r => jmp pc o bad fun t => jif (0 < x) (kn t lv r S) (kn (pc + 3) lv r S)
  | .ifCond .le o => jp1 st bad fun x r => jmp pc o bad fun t => jif (x ≤ 0) (kn t lv r S) (kn (pc + 3) lv r S)
  | .if_icmp .eq o => jp1 st bad fun y r => jp1 r bad fun x r => jmp pc o bad fun t => jif (x = y) (kn t lv r S) (kn (pc + 3) lv r S)
  | .if_icmp .ne o => jp1 st bad fun y r => jp1 r bad fun x r => jmp pc o bad fun t => jif (x = y) (kn (pc + 3) lv r S) (kn t lv r S)
  | .if_icmp .lt o => jp1 st bad fun y r => jp1 r bad fun x r => jmp pc o bad fun t => jif (x < y) (kn t lv r S) (kn (pc + 3) lv r S)
  | .if_icmp .ge o => jp1 st bad fun y r => jp1 r bad fun x r => jmp pc o bad fun t => jif (y ≤ x) (kn t lv r S) (kn (pc + 3) lv r S)
  | .if_icmp .gt o => jp1 st bad fun y r => jp1 r bad fun x r => jmp pc o bad fun t => jif (y < x) (kn t lv r S) (kn (pc + 3) lv r S)
  | .if_icmp .le o => jp1 st bad fun y r => jp1 r bad fun x r => jmp pc o bad fun t => jif (x ≤ y) (kn t lv r S) (kn (pc + 3) lv r S)
  | .if_acmp .ne o => jpo st bad (fun r => jpo r bad (fun r => jmp pc o bad fun _ => kn (pc + 3) lv r S) (fun _ r => jmp pc o bad fun t => kn t lv r S)) (fun b r => jpo r bad (fun r => jmp pc o bad fun t => kn t lv r S) (fun a r => jmp pc o bad fun t => if a = b then kn (pc + 3) lv r S else kn t lv r S))
  | .ifnull o => jpo st bad (fun r => jmp pc o bad fun t => kn t lv r S) (fun _ r => kn (pc + 3) lv r S)
  | .ifnonnull o => jpo st bad (fun r => kn (pc + 3) lv r S) (fun _ r => jmp pc o bad fun t => kn t lv r S)
  | .tableswitch d lo hi offs => jp1 st bad fun x r => cond (decide (-2147483648 ≤ lo) && decide (hi = lo + (offs.toList.length : Int) - 1) && decide (hi ≤ 2147483647)) (jtab x lo offs.toList (jmp pc d bad fun t => kn t lv r S) (fun o => jmp pc o bad fun t => kn t lv r S)) bad
  | .lookupswitch d ps => jp1 st bad fun x r => cond ((ps.toList.zip (ps.toList.drop 1)).all (fun (a, next) => a.1 < next.1) && ps.toList.all (fun p => decide (-2147483648 ≤ p.1) && decide (p.1 ≤ 2147483647))) (jlok x ps.toList (jmp pc d bad fun t => kn t lv r S) (fun o => jmp pc o bad fun t => kn t lv r S)) bad
  | .getfield n => jget own n S st bad fun v r => kn (pc + 3) lv (v :: r) S
  | .putfield n => jput own n ini S st bad fun S' r => kn (pc + 3) lv r S'
  | .iaload => jp1 st bad fun j r => jpr r bad fun a r => if jK S a = 15 ∨ jK S a = 20 then cond (jin j (jLn S a)) (kn (pc + 1) lv (.int (jI S a j.toNatClampNeg) :: r) S) bad else bad
  | .baload => jp1 st bad fun j r => jpr r bad fun a r => if jK S a = 14 then cond (jin j (jLn S a)) (kn (pc + 1) lv (.int (jI S a j.toNatClampNeg) :: r) S) bad else bad
  | .laload => jp1 st bad fun j r => jpr r bad fun a r => if jK S a = 16 then cond (jin j (jLn S a)) (kn (pc + 1) lv (.long (jJ S a j.toNatClampNeg) :: r) S) bad else bad
  | .aaload => jp1 st bad fun j r => jpr r bad fun a r => if 17 ≤ jK S a ∧ jK S a ≤ 19 then cond (jin j (jLn S a)) (jo (jR S a j.toNatClampNeg) (kn (pc + 1) lv (.null :: r) S) (fun b => kn (pc + 1) lv (.ref b :: r) S)) bad else bad
  | .iastore => jp1 st bad fun x r => jp1 r bad fun j r => jpr r bad fun a r => if jK S a = 15 then cond (jin j (jLn S a)) (kn (pc + 1) lv r (jsI S a j.toNatClampNeg x)) bad else bad
  | .bastore => jp1 st bad fun x r => jp1 r bad fun j r => jpr r bad fun a r => if jK S a = 14 then cond (jin j (jLn S a)) (kn (pc + 1) lv r (jsI S a j.toNatClampNeg x.toInt8.toInt32)) bad else bad
  | .lastore => jq1 st bad fun x r => jp1 r bad fun j r => jpr r bad fun a r => if jK S a = 16 then cond (jin j (jLn S a)) (kn (pc + 1) lv r (jsJ S a j.toNatClampNeg x)) bad else bad
  | .aastore => jpo st bad (fun r => jp1 r bad fun j r => jpr r bad fun a r => if 17 ≤ jK S a ∧ jK S a ≤ 19 then cond (jin j (jLn S a)) (kn (pc + 1) lv r (jsR S a j.toNatClampNeg none)) bad else bad) (fun b r => jp1 r bad fun j r => jpr r bad fun a r => if 17 ≤ jK S a ∧ jK S a ≤ 19 then (if jK S b = jel (jK S a) then cond (jin j (jLn S a)) (kn (pc + 1) lv r (jsR S a j.toNatClampNeg (some b))) bad else bad) else bad)
  | .arraylength => jpr st bad fun a r => if 14 ≤ jK S a then kn (pc + 1) lv (.int (Int32.ofNat (jLn S a)) :: r) S else bad
  | .new n => match jcln own n with
    | none => bad
    | some (ci, _) => cond (decide (ci < 13)) (cond (jrm S (jN ci)) (kn (pc + 3) lv (.ref (jC S + 1) :: st) (jal S (ci + 1) 0 (jN ci))) bad) bad
  | .newarray t => jp1 st bad fun x r => cond (decide (0 < jat t)) (cond (jb (0 ≤ x) && jrm S x.toNatClampNeg) (kn (pc + 2) lv (.ref (jC S + 1) :: r) (jal S (jat t) x.toNatClampNeg x.toNatClampNeg)) bad) bad
  | .anewarray n => match jcln own n with
    | none => bad
    | some (ci, _) => jp1 st bad fun x r => cond (ci.beq 1 || ci.beq 8 || ci.beq 9) (cond (jb (0 ≤ x) && jrm S x.toNatClampNeg) (kn (pc + 3) lv (.ref (jC S + 1) :: r) (jal S (bif ci.beq 1 then 17 else bif ci.beq 8 then 18 else 19) x.toNatClampNeg x.toNatClampNeg)) bad) bad
  | .invokevirtual n => match jlnk own n with
    | none => bad
    | some (m, nest, _) => cond (nest.beq 0 && decide (m < 282) && (jmt m).2.2.2.2.1.beq 0) (jpr (st.drop (jmt m).2.2.2.1) bad fun a r => if jK S a = (jmt m).1 + 1 then cond (decide (jcat r ≤ 8) && decide ((jexp (.ref a :: (st.take (jmt m).2.2.2.1).reverse)).length ≤ (jmt m).2.1)) (kc m (.ref a :: (st.take (jmt m).2.2.2.1).reverse) r) bad else bad) bad
  | .invokespecial n => match jlnk own n with
    | none => bad
    | some (m, nest, _) => cond (m.beq 1000) (jpr st bad fun _ r => cond (decide (jcat r ≤ 8)) (kn (pc + 3) lv r S) bad) (cond (nest.beq 0 && decide (m < 282) && (jmt m).2.2.2.2.1.beq 2) (jpr (st.drop (jmt m).2.2.2.1) bad fun a r => cond (decide (jcat r ≤ 8) && decide ((jexp (.ref a :: (st.take (jmt m).2.2.2.1).reverse)).length ≤ (jmt m).2.1)) (kc m (.ref a :: (st.take (jmt m).2.2.2.1).reverse) r) bad) bad)
  | .invokestatic n => match jlnk own n with
    | none => bad
    | some (m, _, _) => cond (m.beq 1001)
        (jp1 st bad fun k r => jp1 r bad fun dp r => jpr r bad fun b r => jp1 r bad fun sp r => jpr r bad fun a r =>
          if (jK S a = 14 ∧ jK S b = 14 ∨ jK S a = 15 ∧ jK S b = 15) ∧ a ≠ b then cond (jb (0 ≤ k ∧ 0 ≤ sp ∧ 0 ≤ dp ∧ sp.toNatClampNeg + k.toNatClampNeg ≤ jLn S a ∧ dp.toNatClampNeg + k.toNatClampNeg ≤ jLn S b) && decide (jcat r ≤ 8)) (kn (pc + 3) lv r (jcp S a sp.toNatClampNeg b dp.toNatClampNeg k.toNatClampNeg)) bad else (if (jK S a = 16 ∧ jK S b = 16) ∧ a ≠ b then cond (jb (0 ≤ k ∧ 0 ≤ sp ∧ 0 ≤ dp ∧ sp.toNatClampNeg + k.toNatClampNeg ≤ jLn S a ∧ dp.toNatClampNeg + k.toNatClampNeg ≤ jLn S b) && decide (jcat r ≤ 8)) (kn (pc + 3) lv r (jcq S a sp.toNatClampNeg b dp.toNatClampNeg k.toNatClampNeg)) bad else bad))
        (cond (m.beq 1002) (jp1 st bad fun y r => jp1 r bad fun x r => cond (decide (jcat r ≤ 8)) (kn (pc + 3) lv (.int (jmx x y) :: r) S) bad) (cond (m.beq 1003) (jp1 st bad fun y r => jp1 r bad fun x r => cond (decide (jcat r ≤ 8)) (kn (pc + 3) lv (.int (jmm x y) :: r) S) bad) (cond (decide (m < 282) && (jmt m).2.2.2.2.1.beq 1 && decide ((jmt m).2.2.2.1 ≤ st.length) && decide (jcat (st.drop (jmt m).2.2.2.1) ≤ 8) && decide ((jexp (st.take (jmt m).2.2.2.1).reverse).length ≤ (jmt m).2.1)) (kc m (st.take (jmt m).2.2.2.1).reverse (st.drop (jmt m).2.2.2.1)) bad)))
  | .ireturn => jp1 st bad fun x r => jp0 r bad (match rt with
      | 1 => kr (some (.int x)) S
      | 4 => jif (x = 0 ∨ x = 1) (kr (some (.int x)) S) bad
      | _ => bad)
  | .lreturn => jq1 st bad fun x r => jp0 r bad (match rt with
      | 2 => kr (some (.long x)) S
      | _ => bad)
  | .areturn => jpo st bad (fun r => jp0 r bad (match rt with
      | 3 => kr (some .null) S
      | _ => bad)) (fun a r => jp0 r bad (match rt with
      | 3 => kr (some (.ref a)) S
      | _ => bad))
  | .return_ => jp0 st bad (match rt with
      | 0 => kr none S
      | _ => bad)
  | _ => bad
abbrev jO : Type := Option (Option Value × jS)
def jcV {α : Type} (r : jO) (k : jS → Option α) : Option α := match r with
  | some (none, S) => k S
  | _ => none
def jcI {α : Type} (r : jO) (k : Int32 → jS → Option α) : Option α := match r with
  | some (some (.int x), S) => k x S
  | _ => none
def jcJ {α : Type} (r : jO) (k : Int64 → jS → Option α) : Option α := match r with
  | some (some (.long x), S) => k x S
  | _ => none
def jcR {α : Type} (r : jO) (kn : jS → Option α) (k : Nat → jS → Option α) : Option α := match r with
  | some (some .null, S) => kn S
  | some (some (.ref a), S) => k a S
  | _ => none
/-- behind a call: by what the method returns -/
def jret {α : Type} (rt : Nat) (r : jO) (k : List Value → jS → Option α) : Option α := match rt with
  | 0 => jcV r (fun S => k [] S)
  | 1 => jcI r (fun x S => k [.int x] S)
  | 2 => jcJ r (fun x S => k [.long x] S)
  | 3 => jcR r (fun S => k [.null] S) (fun a S => k [.ref a] S)
  | 4 => jcI r (fun x S => k [.int x] S)
  | _ => none
/-- the instruction at a place of a method -/
def jat' (mi pc : Nat) : Option (Instr × Nat) := jfind (jmt mi).2.2.2.2.2 pc
def jini (mi : Nat) : Bool := (jmt mi).2.2.2.2.1.beq 2
/-- locals that are read no more are forgotten at some places -/
def jkill : List Nat → List Value → List Value
  | [], lv => lv
  | k :: ks, lv => jkill ks (lv.set k jjunk)
def jklp (kl : List (Nat × List Nat)) (pc : Nat) (lv : List Value) : List Value := match jfind kl pc with
  | none => lv
  | some ks => jkill ks lv
def jkl (mi : Nat) : List (Nat × List Nat) := jnth jkls mi []
noncomputable def jrun : Nat → Nat → Nat → Nat → List Value → List Value → jS → jO
  | 0, _, _, _, _, _, _ => none
  | n + 1, d, mi, pc, lv, st, S => match jat' mi pc with
    | none => none
    | some (i, _) => jstep (jmt mi).1 (jini mi) (jmt mi).2.2.1 i pc lv st S none (fun pc' lv' st' S' => jrun n d mi pc' (jklp (jkl mi) pc' lv') st' S')
        (fun m args rest => match d with
          | 0 => none
          | d' + 1 => jret (jmt m).2.2.1 (jrun n d' m 0 (jent (jmt m).2.1 args) [] S) (fun vs S' => jrun n d mi (pc + 3) (jklp (jkl mi) (pc + 3) lv) (vs ++ rest) S'))
        (fun v S' => some (v, S'))
