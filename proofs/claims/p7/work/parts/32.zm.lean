/-! a small machine: a program's cells by numbers, its step as a function; what it does the large one does (part 33) -/
abbrev zM : Type := (Nat → Nat → Int32) × (Nat → Nat → Int64) × (Nat → Nat)
abbrev zL : Type := List (Nat × Value)
def z_ui (μ : zM) (r k : Nat) (x : Int32) : zM := (fun r' k' => bif Nat.beq r' r && Nat.beq k' k then x else μ.1 r' k', μ.2)
def z_uj (μ : zM) (r k : Nat) (x : Int64) : zM := (μ.1, fun r' k' => bif Nat.beq r' r && Nat.beq k' k then x else μ.2.1 r' k', μ.2.2)
def z_ur (μ : zM) (r q : Nat) : zM := (μ.1, μ.2.1, fun r' => bif Nat.beq r' r then q else μ.2.2 r')
def z_rv (q : Nat) : Value := bif Nat.beq q 0 || Nat.ble 79 q then .null else .ref q
/-- what a read of a field gives -/
def z_gv (μ : zM) (ci r k : Nat) : Value := match z_fk ci k with
  | 0 => .int (μ.1 r k)
  | 1 => .long (μ.2.1 r k)
  | 2 => .int (μ.1 r k)
  | 3 => .ref (z_gr r k)
  | 4 => z_rv (μ.2.2 r)
  | _ => .null
def z_b01 (x : Int32) : Bool := x == 0 || x == 1
/-- a write of a field -/
def z_pv (μ : zM) (ci r k : Nat) (v : Value) : Option zM := match z_fk ci k, v with
  | 0, .int x => some (z_ui μ r k x)
  | 1, .long x => some (z_uj μ r k x)
  | 2, .int x => bif z_b01 x then some (z_ui μ r k x) else none
  | 4, .ref q => bif Nat.beq q 0 || Nat.ble 79 q then none else some (z_ur μ r q)
  | _, _ => none
def z_in (i : Int32) (n : Nat) : Bool := decide (0 ≤ i.toInt) && decide (i.toInt < (n : Int))
theorem z_in_iff {i : Int32} {n : Nat} : z_in i n = true ↔ vp_in i n := by
  unfold z_in
  rw [vp_in_iff, Bool.and_eq_true, decide_eq_true_iff, decide_eq_true_iff]
def z_rm : zL → Nat → zL
  | [], _ => []
  | q :: r, i => bif Nat.beq q.1 i || (Nat.beq (q.1 + 1) i && Nat.beq q.2.category 2) then z_rm r i else q :: z_rm r i
def z_rm2 : zL → Nat → zL
  | [], _ => []
  | q :: r, i => bif Nat.beq q.1 i || (Nat.beq q.1 (i + 1) || (Nat.beq (q.1 + 1) i && Nat.beq q.2.category 2)) then z_rm2 r i else q :: z_rm2 r i
def z_ii (f : Int32 → Int32 → Value) : List Value → Option (List Value)
  | .int y :: .int x :: r => some (f x y :: r)
  | _ => none
def z_ii0 (f : Int32 → Int32 → Value) : List Value → Option (List Value)
  | .int y :: .int x :: r => bif y == 0 then none else some (f x y :: r)
  | _ => none
def z_ll (f : Int64 → Int64 → Value) : List Value → Option (List Value)
  | .long y :: .long x :: r => some (f x y :: r)
  | _ => none
def z_ll0 (f : Int64 → Int64 → Value) : List Value → Option (List Value)
  | .long y :: .long x :: r => bif y == 0 then none else some (f x y :: r)
  | _ => none
def z_li (f : Int64 → Int32 → Value) : List Value → Option (List Value)
  | .int y :: .long x :: r => some (f x y :: r)
  | _ => none
def z_i1 (f : Int32 → Value) : List Value → Option (List Value)
  | .int x :: r => some (f x :: r)
  | _ => none
def z_l1 (f : Int64 → Value) : List Value → Option (List Value)
  | .long x :: r => some (f x :: r)
  | _ => none
def z_dup : List Value → Option (List Value)
  | v :: r => bif Nat.beq v.category 1 then some (v :: v :: r) else none
  | _ => none
def z_pop : List Value → Option (List Value)
  | v :: r => bif Nat.beq v.category 1 then some r else none
  | _ => none
def z_dup2 : List Value → Option (List Value)
  | v :: w :: r => bif Nat.beq v.category 1 && Nat.beq w.category 1 then some (v :: w :: v :: w :: r) else none
  | _ => none
def z_pop2 : List Value → Option (List Value)
  | .long _ :: r => some r
  | _ => none
/-- instructions that touch the stack alone -/
def z_st (ins : Instr) (st : List Value) : Option (List Value) := match ins with
  | .iconst n => some (.int (Int32.ofInt n) :: st)
  | .bipush n => some (.int (Int8.ofInt n).toInt32 :: st)
  | .sipush n => some (.int (Int16.ofInt n).toInt32 :: st)
  | .lconst n => some (.long (Int64.ofNat (n : Nat)) :: st)
  | .iadd => z_ii (fun x y => .int (x + y)) st
  | .isub => z_ii (fun x y => .int (x - y)) st
  | .imul => z_ii (fun x y => .int (x * y)) st
  | .iand => z_ii (fun x y => .int (x &&& y)) st
  | .ior => z_ii (fun x y => .int (x ||| y)) st
  | .idiv => z_ii0 (fun x y => .int (x / y)) st
  | .irem => z_ii0 (fun x y => .int (x - x / y * y)) st
  | .ishl => z_ii (fun x y => .int (x <<< (y &&& 31))) st
  | .ishr => z_ii (fun x y => .int (x >>> (y &&& 31))) st
  | .iushr => z_ii (fun x y => .int (x.toUInt32 >>> (y.toUInt32 &&& Int32.toUInt32 31)).toInt32) st
  | .ineg => z_i1 (fun x => .int (-x)) st
  | .ladd => z_ll (fun x y => .long (x + y)) st
  | .lsub => z_ll (fun x y => .long (x - y)) st
  | .lmul => z_ll (fun x y => .long (x * y)) st
  | .land => z_ll (fun x y => .long (x &&& y)) st
  | .lor => z_ll (fun x y => .long (x ||| y)) st
  | .lxor => z_ll (fun x y => .long (x ^^^ y)) st
  | .lrem => z_ll0 (fun x y => .long (x - x / y * y)) st
  | .lcmp => z_ll (fun x y => .int (lg_cmp x y)) st
  | .lshl => z_li (fun x y => .long (x <<< (y.toInt64 &&& 63))) st
  | .lshr => z_li (fun x y => .long (x >>> (y.toInt64 &&& 63))) st
  | .lushr => z_li (fun x y => .long (x.toUInt64 >>> (y.toInt64.toUInt64 &&& Int64.toUInt64 63)).toInt64) st
  | .i2l => z_i1 (fun x => .long x.toInt64) st
  | .l2i => z_l1 (fun x => .int x.toInt32) st
  | .dup => z_dup st
  | .dup2 => z_dup2 st
  | .pop => z_pop st
  | .pop2 => z_pop2 st
  | _ => none
def z_cmp (c : Jvm.ClassFile.Cond) (x y : Int32) : Bool := match c with
  | .eq => decide (x = y)
  | .ne => !decide (x = y)
  | .lt => decide (x < y)
  | .ge => decide (y ≤ x)
  | .gt => decide (y < x)
  | .le => decide (x ≤ y)
def z_to (pc : Nat) (off : Int) : Option Nat := bif decide (0 ≤ (pc : Int) + off) then some ((pc : Int) + off).toNat else none
/-- jumps: where to, and with which stack -/
def z_jp (ins : Instr) (pc : Nat) (st : List Value) : Option (Nat × List Value) := match ins, st with
  | .goto off, st => (z_to pc off).map (fun t => (t, st))
  | .ifCond c off, .int x :: r => (z_to pc off).map (fun t => (bif z_cmp c x 0 then t else pc + 3, r))
  | .if_icmp c off, .int y :: .int x :: r => (z_to pc off).map (fun t => (bif z_cmp c x y then t else pc + 3, r))
  | .ifnull _, .ref _ :: r => some (pc + 3, r)
  | .tableswitch dflt lo hi offs, .int x :: r => bif decide (x.toInt < lo) || decide (hi < x.toInt) then (z_to pc dflt).map (fun t => (t, r)) else
      match offs[(x.toInt - lo).toNat]? with
      | some off => (z_to pc off).map (fun t => (t, r))
      | none => none
  | _, _ => none
/-- locals -/
def z_lv (nL : Nat) (ins : Instr) (lv : zL) (st : List Value) : Option (zL × List Value) :=
  let s1 := fun (i : Nat) (v : Value) (r : List Value) => (bif Nat.blt i nL then some ((i, v) :: z_rm lv i, r) else none)
  let s2 := fun (i : Nat) (v : Value) (r : List Value) => (bif Nat.blt (i + 1) nL then some ((i, v) :: z_rm2 lv i, r) else none)
  match ins with
  | .iload_n k => (match z_lk lv k with | some (.int x) => some (lv, .int x :: st) | _ => none)
  | .iload k => (match z_lk lv k with | some (.int x) => some (lv, .int x :: st) | _ => none)
  | .lload_n k => (match z_lk lv k with | some (.long x) => some (lv, .long x :: st) | _ => none)
  | .lload k => (match z_lk lv k with | some (.long x) => some (lv, .long x :: st) | _ => none)
  | .aload_n k => (match z_lk lv k with | some (.ref x) => some (lv, .ref x :: st) | _ => none)
  | .aload k => (match z_lk lv k with | some (.ref x) => some (lv, .ref x :: st) | _ => none)
  | .istore_n k => (match st with | .int x :: r => s1 k (.int x) r | _ => none)
  | .istore k => (match st with | .int x :: r => s1 k (.int x) r | _ => none)
  | .lstore_n k => (match st with | .long x :: r => s2 k (.long x) r | _ => none)
  | .lstore k => (match st with | .long x :: r => s2 k (.long x) r | _ => none)
  | .astore_n k => (match st with | .ref x :: r => s1 k (.ref x) r | _ => none)
  | .astore k => (match st with | .ref x :: r => s1 k (.ref x) r | _ => none)
  | .iinc k n => (match z_lk lv k with | some (.int x) => s1 k (.int (x + Int32.ofInt n)) st | _ => none)
  | _ => none
/-- the class's two tables and the script (xs: its length and 1, its ints; or 0: there is none), which stay: their lengths and ints -/
def z_ro (xs : Nat × (Nat → Int32)) (r : Nat) : Nat × (Nat → Int32) := bif Nat.beq r 101 then (30, fun j => z_han.getD j 0) else bif Nat.beq r 102 then (30, fun j => z_ohan.getD j 0) else (xs.1 - 1, xs.2)
def z_av (xs : Nat × (Nat → Int32)) (r : Nat) : Bool := Nat.beq r 101 || (Nat.beq r 102 || (Nat.beq r 100 && Nat.blt 0 xs.1))
/-- fields and arrays -/
def z_hp (xs : Nat × (Nat → Int32)) (np oc : Nat) (ins : Instr) (st : List Value) (μ : zM) : Option (List Value × zM) := match ins, st with
  | .getfield idx, .ref r :: t => (match z_lk (z_flds.getD oc []) idx with
      | some (ci, k) => bif Nat.blt r np && (Nat.beq (z_sh r).1 0 && (Nat.beq (z_sh r).2.1 ci && Nat.blt k (z_sh r).2.2)) then some (z_gv μ ci r k :: t, μ) else none
      | none => none)
  | .putfield idx, v :: .ref r :: t => (match z_lk (z_flds.getD oc []) idx with
      | some (ci, k) => bif Nat.blt r np && (Nat.beq (z_sh r).1 0 && (Nat.beq (z_sh r).2.1 ci && Nat.blt k (z_sh r).2.2)) then (z_pv μ ci r k v).map (fun μ' => (t, μ')) else none
      | none => none)
  | .getstatic idx, t => (match z_lk (z_stas.getD oc []) idx with | some r => some (.ref r :: t, μ) | none => none)
  | .ldc2_w idx, t => (match z_lk (z_lons.getD oc []) idx with | some x => some (.long x :: t, μ) | none => none)
  | .iaload, .int i :: .ref r :: t => bif Nat.blt r 100 then (bif Nat.blt r np && (Nat.beq (z_sh r).1 1 && z_in i (z_sh r).2.2) then some (.int (μ.1 r i.toNatClampNeg) :: t, μ) else none)
      else (bif z_av xs r && z_in i (z_ro xs r).1 then some (.int ((z_ro xs r).2 i.toNatClampNeg) :: t, μ) else none)
  | .baload, .int i :: .ref r :: t => bif Nat.blt r np && (Nat.beq (z_sh r).1 3 && z_in i (z_sh r).2.2) then some (.int (μ.1 r i.toNatClampNeg) :: t, μ) else none
  | .laload, .int i :: .ref r :: t => bif Nat.blt r np && (Nat.beq (z_sh r).1 2 && z_in i (z_sh r).2.2) then some (.long (μ.2.1 r i.toNatClampNeg) :: t, μ) else none
  | .aaload, .int i :: .ref r :: t => bif Nat.blt r np && (Nat.beq (z_sh r).1 4 && z_in i (z_sh r).2.2) then some (.ref (z_gr r i.toNatClampNeg) :: t, μ) else none
  | .iastore, .int x :: .int i :: .ref r :: t => bif Nat.blt r np && (Nat.beq (z_sh r).1 1 && z_in i (z_sh r).2.2) then some (t, z_ui μ r i.toNatClampNeg x) else none
  | .bastore, .int x :: .int i :: .ref r :: t => bif Nat.blt r np && (Nat.beq (z_sh r).1 3 && (z_in i (z_sh r).2.2 && z_b01 x)) then some (t, z_ui μ r i.toNatClampNeg x) else none
  | .lastore, .long x :: .int i :: .ref r :: t => bif Nat.blt r np && (Nat.beq (z_sh r).1 2 && z_in i (z_sh r).2.2) then some (t, z_uj μ r i.toNatClampNeg x) else none
  | .arraylength, .ref r :: t => bif Nat.beq r 60 then (bif Nat.blt r np then some (.int 136 :: t, μ) else none) else (bif z_av xs r then some (.int (Int32.ofNat (z_ro xs r).1) :: t, μ) else none)
  | .invokestatic idx, .int y :: .int x :: t => bif Nat.ble (t.map fun v => v.category).sum 8 then (match z_lk (z_mths.getD oc []) idx with
      | some 0 => some (.int (if x < y then y else x) :: t, μ)
      | some 1 => some (.int (if y < x then y else x) :: t, μ)
      | _ => none) else none
  | _, _ => none
abbrev zS : Type := Nat × zL × List Value × zM
/-- one step of a method's own -/
def z_step (xs : Nat × (Nat → Int32)) (np oc nL : Nat) (ins : Instr) (q : zS) : Option zS := match z_st ins q.2.2.1 with
  | some st' => some (q.1 + z_len ins, q.2.1, st', q.2.2.2)
  | none => match z_jp ins q.1 q.2.2.1 with
    | some (pc', st') => some (pc', q.2.1, st', q.2.2.2)
    | none => match z_lv nL ins q.2.1 q.2.2.1 with
      | some (lv', st') => some (q.1 + z_len ins, lv', st', q.2.2.2)
      | none => match z_hp xs np oc ins q.2.2.1 q.2.2.2 with
        | some (st', μ') => some (q.1 + z_len ins, q.2.1, st', μ')
        | none => none
