/-! a checker: bounds of all ints, kinds of all references on all roads of a method (what it says is proved in the parts behind) -/
abbrev aB : Type := Int × Int
/-- kind (0 int, 1 long, 2 reference), bounds, roles, what it is told by (another and a difference) -/
abbrev aI : Type := Nat × aB × List Nat × (Nat × Int)
/-- values, locals, stack, fields that are known -/
abbrev aS : Type := List aI × List (Nat × Nat) × List Nat × List (Nat × Nat × Nat)
def aT : aB := (-2147483648, 2147483647)
def aTJ : aB := (-9223372036854775808, 9223372036854775807)
def a_fit (b : aB) : aB := bif decide (-2147483648 ≤ b.1) && decide (b.2 ≤ 2147483647) then b else aT
def a_eq (b : aB) (x : Int) : Bool := decide (b.1 = x) && decide (b.2 = x)
def a_cst (b : aB) : Bool := decide (b.1 = b.2)
def a_add (x y : aB) : aB := a_fit (x.1 + y.1, x.2 + y.2)
def a_sub (x y : aB) : aB := a_fit (x.1 - y.2, x.2 - y.1)
def a_mul (x y : aB) : aB := bif a_cst y && decide (0 ≤ y.1) then a_fit (x.1 * y.1, x.2 * y.1) else bif a_cst x && decide (0 ≤ x.1) then a_fit (y.1 * x.1, y.2 * x.1) else aT
def a_and (_ y : aB) : aB := bif a_eq y 3 then (0, 3) else bif a_eq y 63 then (0, 63) else bif a_eq y 31 then (0, 31) else aT
def a_div (x y : aB) : aB := bif a_cst y && (decide (0 < y.1) && decide (0 ≤ x.1)) then (x.1 / y.1, x.2 / y.1) else aT
def a_rem (x y : aB) : aB := bif a_cst y && (decide (0 < y.1) && decide (0 ≤ x.1)) then (bif a_cst x then (x.1 % y.1, x.1 % y.1) else (0, y.1 - 1)) else aT
def a_shl (x y : aB) : aB := bif a_eq x 1 && (decide (0 ≤ y.1) && decide (y.2 ≤ 4)) then (1, 16) else aT
def a_neg (x : aB) : aB := a_fit (-x.2, -x.1)
def a_nz (y : aB) : Bool := decide (0 < y.1) || decide (y.2 < 0)
def a_lus (_ y : aB) : aB := bif a_eq y 33 then (0, 2147483647) else aTJ
def a_lrm (x y : aB) : aB := bif decide (0 ≤ x.1) && decide (0 < y.1) then (0, y.2 - 1) else aTJ
def a_pi (T : List aI) (st : List Nat) (b : aB) : List aI × List Nat := (T ++ [(0, b, [], (T.length, 0))], T.length :: st)
def a_pj (T : List aI) (st : List Nat) (b : aB) : List aI × List Nat := (T ++ [(1, b, [], (T.length, 0))], T.length :: st)
def a_pr (T : List aI) (st : List Nat) (R : List Nat) : List aI × List Nat := (T ++ [(2, (0, 0), R, (T.length, 0))], T.length :: st)
/-- the bounds of an int, of a long; the roles of a reference -/
def a_int (T : List aI) (n : Nat) : Option aB := match T[n]? with
  | some (0, b, _, _) => some b
  | _ => none
def a_lng (T : List aI) (n : Nat) : Option aB := match T[n]? with
  | some (1, b, _, _) => some b
  | _ => none
def a_ref (T : List aI) (n : Nat) : Option (List Nat) := match T[n]? with
  | some (2, _, R, _) => some R
  | _ => none
def a_ii (f : aB → aB → Option aB) (T : List aI) (st : List Nat) : Option (List aI × List Nat) := match st with
  | y :: x :: r => (match a_int T x, a_int T y with
    | some bx, some by' => (f bx by').map (a_pi T r)
    | _, _ => none)
  | _ => none
def a_ll (f : aB → aB → Option aB) (T : List aI) (st : List Nat) : Option (List aI × List Nat) := match st with
  | y :: x :: r => (match a_lng T x, a_lng T y with
    | some bx, some by' => (f bx by').map (a_pj T r)
    | _, _ => none)
  | _ => none
def a_li (f : aB → aB → aB) (T : List aI) (st : List Nat) : Option (List aI × List Nat) := match st with
  | y :: x :: r => (match a_lng T x, a_int T y with
    | some bx, some by' => some (a_pj T r (f bx by'))
    | _, _ => none)
  | _ => none
def a_st (ins : Instr) (T : List aI) (st : List Nat) : Option (List aI × List Nat) := match ins with
  | .iconst n => some (a_pi T st ((Int32.ofInt n).toInt, (Int32.ofInt n).toInt))
  | .bipush n => some (a_pi T st ((Int8.ofInt n).toInt32.toInt, (Int8.ofInt n).toInt32.toInt))
  | .sipush n => some (a_pi T st ((Int16.ofInt n).toInt32.toInt, (Int16.ofInt n).toInt32.toInt))
  | .lconst n => some (a_pj T st ((Int64.ofNat (n : Nat)).toInt, (Int64.ofNat (n : Nat)).toInt))
  | .iadd => a_ii (fun x y => some (a_add x y)) T st
  | .isub => a_ii (fun x y => some (a_sub x y)) T st
  | .imul => a_ii (fun x y => some (a_mul x y)) T st
  | .iand => a_ii (fun x y => some (a_and x y)) T st
  | .ior => a_ii (fun _ _ => some aT) T st
  | .idiv => a_ii (fun x y => bif a_nz y then some (a_div x y) else none) T st
  | .irem => a_ii (fun x y => bif a_nz y then some (a_rem x y) else none) T st
  | .ishl => a_ii (fun x y => some (a_shl x y)) T st
  | .ishr => a_ii (fun _ _ => some aT) T st
  | .iushr => a_ii (fun _ _ => some aT) T st
  | .ineg => (match st with | x :: r => (a_int T x).map (fun b => a_pi T r (a_neg b)) | _ => none)
  | .ladd => a_ll (fun _ _ => some aTJ) T st
  | .lsub => a_ll (fun _ _ => some aTJ) T st
  | .lmul => a_ll (fun _ _ => some aTJ) T st
  | .land => a_ll (fun _ _ => some aTJ) T st
  | .lor => a_ll (fun _ _ => some aTJ) T st
  | .lxor => a_ll (fun _ _ => some aTJ) T st
  | .lrem => a_ll (fun x y => bif a_nz y then some (a_lrm x y) else none) T st
  | .lcmp => (match st with | y :: x :: r => (match a_lng T x, a_lng T y with | some _, some _ => some (a_pi T r (-1, 1)) | _, _ => none) | _ => none)
  | .lshl => a_li (fun _ _ => aTJ) T st
  | .lshr => a_li (fun _ _ => aTJ) T st
  | .lushr => a_li a_lus T st
  | .i2l => (match st with | x :: r => (a_int T x).map (fun b => a_pj T r b) | _ => none)
  | .l2i => (match st with | x :: r => (a_lng T x).map (fun b => a_pi T r (a_fit b)) | _ => none)
  | .dup => (match st with | x :: r => (match T[x]? with | some q => bif Nat.beq q.1 1 then none else some (T, x :: x :: r) | none => none) | _ => none)
  | .dup2 => (match st with | x :: y :: r => (match T[x]?, T[y]? with | some q, some q' => bif Nat.beq q.1 1 || Nat.beq q'.1 1 then none else some (T, x :: y :: x :: y :: r) | _, _ => none) | _ => none)
  | .pop => (match st with | x :: r => (match T[x]? with | some q => bif Nat.beq q.1 1 then none else some (T, r) | none => none) | _ => none)
  | .pop2 => (match st with | x :: r => (a_lng T x).map (fun _ => (T, r)) | _ => none)
  | _ => none
/-- what a comparison that holds says of the bounds -/
def a_lt (x y : aB) : aB × aB := ((x.1, min x.2 (y.2 - 1)), (max y.1 (x.1 + 1), y.2))
def a_le (x y : aB) : aB × aB := ((x.1, min x.2 y.2), (max y.1 x.1, y.2))
def a_ne1 (x y : aB) : aB := bif a_cst y && decide (x.1 = y.1) then (x.1 + 1, x.2) else bif a_cst y && decide (x.2 = y.1) then (x.1, x.2 - 1) else x
def a_cmp (c : Jvm.ClassFile.Cond) (x y : aB) : aB × aB := match c with
  | .eq => ((max x.1 y.1, min x.2 y.2), (max x.1 y.1, min x.2 y.2))
  | .ne => (a_ne1 x y, a_ne1 y x)
  | .lt => a_lt x y
  | .ge => ((a_le y x).2, (a_le y x).1)
  | .gt => ((a_lt y x).2, (a_lt y x).1)
  | .le => a_le x y
def a_not (c : Jvm.ClassFile.Cond) : Jvm.ClassFile.Cond := match c with
  | .eq => .ne | .ne => .eq | .lt => .ge | .ge => .lt | .gt => .le | .le => .gt
def a_em (b : aB) : Bool := decide (b.2 < b.1)
def a_sb (T : List aI) (n : Nat) (b : aB) : List aI := match T[n]? with
  | some q => T.set n (q.1, b, q.2.2)
  | none => T
/-- a road behind a comparison of two ints, or none -/
def a_br (c : Jvm.ClassFile.Cond) (T : List aI) (x y : Nat) (bx by' : aB) (pc : Nat) (r : List Nat) : List (Nat × List aI × List Nat) :=
  bif a_em (a_cmp c bx by').1 || a_em (a_cmp c bx by').2 then [] else [(pc, a_sb (a_sb T x (a_cmp c bx by').1) y (a_cmp c bx by').2, r)]
def a_br0 (c : Jvm.ClassFile.Cond) (T : List aI) (x : Nat) (bx : aB) (pc : Nat) (r : List Nat) : List (Nat × List aI × List Nat) :=
  bif a_em (a_cmp c bx (0, 0)).1 || a_em (a_cmp c bx (0, 0)).2 then [] else [(pc, a_sb T x (a_cmp c bx (0, 0)).1, r)]
/-- the cases of a table: the value, where to -/
def a_cases (pc : Nat) (T : List aI) (x : Nat) (bx : aB) (r : List Nat) : Int → List Int → Option (List (Nat × List aI × List Nat))
  | _, [] => some []
  | v, off :: os => match a_cases pc T x bx r (v + 1) os with
    | none => none
    | some l => bif decide (bx.1 ≤ v) && decide (v ≤ bx.2) then (z_to pc off).map (fun t => (t, a_sb T x (v, v), r) :: l) else some l
def a_jp (ins : Instr) (pc : Nat) (T : List aI) (st : List Nat) : Option (List (Nat × List aI × List Nat)) := match ins, st with
  | .goto off, st => (z_to pc off).map (fun t => [(t, T, st)])
  | .ifCond c off, x :: r => (match a_int T x with
    | some bx => (z_to pc off).map (fun t => a_br0 c T x bx t r ++ a_br0 (a_not c) T x bx (pc + 3) r)
    | none => none)
  | .if_icmp c off, y :: x :: r => (match a_int T x, a_int T y with
    | some bx, some by' => (z_to pc off).map (fun t => a_br c T x y bx by' t r ++ a_br (a_not c) T x y bx by' (pc + 3) r)
    | _, _ => none)
  | .ifnull _, x :: r => (match a_ref T x with | some _ => some [(pc + 3, T, r)] | none => none)
  | .tableswitch dflt lo hi offs, x :: r => (match a_int T x, z_to pc dflt with
    | some bx, some t => bif decide (hi + 1 - lo = offs.toList.length) then (a_cases pc T x bx r lo offs.toList).map (fun l => (t, T, r) :: l) else none
    | _, _ => none)
  | _, _ => none
def a_del (lv : List (Nat × Nat)) (i : Nat) : List (Nat × Nat) := lv.filter (fun q => !Nat.beq q.1 i)
/-- what lies ahead of a local that is stored, if it is a long, goes -/
def a_pre (T : List aI) (lv : List (Nat × Nat)) (i : Nat) : List (Nat × Nat) := match i with
  | 0 => lv
  | i + 1 => (match z_lk lv i with
    | some s => (match a_lng T s with | some _ => a_del lv i | none => lv)
    | none => lv)
def a_s1 (T : List aI) (nL i : Nat) (s : Nat) (lv : List (Nat × Nat)) : Option (List (Nat × Nat)) := bif Nat.blt i nL then some ((i, s) :: a_del (a_pre T lv i) i) else none
def a_s2 (T : List aI) (nL i : Nat) (s : Nat) (lv : List (Nat × Nat)) : Option (List (Nat × Nat)) := bif Nat.blt (i + 1) nL then some ((i, s) :: a_del (a_del (a_pre T lv i) i) (i + 1)) else none
def a_ldi (T : List aI) (lv : List (Nat × Nat)) (st : List Nat) (k : Nat) : Option (List aI × List (Nat × Nat) × List Nat) := match z_lk lv k with
  | some s => (match a_int T s with | some _ => some (T, lv, s :: st) | none => none)
  | none => none
def a_ldj (T : List aI) (lv : List (Nat × Nat)) (st : List Nat) (k : Nat) : Option (List aI × List (Nat × Nat) × List Nat) := match z_lk lv k with
  | some s => (match a_lng T s with | some _ => some (T, lv, s :: st) | none => none)
  | none => none
def a_lda (T : List aI) (lv : List (Nat × Nat)) (st : List Nat) (k : Nat) : Option (List aI × List (Nat × Nat) × List Nat) := match z_lk lv k with
  | some s => (match a_ref T s with | some _ => some (T, lv, s :: st) | none => none)
  | none => none
def a_sti (T : List aI) (nL : Nat) (lv : List (Nat × Nat)) (st : List Nat) (k : Nat) : Option (List aI × List (Nat × Nat) × List Nat) := match st with
  | s :: r => (match a_int T s with | some _ => (a_s1 T nL k s lv).map (fun l => (T, l, r)) | none => none)
  | _ => none
def a_stj (T : List aI) (nL : Nat) (lv : List (Nat × Nat)) (st : List Nat) (k : Nat) : Option (List aI × List (Nat × Nat) × List Nat) := match st with
  | s :: r => (match a_lng T s with | some _ => (a_s2 T nL k s lv).map (fun l => (T, l, r)) | none => none)
  | _ => none
def a_sta (T : List aI) (nL : Nat) (lv : List (Nat × Nat)) (st : List Nat) (k : Nat) : Option (List aI × List (Nat × Nat) × List Nat) := match st with
  | s :: r => (match a_ref T s with | some _ => (a_s1 T nL k s lv).map (fun l => (T, l, r)) | none => none)
  | _ => none
def a_inc (b : aB) (c : Int) : Bool := decide (-2147483648 ≤ b.1 + c) && decide (b.2 + c ≤ 2147483647)
def a_lv (nL : Nat) (ins : Instr) (T : List aI) (lv : List (Nat × Nat)) (st : List Nat) : Option (List aI × List (Nat × Nat) × List Nat) := match ins with
  | .iload_n k => a_ldi T lv st k
  | .iload k => a_ldi T lv st k
  | .lload_n k => a_ldj T lv st k
  | .lload k => a_ldj T lv st k
  | .aload_n k => a_lda T lv st k
  | .aload k => a_lda T lv st k
  | .istore_n k => a_sti T nL lv st k
  | .istore k => a_sti T nL lv st k
  | .lstore_n k => a_stj T nL lv st k
  | .lstore k => a_stj T nL lv st k
  | .astore_n k => a_sta T nL lv st k
  | .astore k => a_sta T nL lv st k
  | .iinc k n => (match z_lk lv k with
    | some s => (match T[s]? with
      | some (0, b, _, (bs, of)) => bif a_inc b (Int32.ofInt n).toInt then
          (a_s1 T nL k T.length lv).map (fun l => (T ++ [(0, (b.1 + (Int32.ofInt n).toInt, b.2 + (Int32.ofInt n).toInt), [], (bs, of + (Int32.ofInt n).toInt))], l, st))
        else (a_s1 T nL k T.length lv).map (fun l => (T ++ [(0, aT, [], (T.length, 0))], l, st))
      | _ => none)
    | none => none)
  | _ => none
/-- the bounds of the memory's ints -/
def a_cbd (ci k : Nat) : aB := bif Nat.beq (z_fk ci k) 2 then (0, 1) else (z_lk (a_cbs.getD ci []) k).getD aT
def a_abd (r : Nat) : aB := bif Nat.beq (z_sh r).1 3 then (0, 1) else (z_lk a_abs r).getD aT
def a_bd (r k : Nat) : aB := bif Nat.beq (z_sh r).1 0 then a_cbd (z_sh r).2.1 k else a_abd r
/-- what may change: (role, slot), (role, 9999) all of it, (role, 9998) a judge's tiles -/
def a_md (md : List (Nat × Nat)) (r k : Nat) : Bool := md.any (fun q => Nat.beq q.1 r && (Nat.beq q.2 k || Nat.beq q.2 9999))
def a_mdr (md : List (Nat × Nat)) (r : Nat) : Bool := md.any (fun q => Nat.beq q.1 r && Nat.beq q.2 9998)
def a_mda (md : List (Nat × Nat)) (r : Nat) : Bool := md.any (fun q => Nat.beq q.1 r && Nat.beq q.2 9999)
def a_in (x y : aB) : Bool := decide (y.1 ≤ x.1) && decide (x.2 ≤ y.2)
def a_fl (F : List (Nat × Nat × Nat)) (o k : Nat) : Option Nat := match F with
  | [] => none
  | (o', k', v) :: r => bif Nat.beq o' o && Nat.beq k' k then some v else a_fl r o k
def a_obj (ci k r : Nat) : Bool := Nat.blt r 79 && (Nat.beq (z_sh r).1 0 && (Nat.beq (z_sh r).2.1 ci && Nat.blt k (z_sh r).2.2))
/-- an array of a kind with the index inside -/
def a_arr (kd : Nat) (b : aB) (r : Nat) : Bool := Nat.blt r 79 && (Nat.beq (z_sh r).1 kd && (decide (0 ≤ b.1) && decide (b.2 < ((z_sh r).2.2 : Int))))
def a_hull (f : Nat → aB) (R : List Nat) : aB := match R with
  | [] => (0, 0)
  | r :: R => R.foldl (fun b r => (min b.1 (f r).1, max b.2 (f r).2)) (f r)
abbrev aF : Type := List (Nat × Nat × Nat)
/-- a field of an object is read: its value -/
def a_rd (T : List aI) (F : aF) (o ci k : Nat) (R : List Nat) : Option (List aI × Nat × aF) := match a_fl F o k with
  | some v => some (T, v, F)
  | none => match z_fk ci k with
    | 0 => some (T ++ [(0, a_cbd ci k, [], (T.length, 0))], T.length, (o, k, T.length) :: F)
    | 1 => some (T ++ [(1, aTJ, [], (T.length, 0))], T.length, (o, k, T.length) :: F)
    | 2 => some (T ++ [(0, a_cbd ci k, [], (T.length, 0))], T.length, (o, k, T.length) :: F)
    | 3 => some (T ++ [(2, (0, 0), R.map (fun r => z_gr r k), (T.length, 0))], T.length, (o, k, T.length) :: F)
    | _ => none
def a_wr (T : List aI) (F : aF) (md : List (Nat × Nat)) (o v ci k : Nat) (R : List Nat) : Option aF := match z_fk ci k with
  | 0 => (match a_int T v with | some b => bif a_in b (a_cbd ci k) && R.all (fun r => a_md md r k) then some ((o, k, v) :: F.filter (fun q => !Nat.beq q.2.1 k)) else none | none => none)
  | 1 => (match a_lng T v with | some _ => bif R.all (fun r => a_md md r k) then some ((o, k, v) :: F.filter (fun q => !Nat.beq q.2.1 k)) else none | none => none)
  | 2 => (match a_int T v with | some b => bif a_in b (0, 1) && R.all (fun r => a_md md r k) then some ((o, k, v) :: F.filter (fun q => !Nat.beq q.2.1 k)) else none | none => none)
  | 4 => (match a_ref T v with | some V => bif V.all (fun q => Nat.blt 0 q && Nat.blt q 79) && R.all (fun r => a_mdr md r) then some ((o, k, v) :: F.filter (fun q => !Nat.beq q.2.1 k)) else none | none => none)
  | _ => none
def a_hp (oc : Nat) (md : List (Nat × Nat)) (ins : Instr) (T : List aI) (st : List Nat) (F : aF) : Option (List aI × List Nat × aF) := match ins, st with
  | .getfield idx, o :: t => (match a_ref T o, z_lk (z_flds.getD oc []) idx with
    | some R, some (ci, k) => bif R.all (a_obj ci k) then (a_rd T F o ci k R).map (fun q => (q.1, q.2.1 :: t, q.2.2)) else none
    | _, _ => none)
  | .putfield idx, v :: o :: t => (match a_ref T o, z_lk (z_flds.getD oc []) idx with
    | some R, some (ci, k) => bif R.all (a_obj ci k) then (a_wr T F md o v ci k R).map (fun F' => (T, t, F')) else none
    | _, _ => none)
  | .getstatic idx, t => (match z_lk (z_stas.getD oc []) idx with | some r => some (T ++ [(2, (0, 0), [r], (T.length, 0))], T.length :: t, F) | none => none)
  | .ldc2_w idx, t => (match z_lk (z_lons.getD oc []) idx with | some x => some (T ++ [(1, (x.toInt, x.toInt), [], (T.length, 0))], T.length :: t, F) | none => none)
  | .iaload, i :: o :: t => (match a_ref T o, a_int T i with
    | some R, some b => bif R.all (a_arr 1 b) then some (T ++ [(0, a_hull a_abd R, [], (T.length, 0))], T.length :: t, F)
      else bif R.all (fun r => Nat.beq r 101 || Nat.beq r 102) && (decide (0 ≤ b.1) && decide (b.2 < 30)) then some (T ++ [(0, (0, 6), [], (T.length, 0))], T.length :: t, F) else none
    | _, _ => none)
  | .baload, i :: o :: t => (match a_ref T o, a_int T i with
    | some R, some b => bif R.all (a_arr 3 b) then some (T ++ [(0, (0, 1), [], (T.length, 0))], T.length :: t, F) else none
    | _, _ => none)
  | .laload, i :: o :: t => (match a_ref T o, a_int T i with
    | some R, some b => bif R.all (a_arr 2 b) then some (T ++ [(1, aTJ, [], (T.length, 0))], T.length :: t, F) else none
    | _, _ => none)
  | .aaload, i :: o :: t => (match a_ref T o, a_int T i with
    | some R, some b => bif R.all (a_arr 4 b) then some (T ++ [(2, (0, 0), R.flatMap (fun r => (List.range (z_sh r).2.2).map (fun j => z_gr r j)), (T.length, 0))], T.length :: t, F) else none
    | _, _ => none)
  | .iastore, x :: i :: o :: t => (match a_ref T o, a_int T i, a_int T x with
    | some R, some b, some bx => bif R.all (fun r => a_arr 1 b r && (a_mda md r && a_in bx (a_abd r))) then some (T, t, F) else none
    | _, _, _ => none)
  | .bastore, x :: i :: o :: t => (match a_ref T o, a_int T i, a_int T x with
    | some R, some b, some bx => bif R.all (fun r => a_arr 3 b r && (a_mda md r && a_in bx (0, 1))) then some (T, t, F) else none
    | _, _, _ => none)
  | .lastore, x :: i :: o :: t => (match a_ref T o, a_int T i, a_lng T x with
    | some R, some b, some _ => bif R.all (fun r => a_arr 2 b r && a_mda md r) then some (T, t, F) else none
    | _, _, _ => none)
  | .arraylength, o :: t => (match a_ref T o with
    | some R => bif R.all (fun r => Nat.beq r 101 || Nat.beq r 102) then some (T ++ [(0, (30, 30), [], (T.length, 0))], T.length :: t, F) else none
    | none => none)
  | .invokestatic idx, y :: x :: t => (match a_int T x, a_int T y, z_lk (z_mths.getD oc []) idx with
    | some bx, some by', some 0 => bif Nat.ble (2 * t.length) 8 then some (T ++ [(0, (max bx.1 by'.1, max bx.2 by'.2), [], (T.length, 0))], T.length :: t, F) else none
    | some bx, some by', some 1 => bif Nat.ble (2 * t.length) 8 then some (T ++ [(0, (min bx.1 by'.1, min bx.2 by'.2), [], (T.length, 0))], T.length :: t, F) else none
    | _, _, _ => none)
  | _, _ => none
/-- one step: all that may come -/
def a_step (oc nL : Nat) (md : List (Nat × Nat)) (ins : Instr) (pc : Nat) (S : aS) : Option (List (Nat × aS)) := match a_st ins S.1 S.2.2.1 with
  | some q => some [(pc + z_len ins, q.1, S.2.1, q.2, S.2.2.2)]
  | none => match a_jp ins pc S.1 S.2.2.1 with
    | some l => some (l.map (fun q => (q.1, q.2.1, S.2.1, q.2.2, S.2.2.2)))
    | none => match a_lv nL ins S.1 S.2.1 S.2.2.1 with
      | some q => some [(pc + z_len ins, q.1, q.2.1, q.2.2, S.2.2.2)]
      | none => match a_hp oc md ins S.1 S.2.2.1 S.2.2.2 with
        | some q => some [(pc + z_len ins, q.1, S.2.1, q.2.1, q.2.2)]
        | none => none
