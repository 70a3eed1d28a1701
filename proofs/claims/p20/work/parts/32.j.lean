/-! a small machine: a program's cells by numbers, its step as a function; what it does the large one does (part 33) -/
noncomputable abbrev zM : Type := (Nat → Nat → Int32) × (Nat → Nat → Int64) × (Nat → Nat)
noncomputable abbrev zL : Type := List (Nat × Value)
noncomputable def z_ui (μ : zM) (r k : Nat) (x : Int32) : zM := (fun r' k' => bif Nat.beq r' r && Nat.beq k' k then x else μ.1 r' k', μ.2)
noncomputable def z_uj (μ : zM) (r k : Nat) (x : Int64) : zM := (μ.1, fun r' k' => bif Nat.beq r' r && Nat.beq k' k then x else μ.2.1 r' k', μ.2.2)
noncomputable def z_ur (μ : zM) (r q : Nat) : zM := (μ.1, μ.2.1, fun r' => bif Nat.beq r' r then q else μ.2.2 r')
noncomputable def z_rv (q : Nat) : Value := bif Nat.beq q 0 || Nat.ble 79 q then .null else .ref q
/-- what a read of a field gives -/
noncomputable def z_gv (μ : zM) (ci r k : Nat) : Value := match z_fk ci k with
  | 0 => .int (μ.1 r k)
  | 1 => .long (μ.2.1 r k)
  | 2 => .int (μ.1 r k)
  | 3 => .ref (z_gr r k)
  | 4 => z_rv (μ.2.2 r)
  | _ => .null
noncomputable def z_b01 (x : Int32) : Bool := x == 0 || x == 1
/-- a write of a field -/
noncomputable def z_pv (μ : zM) (ci r k : Nat) (v : Value) : Option zM := match z_fk ci k, v with
  | 0, .int x => some (z_ui μ r k x)
  | 1, .long x => some (z_uj μ r k x)
  | 2, .int x => bif z_b01 x then some (z_ui μ r k x) else none
  | 4, .ref q => bif Nat.beq q 0 || Nat.ble 79 q then none else some (z_ur μ r q)
  | _, _ => none
noncomputable def z_in (i : Int32) (n : Nat) : Bool := decide (0 ≤ i.toInt) && decide (i.toInt < (n : Int))
theorem z_in_iff {i : Int32} {n : Nat} : z_in i n = true ↔ vp_in i n := by
  unfold z_in
  rw [vp_in_iff, Bool.and_eq_true, decide_eq_true_iff, decide_eq_true_iff]
noncomputable def z_rm : zL → Nat → zL
  | [], _ => []
  | q :: r, i => bif Nat.beq q.1 i || (Nat.beq (q.1 + 1) i && Nat.beq q.2.category 2) then z_rm r i else q :: z_rm r i
noncomputable def z_rm2 : zL → Nat → zL
  | [], _ => []
  | q :: r, i => bif Nat.beq q.1 i || (Nat.beq q.1 (i + 1) || (Nat.beq (q.1 + 1) i && Nat.beq q.2.category 2)) then z_rm2 r i else q :: z_rm2 r i
noncomputable def z_ii (f : Int32 → Int32 → Value) : List Value → Option (List Value)
  | .int y :: .int x :: r => some (f x y :: r)
  | _ => none
noncomputable def z_ii0 (f : Int32 → Int32 → Value) : List Value → Option (List Value)
  | .int y :: .int x :: r => bif y == 0 then none else some (f x y :: r)
  | _ => none
noncomputable def z_ll (f : Int64 → Int64 → Value) : List Value → Option (List Value)
  | .long y :: .long x :: r => some (f x y :: r)
  | _ => none
noncomputable def z_ll0 (f : Int64 → Int64 → Value) : List Value → Option (List Value)
  | .long y :: .long x :: r => bif y == 0 then none else some (f x y :: r)
  | _ => none
noncomputable def z_li (f : Int64 → Int32 → Value) : List Value → Option (List Value)
  | .int y :: .long x :: r => some (f x y :: r)
  | _ => none
noncomputable def z_i1 (f : Int32 → Value) : List Value → Option (List Value)
  | .int x :: r => some (f x :: r)
  | _ => none
noncomputable def z_l1 (f : Int64 → Value) : List Value → Option (List Value)
  | .long x :: r => some (f x :: r)
  | _ => none
noncomputable def z_dup : List Value → Option (List Value)
  | v :: r => bif Nat.beq v.category 1 then some (v :: v :: r) else none
  | _ => none
noncomputable def z_pop : List Value → Option (List Value)
  | v :: r => bif Nat.beq v.category 1 then some r else none
  | _ => none
noncomputable def z_dup2 : List Value → Option (List Value)
  | v :: w :: r => bif Nat.beq v.category 1 && Nat.beq w.category 1 then some (v :: w :: v :: w :: r) else none
  | _ => none
noncomputable def z_pop2 : List Value → Option (List Value)
  | .long _ :: r => some r
  | _ => none
/-- instructions that touch the stack alone -/
noncomputable def z_st (ins : Instr) (st : List Value) : Option (List Value) := match ins with
  | .iconst n => some (.int (Int32.ofInt n) :: st)
  | .bipush n => some (.int (Int8.ofInt n).toInt32 :: st)
  | .sipush n => some (.int (Int16.ofInt n).toInt32 :: st)
  | .lconst n => some (.long (Int64.ofNat (n : Nat)) :: st)
  | .iadd => z_ii (fun x y => .int (x + y)) st
  | .isub => z_ii (fun x y => .int (x - y)) st
  | .imul => z_ii (fun x y => .int (x * y)) st
  | .iand => z_ii (fun x y => .int (x &&& y)) st
  | .ior => z_ii (fun x y => .int (x ||| y)) st
  | .idiv => z_ii0 (fun x y => .int (x / y)) st
  | .irem => z_ii0 (fun x y => .int (x - x / y * y)) st
  | .ishl => z_ii (fun x y => .int (x <<< (y &&& 31))) st
  | .ishr => z_ii (fun x y => .int (x >>> (y &&& 31))) st
  | .iushr => z_ii (fun x y => .int (x.toUInt32 >>> (y.toUInt32 &&& Int32.toUInt32 31)).toInt32) st
  | .ineg => z_i1 (fun x => .int (-x)) st
  | .ladd => z_ll (fun x y => .long (x + y)) st
  | .lsub => z_ll (fun x y => .long (x - y)) st
  | .lmul => z_ll (fun x y => .long (x * y)) st
  | .land => z_ll (fun x y => .long (x &&& y)) st
  | .lor => z_ll (fun x y => .long (x ||| y)) st
  | .lxor => z_ll (fun x y => .long (x ^^^ y)) st
  | .lrem => z_ll0 (fun x y => .long (x - x / y * y)) st
  | .lcmp => z_ll (fun x y => .int (lg_cmp x y)) st
  | .lshl => z_li (fun x y => .long (x <<< (y.toInt64 &&& 63))) st
  | .lshr => z_li (fun x y => .long (x >>> (y.toInt64 &&& 63))) st
  | .lushr => z_li (fun x y => .long (x.toUInt64 >>> (y.toInt64.toUInt64 &&& Int64.toUInt64 63)).toInt64) st
  | .i2l => z_i1 (fun x => .long x.toInt64) st
  | .l2i => z_l1 (fun x => .int x.toInt32) st
  | .dup => z_dup st
  | .dup2 => z_dup2 st
  | .pop => z_pop st
  | .pop2 => z_pop2 st
  | _ => none
noncomputable def z_cmp (c : Jvm.ClassFile.Cond) (x y : Int32) : Bool := match c with
  | .eq => decide (x = y)
  | .ne => !decide (x = y)
  | .lt => decide (x < y)
  | .ge => decide (y ≤ x)
  | .gt => decide (y < x)
  | .le => decide (x ≤ y)
noncomputable def z_to (pc : Nat) (off : Int) : Option Nat := bif decide (0 ≤ (pc : Int) + off) then some ((pc : Int) + off).toNat else none
/-- jumps: where to, and with which stack -/
noncomputable def z_jp (ins : Instr) (pc : Nat) (st : List Value) : Option (Nat × List Value) := match ins, st with
  | .goto off, st => (z_to pc off).map (fun t => (t, st))
  | .ifCond c off, .int x :: r => (z_to pc off).map (fun t => (bif z_cmp c x 0 then t else pc + 3, r))
  | .if_icmp c off, .int y :: .int x :: r => (z_to pc off).map (fun t => (bif z_cmp c x y then t else pc + 3, r))
  | .ifnull _, .ref _ :: r => some (pc + 3, r)
  | .tableswitch dflt lo hi offs, .int x :: r => bif decide (x.toInt < lo) || decide (hi < x.toInt) then (z_to pc dflt).map (fun t => (t, r)) else
      match offs[(x.toInt - lo).toNat]? with
      | some off => (z_to pc off).map (fun t => (t, r))
      | none => none
  | _, _ => none
/-- locals -/
noncomputable def z_lv (nL : Nat) (ins : Instr) (lv : zL) (st : List Value) : Option (zL × List Value) :=
  let s1 := fun (i : Nat) (v : Value) (r : List Value) => (bif Nat.blt i nL then some ((i, v) :: z_rm lv i, r) else none)
  let s2 := fun (i : Nat) (v : Value) (r : List Value) => (bif Nat.blt (i + 1) nL then some ((i, v) :: z_rm2 lv i, r) else none)
  match ins with
  | .iload_n k => (match z_lk lv k with | some (.int x) => some (lv, .int x :: st) | _ => none)
  | .iload k => (match z_lk lv k with | some (.int x) => some (lv, .int x :: st) | _ => none)
  | .lload_n k => (match z_lk lv k with | some (.long x) => some (lv, .long x :: st) | _ => none)
  | .lload k => (match z_lk lv k with | some (.long x) => some (lv, .long x :: st) | _ => none)
  | .aload_n k => (match z_lk lv k with | some (.ref x) => some (lv, .ref x :: st) | _ => none)
  | .aload k => (match z_lk lv k with | some (.ref x) => some (lv, .ref x :: st) | _ => none)
  | .istore_n k => (match st with | .int x :: r => s1 k (.int x) r | _ => none)
  | .istore k => (match st with | .int x :: r => s1 k (.int x) r | _ => none)
  | .lstore_n k => (match st with | .long x :: r => s2 k (.long x) r | _ => none)
  | .lstore k => (match st with | .long x :: r => s2 k (.long x) r | _ => none)
  | .astore_n k => (match st with | .ref x :: r => s1 k (.ref x) r | _ => none)
  | .astore k => (match st with | .ref x :: r => s1 k (.ref x) r | _ => none)
  | .iinc k n => (match z_lk lv k with | some (.int x) => s1 k (.int (x + Int32.ofInt n)) st | _ => none)
  | _ => none
/-- the class's two tables and the script (xs: its length and 1, its ints; or 0: there is none), which stay: their lengths and ints -/
noncomputable def z_ro (xs : Nat × (Nat → Int32)) (r : Nat) : Nat × (Nat → Int32) := bif Nat.beq r 101 then (30, fun j => z_han.getD j 0) else bif Nat.beq r 102 then (30, fun j => z_ohan.getD j 0) else (xs.1 - 1, xs.2)
noncomputable def z_av (xs : Nat × (Nat → Int32)) (r : Nat) : Bool := Nat.beq r 101 || (Nat.beq r 102 || (Nat.beq r 100 && Nat.blt 0 xs.1))
/-- fields and arrays -/
noncomputable def z_hp (xs : Nat × (Nat → Int32)) (np oc : Nat) (ins : Instr) (st : List Value) (μ : zM) : Option (List Value × zM) := match ins, st with
  | .getfield idx, .ref r :: t => (match z_lk (z_flds.getD oc []) idx with
      | some (ci, k) => bif Nat.blt r np && (Nat.beq (z_sh r).1 0 && (Nat.beq (z_sh r).2.1 ci && Nat.blt k (z_sh r).2.2)) then some (z_gv μ ci r k :: t, μ) else none
      | none => none)
  | .putfield idx, v :: .ref r :: t => (match z_lk (z_flds.getD oc []) idx with
      | some (ci, k) => bif Nat.blt r np && (Nat.beq (z_sh r).1 0 && (Nat.beq (z_sh r).2.1 ci && Nat.blt k (z_sh r).2.2)) then (z_pv μ ci r k v).map (fun μ' => (t, μ')) else none
      | none => none)
  | .getstatic idx, t => (match z_lk (z_stas.getD oc []) idx with | some r => some (.ref r :: t, μ) | none => none)
  | .ldc2_w idx, t => (match z_lk (z_lons.getD oc []) idx with | some x => some (.long x :: t, μ) | none => none)
  | .iaload, .int i :: .ref r :: t => bif Nat.blt r 100 then (bif Nat.blt r np && (Nat.beq (z_sh r).1 1 && z_in i (z_sh r).2.2) then some (.int (μ.1 r i.toNatClampNeg) :: t, μ) else none)
      else (bif z_av xs r && z_in i (z_ro xs r).1 then some (.int ((z_ro xs r).2 i.toNatClampNeg) :: t, μ) else none)
  | .baload, .int i :: .ref r :: t => bif Nat.blt r np && (Nat.beq (z_sh r).1 3 && z_in i (z_sh r).2.2) then some (.int (μ.1 r i.toNatClampNeg) :: t, μ) else none
  | .laload, .int i :: .ref r :: t => bif Nat.blt r np && (Nat.beq (z_sh r).1 2 && z_in i (z_sh r).2.2) then some (.long (μ.2.1 r i.toNatClampNeg) :: t, μ) else none
  | .aaload, .int i :: .ref r :: t => bif Nat.blt r np && (Nat.beq (z_sh r).1 4 && z_in i (z_sh r).2.2) then some (.ref (z_gr r i.toNatClampNeg) :: t, μ) else none
  | .iastore, .int x :: .int i :: .ref r :: t => bif Nat.blt r np && (Nat.beq (z_sh r).1 1 && z_in i (z_sh r).2.2) then some (t, z_ui μ r i.toNatClampNeg x) else none
  | .bastore, .int x :: .int i :: .ref r :: t => bif Nat.blt r np && (Nat.beq (z_sh r).1 3 && (z_in i (z_sh r).2.2 && z_b01 x)) then some (t, z_ui μ r i.toNatClampNeg x) else none
  | .lastore, .long x :: .int i :: .ref r :: t => bif Nat.blt r np && (Nat.beq (z_sh r).1 2 && z_in i (z_sh r).2.2) then some (t, z_uj μ r i.toNatClampNeg x) else none
  | .arraylength, .ref r :: t => bif Nat.beq r 60 then (bif Nat.blt r np then some (.int 136 :: t, μ) else none) else (bif z_av xs r then some (.int (Int32.ofNat (z_ro xs r).1) :: t, μ) else none)
  | .invokestatic idx, .int y :: .int x :: t => bif Nat.ble (t.map fun v => v.category).sum 8 then (match z_lk (z_mths.getD oc []) idx with
      | some 0 => some (.int (if x < y then y else x) :: t, μ)
      | some 1 => some (.int (if y < x then y else x) :: t, μ)
      | _ => none) else none
  | _, _ => none
noncomputable abbrev zS : Type := Nat × zL × List Value × zM
/-- one step of a method's own -/
noncomputable def z_step (xs : Nat × (Nat → Int32)) (np oc nL : Nat) (ins : Instr) (q : zS) : Option zS := match z_st ins q.2.2.1 with
  | some st' => some (q.1 + z_len ins, q.2.1, st', q.2.2.2)
  | none => match z_jp ins q.1 q.2.2.1 with
    | some (pc', st') => some (pc', q.2.1, st', q.2.2.2)
    | none => match z_lv nL ins q.2.1 q.2.2.1 with
      | some (lv', st') => some (q.1 + z_len ins, lv', st', q.2.2.2)
      | none => match z_hp xs np oc ins q.2.2.1 q.2.2.2 with
        | some (st', μ') => some (q.1 + z_len ins, q.2.1, st', μ')
        | none => none
/-! what the small machine does in a step, the large one does: stack, jumps, locals -/
noncomputable def z_tr (a : Nat → Nat) : Value → Value
  | .ref r => .ref (a r)
  | v => v
theorem z_tr_cat (a : Nat → Nat) (v : Value) : (z_tr a v).category = v.category := by cases v <;> rfl
theorem z_beqE (i j : Nat) : Nat.beq i j = (i == j) := by
  by_cases h : i = j
  · subst h
    rw [Nat.beq_refl, beq_self_eq_true]
  · have h1 : (i == j) = false := beq_eq_false_iff_ne.mpr h
    rw [h1]
    cases hq : Nat.beq i j with
    | false => rfl
    | true => exact absurd (Nat.eq_of_beq_eq_true hq) h
theorem z_rm_filter (lv : zL) (i : Nat) : z_rm lv i = lv.filter (fun q => !(q.1 == i) && !(q.1 + 1 == i && q.2.category == 2)) := by
  induction lv with
  | nil => rfl
  | cons q r ih =>
    unfold z_rm
    rw [List.filter_cons, ih]
    simp only [z_beqE]
    cases (q.1 == i) <;> cases (q.1 + 1 == i) <;> cases (q.2.category == 2) <;> rfl
theorem z_rm2_filter (lv : zL) (i : Nat) : z_rm2 lv i = lv.filter (fun q => !(q.1 == i) && (!(q.1 == i + 1) && !(q.1 + 1 == i && q.2.category == 2))) := by
  induction lv with
  | nil => rfl
  | cons q r ih =>
    unfold z_rm2
    rw [List.filter_cons, ih]
    simp only [z_beqE]
    cases (q.1 == i) <;> cases (q.1 == i + 1) <;> cases (q.1 + 1 == i) <;> cases (q.2.category == 2) <;> rfl
noncomputable def z_tl (a : Nat → Nat) (lv : zL) : zL := lv.map (fun q => (q.1, z_tr a q.2))
theorem z_tl_rm (a : Nat → Nat) (lv : zL) (i : Nat) : z_tl a (z_rm lv i) = (z_tl a lv).filter (fun q => !(q.1 == i) && !(q.1 + 1 == i && q.2.category == 2)) := by
  rw [z_rm_filter]
  unfold z_tl
  rw [List.filter_map]
  congr 1
  apply List.filter_congr
  intro q _
  simp only [Function.comp, z_tr_cat]
theorem z_tl_rm2 (a : Nat → Nat) (lv : zL) (i : Nat) : z_tl a (z_rm2 lv i) = (z_tl a lv).filter (fun q => !(q.1 == i) && (!(q.1 == i + 1) && !(q.1 + 1 == i && q.2.category == 2))) := by
  rw [z_rm2_filter]
  unfold z_tl
  rw [List.filter_map]
  congr 1
  apply List.filter_congr
  intro q _
  simp only [Function.comp, z_tr_cat]
theorem z_tl_at {a : Nat → Nat} {lv : zL} {ls : Array Slot} {nL i : Nat} {v : Value} (h : lv_has ls nL (z_tl a lv)) (hv : z_lk lv i = some v) : ls[i]? = some (.val (z_tr a v)) := h.2.2 (i, z_tr a v) (List.mem_map.mpr ⟨(i, v), z_lk_mem hv, rfl⟩)
theorem z_ii_inv {f : Int32 → Int32 → Value} {st st' : List Value} (h : z_ii f st = some st') : ∃ x y r, st = .int y :: .int x :: r ∧ st' = f x y :: r := by
  unfold z_ii at h
  split at h
  · cases h; exact ⟨_, _, _, rfl, rfl⟩
  · cases h
theorem z_ii0_inv {f : Int32 → Int32 → Value} {st st' : List Value} (h : z_ii0 f st = some st') : ∃ x y r, st = .int y :: .int x :: r ∧ st' = f x y :: r ∧ ¬ y = 0 := by
  unfold z_ii0 at h
  split at h
  · rename_i y x r
    cases hy : (y == 0) with
    | true => rw [hy] at h; cases h
    | false => rw [hy] at h; cases h; exact ⟨_, _, _, rfl, rfl, by simpa using hy⟩
  · cases h
theorem z_ll_inv {f : Int64 → Int64 → Value} {st st' : List Value} (h : z_ll f st = some st') : ∃ x y r, st = .long y :: .long x :: r ∧ st' = f x y :: r := by
  unfold z_ll at h
  split at h
  · cases h; exact ⟨_, _, _, rfl, rfl⟩
  · cases h
theorem z_ll0_inv {f : Int64 → Int64 → Value} {st st' : List Value} (h : z_ll0 f st = some st') : ∃ x y r, st = .long y :: .long x :: r ∧ st' = f x y :: r ∧ ¬ y = 0 := by
  unfold z_ll0 at h
  split at h
  · rename_i y x r
    cases hy : (y == 0) with
    | true => rw [hy] at h; cases h
    | false => rw [hy] at h; cases h; exact ⟨_, _, _, rfl, rfl, by simpa using hy⟩
  · cases h
theorem z_li_inv {f : Int64 → Int32 → Value} {st st' : List Value} (h : z_li f st = some st') : ∃ x y r, st = .int y :: .long x :: r ∧ st' = f x y :: r := by
  unfold z_li at h
  split at h
  · cases h; exact ⟨_, _, _, rfl, rfl⟩
  · cases h
theorem z_i1_inv {f : Int32 → Value} {st st' : List Value} (h : z_i1 f st = some st') : ∃ x r, st = .int x :: r ∧ st' = f x :: r := by
  unfold z_i1 at h
  split at h
  · cases h; exact ⟨_, _, rfl, rfl⟩
  · cases h
theorem z_l1_inv {f : Int64 → Value} {st st' : List Value} (h : z_l1 f st = some st') : ∃ x r, st = .long x :: r ∧ st' = f x :: r := by
  unfold z_l1 at h
  split at h
  · cases h; exact ⟨_, _, rfl, rfl⟩
  · cases h
theorem z_dup_inv {st st' : List Value} (h : z_dup st = some st') : ∃ v r, st = v :: r ∧ st' = v :: v :: r ∧ v.category = 1 := by
  unfold z_dup at h
  split at h
  · rename_i v r
    cases hv : Nat.beq v.category 1 with
    | false => rw [hv] at h; cases h
    | true => rw [hv] at h; cases h; exact ⟨_, _, rfl, rfl, Nat.eq_of_beq_eq_true hv⟩
  · cases h
theorem z_pop_inv {st st' : List Value} (h : z_pop st = some st') : ∃ v, st = v :: st' ∧ v.category = 1 := by
  unfold z_pop at h
  split at h
  · rename_i v r
    cases hv : Nat.beq v.category 1 with
    | false => rw [hv] at h; cases h
    | true => rw [hv] at h; cases h; exact ⟨_, rfl, Nat.eq_of_beq_eq_true hv⟩
  · cases h
theorem z_dup2_inv {st st' : List Value} (h : z_dup2 st = some st') : ∃ v w r, st = v :: w :: r ∧ st' = v :: w :: v :: w :: r ∧ v.category = 1 ∧ w.category = 1 := by
  unfold z_dup2 at h
  split at h
  · rename_i v w r
    cases hv : (Nat.beq v.category 1 && Nat.beq w.category 1) with
    | false => rw [hv] at h; cases h
    | true =>
      rw [hv] at h; cases h
      rw [Bool.and_eq_true] at hv
      exact ⟨_, _, _, rfl, rfl, Nat.eq_of_beq_eq_true hv.1, Nat.eq_of_beq_eq_true hv.2⟩
  · cases h
theorem z_pop2_inv {st st' : List Value} (h : z_pop2 st = some st') : ∃ x, st = .long x :: st' := by
  unfold z_pop2 at h
  split at h
  · cases h; exact ⟨_, rfl⟩
  · cases h
section ZS
variable {p : Program} {l : Launch} {e : Env} {R : Room} {s : State} {m : MethodId} {args : Array Value} {below : List Frame} {meth : Method} {c : Code} {H : Heap} {locs : List Loc} {cells slots : Nat} {Q : State → Prop}
variable {cc : ByteArray} {pc : Nat} {ls : Array Slot} {a : Nat → Nat}
set_option maxHeartbeats 1000000 in
theorem zs_st (hx : p.tables.exec = Jvm.exec) (hb : c.code = cc) {ins : Instr} {st st' : List Value} (h : z_st ins st = some st') (hd : decode cc pc = .ok (ins, z_len ins))
    (kk : W p l e R s m args below meth c H locs cells slots Q (F0 m (pc + z_len ins) ls (st'.map (z_tr a)))) : W p l e R s m args below meth c H locs cells slots Q (F0 m pc ls (st.map (z_tr a))) := by
  unfold z_st at h
  split at h
  · cases h; exact lv_iconst hx hb hd rfl kk
  · cases h; exact lv_bipush hx hb hd rfl kk
  · cases h; exact lv_sipush hx hb hd rfl kk
  · cases h; exact lv_lconst hx hb hd rfl kk
  · obtain ⟨x, y, r, rfl, rfl⟩ := z_ii_inv h; exact lv_iadd hx hb hd kk
  · obtain ⟨x, y, r, rfl, rfl⟩ := z_ii_inv h; exact lv_isub hx hb hd kk
  · obtain ⟨x, y, r, rfl, rfl⟩ := z_ii_inv h; exact lv_imul hx hb hd kk
  · obtain ⟨x, y, r, rfl, rfl⟩ := z_ii_inv h; exact lv_iand hx hb hd kk
  · obtain ⟨x, y, r, rfl, rfl⟩ := z_ii_inv h; exact lv_ior hx hb hd kk
  · obtain ⟨x, y, r, rfl, rfl, hy⟩ := z_ii0_inv h; exact lv_idiv hx hb hd hy kk
  · obtain ⟨x, y, r, rfl, rfl, hy⟩ := z_ii0_inv h; exact lv_irem hx hb hd hy kk
  · obtain ⟨x, y, r, rfl, rfl⟩ := z_ii_inv h; exact lv_ishl hx hb hd kk
  · obtain ⟨x, y, r, rfl, rfl⟩ := z_ii_inv h; exact lv_ishr hx hb hd kk
  · obtain ⟨x, y, r, rfl, rfl⟩ := z_ii_inv h; exact lv_iushr hx hb hd rfl kk
  · obtain ⟨x, r, rfl, rfl⟩ := z_i1_inv h; exact lv_ineg hx hb hd kk
  · obtain ⟨x, y, r, rfl, rfl⟩ := z_ll_inv h; exact lv_ladd hx hb hd kk
  · obtain ⟨x, y, r, rfl, rfl⟩ := z_ll_inv h; exact lv_lsub hx hb hd kk
  · obtain ⟨x, y, r, rfl, rfl⟩ := z_ll_inv h; exact lv_lmul hx hb hd kk
  · obtain ⟨x, y, r, rfl, rfl⟩ := z_ll_inv h; exact lv_land hx hb hd kk
  · obtain ⟨x, y, r, rfl, rfl⟩ := z_ll_inv h; exact lv_lor hx hb hd kk
  · obtain ⟨x, y, r, rfl, rfl⟩ := z_ll_inv h; exact lv_lxor hx hb hd kk
  · obtain ⟨x, y, r, rfl, rfl, hy⟩ := z_ll0_inv h; exact lv_lrem hx hb hd hy kk
  · obtain ⟨x, y, r, rfl, rfl⟩ := z_ll_inv h; exact W.lcmp hx hb hd kk
  · obtain ⟨x, y, r, rfl, rfl⟩ := z_li_inv h; exact lv_lshl hx hb hd rfl kk
  · obtain ⟨x, y, r, rfl, rfl⟩ := z_li_inv h; exact lv_lshr hx hb hd rfl kk
  · obtain ⟨x, y, r, rfl, rfl⟩ := z_li_inv h; exact lv_lushr hx hb hd rfl kk
  · obtain ⟨x, r, rfl, rfl⟩ := z_i1_inv h; exact lv_i2l hx hb hd rfl kk
  · obtain ⟨x, r, rfl, rfl⟩ := z_l1_inv h; exact lv_l2i hx hb hd rfl kk
  · obtain ⟨v, r, rfl, rfl, hv⟩ := z_dup_inv h; exact lv_dup hx hb hd ((z_tr_cat a v).trans hv) kk
  · obtain ⟨v, w, r, rfl, rfl, hv, hw⟩ := z_dup2_inv h; exact lv_dup2_11 hx hb hd ((z_tr_cat a v).trans hv) ((z_tr_cat a w).trans hw) kk
  · obtain ⟨v, rfl, hv⟩ := z_pop_inv h; exact lv_pop hx hb hd ((z_tr_cat a v).trans hv) kk
  · obtain ⟨x, rfl⟩ := z_pop2_inv h; exact lv_pop2_2 hx hb hd rfl kk
  · cases h
theorem z_to_inv {pc : Nat} {off : Int} {t : Nat} (h : z_to pc off = some t) : (pc : Int) + off = (t : Int) := by
  unfold z_to at h
  cases hq : decide (0 ≤ (pc : Int) + off) with
  | false => rw [hq] at h; cases h
  | true =>
    rw [hq] at h
    have h : some ((pc : Int) + off).toNat = some t := h
    cases h
    exact (Int.toNat_of_nonneg (of_decide_eq_true hq)).symm
theorem zs_jp (hx : p.tables.exec = Jvm.exec) (hb : c.code = cc) {ins : Instr} {st st' : List Value} {pc' len : Nat} (h : z_jp ins pc st = some (pc', st')) (hd : decode cc pc = .ok (ins, len)) (hlen : z_len ins = len ∨ z_len ins = 0)
    (kk : W p l e R s m args below meth c H locs cells slots Q (F0 m pc' ls (st'.map (z_tr a)))) : W p l e R s m args below meth c H locs cells slots Q (F0 m pc ls (st.map (z_tr a))) := by
  unfold z_jp at h
  split at h
  · have hl : (3 : Nat) = len := hlen.resolve_right (by show ¬ 3 = 0; decide)
    subst hl
    obtain ⟨t, ht, h⟩ := Option.map_eq_some_iff.mp h
    cases h
    exact lv_goto hx hb hd (z_to_inv ht) kk
  · rename_i cnd off x r
    have hl : (3 : Nat) = len := hlen.resolve_right (by show ¬ 3 = 0; decide)
    subst hl
    obtain ⟨t, ht, h⟩ := Option.map_eq_some_iff.mp h
    have ht := z_to_inv ht
    cases h
    cases cnd with
    | eq => exact lv_if_eq hx hb hd ht (fun q => by simpa [z_cmp, q] using kk) (fun q => by simpa [z_cmp, q] using kk)
    | ne => exact lv_if_ne hx hb hd ht (fun q => by simpa [z_cmp, q] using kk) (fun q => by simpa [z_cmp, q] using kk)
    | lt => exact lv_if_lt hx hb hd ht (fun q => by simpa [z_cmp, q] using kk) (fun q => by simpa [z_cmp, q] using kk)
    | ge => exact lv_if_ge hx hb hd ht (fun q => by simpa [z_cmp, q] using kk) (fun q => by simpa [z_cmp, q] using kk)
    | gt => exact lv_if_gt hx hb hd ht (fun q => by simpa [z_cmp, q] using kk) (fun q => by simpa [z_cmp, q] using kk)
    | le => exact lv_if_le hx hb hd ht (fun q => by simpa [z_cmp, q] using kk) (fun q => by simpa [z_cmp, q] using kk)
  · rename_i cnd off y x r
    have hl : (3 : Nat) = len := hlen.resolve_right (by show ¬ 3 = 0; decide)
    subst hl
    obtain ⟨t, ht, h⟩ := Option.map_eq_some_iff.mp h
    have ht := z_to_inv ht
    cases h
    cases cnd with
    | eq => exact lv_icmp_eq hx hb hd ht (fun q => by simpa [z_cmp, q] using kk) (fun q => by simpa [z_cmp, q] using kk)
    | ne => exact lv_icmp_ne hx hb hd ht (fun q => by simpa [z_cmp, q] using kk) (fun q => by simpa [z_cmp, q] using kk)
    | lt => exact lv_icmp_lt hx hb hd ht (fun q => by simpa [z_cmp, q] using kk) (fun q => by simpa [z_cmp, q] using kk)
    | ge => exact lv_icmp_ge hx hb hd ht (fun q => by simpa [z_cmp, q] using kk) (fun q => by simpa [z_cmp, q] using kk)
    | gt => exact lv_icmp_gt hx hb hd ht (fun q => by simpa [z_cmp, q] using kk) (fun q => by simpa [z_cmp, q] using kk)
    | le => exact lv_icmp_le hx hb hd ht (fun q => by simpa [z_cmp, q] using kk) (fun q => by simpa [z_cmp, q] using kk)
  · have hl : (3 : Nat) = len := hlen.resolve_right (by show ¬ 3 = 0; decide)
    subst hl
    cases h
    exact lv_ifnull hx hb hd kk
  · rename_i dflt lo hi offs x r
    cases hq : (decide (x.toInt < lo) || decide (hi < x.toInt)) with
    | true =>
      rw [hq] at h
      obtain ⟨t, ht, h⟩ := Option.map_eq_some_iff.mp h
      cases h
      rw [Bool.or_eq_true, decide_eq_true_iff, decide_eq_true_iff] at hq
      exact lv_tableOut hx hb hd hq (z_to_inv ht) kk
    | false =>
      rw [hq] at h
      rw [Bool.or_eq_false_iff, decide_eq_false_iff_not, decide_eq_false_iff_not] at hq
      simp only [cond_false] at h
      split at h
      · rename_i off ho
        obtain ⟨t, ht, h⟩ := Option.map_eq_some_iff.mp h
        cases h
        exact lv_tableIn hx hb hd hq.1 hq.2 ho (z_to_inv ht) kk
      · cases h
  · cases h
theorem z_s1_inv {nL i : Nat} {lv : zL} {v : Value} {r : List Value} {lv' : zL} {st' : List Value} (h : (bif Nat.blt i nL then some ((i, v) :: z_rm lv i, r) else none) = some (lv', st')) : i < nL ∧ lv' = (i, v) :: z_rm lv i ∧ st' = r := by
  cases hq : Nat.blt i nL with
  | false => rw [hq] at h; cases h
  | true =>
    rw [hq] at h
    have h : some ((i, v) :: z_rm lv i, r) = some (lv', st') := h
    cases h
    exact ⟨Nat.le_of_ble_eq_true hq, rfl, rfl⟩
theorem z_s2_inv {nL i : Nat} {lv : zL} {v : Value} {r : List Value} {lv' : zL} {st' : List Value} (h : (bif Nat.blt (i + 1) nL then some ((i, v) :: z_rm2 lv i, r) else none) = some (lv', st')) : i + 1 < nL ∧ lv' = (i, v) :: z_rm2 lv i ∧ st' = r := by
  cases hq : Nat.blt (i + 1) nL with
  | false => rw [hq] at h; cases h
  | true =>
    rw [hq] at h
    have h : some ((i, v) :: z_rm2 lv i, r) = some (lv', st') := h
    cases h
    exact ⟨Nat.le_of_ble_eq_true hq, rfl, rfl⟩
theorem z_tl_c {a : Nat → Nat} {i : Nat} {v : Value} {lv : zL} : z_tl a ((i, v) :: z_rm lv i) = (i, z_tr a v) :: (z_tl a lv).filter (fun q => !(q.1 == i) && !(q.1 + 1 == i && q.2.category == 2)) := by
  rw [← z_tl_rm]
  rfl
theorem z_tl_c2 {a : Nat → Nat} {i : Nat} {v : Value} {lv : zL} : z_tl a ((i, v) :: z_rm2 lv i) = (i, z_tr a v) :: (z_tl a lv).filter (fun q => !(q.1 == i) && (!(q.1 == i + 1) && !(q.1 + 1 == i && q.2.category == 2))) := by
  rw [← z_tl_rm2]
  rfl
set_option maxHeartbeats 1000000 in
theorem zs_lv (hx : p.tables.exec = Jvm.exec) (hb : c.code = cc) {nL : Nat} {ins : Instr} {lv lv' : zL} {st st' : List Value} (h : z_lv nL ins lv st = some (lv', st')) (hd : decode cc pc = .ok (ins, z_len ins)) (hl : lv_has ls nL (z_tl a lv))
    (kk : ∀ ls' : Array Slot, lv_has ls' nL (z_tl a lv') → W p l e R s m args below meth c H locs cells slots Q (F0 m (pc + z_len ins) ls' (st'.map (z_tr a)))) : W p l e R s m args below meth c H locs cells slots Q (F0 m pc ls (st.map (z_tr a))) := by
  unfold z_lv at h
  split at h
  · split at h
    · rename_i hv; cases h; exact lv_iload_n hx hb hd rfl (z_tl_at hl hv) (kk ls hl)
    · cases h
  · split at h
    · rename_i hv; cases h; exact lv_iload hx hb hd (z_tl_at hl hv) (kk ls hl)
    · cases h
  · split at h
    · rename_i hv; cases h; exact lv_lload_n hx hb hd rfl (z_tl_at hl hv) (kk ls hl)
    · cases h
  · split at h
    · rename_i hv; cases h; exact lv_lload hx hb hd (z_tl_at hl hv) (kk ls hl)
    · cases h
  · split at h
    · rename_i hv; cases h; exact lv_aload_n hx hb hd rfl (z_tl_at hl hv) (kk ls hl)
    · cases h
  · split at h
    · rename_i hv; cases h; exact lv_aload hx hb hd (z_tl_at hl hv) (kk ls hl)
    · cases h
  · split at h
    · obtain ⟨h1, rfl, rfl⟩ := z_s1_inv h; exact lv_istore_n hx hb hd rfl hl h1 (z_tl_c (a := a) (lv := lv) (v := .int _)).symm kk
    · cases h
  · split at h
    · obtain ⟨h1, rfl, rfl⟩ := z_s1_inv h; exact lv_istore hx hb hd hl h1 (z_tl_c (a := a) (lv := lv) (v := .int _)).symm kk
    · cases h
  · split at h
    · obtain ⟨h1, rfl, rfl⟩ := z_s2_inv h; exact lv_lstore_n hx hb hd rfl hl h1 (z_tl_c2 (a := a) (lv := lv) (v := .long _)).symm kk
    · cases h
  · split at h
    · obtain ⟨h1, rfl, rfl⟩ := z_s2_inv h; exact lv_lstore hx hb hd hl h1 (z_tl_c2 (a := a) (lv := lv) (v := .long _)).symm kk
    · cases h
  · split at h
    · obtain ⟨h1, rfl, rfl⟩ := z_s1_inv h; exact lv_astore_n hx hb hd rfl hl h1 (z_tl_c (a := a) (lv := lv) (v := .ref _)).symm kk
    · cases h
  · split at h
    · obtain ⟨h1, rfl, rfl⟩ := z_s1_inv h; exact lv_astore hx hb hd hl h1 (z_tl_c (a := a) (lv := lv) (v := .ref _)).symm kk
    · cases h
  · split at h
    · rename_i hv
      obtain ⟨h1, rfl, rfl⟩ := z_s1_inv h
      obtain ⟨k0, hk0⟩ := List.getElem?_of_mem (show (_, z_tr a _) ∈ z_tl a lv from List.mem_map.mpr ⟨_, z_lk_mem hv, rfl⟩)
      exact lv_iinc hx hb hd hl hk0 rfl h1 (z_tl_c (a := a) (lv := lv) (v := .int _)).symm kk
    · cases h
  · cases h
end ZS
/-! the small machine's cells are the large one's: fields and arrays -/
noncomputable def z_E (a : Nat → Nat) (k : Nat → ClassId) (μ : zM) (r : Nat) : va_E := match (z_sh r).1 with
  | 0 => .inr ((z_sh r).2.1, (List.range (z_sh r).2.2).map (fun j => z_tr a (z_gv μ (z_sh r).2.1 r j)))
  | 1 => .inl (k 0, (z_sh r).2.2, .inl (fun j => μ.1 r j))
  | 2 => .inl (k 1, (z_sh r).2.2, .inr (.inl (fun j => μ.2.1 r j)))
  | 3 => .inl (k 2, (z_sh r).2.2, .inl (fun j => μ.1 r j))
  | _ => .inl (k (z_sh r).2.1, (z_sh r).2.2, .inr (.inr (.inr (.inr (fun j => some (a (z_gr r j)))))))
noncomputable def z_W (a : Nat → Nat) (k : Nat → ClassId) (n : Nat) (μ : zM) : va_W := wZ a n (z_E a k μ)
theorem z_bf {i j : Nat} (h : i ≠ j) : Nat.beq i j = false := by
  cases hq : Nat.beq i j with
  | false => rfl
  | true => exact absurd (Nat.eq_of_beq_eq_true hq) h
theorem z_bt (i : Nat) : Nat.beq i i = true := Nat.beq_refl i
theorem z_blt {i j : Nat} (h : Nat.blt i j = true) : i < j := Nat.le_of_ble_eq_true h
theorem z_ui_ne {μ : zM} {r k r' : Nat} {x : Int32} (h : r' ≠ r) : (z_ui μ r k x).1 r' = μ.1 r' := by
  funext k'
  show (bif Nat.beq r' r && Nat.beq k' k then x else μ.1 r' k') = _
  rw [z_bf h]
  rfl
theorem z_uj_ne {μ : zM} {r k r' : Nat} {x : Int64} (h : r' ≠ r) : (z_uj μ r k x).2.1 r' = μ.2.1 r' := by
  funext k'
  show (bif Nat.beq r' r && Nat.beq k' k then x else μ.2.1 r' k') = _
  rw [z_bf h]
  rfl
theorem z_ur_ne {μ : zM} {r r' q : Nat} (h : r' ≠ r) : (z_ur μ r q).2.2 r' = μ.2.2 r' := by
  show (bif Nat.beq r' r then q else μ.2.2 r') = _
  rw [z_bf h]
  rfl
theorem z_ui_at (μ : zM) (r k : Nat) (x : Int32) (k' : Nat) : (z_ui μ r k x).1 r k' = if k' = k then x else μ.1 r k' := by
  show (bif Nat.beq r r && Nat.beq k' k then x else μ.1 r k') = _
  rw [z_bt, Bool.true_and]
  by_cases h : k' = k
  · subst h; rw [z_bt, if_pos rfl]; rfl
  · rw [z_bf h, if_neg h]; rfl
theorem z_uj_at (μ : zM) (r k : Nat) (x : Int64) (k' : Nat) : (z_uj μ r k x).2.1 r k' = if k' = k then x else μ.2.1 r k' := by
  show (bif Nat.beq r r && Nat.beq k' k then x else μ.2.1 r k') = _
  rw [z_bt, Bool.true_and]
  by_cases h : k' = k
  · subst h; rw [z_bt, if_pos rfl]; rfl
  · rw [z_bf h, if_neg h]; rfl
theorem z_ur_at (μ : zM) (r q : Nat) : (z_ur μ r q).2.2 r = q := by
  show (bif Nat.beq r r then q else μ.2.2 r) = _
  rw [z_bt]
  rfl
theorem z_E_congr {a : Nat → Nat} {k : Nat → ClassId} {μ μ' : zM} {r : Nat} (h1 : μ.1 r = μ'.1 r) (h2 : μ.2.1 r = μ'.2.1 r) (h3 : μ.2.2 r = μ'.2.2 r) : z_E a k μ r = z_E a k μ' r := by
  unfold z_E z_gv
  rw [h1, h2, h3]
theorem z_E_up {a : Nat → Nat} {k : Nat → ClassId} {μ μ' : zM} {r : Nat} {cell : va_E} (hne : ∀ r', r' ≠ r → μ'.1 r' = μ.1 r' ∧ μ'.2.1 r' = μ.2.1 r' ∧ μ'.2.2 r' = μ.2.2 r') (he : z_E a k μ' r = cell) : va_up (z_E a k μ) r cell = z_E a k μ' := by
  funext r'
  unfold va_up
  by_cases h : r' = r
  · rw [if_pos h, h, he]
  · rw [if_neg h]
    obtain ⟨h1, h2, h3⟩ := hne r' h
    exact (z_E_congr h1 h2 h3).symm
theorem z_rng_set {f : Nat → Value} {N j : Nat} {v : Value} : ((List.range N).map f).set j v = (List.range N).map (fun i => if i = j then v else f i) := by
  apply List.ext_getElem?
  intro i
  rw [List.getElem?_map]
  by_cases hi : i < N
  · rw [List.getElem?_range hi]
    by_cases hij : j = i
    · subst hij
      rw [List.getElem?_set_self (by rw [List.length_map, List.length_range]; exact hi)]
      simp
    · rw [List.getElem?_set_ne hij, List.getElem?_map, List.getElem?_range hi]
      have : ¬ i = j := fun h => hij h.symm
      simp [this]
  · rw [List.getElem?_eq_none (by rw [List.length_set, List.length_map, List.length_range]; omega), List.getElem?_eq_none (by rw [List.length_range]; omega)]
    rfl
theorem z_getD_ge {α : Type} {l : List α} {n : Nat} {d : α} (h : l.length ≤ n) : l.getD n d = d := by
  rw [List.getD_eq_getElem?_getD, List.getElem?_eq_none h]
  rfl
theorem z_sh_eq (r : Nat) : z_sh r = z_shs.getD r (9, 0, 0) := by
  unfold z_sh
  cases h : Nat.beq r 50 with
  | false => rfl
  | true =>
    rw [Nat.eq_of_beq_eq_true h]
    rfl
theorem z_fk_eq (ci i : Nat) : z_fk ci i = (z_fks.getD ci []).getD i 9 := by
  unfold z_fk
  cases h : Nat.beq ci 6 with
  | false => rfl
  | true =>
    rw [Nat.eq_of_beq_eq_true h]
    by_cases hi : i < 72
    · have z : ∀ i : Fin 72, (z_fk6.getD (i.1 / 9) []).getD (i.1 % 9) 9 = (z_fks.getD 6 []).getD i.1 9 := by decide +kernel
      exact z ⟨i, hi⟩
    · have h8 : (z_fks.getD 6 []).length ≤ 72 := by decide +kernel
      have h9 : z_fk6.length ≤ i / 9 := by
        show 8 ≤ i / 9
        omega
      rw [z_getD_ge (l := z_fks.getD 6 []) (n := i) (d := 9) (Nat.le_trans h8 (by omega)), z_getD_ge (l := z_fk6) (n := i / 9) (d := []) h9]
      rfl
theorem z_sh4 {r : Nat} (h : (z_sh r).1 = 4) : (z_sh r).2.1 = 3 ∨ (z_sh r).2.1 = 4 := by
  by_cases hr : r < 80
  · have : ∀ r : Fin 80, (z_sh r.1).1 = 4 → (z_sh r.1).2.1 = 3 ∨ (z_sh r.1).2.1 = 4 := by decide +kernel
    exact this ⟨r, hr⟩ h
  · have : z_sh r = (9, 0, 0) := by
      rw [z_sh_eq]
      exact z_getD_ge (by show 80 ≤ r; omega)
    rw [this] at h
    cases h
theorem z_fk4 {ci i : Nat} (h : z_fk ci i = 4) : ci = 0 ∧ i = 5 := by
  have h9 : ∀ ci : Fin 7, ∀ i : Fin 70, z_fk ci.1 i.1 = 4 → ci.1 = 0 ∧ i.1 = 5 := by decide +kernel
  by_cases h1 : ci < 7
  · by_cases h2 : i < 70
    · exact h9 ⟨ci, h1⟩ ⟨i, h2⟩ h
    · have h8 : ∀ ci : Fin 7, (z_fks.getD ci.1 []).length ≤ 70 := by decide +kernel
      rw [z_fk_eq] at h
      rw [z_getD_ge (Nat.le_trans (h8 ⟨ci, h1⟩) (by omega))] at h
      cases h
  · rw [z_fk_eq] at h
    rw [z_getD_ge (l := z_fks) (by show 7 ≤ ci; omega)] at h
    cases h
theorem z_getD_mem {α : Type} {L : List (List α)} {o : Nat} {q : α} {p : Nat → α → Bool} {n : Nat} (hn : L.length ≤ n) (h : (List.range n).all (fun oc => (L.getD oc []).all (p oc)) = true) (hq : q ∈ L.getD o []) : p o q = true := by
  rw [List.all_eq_true] at h
  by_cases ho : o < n
  · have := h o (List.mem_range.mpr ho)
    rw [List.all_eq_true] at this
    exact this q hq
  · rw [z_getD_ge (by omega)] at hq
    cases hq
theorem z_fld_ok {oc idx ci k : Nat} (h : z_lk (z_flds.getD oc []) idx = some (ci, k)) : ∃ C T N, vwCl[ci]? = some (C, T, N) ∧ k < N ∧ Cond.fieldLink (z_own oc) idx C (T k).2.1 (T k).2.2.1 ∈ TT ∧ z_kok (z_ty ci k) (T k).2.2.2 (z_fk ci k) = true := by
  have h1 := z_getD_mem (n := 10) (by decide) z_flds_ok (z_lk_mem h)
  unfold z_fok at h1
  split at h1
  · rename_i C T N hh h2 h3
    rw [Bool.and_eq_true, Bool.and_eq_true] at h1
    exact ⟨C, T, N, h2, z_blt h1.1, z_tt h1.2.1, h1.2.2⟩
  · cases h1
theorem z_lon_ok {oc idx : Nat} {x : Int64} (h : z_lk (z_lons.getD oc []) idx = some x) : Cond.constantLong (z_own oc) idx x ∈ TT := by
  have h1 := z_getD_mem (n := 10) (by decide) z_lons_ok (z_lk_mem h)
  unfold z_lok at h1
  split at h1
  · exact z_tt h1
  · cases h1
theorem z_sta_ok {oc idx r : Nat} (h : z_lk (z_stas.getD oc []) idx = some r) : Cond.fieldLink (z_own oc) idx RX0 (z_sn r) "[I" ∈ TT ∧ (r = 101 ∨ r = 102) := by
  have h1 := z_getD_mem (n := 10) (by decide) z_stas_ok (z_lk_mem h)
  unfold z_sok at h1
  split at h1
  · rw [Bool.and_eq_true, Bool.or_eq_true] at h1
    exact ⟨z_tt h1.1, h1.2.imp Nat.eq_of_beq_eq_true Nat.eq_of_beq_eq_true⟩
  · cases h1
theorem z_mth_ok {oc idx i : Nat} (h : z_lk (z_mths.getD oc []) idx = some i) : (i = 0 ∧ Cond.methodLink (z_own oc) idx Lib.Math.max.name ∈ TT) ∨ (i = 1 ∧ Cond.methodLink (z_own oc) idx Lib.Math.min.name ∈ TT) := by
  have hm := z_lk_mem h
  have h9 : ∀ o : Fin 10, ∀ q ∈ z_mths.getD o.1 [], (o.1, q) = (1, 215, 0) ∨ (o.1, q) = (7, 241, 1) := by decide +kernel
  by_cases ho : oc < 10
  · rcases h9 ⟨oc, ho⟩ _ hm with q | q
    · cases q
      exact Or.inl ⟨rfl, z_ml_max⟩
    · cases q
      exact Or.inr ⟨rfl, z_ml_min⟩
  · rw [z_getD_ge (by show 10 ≤ oc; omega)] at hm
    cases hm
/-- the class's two tables as they lie in the heap; the script, where there is one -/
noncomputable def z_RO (a : Nat → Nat) (xs : Nat × (Nat → Int32)) (A : Nat → Prop) (s : State) (H : Heap) : Prop :=
  (va_Z RX0 "HAN" "[I" (.ref (a 101)) A s H ∧ va_Z RX0 "OPEN_HAN" "[I" (.ref (a 102)) A s H) ∧ ∀ r, z_av xs r = true → va_T .int (a r) (z_ro xs r).1 (fun j => .int ((z_ro xs r).2 j)) A s H
theorem z_RO.moved {a : Nat → Nat} {xs : Nat × (Nat → Int32)} {A : Nat → Prop} {u U : State} {H : Heap} (hvm : u.vm.Alike U.vm) (h : z_RO a xs A u H) : z_RO a xs A U H := ⟨⟨h.1.1.moved hvm, h.1.2.moved hvm⟩, fun r h1 => (h.2 r h1).moved hvm⟩
theorem z_RO.kept {a : Nat → Nat} {xs : Nat × (Nat → Int32)} {A : Nat → Prop} {U : State} {H H1 : Heap} (h : z_RO a xs A U H) (hq : ∀ a : Nat, a < H.size → ¬ A a → H1[a]? = H[a]?) : z_RO a xs A U H1 := ⟨⟨h.1.1.kept hq, h.1.2.kept hq⟩, fun r h1 => (h.2 r h1).kept hq⟩
theorem z_RO.narrow {a : Nat → Nat} {xs : Nat × (Nat → Int32)} {A B : Nat → Prop} {U : State} {H : Heap} (h : z_RO a xs A U H) (hAB : ∀ q, B q → A q) : z_RO a xs B U H := ⟨⟨h.1.1.narrow hAB, h.1.2.narrow hAB⟩, fun r h1 => (h.2 r h1).narrow hAB⟩
noncomputable def z_x0 : Nat × (Nat → Int32) := (0, fun _ => 0)
theorem z_RO.less {a : Nat → Nat} {xs : Nat × (Nat → Int32)} {A : Nat → Prop} {U : State} {H : Heap} (h : z_RO a xs A U H) : z_RO a z_x0 A U H := by
  refine ⟨h.1, fun r h1 => ?_⟩
  unfold z_av at h1
  rw [Bool.or_eq_true, Bool.or_eq_true] at h1
  rcases h1 with h1 | h1 | h1
  · have := Nat.eq_of_beq_eq_true h1
    subst this
    exact h.2 101 rfl
  · have := Nat.eq_of_beq_eq_true h1
    subst this
    exact h.2 102 rfl
  · rw [Bool.and_eq_true] at h1
    exact absurd h1.2 (by decide)
section ZH
variable {p : Program} {l : Launch} {e : Env} {R : Room} {s : State} {m : MethodId} {args : Array Value} {below : List Frame} {meth : Method} {c : Code} {H : Heap} {locs : List Loc} {cells slots : Nat} {Q : State → Prop}
variable {cc : ByteArray} {pc : Nat} {ls : Array Slot} {a : Nat → Nat} {k : Nat → ClassId} {n : Nat} {G : va_G} {A : Nat → Prop}
theorem z_E0 {μ : zM} {r ci N : Nat} (h0 : (z_sh r).1 = 0) : z_E a k μ r = .inr ((z_sh r).2.1, (List.range (z_sh r).2.2).map (fun j => z_tr a (z_gv μ (z_sh r).2.1 r j))) := by
  unfold z_E
  rw [h0]
  rfl
theorem z_E1 {μ : zM} {r : Nat} (h0 : (z_sh r).1 = 1) : z_E a k μ r = .inl (k 0, (z_sh r).2.2, .inl (fun j => μ.1 r j)) := by
  unfold z_E
  rw [h0]
  rfl
theorem z_E2 {μ : zM} {r : Nat} (h0 : (z_sh r).1 = 2) : z_E a k μ r = .inl (k 1, (z_sh r).2.2, .inr (.inl (fun j => μ.2.1 r j))) := by
  unfold z_E
  rw [h0]
  rfl
theorem z_E3 {μ : zM} {r : Nat} (h0 : (z_sh r).1 = 3) : z_E a k μ r = .inl (k 2, (z_sh r).2.2, .inl (fun j => μ.1 r j)) := by
  unfold z_E
  rw [h0]
  rfl
theorem z_E4 {μ : zM} {r : Nat} (h0 : (z_sh r).1 = 4) : z_E a k μ r = .inl (k (z_sh r).2.1, (z_sh r).2.2, .inr (.inr (.inr (.inr (fun j => some (a (z_gr r j))))))) := by
  unfold z_E
  rw [h0]
  rfl
theorem z_W_at {μ : zM} {r : Nat} (h : r < n) : (z_W a k n μ)[r]? = some (a r, z_E a k μ r) := wZ_at h
theorem z_W_up {μ μ' : zM} {r : Nat} {cell : va_E} (h : r < n) (hne : ∀ r', r' ≠ r → μ'.1 r' = μ.1 r' ∧ μ'.2.1 r' = μ.2.1 r' ∧ μ'.2.2 r' = μ.2.2 r') (he : z_E a k μ' r = cell) : (z_W a k n μ).set r (a r, cell) = z_W a k n μ' := by
  unfold z_W
  rw [wZ_set h, z_E_up hne he]
theorem z_ui_hne (μ : zM) (r j : Nat) (x : Int32) : ∀ r', r' ≠ r → (z_ui μ r j x).1 r' = μ.1 r' ∧ (z_ui μ r j x).2.1 r' = μ.2.1 r' ∧ (z_ui μ r j x).2.2 r' = μ.2.2 r' := fun _ h => ⟨z_ui_ne h, rfl, rfl⟩
theorem z_uj_hne (μ : zM) (r j : Nat) (x : Int64) : ∀ r', r' ≠ r → (z_uj μ r j x).1 r' = μ.1 r' ∧ (z_uj μ r j x).2.1 r' = μ.2.1 r' ∧ (z_uj μ r j x).2.2 r' = μ.2.2 r' := fun _ h => ⟨rfl, z_uj_ne h, rfl⟩
theorem z_ur_hne (μ : zM) (r q : Nat) : ∀ r', r' ≠ r → (z_ur μ r q).1 r' = μ.1 r' ∧ (z_ur μ r q).2.1 r' = μ.2.1 r' ∧ (z_ur μ r q).2.2 r' = μ.2.2 r' := fun _ h => ⟨rfl, rfl, z_ur_ne h⟩
/-- a write of a field as the small machine has it -/
theorem z_pv_inv {μ μ' : zM} {ci r j : Nat} {v : Value} (h : z_pv μ ci r j v = some μ') (ty : FieldType) (fin : Bool) (hk : z_kok ty fin (z_fk ci j) = true) :
    fin = false ∧ narrow ty (z_tr a v) = z_tr a v ∧ fits ty (z_tr a v) = true ∧ (∀ r', r' ≠ r → μ'.1 r' = μ.1 r' ∧ μ'.2.1 r' = μ.2.1 r' ∧ μ'.2.2 r' = μ.2.2 r') ∧ z_tr a (z_gv μ' ci r j) = z_tr a v ∧ (∀ i, i ≠ j → z_gv μ' ci r i = z_gv μ ci r i) := by
  unfold z_pv at h
  split at h
  · rename_i x hf
    cases h
    rw [hf] at hk
    cases ty <;> first | (exfalso; simp [z_kok] at hk; done) | skip
    refine ⟨by simpa [z_kok] using hk, rfl, rfl, z_ui_hne μ r j x, ?_, fun i hi => ?_⟩
    · show z_tr a (z_gv (z_ui μ r j x) ci r j) = _
      unfold z_gv
      rw [hf]
      show z_tr a (.int ((z_ui μ r j x).1 r j)) = _
      rw [z_ui_at, if_pos rfl]
    · unfold z_gv
      rw [show (z_ui μ r j x).1 r i = μ.1 r i by rw [z_ui_at, if_neg hi]]
      rfl
  · rename_i x hf
    cases h
    rw [hf] at hk
    cases ty <;> first | (exfalso; simp [z_kok] at hk; done) | skip
    refine ⟨by simpa [z_kok] using hk, rfl, rfl, z_uj_hne μ r j x, ?_, fun i hi => ?_⟩
    · show z_tr a (z_gv (z_uj μ r j x) ci r j) = _
      unfold z_gv
      rw [hf]
      show z_tr a (.long ((z_uj μ r j x).2.1 r j)) = _
      rw [z_uj_at, if_pos rfl]
    · unfold z_gv
      rw [show (z_uj μ r j x).2.1 r i = μ.2.1 r i by rw [z_uj_at, if_neg hi]]
      rfl
  · rename_i x hf
    rw [hf] at hk
    cases ty <;> first | (exfalso; simp [z_kok] at hk; done) | skip
    cases hx : z_b01 x with
    | false => rw [hx] at h; cases h
    | true =>
      rw [hx] at h
      have h : some (z_ui μ r j x) = some μ' := h
      cases h
      have h01 : x = 0 ∨ x = 1 := by
        unfold z_b01 at hx
        rw [Bool.or_eq_true] at hx
        exact hx.imp (fun q => by simpa using q) (fun q => by simpa using q)
      refine ⟨by simpa [z_kok] using hk, ?_, ?_, z_ui_hne μ r j x, ?_, fun i hi => ?_⟩
      · rcases h01 with rfl | rfl <;> rfl
      · rcases h01 with rfl | rfl <;> rfl
      · show z_tr a (z_gv (z_ui μ r j x) ci r j) = _
        unfold z_gv
        rw [hf]
        show z_tr a (.int ((z_ui μ r j x).1 r j)) = _
        rw [z_ui_at, if_pos rfl]
      · unfold z_gv
        rw [show (z_ui μ r j x).1 r i = μ.1 r i by rw [z_ui_at, if_neg hi]]
        rfl
  · rename_i q hf
    rw [hf] at hk
    cases hq : (Nat.beq q 0 || Nat.ble 79 q) with
    | true => rw [hq] at h; cases h
    | false =>
      rw [hq] at h
      have h : some (z_ur μ r q) = some μ' := h
      cases h
      cases ty <;> first | (exfalso; simp [z_kok] at hk; done) | skip
      refine ⟨by simpa [z_kok] using hk, rfl, rfl, z_ur_hne μ r q, ?_, fun i hi => ?_⟩
      · show z_tr a (z_gv (z_ur μ r q) ci r j) = _
        unfold z_gv
        rw [hf]
        show z_tr a (z_rv ((z_ur μ r q).2.2 r)) = _
        rw [z_ur_at]
        unfold z_rv
        rw [hq]
        rfl
      · unfold z_gv
        split
        · rfl
        · rfl
        · rfl
        · rfl
        · rename_i e4
          exact absurd ((z_fk4 e4).2.trans (z_fk4 hf).2.symm) hi
        · rfl
  · cases h
theorem z_bif {α : Type} {b : Bool} {x : α} {y : α} (h : (bif b then some x else none) = some y) : b = true ∧ x = y := by
  cases b with
  | false => cases h
  | true =>
    have h : some x = some y := h
    cases h
    exact ⟨rfl, rfl⟩
theorem z_and {a b : Bool} (h : (a && b) = true) : a = true ∧ b = true := by rwa [Bool.and_eq_true] at h
theorem z_beq {i j : Nat} (h : Nat.beq i j = true) : i = j := Nat.eq_of_beq_eq_true h
set_option maxHeartbeats 4000000 in
theorem zs_hp (hx : p.tables.exec = Jvm.exec) (hb : c.code = cc) {xs : Nat × (Nat → Int32)} {np oc : Nat} {ins : Instr} {st st' : List Value} {μ μ' : zM} (h : z_hp xs np oc ins st μ = some (st', μ')) (hd : decode cc pc = .ok (ins, z_len ins)) (hml : c.maxLocals = ls.size)
    (hts : ∀ w ∈ TT, w.before args s = true) (hown : s.vm.findClass (z_own oc) = some m.cls) (hK : va_K G vwCl (tyF k) s) (hD : ∀ μ, va_D A (z_W a k n μ)) (hn : np ≤ n) (hRO : z_RO a xs A s s.heap) (hF : 1 ≤ R.frames) (hRl : 21 ≤ R.locals) (hRc : cells ≤ R.cells) (hRs : slots ≤ R.slots)
    (hP : va_P G vwCl (z_W a k n μ) H) (hS : va_S A s.heap H locs)
    (kk : ∀ (H' : Heap) (locs' : List Loc), va_P G vwCl (z_W a k n μ') H' → va_S A s.heap H' locs' → W p l e R s m args below meth c H' locs' cells slots Q (F0 m (pc + z_len ins) ls (st'.map (z_tr a)))) : W p l e R s m args below meth c H locs cells slots Q (F0 m pc ls (st.map (z_tr a))) := by
  unfold z_hp at h
  split at h
  · -- getfield
    rename_i idx r t
    split at h
    · rename_i ci j hl
      obtain ⟨hq, h⟩ := z_bif h
      cases h
      obtain ⟨q1, hq⟩ := z_and hq
      obtain ⟨q2, hq⟩ := z_and hq
      obtain ⟨q3, q4⟩ := z_and hq
      have q1 := Nat.lt_of_lt_of_le (z_blt q1) hn
      have q2 := z_beq q2
      have q3 := z_beq q3
      have q4 := z_blt q4
      obtain ⟨C, T, N, h1, h2, h3, h4⟩ := z_fld_ok hl
      obtain ⟨c1, c2, c3, c4⟩ := z_cl_ok h1
      refine va_get hx hb hts c1 hown hK hP r (by rw [z_W_at q1, z_E0 (N := 0) (ci := 0) q2, q3]) h1 j h2 (hts _ h3) (fun x hx => by rw [c2 j h2] at hx; exact hx) (v := z_tr a (z_gv μ ci r j)) ?_ hd (kk H locs hP hS)
      rw [List.getElem?_map, List.getElem?_range q4]
      rfl
    · cases h
  · -- putfield
    rename_i idx v r t
    split at h
    · rename_i ci j hl
      cases hc : (Nat.blt r np && (Nat.beq (z_sh r).1 0 && (Nat.beq (z_sh r).2.1 ci && Nat.blt j (z_sh r).2.2))) with
      | false => rw [hc] at h; cases h
      | true =>
        rw [hc] at h
        obtain ⟨μ2, h5, h⟩ := Option.map_eq_some_iff.mp (show (z_pv μ ci r j v).map (fun μ' => (t, μ')) = some (st', μ') from h)
        cases h
        obtain ⟨q1, hq⟩ := z_and hc
        obtain ⟨q2, hq⟩ := z_and hq
        obtain ⟨q3, q4⟩ := z_and hq
        have q1 := Nat.lt_of_lt_of_le (z_blt q1) hn
        have q2 := z_beq q2
        have q3 := z_beq q3
        have q4 := z_blt q4
        obtain ⟨C, T, N, h1, h2, h3, h4⟩ := z_fld_ok hl
        obtain ⟨c1, c2, c3, c4⟩ := z_cl_ok h1
        obtain ⟨p1, p2, p3, p4, p5, p6⟩ := z_pv_inv (a := a) h5 _ _ h4
        refine va_put hx hb hts c1 (z_ty ci) c3 c4 hown hK hP (hD μ) hS r (by rw [z_W_at q1, z_E0 (N := 0) (ci := 0) q2, q3]) h1 j h2 (hts _ h3) (fun x hx => by rw [c2 j h2] at hx; exact hx) p1 (c3 j h2) p2 p3 (by rw [List.length_map, List.length_range]; exact q4) hd (fun H1 locs1 w1 w2 w3 => ?_)
        rw [z_rng_set] at w1
        rw [z_W_up (μ' := μ') q1 p4 (by
          rw [z_E0 (N := 0) (ci := 0) q2, q3]
          congr 2
          apply List.map_congr_left
          intro i _
          by_cases hi : i = j
          · rw [if_pos hi, hi]; exact p5
          · rw [if_neg hi, p6 i hi])] at w1
        exact kk H1 locs1 w1 w3
    · cases h
  · -- getstatic
    rename_i idx
    split at h
    · rename_i r hl
      cases h
      obtain ⟨h1, h2⟩ := z_sta_ok hl
      rcases h2 with rfl | rfl
      · exact va_gets hx hb hRO.1.1 hS hown (hts _ h1) (fun _ h => h) hd (kk H locs hP hS)
      · exact va_gets hx hb hRO.1.2 hS hown (hts _ h1) (fun _ h => h) hd (kk H locs hP hS)
    · cases h
  · -- ldc2_w
    rename_i idx
    split at h
    · rename_i x hl
      cases h
      exact lv_ldc2 hx hb hown (hts _ (z_lon_ok hl)) hd (kk H locs hP hS)
    · cases h
  · -- iaload
    rename_i i r t
    cases h0 : Nat.blt r 100 with
    | true =>
      rw [h0] at h
      obtain ⟨hq, h⟩ := z_bif (show (bif Nat.blt r np && (Nat.beq (z_sh r).1 1 && z_in i (z_sh r).2.2) then some ((.int (μ.1 r i.toNatClampNeg) :: t, μ) : List Value × zM) else none) = some (st', μ') from h)
      cases h
      obtain ⟨q1, hq⟩ := z_and hq
      obtain ⟨q2, q3⟩ := z_and hq
      have q1 := Nat.lt_of_lt_of_le (z_blt q1) hn
      exact va_iald hx hb hK hP r 0 (by rw [z_W_at q1, z_E1 (z_beq q2)]) rfl (z_in_iff.mp q3) hd (kk H locs hP hS)
    | false =>
      rw [h0] at h
      obtain ⟨hq, h⟩ := z_bif (show (bif z_av xs r && z_in i (z_ro xs r).1 then some ((.int ((z_ro xs r).2 i.toNatClampNeg) :: t, μ) : List Value × zM) else none) = some (st', μ') from h)
      cases h
      obtain ⟨q1, q2⟩ := z_and hq
      have q2 := z_in_iff.mp q2
      exact va_ti hx hb (hRO.2 r q1) hS q2 rfl hd (kk H locs hP hS)
  · -- baload
    obtain ⟨hq, h⟩ := z_bif h
    cases h
    obtain ⟨q1, hq⟩ := z_and hq
    obtain ⟨q2, q3⟩ := z_and hq
    have q1 := Nat.lt_of_lt_of_le (z_blt q1) hn
    exact va_zald hx hb hK hP _ 2 (by rw [z_W_at q1, z_E3 (z_beq q2)]) rfl (z_in_iff.mp q3) hd (kk H locs hP hS)
  · -- laload
    obtain ⟨hq, h⟩ := z_bif h
    cases h
    obtain ⟨q1, hq⟩ := z_and hq
    obtain ⟨q2, q3⟩ := z_and hq
    have q1 := Nat.lt_of_lt_of_le (z_blt q1) hn
    exact va_lald hx hb hK hP _ 1 (by rw [z_W_at q1, z_E2 (z_beq q2)]) rfl (z_in_iff.mp q3) hd (kk H locs hP hS)
  · -- aaload
    rename_i i r t
    obtain ⟨hq, h⟩ := z_bif h
    cases h
    obtain ⟨q1, hq⟩ := z_and hq
    obtain ⟨q2, q3⟩ := z_and hq
    have q1 := Nat.lt_of_lt_of_le (z_blt q1) hn
    have q2 := z_beq q2
    rcases z_sh4 q2 with q4 | q4
    · exact va_aldq (C := "TileHouse$Seat") (f := fun j => some (a (z_gr r j))) hx hb hK hP r 3 (by rw [z_W_at q1, z_E4 q2]) (by rw [q4]; rfl) (z_in_iff.mp q3) hd (kk H locs hP hS)
    · exact va_aldq (C := "TileHouse$Win") (f := fun j => some (a (z_gr r j))) hx hb hK hP r 4 (by rw [z_W_at q1, z_E4 q2]) (by rw [q4]; rfl) (z_in_iff.mp q3) hd (kk H locs hP hS)
  · -- iastore
    rename_i x i r t
    obtain ⟨hq, h⟩ := z_bif h
    cases h
    obtain ⟨q1, hq⟩ := z_and hq
    obtain ⟨q2, q3⟩ := z_and hq
    have q1 := Nat.lt_of_lt_of_le (z_blt q1) hn
    have q2 := z_beq q2
    refine va_iast hx hb hK hP (hD μ) hS r 0 (by rw [z_W_at q1, z_E1 q2]) rfl (z_in_iff.mp q3) hd (fun H1 locs1 w1 w2 w3 => ?_)
    rw [z_W_up (μ' := z_ui μ r i.toNatClampNeg x) q1 (z_ui_hne _ _ _ _) (by
      rw [z_E1 q2]
      congr 4
      funext j
      rw [z_ui_at]
      rfl)] at w1
    exact kk H1 locs1 w1 w3
  · -- bastore
    rename_i x i r t
    obtain ⟨hq, h⟩ := z_bif h
    cases h
    obtain ⟨q1, hq⟩ := z_and hq
    obtain ⟨q2, hq⟩ := z_and hq
    obtain ⟨q3, q4⟩ := z_and hq
    have q1 := Nat.lt_of_lt_of_le (z_blt q1) hn
    have q2 := z_beq q2
    have h01 : vp_nar .boolean x = x := by
      unfold z_b01 at q4
      rw [Bool.or_eq_true] at q4
      rcases q4 with q | q
      · rw [show x = 0 by simpa using q]; decide
      · rw [show x = 1 by simpa using q]; decide
    refine va_zast hx hb hK hP (hD μ) hS r 2 (by rw [z_W_at q1, z_E3 q2]) rfl (z_in_iff.mp q3) hd (fun H1 locs1 w1 w2 w3 => ?_)
    rw [h01, z_W_up (μ' := z_ui μ r i.toNatClampNeg x) q1 (z_ui_hne _ _ _ _) (by
      rw [z_E3 q2]
      congr 4
      funext j
      rw [z_ui_at]
      rfl)] at w1
    exact kk H1 locs1 w1 w3
  · -- lastore
    rename_i x i r t
    obtain ⟨hq, h⟩ := z_bif h
    cases h
    obtain ⟨q1, hq⟩ := z_and hq
    obtain ⟨q2, q3⟩ := z_and hq
    have q1 := Nat.lt_of_lt_of_le (z_blt q1) hn
    have q2 := z_beq q2
    refine va_last hx hb hK hP (hD μ) hS r 1 (by rw [z_W_at q1, z_E2 q2]) rfl (z_in_iff.mp q3) hd (fun H1 locs1 w1 w2 w3 => ?_)
    rw [z_W_up (μ' := z_uj μ r i.toNatClampNeg x) q1 (z_uj_hne _ _ _ _) (by
      rw [z_E2 q2]
      congr 5
      funext j
      rw [z_uj_at]
      rfl)] at w1
    exact kk H1 locs1 w1 w3
  · -- arraylength
    rename_i r t
    cases h0 : Nat.beq r 60 with
    | true =>
      rw [h0] at h
      obtain ⟨hq, h⟩ := z_bif (show (bif Nat.blt r np then some ((.int 136 :: t, μ) : List Value × zM) else none) = some (st', μ') from h)
      cases h
      have q1 := Nat.lt_of_lt_of_le (z_blt hq) hn
      have e := z_beq h0
      subst e
      exact va_alen hx hb hK hP 60 0 (by rw [z_W_at q1, z_E1 (by rfl)]) rfl (by rfl) hd (kk H locs hP hS)
    | false =>
      rw [h0] at h
      obtain ⟨hq, h⟩ := z_bif (show (bif z_av xs r then some ((.int (Int32.ofNat (z_ro xs r).1) :: t, μ) : List Value × zM) else none) = some (st', μ') from h)
      cases h
      exact va_tlen hx hb (hRO.2 r hq) hS rfl hd (kk H locs hP hS)
  · -- Math
    rename_i idx y x t
    cases h0 : Nat.ble (t.map fun v => v.category).sum 8 with
    | false => rw [h0] at h; cases h
    | true =>
      rw [h0] at h
      simp only [cond_true] at h
      have hc : ((t.map (z_tr a)).map fun v => v.category).sum + 13 ≤ R.locals := by
        have e : (t.map (z_tr a)).map (fun v => v.category) = t.map (fun v => v.category) := by
          rw [List.map_map]
          apply List.map_congr_left
          intro v _
          exact z_tr_cat a v
        rw [e]
        have := Nat.le_of_ble_eq_true h0
        omega
      split at h
      · rename_i hl
        cases h
        rcases z_mth_ok hl with ⟨-, h1⟩ | ⟨h9, -⟩
        · exact va_mmax hx hb hml hown (hts _ h1) (hts _ z_m_max) (hts _ z_m_ini) (hts _ z_mc_max) hF hc hRc hRs hd (kk H locs hP hS)
        · cases h9
      · rename_i hl
        cases h
        rcases z_mth_ok hl with ⟨h9, -⟩ | ⟨-, h1⟩
        · cases h9
        · exact va_mmin hx hb hml hown (hts _ h1) (hts _ z_m_min) (hts _ z_m_ini) (hts _ z_mc_min) hF hc hRc hRs hd (kk H locs hP hS)
      · cases h
  · cases h
end ZH
