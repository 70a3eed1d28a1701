/-! the checker: roads through a method, calls by contract or in place, cuts with bounds and a measure that falls -/
/-- a contract: method, kinds of its arguments, what fields it asks for (argument, slot), what it may change, its answer (kind 9: none) -/
abbrev aQ : Type := Nat × List aI × List (Nat × Nat × aI) × List (Nat × Nat) × aI
/-- a cut: place, locals, stack, fields (local, slot), measure: (c, 0, _) is c, (c, 1, i) is c less local i, (c, 2, i) is c and local i -/
abbrev aX : Type := Int × Nat × Nat
abbrev aC : Type := Nat × List (Nat × aI) × List aI × List (Nat × Nat × aI) × List aX
def a_les (q q' : aI) : Bool := Nat.beq q.1 q'.1 && (bif Nat.ble 2 q.1 then q.2.2.1.all (fun r => q'.2.2.1.any (Nat.beq r)) else a_in q.2.1 q'.2.1)
def a_fchk (T : List aI) (F : aF) (o k : Nat) (q : aI) : Bool := match a_ref T o with
  | some (r0 :: R) => (r0 :: R).all (a_obj (z_sh r0).2.1 k) && (match a_rd T F o (z_sh r0).2.1 k (r0 :: R) with
    | some (T1, v, _) => (match T1[v]? with | some q1 => a_les q1 q | none => false)
    | none => false)
  | _ => false
def a_args (T : List aI) : Nat → List Nat → List (Nat × Nat)
  | _, [] => []
  | i, s :: r => (i, s) :: a_args T (match a_lng T s with | some _ => i + 2 | none => i + 1) r
def a_ct (T : List aI) (l : List Nat) : Nat := (l.map (fun s => match a_lng T s with | some _ => 2 | none => 1)).sum
def a_cl (j pc : Nat) (T : List aI) (sa : List Nat) : Option (Nat × List Nat × List Nat) := match z_ft j pc with
  | some (.invokevirtual idx) => (match z_lk (z_cals.getD (z_oc j) []) idx with
    | some (0, j', na, ci) => (match (sa.take na).reverse with
      | o :: As => (match a_ref T o with
        | some R => bif Nat.beq (As.length + 1) na && (R.all (fun r => Nat.blt r 79 && (Nat.beq (z_sh r).1 0 && Nat.beq (z_sh r).2.1 ci)) && (Nat.ble (a_ct T (sa.drop na)) 8 && Nat.ble (a_ct T (o :: As)) (z_ml j'))) then some (j', o :: As, sa.drop na) else none
        | none => none)
      | _ => none)
    | _ => none)
  | some (.invokestatic idx) => (match z_lk (z_cals.getD (z_oc j) []) idx with
    | some (kd, j', na, _) => bif Nat.blt 0 kd && (Nat.beq (sa.take na).length na && (Nat.ble (a_ct T (sa.drop na)) 8 && Nat.ble (a_ct T (sa.take na).reverse) (z_ml j'))) then some (j', (sa.take na).reverse, sa.drop na) else none
    | _ => none)
  | _ => none
/-- an answer: none, or the value -/
def a_rn (j : Nat) (ins : Instr) (T : List aI) (sa : List Nat) : Option (Option Nat) := match ins, sa with
  | .return_, [] => bif Nat.beq (z_rk j) 0 then some none else none
  | .ireturn, [s] => (match a_int T s with | some b => bif Nat.beq (z_rk j) 1 || (Nat.beq (z_rk j) 3 && a_in b (0, 1)) then some (some s) else none | none => none)
  | .lreturn, [s] => (match a_lng T s with | some _ => bif Nat.beq (z_rk j) 2 then some (some s) else none | none => none)
  | .areturn, [s] => (match a_ref T s with | some _ => bif Nat.beq (z_rk j) 4 then some (some s) else none | none => none)
  | _, _ => none
def a_mds (m1 m2 : List (Nat × Nat)) : Bool := m1.all (fun q => m2.any (fun p => Nat.beq p.1 q.1 && (Nat.beq p.2 q.2 || (Nat.beq p.2 9999 && !Nat.beq q.2 9998))))
/-- a field that a contract leaves as it is -/
def a_keep (T : List aI) (md : List (Nat × Nat)) (f : Nat × Nat × Nat) : Bool := match a_ref T f.1 with
  | some R => R.all (fun r => !a_md md r f.2.1 && !a_mdr md r)
  | none => false
def a_ts (T : List aI) (s : Nat) (q : aI) : Bool := match T[s]? with
  | some q0 => a_les q0 q
  | none => false
def a_as (T : List aI) (F : aF) (Aa : List Nat) (f : Nat × Nat × aI) : Bool := match Aa[f.1]? with
  | some o => a_fchk T F o f.2.1 f.2.2
  | none => false
def a_kcc (K : aQ) (j' : Nat) (md : List (Nat × Nat)) (T : List aI) (F : aF) (Aa : List Nat) : Bool := Nat.beq K.1 j' && (Nat.beq Aa.length K.2.1.length && ((Aa.zip K.2.1).all (fun p => a_ts T p.1 p.2) && (K.2.2.1.all (a_as T F Aa) && a_mds K.2.2.2.1 md)))
def a_kc1 (K : aQ) (j' : Nat) (md : List (Nat × Nat)) (T : List aI) (F : aF) (Aa : List Nat) : Option (List aI × Option Nat × aF) :=
  bif a_kcc K j' md T F Aa then
    bif Nat.beq K.2.2.2.2.1 9 then some (T, none, F.filter (a_keep T K.2.2.2.1)) else some (T ++ [(K.2.2.2.2.1, K.2.2.2.2.2.1, K.2.2.2.2.2.2.1, (T.length, 0))], some T.length, F.filter (a_keep T K.2.2.2.1))
  else none
def a_kc (Ks : List aQ) (j' : Nat) (md : List (Nat × Nat)) (T : List aI) (F : aF) (Aa : List Nat) : List Nat → Option (List aI × Option Nat × aF)
  | [] => none
  | i :: is => match Ks[i]? with
    | some K => (match a_kc1 K j' md T F Aa with | some r => some r | none => a_kc Ks j' md T F Aa is)
    | none => a_kc Ks j' md T F Aa is
/-- the measure falls: M0 with the first values (place of a local among the first locals), M1 now -/
def a_lex (l0 : List (Nat × Nat)) (T : List aI) (lv : List (Nat × Nat)) : List aX → List aX → Bool
  | (c0, k0, i0) :: r0, (c1, k1, i1) :: r1 => Nat.beq k0 k1 && (bif Nat.beq k0 0 then (decide (0 ≤ c1) && decide (c1 < c0) && Nat.beq r0.length r1.length) || (decide (c1 = c0) && a_lex l0 T lv r0 r1)
    else (match z_lk l0 i0, z_lk lv i1 with
    | some p0, some s1 => (match T[s1]? with
      | some (0, b, _, (bs, of)) => Nat.beq bs p0 && (bif Nat.beq k0 1 then (decide (c1 - of < c0) && decide (b.2 ≤ c1) && Nat.beq r0.length r1.length) || (decide (c1 - of = c0) && a_lex l0 T lv r0 r1)
        else (decide (c1 + of < c0) && decide (0 ≤ b.1 + c1) && Nat.beq r0.length r1.length) || (decide (c1 + of = c0) && a_lex l0 T lv r0 r1))
      | _ => false)
    | _, _ => false))
  | _, _ => false
def a_ls (S : aS) (p : Nat × aI) : Bool := match z_lk S.2.1 p.1 with
  | some s => a_ts S.1 s p.2
  | none => false
def a_lf (S : aS) (f : Nat × Nat × aI) : Bool := match z_lk S.2.1 f.1 with
  | some o => a_fchk S.1 S.2.2.2 o f.2.1 f.2.2
  | none => false
def a_at (S : aS) (c : aC) : Bool := c.2.1.all (a_ls S) && (Nat.beq S.2.2.1.length c.2.2.1.length && ((S.2.2.1.zip c.2.2.1).all (fun p => a_ts S.1 p.1 p.2) && c.2.2.2.1.all (a_lf S)))
/-- the first state of a cut -/
def a_il : List (Nat × aI) → List aI → List (Nat × Nat) → List aI × List (Nat × Nat)
  | [], T, lv => (T, lv)
  | p :: r, T, lv => a_il r (T ++ [(p.2.1, p.2.2.1, p.2.2.2.1, (T.length, 0))]) ((p.1, T.length) :: lv)
def a_is : List aI → List aI → List aI × List Nat
  | [], T => (T, [])
  | q :: r, T => ((a_is r (T ++ [(q.1, q.2.1, q.2.2.1, (T.length, 0))])).1, T.length :: (a_is r (T ++ [(q.1, q.2.1, q.2.2.1, (T.length, 0))])).2)
def a_if : List (Nat × Nat × aI) → List aI → List (Nat × Nat) → aF → List aI × aF
  | [], T, _, F => (T, F)
  | f :: r, T, lv, F => match z_lk lv f.1 with
    | some o => a_if r (T ++ [(f.2.2.1, f.2.2.2.1, f.2.2.2.2.1, (T.length, 0))]) lv ((o, f.2.1, T.length) :: F)
    | none => a_if r T lv F
def a_ini (c : aC) : aS := ((a_if c.2.2.2.1 (a_is c.2.2.1 (a_il c.2.1 [] []).1).1 (a_il c.2.1 [] []).2 []).1, (a_il c.2.1 [] []).2, (a_is c.2.2.1 (a_il c.2.1 [] []).1).2, (a_if c.2.2.2.1 (a_is c.2.2.1 (a_il c.2.1 [] []).1).1 (a_il c.2.1 [] []).2 []).2)
def a_sprange (T : List aI) (s : Nat) : Int → Nat → List (List aI)
  | _, 0 => []
  | v, n + 1 => a_sb T s (v, v) :: a_sprange T s (v + 1) n
/-- an int is taken apart into its values -/
def a_spl (T : List aI) (s : Nat) : Option (List (List aI)) := match a_int T s with
  | some b => bif decide (b.2 - b.1 ≤ 40) then some (a_sprange T s b.1 (b.2 + 1 - b.1).toNat) else none
  | none => none
def a_sp (kd x : Nat) (S : aS) : Option (List aS) := match kd with
  | 0 => (match S.2.2.1[x]? with | some s => (a_spl S.1 s).map (fun l => l.map (fun T => (T, S.2))) | none => none)
  | 1 => (match z_lk S.2.1 0 with
    | some o => (match a_ref S.1 o with
      | some (r0 :: R) => bif (r0 :: R).all (a_obj (z_sh r0).2.1 x) then (match a_rd S.1 S.2.2.2 o (z_sh r0).2.1 x (r0 :: R) with
        | some (T1, v, F1) => (a_spl T1 v).map (fun l => l.map (fun T => (T, S.2.1, S.2.2.1, F1)))
        | none => none) else none
      | _ => none)
    | none => none)
  | _ => (match z_lk S.2.1 x with | some s => (a_spl S.1 s).map (fun l => l.map (fun T => (T, S.2))) | none => none)
def a_all {α β : Type} (g : α → Option (List β)) : List α → Option (List β)
  | [] => some []
  | x :: r => match g x with
    | none => none
    | some l => (match a_all g r with | none => none | some l' => some (l ++ l'))
abbrev aO : Type := List (Option Nat × aS)
/-- which calls go by contract: (method, place, contracts); where an int is taken apart: (method, place, kind, which) -/
abbrev aZ : Type := List (Nat × Nat × List Nat) × List (Nat × Nat × Nat × Nat)
def a_fc2 (l : List (Nat × Nat × List Nat)) (j pc : Nat) : Option (List Nat) := match l with
  | [] => none
  | q :: r => bif Nat.beq q.1 j && Nat.beq q.2.1 pc then some q.2.2 else a_fc2 r j pc
def a_fs2 (l : List (Nat × Nat × Nat × Nat)) (j pc : Nat) : Option (Nat × Nat) := match l with
  | [] => none
  | q :: r => bif Nat.beq q.1 j && Nat.beq q.2.1 pc then some q.2.2 else a_fs2 r j pc
def a_isc (cs : List aC) (pc : Nat) : Bool := cs.any (fun c => Nat.beq c.1 pc)
/-- all roads from a place on: their answers; mode 0: on the way, 1: at the start, 2: behind a taking apart -/
def a_ex (Ks : List aQ) (Z : aZ) (md : List (Nat × Nat)) (cs : List aC) (l0 : List (Nat × Nat)) (M0 : List aX) : Nat → Nat → Nat → Bool → Nat → Nat → aS → Option aO
  | 0, _, _, _, _, _, _ => none
  | f + 1, dd, j, tp, mode, pc, S =>
    bif tp && (Nat.beq mode 0 && a_isc cs pc) then
      (bif cs.any (fun c => Nat.beq c.1 pc && (a_at S c && a_lex l0 S.1 S.2.1 M0 c.2.2.2.2)) then some [] else none)
    else match (bif Nat.beq mode 2 then none else a_fs2 Z.2 j pc) with
    | some (kd, x) => (match a_sp kd x S with
      | none => none
      | some l => a_all (fun S' => a_ex Ks Z md cs l0 M0 f dd j tp 2 pc S') l)
    | none => match z_ft j pc with
      | none => none
      | some ins => match a_rn j ins S.1 S.2.2.1 with
        | some o => some [(o, S)]
        | none => match a_cl j pc S.1 S.2.2.1 with
          | some (j', Aa, ra) => bif Nat.beq (z_al j') 0 then (match a_fc2 Z.1 j pc with
            | some is => (match a_kc Ks j' md S.1 S.2.2.2 Aa is with
              | none => none
              | some (T', o, F') => a_ex Ks Z md cs l0 M0 f dd j tp 0 (pc + 3) (T', S.2.1, o.toList ++ ra, F'))
            | none => (match dd with
              | 0 => none
              | dd' + 1 => (match a_ex Ks Z md cs l0 M0 f dd' j' false 1 0 (S.1, a_args S.1 0 Aa, [], S.2.2.2) with
                | none => none
                | some outs => a_all (fun q => a_ex Ks Z md cs l0 M0 f (dd' + 1) j tp 0 (pc + 3) (q.2.1, S.2.1, q.1.toList ++ ra, q.2.2.2.2)) outs))) else none
          | none => match a_step (z_oc j) (z_ml j) md ins pc S with
            | none => none
            | some l => a_all (fun q => a_ex Ks Z md cs l0 M0 f dd j tp 0 q.1 q.2) l
/-- the answers fit -/
def a_post (K : aQ) (outs : aO) : Bool := outs.all (fun q => match q.1 with
  | none => Nat.beq K.2.2.2.2.1 9
  | some s => !Nat.beq K.2.2.2.2.1 9 && (match q.2.1[s]? with | some i => a_les i K.2.2.2.2 | none => false))
def a_run (Ks : List aQ) (Z : aZ) (K : aQ) (cs : List aC) (f dd : Nat) (c : aC) : Bool := match a_ex Ks Z K.2.2.2.1 cs (a_ini c).2.1 c.2.2.2.2 f dd K.1 true 1 c.1 (a_ini c) with
  | some outs => a_post K outs
  | none => false
/-- the cut at a contract's entry -/
def a_en : Nat → List aI → List (Nat × aI)
  | _, [] => []
  | i, q :: r => (i, q) :: a_en (bif Nat.beq q.1 1 then i + 2 else i + 1) r
def a_ent (K : aQ) (n : Nat) : aC := (0, a_en 0 K.2.1, [], K.2.2.1.filterMap (fun f => ((a_en 0 K.2.1)[f.1]?).map (fun p => (p.1, f.2.1, f.2.2))), (1000, 0, 0) :: List.replicate n (0, 0, 0))
/-- a contract is good: its entry and all its cuts; n: how long measures are, less one -/
def a_good (Ks : List aQ) (Z : aZ) (K : aQ) (cs : List aC) (f dd n : Nat) : Bool := (!Nat.beq K.1 mi_X7_nobodyWins && Nat.blt K.1 189) && (cs.all (fun c => Nat.beq c.2.2.2.2.length (n + 1)) && (Nat.ble (K.2.1.map (fun q => bif Nat.beq q.1 1 then 2 else 1)).sum (z_ml K.1) && (a_run Ks Z K cs f dd (a_ent K n) && cs.all (a_run Ks Z K cs f dd))))
