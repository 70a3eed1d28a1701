/-! the reference's reckoning: where there is a base, the hand is full -/
set_option maxRecDepth 8000
def IFv (μ : zM) : Prop := μ.1 50 13 = 0 ∨ μ.1 50 18 = 1
def LA : List Nat := [mi_X7_way, mi_X7_pairsWay, mi_X7_thirteen, mi_X7_bit, mi_X7_compare, mi_X7_edges, mi_X7_firstSort, mi_X7_han, mi_X7_has, mi_X7_hasRun, mi_X7_hasThree, mi_X7_isDragon, mi_X7_isEnd, mi_X7_isHidden, mi_X7_isHonour, mi_X7_isOpen, mi_X7_isTerminal, mi_X7_of, mi_X7_tiles, mi_X7_twins]
def LN : List Nat := [mi_X7_isEnd, mi_X7_isTerminal, mi_X7_inHand, mi_X7_isRun, mi_X7_isHonour]
def LSs : List Nat := [mi_X7_sets, mi_X7_apart, mi_X7_reckon]
theorem LA_ok : kLs LA [18] = true := by decide +kernel
theorem LN_ok : kLs LN [13, 18] = true := by decide +kernel
def rg (j pc : Nat) : Nat := bif Nat.beq j mi_X7_sets then (bif Nat.beq pc 59 then 3 else bif Nat.ble 62 pc && Nat.ble pc 72 then 2 else 1) else bif Nat.beq j mi_X7_apart then (bif Nat.blt pc 12 then 0 else bif Nat.beq pc 12 then 4 else bif Nat.beq pc 217 || Nat.beq pc 241 then 3 else bif (Nat.ble 220 pc && Nat.ble pc 225) || (Nat.ble 244 pc && Nat.ble pc 249) then 2 else 1) else bif Nat.blt pc 68 then 0 else 1
def JR (n : Nat) (st : List Value) (μ : zM) : Prop := match n with
  | 0 => True
  | 1 => IFv μ
  | 2 => μ.1 50 18 = 1
  | 3 => (∃ t, st = .int 1 :: t) ∧ IFv μ
  | _ => ∃ t, st = .int 0 :: t
def scs (pc : Nat) (ins : Instr) : List Nat := match ins with
  | .goto off => [((pc : Int) + off).toNat]
  | .ifCond _ off => [((pc : Int) + off).toNat, pc + 3]
  | .if_icmp _ off => [((pc : Int) + off).toNat, pc + 3]
  | _ => [pc + z_len ins]
def noSw (ins : Instr) : Bool := match ins with
  | .tableswitch _ _ _ _ => false
  | .ifnull _ => false
  | _ => true
theorem step_pc {xs : Nat × (Nat → Int32)} {np oc nL : Nat} {ins : Instr} {pc pc' : Nat} {lv lv' : zL} {st st' : List Value} {μ μ' : zM} (h : z_step xs np oc nL ins (pc, lv, st, μ) = some (pc', lv', st', μ')) (hj : z_jp ins pc st = none) : pc' = pc + z_len ins := by
  unfold z_step at h
  split at h
  · cases h; rfl
  · rw [show z_jp ins (pc, lv, st, μ).1 (pc, lv, st, μ).2.2.1 = none from hj] at h
    split at h
    · rename_i a b c d; cases d
    · split at h
      · cases h; rfl
      · split at h
        · cases h; rfl
        · cases h
theorem z_to_t {pc t : Nat} {off : Int} (h : z_to pc off = some t) : t = ((pc : Int) + off).toNat := by
  unfold z_to at h
  exact (bif_some h).2.symm
theorem step_sc {xs : Nat × (Nat → Int32)} {np oc nL : Nat} {ins : Instr} {pc pc' : Nat} {lv lv' : zL} {st st' : List Value} {μ μ' : zM} (h : z_step xs np oc nL ins (pc, lv, st, μ) = some (pc', lv', st', μ')) (hn : noSw ins = true) : pc' ∈ scs pc ins := by
  cases ins with
  | goto off =>
    have h3 : (match (z_to pc off).map (fun t => (t, st)) with | some (p, s) => some (p, lv, s, μ) | none => none) = some (pc', lv', st', μ') := h
    cases e : z_to pc off with
    | none => rw [e] at h3; cases h3
    | some t => rw [e] at h3; cases h3; rw [z_to_t e]; exact List.mem_cons_self
  | ifCond c off =>
    match st, h with
    | .int x :: r, h =>
      have h3 : (match (z_to pc off).map (fun t => (bif z_cmp c x 0 then t else pc + 3, r)) with | some (p, s) => some (p, lv, s, μ) | none => none) = some (pc', lv', st', μ') := h
      cases e : z_to pc off with
      | none => rw [e] at h3; cases h3
      | some t =>
        rw [e] at h3
        have h3 : some ((bif z_cmp c x 0 then t else pc + 3), lv, r, μ) = some (pc', lv', st', μ') := h3
        cases b : z_cmp c x 0
        · rw [b] at h3; cases h3; exact List.mem_cons_of_mem _ List.mem_cons_self
        · rw [b] at h3; cases h3; rw [z_to_t e]; exact List.mem_cons_self
    | [], h => exact nomatch (show none = some (pc', lv', st', μ') from h)
    | .long _ :: r, h => exact nomatch (show none = some (pc', lv', st', μ') from h)
    | .ref _ :: r, h => exact nomatch (show none = some (pc', lv', st', μ') from h)
    | .null :: r, h => exact nomatch (show none = some (pc', lv', st', μ') from h)
  | if_icmp c off =>
    match st, h with
    | .int y :: .int x :: r, h =>
      have h3 : (match (z_to pc off).map (fun t => (bif z_cmp c x y then t else pc + 3, r)) with | some (p, s) => some (p, lv, s, μ) | none => none) = some (pc', lv', st', μ') := h
      cases e : z_to pc off with
      | none => rw [e] at h3; cases h3
      | some t =>
        rw [e] at h3
        have h3 : some ((bif z_cmp c x y then t else pc + 3), lv, r, μ) = some (pc', lv', st', μ') := h3
        cases b : z_cmp c x y
        · rw [b] at h3; cases h3; exact List.mem_cons_of_mem _ List.mem_cons_self
        · rw [b] at h3; cases h3; rw [z_to_t e]; exact List.mem_cons_self
    | [], h => exact nomatch (show none = some (pc', lv', st', μ') from h)
    | .int y :: .null :: r, h => exact nomatch (show none = some (pc', lv', st', μ') from h)
    | .int y :: [], h => exact nomatch (show none = some (pc', lv', st', μ') from h)
    | .int y :: .long _ :: r, h => exact nomatch (show none = some (pc', lv', st', μ') from h)
    | .int y :: .ref _ :: r, h => exact nomatch (show none = some (pc', lv', st', μ') from h)
    | .long _ :: r, h => exact nomatch (show none = some (pc', lv', st', μ') from h)
    | .ref _ :: r, h => exact nomatch (show none = some (pc', lv', st', μ') from h)
    | .null :: r, h => exact nomatch (show none = some (pc', lv', st', μ') from h)
  | tableswitch _ _ _ _ => exact nomatch (show false = true from hn)
  | ifnull _ => exact nomatch (show false = true from hn)
  | _ => (rw [step_pc h rfl]; exact List.mem_cons_self)
def isK (ins : Instr) (n : Int) : Bool := match ins with
  | .iconst m => decide (m = n)
  | _ => false
def trO (oc : Nat) (ins : Instr) (a b : Nat) : Bool := Nat.beq b 0 || (bif wF oc ins 18 then Nat.beq a 3 && (Nat.beq b 1 || Nat.beq b 2) else bif wF oc ins 13 then Nat.beq a 4 && Nat.beq b 1 else
  (Nat.beq b 1 && (Nat.beq a 1 || (Nat.beq a 2 || Nat.beq a 3))) || ((Nat.beq b 2 && Nat.beq a 2) || ((Nat.beq b 3 && (isK ins 1 && (Nat.beq a 1 || Nat.beq a 2))) || (Nat.beq b 4 && isK ins 0))))
def isR (ins : Instr) : Bool := match ins with
  | .return_ => true
  | .ireturn => true
  | .lreturn => true
  | .areturn => true
  | _ => false
def cOk (j pc : Nat) (ins : Instr) : Bool :=
  let f := fun (j' : Nat) => (LSs.contains j' && ((Nat.beq (rg j' 0) 0 || (Nat.beq (rg j' 0) 1 && (Nat.beq (rg j pc) 1))) && (Nat.beq (rg j (pc + 3)) 0 || Nat.beq (rg j (pc + 3)) 1))) || ((LA.contains j' && (Nat.beq (rg j pc) 2 && (Nat.beq (rg j (pc + 3)) 1 || Nat.beq (rg j (pc + 3)) 2))) || (LN.contains j' && (Nat.beq (rg j pc) 1 && Nat.beq (rg j (pc + 3)) 1)))
  match ins with
  | .invokevirtual idx => (match z_lk (z_cals.getD (z_oc j) []) idx with | some (_, j', _) => f j' | none => false)
  | .invokestatic idx => (match z_lk (z_cals.getD (z_oc j) []) idx with | some (_, j', _) => f j' | none => false)
  | _ => true
def okS (j pc : Nat) (ins : Instr) : Bool := noSw ins && ((isR ins || (scs pc ins).all (fun p => trO (z_oc j) ins (rg j pc) (rg j p)) || (match ins with | .invokevirtual _ => true | .invokestatic _ => true | _ => false)) && ((!isR ins || (Nat.beq (rg j pc) 1 || Nat.beq (rg j pc) 2)) && cOk j pc ins))
theorem LS_ok : LSs.all (fun j => !Nat.beq j mi_X7_nobodyWins && (z_cd j).all (fun q => okS j q.1 q.2)) = true := by decide +kernel
