/-! the small machine does not mind which of like cells it works on: roles renamed -/
set_option maxRecDepth 8000
def zsg (σ : Nat → Nat) (μ : zM) : zM := (fun r k => μ.1 (σ r) k, fun r k => μ.2.1 (σ r) k, fun r => σ (μ.2.2 (σ r)))
/-- a renaming of like cells -/
def RN (σ : Nat → Nat) : Prop := (∀ r, σ (σ r) = r) ∧ (∀ r, z_sh (σ r) = z_sh r) ∧ (∀ r, 79 ≤ r → σ r = r) ∧ σ 0 = 0 ∧ σ 60 = 60 ∧ ∀ r k, (z_sh r).1 = 0 → ((z_sh r).2.1 = 0 ∨ (z_sh r).2.1 = 2) → z_gr (σ r) k = σ (z_gr r k)
theorem RN.lt {σ : Nat → Nat} (h : RN σ) (r : Nat) : Nat.blt (σ r) 79 = Nat.blt r 79 := by
  rw [Bool.eq_iff_iff, Nat.blt_eq, Nat.blt_eq]
  constructor
  · intro z
    apply Classical.byContradiction
    intro y
    rw [h.2.2.1 r (by omega)] at z
    exact y z
  · intro z
    apply Classical.byContradiction
    intro y
    have := h.2.2.1 (σ r) (by omega)
    rw [h.1] at this
    omega
theorem RN.lt100 {σ : Nat → Nat} (h : RN σ) (r : Nat) : Nat.blt (σ r) 100 = Nat.blt r 100 := by
  by_cases c : 79 ≤ r
  · rw [h.2.2.1 r c]
  · have : σ r < 79 := by have := h.lt r; rw [show Nat.blt r 79 = true from Nat.blt_eq.mpr (by omega)] at this; exact Nat.blt_eq.mp this
    rw [show Nat.blt r 100 = true from Nat.blt_eq.mpr (by omega), show Nat.blt (σ r) 100 = true from Nat.blt_eq.mpr (by omega)]
theorem RN.beq {σ : Nat → Nat} (h : RN σ) (r q : Nat) : Nat.beq (σ r) (σ q) = Nat.beq r q := by
  rw [Bool.eq_iff_iff, bq_t, bq_t]
  exact ⟨fun e => by rw [← h.1 r, e, h.1], fun e => by rw [e]⟩
theorem RN.beqs {σ : Nat → Nat} (h : RN σ) (r q : Nat) : Nat.beq r (σ q) = Nat.beq (σ r) q := by
  have := h.beq (σ r) q
  rw [h.1] at this
  exact this
theorem zsg_ui {σ : Nat → Nat} (h : RN σ) (μ : zM) (r k : Nat) (x : Int32) : z_ui (zsg σ μ) (σ r) k x = zsg σ (z_ui μ r k x) := by
  unfold z_ui zsg
  refine Prod.ext (funext fun r' => funext fun k' => ?_) rfl
  show (bif Nat.beq r' (σ r) && _ then _ else _) = (bif Nat.beq (σ r') r && _ then _ else _)
  rw [h.beqs]
theorem zsg_uj {σ : Nat → Nat} (h : RN σ) (μ : zM) (r k : Nat) (x : Int64) : z_uj (zsg σ μ) (σ r) k x = zsg σ (z_uj μ r k x) := by
  unfold z_uj zsg
  refine Prod.ext rfl (Prod.ext (funext fun r' => funext fun k' => ?_) rfl)
  show (bif Nat.beq r' (σ r) && _ then _ else _) = (bif Nat.beq (σ r') r && _ then _ else _)
  rw [h.beqs]
theorem zsg_ur {σ : Nat → Nat} (h : RN σ) (μ : zM) (r q : Nat) : z_ur (zsg σ μ) (σ r) (σ q) = zsg σ (z_ur μ r q) := by
  unfold z_ur zsg
  refine Prod.ext rfl (Prod.ext rfl (funext fun r' => ?_))
  show (bif Nat.beq r' (σ r) then σ q else σ (μ.2.2 (σ r'))) = σ (bif Nat.beq (σ r') r then q else μ.2.2 (σ r'))
  rw [h.beqs]
  cases Nat.beq (σ r') r <;> rfl
theorem zsg_sg {σ : Nat → Nat} (h : RN σ) (μ : zM) : zsg σ (zsg σ μ) = μ := by
  unfold zsg
  refine Prod.ext (funext fun r => ?_) (Prod.ext (funext fun r => ?_) (funext fun r => ?_))
  · show μ.1 (σ (σ r)) = μ.1 r; rw [h.1]
  · show μ.2.1 (σ (σ r)) = μ.2.1 r; rw [h.1]
  · show σ (σ (μ.2.2 (σ (σ r)))) = μ.2.2 r; rw [h.1, h.1]
theorem tr_tr {σ : Nat → Nat} (h : RN σ) (v : Value) : z_tr σ (z_tr σ v) = v := by
  cases v
  case ref r => show Value.ref (σ (σ r)) = .ref r; rw [h.1]
  all_goals rfl
theorem trl_trl {σ : Nat → Nat} (h : RN σ) (l : List Value) : (l.map (z_tr σ)).map (z_tr σ) = l := by
  rw [List.map_map]
  conv => rhs; rw [← List.map_id l]
  exact List.map_congr_left (fun v _ => tr_tr h v)
abbrev Sg (σ : Nat → Nat) (l : List Value) : List Value := l.map (z_tr σ)
theorem ii_s {σ : Nat → Nat} {f : Int32 → Int32 → Value} (hf : ∀ x y, z_tr σ (f x y) = f x y) (st : List Value) : z_ii f (Sg σ st) = (z_ii f st).map (Sg σ) := by
  match st with
  | [] => rfl
  | [v] => cases v <;> rfl
  | v :: w :: r => cases v <;> cases w <;> first | rfl | (show some (f _ _ :: _) = some (z_tr σ (f _ _) :: _); rw [hf])
theorem ii0_s {σ : Nat → Nat} {f : Int32 → Int32 → Value} (hf : ∀ x y, z_tr σ (f x y) = f x y) (st : List Value) : z_ii0 f (Sg σ st) = (z_ii0 f st).map (Sg σ) := by
  match st with
  | [] => rfl
  | [v] => cases v <;> rfl
  | v :: w :: r =>
    cases v <;> cases w <;> try rfl
    rename_i y x
    show (bif y == 0 then none else some (f x y :: Sg σ r)) = (bif y == 0 then none else some (f x y :: r)).map (Sg σ)
    cases y == 0
    · show some (f x y :: _) = some (z_tr σ (f x y) :: _); rw [hf]
    · rfl
theorem ll_s {σ : Nat → Nat} {f : Int64 → Int64 → Value} (hf : ∀ x y, z_tr σ (f x y) = f x y) (st : List Value) : z_ll f (Sg σ st) = (z_ll f st).map (Sg σ) := by
  match st with
  | [] => rfl
  | [v] => cases v <;> rfl
  | v :: w :: r => cases v <;> cases w <;> first | rfl | (show some (f _ _ :: _) = some (z_tr σ (f _ _) :: _); rw [hf])
theorem ll0_s {σ : Nat → Nat} {f : Int64 → Int64 → Value} (hf : ∀ x y, z_tr σ (f x y) = f x y) (st : List Value) : z_ll0 f (Sg σ st) = (z_ll0 f st).map (Sg σ) := by
  match st with
  | [] => rfl
  | [v] => cases v <;> rfl
  | v :: w :: r =>
    cases v <;> cases w <;> try rfl
    rename_i y x
    show (bif y == 0 then none else some (f x y :: Sg σ r)) = (bif y == 0 then none else some (f x y :: r)).map (Sg σ)
    cases y == 0
    · show some (f x y :: _) = some (z_tr σ (f x y) :: _); rw [hf]
    · rfl
theorem li_s {σ : Nat → Nat} {f : Int64 → Int32 → Value} (hf : ∀ x y, z_tr σ (f x y) = f x y) (st : List Value) : z_li f (Sg σ st) = (z_li f st).map (Sg σ) := by
  match st with
  | [] => rfl
  | [v] => cases v <;> rfl
  | v :: w :: r => cases v <;> cases w <;> first | rfl | (show some (f _ _ :: _) = some (z_tr σ (f _ _) :: _); rw [hf])
theorem i1_s {σ : Nat → Nat} {f : Int32 → Value} (hf : ∀ x, z_tr σ (f x) = f x) (st : List Value) : z_i1 f (Sg σ st) = (z_i1 f st).map (Sg σ) := by
  match st with
  | [] => rfl
  | v :: r => cases v <;> first | rfl | (show some (f _ :: _) = some (z_tr σ (f _) :: _); rw [hf])
theorem l1_s {σ : Nat → Nat} {f : Int64 → Value} (hf : ∀ x, z_tr σ (f x) = f x) (st : List Value) : z_l1 f (Sg σ st) = (z_l1 f st).map (Sg σ) := by
  match st with
  | [] => rfl
  | v :: r => cases v <;> first | rfl | (show some (f _ :: _) = some (z_tr σ (f _) :: _); rw [hf])
theorem dup_s {σ : Nat → Nat} (st : List Value) : z_dup (Sg σ st) = (z_dup st).map (Sg σ) := by
  match st with
  | [] => rfl
  | v :: r => cases v <;> rfl
theorem pop_s {σ : Nat → Nat} (st : List Value) : z_pop (Sg σ st) = (z_pop st).map (Sg σ) := by
  match st with
  | [] => rfl
  | v :: r => cases v <;> rfl
theorem dup2_s {σ : Nat → Nat} (st : List Value) : z_dup2 (Sg σ st) = (z_dup2 st).map (Sg σ) := by
  match st with
  | [] => rfl
  | [v] => rfl
  | v :: w :: r => cases v <;> cases w <;> rfl
theorem pop2_s {σ : Nat → Nat} (st : List Value) : z_pop2 (Sg σ st) = (z_pop2 st).map (Sg σ) := by
  match st with
  | [] => rfl
  | v :: r => cases v <;> rfl
theorem st_s {σ : Nat → Nat} (ins : Instr) (st : List Value) : z_st ins (Sg σ st) = (z_st ins st).map (Sg σ) := by
  cases ins <;> first | rfl | exact ii_s (fun _ _ => rfl) st | exact ii0_s (fun _ _ => rfl) st | exact ll_s (fun _ _ => rfl) st | exact ll0_s (fun _ _ => rfl) st | exact li_s (fun _ _ => rfl) st | exact i1_s (fun _ => rfl) st | exact l1_s (fun _ => rfl) st | exact dup_s st | exact pop_s st | exact dup2_s st | exact pop2_s st
theorem jp_s {σ : Nat → Nat} (ins : Instr) (pc : Nat) (st : List Value) : z_jp ins pc (Sg σ st) = (z_jp ins pc st).map (fun q => (q.1, Sg σ q.2)) := by
  cases ins
  case goto off => show (z_to pc off).map _ = ((z_to pc off).map _).map _; cases z_to pc off <;> rfl
  case ifCond c off =>
    match st with
    | [] => rfl
    | v :: r => cases v <;> first | rfl | (show (z_to pc off).map _ = ((z_to pc off).map _).map _; cases z_to pc off <;> rfl)
  case if_icmp c off =>
    match st with
    | [] => rfl
    | [v] => cases v <;> rfl
    | v :: w :: r => cases v <;> cases w <;> first | rfl | (show (z_to pc off).map _ = ((z_to pc off).map _).map _; cases z_to pc off <;> rfl)
  case ifnull off =>
    match st with
    | [] => rfl
    | v :: r => cases v <;> rfl
  case tableswitch d lo hi offs =>
    match st with
    | [] => rfl
    | v :: r =>
      cases v <;> try rfl
      rename_i x
      show (bif decide (x.toInt < lo) || decide (hi < x.toInt) then (z_to pc d).map (fun t => (t, Sg σ r)) else _) = Option.map _ (bif decide (x.toInt < lo) || decide (hi < x.toInt) then (z_to pc d).map (fun t => (t, r)) else _)
      cases decide (x.toInt < lo) || decide (hi < x.toInt)
      · show (match offs[(x.toInt - lo).toNat]? with | some off => (z_to pc off).map (fun t => (t, Sg σ r)) | none => none) = Option.map _ (match offs[(x.toInt - lo).toNat]? with | some off => (z_to pc off).map (fun t => (t, r)) | none => none)
        cases offs[(x.toInt - lo).toNat]? with
        | none => rfl
        | some off => show (z_to pc off).map _ = ((z_to pc off).map _).map _; cases z_to pc off <;> rfl
      · show (z_to pc d).map _ = ((z_to pc d).map _).map _; cases z_to pc d <;> rfl
  all_goals rfl
theorem lk_s {σ : Nat → Nat} (lv : zL) (k : Nat) : z_lk (z_tl σ lv) k = (z_lk lv k).map (z_tr σ) := by
  induction lv with
  | nil => rfl
  | cons q r ih =>
    show (bif Nat.beq q.1 k then some (z_tr σ q.2) else z_lk (z_tl σ r) k) = Option.map _ (bif Nat.beq q.1 k then some q.2 else z_lk r k)
    cases Nat.beq q.1 k
    · exact ih
    · rfl
theorem rm_s {σ : Nat → Nat} (lv : zL) (k : Nat) : z_rm (z_tl σ lv) k = z_tl σ (z_rm lv k) := by
  induction lv with
  | nil => rfl
  | cons q r ih =>
    show (bif Nat.beq q.1 k || (Nat.beq (q.1 + 1) k && Nat.beq (z_tr σ q.2).category 2) then z_rm (z_tl σ r) k else (q.1, z_tr σ q.2) :: z_rm (z_tl σ r) k) = z_tl σ (bif Nat.beq q.1 k || (Nat.beq (q.1 + 1) k && Nat.beq q.2.category 2) then z_rm r k else q :: z_rm r k)
    rw [z_tr_cat, ih]
    cases Nat.beq q.1 k || (Nat.beq (q.1 + 1) k && Nat.beq q.2.category 2) <;> rfl
theorem rm2_s {σ : Nat → Nat} (lv : zL) (k : Nat) : z_rm2 (z_tl σ lv) k = z_tl σ (z_rm2 lv k) := by
  induction lv with
  | nil => rfl
  | cons q r ih =>
    show (bif Nat.beq q.1 k || (Nat.beq q.1 (k + 1) || (Nat.beq (q.1 + 1) k && Nat.beq (z_tr σ q.2).category 2)) then z_rm2 (z_tl σ r) k else (q.1, z_tr σ q.2) :: z_rm2 (z_tl σ r) k) = z_tl σ (bif Nat.beq q.1 k || (Nat.beq q.1 (k + 1) || (Nat.beq (q.1 + 1) k && Nat.beq q.2.category 2)) then z_rm2 r k else q :: z_rm2 r k)
    rw [z_tr_cat, ih]
    cases Nat.beq q.1 k || (Nat.beq q.1 (k + 1) || (Nat.beq (q.1 + 1) k && Nat.beq q.2.category 2)) <;> rfl
abbrev LSg (σ : Nat → Nat) (q : zL × List Value) : zL × List Value := (z_tl σ q.1, Sg σ q.2)
theorem ld_i {σ : Nat → Nat} (lv : zL) (k : Nat) (st : List Value) : (match z_lk (z_tl σ lv) k with | some (.int x) => some (z_tl σ lv, Value.int x :: Sg σ st) | _ => none) = Option.map (LSg σ) (match z_lk lv k with | some (.int x) => some (lv, Value.int x :: st) | _ => none) := by
  rw [lk_s]
  cases z_lk lv k with
  | none => rfl
  | some v => cases v <;> rfl
theorem ld_l {σ : Nat → Nat} (lv : zL) (k : Nat) (st : List Value) : (match z_lk (z_tl σ lv) k with | some (.long x) => some (z_tl σ lv, Value.long x :: Sg σ st) | _ => none) = Option.map (LSg σ) (match z_lk lv k with | some (.long x) => some (lv, Value.long x :: st) | _ => none) := by
  rw [lk_s]
  cases z_lk lv k with
  | none => rfl
  | some v => cases v <;> rfl
theorem ld_a {σ : Nat → Nat} (lv : zL) (k : Nat) (st : List Value) : (match z_lk (z_tl σ lv) k with | some (.ref x) => some (z_tl σ lv, Value.ref x :: Sg σ st) | _ => none) = Option.map (LSg σ) (match z_lk lv k with | some (.ref x) => some (lv, Value.ref x :: st) | _ => none) := by
  rw [lk_s]
  cases z_lk lv k with
  | none => rfl
  | some v => cases v <;> rfl
theorem s1_s {σ : Nat → Nat} (nL : Nat) (lv : zL) (i : Nat) (v : Value) (r : List Value) : (bif Nat.blt i nL then some ((i, z_tr σ v) :: z_rm (z_tl σ lv) i, Sg σ r) else none) = Option.map (LSg σ) (bif Nat.blt i nL then some ((i, v) :: z_rm lv i, r) else none) := by
  rw [rm_s]
  cases Nat.blt i nL <;> rfl
theorem s2_s {σ : Nat → Nat} (nL : Nat) (lv : zL) (i : Nat) (v : Value) (r : List Value) : (bif Nat.blt (i + 1) nL then some ((i, z_tr σ v) :: z_rm2 (z_tl σ lv) i, Sg σ r) else none) = Option.map (LSg σ) (bif Nat.blt (i + 1) nL then some ((i, v) :: z_rm2 lv i, r) else none) := by
  rw [rm2_s]
  cases Nat.blt (i + 1) nL <;> rfl
theorem lv_s {σ : Nat → Nat} (nL : Nat) (ins : Instr) (lv : zL) (st : List Value) : z_lv nL ins (z_tl σ lv) (Sg σ st) = (z_lv nL ins lv st).map (LSg σ) := by
  cases ins
  case iload_n k => exact ld_i lv k st
  case iload k => exact ld_i lv k st
  case lload_n k => exact ld_l lv k st
  case lload k => exact ld_l lv k st
  case aload_n k => exact ld_a lv k st
  case aload k => exact ld_a lv k st
  case istore_n k => cases st with
    | nil => rfl
    | cons v r =>
      cases v <;> try rfl
      rename_i x
      exact s1_s (σ := σ) nL lv k (.int x) r
  case istore k => cases st with
    | nil => rfl
    | cons v r =>
      cases v <;> try rfl
      rename_i x
      exact s1_s (σ := σ) nL lv k (.int x) r
  case lstore_n k => cases st with
    | nil => rfl
    | cons v r =>
      cases v <;> try rfl
      rename_i x
      exact s2_s (σ := σ) nL lv k (.long x) r
  case lstore k => cases st with
    | nil => rfl
    | cons v r =>
      cases v <;> try rfl
      rename_i x
      exact s2_s (σ := σ) nL lv k (.long x) r
  case astore_n k => cases st with
    | nil => rfl
    | cons v r =>
      cases v <;> try rfl
      rename_i x
      exact s1_s (σ := σ) nL lv k (.ref x) r
  case astore k => cases st with
    | nil => rfl
    | cons v r =>
      cases v <;> try rfl
      rename_i x
      exact s1_s (σ := σ) nL lv k (.ref x) r
  case iinc k n =>
    show (match z_lk (z_tl σ lv) k with | some (.int x) => _ | _ => none) = Option.map _ (match z_lk lv k with | some (.int x) => _ | _ => none)
    rw [lk_s]
    cases z_lk lv k with
    | none => rfl
    | some v =>
      cases v <;> try rfl
      rename_i x
      exact s1_s (σ := σ) nL lv k (.int (x + Int32.ofInt n)) st
  all_goals rfl
