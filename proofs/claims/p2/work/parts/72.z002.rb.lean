/-! roles renamed: fields, arrays, calls, answers; contracts -/
set_option maxRecDepth 8000
def okI (oc : Nat) (ins : Instr) : Bool := match ins with
  | .getfield idx => (match z_lk (z_flds.getD oc []) idx with
    | some (ci, k) => !(Nat.beq (z_fk ci k) 3) || (Nat.beq ci 0 || Nat.beq ci 2)
    | none => true)
  | .aaload => false
  | .getstatic idx => (match z_lk (z_stas.getD oc []) idx with
    | some r => Nat.ble 79 r
    | none => true)
  | _ => true
abbrev HSg (σ : Nat → Nat) (q : List Value × zM) : List Value × zM := (Sg σ q.1, zsg σ q.2)
theorem gv_s {σ : Nat → Nat} (h : RN σ) (μ : zM) (ci r k : Nat) (h0 : (z_sh r).1 = 0) (h1 : (z_sh r).2.1 = ci) (hk : (!(Nat.beq (z_fk ci k) 3) || (Nat.beq ci 0 || Nat.beq ci 2)) = true) : z_gv (zsg σ μ) ci (σ r) k = z_tr σ (z_gv μ ci r k) := by
  have e1 : (zsg σ μ).1 (σ r) k = μ.1 r k := by show μ.1 (σ (σ r)) k = _; rw [h.1]
  have e2 : (zsg σ μ).2.1 (σ r) k = μ.2.1 r k := by show μ.2.1 (σ (σ r)) k = _; rw [h.1]
  have e3 : (zsg σ μ).2.2 (σ r) = σ (μ.2.2 r) := by show σ (μ.2.2 (σ (σ r))) = _; rw [h.1]
  unfold z_gv
  rw [e1, e2, e3]
  generalize hf : z_fk ci k = f at hk
  match f with
  | 0 => rfl
  | 1 => rfl
  | 2 => rfl
  | 3 =>
    have hk : (Nat.beq ci 0 || Nat.beq ci 2) = true := hk
    rw [Bool.or_eq_true, bq_t, bq_t] at hk
    show Value.ref (z_gr (σ r) k) = .ref (σ (z_gr r k))
    rw [h.2.2.2.2.2 r k h0 (by rw [h1]; exact hk)]
  | 4 =>
    show z_rv (σ (μ.2.2 r)) = z_tr σ (z_rv (μ.2.2 r))
    generalize μ.2.2 r = q
    unfold z_rv
    have a1 : Nat.beq (σ q) 0 = Nat.beq q 0 := by have := h.beq q 0; rw [h.2.2.2.1] at this; exact this
    have a2 : Nat.ble 79 (σ q) = Nat.ble 79 q := by
      have := h.lt q
      rw [Bool.eq_iff_iff, Nat.blt_eq, Nat.blt_eq] at this
      rw [Bool.eq_iff_iff, Nat.ble_eq, Nat.ble_eq]
      omega
    rw [a1, a2]
    cases Nat.beq q 0 || Nat.ble 79 q <;> rfl
  | n + 5 => rfl
theorem pv_s {σ : Nat → Nat} (h : RN σ) (μ : zM) (ci r k : Nat) (v : Value) : z_pv (zsg σ μ) ci (σ r) k (z_tr σ v) = (z_pv μ ci r k v).map (zsg σ) := by
  unfold z_pv
  generalize z_fk ci k = f
  match f with
  | 0 => cases v <;> first | rfl | exact congrArg some (zsg_ui h μ r k _)
  | 1 => cases v <;> first | rfl | exact congrArg some (zsg_uj h μ r k _)
  | 2 =>
    cases v <;> try rfl
    rename_i x
    show (bif z_b01 x then some (z_ui (zsg σ μ) (σ r) k x) else none) = Option.map _ (bif z_b01 x then some (z_ui μ r k x) else none)
    rw [zsg_ui h]
    cases z_b01 x <;> rfl
  | 3 => cases v <;> rfl
  | 4 =>
    cases v <;> try rfl
    rename_i q
    show (bif Nat.beq (σ q) 0 || Nat.ble 79 (σ q) then none else some (z_ur (zsg σ μ) (σ r) (σ q))) = Option.map _ (bif Nat.beq q 0 || Nat.ble 79 q then none else some (z_ur μ r q))
    have a1 : Nat.beq (σ q) 0 = Nat.beq q 0 := by have := h.beq q 0; rw [h.2.2.2.1] at this; exact this
    have a2 : Nat.ble 79 (σ q) = Nat.ble 79 q := by
      have := h.lt q
      rw [Bool.eq_iff_iff, Nat.blt_eq, Nat.blt_eq] at this
      rw [Bool.eq_iff_iff, Nat.ble_eq, Nat.ble_eq]
      omega
    rw [a1, a2, zsg_ur h]
    cases Nat.beq q 0 || Nat.ble 79 q <;> rfl
  | n + 5 => cases v <;> rfl
theorem rd1 {σ : Nat → Nat} (h : RN σ) (μ : zM) (r k : Nat) : (zsg σ μ).1 (σ r) k = μ.1 r k := by show μ.1 (σ (σ r)) k = _; rw [h.1]
theorem rd2 {σ : Nat → Nat} (h : RN σ) (μ : zM) (r k : Nat) : (zsg σ μ).2.1 (σ r) k = μ.2.1 r k := by show μ.2.1 (σ (σ r)) k = _; rw [h.1]
theorem map_cat {σ : Nat → Nat} (t : List Value) : ((Sg σ t).map fun v => v.category).sum = (t.map fun v => v.category).sum := z_cat_tr σ t
theorem av0 (r : Nat) (c : ¬ 79 ≤ r) : z_av z_x0 r = false := by
  unfold z_av
  rw [show Nat.beq r 101 = false from by rw [← Bool.not_eq_true, bq_t]; omega, show Nat.beq r 102 = false from by rw [← Bool.not_eq_true, bq_t]; omega, show Nat.beq r 100 = false from by rw [← Bool.not_eq_true, bq_t]; omega]
  rfl
theorem RN.l9 {σ : Nat → Nat} (h : RN σ) (r : Nat) (c : ¬ 79 ≤ r) : ¬ 79 ≤ σ r := by
  have := h.lt r
  rw [show Nat.blt r 79 = true from Nat.blt_eq.mpr (by omega)] at this
  have := Nat.blt_eq.mp this
  omega
theorem hp_s {σ : Nat → Nat} (h : RN σ) (oc : Nat) (ins : Instr) (st : List Value) (μ : zM) (hok : okI oc ins = true) : z_hp z_x0 79 oc ins (Sg σ st) (zsg σ μ) = (z_hp z_x0 79 oc ins st μ).map (HSg σ) := by
  have x100 : ∀ r, Nat.blt r 100 = false → σ r = r := fun r z => h.2.2.1 r (by
    apply Classical.byContradiction
    intro y
    rw [show Nat.blt r 100 = true from Nat.blt_eq.mpr (by omega)] at z
    exact absurd z (by decide))
  cases ins
  case getfield idx =>
    match st with
    | [] => rfl
    | v :: t =>
      cases v <;> try rfl
      rename_i r
      have hok : (match z_lk (z_flds.getD oc []) idx with | some (ci, k) => !(Nat.beq (z_fk ci k) 3) || (Nat.beq ci 0 || Nat.beq ci 2) | none => true) = true := hok
      show (match z_lk (z_flds.getD oc []) idx with
        | some (ci, k) => bif Nat.blt (σ r) 79 && (Nat.beq (z_sh (σ r)).1 0 && (Nat.beq (z_sh (σ r)).2.1 ci && Nat.blt k (z_sh (σ r)).2.2)) then some (z_gv (zsg σ μ) ci (σ r) k :: Sg σ t, zsg σ μ) else none
        | none => none) = Option.map (HSg σ) (match z_lk (z_flds.getD oc []) idx with
        | some (ci, k) => bif Nat.blt r 79 && (Nat.beq (z_sh r).1 0 && (Nat.beq (z_sh r).2.1 ci && Nat.blt k (z_sh r).2.2)) then some (z_gv μ ci r k :: t, μ) else none
        | none => none)
      cases e : z_lk (z_flds.getD oc []) idx with
      | none => rfl
      | some q =>
        obtain ⟨ci, k⟩ := q
        rw [e] at hok
        show (bif Nat.blt (σ r) 79 && (Nat.beq (z_sh (σ r)).1 0 && (Nat.beq (z_sh (σ r)).2.1 ci && Nat.blt k (z_sh (σ r)).2.2)) then some (z_gv (zsg σ μ) ci (σ r) k :: Sg σ t, zsg σ μ) else none) = Option.map (HSg σ) (bif Nat.blt r 79 && (Nat.beq (z_sh r).1 0 && (Nat.beq (z_sh r).2.1 ci && Nat.blt k (z_sh r).2.2)) then some (z_gv μ ci r k :: t, μ) else none)
        rw [h.lt, h.2.1]
        cases c : Nat.blt r 79 && (Nat.beq (z_sh r).1 0 && (Nat.beq (z_sh r).2.1 ci && Nat.blt k (z_sh r).2.2))
        · rfl
        · obtain ⟨_, c⟩ := z_and c
          obtain ⟨c1, c⟩ := z_and c
          obtain ⟨c2, _⟩ := z_and c
          show some (z_gv (zsg σ μ) ci (σ r) k :: Sg σ t, zsg σ μ) = some (z_tr σ (z_gv μ ci r k) :: Sg σ t, zsg σ μ)
          rw [gv_s h μ ci r k (z_beq c1) (z_beq c2) hok]
  case putfield idx =>
    match st with
    | [] => rfl
    | [v] => rfl
    | v :: w :: t =>
      cases w <;> try rfl
      rename_i r
      show (match z_lk (z_flds.getD oc []) idx with
        | some (ci, k) => bif Nat.blt (σ r) 79 && (Nat.beq (z_sh (σ r)).1 0 && (Nat.beq (z_sh (σ r)).2.1 ci && Nat.blt k (z_sh (σ r)).2.2)) then (z_pv (zsg σ μ) ci (σ r) k (z_tr σ v)).map (fun μ' => (Sg σ t, μ')) else none
        | none => none) = Option.map (HSg σ) (match z_lk (z_flds.getD oc []) idx with
        | some (ci, k) => bif Nat.blt r 79 && (Nat.beq (z_sh r).1 0 && (Nat.beq (z_sh r).2.1 ci && Nat.blt k (z_sh r).2.2)) then (z_pv μ ci r k v).map (fun μ' => (t, μ')) else none
        | none => none)
      cases z_lk (z_flds.getD oc []) idx with
      | none => rfl
      | some q =>
        obtain ⟨ci, k⟩ := q
        show (bif Nat.blt (σ r) 79 && (Nat.beq (z_sh (σ r)).1 0 && (Nat.beq (z_sh (σ r)).2.1 ci && Nat.blt k (z_sh (σ r)).2.2)) then (z_pv (zsg σ μ) ci (σ r) k (z_tr σ v)).map (fun μ' => (Sg σ t, μ')) else none) = Option.map (HSg σ) (bif Nat.blt r 79 && (Nat.beq (z_sh r).1 0 && (Nat.beq (z_sh r).2.1 ci && Nat.blt k (z_sh r).2.2)) then (z_pv μ ci r k v).map (fun μ' => (t, μ')) else none)
        rw [h.lt, h.2.1, pv_s h]
        cases Nat.blt r 79 && (Nat.beq (z_sh r).1 0 && (Nat.beq (z_sh r).2.1 ci && Nat.blt k (z_sh r).2.2))
        · rfl
        · cases z_pv μ ci r k v <;> rfl
  case getstatic idx =>
    have hok : (match z_lk (z_stas.getD oc []) idx with | some r => Nat.ble 79 r | none => true) = true := hok
    show (match z_lk (z_stas.getD oc []) idx with | some r => some (.ref r :: Sg σ st, zsg σ μ) | none => none) = Option.map (HSg σ) (match z_lk (z_stas.getD oc []) idx with | some r => some (.ref r :: st, μ) | none => none)
    cases e : z_lk (z_stas.getD oc []) idx with
    | none => rfl
    | some r =>
      rw [e] at hok
      have hr : 79 ≤ r := Nat.le_of_ble_eq_true hok
      show some (Value.ref r :: Sg σ st, zsg σ μ) = some (Value.ref (σ r) :: Sg σ st, zsg σ μ)
      rw [h.2.2.1 r hr]
  case ldc2_w idx =>
    show (match z_lk (z_lons.getD oc []) idx with | some x => some (.long x :: Sg σ st, zsg σ μ) | none => none) = Option.map (HSg σ) (match z_lk (z_lons.getD oc []) idx with | some x => some (.long x :: st, μ) | none => none)
    cases z_lk (z_lons.getD oc []) idx <;> rfl
  case iaload =>
    match st with
    | [] => rfl
    | [v] => cases v <;> rfl
    | v :: w :: t =>
      cases v <;> cases w <;> try rfl
      rename_i i r
      show (bif Nat.blt (σ r) 100 then (bif Nat.blt (σ r) 79 && (Nat.beq (z_sh (σ r)).1 1 && z_in i (z_sh (σ r)).2.2) then some (.int ((zsg σ μ).1 (σ r) i.toNatClampNeg) :: Sg σ t, zsg σ μ) else none) else (bif z_av z_x0 (σ r) && z_in i (z_ro z_x0 (σ r)).1 then some (.int ((z_ro z_x0 (σ r)).2 i.toNatClampNeg) :: Sg σ t, zsg σ μ) else none)) = Option.map (HSg σ) (bif Nat.blt r 100 then (bif Nat.blt r 79 && (Nat.beq (z_sh r).1 1 && z_in i (z_sh r).2.2) then some (.int (μ.1 r i.toNatClampNeg) :: t, μ) else none) else (bif z_av z_x0 r && z_in i (z_ro z_x0 r).1 then some (.int ((z_ro z_x0 r).2 i.toNatClampNeg) :: t, μ) else none))
      rw [h.lt100]
      cases c : Nat.blt r 100
      · rw [x100 r c]
        show (bif z_av z_x0 r && z_in i (z_ro z_x0 r).1 then _ else _) = Option.map _ (bif z_av z_x0 r && z_in i (z_ro z_x0 r).1 then _ else _)
        cases z_av z_x0 r && z_in i (z_ro z_x0 r).1 <;> rfl
      · show (bif Nat.blt (σ r) 79 && (Nat.beq (z_sh (σ r)).1 1 && z_in i (z_sh (σ r)).2.2) then _ else _) = Option.map _ (bif Nat.blt r 79 && (Nat.beq (z_sh r).1 1 && z_in i (z_sh r).2.2) then _ else _)
        rw [h.lt, h.2.1, rd1 h]
        cases Nat.blt r 79 && (Nat.beq (z_sh r).1 1 && z_in i (z_sh r).2.2) <;> rfl
  case baload =>
    match st with
    | [] => rfl
    | [v] => cases v <;> rfl
    | v :: w :: t =>
      cases v <;> cases w <;> try rfl
      rename_i i r
      show (bif Nat.blt (σ r) 79 && (Nat.beq (z_sh (σ r)).1 3 && z_in i (z_sh (σ r)).2.2) then some (.int ((zsg σ μ).1 (σ r) i.toNatClampNeg) :: Sg σ t, zsg σ μ) else none) = Option.map (HSg σ) (bif Nat.blt r 79 && (Nat.beq (z_sh r).1 3 && z_in i (z_sh r).2.2) then some (.int (μ.1 r i.toNatClampNeg) :: t, μ) else none)
      rw [h.lt, h.2.1, rd1 h]
      cases Nat.blt r 79 && (Nat.beq (z_sh r).1 3 && z_in i (z_sh r).2.2) <;> rfl
  case laload =>
    match st with
    | [] => rfl
    | [v] => cases v <;> rfl
    | v :: w :: t =>
      cases v <;> cases w <;> try rfl
      rename_i i r
      show (bif Nat.blt (σ r) 79 && (Nat.beq (z_sh (σ r)).1 2 && z_in i (z_sh (σ r)).2.2) then some (.long ((zsg σ μ).2.1 (σ r) i.toNatClampNeg) :: Sg σ t, zsg σ μ) else none) = Option.map (HSg σ) (bif Nat.blt r 79 && (Nat.beq (z_sh r).1 2 && z_in i (z_sh r).2.2) then some (.long (μ.2.1 r i.toNatClampNeg) :: t, μ) else none)
      rw [h.lt, h.2.1, rd2 h]
      cases Nat.blt r 79 && (Nat.beq (z_sh r).1 2 && z_in i (z_sh r).2.2) <;> rfl
  case aaload => exact absurd (show false = true from hok) (by decide)
  case iastore =>
    match st with
    | [] => rfl
    | [v] => cases v <;> rfl
    | [v, w] => cases v <;> cases w <;> rfl
    | v :: w :: u :: t =>
      cases v <;> cases w <;> cases u <;> try rfl
      rename_i x i r
      show (bif Nat.blt (σ r) 79 && (Nat.beq (z_sh (σ r)).1 1 && z_in i (z_sh (σ r)).2.2) then some (Sg σ t, z_ui (zsg σ μ) (σ r) i.toNatClampNeg x) else none) = Option.map (HSg σ) (bif Nat.blt r 79 && (Nat.beq (z_sh r).1 1 && z_in i (z_sh r).2.2) then some (t, z_ui μ r i.toNatClampNeg x) else none)
      rw [h.lt, h.2.1, zsg_ui h]
      cases Nat.blt r 79 && (Nat.beq (z_sh r).1 1 && z_in i (z_sh r).2.2) <;> rfl
  case bastore =>
    match st with
    | [] => rfl
    | [v] => cases v <;> rfl
    | [v, w] => cases v <;> cases w <;> rfl
    | v :: w :: u :: t =>
      cases v <;> cases w <;> cases u <;> try rfl
      rename_i x i r
      show (bif Nat.blt (σ r) 79 && (Nat.beq (z_sh (σ r)).1 3 && (z_in i (z_sh (σ r)).2.2 && z_b01 x)) then some (Sg σ t, z_ui (zsg σ μ) (σ r) i.toNatClampNeg x) else none) = Option.map (HSg σ) (bif Nat.blt r 79 && (Nat.beq (z_sh r).1 3 && (z_in i (z_sh r).2.2 && z_b01 x)) then some (t, z_ui μ r i.toNatClampNeg x) else none)
      rw [h.lt, h.2.1, zsg_ui h]
      cases Nat.blt r 79 && (Nat.beq (z_sh r).1 3 && (z_in i (z_sh r).2.2 && z_b01 x)) <;> rfl
  case lastore =>
    match st with
    | [] => rfl
    | [v] => cases v <;> rfl
    | [v, w] => cases v <;> cases w <;> rfl
    | v :: w :: u :: t =>
      cases v <;> cases w <;> cases u <;> try rfl
      rename_i x i r
      show (bif Nat.blt (σ r) 79 && (Nat.beq (z_sh (σ r)).1 2 && z_in i (z_sh (σ r)).2.2) then some (Sg σ t, z_uj (zsg σ μ) (σ r) i.toNatClampNeg x) else none) = Option.map (HSg σ) (bif Nat.blt r 79 && (Nat.beq (z_sh r).1 2 && z_in i (z_sh r).2.2) then some (t, z_uj μ r i.toNatClampNeg x) else none)
      rw [h.lt, h.2.1, zsg_uj h]
      cases Nat.blt r 79 && (Nat.beq (z_sh r).1 2 && z_in i (z_sh r).2.2) <;> rfl
  case arraylength =>
    match st with
    | [] => rfl
    | v :: t =>
      cases v <;> try rfl
      rename_i r
      show (bif Nat.beq (σ r) 60 then (bif Nat.blt (σ r) 79 then some (.int 136 :: Sg σ t, zsg σ μ) else none) else (bif z_av z_x0 (σ r) then some (.int (Int32.ofNat (z_ro z_x0 (σ r)).1) :: Sg σ t, zsg σ μ) else none)) = Option.map (HSg σ) (bif Nat.beq r 60 then (bif Nat.blt r 79 then some (.int 136 :: t, μ) else none) else (bif z_av z_x0 r then some (.int (Int32.ofNat (z_ro z_x0 r).1) :: t, μ) else none))
      have a1 : Nat.beq (σ r) 60 = Nat.beq r 60 := by have := h.beq r 60; rw [h.2.2.2.2.1] at this; exact this
      rw [a1, h.lt]
      by_cases c : 79 ≤ r
      · rw [h.2.2.1 r c]
        cases Nat.beq r 60 <;> cases Nat.blt r 79 <;> cases z_av z_x0 r <;> rfl
      · have f1 : z_av z_x0 r = false := av0 r c
        have f2 : z_av z_x0 (σ r) = false := av0 (σ r) (h.l9 r c)
        rw [f1, f2]
        cases Nat.beq r 60 <;> cases Nat.blt r 79 <;> rfl
  case invokestatic idx =>
    match st with
    | [] => rfl
    | [v] => cases v <;> rfl
    | v :: w :: t =>
      cases v <;> cases w <;> try rfl
      rename_i y x
      show (bif Nat.ble ((Sg σ t).map fun v => v.category).sum 8 then (match z_lk (z_mths.getD oc []) idx with
        | some 0 => some (.int (if x < y then y else x) :: Sg σ t, zsg σ μ)
        | some 1 => some (.int (if y < x then y else x) :: Sg σ t, zsg σ μ)
        | _ => none) else none) = Option.map (HSg σ) (bif Nat.ble (t.map fun v => v.category).sum 8 then (match z_lk (z_mths.getD oc []) idx with
        | some 0 => some (.int (if x < y then y else x) :: t, μ)
        | some 1 => some (.int (if y < x then y else x) :: t, μ)
        | _ => none) else none)
      rw [map_cat]
      cases Nat.ble (t.map fun v => v.category).sum 8
      · rfl
      · match z_lk (z_mths.getD oc []) idx with
        | none => rfl
        | some 0 => rfl
        | some 1 => rfl
        | some (n + 2) => rfl
  all_goals rfl
