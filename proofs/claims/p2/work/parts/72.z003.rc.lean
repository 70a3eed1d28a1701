/-! roles renamed: steps, calls, answers, contracts -/
set_option maxRecDepth 8000
theorem step_s {σ : Nat → Nat} (h : RN σ) (oc nL : Nat) (ins : Instr) (hok : okI oc ins = true) (pc : Nat) (lv : zL) (st : List Value) (μ : zM) : z_step z_x0 79 oc nL ins (pc, z_tl σ lv, Sg σ st, zsg σ μ) = (z_step z_x0 79 oc nL ins (pc, lv, st, μ)).map (fun q => (q.1, z_tl σ q.2.1, Sg σ q.2.2.1, zsg σ q.2.2.2)) := by
  unfold z_step
  show (match z_st ins (Sg σ st) with
    | some st' => some (pc + z_len ins, z_tl σ lv, st', zsg σ μ)
    | none => match z_jp ins pc (Sg σ st) with
      | some (pc', st') => some (pc', z_tl σ lv, st', zsg σ μ)
      | none => match z_lv nL ins (z_tl σ lv) (Sg σ st) with
        | some (lv', st') => some (pc + z_len ins, lv', st', zsg σ μ)
        | none => match z_hp z_x0 79 oc ins (Sg σ st) (zsg σ μ) with
          | some (st', μ') => some (pc + z_len ins, z_tl σ lv, st', μ')
          | none => none) = Option.map _ (match z_st ins st with
    | some st' => some (pc + z_len ins, lv, st', μ)
    | none => match z_jp ins pc st with
      | some (pc', st') => some (pc', lv, st', μ)
      | none => match z_lv nL ins lv st with
        | some (lv', st') => some (pc + z_len ins, lv', st', μ)
        | none => match z_hp z_x0 79 oc ins st μ with
          | some (st', μ') => some (pc + z_len ins, lv, st', μ')
          | none => none)
  rw [st_s]
  cases z_st ins st with
  | some s => rfl
  | none =>
    show (match z_jp ins pc (Sg σ st) with
      | some (pc', st') => some (pc', z_tl σ lv, st', zsg σ μ)
      | none => match z_lv nL ins (z_tl σ lv) (Sg σ st) with
        | some (lv', st') => some (pc + z_len ins, lv', st', zsg σ μ)
        | none => match z_hp z_x0 79 oc ins (Sg σ st) (zsg σ μ) with
          | some (st', μ') => some (pc + z_len ins, z_tl σ lv, st', μ')
          | none => none) = Option.map _ (match z_jp ins pc st with
      | some (pc', st') => some (pc', lv, st', μ)
      | none => match z_lv nL ins lv st with
        | some (lv', st') => some (pc + z_len ins, lv', st', μ)
        | none => match z_hp z_x0 79 oc ins st μ with
          | some (st', μ') => some (pc + z_len ins, lv, st', μ')
          | none => none)
    rw [jp_s]
    cases z_jp ins pc st with
    | some q => rfl
    | none =>
      show (match z_lv nL ins (z_tl σ lv) (Sg σ st) with
        | some (lv', st') => some (pc + z_len ins, lv', st', zsg σ μ)
        | none => match z_hp z_x0 79 oc ins (Sg σ st) (zsg σ μ) with
          | some (st', μ') => some (pc + z_len ins, z_tl σ lv, st', μ')
          | none => none) = Option.map _ (match z_lv nL ins lv st with
        | some (lv', st') => some (pc + z_len ins, lv', st', μ)
        | none => match z_hp z_x0 79 oc ins st μ with
          | some (st', μ') => some (pc + z_len ins, lv, st', μ')
          | none => none)
      rw [lv_s]
      cases z_lv nL ins lv st with
      | some q => rfl
      | none =>
        show (match z_hp z_x0 79 oc ins (Sg σ st) (zsg σ μ) with
          | some (st', μ') => some (pc + z_len ins, z_tl σ lv, st', μ')
          | none => none) = Option.map _ (match z_hp z_x0 79 oc ins st μ with
          | some (st', μ') => some (pc + z_len ins, lv, st', μ')
          | none => none)
        rw [hp_s h oc ins st μ hok]
        cases z_hp z_x0 79 oc ins st μ with
        | some q => rfl
        | none => rfl
theorem cat_s {σ : Nat → Nat} (l : List Value) : z_cat (Sg σ l) = z_cat l := z_cat_tr σ l
theorem cl_s {σ : Nat → Nat} (h : RN σ) (j pc : Nat) (hn : z_np j = 79) (st : List Value) : z_cl j pc (Sg σ st) = (z_cl j pc st).map (fun q => (q.1, Sg σ q.2.1, Sg σ q.2.2)) := by
  have tk : ∀ n, (Sg σ st).take n = Sg σ (st.take n) := fun n => (List.map_take).symm
  have dr : ∀ n, (Sg σ st).drop n = Sg σ (st.drop n) := fun n => (List.map_drop).symm
  have rv : ∀ l : List Value, (Sg σ l).reverse = Sg σ l.reverse := fun l => (List.map_reverse).symm
  unfold z_cl
  rw [hn]
  cases z_ft j pc with
  | none => rfl
  | some ins =>
    cases ins
    case invokevirtual idx =>
      show (match z_lk (z_cals.getD (z_oc j) []) idx with
        | some (0, j', na, ci) => (match ((Sg σ st).take na).reverse with
          | .ref r :: As => bif Nat.beq (As.length + 1) na && (Nat.blt r 79 && (Nat.beq (z_sh r).1 0 && (Nat.beq (z_sh r).2.1 ci && (Nat.ble (z_cat ((Sg σ st).drop na)) 8 && Nat.ble (z_cat (.ref r :: As)) (z_ml j'))))) then some (j', .ref r :: As, (Sg σ st).drop na) else none
          | _ => none)
        | _ => none) = Option.map _ (match z_lk (z_cals.getD (z_oc j) []) idx with
        | some (0, j', na, ci) => (match (st.take na).reverse with
          | .ref r :: As => bif Nat.beq (As.length + 1) na && (Nat.blt r 79 && (Nat.beq (z_sh r).1 0 && (Nat.beq (z_sh r).2.1 ci && (Nat.ble (z_cat (st.drop na)) 8 && Nat.ble (z_cat (.ref r :: As)) (z_ml j'))))) then some (j', .ref r :: As, st.drop na) else none
          | _ => none)
        | _ => none)
      match z_lk (z_cals.getD (z_oc j) []) idx with
      | none => rfl
      | some (n + 1, j', na, ci) => rfl
      | some (0, j', na, ci) =>
        show (match ((Sg σ st).take na).reverse with
          | .ref r :: As => bif Nat.beq (As.length + 1) na && (Nat.blt r 79 && (Nat.beq (z_sh r).1 0 && (Nat.beq (z_sh r).2.1 ci && (Nat.ble (z_cat ((Sg σ st).drop na)) 8 && Nat.ble (z_cat (.ref r :: As)) (z_ml j'))))) then some (j', .ref r :: As, (Sg σ st).drop na) else none
          | _ => none) = Option.map _ (match (st.take na).reverse with
          | .ref r :: As => bif Nat.beq (As.length + 1) na && (Nat.blt r 79 && (Nat.beq (z_sh r).1 0 && (Nat.beq (z_sh r).2.1 ci && (Nat.ble (z_cat (st.drop na)) 8 && Nat.ble (z_cat (.ref r :: As)) (z_ml j'))))) then some (j', .ref r :: As, st.drop na) else none
          | _ => none)
        rw [tk, dr, rv, cat_s]
        match (st.take na).reverse with
        | [] => rfl
        | v :: As =>
          cases v <;> try rfl
          rename_i r
          show (bif Nat.beq ((Sg σ As).length + 1) na && (Nat.blt (σ r) 79 && (Nat.beq (z_sh (σ r)).1 0 && (Nat.beq (z_sh (σ r)).2.1 ci && (Nat.ble (z_cat (st.drop na)) 8 && Nat.ble (z_cat (Sg σ (.ref r :: As))) (z_ml j'))))) then some (j', Sg σ (.ref r :: As), Sg σ (st.drop na)) else none) = Option.map _ (bif Nat.beq (As.length + 1) na && (Nat.blt r 79 && (Nat.beq (z_sh r).1 0 && (Nat.beq (z_sh r).2.1 ci && (Nat.ble (z_cat (st.drop na)) 8 && Nat.ble (z_cat (.ref r :: As)) (z_ml j'))))) then some (j', .ref r :: As, st.drop na) else none)
          rw [List.length_map, h.lt, h.2.1, cat_s]
          cases Nat.beq (As.length + 1) na && (Nat.blt r 79 && (Nat.beq (z_sh r).1 0 && (Nat.beq (z_sh r).2.1 ci && (Nat.ble (z_cat (st.drop na)) 8 && Nat.ble (z_cat (.ref r :: As)) (z_ml j'))))) <;> rfl
    case invokestatic idx =>
      show (match z_lk (z_cals.getD (z_oc j) []) idx with
        | some (kd, j', na, _) => bif Nat.blt 0 kd && (Nat.beq ((Sg σ st).take na).length na && (Nat.ble (z_cat ((Sg σ st).drop na)) 8 && Nat.ble (z_cat ((Sg σ st).take na).reverse) (z_ml j'))) then some (j', ((Sg σ st).take na).reverse, (Sg σ st).drop na) else none
        | _ => none) = Option.map _ (match z_lk (z_cals.getD (z_oc j) []) idx with
        | some (kd, j', na, _) => bif Nat.blt 0 kd && (Nat.beq (st.take na).length na && (Nat.ble (z_cat (st.drop na)) 8 && Nat.ble (z_cat (st.take na).reverse) (z_ml j'))) then some (j', (st.take na).reverse, st.drop na) else none
        | _ => none)
      match z_lk (z_cals.getD (z_oc j) []) idx with
      | none => rfl
      | some (kd, j', na, ci) =>
        show (bif Nat.blt 0 kd && (Nat.beq ((Sg σ st).take na).length na && (Nat.ble (z_cat ((Sg σ st).drop na)) 8 && Nat.ble (z_cat ((Sg σ st).take na).reverse) (z_ml j'))) then some (j', ((Sg σ st).take na).reverse, (Sg σ st).drop na) else none) = Option.map _ (bif Nat.blt 0 kd && (Nat.beq (st.take na).length na && (Nat.ble (z_cat (st.drop na)) 8 && Nat.ble (z_cat (st.take na).reverse) (z_ml j'))) then some (j', (st.take na).reverse, st.drop na) else none)
        rw [tk, dr, rv, cat_s, cat_s, List.length_map]
        cases Nat.blt 0 kd && (Nat.beq (st.take na).length na && (Nat.ble (z_cat (st.drop na)) 8 && Nat.ble (z_cat (st.take na).reverse) (z_ml j'))) <;> rfl
    all_goals rfl
theorem rn_s {σ : Nat → Nat} (j pc : Nat) (st : List Value) : z_rn j pc (Sg σ st) = (z_rn j pc st).map (Option.map (z_tr σ)) := by
  unfold z_rn
  cases z_ft j pc with
  | none => rfl
  | some ins =>
    cases ins
    case return_ =>
      match st with
      | [] => show (bif Nat.beq (z_rk j) 0 then some (none : Option Value) else none) = Option.map _ (bif Nat.beq (z_rk j) 0 then some (none : Option Value) else none); cases Nat.beq (z_rk j) 0 <;> rfl
      | v :: r => rfl
    case ireturn =>
      match st with
      | [] => rfl
      | [v] =>
        cases v <;> try rfl
        rename_i x
        show (bif Nat.beq (z_rk j) 1 || (Nat.beq (z_rk j) 3 && z_b01 x) then some (some (Value.int x)) else none) = Option.map _ (bif Nat.beq (z_rk j) 1 || (Nat.beq (z_rk j) 3 && z_b01 x) then some (some (Value.int x)) else none)
        cases Nat.beq (z_rk j) 1 || (Nat.beq (z_rk j) 3 && z_b01 x) <;> rfl
      | v :: w :: r => cases v <;> rfl
    case lreturn =>
      match st with
      | [] => rfl
      | [v] =>
        cases v <;> try rfl
        rename_i x
        show (bif Nat.beq (z_rk j) 2 then some (some (Value.long x)) else none) = Option.map _ (bif Nat.beq (z_rk j) 2 then some (some (Value.long x)) else none)
        cases Nat.beq (z_rk j) 2 <;> rfl
      | v :: w :: r => cases v <;> rfl
    case areturn =>
      match st with
      | [] => rfl
      | [v] =>
        cases v <;> try rfl
        rename_i x
        show (bif Nat.beq (z_rk j) 4 then some (some (Value.ref (σ x))) else none) = Option.map _ (bif Nat.beq (z_rk j) 4 then some (some (Value.ref x)) else none)
        cases Nat.beq (z_rk j) 4 <;> rfl
      | v :: w :: r => cases v <;> rfl
    all_goals rfl
/-- methods that may be renamed -/
def okM (J : List Nat) (j : Nat) : Bool := ((z_cd j).all (fun q => okI (z_oc j) q.2 && (match q.2 with
  | .invokevirtual idx => (match z_lk (z_cals.getD (z_oc j) []) idx with | some c => J.contains c.2.1 | none => true)
  | .invokestatic idx => (match z_lk (z_cals.getD (z_oc j) []) idx with | some c => J.contains c.2.1 | none => true)
  | _ => true))) && !(Nat.beq j mi_X7_nobodyWins)
theorem cl_in {J : List Nat} {j pc : Nat} {st : List Value} {j' : Nat} {As rest : List Value} (hM : okM J j = true) (e : z_cl j pc st = some (j', As, rest)) : j' ∈ J := by
  unfold z_cl at e
  cases hf : z_ft j pc with
  | none => rw [hf] at e; exact absurd e (by simp)
  | some ins =>
    have hm := (z_and (List.all_eq_true.mp (z_and hM).1 _ (z_lk_mem hf))).2
    rw [hf] at e
    cases ins
    case invokevirtual idx =>
      have hm : (match z_lk (z_cals.getD (z_oc j) []) idx with | some c => J.contains c.2.1 | none => true) = true := hm
      have e : (match z_lk (z_cals.getD (z_oc j) []) idx with
        | some (0, j', na, ci) => (match (st.take na).reverse with
          | .ref r :: As => bif Nat.beq (As.length + 1) na && (Nat.blt r (z_np j) && (Nat.beq (z_sh r).1 0 && (Nat.beq (z_sh r).2.1 ci && (Nat.ble (z_cat (st.drop na)) 8 && Nat.ble (z_cat (.ref r :: As)) (z_ml j'))))) then some (j', .ref r :: As, st.drop na) else none
          | _ => none)
        | _ => none) = some (j', As, rest) := e
      match hc : z_lk (z_cals.getD (z_oc j) []) idx with
      | none => rw [hc] at e; exact absurd e (by simp)
      | some (n + 1, j9, na, ci) => rw [hc] at e; exact absurd e (by simp)
      | some (0, j9, na, ci) =>
        rw [hc] at e hm
        have e : (match (st.take na).reverse with
          | .ref r :: As => bif Nat.beq (As.length + 1) na && (Nat.blt r (z_np j) && (Nat.beq (z_sh r).1 0 && (Nat.beq (z_sh r).2.1 ci && (Nat.ble (z_cat (st.drop na)) 8 && Nat.ble (z_cat (.ref r :: As)) (z_ml j9))))) then some (j9, .ref r :: As, st.drop na) else none
          | _ => none) = some (j', As, rest) := e
        match hr : (st.take na).reverse with
        | [] => rw [hr] at e; exact absurd e (by simp)
        | v :: B =>
          rw [hr] at e
          cases v
          case ref r =>
            obtain ⟨_, e⟩ := z_bif e
            injection e with e1
            rw [← e1]
            exact List.contains_iff_mem.mp hm
          all_goals exact absurd e (by simp)
    case invokestatic idx =>
      have hm : (match z_lk (z_cals.getD (z_oc j) []) idx with | some c => J.contains c.2.1 | none => true) = true := hm
      have e : (match z_lk (z_cals.getD (z_oc j) []) idx with
        | some (kd, j', na, _) => bif Nat.blt 0 kd && (Nat.beq (st.take na).length na && (Nat.ble (z_cat (st.drop na)) 8 && Nat.ble (z_cat (st.take na).reverse) (z_ml j'))) then some (j', (st.take na).reverse, st.drop na) else none
        | _ => none) = some (j', As, rest) := e
      match hc : z_lk (z_cals.getD (z_oc j) []) idx with
      | none => rw [hc] at e; exact absurd e (by simp)
      | some (kd, j9, na, ci) =>
        rw [hc] at e hm
        obtain ⟨_, e⟩ := z_bif e
        injection e with e1
        rw [← e1]
        exact List.contains_iff_mem.mp hm
    all_goals exact absurd e (by simp)
/-- a contract goes over to like cells -/
theorem rn_C {σ : Nat → Nat} (h : RN σ) {J : List Nat} (hJ : ∀ j ∈ J, okM J j = true) : ∀ (d j : Nat) (As : List Value) (μ : zM) (Q : zQ), j ∈ J → z_C d j As μ Q → z_C d j (Sg σ As) (zsg σ μ) (fun r μ' => Q (r.map (z_tr σ)) (zsg σ μ')) := by
  intro d
  induction d with
  | zero => intro j As μ Q _ hC; exact hC
  | succ d ih =>
    intro j As μ Q hj hC Z hclo hret
    have hM := hJ j hj
    have hn0 : Nat.beq j mi_X7_nobodyWins = false := by have := (z_and hM).2; simpa using this
    have hn : z_np j = 79 := by unfold z_np; rw [hn0]; rfl
    have hgo : z_go j As μ (fun b pc lv st μ => Z b pc (z_tl σ lv) (Sg σ st) (zsg σ μ)) := by
      refine hC _ ⟨fun b pc lv st ν ins pc' lv' st' ν' hf hs hz => ?_, fun b pc lv st ν j' As' rest hc hb hC' => ?_⟩ (fun b pc lv st ν v hb hr hq => ?_)
      · have hok := (z_and (List.all_eq_true.mp (z_and hM).1 _ (z_lk_mem hf))).1
        rw [hn] at hs
        refine hclo.1 b pc (z_tl σ lv) (Sg σ st) (zsg σ ν) ins pc' (z_tl σ lv') (Sg σ st') (zsg σ ν') hf ?_ hz
        rw [hn, step_s h _ _ ins hok, hs]
        rfl
      · refine hclo.2 b pc (z_tl σ lv) (Sg σ st) (zsg σ ν) j' (Sg σ As') (Sg σ rest) (by rw [cl_s h j pc hn, hc]; rfl) hb ?_
        refine z_C_mono (ih j' As' ν _ (cl_in hM hc) hC') (fun r ν' z => ?_)
        have z : Z (b + z_al j') (pc + 3) (z_tl σ lv) (Sg σ ((r.map (z_tr σ)).toList ++ rest)) (zsg σ (zsg σ ν')) := z
        rw [zsg_sg h] at z
        have e : Sg σ ((r.map (z_tr σ)).toList ++ rest) = r.toList ++ Sg σ rest := by
          show ((r.map (z_tr σ)).toList ++ rest).map (z_tr σ) = _
          rw [List.map_append]
          congr 1
          cases r with
          | none => rfl
          | some v => show [z_tr σ (z_tr σ v)] = [v]; rw [tr_tr h]
        rw [e] at z
        exact z
      · refine hret b pc (z_tl σ lv) (Sg σ st) (zsg σ ν) (v.map (z_tr σ)) hb (by rw [rn_s, hr]; rfl) ?_
        show Q ((v.map (z_tr σ)).map (z_tr σ)) (zsg σ (zsg σ ν))
        rw [zsg_sg h]
        cases v with
        | none => exact hq
        | some v => show Q (some (z_tr σ (z_tr σ v))) ν; rw [tr_tr h]; exact hq
    unfold z_go at hgo ⊢
    rw [hn0] at hgo ⊢
    have hgo : Z 0 0 (z_tl σ (lv_args 0 As)) [] (zsg σ μ) := hgo
    show Z 0 0 (lv_args 0 (Sg σ As)) [] (zsg σ μ)
    rw [show lv_args 0 (Sg σ As) = z_tl σ (lv_args 0 As) from z_args_tr σ As 0]
    exact hgo
