/-! what every step keeps, a contract's answer has too; full is told where there is a base -/
set_option maxRecDepth 8000
theorem zC_J (J : Nat → Nat → List Value → zM → Prop) (R : Nat → zM → Prop)
    (hs : ∀ j pc ins lv st μ pc' lv' st' μ', z_ft j pc = some ins → z_step z_x0 (z_np j) (z_oc j) (z_ml j) ins (pc, lv, st, μ) = some (pc', lv', st', μ') → J j pc st μ → J j pc' st' μ')
    (hn : ∀ μ, ¬ J mi_X7_nobodyWins 0 [] μ)
    (hr : ∀ j pc st μ v, z_rn j pc st = some v → J j pc st μ → R j μ)
    (hcall : ∀ d, (∀ (j : Nat) (As : List Value) (μ : zM) (Q : zQ), J j 0 [] μ → z_C d j As μ Q → z_C d j As μ (fun r m => Q r m ∧ R j m)) → ∀ j pc st j' As rest μ (Q' : zQ), z_cl j pc st = some (j', As, rest) → J j pc st μ → z_C d j' As μ Q' → z_C d j' As μ (fun r m => Q' r m ∧ J j (pc + 3) (r.toList ++ rest) m)) :
    ∀ (d : Nat) (j : Nat) (As : List Value) (μ : zM) (Q : zQ), J j 0 [] μ → z_C d j As μ Q → z_C d j As μ (fun r m => Q r m ∧ R j m) := by
  intro d
  induction d with
  | zero => intro j As μ Q _ h; exact h
  | succ d ih =>
    intro j As μ Q hJ h Z hc hz
    have a1 := h (fun b pc lv st μ => J j pc st μ → zWn d j (fun r m => Q r m ∧ R j m) b pc lv st μ)
      ⟨fun b pc lv st μ ins pc' lv' st' μ' k1 k2 k3 w => zWn_fold (Or.inl ⟨ins, pc', lv', st', μ', k1, k2, k3 (hs j pc ins lv st μ pc' lv' st' μ' k1 k2 w)⟩),
        fun b pc lv st μ j' As rest k1 k2 k3 w => zWn_fold (Or.inr (Or.inl ⟨j', As, rest, k1, k2, z_C_mono (hcall d ih j pc st j' As rest μ _ k1 w k3) (fun r m q => q.1 q.2)⟩))⟩
      (fun b pc lv st μ v k1 k2 k3 w => zWn_fold (Or.inr (Or.inr ⟨v, k1, k2, k3, hr j pc st μ v k2 w⟩)))
    unfold z_go at a1 ⊢
    cases e : Nat.beq j mi_X7_nobodyWins with
    | true =>
      rw [Nat.eq_of_beq_eq_true e] at hJ
      exact absurd hJ (hn μ)
    | false =>
      rw [e] at a1
      exact a1 hJ Z hc hz
theorem bif_some {α : Type} {b : Bool} {x y : α} (h : (bif b then some x else none) = some y) : b = true ∧ x = y := by
  cases b
  · cases h
  · exact ⟨rfl, Option.some.inj h⟩
/-- whether an instruction writes this field of the reference -/
def wF (oc : Nat) (ins : Instr) (k : Nat) : Bool := match ins with
  | .putfield idx => (match z_lk (z_flds.getD oc []) idx with | some (ci, k') => Nat.beq ci 6 && Nat.beq k' k | none => false)
  | _ => false
theorem sh50 : (z_sh 50).1 = 0 ∧ (z_sh 50).2.1 = 6 := by decide +kernel
theorem hp_cell {xs : Nat × (Nat → Int32)} {np oc : Nat} {ins : Instr} {st st' : List Value} {μ μ' : zM} {k0 : Nat} (h : z_hp xs np oc ins st μ = some (st', μ')) (hw : wF oc ins k0 = false) : μ'.1 50 k0 = μ.1 50 k0 := by
  unfold z_hp at h
  split at h
  · split at h
    · obtain ⟨_, e⟩ := bif_some h
      cases e; rfl
    · cases h
  · rename_i idx v r t
    cases e : z_lk (z_flds.getD oc []) idx with
    | none => rw [e] at h; cases h
    | some q =>
      obtain ⟨ci, k⟩ := q
      rw [e] at h
      have hw : (match z_lk (z_flds.getD oc []) idx with | some (ci, k') => Nat.beq ci 6 && Nat.beq k' k0 | none => false) = false := hw
      rw [e] at hw
      have hw : (Nat.beq ci 6 && Nat.beq k k0) = false := hw
      cases b : (Nat.blt r np && (Nat.beq (z_sh r).1 0 && (Nat.beq (z_sh r).2.1 ci && Nat.blt k (z_sh r).2.2))) with
      | false =>
        have h2 : (bif Nat.blt r np && (Nat.beq (z_sh r).1 0 && (Nat.beq (z_sh r).2.1 ci && Nat.blt k (z_sh r).2.2)) then (z_pv μ ci r k v).map (fun μ' => (t, μ')) else none) = some (st', μ') := h
        rw [b] at h2
        cases h2
      | true =>
        have h : (z_pv μ ci r k v).map (fun μ' => (t, μ')) = some (st', μ') := by
          have h2 : (bif Nat.blt r np && (Nat.beq (z_sh r).1 0 && (Nat.beq (z_sh r).2.1 ci && Nat.blt k (z_sh r).2.2)) then (z_pv μ ci r k v).map (fun μ' => (t, μ')) else none) = some (st', μ') := h
          rw [b] at h2
          exact h2
        have hne : ¬ (50 = r ∧ k0 = k) := by
          rintro ⟨e1, e2⟩
          obtain ⟨_, b2⟩ := z_and b
          obtain ⟨_, b3⟩ := z_and b2
          obtain ⟨b4, _⟩ := z_and b3
          have b4 := Nat.eq_of_beq_eq_true b4
          rw [← e1, sh50.2] at b4
          rw [← b4, ← e2, Nat.beq_refl, Nat.beq_refl] at hw
          cases hw
        have hui : ∀ x, (z_ui μ r k x).1 50 k0 = μ.1 50 k0 := fun x => by rw [z_ui_rd, if_neg hne]
        cases e9 : z_pv μ ci r k v with
        | none => rw [e9] at h; cases h
        | some μ9 =>
          rw [e9] at h
          cases h
          unfold z_pv at e9
          split at e9
          · cases e9; exact hui _
          · cases e9; rfl
          · obtain ⟨_, e8⟩ := bif_some e9
            rw [← e8]; exact hui _
          · generalize (Nat.beq _ 0 || Nat.ble 79 _) = bb at e9
            cases bb
            · cases e9; rfl
            · cases e9
          · cases e9
  · split at h
    · cases h; rfl
    · cases h
  · split at h
    · cases h; rfl
    · cases h
  · rename_i i r t
    generalize Nat.blt r 100 = bb at h
    cases bb
    · obtain ⟨_, e⟩ := bif_some (show (bif z_av xs r && z_in i (z_ro xs r).1 then some (.int ((z_ro xs r).2 i.toNatClampNeg) :: t, μ) else none) = some (st', μ') from h)
      cases e; rfl
    · obtain ⟨_, e⟩ := bif_some (show (bif Nat.blt r np && (Nat.beq (z_sh r).1 1 && z_in i (z_sh r).2.2) then some (.int (μ.1 r i.toNatClampNeg) :: t, μ) else none) = some (st', μ') from h)
      cases e; rfl
  · obtain ⟨_, e⟩ := bif_some h
    cases e; rfl
  · obtain ⟨_, e⟩ := bif_some h
    cases e; rfl
  · obtain ⟨_, e⟩ := bif_some h
    cases e; rfl
  · obtain ⟨b, e⟩ := bif_some h
    obtain ⟨_, b2⟩ := z_and b
    obtain ⟨b3, _⟩ := z_and b2
    cases e
    rw [z_ui_rd, if_neg (fun q => by rw [← q.1, sh50.1] at b3; exact absurd b3 (by decide))]
  · obtain ⟨b, e⟩ := bif_some h
    obtain ⟨_, b2⟩ := z_and b
    obtain ⟨b3, _⟩ := z_and b2
    cases e
    rw [z_ui_rd, if_neg (fun q => by rw [← q.1, sh50.1] at b3; exact absurd b3 (by decide))]
  · obtain ⟨_, e⟩ := bif_some h
    cases e; rfl
  · rename_i r t
    generalize Nat.beq r 60 = bb at h
    cases bb
    · obtain ⟨_, e⟩ := bif_some (show (bif z_av xs r then some (.int (Int32.ofNat (z_ro xs r).1) :: t, μ) else none) = some (st', μ') from h)
      cases e; rfl
    · obtain ⟨_, e⟩ := bif_some (show (bif Nat.blt r np then some (.int 136 :: t, μ) else none) = some (st', μ') from h)
      cases e; rfl
  · rename_i idx y x t
    generalize Nat.ble _ 8 = bb at h
    cases bb
    · cases h
    · have h : (match z_lk (z_mths.getD oc []) idx with | some 0 => some (.int (if x < y then y else x) :: t, μ) | some 1 => some (.int (if y < x then y else x) :: t, μ) | _ => none) = some (st', μ') := h
      split at h
      · cases h; rfl
      · cases h; rfl
      · cases h
  · cases h
theorem step_cell {xs : Nat × (Nat → Int32)} {np oc nL : Nat} {ins : Instr} {pc pc' : Nat} {lv lv' : zL} {st st' : List Value} {μ μ' : zM} {k0 : Nat} (h : z_step xs np oc nL ins (pc, lv, st, μ) = some (pc', lv', st', μ')) (hw : wF oc ins k0 = false) : μ'.1 50 k0 = μ.1 50 k0 := by
  unfold z_step at h
  split at h
  · cases h; rfl
  · split at h
    · cases h; rfl
    · split at h
      · cases h; rfl
      · split at h
        · rename_i st2 μ2 e
          cases h
          exact hp_cell e hw
        · cases h
theorem cl_inv {j pc : Nat} {st : List Value} {j' : Nat} {As rest : List Value} (h : z_cl j pc st = some (j', As, rest)) : ∃ idx kd na ci, (z_ft j pc = some (.invokevirtual idx) ∨ z_ft j pc = some (.invokestatic idx)) ∧ z_lk (z_cals.getD (z_oc j) []) idx = some (kd, j', na, ci) := by
  unfold z_cl at h
  split at h
  · rename_i idx e
    split at h
    · rename_i j2 na ci e2
      split at h
      · obtain ⟨_, e3⟩ := bif_some h
        cases e3
        exact ⟨idx, 0, na, ci, Or.inl e, e2⟩
      · cases h
    · cases h
  · rename_i idx e
    split at h
    · rename_i kd j2 na ci e2
      obtain ⟨_, e3⟩ := bif_some h
      cases e3
      exact ⟨idx, kd, na, _, Or.inr e, e2⟩
    · cases h
  · cases h
/-- the methods that an instruction calls -/
def cIn (oc : Nat) (ins : Instr) (l : List Nat) : Bool := match ins with
  | .invokevirtual idx => (match z_lk (z_cals.getD oc []) idx with | some (_, j', _) => l.contains j' | none => true)
  | .invokestatic idx => (match z_lk (z_cals.getD oc []) idx with | some (_, j', _) => l.contains j' | none => true)
  | _ => true
theorem cIn_cl {j pc : Nat} {st : List Value} {j' : Nat} {As rest : List Value} {l : List Nat} (h : z_cl j pc st = some (j', As, rest)) (hl : ∀ ins, z_ft j pc = some ins → cIn (z_oc j) ins l = true) : l.contains j' = true := by
  obtain ⟨idx, kd, na, ci, e, e2⟩ := cl_inv h
  rcases e with e | e
  · have := hl _ e
    unfold cIn at this
    simp only [e2] at this
    exact this
  · have := hl _ e
    unfold cIn at this
    simp only [e2] at this
    exact this
def kLs (l : List Nat) (ks : List Nat) : Bool := l.all (fun j => !Nat.beq j mi_X7_nobodyWins && (z_cd j).all (fun q => cIn (z_oc j) q.2 l && ks.all (fun k => !wF (z_oc j) q.2 k)))
/-- methods that never write these fields keep them -/
theorem zC_keep {l ks : List Nat} (hl : kLs l ks = true) (P : zM → Prop) (hP : ∀ μ μ', (∀ k ∈ ks, μ'.1 50 k = μ.1 50 k) → P μ → P μ') (d : Nat) {j : Nat} {As : List Value} {μ : zM} {Q : zQ} (hj : l.contains j = true) (h0 : P μ) (h : z_C d j As μ Q) : z_C d j As μ (fun r m => Q r m ∧ P m) := by
  have H : ∀ j, l.contains j = true → Nat.beq j mi_X7_nobodyWins = false ∧ ∀ pc ins, z_ft j pc = some ins → cIn (z_oc j) ins l = true ∧ ∀ k ∈ ks, wF (z_oc j) ins k = false := by
    intro j hj
    have h1 := List.all_eq_true.mp hl j (by simpa using hj)
    obtain ⟨a, b⟩ := z_and h1
    refine ⟨by simpa using a, fun pc ins hf => ?_⟩
    obtain ⟨b1, b2⟩ := z_and (List.all_eq_true.mp b _ (lk_mem hf))
    exact ⟨b1, fun k hk => by simpa using List.all_eq_true.mp b2 k hk⟩
  refine zC_J (fun j pc st μ => l.contains j = true ∧ P μ) (fun _ μ => P μ) ?_ ?_ ?_ ?_ d j As μ Q ⟨hj, h0⟩ h
  · intro j pc ins lv st μ pc' lv' st' μ' k1 k2 k3
    exact ⟨k3.1, hP μ μ' (fun k hk => step_cell k2 (((H j k3.1).2 pc ins k1).2 k hk)) k3.2⟩
  · intro μ q
    have := (H _ q.1).1
    rw [Nat.beq_refl] at this
    cases this
  · intro j pc st μ v _ q
    exact q.2
  · intro d ih j pc st j' As rest μ Q' k1 k2 k3
    have hj' := cIn_cl k1 (fun ins hi => ((H j k2.1).2 pc ins hi).1)
    exact z_C_mono (ih j' As μ Q' ⟨hj', k2.2⟩ k3) (fun r m q => ⟨q.1, k2.1, q.2⟩)
