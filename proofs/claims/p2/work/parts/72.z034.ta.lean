/-! two contracts of one call hold together: the small machine knows one road -/
def zWn (d j : Nat) (Q : zQ) : zK := fun b pc lv st μ => ∀ Z : zK, z_clo z_x0 j (z_C d) Z → z_ret j Q Z → Z b pc lv st μ
theorem zWn_clo (d j : Nat) (Q : zQ) : z_clo z_x0 j (z_C d) (zWn d j Q) :=
  ⟨fun b pc lv st μ ins pc' lv' st' μ' h1 h2 h3 Z hc hr => hc.1 b pc lv st μ ins pc' lv' st' μ' h1 h2 (h3 Z hc hr), fun b pc lv st μ j' As rest h1 h2 h3 Z hc hr => hc.2 b pc lv st μ j' As rest h1 h2 (z_C_mono h3 (fun r μ' q => q Z hc hr))⟩
theorem zWn_ret (d j : Nat) (Q : zQ) : z_ret j Q (zWn d j Q) := fun b pc lv st μ v hb hv hQ Z hc hr => hr b pc lv st μ v hb hv hQ
def zFx (d j : Nat) (Q : zQ) (Z : zK) : zK := fun b pc lv st μ =>
  (∃ ins pc' lv' st' μ', z_ft j pc = some ins ∧ z_step z_x0 (z_np j) (z_oc j) (z_ml j) ins (pc, lv, st, μ) = some (pc', lv', st', μ') ∧ Z b pc' lv' st' μ') ∨
  (∃ j' As rest, z_cl j pc st = some (j', As, rest) ∧ b + z_al j' ≤ z_al j ∧ z_C d j' As μ (fun r μ' => Z (b + z_al j') (pc + 3) lv (r.toList ++ rest) μ')) ∨
  (∃ v, b ≤ z_al j ∧ z_rn j pc st = some v ∧ Q v μ)
theorem zWn_fold {d j : Nat} {Q : zQ} {b pc : Nat} {lv : zL} {st : List Value} {μ : zM} (h : zFx d j Q (zWn d j Q) b pc lv st μ) : zWn d j Q b pc lv st μ := by
  rcases h with ⟨ins, pc', lv', st', μ', h1, h2, h3⟩ | ⟨j', As, rest, h1, h2, h3⟩ | ⟨v, h1, h2, h3⟩
  · exact (zWn_clo d j Q).1 b pc lv st μ ins pc' lv' st' μ' h1 h2 h3
  · exact (zWn_clo d j Q).2 b pc lv st μ j' As rest h1 h2 h3
  · exact zWn_ret d j Q b pc lv st μ v h1 h2 h3
theorem zWn_inv {d j : Nat} {Q : zQ} {b pc : Nat} {lv : zL} {st : List Value} {μ : zM} (h : zWn d j Q b pc lv st μ) : zFx d j Q (zWn d j Q) b pc lv st μ :=
  h (zFx d j Q (zWn d j Q)) ⟨fun _ _ _ _ _ ins pc' lv' st' μ' h1 h2 h3 => Or.inl ⟨ins, pc', lv', st', μ', h1, h2, zWn_fold h3⟩, fun _ _ _ _ _ j' As rest h1 h2 h3 => Or.inr (Or.inl ⟨j', As, rest, h1, h2, z_C_mono h3 (fun _ _ q => zWn_fold q)⟩)⟩ (fun _ _ _ _ _ v h1 h2 h3 => Or.inr (Or.inr ⟨v, h1, h2, h3⟩))
theorem lk_mem {α : Type} {l : List (Nat × α)} {i : Nat} {x : α} (h : z_lk l i = some x) : (i, x) ∈ l := by
  induction l with
  | nil => cases h
  | cons a l ih =>
    obtain ⟨k, y⟩ := a
    unfold z_lk at h
    cases e : Nat.beq k i with
    | true =>
      rw [e] at h
      have e2 := Nat.eq_of_beq_eq_true e
      cases h
      rw [e2]
      exact List.mem_cons_self
    | false =>
      rw [e] at h
      exact List.mem_cons_of_mem _ (ih h)
theorem mths_ok : (List.range 12).all (fun oc => (z_mths.getD oc []).all (fun q => (z_lk (z_cals.getD oc []) q.1).isNone)) = true := by decide +kernel
theorem mths_len : z_mths.length ≤ 12 := by decide +kernel
theorem mths_cals {oc idx x : Nat} (h : z_lk (z_mths.getD oc []) idx = some x) : z_lk (z_cals.getD oc []) idx = none := by
  have hm := lk_mem h
  have ho : oc < 12 := by
    rcases Nat.lt_or_ge oc 12 with q | q
    · exact q
    · rw [show z_mths.getD oc [] = [] from by rw [List.getD_eq_getElem?_getD, List.getElem?_eq_none (Nat.le_trans mths_len q)]; rfl] at hm
      cases hm
  have := List.all_eq_true.mp (List.all_eq_true.mp mths_ok oc (List.mem_range.mpr ho)) _ hm
  exact Option.isNone_iff_eq_none.mp this
theorem ex_st {xs : Nat × (Nat → Int32)} {np nL j pc idx : Nat} {lv : zL} {st : List Value} {μ : zM} {x : zS} (h : z_ft j pc = some (.invokestatic idx)) (h2 : z_step xs np (z_oc j) nL (.invokestatic idx) (pc, lv, st, μ) = some x) : z_cl j pc st = none := by
  unfold z_cl
  rw [h]
  cases e : z_lk (z_cals.getD (z_oc j) []) idx with
  | none => simp only [e]
  | some y =>
    exfalso
    cases e2 : z_lk (z_mths.getD (z_oc j) []) idx with
    | some z => rw [mths_cals e2] at e; cases e
    | none =>
      have h3 : (match z_hp xs np (z_oc j) (.invokestatic idx) st μ with | some (st', μ') => some (pc + z_len (.invokestatic idx), lv, st', μ') | none => none) = some x := h2
      have h4 : z_hp xs np (z_oc j) (.invokestatic idx) st μ = none := by
        unfold z_hp
        split <;> first | rfl | (rename_i hh; cases hh) | skip
        all_goals (first | (simp only [e2]; generalize Nat.ble _ 8 = bb; cases bb <;> rfl) | (rename_i hh; injection hh with hh; subst hh; simp only [e2]; generalize Nat.ble _ 8 = bb; cases bb <;> rfl) | skip)
      rw [h4] at h3
      cases h3
theorem ex_sc {xs : Nat × (Nat → Int32)} {np nL j pc : Nat} {ins : Instr} {lv : zL} {st : List Value} {μ : zM} {x : zS} (h : z_ft j pc = some ins) (h2 : z_step xs np (z_oc j) nL ins (pc, lv, st, μ) = some x) : z_cl j pc st = none ∧ z_rn j pc st = none := by
  cases ins <;> first
    | (exact ⟨ex_st h h2, by unfold z_rn; rw [h]⟩)
    | (unfold z_cl z_rn; rw [h]; exact ⟨rfl, rfl⟩)
    | (exfalso; exact nomatch (show none = some x from h2))
theorem ex_cr {j pc : Nat} {st : List Value} {x : Nat × List Value × List Value} (h2 : z_cl j pc st = some x) : z_rn j pc st = none := by
  unfold z_rn
  unfold z_cl at h2
  cases e : z_ft j pc with
  | none => rfl
  | some ins =>
    rw [e] at h2
    cases ins <;> first | rfl | (exfalso; exact nomatch (show none = some x from h2))
theorem zC_and : ∀ (d : Nat) {j : Nat} {As : List Value} {μ : zM} {Q1 Q2 : zQ}, z_C d j As μ Q1 → z_C d j As μ Q2 → z_C d j As μ (fun r m => Q1 r m ∧ Q2 r m) := by
  intro d
  induction d with
  | zero => intro j As μ Q1 Q2 h1 h2; exact h1
  | succ d ih =>
    intro j As μ Q1 Q2 h1 h2
    have hs : z_clo z_x0 j (z_C d) (fun b pc lv st μ => zWn d j Q2 b pc lv st μ → zWn d j (fun r m => Q1 r m ∧ Q2 r m) b pc lv st μ) := by
      refine ⟨fun b pc lv st μ ins pc' lv' st' μ' k1 k2 k3 w => ?_, fun b pc lv st μ j' As rest k1 k2 k3 w => ?_⟩
      · obtain ⟨x1, x2⟩ := ex_sc k1 k2
        rcases zWn_inv w with ⟨i2, p2, l2, s2, m2, q1, q2, q3⟩ | ⟨j2, A2, r2, q1, q2, q3⟩ | ⟨v, q1, q2, q3⟩
        · rw [k1] at q1
          cases q1
          rw [k2] at q2
          cases q2
          exact zWn_fold (Or.inl ⟨ins, pc', lv', st', μ', k1, k2, k3 q3⟩)
        · rw [x1] at q1; cases q1
        · rw [x2] at q2; cases q2
      · rcases zWn_inv w with ⟨i2, p2, l2, s2, m2, q1, q2, q3⟩ | ⟨j2, A2, r2, q1, q2, q3⟩ | ⟨v, q1, q2, q3⟩
        · obtain ⟨x1, x2⟩ := ex_sc q1 q2
          rw [x1] at k1; cases k1
        · rw [k1] at q1
          cases q1
          exact zWn_fold (Or.inr (Or.inl ⟨j', As, rest, k1, k2, z_C_mono (ih k3 q3) (fun r μ' q => q.1 q.2)⟩))
        · rw [ex_cr k1] at q2; cases q2
    have hr : z_ret j Q1 (fun b pc lv st μ => zWn d j Q2 b pc lv st μ → zWn d j (fun r m => Q1 r m ∧ Q2 r m) b pc lv st μ) := by
      intro b pc lv st μ v k1 k2 k3 w
      rcases zWn_inv w with ⟨i2, p2, l2, s2, m2, q1, q2, q3⟩ | ⟨j2, A2, r2, q1, q2, q3⟩ | ⟨v2, q1, q2, q3⟩
      · rw [(ex_sc q1 q2).2] at k2; cases k2
      · rw [ex_cr q1] at k2; cases k2
      · rw [k2] at q2
        cases q2
        exact zWn_fold (Or.inr (Or.inr ⟨v, k1, k2, k3, q3⟩))
    have a1 := h1 _ hs hr
    have a2 := h2 _ (zWn_clo d j Q2) (zWn_ret d j Q2)
    intro Z hc hz
    unfold z_go at a1 a2 ⊢
    cases e : Nat.beq j mi_X7_nobodyWins with
    | true =>
      rw [e] at a1 a2
      exact ⟨a1.1, a1.2 a2.2 Z hc hz⟩
    | false =>
      rw [e] at a1 a2
      exact a1 a2 Z hc hz
