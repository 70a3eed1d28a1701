/-! the reference's reckoning: where there is a base, the hand is full (end) -/
set_option maxRecDepth 8000
theorem st_mths {xs : Nat × (Nat → Int32)} {np oc nL pc idx : Nat} {lv : zL} {st : List Value} {μ : zM} {x : zS} (h2 : z_step xs np oc nL (.invokestatic idx) (pc, lv, st, μ) = some x) : ∃ z, z_lk (z_mths.getD oc []) idx = some z := by
  cases e2 : z_lk (z_mths.getD oc []) idx with
  | some z => exact ⟨z, rfl⟩
  | none =>
    exfalso
    have h3 : (match z_hp xs np oc (.invokestatic idx) st μ with | some (st', μ') => some (pc + z_len (.invokestatic idx), lv, st', μ') | none => none) = some x := h2
    have h4 : z_hp xs np oc (.invokestatic idx) st μ = none := by
      unfold z_hp
      split <;> first | rfl | (rename_i hh; cases hh) | skip
      all_goals (first | (simp only [e2]; generalize Nat.ble _ 8 = bb; cases bb <;> rfl) | skip)
    rw [h4] at h3
    cases h3
theorem sh6 : ∀ r, r < 80 → (z_sh r).1 = 0 → (z_sh r).2.1 = 6 → r = 50 := by decide +kernel
theorem put_v {xs : Nat × (Nat → Int32)} {np oc nL pc idx : Nat} {lv lv' : zL} {t st' : List Value} {μ μ' : zM} {pc' k : Nat} {x : Int32} (hnp : np ≤ 80) (h : z_step xs np oc nL (.putfield idx) (pc, lv, .int x :: t, μ) = some (pc', lv', st', μ')) (hw : wF oc (.putfield idx) k = true) : μ'.1 50 k = x := by
  have hw : (match z_lk (z_flds.getD oc []) idx with | some (ci, k') => Nat.beq ci 6 && Nat.beq k' k | none => false) = true := hw
  cases e : z_lk (z_flds.getD oc []) idx with
  | none => rw [e] at hw; cases hw
  | some q =>
    obtain ⟨ci, k'⟩ := q
    rw [e] at hw
    obtain ⟨w1, w2⟩ := z_and (show (Nat.beq ci 6 && Nat.beq k' k) = true from hw)
    have w1 := Nat.eq_of_beq_eq_true w1
    have w2 := Nat.eq_of_beq_eq_true w2
    subst w1
    subst w2
    match t, h with
    | .ref r :: t, h =>
      have h3 : (match z_hp xs np oc (.putfield idx) (.int x :: .ref r :: t) μ with | some (st', μ') => some (pc + z_len (.putfield idx), lv, st', μ') | none => none) = some (pc', lv', st', μ') := h
      have h5 : z_hp xs np oc (.putfield idx) (.int x :: .ref r :: t) μ = bif Nat.blt r np && (Nat.beq (z_sh r).1 0 && (Nat.beq (z_sh r).2.1 6 && Nat.blt k' (z_sh r).2.2)) then (z_pv μ 6 r k' (.int x)).map (fun μ' => (t, μ')) else none := by
        unfold z_hp
        simp only [e]
      rw [h5] at h3
      cases b : (Nat.blt r np && (Nat.beq (z_sh r).1 0 && (Nat.beq (z_sh r).2.1 6 && Nat.blt k' (z_sh r).2.2))) with
      | false => rw [b] at h3; cases h3
      | true =>
        rw [b] at h3
        obtain ⟨b1, b2⟩ := z_and b
        obtain ⟨b3, b4⟩ := z_and b2
        obtain ⟨b5, _⟩ := z_and b4
        have hr : r = 50 := sh6 r (Nat.lt_of_lt_of_le (Nat.blt_eq.mp b1) hnp) (Nat.eq_of_beq_eq_true b3) (Nat.eq_of_beq_eq_true b5)
        subst hr
        have h3 : (match (z_pv μ 6 50 k' (.int x)).map (fun μ' => (t, μ')) with | some (st', μ') => some (pc + z_len (.putfield idx), lv, st', μ') | none => none) = some (pc', lv', st', μ') := h3
        cases e9 : z_pv μ 6 50 k' (.int x) with
        | none => rw [e9] at h3; cases h3
        | some μ9 =>
          rw [e9] at h3
          cases h3
          unfold z_pv at e9
          split at e9
          · rename_i y hy; cases hy; cases e9; rw [z_ui_rd, if_pos ⟨rfl, rfl⟩]
          · rename_i y hy; cases hy
          · rename_i y hy; cases hy
            obtain ⟨_, e8⟩ := bif_some e9
            rw [← e8, z_ui_rd, if_pos ⟨rfl, rfl⟩]
          · rename_i y hy; cases hy
          · cases e9
    | [], h => exact nomatch (show none = some (pc', lv', st', μ') from h)
    | .int _ :: r, h => exact nomatch (show none = some (pc', lv', st', μ') from h)
    | .long _ :: r, h => exact nomatch (show none = some (pc', lv', st', μ') from h)
    | .null :: r, h => exact nomatch (show none = some (pc', lv', st', μ') from h)
theorem wF_pf {oc k : Nat} {ins : Instr} (h : wF oc ins k = true) : ∃ idx, ins = .putfield idx := by
  cases ins <;> first | exact ⟨_, rfl⟩ | cases h
theorem isK_e {ins : Instr} {n : Int} (h : isK ins n = true) : ins = .iconst n := by
  cases ins <;> first | cases h | skip
  rw [of_decide_eq_true h]
theorem JR1 {a : Nat} {st st' : List Value} {μ : zM} (h : JR a st μ) (ha : (Nat.beq a 1 || (Nat.beq a 2 || Nat.beq a 3)) = true) : JR 1 st' μ := by
  rcases Bool.or_eq_true .. ▸ ha with q | q
  · rw [Nat.eq_of_beq_eq_true q] at h; exact h
  · rcases Bool.or_eq_true .. ▸ q with q | q
    · rw [Nat.eq_of_beq_eq_true q] at h; exact Or.inr h
    · rw [Nat.eq_of_beq_eq_true q] at h; exact h.2
theorem tr_ok {xs : Nat × (Nat → Int32)} {np oc nL pc : Nat} {ins : Instr} {lv lv' : zL} {st st' : List Value} {μ μ' : zM} {pc' a b : Nat} (hnp : np ≤ 80) (h : z_step xs np oc nL ins (pc, lv, st, μ) = some (pc', lv', st', μ')) (ht : trO oc ins a b = true) (hJ : JR a st μ) : JR b st' μ' := by
  unfold trO at ht
  rcases Bool.or_eq_true .. ▸ ht with q | q
  · rw [Nat.eq_of_beq_eq_true q]; exact trivial
  · cases w18 : wF oc ins 18 with
    | true =>
      rw [w18, cond_true] at q
      obtain ⟨q1, q2⟩ := z_and q
      rw [Nat.eq_of_beq_eq_true q1] at hJ
      obtain ⟨⟨t, rfl⟩, _⟩ := hJ
      obtain ⟨idx, rfl⟩ := wF_pf w18
      have e := put_v hnp h w18
      rcases Bool.or_eq_true .. ▸ q2 with q | q
      · rw [Nat.eq_of_beq_eq_true q]; exact Or.inr e
      · rw [Nat.eq_of_beq_eq_true q]; exact e
    | false =>
      rw [w18, cond_false] at q
      have e18 := step_cell h w18
      cases w13 : wF oc ins 13 with
      | true =>
        rw [w13, cond_true] at q
        obtain ⟨q1, q2⟩ := z_and q
        rw [Nat.eq_of_beq_eq_true q1] at hJ
        obtain ⟨t, rfl⟩ := hJ
        obtain ⟨idx, rfl⟩ := wF_pf w13
        rw [Nat.eq_of_beq_eq_true q2]
        exact Or.inl (put_v hnp h w13)
      | false =>
        rw [w13, cond_false] at q
        have e13 := step_cell h w13
        have hI : ∀ a, JR a st μ → (Nat.beq a 1 || (Nat.beq a 2 || Nat.beq a 3)) = true → IFv μ' := fun a hJ ha => by
          have := JR1 (st' := []) hJ ha
          have : IFv μ := this
          unfold IFv at this ⊢
          rw [e13, e18]; exact this
        rcases Bool.or_eq_true .. ▸ q with q | q
        · obtain ⟨q1, q2⟩ := z_and q
          rw [Nat.eq_of_beq_eq_true q1]
          exact hI a hJ q2
        · rcases Bool.or_eq_true .. ▸ q with q | q
          · obtain ⟨q1, q2⟩ := z_and q
            rw [Nat.eq_of_beq_eq_true q2] at hJ
            rw [Nat.eq_of_beq_eq_true q1]
            exact e18.trans hJ
          · rcases Bool.or_eq_true .. ▸ q with q | q
            · obtain ⟨q1, q2⟩ := z_and q
              obtain ⟨q3, q4⟩ := z_and q2
              rw [isK_e q3] at h
              rw [Nat.eq_of_beq_eq_true q1]
              have h : some (pc + z_len (.iconst 1), lv, .int (Int32.ofInt 1) :: st, μ) = some (pc', lv', st', μ') := h
              refine ⟨⟨st, ?_⟩, hI a hJ (by rcases Bool.or_eq_true .. ▸ q4 with q | q <;> rw [q] <;> simp)⟩
              cases h; rfl
            · obtain ⟨q1, q2⟩ := z_and q
              rw [isK_e q2] at h
              rw [Nat.eq_of_beq_eq_true q1]
              have h : some (pc + z_len (.iconst 0), lv, .int (Int32.ofInt 0) :: st, μ) = some (pc', lv', st', μ') := h
              refine ⟨st, ?_⟩
              cases h; rfl
theorem LS_np : LSs.all (fun j => Nat.ble (z_np j) 80) = true := by decide +kernel
theorem rn_isR {j pc : Nat} {st : List Value} {v : Option Value} (h : z_rn j pc st = some v) : ∃ ins, z_ft j pc = some ins ∧ isR ins = true := by
  unfold z_rn at h
  split at h
  · exact ⟨_, by assumption, rfl⟩
  · exact ⟨_, by assumption, rfl⟩
  · exact ⟨_, by assumption, rfl⟩
  · exact ⟨_, by assumption, rfl⟩
  · cases h
theorem S_full (d : Nat) {j : Nat} {As : List Value} {μ : zM} {Q : zQ} (hj : LSs.contains j = true) (h0 : JR (rg j 0) [] μ) (h : z_C d j As μ Q) : z_C d j As μ (fun r m => Q r m ∧ IFv m) := by
  have H : ∀ j, LSs.contains j = true → Nat.beq j mi_X7_nobodyWins = false ∧ z_np j ≤ 80 ∧ ∀ pc ins, z_ft j pc = some ins → okS j pc ins = true := by
    intro j hj
    obtain ⟨a, b⟩ := z_and (List.all_eq_true.mp LS_ok j (by simpa using hj))
    exact ⟨by simpa using a, Nat.le_of_ble_eq_true (List.all_eq_true.mp LS_np j (by simpa using hj)), fun pc ins hf => List.all_eq_true.mp b _ (lk_mem hf)⟩
  refine zC_J (fun j pc st μ => LSs.contains j = true ∧ JR (rg j pc) st μ) (fun _ μ => IFv μ) ?_ ?_ ?_ ?_ d j As μ Q ⟨hj, h0⟩ h
  · intro j pc ins lv st μ pc' lv' st' μ' k1 k2 k3
    refine ⟨k3.1, ?_⟩
    obtain ⟨c1, c2⟩ := z_and ((H j k3.1).2.2 pc ins k1)
    obtain ⟨c3, c4⟩ := z_and c2
    obtain ⟨c5, c6⟩ := z_and c4
    rcases Bool.or_eq_true .. ▸ c3 with q | q
    · rcases Bool.or_eq_true .. ▸ q with q | q
      · exfalso
        cases ins <;> first | exact nomatch (show none = some (pc', lv', st', μ') from k2) | exact nomatch (show false = true from q)
      · exact tr_ok (H j k3.1).2.1 k2 (List.all_eq_true.mp q pc' (step_sc k2 c1)) k3.2
    · exfalso
      cases ins with
      | invokevirtual idx => exact nomatch (show none = some (pc', lv', st', μ') from k2)
      | invokestatic idx =>
        obtain ⟨z, hz⟩ := st_mths k2
        have e := mths_cals hz
        unfold cOk at c6
        simp only [e] at c6
        cases c6
      | _ => cases q
  · intro μ q
    have := (H _ q.1).1
    rw [Nat.beq_refl] at this
    cases this
  · intro j pc st μ v k1 q
    obtain ⟨ins, e1, e2⟩ := rn_isR k1
    obtain ⟨c1, c2⟩ := z_and ((H j q.1).2.2 pc ins e1)
    obtain ⟨c3, c4⟩ := z_and c2
    obtain ⟨c5, c6⟩ := z_and c4
    rw [e2] at c5
    have c5 : (Nat.beq (rg j pc) 1 || Nat.beq (rg j pc) 2) = true := c5
    exact JR1 (st' := []) q.2 (by rcases Bool.or_eq_true .. ▸ c5 with q | q <;> rw [q] <;> simp)
  · intro d ih j pc st j' As rest μ Q' k1 k2 k3
    obtain ⟨idx, kd, na, ci, e, e2⟩ := cl_inv k1
    have hf : ((LSs.contains j' && ((Nat.beq (rg j' 0) 0 || (Nat.beq (rg j' 0) 1 && (Nat.beq (rg j pc) 1))) && (Nat.beq (rg j (pc + 3)) 0 || Nat.beq (rg j (pc + 3)) 1))) || ((LA.contains j' && (Nat.beq (rg j pc) 2 && (Nat.beq (rg j (pc + 3)) 1 || Nat.beq (rg j (pc + 3)) 2))) || (LN.contains j' && (Nat.beq (rg j pc) 1 && Nat.beq (rg j (pc + 3)) 1)))) = true := by
      rcases e with e | e
      all_goals
        obtain ⟨_, c2⟩ := z_and ((H j k2.1).2.2 pc _ e)
        obtain ⟨_, c4⟩ := z_and c2
        obtain ⟨_, c6⟩ := z_and c4
        unfold cOk at c6
        simp only [e2] at c6
        exact c6
    have k2' := k2.2
    rcases Bool.or_eq_true .. ▸ hf with q | q
    · obtain ⟨q1, q2⟩ := z_and q
      obtain ⟨q3, q4⟩ := z_and q2
      have hJ' : JR (rg j' 0) [] μ := by
        rcases Bool.or_eq_true .. ▸ q3 with q | q
        · rw [Nat.eq_of_beq_eq_true q]; exact trivial
        · obtain ⟨q5, q6⟩ := z_and q
          rw [Nat.eq_of_beq_eq_true q6] at k2'
          rw [Nat.eq_of_beq_eq_true q5]; exact k2'
      refine z_C_mono (ih j' As μ Q' ⟨q1, hJ'⟩ k3) (fun r m z => ⟨z.1, k2.1, ?_⟩)
      rcases Bool.or_eq_true .. ▸ q4 with q | q
      · rw [Nat.eq_of_beq_eq_true q]; exact trivial
      · rw [Nat.eq_of_beq_eq_true q]; exact z.2
    · rcases Bool.or_eq_true .. ▸ q with q | q
      · obtain ⟨q1, q2⟩ := z_and q
        obtain ⟨q3, q4⟩ := z_and q2
        rw [Nat.eq_of_beq_eq_true q3] at k2'
        refine z_C_mono (zC_keep LA_ok (fun m => m.1 50 18 = 1) (fun μ μ' hk h1 => by rw [hk 18 (by simp)]; exact h1) d q1 k2' k3) (fun r m z => ⟨z.1, k2.1, ?_⟩)
        rcases Bool.or_eq_true .. ▸ q4 with q | q
        · rw [Nat.eq_of_beq_eq_true q]; exact Or.inr z.2
        · rw [Nat.eq_of_beq_eq_true q]; exact z.2
      · obtain ⟨q1, q2⟩ := z_and q
        obtain ⟨q3, q4⟩ := z_and q2
        rw [Nat.eq_of_beq_eq_true q3] at k2'
        refine z_C_mono (zC_keep LN_ok IFv (fun μ μ' hk h1 => by unfold IFv at h1 ⊢; rw [hk 13 (by simp), hk 18 (by simp)]; exact h1) d q1 k2' k3) (fun r m z => ⟨z.1, k2.1, ?_⟩)
        rw [Nat.eq_of_beq_eq_true q4]; exact z.2
