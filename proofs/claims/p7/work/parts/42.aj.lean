/-! the checker's steps: jumps and locals -/
theorem a_sb_ok {T : List aI} {ρ : List Value} {n : Nat} {b : aB} {x : Int32} (h : a_Tr T ρ) (hk : ∃ b0, a_int T n = some b0) (hx : ρ[n]? = some (.int x)) (hb : a_bi b x) : a_Tr (a_sb T n b) ρ := by
  obtain ⟨b0, hk⟩ := hk
  unfold a_sb
  split
  · rename_i q hq
    refine ⟨by rw [List.length_set]; exact h.1, fun i q' hi => ?_⟩
    by_cases hin : n = i
    · subst hin
      rw [List.getElem?_set_self (List.getElem?_eq_some_iff.mp hq).1] at hi
      cases hi
      obtain ⟨v, h1, h2, h3⟩ := h.2 n q hq
      rw [hx] at h1
      cases h1
      refine ⟨_, hx, ?_, h3⟩
      have h0 : q.1 = 0 := by
        unfold a_int at hk
        rw [hq] at hk
        split at hk
        · rename_i e
          cases e
          rfl
        · cases hk
      unfold a_ok
      rw [h0]
      exact ⟨x, rfl, hb⟩
    · rw [List.getElem?_set_ne hin] at hi
      exact h.2 i q' hi
  · exact h
theorem a_sb_int {T : List aI} {n m : Nat} {b : aB} (h : ∃ b0, a_int T m = some b0) : ∃ b0, a_int (a_sb T n b) m = some b0 := by
  obtain ⟨b0, h⟩ := h
  unfold a_sb
  split
  · rename_i q hq
    unfold a_int at h ⊢
    by_cases hnm : n = m
    · subst hnm
      rw [List.getElem?_set_self (List.getElem?_eq_some_iff.mp hq).1]
      rw [hq] at h
      split at h
      · rename_i e
        cases e
        exact ⟨b, rfl⟩
      · cases h
    · rw [List.getElem?_set_ne hnm]
      exact ⟨b0, h⟩
  · exact ⟨b0, h⟩
theorem a_cmp_ok {c : Jvm.ClassFile.Cond} {bx by' : aB} {x y : Int32} (hx : a_bi bx x) (hy : a_bi by' y) (h : z_cmp c x y = true) : a_bi (a_cmp c bx by').1 x ∧ a_bi (a_cmp c bx by').2 y := by
  obtain ⟨x1, x2⟩ := hx
  obtain ⟨y1, y2⟩ := hy
  have hne : ∀ (b1 b2 : aB) (u v : Int32), a_bi b1 u → a_bi b2 v → u.toInt ≠ v.toInt → a_bi (a_ne1 b1 b2) u := by
    intro b1 b2 u v h1 h2 hn
    obtain ⟨u1, u2⟩ := h1
    obtain ⟨v1, v2⟩ := h2
    unfold a_ne1 a_cst
    cases q1 : (decide (b2.1 = b2.2) && decide (b1.1 = b2.1)) with
    | true =>
      rw [Bool.and_eq_true, decide_eq_true_iff, decide_eq_true_iff] at q1
      exact ⟨by show b1.1 + 1 ≤ _; omega, u2⟩
    | false =>
      cases q2 : (decide (b2.1 = b2.2) && decide (b1.2 = b2.1)) with
      | true =>
        rw [Bool.and_eq_true, decide_eq_true_iff, decide_eq_true_iff] at q2
        exact ⟨u1, by show _ ≤ b1.2 - 1; omega⟩
      | false => exact ⟨u1, u2⟩
  cases c with
  | eq =>
    have h : x = y := of_decide_eq_true h
    subst h
    exact ⟨⟨by show max _ _ ≤ _; omega, by show _ ≤ min _ _; omega⟩, ⟨by show max _ _ ≤ _; omega, by show _ ≤ min _ _; omega⟩⟩
  | ne =>
    have h : ¬ x = y := by
      have h : (!decide (x = y)) = true := h
      rw [Bool.not_eq_true', decide_eq_false_iff_not] at h
      exact h
    have h1 : x.toInt ≠ y.toInt := fun e => h (Int32.toInt_inj.mp e)
    exact ⟨hne bx by' x y ⟨x1, x2⟩ ⟨y1, y2⟩ h1, hne by' bx y x ⟨y1, y2⟩ ⟨x1, x2⟩ (fun e => h1 e.symm)⟩
  | lt =>
    have h := Int32.lt_iff_toInt_lt.mp (of_decide_eq_true h : x < y)
    exact ⟨⟨x1, by show _ ≤ min _ _; omega⟩, ⟨by show max _ _ ≤ _; omega, y2⟩⟩
  | ge =>
    have h := Int32.le_iff_toInt_le.mp (of_decide_eq_true h : y ≤ x)
    exact ⟨⟨by show max _ _ ≤ _; omega, x2⟩, ⟨y1, by show _ ≤ min _ _; omega⟩⟩
  | gt =>
    have h := Int32.lt_iff_toInt_lt.mp (of_decide_eq_true h : y < x)
    exact ⟨⟨by show max _ _ ≤ _; omega, x2⟩, ⟨y1, by show _ ≤ min _ _; omega⟩⟩
  | le =>
    have h := Int32.le_iff_toInt_le.mp (of_decide_eq_true h : x ≤ y)
    exact ⟨⟨x1, by show _ ≤ min _ _; omega⟩, ⟨by show max _ _ ≤ _; omega, y2⟩⟩
theorem a_not_ok {c : Jvm.ClassFile.Cond} {x y : Int32} (h : z_cmp c x y = false) : z_cmp (a_not c) x y = true := by
  cases c with
  | eq => show (!decide (x = y)) = true; rw [show decide (x = y) = false from h]; rfl
  | ne =>
    have h : (!decide (x = y)) = false := h
    show decide (x = y) = true
    cases q : decide (x = y) with
    | true => rfl
    | false => rw [q] at h; cases h
  | lt =>
    have h : ¬ x < y := of_decide_eq_false h
    exact decide_eq_true (Int32.not_lt.mp h)
  | ge =>
    have h : ¬ y ≤ x := of_decide_eq_false h
    exact decide_eq_true (Int32.not_le.mp h)
  | gt =>
    have h : ¬ y < x := of_decide_eq_false h
    exact decide_eq_true (Int32.not_lt.mp h)
  | le =>
    have h : ¬ x ≤ y := of_decide_eq_false h
    exact decide_eq_true (Int32.not_le.mp h)
theorem a_em_no {b : aB} {x : Int32} (h : a_bi b x) : a_em b = false := by
  unfold a_em
  obtain ⟨h1, h2⟩ := h
  exact decide_eq_false (by omega)
theorem a_br_ok {c : Jvm.ClassFile.Cond} {T : List aI} {ρ : List Value} {x y : Nat} {bx by' : aB} {pc : Nat} {r : List Nat} {vx vy : Int32} (h : a_Tr T ρ) (h1 : a_int T x = some bx) (h2 : a_int T y = some by') (e1 : ρ[x]? = some (.int vx)) (e2 : ρ[y]? = some (.int vy)) (b1 : a_bi bx vx) (b2 : a_bi by' vy) (hc : z_cmp c vx vy = true) : ∃ T', (pc, T', r) ∈ a_br c T x y bx by' pc r ∧ a_Tr T' ρ := by
  obtain ⟨c1, c2⟩ := a_cmp_ok b1 b2 hc
  unfold a_br
  rw [a_em_no c1, a_em_no c2]
  refine ⟨_, List.mem_singleton.mpr rfl, ?_⟩
  exact a_sb_ok (a_sb_ok h ⟨_, h1⟩ e1 c1) (a_sb_int ⟨_, h2⟩) e2 c2
theorem a_br0_ok {c : Jvm.ClassFile.Cond} {T : List aI} {ρ : List Value} {x : Nat} {bx : aB} {pc : Nat} {r : List Nat} {vx : Int32} (h : a_Tr T ρ) (h1 : a_int T x = some bx) (e1 : ρ[x]? = some (.int vx)) (b1 : a_bi bx vx) (hc : z_cmp c vx 0 = true) : ∃ T', (pc, T', r) ∈ a_br0 c T x bx pc r ∧ a_Tr T' ρ := by
  obtain ⟨c1, c2⟩ := a_cmp_ok (by' := (0, 0)) b1 ⟨by decide, by decide⟩ hc
  unfold a_br0
  rw [a_em_no c1, a_em_no c2]
  exact ⟨_, List.mem_singleton.mpr rfl, a_sb_ok h ⟨_, h1⟩ e1 c1⟩
theorem a_cases_ok {pc : Nat} {T : List aI} {ρ : List Value} {x : Nat} {bx : aB} {r : List Nat} {vx : Int32} (h : a_Tr T ρ) (h1 : a_int T x = some bx) (e1 : ρ[x]? = some (.int vx)) (b1 : a_bi bx vx) : ∀ (os : List Int) (v : Int) (l : List (Nat × List aI × List Nat)), a_cases pc T x bx r v os = some l → ∀ (i : Nat) (off : Int), os[i]? = some off → vx.toInt = v + (i : Int) → ∃ t T', z_to pc off = some t ∧ (t, T', r) ∈ l ∧ a_Tr T' ρ := by
  intro os
  induction os with
  | nil => intro v l _ i off hi; cases hi
  | cons o os ih =>
    intro v l hl i off hi hv
    unfold a_cases at hl
    split at hl
    · cases hl
    · rename_i l0 hl0
      cases i with
      | zero =>
        cases hi
        have hq : (decide (bx.1 ≤ v) && decide (v ≤ bx.2)) = true := by
          obtain ⟨q1, q2⟩ := b1
          rw [Bool.and_eq_true, decide_eq_true_iff, decide_eq_true_iff]
          constructor <;> omega
        rw [hq] at hl
        obtain ⟨t, ht, he⟩ := Option.map_eq_some_iff.mp (show (z_to pc o).map (fun t => (t, a_sb T x (v, v), r) :: l0) = some l from hl)
        subst he
        exact ⟨t, _, ht, List.mem_cons_self, a_sb_ok h ⟨_, h1⟩ e1 ⟨by show v ≤ _; omega, by show _ ≤ v; omega⟩⟩
      | succ i =>
        obtain ⟨t, T', a1, a2, a3⟩ := ih (v + 1) l0 hl0 i off hi (by rw [hv]; omega)
        refine ⟨t, T', a1, ?_, a3⟩
        cases hq : (decide (bx.1 ≤ v) && decide (v ≤ bx.2)) with
        | true =>
          rw [hq] at hl
          obtain ⟨t', ht, he⟩ := Option.map_eq_some_iff.mp (show (z_to pc o).map (fun t => (t, a_sb T x (v, v), r) :: l0) = some l from hl)
          subst he
          exact List.mem_cons_of_mem _ a2
        | false =>
          rw [hq] at hl
          cases hl
          exact a2
set_option maxHeartbeats 1000000 in
theorem a_jp_ok {ins : Instr} {pc : Nat} {T : List aI} {ρ : List Value} {sa : List Nat} {st : List Value} {l : List (Nat × List aI × List Nat)} (h : a_Tr T ρ) (hs : a_Sr ρ sa st) (hf : a_jp ins pc T sa = some l) : ∃ pc' st' T' sa', z_jp ins pc st = some (pc', st') ∧ (pc', T', sa') ∈ l ∧ a_Tr T' ρ ∧ a_Sr ρ sa' st' := by
  unfold a_jp at hf
  split at hf
  · obtain ⟨t, ht, he⟩ := Option.map_eq_some_iff.mp hf
    subst he
    refine ⟨t, st, T, _, ?_, List.mem_singleton.mpr rfl, h, hs⟩
    show (z_to pc _).map (fun t => (t, st)) = _
    rw [ht]
    rfl
  · rename_i c off x r
    split at hf
    · rename_i bx h1
      obtain ⟨t, ht, he⟩ := Option.map_eq_some_iff.mp hf
      subst he
      obtain ⟨vx, e1, b1⟩ := a_int_ok h h1
      obtain ⟨s1, rfl, hs1⟩ := a_top hs e1
      cases hc : z_cmp c vx 0 with
      | true =>
        obtain ⟨T', m1, m2⟩ := a_br0_ok (pc := t) (r := r) h h1 e1 b1 hc
        refine ⟨t, s1, T', r, ?_, List.mem_append_left _ m1, m2, hs1⟩
        show (z_to pc off).map (fun t => (bif z_cmp c vx 0 then t else pc + 3, s1)) = _
        rw [ht]
        show some (bif z_cmp c vx 0 then t else pc + 3, s1) = _
        rw [hc]
        rfl
      | false =>
        obtain ⟨T', m1, m2⟩ := a_br0_ok (pc := pc + 3) (r := r) h h1 e1 b1 (a_not_ok hc)
        refine ⟨pc + 3, s1, T', r, ?_, List.mem_append_right _ m1, m2, hs1⟩
        show (z_to pc off).map (fun t => (bif z_cmp c vx 0 then t else pc + 3, s1)) = _
        rw [ht]
        show some (bif z_cmp c vx 0 then t else pc + 3, s1) = _
        rw [hc]
        rfl
    · cases hf
  · rename_i c off y x r
    split at hf
    · rename_i bx by' h1 h2
      obtain ⟨t, ht, he⟩ := Option.map_eq_some_iff.mp hf
      subst he
      obtain ⟨vx, e1, b1⟩ := a_int_ok h h1
      obtain ⟨vy, e2, b2⟩ := a_int_ok h h2
      obtain ⟨s1, rfl, hs1⟩ := a_top hs e2
      obtain ⟨s2, rfl, hs2⟩ := a_top hs1 e1
      cases hc : z_cmp c vx vy with
      | true =>
        obtain ⟨T', m1, m2⟩ := a_br_ok (pc := t) (r := r) h h1 h2 e1 e2 b1 b2 hc
        refine ⟨t, s2, T', r, ?_, List.mem_append_left _ m1, m2, hs2⟩
        show (z_to pc off).map (fun t => (bif z_cmp c vx vy then t else pc + 3, s2)) = _
        rw [ht]
        show some (bif z_cmp c vx vy then t else pc + 3, s2) = _
        rw [hc]
        rfl
      | false =>
        obtain ⟨T', m1, m2⟩ := a_br_ok (pc := pc + 3) (r := r) h h1 h2 e1 e2 b1 b2 (a_not_ok hc)
        refine ⟨pc + 3, s2, T', r, ?_, List.mem_append_right _ m1, m2, hs2⟩
        show (z_to pc off).map (fun t => (bif z_cmp c vx vy then t else pc + 3, s2)) = _
        rw [ht]
        show some (bif z_cmp c vx vy then t else pc + 3, s2) = _
        rw [hc]
        rfl
    · cases hf
  · rename_i x r
    split at hf
    · rename_i R h1
      cases hf
      obtain ⟨q, -, e1⟩ := a_ref_ok h h1
      obtain ⟨s1, rfl, hs1⟩ := a_top hs e1
      exact ⟨_, _, T, r, rfl, List.mem_singleton.mpr rfl, h, hs1⟩
    · cases hf
  · rename_i dflt lo hi offs x r
    split at hf
    · rename_i bx t h1 ht
      cases hlen : decide (hi + 1 - lo = offs.toList.length) with
      | false => rw [hlen] at hf; cases hf
      | true =>
        rw [hlen] at hf
        obtain ⟨l0, hl0, he⟩ := Option.map_eq_some_iff.mp (show (a_cases pc T x bx r lo offs.toList).map (fun l => (t, T, r) :: l) = some l from hf)
        subst he
        have hlen := of_decide_eq_true hlen
        obtain ⟨vx, e1, b1⟩ := a_int_ok h h1
        obtain ⟨s1, rfl, hs1⟩ := a_top hs e1
        cases hc : (decide (vx.toInt < lo) || decide (hi < vx.toInt)) with
        | true =>
          refine ⟨t, s1, T, r, ?_, List.mem_cons_self, h, hs1⟩
          unfold z_jp
          show (bif decide (vx.toInt < lo) || decide (hi < vx.toInt) then (z_to pc dflt).map (fun t => (t, s1)) else _) = _
          rw [hc, ht]
          rfl
        | false =>
          rw [Bool.or_eq_false_iff, decide_eq_false_iff_not, decide_eq_false_iff_not] at hc
          have hi1 : (vx.toInt - lo).toNat < offs.toList.length := by omega
          obtain ⟨t', T', a1, a2, a3⟩ := a_cases_ok h h1 e1 b1 offs.toList lo l0 hl0 (vx.toInt - lo).toNat _ (List.getElem?_eq_getElem hi1) (by omega)
          refine ⟨t', s1, T', r, ?_, List.mem_cons_of_mem _ a2, a3, hs1⟩
          unfold z_jp
          show (bif decide (vx.toInt < lo) || decide (hi < vx.toInt) then _ else _) = _
          rw [decide_eq_false hc.1, decide_eq_false hc.2]
          show (match offs[(vx.toInt - lo).toNat]? with
            | some off => (z_to pc off).map (fun t => (t, s1))
            | none => none) = _
          rw [← Array.getElem?_toList, List.getElem?_eq_getElem hi1]
          show (z_to pc _).map (fun t => (t, s1)) = _
          rw [a1]
          rfl
    · cases hf
  · cases hf
theorem z_lk_del {la : List (Nat × Nat)} {i j s : Nat} (h : z_lk (a_del la i) j = some s) : z_lk la j = some s ∧ j ≠ i := by
  unfold a_del at h
  induction la with
  | nil => cases h
  | cons q r ih =>
    by_cases hq : q.1 = i
    · rw [List.filter_cons_of_neg (by rw [hq, z_bt]; decide)] at h
      obtain ⟨h1, h2⟩ := ih h
      refine ⟨?_, h2⟩
      unfold z_lk
      rw [hq, z_bf (fun e => h2 e.symm)]
      exact h1
    · rw [List.filter_cons_of_pos (by rw [z_bf hq]; rfl)] at h
      unfold z_lk at h ⊢
      by_cases hj : q.1 = j
      · rw [hj, z_bt] at h ⊢
        exact ⟨h, fun e => hq (hj.trans e)⟩
      · rw [z_bf hj] at h ⊢
        exact ih h
theorem z_lk_rm {lv : zL} {i j : Nat} {v : Value} (h : z_lk lv j = some v) (hj : j ≠ i) (hc : j + 1 = i → v.category ≠ 2) : z_lk (z_rm lv i) j = some v := by
  induction lv with
  | nil => cases h
  | cons q r ih =>
    unfold z_lk at h
    unfold z_rm
    by_cases hq : q.1 = j
    · rw [hq, z_bt] at h
      have h : some q.2 = some v := h
      cases h
      rw [hq, z_bf hj]
      have : (Nat.beq (j + 1) i && Nat.beq q.2.category 2) = false := by
        cases h1 : Nat.beq (j + 1) i with
        | false => rfl
        | true =>
          show Nat.beq q.2.category 2 = false
          exact z_bf (hc (z_beq h1))
      rw [this]
      show z_lk (q :: z_rm r i) j = _
      unfold z_lk
      rw [hq, z_bt]
      rfl
    · rw [z_bf hq] at h
      have h : z_lk r j = some v := h
      cases hb : (Nat.beq q.1 i || (Nat.beq (q.1 + 1) i && Nat.beq q.2.category 2)) with
      | true => exact ih h
      | false =>
        show z_lk (q :: z_rm r i) j = _
        unfold z_lk
        rw [z_bf hq]
        exact ih h
theorem z_lk_rm2 {lv : zL} {i j : Nat} {v : Value} (h : z_lk lv j = some v) (hj : j ≠ i) (hj1 : j ≠ i + 1) (hc : j + 1 = i → v.category ≠ 2) : z_lk (z_rm2 lv i) j = some v := by
  induction lv with
  | nil => cases h
  | cons q r ih =>
    unfold z_lk at h
    unfold z_rm2
    by_cases hq : q.1 = j
    · rw [hq, z_bt] at h
      have h : some q.2 = some v := h
      cases h
      rw [hq, z_bf hj, z_bf hj1]
      have : (Nat.beq (j + 1) i && Nat.beq q.2.category 2) = false := by
        cases h1 : Nat.beq (j + 1) i with
        | false => rfl
        | true =>
          show Nat.beq q.2.category 2 = false
          exact z_bf (hc (z_beq h1))
      rw [this]
      show z_lk (q :: z_rm2 r i) j = _
      unfold z_lk
      rw [hq, z_bt]
      rfl
    · rw [z_bf hq] at h
      have h : z_lk r j = some v := h
      cases hb : (Nat.beq q.1 i || (Nat.beq q.1 (i + 1) || (Nat.beq (q.1 + 1) i && Nat.beq q.2.category 2))) with
      | true => exact ih h
      | false =>
        show z_lk (q :: z_rm2 r i) j = _
        unfold z_lk
        rw [z_bf hq]
        exact ih h
theorem a_pre_ok {T : List aI} {la : List (Nat × Nat)} {i j s : Nat} (h : z_lk (a_pre T la i) j = some s) : z_lk la j = some s ∧ (j + 1 = i → a_lng T s = none) := by
  unfold a_pre at h
  split at h
  · exact ⟨h, fun e => by omega⟩
  · rename_i i'
    split at h
    · rename_i s0 h0
      split at h
      · obtain ⟨h1, h2⟩ := z_lk_del h
        exact ⟨h1, fun e => absurd (by omega) h2⟩
      · rename_i hn
        refine ⟨h, fun e => ?_⟩
        have : j = i' := by omega
        subst this
        rw [h0] at h
        cases h
        exact hn
    · rename_i h0
      refine ⟨h, fun e => ?_⟩
      have : j = i' := by omega
      subst this
      rw [h0] at h
      cases h
theorem a_nlong {T : List aI} {ρ : List Value} {s : Nat} {v : Value} (h : a_Tr T ρ) (hv : ρ[s]? = some v) (hn : a_lng T s = none) : v.category ≠ 2 := by
  have hl : s < T.length := by rw [h.1]; exact (List.getElem?_eq_some_iff.mp hv).1
  obtain ⟨w, h1, h2, -⟩ := h.2 s _ (List.getElem?_eq_getElem hl)
  rw [hv] at h1
  cases h1
  unfold a_ok at h2
  split at h2
  · obtain ⟨x, rfl, -⟩ := h2; show ¬ 1 = 2; decide
  · rename_i e
    unfold a_lng at hn
    rw [List.getElem?_eq_getElem hl] at hn
    revert hn e
    generalize T[s] = q
    intro hn e
    obtain ⟨a, b, c, d⟩ := q
    have e : a = 1 := e
    subst e
    cases hn
  · obtain ⟨r, -, rfl⟩ := h2; show ¬ 1 = 2; decide
theorem a_Lr_s1 {T : List aI} {ρ ρ' : List Value} {la la' : List (Nat × Nat)} {lv : zL} {nL i s : Nat} {v : Value} (h : a_Tr T ρ) (hl : a_Lr ρ la lv) (hρ : ∀ (s : Nat) (v : Value), ρ[s]? = some v → ρ'[s]? = some v) (hs : a_s1 T nL i s la = some la') (hv : ρ'[s]? = some v) : Nat.blt i nL = true ∧ a_Lr ρ' la' ((i, v) :: z_rm lv i) := by
  unfold a_s1 at hs
  obtain ⟨h1, h2⟩ := z_bif hs
  subst h2
  refine ⟨h1, fun j s' hj => ?_⟩
  unfold z_lk at hj
  by_cases hij : i = j
  · subst hij
    rw [z_bt] at hj
    have hj : some s = some s' := hj
    cases hj
    refine ⟨v, hv, ?_⟩
    unfold z_lk
    rw [z_bt]
    rfl
  · rw [z_bf hij] at hj
    obtain ⟨q1, q2⟩ := z_lk_del hj
    obtain ⟨q3, q4⟩ := a_pre_ok q1
    obtain ⟨w, w1, w2⟩ := hl j s' q3
    refine ⟨w, hρ _ _ w1, ?_⟩
    unfold z_lk
    rw [z_bf hij]
    exact z_lk_rm w2 q2 (fun e => a_nlong h w1 (q4 e))
theorem a_Lr_s2 {T : List aI} {ρ : List Value} {la la' : List (Nat × Nat)} {lv : zL} {nL i s : Nat} {v : Value} (h : a_Tr T ρ) (hl : a_Lr ρ la lv) (hs : a_s2 T nL i s la = some la') (hv : ρ[s]? = some v) : Nat.blt (i + 1) nL = true ∧ a_Lr ρ la' ((i, v) :: z_rm2 lv i) := by
  unfold a_s2 at hs
  obtain ⟨h1, h2⟩ := z_bif hs
  subst h2
  refine ⟨h1, fun j s' hj => ?_⟩
  unfold z_lk at hj
  by_cases hij : i = j
  · subst hij
    rw [z_bt] at hj
    have hj : some s = some s' := hj
    cases hj
    refine ⟨v, hv, ?_⟩
    unfold z_lk
    rw [z_bt]
    rfl
  · rw [z_bf hij] at hj
    obtain ⟨q0, q5⟩ := z_lk_del hj
    obtain ⟨q1, q2⟩ := z_lk_del q0
    obtain ⟨q3, q4⟩ := a_pre_ok q1
    obtain ⟨w, w1, w2⟩ := hl j s' q3
    refine ⟨w, w1, ?_⟩
    unfold z_lk
    rw [z_bf hij]
    exact z_lk_rm2 w2 q2 q5 (fun e => a_nlong h w1 (q4 e))
def a_lvr (T' : List aI) (la' : List (Nat × Nat)) (sa' : List Nat) (ρ : List Value) (lv' : zL) (st' : List Value) : Prop := ∃ ρ', (ρ' = ρ ∨ ∃ w, ρ' = ρ ++ [w]) ∧ a_Tr T' ρ' ∧ a_Lr ρ' la' lv' ∧ a_Sr ρ' sa' st'
theorem a_ldi_ok {T T' : List aI} {ρ : List Value} {la la' : List (Nat × Nat)} {sa sa' : List Nat} {lv : zL} {st : List Value} {k : Nat} (h : a_Tr T ρ) (hl : a_Lr ρ la lv) (hs : a_Sr ρ sa st) (hf : a_ldi T la sa k = some (T', la', sa')) : ∃ x, z_lk lv k = some (.int x) ∧ a_lvr T' la' sa' ρ lv (.int x :: st) := by
  unfold a_ldi at hf
  split at hf
  · rename_i s h1
    split at hf
    · rename_i b h2
      cases hf
      obtain ⟨x, e1, -⟩ := a_int_ok h h2
      obtain ⟨v, v1, v2⟩ := hl k s h1
      rw [e1] at v1
      cases v1
      exact ⟨x, v2, ρ, Or.inl rfl, h, hl, a_Sr_mk e1 hs⟩
    · cases hf
  · cases hf
theorem a_ldj_ok {T T' : List aI} {ρ : List Value} {la la' : List (Nat × Nat)} {sa sa' : List Nat} {lv : zL} {st : List Value} {k : Nat} (h : a_Tr T ρ) (hl : a_Lr ρ la lv) (hs : a_Sr ρ sa st) (hf : a_ldj T la sa k = some (T', la', sa')) : ∃ x, z_lk lv k = some (.long x) ∧ a_lvr T' la' sa' ρ lv (.long x :: st) := by
  unfold a_ldj at hf
  split at hf
  · rename_i s h1
    split at hf
    · rename_i b h2
      cases hf
      obtain ⟨x, e1, -⟩ := a_lng_ok h h2
      obtain ⟨v, v1, v2⟩ := hl k s h1
      rw [e1] at v1
      cases v1
      exact ⟨x, v2, ρ, Or.inl rfl, h, hl, a_Sr_mk e1 hs⟩
    · cases hf
  · cases hf
theorem a_lda_ok {T T' : List aI} {ρ : List Value} {la la' : List (Nat × Nat)} {sa sa' : List Nat} {lv : zL} {st : List Value} {k : Nat} (h : a_Tr T ρ) (hl : a_Lr ρ la lv) (hs : a_Sr ρ sa st) (hf : a_lda T la sa k = some (T', la', sa')) : ∃ x, z_lk lv k = some (.ref x) ∧ a_lvr T' la' sa' ρ lv (.ref x :: st) := by
  unfold a_lda at hf
  split at hf
  · rename_i s h1
    split at hf
    · rename_i b h2
      cases hf
      obtain ⟨x, -, e1⟩ := a_ref_ok h h2
      obtain ⟨v, v1, v2⟩ := hl k s h1
      rw [e1] at v1
      cases v1
      exact ⟨x, v2, ρ, Or.inl rfl, h, hl, a_Sr_mk e1 hs⟩
    · cases hf
  · cases hf
theorem a_sti_ok {T T' : List aI} {ρ : List Value} {la la' : List (Nat × Nat)} {sa sa' : List Nat} {lv : zL} {st : List Value} {nL k : Nat} (h : a_Tr T ρ) (hl : a_Lr ρ la lv) (hs : a_Sr ρ sa st) (hf : a_sti T nL la sa k = some (T', la', sa')) : ∃ x r, st = .int x :: r ∧ Nat.blt k nL = true ∧ a_lvr T' la' sa' ρ ((k, .int x) :: z_rm lv k) r := by
  unfold a_sti at hf
  split at hf
  · split at hf
    · rename_i b h2
      obtain ⟨l, h3, h4⟩ := Option.map_eq_some_iff.mp hf
      cases h4
      obtain ⟨x, e1, -⟩ := a_int_ok h h2
      obtain ⟨s1, rfl, hs1⟩ := a_top hs e1
      obtain ⟨q1, q2⟩ := a_Lr_s1 h hl (fun _ _ h => h) h3 e1
      exact ⟨x, s1, rfl, q1, ρ, Or.inl rfl, h, q2, hs1⟩
    · cases hf
  · cases hf
theorem a_stj_ok {T T' : List aI} {ρ : List Value} {la la' : List (Nat × Nat)} {sa sa' : List Nat} {lv : zL} {st : List Value} {nL k : Nat} (h : a_Tr T ρ) (hl : a_Lr ρ la lv) (hs : a_Sr ρ sa st) (hf : a_stj T nL la sa k = some (T', la', sa')) : ∃ x r, st = .long x :: r ∧ Nat.blt (k + 1) nL = true ∧ a_lvr T' la' sa' ρ ((k, .long x) :: z_rm2 lv k) r := by
  unfold a_stj at hf
  split at hf
  · split at hf
    · rename_i b h2
      obtain ⟨l, h3, h4⟩ := Option.map_eq_some_iff.mp hf
      cases h4
      obtain ⟨x, e1, -⟩ := a_lng_ok h h2
      obtain ⟨s1, rfl, hs1⟩ := a_top hs e1
      obtain ⟨q1, q2⟩ := a_Lr_s2 h hl h3 e1
      exact ⟨x, s1, rfl, q1, ρ, Or.inl rfl, h, q2, hs1⟩
    · cases hf
  · cases hf
theorem a_sta_ok {T T' : List aI} {ρ : List Value} {la la' : List (Nat × Nat)} {sa sa' : List Nat} {lv : zL} {st : List Value} {nL k : Nat} (h : a_Tr T ρ) (hl : a_Lr ρ la lv) (hs : a_Sr ρ sa st) (hf : a_sta T nL la sa k = some (T', la', sa')) : ∃ x r, st = .ref x :: r ∧ Nat.blt k nL = true ∧ a_lvr T' la' sa' ρ ((k, .ref x) :: z_rm lv k) r := by
  unfold a_sta at hf
  split at hf
  · split at hf
    · rename_i b h2
      obtain ⟨l, h3, h4⟩ := Option.map_eq_some_iff.mp hf
      cases h4
      obtain ⟨x, -, e1⟩ := a_ref_ok h h2
      obtain ⟨s1, rfl, hs1⟩ := a_top hs e1
      obtain ⟨q1, q2⟩ := a_Lr_s1 h hl (fun _ _ h => h) h3 e1
      exact ⟨x, s1, rfl, q1, ρ, Or.inl rfl, h, q2, hs1⟩
    · cases hf
  · cases hf
set_option maxHeartbeats 1000000 in
theorem a_lv_ok {nL : Nat} {ins : Instr} {T T' : List aI} {ρ : List Value} {la la' : List (Nat × Nat)} {sa sa' : List Nat} {lv : zL} {st : List Value} (h : a_Tr T ρ) (hl : a_Lr ρ la lv) (hs : a_Sr ρ sa st) (hf : a_lv nL ins T la sa = some (T', la', sa')) : ∃ lv' st', z_lv nL ins lv st = some (lv', st') ∧ a_lvr T' la' sa' ρ lv' st' := by
  unfold a_lv at hf
  split at hf
  · obtain ⟨x, h1, h2⟩ := a_ldi_ok h hl hs hf; exact ⟨_, _, by unfold z_lv; simp only [h1], h2⟩
  · obtain ⟨x, h1, h2⟩ := a_ldi_ok h hl hs hf; exact ⟨_, _, by unfold z_lv; simp only [h1], h2⟩
  · obtain ⟨x, h1, h2⟩ := a_ldj_ok h hl hs hf; exact ⟨_, _, by unfold z_lv; simp only [h1], h2⟩
  · obtain ⟨x, h1, h2⟩ := a_ldj_ok h hl hs hf; exact ⟨_, _, by unfold z_lv; simp only [h1], h2⟩
  · obtain ⟨x, h1, h2⟩ := a_lda_ok h hl hs hf; exact ⟨_, _, by unfold z_lv; simp only [h1], h2⟩
  · obtain ⟨x, h1, h2⟩ := a_lda_ok h hl hs hf; exact ⟨_, _, by unfold z_lv; simp only [h1], h2⟩
  · obtain ⟨x, r, rfl, h1, h2⟩ := a_sti_ok h hl hs hf; exact ⟨_, _, by unfold z_lv; simp only [h1, cond_true], h2⟩
  · obtain ⟨x, r, rfl, h1, h2⟩ := a_sti_ok h hl hs hf; exact ⟨_, _, by unfold z_lv; simp only [h1, cond_true], h2⟩
  · obtain ⟨x, r, rfl, h1, h2⟩ := a_stj_ok h hl hs hf; exact ⟨_, _, by unfold z_lv; simp only [h1, cond_true], h2⟩
  · obtain ⟨x, r, rfl, h1, h2⟩ := a_stj_ok h hl hs hf; exact ⟨_, _, by unfold z_lv; simp only [h1, cond_true], h2⟩
  · obtain ⟨x, r, rfl, h1, h2⟩ := a_sta_ok h hl hs hf; exact ⟨_, _, by unfold z_lv; simp only [h1, cond_true], h2⟩
  · obtain ⟨x, r, rfl, h1, h2⟩ := a_sta_ok h hl hs hf; exact ⟨_, _, by unfold z_lv; simp only [h1, cond_true], h2⟩
  · rename_i k n
    split at hf
    · rename_i s h1
      split at hf
      · rename_i b R bs of hq
        obtain ⟨v, v1, ⟨x, rfl, hx⟩, u, u1, u2⟩ := h.2 s _ hq
        obtain ⟨v, w1, w2⟩ := hl k s h1
        rw [v1] at w1
        cases w1
        have hx : a_bi b x := hx
        have u1 : ρ[bs]? = some u := u1
        have u2 : x.toInt = a_num u + of := u2
        cases hi : a_inc b (Int32.ofInt n).toInt with
        | true =>
          rw [hi] at hf
          obtain ⟨l, h3, h4⟩ := Option.map_eq_some_iff.mp (show (a_s1 T nL k T.length la).map (fun l => (T ++ [(0, (b.1 + (Int32.ofInt n).toInt, b.2 + (Int32.ofInt n).toInt), [], (bs, of + (Int32.ofInt n).toInt))], l, sa)) = some (T', la', sa') from hf)
          cases h4
          unfold a_inc at hi
          rw [Bool.and_eq_true, decide_eq_true_iff, decide_eq_true_iff] at hi
          have hadd : (x + Int32.ofInt n).toInt = x.toInt + (Int32.ofInt n).toInt := Jvm.Kit.i32_add (by have := hx.1; omega) (by have := hx.2; omega)
          obtain ⟨q1, q2⟩ := a_Lr_s1 (ρ' := ρ ++ [.int (x + Int32.ofInt n)]) h hl (fun _ _ h => a_at_app h) h3 (a_last h)
          refine ⟨_, _, by unfold z_lv; simp only [w2, q1, cond_true], ρ ++ [.int (x + Int32.ofInt n)], Or.inr ⟨_, rfl⟩, a_Tr_app h ⟨_, rfl, ⟨?_, ?_⟩⟩ ⟨u, a_at_app u1, ?_⟩, q2, a_Sr_app hs⟩
          · show b.1 + _ ≤ _; rw [hadd]; have := hx.1; omega
          · show _ ≤ b.2 + _; rw [hadd]; have := hx.2; omega
          · show (x + Int32.ofInt n).toInt = a_num u + (of + _)
            rw [hadd, u2]
            omega
        | false =>
          rw [hi] at hf
          obtain ⟨l, h3, h4⟩ := Option.map_eq_some_iff.mp (show (a_s1 T nL k T.length la).map (fun l => (T ++ [(0, aT, [], (T.length, 0))], l, sa)) = some (T', la', sa') from hf)
          cases h4
          obtain ⟨q1, q2⟩ := a_Lr_s1 (ρ' := ρ ++ [.int (x + Int32.ofInt n)]) h hl (fun _ _ h => a_at_app h) h3 (a_last h)
          exact ⟨_, _, by unfold z_lv; simp only [w2, q1, cond_true], ρ ++ [.int (x + Int32.ofInt n)], Or.inr ⟨_, rfl⟩, a_new h ⟨_, rfl, bI_top _⟩, q2, a_Sr_app hs⟩
      · cases hf
    · cases hf
  · cases hf
