/-! all ways in which tiles fall apart, as rows of SETS -/
abbrev SL : Type := List (Nat × Nat)
def flt (t r : Nat → Nat) : Nat → Nat → SL
  | 0, _ => []
  | n + 1, i => List.replicate (t i) (1, i) ++ (List.replicate (r i) (0, i) ++ flt t r n (i + 1))
theorem flt_congr {t r t' r' : Nat → Nat} : ∀ n i, (∀ j, i ≤ j → j < i + n → t j = t' j ∧ r j = r' j) → flt t r n i = flt t' r' n i := by
  intro n
  induction n with
  | zero => intro i _; rfl
  | succ n ih =>
    intro i h
    show List.replicate (t i) _ ++ (List.replicate (r i) _ ++ flt t r n (i + 1)) = List.replicate (t' i) _ ++ (List.replicate (r' i) _ ++ flt t' r' n (i + 1))
    rw [(h i (by omega) (by omega)).1, (h i (by omega) (by omega)).2, ih (i + 1) (fun j h1 h2 => h j (by omega) (by omega))]
theorem flt_skip {t r : Nat → Nat} : ∀ n i k, i ≤ k → k ≤ i + n → (∀ j, i ≤ j → j < k → t j = 0 ∧ r j = 0) → flt t r n i = flt t r (n - (k - i)) k := by
  intro n
  induction n with
  | zero => intro i k h1 h2 _; rw [show k = i by omega, Nat.sub_self]
  | succ n ih =>
    intro i k h1 h2 hz
    by_cases e : k = i
    · rw [e, Nat.sub_self]; rfl
    · have z := hz i (by omega) (by omega)
      show List.replicate (t i) _ ++ (List.replicate (r i) _ ++ flt t r n (i + 1)) = _
      rw [z.1, z.2]
      show flt t r n (i + 1) = _
      rw [ih (i + 1) k (by omega) (by omega) (fun j h3 h4 => hz j (by omega) h4), show n - (k - (i + 1)) = n + 1 - (k - i) by omega]
def up1 (t : Nat → Nat) (k : Nat) : Nat → Nat := fun j => if j = k then t j + 1 else t j
def dn1 (t : Nat → Nat) (k : Nat) : Nat → Nat := fun j => if j = k then t j - 1 else t j
theorem up_dn {t : Nat → Nat} {k : Nat} (h : 0 < t k) : up1 (dn1 t k) k = t := by
  funext j
  unfold up1 dn1
  by_cases e : j = k
  · rw [if_pos e, if_pos e]; rw [e]; omega
  · rw [if_neg e, if_neg e]
theorem flt_three {t r : Nat → Nat} {k : Nat} (hk : k < 34) (hz : ∀ j, j < k → t j = 0 ∧ r j = 0) : flt (up1 t k) r 34 0 = (1, k) :: flt t r 34 0 := by
  have u : ∀ j, j ≠ k → up1 t k j = t j := fun j hj => by unfold up1; rw [if_neg hj]
  rw [flt_skip 34 0 k (by omega) (by omega) (fun j _ hj => ⟨by rw [u j (by omega)]; exact (hz j hj).1, (hz j hj).2⟩), flt_skip (t := t) 34 0 k (by omega) (by omega) (fun j _ hj => hz j hj)]
  rw [show 34 - (k - 0) = (33 - k) + 1 by omega]
  show List.replicate (up1 t k k) _ ++ (List.replicate (r k) _ ++ flt (up1 t k) r (33 - k) (k + 1)) = (1, k) :: (List.replicate (t k) _ ++ (List.replicate (r k) _ ++ flt t r (33 - k) (k + 1)))
  rw [flt_congr (t := up1 t k) (t' := t) (r' := r) (33 - k) (k + 1) (fun j h1 _ => ⟨u j (by omega), rfl⟩), show up1 t k k = t k + 1 by unfold up1; rw [if_pos rfl]]
  rfl
theorem flt_run {t r : Nat → Nat} {k : Nat} (hk : k < 34) (hz : ∀ j, j < k → t j = 0 ∧ r j = 0) (ht : t k = 0) : flt t (up1 r k) 34 0 = (0, k) :: flt t r 34 0 := by
  have u : ∀ j, j ≠ k → up1 r k j = r j := fun j hj => by unfold up1; rw [if_neg hj]
  rw [flt_skip 34 0 k (by omega) (by omega) (fun j _ hj => ⟨(hz j hj).1, by rw [u j (by omega)]; exact (hz j hj).2⟩), flt_skip (r := r) 34 0 k (by omega) (by omega) (fun j _ hj => hz j hj)]
  rw [show 34 - (k - 0) = (33 - k) + 1 by omega]
  show List.replicate (t k) _ ++ (List.replicate (up1 r k k) _ ++ flt t (up1 r k) (33 - k) (k + 1)) = (0, k) :: (List.replicate (t k) _ ++ (List.replicate (r k) _ ++ flt t r (33 - k) (k + 1)))
  rw [flt_congr (r := up1 r k) (t' := t) (r' := r) (33 - k) (k + 1) (fun j h1 _ => ⟨rfl, u j (by omega)⟩), show up1 r k k = r k + 1 by unfold up1; rw [if_pos rfl], ht]
  rfl
theorem sh1_up (r : Nat → Nat) (k : Nat) : ∀ j, sh1 (up1 r k) j = sh1 r j + (if j = k + 1 then 1 else 0) := by
  intro j
  cases j with
  | zero => show 0 = 0 + _; rw [if_neg (by omega)]
  | succ j =>
    show up1 r k j = r j + _
    unfold up1
    by_cases c : j = k
    · rw [if_pos c, if_pos (by omega)]
    · rw [if_neg c, if_neg (by omega)]; rfl
theorem sh2_up (r : Nat → Nat) (k : Nat) : ∀ j, sh2 (up1 r k) j = sh2 r j + (if j = k + 2 then 1 else 0) := by
  intro j
  cases j with
  | zero => show 0 = 0 + _; rw [if_neg (by omega)]
  | succ j =>
    show sh1 (up1 r k) j = sh1 r j + _
    rw [sh1_up]
    by_cases c : j = k + 1
    · rw [if_pos c, if_pos (by omega)]
    · rw [if_neg c, if_neg (by omega)]
theorem sn_up {f : Nat → Nat} {k n : Nat} (hk : k < n) : sn (up1 f k) n = sn f n + 1 := (sn_upd (f := up1 f k) (g := f) (d := 1) hk (fun j _ hj => by unfold up1; rw [if_neg hj]) (by unfold up1; rw [if_pos rfl])).symm
/-- what the ways offer: O of each way -/
def SS (O : SL → Q4 → Prop) (pf : SL) (w : Nat → Nat) (m last : Nat) (x : Q4) : Prop := ∃ t r, PW w t r ∧ sn (fun k => t k + r k) 34 = m ∧ (∀ k, last = k + 1 → t k = 0) ∧ O (pf ++ flt t r 34 0) x
theorem PW.z {w t r : Nat → Nat} (h : PW w t r) {k : Nat} (hk : k < 34) (h0 : w k = 0) : t k = 0 ∧ r k = 0 := by
  have := h.2 k hk
  omega
theorem SS_0 {O : SL → Q4 → Prop} {pf : SL} {w : Nat → Nat} {last : Nat} {x : Q4} (hw : ∀ k, k < 34 → w k = 0) : SS O pf w 0 last x ↔ O pf x := by
  have e : ∀ t r, (∀ j, j < 34 → t j = 0 ∧ r j = 0) → pf ++ flt t r 34 0 = pf := fun t r hz => by
    rw [flt_skip 34 0 34 (by omega) (by omega) (fun j _ hj => hz j hj)]
    exact List.append_nil pf
  constructor
  · rintro ⟨t, r, h1, h2, h3, h4⟩
    rw [e t r (fun j hj => h1.z hj (hw j hj))] at h4
    exact h4
  · intro h
    obtain ⟨t, r, hp⟩ := PW_dc 0 w 0 0 hw
    have z : ∀ j, j < 34 → t j = 0 ∧ r j = 0 := fun j hj => hp.z hj (hw j hj)
    refine ⟨fun j => if j < 34 then t j else 0, r, ⟨hp.1, fun k hk => by show w k = 3 * (if k < 34 then t k else 0) + r k + sh1 r k + sh2 r k; rw [if_pos hk]; exact hp.2 k hk⟩, ?_, fun k _ => ?_, ?_⟩
    · rw [sn_congr (f := fun _ => 0) (fun k hk => by show (if k < 34 then t k else 0) + r k = 0; rw [if_pos hk, (z k hk).1, (z k hk).2])]; rfl
    · show (if k < 34 then t k else 0) = 0
      by_cases c : k < 34
      · rw [if_pos c]; exact (z k c).1
      · rw [if_neg c]
    · rw [e _ _ (fun j hj => ⟨by show (if j < 34 then t j else 0) = 0; rw [if_pos hj]; exact (z j hj).1, (z j hj).2⟩)]; exact h
theorem SS_n {O : SL → Q4 → Prop} {pf : SL} {w : Nat → Nat} {last : Nat} {x : Q4} (hw : ∃ k, k < 34 ∧ w k ≠ 0) : ¬ SS O pf w 0 last x := by
  rintro ⟨t, r, h1, h2, -, -⟩
  obtain ⟨k, hk, hn⟩ := hw
  have := h1.sum
  have := sn_le (f := w) hk
  omega
theorem SS_e {O : SL → Q4 → Prop} {pf : SL} {w : Nat → Nat} {m last : Nat} {x : Q4} (hw : ∀ k, k < 34 → w k = 0) : ¬ SS O pf w (m + 1) last x := by
  rintro ⟨t, r, h1, h2, -, -⟩
  have := h1.sum
  rw [sn_congr (f := fun _ => 0) (fun k hk => hw k hk)] at this
  have z : sn (fun _ => 0) 34 = 0 := rfl
  omega
theorem SS_s {O : SL → Q4 → Prop} {pf : SL} {w : Nat → Nat} {m last k : Nat} {x : Q4} (hk : k < 34) (hwk : w k ≠ 0) (hz : ∀ j, j < k → w j = 0) (hl : last = 0 ∨ last ≤ k + 1) : SS O pf w (m + 1) last x ↔ ((3 ≤ w k ∧ last ≠ k + 1) ∧ SS O (pf ++ [(1, k)]) (sub3 w k) m 0 x) ∨ ((rs k ∧ 0 < w (k + 1) ∧ 0 < w (k + 2)) ∧ SS O (pf ++ [(0, k)]) (subr w k) m (k + 1) x) := by
  constructor
  · rintro ⟨t, r, h1, h2, h3, h4⟩
    have below : ∀ j, j < k → t j = 0 ∧ r j = 0 := fun j hj => h1.z (by omega) (hz j hj)
    have e1 : sh1 r k = 0 := by
      cases k with
      | zero => rfl
      | succ k => exact (below k (by omega)).2
    have e2 : sh2 r k = 0 := by
      cases k with
      | zero => rfl
      | succ k =>
        cases k with
        | zero => rfl
        | succ k => exact (below k (by omega)).2
    have ek := h1.2 k hk
    by_cases ht : t k = 0
    · right
      have hr : r k ≠ 0 := by omega
      have hrs := h1.1 k hr
      have k27 := hrs.1
      have w1 := h1.2 (k + 1) (by omega)
      have w2 := h1.2 (k + 2) (by omega)
      have w1 : w (k + 1) = 3 * t (k + 1) + r (k + 1) + r k + sh1 r k := w1
      have w2 : w (k + 2) = 3 * t (k + 2) + r (k + 2) + r (k + 1) + r k := w2
      have eu := up_dn (t := r) (k := k) (by omega)
      refine ⟨⟨hrs, by omega, by omega⟩, t, dn1 r k, ⟨fun j hj => ?_, fun j hj => ?_⟩, ?_, fun k' e => by rw [show k' = k by omega]; exact ht, ?_⟩
      · by_cases c : j = k
        · rw [c]; exact hrs
        · exact h1.1 j (by unfold dn1 at hj; rw [if_neg c] at hj; exact hj)
      · have e := h1.2 j hj
        rw [← eu, sh1_up, sh2_up] at e
        have ej : up1 (dn1 r k) k j = dn1 r k j + (if j = k then 1 else 0) := by
          unfold up1
          by_cases c : j = k
          · rw [if_pos c, if_pos c]
          · rw [if_neg c, if_neg c]; rfl
        rw [ej] at e
        unfold subr
        by_cases c0 : j = k
        · rw [if_pos c0, if_neg (by omega), if_neg (by omega)] at e
          rw [if_pos (Or.inl c0)]
          omega
        · rw [if_neg c0] at e
          by_cases c1 : j = k + 1
          · rw [if_pos c1, if_neg (by omega)] at e
            rw [if_pos (Or.inr (Or.inl c1))]
            omega
          · rw [if_neg c1] at e
            by_cases c2 : j = k + 2
            · rw [if_pos c2] at e
              rw [if_pos (Or.inr (Or.inr c2))]
              omega
            · rw [if_neg c2] at e
              rw [if_neg (by omega)]
              omega
      · have u := sn_up (f := fun j => t j + dn1 r k j) hk
        have e : up1 (fun j => t j + dn1 r k j) k = fun j => t j + r j := by
          funext j
          unfold up1 dn1
          dsimp only
          by_cases c : j = k
          · rw [if_pos c, if_pos c]; rw [c]; omega
          · rw [if_neg c, if_neg c]
        rw [e] at u
        omega
      · rw [List.append_assoc]
        rw [← eu, flt_run hk (fun j hj => ⟨(below j hj).1, by unfold dn1; rw [if_neg (by omega)]; exact (below j hj).2⟩) ht] at h4
        exact h4
    · left
      have eu := up_dn (t := t) (k := k) (by omega)
      refine ⟨⟨by omega, fun e => ht (h3 k e)⟩, dn1 t k, r, ⟨h1.1, fun j hj => ?_⟩, ?_, fun k' e => absurd e (by omega), ?_⟩
      · have e := h1.2 j hj
        unfold sub3 dn1
        by_cases c : j = k
        · subst c; rw [if_pos rfl, if_pos rfl]; omega
        · rw [if_neg c, if_neg c]; exact e
      · have u := sn_up (f := fun j => dn1 t k j + r j) hk
        have e : up1 (fun j => dn1 t k j + r j) k = fun j => t j + r j := by
          funext j
          unfold up1 dn1
          dsimp only
          by_cases c : j = k
          · rw [if_pos c, if_pos c]; rw [c]; omega
          · rw [if_neg c, if_neg c]
        rw [e] at u
        omega
      · rw [List.append_assoc]
        rw [← eu, flt_three hk (fun j hj => ⟨by unfold dn1; rw [if_neg (by omega)]; exact (below j hj).1, (below j hj).2⟩)] at h4
        exact h4
  · rintro (⟨⟨g1, g2⟩, t, r, h1, h2, h3, h4⟩ | ⟨⟨g1, g2, g3⟩, t, r, h1, h2, h3, h4⟩)
    · have below : ∀ j, j < k → t j = 0 ∧ r j = 0 := fun j hj => h1.z (by omega) (by unfold sub3; rw [if_neg (by omega)]; exact hz j hj)
      refine ⟨up1 t k, r, ⟨h1.1, fun j hj => ?_⟩, ?_, fun k' e => ?_, ?_⟩
      · have e := h1.2 j hj
        unfold sub3 at e
        unfold up1
        by_cases c : j = k
        · subst c; rw [if_pos rfl] at e; rw [if_pos rfl]; omega
        · rw [if_neg c] at e; rw [if_neg c]; exact e
      · have u := sn_up (f := fun j => t j + r j) hk
        have e : up1 (fun j => t j + r j) k = fun j => up1 t k j + r j := by
          funext j
          unfold up1
          try dsimp only
          by_cases c : j = k
          · rw [if_pos c, if_pos c]; omega
          · rw [if_neg c, if_neg c]
        rw [e] at u
        omega
      · have : k' < k := by omega
        unfold up1
        rw [if_neg (by omega)]
        exact (below k' this).1
      · rw [flt_three hk below]
        rw [List.append_assoc] at h4
        exact h4
    · have below : ∀ j, j < k → t j = 0 ∧ r j = 0 := fun j hj => h1.z (by omega) (by unfold subr; rw [if_neg (by omega)]; exact hz j hj)
      have ht := h3 k rfl
      refine ⟨t, up1 r k, ⟨fun j hj => ?_, fun j hj => ?_⟩, ?_, fun k' e => ?_, ?_⟩
      · by_cases c : j = k
        · rw [c]; exact g1
        · exact h1.1 j (by unfold up1 at hj; rw [if_neg c] at hj; exact hj)
      · have e := h1.2 j hj
        unfold subr at e
        rw [sh1_up, sh2_up]
        unfold up1
        by_cases c0 : j = k
        · subst c0
          rw [if_pos (Or.inl rfl)] at e
          rw [if_pos rfl, if_neg (by omega), if_neg (by omega)]
          omega
        · rw [if_neg c0]
          by_cases c1 : j = k + 1
          · rw [if_pos (Or.inr (Or.inl c1))] at e
            rw [if_pos c1, if_neg (by omega)]
            rw [← c1] at g2
            omega
          · by_cases c2 : j = k + 2
            · rw [if_pos (Or.inr (Or.inr c2))] at e
              rw [if_neg c1, if_pos c2]
              rw [← c2] at g3
              omega
            · rw [if_neg (by omega)] at e
              rw [if_neg c1, if_neg c2]
              omega
      · have u := sn_up (f := fun j => t j + r j) hk
        have e : up1 (fun j => t j + r j) k = fun j => t j + up1 r k j := by
          funext j
          unfold up1
          try dsimp only
          by_cases c : j = k
          · rw [if_pos c, if_pos c]; omega
          · rw [if_neg c, if_neg c]
        rw [e] at u
        omega
      · by_cases c : k' = k
        · rw [c]; exact ht
        · exact (below k' (by omega)).1
      · rw [flt_run hk below ht]
        rw [List.append_assoc] at h4
        exact h4
