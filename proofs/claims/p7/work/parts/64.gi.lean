/-! what holds of the model's game between calls -/
def hI (μ : zM) (j : Nat) : Int := (μ.1 60 j).toInt
def mI (μ : zM) (s : Nat) : Int := (μ.1 64 s).toInt
def rI (μ : zM) (s : Nat) : Int := (μ.1 66 s).toInt
def si (f : Nat → Int) : Nat → Int
  | 0 => 0
  | n + 1 => si f n + f n
def hs (μ : zM) (s : Nat) : Int := si (fun k => hI μ (34 * s + k)) 34
theorem si_congr {f g : Nat → Int} {n : Nat} (h : ∀ k, k < n → g k = f k) : si g n = si f n := by
  induction n with
  | zero => rfl
  | succ n ih =>
    show si g n + g n = si f n + f n
    rw [ih (fun k hk => h k (by omega)), h n (by omega)]
theorem si_upd {f g : Nat → Int} {c n : Nat} (hc : c < n) (h : ∀ k, k < n → k ≠ c → g k = f k) : si g n = si f n + (g c - f c) := by
  induction n with
  | zero => omega
  | succ n ih =>
    show si g n + g n = si f n + f n + (g c - f c)
    by_cases e : c = n
    · subst e
      rw [si_congr (fun k hk => h k (by omega) (by omega))]
      omega
    · rw [ih (by omega) (fun k hk => h k (by omega)), h n (by omega) (by omega)]
      omega
theorem si_nn {f : Nat → Int} {n : Nat} (h : ∀ k, k < n → 0 ≤ f k) : 0 ≤ si f n := by
  induction n with
  | zero => exact Int.le_refl _
  | succ n ih =>
    show 0 ≤ si f n + f n
    have := ih (fun k hk => h k (by omega))
    have := h n (by omega)
    omega
theorem si_le {f : Nat → Int} {c n : Nat} (h : ∀ k, k < n → 0 ≤ f k) (hc : c < n) : f c ≤ si f n := by
  induction n with
  | zero => omega
  | succ n ih =>
    show f c ≤ si f n + f n
    by_cases e : c = n
    · subst e
      have := si_nn (n := c) (fun k hk => h k (by omega))
      omega
    · have := ih (fun k hk => h k (by omega)) (by omega)
      have := h n (by omega)
      omega
/-- one kind of one hand changes by n -/
def HR (μ μ' : zM) (a c : Nat) (n : Int) : Prop := hI μ' (34 * a + c) = hI μ (34 * a + c) + n ∧ ∀ j, j ≠ 34 * a + c → hI μ' j = hI μ j
theorem HR.sum {μ μ' : zM} {a c : Nat} {n : Int} (h : HR μ μ' a c n) (hc : c < 34) : hs μ' a = hs μ a + n := by
  unfold hs
  rw [si_upd (f := fun k => hI μ (34 * a + k)) hc (fun k hk hne => h.2 _ (by omega)), h.1]
  omega
theorem HR.sum' {μ μ' : zM} {a c s : Nat} {n : Int} (h : HR μ μ' a c n) (hc : c < 34) (hne : s ≠ a) : hs μ' s = hs μ s := by
  unfold hs
  exact si_congr (fun k hk => h.2 _ (by omega))
theorem hs_row {μ μ' : zM} (h : ∀ j, μ'.1 60 j = μ.1 60 j) : hs μ' = hs μ := by
  funext s
  unfold hs hI
  exact si_congr (fun k _ => by rw [h])
/-- the hands are no less than nothing; with the SETS no more than lim -/
def GH (μ : zM) (lim : Nat → Int) : Prop := (∀ j, j < 136 → 0 ≤ hI μ j) ∧ ∀ s, s < 4 → hs μ s + 3 * mI μ s ≤ lim s
theorem GH.le {μ : zM} {lim : Nat → Int} (h : GH μ lim) {a c : Nat} (ha : a < 4) (hc : c < 34) : hI μ (34 * a + c) ≤ hs μ a := si_le (f := fun k => hI μ (34 * a + k)) (fun k hk => h.1 _ (by omega)) hc
theorem GH.keep {μ μ' : zM} {lim : Nat → Int} (h : GH μ lim) (h1 : ∀ j, μ'.1 60 j = μ.1 60 j) (h2 : ∀ j, μ'.1 64 j = μ.1 64 j) : GH μ' lim := by
  refine ⟨fun j hj => ?_, fun s hs4 => ?_⟩
  · unfold hI; rw [h1]; exact h.1 j hj
  · rw [hs_row h1]; unfold mI; rw [h2]; exact h.2 s hs4
/-- a hand gets or gives -/
theorem HR_of {μ μ' : zM} {lim : Nat → Int} {a c : Nat} {n : Int32} (h : GH μ lim) (hl : ∀ s, s < 4 → lim s ≤ 14) (hm : ∀ s, s < 4 → 0 ≤ mI μ s) (ha : a < 4) (hc : c < 34) (hn : -4 ≤ n.toInt ∧ n.toInt ≤ 4) (e : ∀ j, μ'.1 60 j = if j = 34 * a + c then μ.1 60 j + n else μ.1 60 j) : HR μ μ' a c n.toInt := by
  have q := h.le ha hc
  have q2 := h.2 a ha
  have q3 := h.1 (34 * a + c) (by omega)
  have q4 := hl a ha
  have q5 := hm a ha
  refine ⟨?_, fun j hj => by unfold hI; rw [e, if_neg hj]⟩
  show (μ'.1 60 (34 * a + c)).toInt = _
  rw [e, if_pos rfl]
  have b : bI (hI μ (34 * a + c) + n.toInt) (hI μ (34 * a + c) + n.toInt) (μ.1 60 (34 * a + c) + n) := bI_add rfl (a := hI μ (34 * a + c)) (b := hI μ (34 * a + c)) ⟨Int.le_refl _, Int.le_refl _⟩ (c := n.toInt) (d := n.toInt) ⟨Int.le_refl _, Int.le_refl _⟩ ⟨by omega, by omega, by omega, by omega⟩
  have := b.1
  have := b.2
  omega
theorem GH.upd {μ μ' : zM} {lim lim' : Nat → Int} {a c : Nat} {n : Int} (h : GH μ lim) (hr : HR μ μ' a c n) (ha : a < 4) (hc : c < 34) (h0 : 0 ≤ hI μ (34 * a + c) + n) (h1 : ∀ s, s < 4 → s ≠ a → mI μ' s = mI μ s) (h2 : hs μ a + n + 3 * mI μ' a ≤ lim' a) (h3 : ∀ s, s < 4 → s ≠ a → lim s ≤ lim' s) : GH μ' lim' := by
  refine ⟨fun j hj => ?_, fun s hs4 => ?_⟩
  · by_cases e : j = 34 * a + c
    · rw [e, hr.1]; exact h0
    · rw [hr.2 j e]; exact h.1 j hj
  · by_cases e : s = a
    · subst e
      rw [hr.sum hc]; exact h2
    · rw [hr.sum' hc e, h1 s hs4 e]
      have := h.2 s hs4
      have := h3 s hs4 e
      omega
def glim (μ : zM) (s : Nat) : Int := if μ.1 50 44 = 1 ∧ μ.1 50 45 = nI s then 14 else 13
def sM (μ : zM) : Int := mI μ 0 + mI μ 1 + mI μ 2 + mI μ 3
def sR (μ : zM) : Int := rI μ 0 + rI μ 1 + rI μ 2 + rI μ 3
def GP (μ : zM) : Prop := GH μ (glim μ) ∧ (μ.1 50 46).toInt + (μ.1 50 47).toInt ≤ 122 ∧ μ.1 50 48 = μ.1 50 47 ∧ (μ.1 50 44 = 3 → (μ.1 50 46).toInt + (μ.1 50 47).toInt < 122 ∧ (μ.1 50 47).toInt < 4) ∧ ((μ.1 50 44 = 1 → μ.1 50 57 = 0) → 0 ≤ (μ.1 50 49).toInt) ∧ sR μ + (if μ.1 50 44 = 1 then 1 else 0) + 52 ≤ (μ.1 50 46).toInt + (μ.1 50 48).toInt + sM μ
def GI (μ : zM) : Prop := a_H μ ∧ GW μ ∧ (¬ μ.1 50 44 = 0 → GP μ)
/-- what leaves the game's own cells alone keeps it -/
theorem GP.keep {md : List (Nat × Nat)} {μ μ' : zM} (h : GP μ) (hz : a_Fz md μ μ') (hm : (md.all (fun q => !(Nat.beq q.1 60 || Nat.beq q.1 64 || Nat.beq q.1 66 || (Nat.beq q.1 50 && (Nat.beq q.2 9999 || (Nat.ble 44 q.2 && Nat.ble q.2 49) || Nat.beq q.2 57))))) = true) : GP μ' := by
  have row : ∀ r, (r = 60 ∨ r = 64 ∨ r = 66) → ∀ k, μ'.1 r k = μ.1 r k := by
    intro r hr k
    refine a_Fz_at hz r k (a_md_row (List.all_eq_true.mpr fun q hq => ?_))
    have := List.all_eq_true.mp hm q hq
    cases e : Nat.beq q.1 r with
    | false => rfl
    | true =>
      exfalso
      rw [z_beq e] at this
      rcases hr with rfl | rfl | rfl <;> simp at this
  have cel : ∀ k, ((44 ≤ k ∧ k ≤ 49) ∨ k = 57) → μ'.1 50 k = μ.1 50 k := by
    intro k hk
    refine a_Fz_at hz 50 k ?_
    unfold a_md
    rw [List.any_eq_false]
    intro q hq hb
    have := List.all_eq_true.mp hm q hq
    obtain ⟨b1, b2⟩ := z_and hb
    have b1 := z_beq b1
    rw [Bool.or_eq_true] at b2
    rw [b1] at this
    rcases b2 with b2 | b2
    · rw [z_beq b2] at this
      rcases hk with hk | hk
      · have e1 : Nat.ble 44 k = true := Nat.ble_eq.mpr hk.1
        have e2 : Nat.ble k 49 = true := Nat.ble_eq.mpr hk.2
        rw [e1, e2] at this
        simp at this
      · rw [hk] at this
        simp at this
    · rw [b2] at this
      simp at this
  obtain ⟨h1, h2, h3, h4, h5, h6⟩ := h
  have c44 := cel 44 (by omega)
  have c45 := cel 45 (by omega)
  have c46 := cel 46 (by omega)
  have c47 := cel 47 (by omega)
  have c48 := cel 48 (by omega)
  have c49 := cel 49 (by omega)
  have c57 := cel 57 (by omega)
  have eM : sM μ' = sM μ := by unfold sM mI; simp only [row 64 (by omega)]
  have eR : sR μ' = sR μ := by unfold sR rI; simp only [row 66 (by omega)]
  have eL : glim μ' = glim μ := by funext s; unfold glim; rw [c44, c45]
  unfold GP
  rw [c44, c46, c47, c48, c49, c57, eM, eR, eL]
  exact ⟨h1.keep (row 60 (by omega)) (row 64 (by omega)), h2, h3, h4, h5, h6⟩
