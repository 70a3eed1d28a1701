/-! the relation is kept: discard, the hand -/
set_option maxRecDepth 8000
/-- one SEAT has one tile more or less -/
theorem sum4 {a b : Nat → Nat} {t : Nat} (ht : t < 4) (h : ∀ s, s < 4 → s ≠ t → b s = a s) : b 0 + b 1 + b 2 + b 3 + a t = a 0 + a 1 + a 2 + a 3 + b t := by
  obtain rfl | rfl | rfl | rfl : t = 0 ∨ t = 1 ∨ t = 2 ∨ t = 3 := by omega
  · rw [h 1 (by omega) (by omega), h 2 (by omega) (by omega), h 3 (by omega) (by omega)]; omega
  · rw [h 0 (by omega) (by omega), h 2 (by omega) (by omega), h 3 (by omega) (by omega)]; omega
  · rw [h 0 (by omega) (by omega), h 1 (by omega) (by omega), h 3 (by omega) (by omega)]; omega
  · rw [h 0 (by omega) (by omega), h 1 (by omega) (by omega), h 2 (by omega) (by omega)]; omega
theorem fW_cg {m m' : zM} (h : ∀ i, m'.1 59 i = m.1 59 i) : fW m' = fW m := funext h
theorem nI_m9 {n : Nat} (h : 1 ≤ n) : nI n + -1 = nI (n - 1) := by
  obtain ⟨k, rfl⟩ : ∃ k, n = k + 1 := ⟨n - 1, by omega⟩
  rw [nI_m1]; rfl
theorem rp_discard0 {x m : zM} {t k q c : Nat} (P : RPh x m 1 t c) (hk : k < 34) (hq : q < 86) (e66 : m.1 66 t = nI q) (ha : ¬ x.1 (21 + 8 * t) k = 0) : RPh (dX0 x t k q) (dY0 m t k q) 2 t k := by
  have ht := P.t4
  have hne : ¬ k = 34 := by omega
  unfold dX0 dY0 tT pS z_giv
  exact ⟨(by simp (disch := omega) only [ui_s, uj_s, ui_o, ui_k, uj_o, uj_k, ui_j, uj_i]; exact P.fo), (by simp (disch := omega) only [ui_s, uj_s, ui_o, ui_k, uj_o, uj_k, ui_j, uj_i]; rfl), (by simp (disch := omega) only [ui_s, uj_s, ui_o, ui_k, uj_o, uj_k, ui_j, uj_i]; rfl), (by simp (disch := omega) only [ui_s, uj_s, ui_o, ui_k, uj_o, uj_k, ui_j, uj_i]; exact P.tx), (by simp (disch := omega) only [ui_s, uj_s, ui_o, ui_k, uj_o, uj_k, ui_j, uj_i]; exact P.tm), ht, Or.inr (Or.inl rfl), (by simp (disch := omega) only [ui_s, uj_s, ui_o, ui_k, uj_o, uj_k, ui_j, uj_i]; rw [if_neg hne]), (by simp (disch := omega) only [ui_s, uj_s, ui_o, ui_k, uj_o, uj_k, ui_j, uj_i]; rw [if_neg hne]), Or.inl hk, fun z => absurd z (by decide), (by simp (disch := omega) only [ui_s, uj_s, ui_o, ui_k, uj_o, uj_k, ui_j, uj_i]; exact P.br), (by simp (disch := omega) only [ui_s, uj_s, ui_o, ui_k, uj_o, uj_k, ui_j, uj_i]; exact P.us), fun z => absurd z (by decide), fun z => absurd z (by decide), fun z => absurd z (by decide), fun z => absurd z (by decide), fun z => absurd z (by decide), (fun s h0 => by
      by_cases e : s = t
      · subst e; rw [if_pos rfl]; simp (disch := omega) only [ui_s, uj_s, ui_o, ui_k, uj_o, uj_k, ui_j, uj_i]
      · simp (disch := omega) only [ui_s, uj_s, ui_o, ui_k, uj_o, uj_k, ui_j, uj_i]; rw [if_neg e]; have z := P.ow s h0; rw [if_neg e] at z; exact z), fun z => absurd rfl z, (by simp (disch := omega) only [ui_s, uj_s, ui_o, ui_k, uj_o, uj_k, ui_j, uj_i]; exact P.is), (by simp (disch := omega) only [ui_s, uj_s, ui_o, ui_k, uj_o, uj_k, ui_j, uj_i]; exact P.s0), fun z => absurd z (by decide), (by simp (disch := omega) only [ui_s, uj_s, ui_o, ui_k, uj_o, uj_k, ui_j, uj_i]; exact P.w0), fun s h0 => by simp (disch := omega) only [ui_s, uj_s, ui_o, ui_k, uj_o, uj_k, ui_j, uj_i]; exact P.dn s h0, (fun z s h0 => by
      simp (disch := omega) only [ui_s, uj_s, ui_o, ui_k, uj_o, uj_k, ui_j, uj_i] at z
      have y := P.dr z s h0
      rw [if_neg (by omega)]
      by_cases e : s = t
      · subst e
        rw [if_pos ⟨rfl, rfl⟩] at y
        simp (disch := omega) only [ui_s, uj_s, ui_o, ui_k, uj_o, uj_k, ui_j, uj_i]
        rw [y, e66, nI_s1]
      · rw [if_neg (by omega)] at y
        simp (disch := omega) only [ui_s, uj_s, ui_o, ui_k, uj_o, uj_k, ui_j, uj_i]
        exact y), fun _ z => absurd z (by decide), (P.tc.elim fun a z => by
      have h1 : 1 ≤ a t k := Nat.pos_of_ne_zero (fun y => ha (by rw [z.1 t k ht hk, y]; rfl))
      refine ⟨fun s k2 => if s = t ∧ k2 = k then a s k2 - 1 else a s k2, fun s k2 h0 h2 => ?_, fun k2 h2 => ?_⟩
      · by_cases e : s = t
        · subst e
          by_cases e2 : k2 = k
          · subst e2; simp (disch := omega) only [ui_s, uj_s, ui_o, ui_k, uj_o, uj_k, ui_j, uj_i]; rw [z.1 s k2 h0 h2]; simp only [and_self, if_true]; exact nI_m9 h1
          · simp (disch := omega) only [ui_s, uj_s, ui_o, ui_k, uj_o, uj_k, ui_j, uj_i]; rw [if_neg (by omega)]; exact z.1 s k2 h0 h2
        · simp (disch := omega) only [ui_s, uj_s, ui_o, ui_k, uj_o, uj_k, ui_j, uj_i]; rw [if_neg (by omega)]; exact z.1 s k2 h0 h2
      · have y := z.2 k2 h2
        rw [if_neg (by omega)] at y
        rw [fW_cg (m := m) (fun i => by simp (disch := omega) only [ui_s, uj_s, ui_o, ui_k, uj_o, uj_k, ui_j, uj_i])]
        simp (disch := omega) only [ui_s, uj_s, ui_o, ui_k, uj_o, uj_k, ui_j, uj_i]
        have w := sum4 (a := fun s => a s k2) (b := fun s => if s = t ∧ k2 = k then a s k2 - 1 else a s k2) ht (fun s _ e => by rw [if_neg (by omega)])
        by_cases e : k2 = k
        · subst e
          simp only [true_and, and_true, if_pos] at w ⊢
          omega
        · have e9 : ¬ k = k2 := fun q => e q.symm
          simp only [e, e9, and_false, true_and, if_false] at w ⊢
          omega)⟩
theorem rp_discard1 {x m : zM} {t k q c : Nat} (P : RPh x m 1 t c) (hk : k < 34) (hq : q < 86) (e66 : m.1 66 t = nI q) (ha : ¬ x.1 (21 + 8 * t) k = 0) {bv : Int32} : RPh (dX1 x t k q bv) (dY1 m t k q bv) 2 t k := by
  have ht := P.t4
  have hne : ¬ k = 34 := by omega
  unfold dX1 dY1 tT pS z_giv
  exact ⟨(by simp (disch := omega) only [ui_s, uj_s, ui_o, ui_k, uj_o, uj_k, ui_j, uj_i]; exact P.fo), (by simp (disch := omega) only [ui_s, uj_s, ui_o, ui_k, uj_o, uj_k, ui_j, uj_i]; rfl), (by simp (disch := omega) only [ui_s, uj_s, ui_o, ui_k, uj_o, uj_k, ui_j, uj_i]; rfl), (by simp (disch := omega) only [ui_s, uj_s, ui_o, ui_k, uj_o, uj_k, ui_j, uj_i]; exact P.tx), (by simp (disch := omega) only [ui_s, uj_s, ui_o, ui_k, uj_o, uj_k, ui_j, uj_i]; exact P.tm), ht, Or.inr (Or.inl rfl), (by simp (disch := omega) only [ui_s, uj_s, ui_o, ui_k, uj_o, uj_k, ui_j, uj_i]; rw [if_neg hne]), (by simp (disch := omega) only [ui_s, uj_s, ui_o, ui_k, uj_o, uj_k, ui_j, uj_i]; rw [if_neg hne]), Or.inl hk, fun z => absurd z (by decide), (by simp (disch := omega) only [ui_s, uj_s, ui_o, ui_k, uj_o, uj_k, ui_j, uj_i]; exact P.br), (by simp (disch := omega) only [ui_s, uj_s, ui_o, ui_k, uj_o, uj_k, ui_j, uj_i]; exact P.us), fun z => absurd z (by decide), fun z => absurd z (by decide), fun z => absurd z (by decide), fun z => absurd z (by decide), fun z => absurd z (by decide), (fun s h0 => by
      by_cases e : s = t
      · subst e; rw [if_pos rfl]; simp (disch := omega) only [ui_s, uj_s, ui_o, ui_k, uj_o, uj_k, ui_j, uj_i]
      · simp (disch := omega) only [ui_s, uj_s, ui_o, ui_k, uj_o, uj_k, ui_j, uj_i]; rw [if_neg e]; have z := P.ow s h0; rw [if_neg e] at z; exact z), fun z => absurd rfl z, (by simp (disch := omega) only [ui_s, uj_s, ui_o, ui_k, uj_o, uj_k, ui_j, uj_i]; exact P.is), (by simp (disch := omega) only [ui_s, uj_s, ui_o, ui_k, uj_o, uj_k, ui_j, uj_i]; exact P.s0), fun z => absurd z (by decide), (by simp (disch := omega) only [ui_s, uj_s, ui_o, ui_k, uj_o, uj_k, ui_j, uj_i]; exact P.w0), fun s h0 => by simp (disch := omega) only [ui_s, uj_s, ui_o, ui_k, uj_o, uj_k, ui_j, uj_i]; exact P.dn s h0, (fun z s h0 => by
      simp (disch := omega) only [ui_s, uj_s, ui_o, ui_k, uj_o, uj_k, ui_j, uj_i] at z
      have y := P.dr z s h0
      rw [if_neg (by omega)]
      by_cases e : s = t
      · subst e
        rw [if_pos ⟨rfl, rfl⟩] at y
        simp (disch := omega) only [ui_s, uj_s, ui_o, ui_k, uj_o, uj_k, ui_j, uj_i]
        rw [y, e66, nI_s1]
      · rw [if_neg (by omega)] at y
        simp (disch := omega) only [ui_s, uj_s, ui_o, ui_k, uj_o, uj_k, ui_j, uj_i]
        exact y), fun _ z => absurd z (by decide), (P.tc.elim fun a z => by
      have h1 : 1 ≤ a t k := Nat.pos_of_ne_zero (fun y => ha (by rw [z.1 t k ht hk, y]; rfl))
      refine ⟨fun s k2 => if s = t ∧ k2 = k then a s k2 - 1 else a s k2, fun s k2 h0 h2 => ?_, fun k2 h2 => ?_⟩
      · by_cases e : s = t
        · subst e
          by_cases e2 : k2 = k
          · subst e2; simp (disch := omega) only [ui_s, uj_s, ui_o, ui_k, uj_o, uj_k, ui_j, uj_i]; rw [z.1 s k2 h0 h2]; simp only [and_self, if_true]; exact nI_m9 h1
          · simp (disch := omega) only [ui_s, uj_s, ui_o, ui_k, uj_o, uj_k, ui_j, uj_i]; rw [if_neg (by omega)]; exact z.1 s k2 h0 h2
        · simp (disch := omega) only [ui_s, uj_s, ui_o, ui_k, uj_o, uj_k, ui_j, uj_i]; rw [if_neg (by omega)]; exact z.1 s k2 h0 h2
      · have y := z.2 k2 h2
        rw [if_neg (by omega)] at y
        rw [fW_cg (m := m) (fun i => by simp (disch := omega) only [ui_s, uj_s, ui_o, ui_k, uj_o, uj_k, ui_j, uj_i])]
        simp (disch := omega) only [ui_s, uj_s, ui_o, ui_k, uj_o, uj_k, ui_j, uj_i]
        have w := sum4 (a := fun s => a s k2) (b := fun s => if s = t ∧ k2 = k then a s k2 - 1 else a s k2) ht (fun s _ e => by rw [if_neg (by omega)])
        by_cases e : k2 = k
        · subst e
          simp only [true_and, and_true, if_pos] at w ⊢
          omega
        · have e9 : ¬ k = k2 := fun q => e q.symm
          simp only [e, e9, and_false, true_and, if_false] at w ⊢
          omega)⟩
