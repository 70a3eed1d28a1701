/-! the first draw of a hand -/
set_option maxRecDepth 8000
theorem rp_first {x m : zM} (R : RCl x m) {t k : Nat} (ht : t < 4) (hk : k < 34) (hbr : x.1 0 17 = 0) (h56 : m.1 50 56 = 1) (hus : ∀ s, s < 4 → m.1 64 s = 0) (how : ∀ s, s < 4 → x.1 (18 + 8 * s) 6 = 0) (ho1 : m.1 50 59 = 0) (his : m.1 50 55 = 1) (hs1 : ∀ s, s < 4 → m.1 71 s = 0) (hw0 : m.1 50 53 = 0) (h68 : ∀ s, s < 4 → m.1 68 s = 0) (h66 : ∀ s, s < 4 → m.1 66 s = 0) (h46 : m.1 50 46 = nI 52) (h48 : m.1 50 48 = nI 0) (h40 : m.1 50 40 = nI t) (htc : TC x m (fun _ => 0)) (hfo : x.1 2 3 = m.1 50 47) (hw : m.1 59 52 = nI k) (hh : ¬ m.1 60 (34 * t + k) = -1) : RPh (dT0 x t 52 k) (dM0 m t 52 k) 1 t k := by
  have e5 := R.be t ht
  have hne : ¬ k = 34 := by omega
  have hnI1 : (nI (52 + 1)).toInt = 53 := by decide
  have h48I : (nI 0).toInt = 0 := by decide
  unfold dT0 dM0 pS z_giv
  rw [e5]
  cases hb : decide (m.1 67 t = 0) with
  | true =>
    rw [cond_true, cond_true]
    exact ⟨(by simp (disch := first | decide | exact ad_ne (by decide) | exact ad_m (by decide) | exact ad_l (by decide) | exact ad_g (by decide) | exact ad_lt (by decide) | exact ad_o (by decide) | omega) only [↓ui_s, ↓uj_s, ↓ui_o, ↓ui_k, ↓uj_o, ↓uj_k, ↓ui_j, ↓uj_i, ui_s, uj_s, ui_o, ui_k, uj_o, uj_k, ui_j, uj_i]; exact hfo), (by simp (disch := first | decide | exact ad_ne (by decide) | exact ad_m (by decide) | exact ad_l (by decide) | exact ad_g (by decide) | exact ad_lt (by decide) | exact ad_o (by decide) | omega) only [↓ui_s, ↓uj_s, ↓ui_o, ↓ui_k, ↓uj_o, ↓uj_k, ↓ui_j, ↓uj_i, ui_s, uj_s, ui_o, ui_k, uj_o, uj_k, ui_j, uj_i]; rfl), (by simp (disch := first | decide | exact ad_ne (by decide) | exact ad_m (by decide) | exact ad_l (by decide) | exact ad_g (by decide) | exact ad_lt (by decide) | exact ad_o (by decide) | omega) only [↓ui_s, ↓uj_s, ↓ui_o, ↓ui_k, ↓uj_o, ↓uj_k, ↓ui_j, ↓uj_i, ui_s, uj_s, ui_o, ui_k, uj_o, uj_k, ui_j, uj_i]; rfl), (by simp (disch := first | decide | exact ad_ne (by decide) | exact ad_m (by decide) | exact ad_l (by decide) | exact ad_g (by decide) | exact ad_lt (by decide) | exact ad_o (by decide) | omega) only [↓ui_s, ↓uj_s, ↓ui_o, ↓ui_k, ↓uj_o, ↓uj_k, ↓ui_j, ↓uj_i, ui_s, uj_s, ui_o, ui_k, uj_o, uj_k, ui_j, uj_i]), (by simp (disch := first | decide | exact ad_ne (by decide) | exact ad_m (by decide) | exact ad_l (by decide) | exact ad_g (by decide) | exact ad_lt (by decide) | exact ad_o (by decide) | omega) only [↓ui_s, ↓uj_s, ↓ui_o, ↓ui_k, ↓uj_o, ↓uj_k, ↓ui_j, ↓uj_i, ui_s, uj_s, ui_o, ui_k, uj_o, uj_k, ui_j, uj_i]), ht, Or.inl rfl, (by simp (disch := first | decide | exact ad_ne (by decide) | exact ad_m (by decide) | exact ad_l (by decide) | exact ad_g (by decide) | exact ad_lt (by decide) | exact ad_o (by decide) | omega) only [↓ui_s, ↓uj_s, ↓ui_o, ↓ui_k, ↓uj_o, ↓uj_k, ↓ui_j, ↓uj_i, ui_s, uj_s, ui_o, ui_k, uj_o, uj_k, ui_j, uj_i]; rw [if_neg hne]), (by simp (disch := first | decide | exact ad_ne (by decide) | exact ad_m (by decide) | exact ad_l (by decide) | exact ad_g (by decide) | exact ad_lt (by decide) | exact ad_o (by decide) | omega) only [↓ui_s, ↓uj_s, ↓ui_o, ↓ui_k, ↓uj_o, ↓uj_k, ↓ui_j, ↓uj_i, ui_s, uj_s, ui_o, ui_k, uj_o, uj_k, ui_j, uj_i]; rw [if_neg hne]), Or.inl hk, fun _ => by simp (disch := first | decide | exact ad_ne (by decide) | exact ad_m (by decide) | exact ad_l (by decide) | exact ad_g (by decide) | exact ad_lt (by decide) | exact ad_o (by decide) | omega) only [↓ui_s, ↓uj_s, ↓ui_o, ↓ui_k, ↓uj_o, ↓uj_k, ↓ui_j, ↓uj_i, ui_s, uj_s, ui_o, ui_k, uj_o, uj_k, ui_j, uj_i]; rw [if_neg hne], (by simp (disch := first | decide | exact ad_ne (by decide) | exact ad_m (by decide) | exact ad_l (by decide) | exact ad_g (by decide) | exact ad_lt (by decide) | exact ad_o (by decide) | omega) only [↓ui_s, ↓uj_s, ↓ui_o, ↓ui_k, ↓uj_o, ↓uj_k, ↓ui_j, ↓uj_i, ui_s, uj_s, ui_o, ui_k, uj_o, uj_k, ui_j, uj_i]; rw [hbr, h56]; rfl), fun _ s h0 => by simp (disch := first | decide | exact ad_ne (by decide) | exact ad_m (by decide) | exact ad_l (by decide) | exact ad_g (by decide) | exact ad_lt (by decide) | exact ad_o (by decide) | omega) only [↓ui_s, ↓uj_s, ↓ui_o, ↓ui_k, ↓uj_o, ↓uj_k, ↓ui_j, ↓uj_i, ui_s, uj_s, ui_o, ui_k, uj_o, uj_k, ui_j, uj_i]; exact hus s h0, fun _ _ => by simp (disch := first | decide | exact ad_ne (by decide) | exact ad_m (by decide) | exact ad_l (by decide) | exact ad_g (by decide) | exact ad_lt (by decide) | exact ad_o (by decide) | omega) only [↓ui_s, ↓uj_s, ↓ui_o, ↓ui_k, ↓uj_o, ↓uj_k, ↓ui_j, ↓uj_i, ui_s, uj_s, ui_o, ui_k, uj_o, uj_k, ui_j, uj_i], fun _ => by unfold barM; simp (disch := first | decide | exact ad_ne (by decide) | exact ad_m (by decide) | exact ad_l (by decide) | exact ad_g (by decide) | exact ad_lt (by decide) | exact ad_o (by decide) | omega) only [↓ui_s, ↓uj_s, ↓ui_o, ↓ui_k, ↓uj_o, ↓uj_k, ↓ui_j, ↓uj_i, ui_s, uj_s, ui_o, ui_k, uj_o, uj_k, ui_j, uj_i]; rfl, fun _ e => absurd e (by omega), fun _ _ => by simp (disch := first | decide | exact ad_ne (by decide) | exact ad_m (by decide) | exact ad_l (by decide) | exact ad_g (by decide) | exact ad_lt (by decide) | exact ad_o (by decide) | omega) only [↓ui_s, ↓uj_s, ↓ui_o, ↓ui_k, ↓uj_o, ↓uj_k, ↓ui_j, ↓uj_i, ui_s, uj_s, ui_o, ui_k, uj_o, uj_k, ui_j, uj_i]; exact v1_ne hh, fun z => absurd z (by decide), fun q => absurd rfl q, fun s h0 => by simp (disch := first | decide | exact ad_ne (by decide) | exact ad_m (by decide) | exact ad_l (by decide) | exact ad_g (by decide) | exact ad_lt (by decide) | exact ad_o (by decide) | omega) only [↓ui_s, ↓uj_s, ↓ui_o, ↓ui_k, ↓uj_o, ↓uj_k, ↓ui_j, ↓uj_i, ui_s, uj_s, ui_o, ui_k, uj_o, uj_k, ui_j, uj_i]; rw [how s h0, ho1]; split <;> rfl, fun _ => by simp (disch := first | decide | exact ad_ne (by decide) | exact ad_m (by decide) | exact ad_l (by decide) | exact ad_g (by decide) | exact ad_lt (by decide) | exact ad_o (by decide) | omega) only [↓ui_s, ↓uj_s, ↓ui_o, ↓ui_k, ↓uj_o, ↓uj_k, ↓ui_j, ↓uj_i, ui_s, uj_s, ui_o, ui_k, uj_o, uj_k, ui_j, uj_i]; exact ho1, (by simp (disch := first | decide | exact ad_ne (by decide) | exact ad_m (by decide) | exact ad_l (by decide) | exact ad_g (by decide) | exact ad_lt (by decide) | exact ad_o (by decide) | omega) only [↓ui_s, ↓uj_s, ↓ui_o, ↓ui_k, ↓uj_o, ↓uj_k, ↓ui_j, ↓uj_i, ui_s, uj_s, ui_o, ui_k, uj_o, uj_k, ui_j, uj_i]; exact his), (by simp (disch := first | decide | exact ad_ne (by decide) | exact ad_m (by decide) | exact ad_l (by decide) | exact ad_g (by decide) | exact ad_lt (by decide) | exact ad_o (by decide) | omega) only [↓ui_s, ↓uj_s, ↓ui_o, ↓ui_k, ↓uj_o, ↓uj_k, ↓ui_j, ↓uj_i, ui_s, uj_s, ui_o, ui_k, uj_o, uj_k, ui_j, uj_i]; exact hs1 t ht), fun _ s h0 => by simp (disch := first | decide | exact ad_ne (by decide) | exact ad_m (by decide) | exact ad_l (by decide) | exact ad_g (by decide) | exact ad_lt (by decide) | exact ad_o (by decide) | omega) only [↓ui_s, ↓uj_s, ↓ui_o, ↓ui_k, ↓uj_o, ↓uj_k, ↓ui_j, ↓uj_i, ui_s, uj_s, ui_o, ui_k, uj_o, uj_k, ui_j, uj_i]; exact hs1 s h0, (by simp (disch := first | decide | exact ad_ne (by decide) | exact ad_m (by decide) | exact ad_l (by decide) | exact ad_g (by decide) | exact ad_lt (by decide) | exact ad_o (by decide) | omega) only [↓ui_s, ↓uj_s, ↓ui_o, ↓ui_k, ↓uj_o, ↓uj_k, ↓ui_j, ↓uj_i, ui_s, uj_s, ui_o, ui_k, uj_o, uj_k, ui_j, uj_i]; exact hw0), (fun s h0 => by
        by_cases e : s = t
        · subst e
          refine ⟨1, ?_, ?_, fun _ => Nat.le_refl _⟩
          · simp (disch := first | decide | exact ad_ne (by decide) | exact ad_m (by decide) | exact ad_l (by decide) | exact ad_g (by decide) | exact ad_lt (by decide) | exact ad_o (by decide) | omega) only [↓ui_s, ↓uj_s, ↓ui_o, ↓ui_k, ↓uj_o, ↓uj_k, ↓ui_j, ↓uj_i, ui_s, uj_s, ui_o, ui_k, uj_o, uj_k, ui_j, uj_i]; rw [h68 s h0]; rfl
          · simp (disch := first | decide | exact ad_ne (by decide) | exact ad_m (by decide) | exact ad_l (by decide) | exact ad_g (by decide) | exact ad_lt (by decide) | exact ad_o (by decide) | omega) only [↓ui_s, ↓uj_s, ↓ui_o, ↓ui_k, ↓uj_o, ↓uj_k, ↓ui_j, ↓uj_i, ui_s, uj_s, ui_o, ui_k, uj_o, uj_k, ui_j, uj_i]; rw [hnI1, h48, h48I]; decide
        · refine ⟨0, ?_, ?_, ?_⟩
          · simp (disch := first | decide | exact ad_ne (by decide) | exact ad_m (by decide) | exact ad_l (by decide) | exact ad_g (by decide) | exact ad_lt (by decide) | exact ad_o (by decide) | omega) only [↓ui_s, ↓uj_s, ↓ui_o, ↓ui_k, ↓uj_o, ↓uj_k, ↓ui_j, ↓uj_i, ui_s, uj_s, ui_o, ui_k, uj_o, uj_k, ui_j, uj_i]; rw [h68 s h0]; rfl
          · simp (disch := first | decide | exact ad_ne (by decide) | exact ad_m (by decide) | exact ad_l (by decide) | exact ad_g (by decide) | exact ad_lt (by decide) | exact ad_o (by decide) | omega) only [↓ui_s, ↓uj_s, ↓ui_o, ↓ui_k, ↓uj_o, ↓uj_k, ↓ui_j, ↓uj_i, ui_s, uj_s, ui_o, ui_k, uj_o, uj_k, ui_j, uj_i]; rw [hnI1, h48, h48I]; decide
          · simp (disch := first | decide | exact ad_ne (by decide) | exact ad_m (by decide) | exact ad_l (by decide) | exact ad_g (by decide) | exact ad_lt (by decide) | exact ad_o (by decide) | omega) only [↓ui_s, ↓uj_s, ↓ui_o, ↓ui_k, ↓uj_o, ↓uj_k, ↓ui_j, ↓uj_i, ui_s, uj_s, ui_o, ui_k, uj_o, uj_k, ui_j, uj_i]; intro z; exact absurd ((nI_eq (a := t) (b := s) (by omega) (by omega)).mp (h40.symm.trans z)).symm e), (fun z s h0 => by
        by_cases e : s = t
        · subst e
          rw [if_pos ⟨rfl, rfl⟩]
          simp (disch := first | decide | exact ad_ne (by decide) | exact ad_m (by decide) | exact ad_l (by decide) | exact ad_g (by decide) | exact ad_lt (by decide) | exact ad_o (by decide) | omega) only [↓ui_s, ↓uj_s, ↓ui_o, ↓ui_k, ↓uj_o, ↓uj_k, ↓ui_j, ↓uj_i, ui_s, uj_s, ui_o, ui_k, uj_o, uj_k, ui_j, uj_i]
          rw [h68 s h0, h66 s h0]
        · rw [if_neg (fun z => e z.2)]
          simp (disch := first | decide | exact ad_ne (by decide) | exact ad_m (by decide) | exact ad_l (by decide) | exact ad_g (by decide) | exact ad_lt (by decide) | exact ad_o (by decide) | omega) only [↓ui_s, ↓uj_s, ↓ui_o, ↓ui_k, ↓uj_o, ↓uj_k, ↓ui_j, ↓uj_i, ui_s, uj_s, ui_o, ui_k, uj_o, uj_k, ui_j, uj_i]
          rw [h68 s h0, h66 s h0]), fun z => absurd (show m.1 50 56 = 0 from by simp (disch := first | decide | exact ad_ne (by decide) | exact ad_m (by decide) | exact ad_l (by decide) | exact ad_g (by decide) | exact ad_lt (by decide) | exact ad_o (by decide) | omega) only [↓ui_s, ↓uj_s, ↓ui_o, ↓ui_k, ↓uj_o, ↓uj_k, ↓ui_j, ↓uj_i, ui_s, uj_s, ui_o, ui_k, uj_o, uj_k, ui_j, uj_i] at z; exact z) (by rw [h56]; decide), (htc.elim fun a z => by
        refine ⟨fun s k2 => if s = t ∧ k2 = k then a s k2 + 1 else a s k2, fun s k2 h0 h2 => ?_, fun k2 h2 => ?_⟩
        · by_cases e : s = t
          · subst e
            by_cases e2 : k2 = k
            · subst e2; simp (disch := first | decide | exact ad_ne (by decide) | exact ad_m (by decide) | exact ad_l (by decide) | exact ad_g (by decide) | exact ad_lt (by decide) | exact ad_o (by decide) | omega) only [↓ui_s, ↓uj_s, ↓ui_o, ↓ui_k, ↓uj_o, ↓uj_k, ↓ui_j, ↓uj_i, ui_s, uj_s, ui_o, ui_k, uj_o, uj_k, ui_j, uj_i]; rw [z.1 s k2 h0 h2]; simp only [and_self, if_true]; exact nI_s1 _
            · simp (disch := first | decide | exact ad_ne (by decide) | exact ad_m (by decide) | exact ad_l (by decide) | exact ad_g (by decide) | exact ad_lt (by decide) | exact ad_o (by decide) | omega) only [↓ui_s, ↓uj_s, ↓ui_o, ↓ui_k, ↓uj_o, ↓uj_k, ↓ui_j, ↓uj_i, ui_s, uj_s, ui_o, ui_k, uj_o, uj_k, ui_j, uj_i]; rw [if_neg (by omega)]; exact z.1 s k2 h0 h2
          · simp (disch := first | decide | exact ad_ne (by decide) | exact ad_m (by decide) | exact ad_l (by decide) | exact ad_g (by decide) | exact ad_lt (by decide) | exact ad_o (by decide) | omega) only [↓ui_s, ↓uj_s, ↓ui_o, ↓ui_k, ↓uj_o, ↓uj_k, ↓ui_j, ↓uj_i, ui_s, uj_s, ui_o, ui_k, uj_o, uj_k, ui_j, uj_i]; rw [if_neg (by omega)]; exact z.1 s k2 h0 h2
        · have y := z.2 k2 h2
          rw [if_neg (by omega), fW_cg (m := m) (fun i => by simp (disch := first | decide | exact ad_ne (by decide) | exact ad_m (by decide) | exact ad_l (by decide) | exact ad_g (by decide) | exact ad_lt (by decide) | exact ad_o (by decide) | omega) only [↓ui_s, ↓uj_s, ↓ui_o, ↓ui_k, ↓uj_o, ↓uj_k, ↓ui_j, ↓uj_i, ui_s, uj_s, ui_o, ui_k, uj_o, uj_k, ui_j, uj_i])]
          simp (disch := first | decide | exact ad_ne (by decide) | exact ad_m (by decide) | exact ad_l (by decide) | exact ad_g (by decide) | exact ad_lt (by decide) | exact ad_o (by decide) | omega) only [↓ui_s, ↓uj_s, ↓ui_o, ↓ui_k, ↓uj_o, ↓uj_k, ↓ui_j, ↓uj_i, ui_s, uj_s, ui_o, ui_k, uj_o, uj_k, ui_j, uj_i]
          rw [h46, nI_clamp (by omega)] at y
          rw [nI_clamp (by omega), cW_up (f := fW m) (a := 0) (v := k) hk h2 (by rw [Nat.zero_add]; exact hw)]
          have w := sum4 (a := fun s => a s k2) (b := fun s => if s = t ∧ k2 = k then a s k2 + 1 else a s k2) ht (fun s _ e => by rw [if_neg (by omega)])
          by_cases e : k2 = k
          · subst e
            simp only [and_true, if_true] at w ⊢
            omega
          · simp only [e, and_false, if_false] at w ⊢
            omega)⟩
  | false =>
    rw [cond_false, cond_false]
    exact ⟨(by simp (disch := first | decide | exact ad_ne (by decide) | exact ad_m (by decide) | exact ad_l (by decide) | exact ad_g (by decide) | exact ad_lt (by decide) | exact ad_o (by decide) | omega) only [↓ui_s, ↓uj_s, ↓ui_o, ↓ui_k, ↓uj_o, ↓uj_k, ↓ui_j, ↓uj_i, ui_s, uj_s, ui_o, ui_k, uj_o, uj_k, ui_j, uj_i]; exact hfo), (by simp (disch := first | decide | exact ad_ne (by decide) | exact ad_m (by decide) | exact ad_l (by decide) | exact ad_g (by decide) | exact ad_lt (by decide) | exact ad_o (by decide) | omega) only [↓ui_s, ↓uj_s, ↓ui_o, ↓ui_k, ↓uj_o, ↓uj_k, ↓ui_j, ↓uj_i, ui_s, uj_s, ui_o, ui_k, uj_o, uj_k, ui_j, uj_i]; rfl), (by simp (disch := first | decide | exact ad_ne (by decide) | exact ad_m (by decide) | exact ad_l (by decide) | exact ad_g (by decide) | exact ad_lt (by decide) | exact ad_o (by decide) | omega) only [↓ui_s, ↓uj_s, ↓ui_o, ↓ui_k, ↓uj_o, ↓uj_k, ↓ui_j, ↓uj_i, ui_s, uj_s, ui_o, ui_k, uj_o, uj_k, ui_j, uj_i]; rfl), (by simp (disch := first | decide | exact ad_ne (by decide) | exact ad_m (by decide) | exact ad_l (by decide) | exact ad_g (by decide) | exact ad_lt (by decide) | exact ad_o (by decide) | omega) only [↓ui_s, ↓uj_s, ↓ui_o, ↓ui_k, ↓uj_o, ↓uj_k, ↓ui_j, ↓uj_i, ui_s, uj_s, ui_o, ui_k, uj_o, uj_k, ui_j, uj_i]), (by simp (disch := first | decide | exact ad_ne (by decide) | exact ad_m (by decide) | exact ad_l (by decide) | exact ad_g (by decide) | exact ad_lt (by decide) | exact ad_o (by decide) | omega) only [↓ui_s, ↓uj_s, ↓ui_o, ↓ui_k, ↓uj_o, ↓uj_k, ↓ui_j, ↓uj_i, ui_s, uj_s, ui_o, ui_k, uj_o, uj_k, ui_j, uj_i]), ht, Or.inl rfl, (by simp (disch := first | decide | exact ad_ne (by decide) | exact ad_m (by decide) | exact ad_l (by decide) | exact ad_g (by decide) | exact ad_lt (by decide) | exact ad_o (by decide) | omega) only [↓ui_s, ↓uj_s, ↓ui_o, ↓ui_k, ↓uj_o, ↓uj_k, ↓ui_j, ↓uj_i, ui_s, uj_s, ui_o, ui_k, uj_o, uj_k, ui_j, uj_i]; rw [if_neg hne]), (by simp (disch := first | decide | exact ad_ne (by decide) | exact ad_m (by decide) | exact ad_l (by decide) | exact ad_g (by decide) | exact ad_lt (by decide) | exact ad_o (by decide) | omega) only [↓ui_s, ↓uj_s, ↓ui_o, ↓ui_k, ↓uj_o, ↓uj_k, ↓ui_j, ↓uj_i, ui_s, uj_s, ui_o, ui_k, uj_o, uj_k, ui_j, uj_i]; rw [if_neg hne]), Or.inl hk, fun _ => by simp (disch := first | decide | exact ad_ne (by decide) | exact ad_m (by decide) | exact ad_l (by decide) | exact ad_g (by decide) | exact ad_lt (by decide) | exact ad_o (by decide) | omega) only [↓ui_s, ↓uj_s, ↓ui_o, ↓ui_k, ↓uj_o, ↓uj_k, ↓ui_j, ↓uj_i, ui_s, uj_s, ui_o, ui_k, uj_o, uj_k, ui_j, uj_i]; rw [if_neg hne], (by simp (disch := first | decide | exact ad_ne (by decide) | exact ad_m (by decide) | exact ad_l (by decide) | exact ad_g (by decide) | exact ad_lt (by decide) | exact ad_o (by decide) | omega) only [↓ui_s, ↓uj_s, ↓ui_o, ↓ui_k, ↓uj_o, ↓uj_k, ↓ui_j, ↓uj_i, ui_s, uj_s, ui_o, ui_k, uj_o, uj_k, ui_j, uj_i]; rw [hbr, h56]; rfl), fun _ s h0 => by simp (disch := first | decide | exact ad_ne (by decide) | exact ad_m (by decide) | exact ad_l (by decide) | exact ad_g (by decide) | exact ad_lt (by decide) | exact ad_o (by decide) | omega) only [↓ui_s, ↓uj_s, ↓ui_o, ↓ui_k, ↓uj_o, ↓uj_k, ↓ui_j, ↓uj_i, ui_s, uj_s, ui_o, ui_k, uj_o, uj_k, ui_j, uj_i]; exact hus s h0, fun _ _ => by simp (disch := first | decide | exact ad_ne (by decide) | exact ad_m (by decide) | exact ad_l (by decide) | exact ad_g (by decide) | exact ad_lt (by decide) | exact ad_o (by decide) | omega) only [↓ui_s, ↓uj_s, ↓ui_o, ↓ui_k, ↓uj_o, ↓uj_k, ↓ui_j, ↓uj_i, ui_s, uj_s, ui_o, ui_k, uj_o, uj_k, ui_j, uj_i], fun _ => by unfold barM; simp (disch := first | decide | exact ad_ne (by decide) | exact ad_m (by decide) | exact ad_l (by decide) | exact ad_g (by decide) | exact ad_lt (by decide) | exact ad_o (by decide) | omega) only [↓ui_s, ↓uj_s, ↓ui_o, ↓ui_k, ↓uj_o, ↓uj_k, ↓ui_j, ↓uj_i, ui_s, uj_s, ui_o, ui_k, uj_o, uj_k, ui_j, uj_i]; rfl, fun _ e => absurd e (by omega), fun _ _ => by simp (disch := first | decide | exact ad_ne (by decide) | exact ad_m (by decide) | exact ad_l (by decide) | exact ad_g (by decide) | exact ad_lt (by decide) | exact ad_o (by decide) | omega) only [↓ui_s, ↓uj_s, ↓ui_o, ↓ui_k, ↓uj_o, ↓uj_k, ↓ui_j, ↓uj_i, ui_s, uj_s, ui_o, ui_k, uj_o, uj_k, ui_j, uj_i]; exact v1_ne hh, fun z => absurd z (by decide), fun q => absurd rfl q, fun s h0 => by simp (disch := first | decide | exact ad_ne (by decide) | exact ad_m (by decide) | exact ad_l (by decide) | exact ad_g (by decide) | exact ad_lt (by decide) | exact ad_o (by decide) | omega) only [↓ui_s, ↓uj_s, ↓ui_o, ↓ui_k, ↓uj_o, ↓uj_k, ↓ui_j, ↓uj_i, ui_s, uj_s, ui_o, ui_k, uj_o, uj_k, ui_j, uj_i]; rw [how s h0, ho1]; split <;> rfl, fun _ => by simp (disch := first | decide | exact ad_ne (by decide) | exact ad_m (by decide) | exact ad_l (by decide) | exact ad_g (by decide) | exact ad_lt (by decide) | exact ad_o (by decide) | omega) only [↓ui_s, ↓uj_s, ↓ui_o, ↓ui_k, ↓uj_o, ↓uj_k, ↓ui_j, ↓uj_i, ui_s, uj_s, ui_o, ui_k, uj_o, uj_k, ui_j, uj_i]; exact ho1, (by simp (disch := first | decide | exact ad_ne (by decide) | exact ad_m (by decide) | exact ad_l (by decide) | exact ad_g (by decide) | exact ad_lt (by decide) | exact ad_o (by decide) | omega) only [↓ui_s, ↓uj_s, ↓ui_o, ↓ui_k, ↓uj_o, ↓uj_k, ↓ui_j, ↓uj_i, ui_s, uj_s, ui_o, ui_k, uj_o, uj_k, ui_j, uj_i]; exact his), (by simp (disch := first | decide | exact ad_ne (by decide) | exact ad_m (by decide) | exact ad_l (by decide) | exact ad_g (by decide) | exact ad_lt (by decide) | exact ad_o (by decide) | omega) only [↓ui_s, ↓uj_s, ↓ui_o, ↓ui_k, ↓uj_o, ↓uj_k, ↓ui_j, ↓uj_i, ui_s, uj_s, ui_o, ui_k, uj_o, uj_k, ui_j, uj_i]; exact hs1 t ht), fun _ s h0 => by simp (disch := first | decide | exact ad_ne (by decide) | exact ad_m (by decide) | exact ad_l (by decide) | exact ad_g (by decide) | exact ad_lt (by decide) | exact ad_o (by decide) | omega) only [↓ui_s, ↓uj_s, ↓ui_o, ↓ui_k, ↓uj_o, ↓uj_k, ↓ui_j, ↓uj_i, ui_s, uj_s, ui_o, ui_k, uj_o, uj_k, ui_j, uj_i]; exact hs1 s h0, (by simp (disch := first | decide | exact ad_ne (by decide) | exact ad_m (by decide) | exact ad_l (by decide) | exact ad_g (by decide) | exact ad_lt (by decide) | exact ad_o (by decide) | omega) only [↓ui_s, ↓uj_s, ↓ui_o, ↓ui_k, ↓uj_o, ↓uj_k, ↓ui_j, ↓uj_i, ui_s, uj_s, ui_o, ui_k, uj_o, uj_k, ui_j, uj_i]; exact hw0), (fun s h0 => by
        by_cases e : s = t
        · subst e
          refine ⟨1, ?_, ?_, fun _ => Nat.le_refl _⟩
          · simp (disch := first | decide | exact ad_ne (by decide) | exact ad_m (by decide) | exact ad_l (by decide) | exact ad_g (by decide) | exact ad_lt (by decide) | exact ad_o (by decide) | omega) only [↓ui_s, ↓uj_s, ↓ui_o, ↓ui_k, ↓uj_o, ↓uj_k, ↓ui_j, ↓uj_i, ui_s, uj_s, ui_o, ui_k, uj_o, uj_k, ui_j, uj_i]; rw [h68 s h0]; rfl
          · simp (disch := first | decide | exact ad_ne (by decide) | exact ad_m (by decide) | exact ad_l (by decide) | exact ad_g (by decide) | exact ad_lt (by decide) | exact ad_o (by decide) | omega) only [↓ui_s, ↓uj_s, ↓ui_o, ↓ui_k, ↓uj_o, ↓uj_k, ↓ui_j, ↓uj_i, ui_s, uj_s, ui_o, ui_k, uj_o, uj_k, ui_j, uj_i]; rw [hnI1, h48, h48I]; decide
        · refine ⟨0, ?_, ?_, ?_⟩
          · simp (disch := first | decide | exact ad_ne (by decide) | exact ad_m (by decide) | exact ad_l (by decide) | exact ad_g (by decide) | exact ad_lt (by decide) | exact ad_o (by decide) | omega) only [↓ui_s, ↓uj_s, ↓ui_o, ↓ui_k, ↓uj_o, ↓uj_k, ↓ui_j, ↓uj_i, ui_s, uj_s, ui_o, ui_k, uj_o, uj_k, ui_j, uj_i]; rw [h68 s h0]; rfl
          · simp (disch := first | decide | exact ad_ne (by decide) | exact ad_m (by decide) | exact ad_l (by decide) | exact ad_g (by decide) | exact ad_lt (by decide) | exact ad_o (by decide) | omega) only [↓ui_s, ↓uj_s, ↓ui_o, ↓ui_k, ↓uj_o, ↓uj_k, ↓ui_j, ↓uj_i, ui_s, uj_s, ui_o, ui_k, uj_o, uj_k, ui_j, uj_i]; rw [hnI1, h48, h48I]; decide
          · simp (disch := first | decide | exact ad_ne (by decide) | exact ad_m (by decide) | exact ad_l (by decide) | exact ad_g (by decide) | exact ad_lt (by decide) | exact ad_o (by decide) | omega) only [↓ui_s, ↓uj_s, ↓ui_o, ↓ui_k, ↓uj_o, ↓uj_k, ↓ui_j, ↓uj_i, ui_s, uj_s, ui_o, ui_k, uj_o, uj_k, ui_j, uj_i]; intro z; exact absurd ((nI_eq (a := t) (b := s) (by omega) (by omega)).mp (h40.symm.trans z)).symm e), (fun z s h0 => by
        by_cases e : s = t
        · subst e
          rw [if_pos ⟨rfl, rfl⟩]
          simp (disch := first | decide | exact ad_ne (by decide) | exact ad_m (by decide) | exact ad_l (by decide) | exact ad_g (by decide) | exact ad_lt (by decide) | exact ad_o (by decide) | omega) only [↓ui_s, ↓uj_s, ↓ui_o, ↓ui_k, ↓uj_o, ↓uj_k, ↓ui_j, ↓uj_i, ui_s, uj_s, ui_o, ui_k, uj_o, uj_k, ui_j, uj_i]
          rw [h68 s h0, h66 s h0]
        · rw [if_neg (fun z => e z.2)]
          simp (disch := first | decide | exact ad_ne (by decide) | exact ad_m (by decide) | exact ad_l (by decide) | exact ad_g (by decide) | exact ad_lt (by decide) | exact ad_o (by decide) | omega) only [↓ui_s, ↓uj_s, ↓ui_o, ↓ui_k, ↓uj_o, ↓uj_k, ↓ui_j, ↓uj_i, ui_s, uj_s, ui_o, ui_k, uj_o, uj_k, ui_j, uj_i]
          rw [h68 s h0, h66 s h0]), fun z => absurd (show m.1 50 56 = 0 from by simp (disch := first | decide | exact ad_ne (by decide) | exact ad_m (by decide) | exact ad_l (by decide) | exact ad_g (by decide) | exact ad_lt (by decide) | exact ad_o (by decide) | omega) only [↓ui_s, ↓uj_s, ↓ui_o, ↓ui_k, ↓uj_o, ↓uj_k, ↓ui_j, ↓uj_i, ui_s, uj_s, ui_o, ui_k, uj_o, uj_k, ui_j, uj_i] at z; exact z) (by rw [h56]; decide), (htc.elim fun a z => by
        refine ⟨fun s k2 => if s = t ∧ k2 = k then a s k2 + 1 else a s k2, fun s k2 h0 h2 => ?_, fun k2 h2 => ?_⟩
        · by_cases e : s = t
          · subst e
            by_cases e2 : k2 = k
            · subst e2; simp (disch := first | decide | exact ad_ne (by decide) | exact ad_m (by decide) | exact ad_l (by decide) | exact ad_g (by decide) | exact ad_lt (by decide) | exact ad_o (by decide) | omega) only [↓ui_s, ↓uj_s, ↓ui_o, ↓ui_k, ↓uj_o, ↓uj_k, ↓ui_j, ↓uj_i, ui_s, uj_s, ui_o, ui_k, uj_o, uj_k, ui_j, uj_i]; rw [z.1 s k2 h0 h2]; simp only [and_self, if_true]; exact nI_s1 _
            · simp (disch := first | decide | exact ad_ne (by decide) | exact ad_m (by decide) | exact ad_l (by decide) | exact ad_g (by decide) | exact ad_lt (by decide) | exact ad_o (by decide) | omega) only [↓ui_s, ↓uj_s, ↓ui_o, ↓ui_k, ↓uj_o, ↓uj_k, ↓ui_j, ↓uj_i, ui_s, uj_s, ui_o, ui_k, uj_o, uj_k, ui_j, uj_i]; rw [if_neg (by omega)]; exact z.1 s k2 h0 h2
          · simp (disch := first | decide | exact ad_ne (by decide) | exact ad_m (by decide) | exact ad_l (by decide) | exact ad_g (by decide) | exact ad_lt (by decide) | exact ad_o (by decide) | omega) only [↓ui_s, ↓uj_s, ↓ui_o, ↓ui_k, ↓uj_o, ↓uj_k, ↓ui_j, ↓uj_i, ui_s, uj_s, ui_o, ui_k, uj_o, uj_k, ui_j, uj_i]; rw [if_neg (by omega)]; exact z.1 s k2 h0 h2
        · have y := z.2 k2 h2
          rw [if_neg (by omega), fW_cg (m := m) (fun i => by simp (disch := first | decide | exact ad_ne (by decide) | exact ad_m (by decide) | exact ad_l (by decide) | exact ad_g (by decide) | exact ad_lt (by decide) | exact ad_o (by decide) | omega) only [↓ui_s, ↓uj_s, ↓ui_o, ↓ui_k, ↓uj_o, ↓uj_k, ↓ui_j, ↓uj_i, ui_s, uj_s, ui_o, ui_k, uj_o, uj_k, ui_j, uj_i])]
          simp (disch := first | decide | exact ad_ne (by decide) | exact ad_m (by decide) | exact ad_l (by decide) | exact ad_g (by decide) | exact ad_lt (by decide) | exact ad_o (by decide) | omega) only [↓ui_s, ↓uj_s, ↓ui_o, ↓ui_k, ↓uj_o, ↓uj_k, ↓ui_j, ↓uj_i, ui_s, uj_s, ui_o, ui_k, uj_o, uj_k, ui_j, uj_i]
          rw [h46, nI_clamp (by omega)] at y
          rw [nI_clamp (by omega), cW_up (f := fW m) (a := 0) (v := k) hk h2 (by rw [Nat.zero_add]; exact hw)]
          have w := sum4 (a := fun s => a s k2) (b := fun s => if s = t ∧ k2 = k then a s k2 + 1 else a s k2) ht (fun s _ e => by rw [if_neg (by omega)])
          by_cases e : k2 = k
          · subst e
            simp only [and_true, if_true] at w ⊢
            omega
          · simp only [e, and_false, if_false] at w ⊢
            omega)⟩
theorem cW_c9 {f g : Nat → Int32} {a k : Nat} : ∀ n, (∀ i, i < n → f (a + i) = g (a + i)) → cW f a k n = cW g a k n
  | 0, _ => rfl
  | n + 1, h => by
    show cW f a k n + (if f (a + n) = nI k then 1 else 0) = cW g a k n + (if g (a + n) = nI k then 1 else 0)
    rw [cW_c9 n (fun i hi => h i (by omega)), h n (by omega)]
theorem rg_dealt {x m x3 m3 : zM} {dl : Nat} {sd : Int64} (R : RCl x m) (D : DLR x m dl sd x3 m3) (hdl : dl < 4) (hd : m.1 50 40 = nI dl) : RG (dT0 (z_ui (z_ui x3 0 6 0) 0 17 0) dl 52 (wlN sd 52)) (dlM m3 dl sd) := by
  have R1 := rc_dealt R D hdl
  have w52 := wlN_e sd (k := 52) (by decide)
  rw [dlM_n]
  obtain ⟨μb, hC, b3, b21, b22, b23, bf, bj⟩ := D.hx
  obtain ⟨m1, m2, m3f, m4⟩ := D.hm
  have SD : ∀ s, s < 4 → ∃ p, p < 4 ∧ (dl + p) % 4 = s ∧ SDx (wlF sd) x3 s p := fun s hs => by
    obtain ⟨p, h1, h2⟩ := seat_p hdl hs
    exact ⟨p, h1, h2, h2 ▸ hC.1 p h1⟩
  have z46 : (dlN m3).1 50 46 = nI 52 := by unfold dlN; simp (disch := first | decide | exact ad_ne (by decide) | exact ad_m (by decide) | exact ad_l (by decide) | exact ad_g (by decide) | exact ad_lt (by decide) | exact ad_o (by decide) | omega) only [↓ui_s, ↓uj_s, ↓ui_o, ↓ui_k, ↓uj_o, ↓uj_k, ↓ui_j, ↓uj_i, ui_s, uj_s, ui_o, ui_k, uj_o, uj_k, ui_j, uj_i]; rfl
  have z48 : (dlN m3).1 50 48 = nI 0 := by unfold dlN; simp (disch := first | decide | exact ad_ne (by decide) | exact ad_m (by decide) | exact ad_l (by decide) | exact ad_g (by decide) | exact ad_lt (by decide) | exact ad_o (by decide) | omega) only [↓ui_s, ↓uj_s, ↓ui_o, ↓ui_k, ↓uj_o, ↓uj_k, ↓ui_j, ↓uj_i, ui_s, uj_s, ui_o, ui_k, uj_o, uj_k, ui_j, uj_i]; rfl
  have z47 : (dlN m3).1 50 47 = 0 := by unfold dlN; simp (disch := first | decide | exact ad_ne (by decide) | exact ad_m (by decide) | exact ad_l (by decide) | exact ad_g (by decide) | exact ad_lt (by decide) | exact ad_o (by decide) | omega) only [↓ui_s, ↓uj_s, ↓ui_o, ↓ui_k, ↓uj_o, ↓uj_k, ↓ui_j, ↓uj_i, ui_s, uj_s, ui_o, ui_k, uj_o, uj_k, ui_j, uj_i]
  have z53 : (dlN m3).1 50 53 = 0 := by unfold dlN; simp (disch := first | decide | exact ad_ne (by decide) | exact ad_m (by decide) | exact ad_l (by decide) | exact ad_g (by decide) | exact ad_lt (by decide) | exact ad_o (by decide) | omega) only [↓ui_s, ↓uj_s, ↓ui_o, ↓ui_k, ↓uj_o, ↓uj_k, ↓ui_j, ↓uj_i, ui_s, uj_s, ui_o, ui_k, uj_o, uj_k, ui_j, uj_i]
  have z55 : (dlN m3).1 50 55 = 1 := by unfold dlN; simp (disch := first | decide | exact ad_ne (by decide) | exact ad_m (by decide) | exact ad_l (by decide) | exact ad_g (by decide) | exact ad_lt (by decide) | exact ad_o (by decide) | omega) only [↓ui_s, ↓uj_s, ↓ui_o, ↓ui_k, ↓uj_o, ↓uj_k, ↓ui_j, ↓uj_i, ui_s, uj_s, ui_o, ui_k, uj_o, uj_k, ui_j, uj_i]
  have z56 : (dlN m3).1 50 56 = 1 := by unfold dlN; simp (disch := first | decide | exact ad_ne (by decide) | exact ad_m (by decide) | exact ad_l (by decide) | exact ad_g (by decide) | exact ad_lt (by decide) | exact ad_o (by decide) | omega) only [↓ui_s, ↓uj_s, ↓ui_o, ↓ui_k, ↓uj_o, ↓uj_k, ↓ui_j, ↓uj_i, ui_s, uj_s, ui_o, ui_k, uj_o, uj_k, ui_j, uj_i]
  have z59 : (dlN m3).1 50 59 = 0 := by unfold dlN; simp (disch := first | decide | exact ad_ne (by decide) | exact ad_m (by decide) | exact ad_l (by decide) | exact ad_g (by decide) | exact ad_lt (by decide) | exact ad_o (by decide) | omega) only [↓ui_s, ↓uj_s, ↓ui_o, ↓ui_k, ↓uj_o, ↓uj_k, ↓ui_j, ↓uj_i, ui_s, uj_s, ui_o, ui_k, uj_o, uj_k, ui_j, uj_i]
  have z40 : (dlN m3).1 50 40 = nI dl := by unfold dlN; simp (disch := first | decide | exact ad_ne (by decide) | exact ad_m (by decide) | exact ad_l (by decide) | exact ad_g (by decide) | exact ad_lt (by decide) | exact ad_o (by decide) | omega) only [↓ui_s, ↓uj_s, ↓ui_o, ↓ui_k, ↓uj_o, ↓uj_k, ↓ui_j, ↓uj_i, ui_s, uj_s, ui_o, ui_k, uj_o, uj_k, ui_j, uj_i]; rw [m3f 50 40 (by decide) (by decide), ui_k (by decide)]; exact hd
  have zW : ∀ i, i < 136 → (dlN m3).1 59 i = wlF sd i := fun i hi => by unfold dlN; simp (disch := first | decide | exact ad_ne (by decide) | exact ad_m (by decide) | exact ad_l (by decide) | exact ad_g (by decide) | exact ad_lt (by decide) | exact ad_o (by decide) | omega) only [↓ui_s, ↓uj_s, ↓ui_o, ↓ui_k, ↓uj_o, ↓uj_k, ↓ui_j, ↓uj_i, ui_s, uj_s, ui_o, ui_k, uj_o, uj_k, ui_j, uj_i]; exact m1 i hi
  have z64 : ∀ s, s < 4 → (dlN m3).1 64 s = 0 := fun s hs => by
    unfold dlN
    obtain rfl | rfl | rfl | rfl : s = 0 ∨ s = 1 ∨ s = 2 ∨ s = 3 := by omega
    all_goals (simp (disch := first | decide | exact ad_ne (by decide) | exact ad_m (by decide) | exact ad_l (by decide) | exact ad_g (by decide) | exact ad_lt (by decide) | exact ad_o (by decide) | omega) only [↓ui_s, ↓uj_s, ↓ui_o, ↓ui_k, ↓uj_o, ↓uj_k, ↓ui_j, ↓uj_i, ui_s, uj_s, ui_o, ui_k, uj_o, uj_k, ui_j, uj_i])
  have z66 : ∀ s, s < 4 → (dlN m3).1 66 s = 0 := fun s hs => by
    unfold dlN
    obtain rfl | rfl | rfl | rfl : s = 0 ∨ s = 1 ∨ s = 2 ∨ s = 3 := by omega
    all_goals (simp (disch := first | decide | exact ad_ne (by decide) | exact ad_m (by decide) | exact ad_l (by decide) | exact ad_g (by decide) | exact ad_lt (by decide) | exact ad_o (by decide) | omega) only [↓ui_s, ↓uj_s, ↓ui_o, ↓ui_k, ↓uj_o, ↓uj_k, ↓ui_j, ↓uj_i, ui_s, uj_s, ui_o, ui_k, uj_o, uj_k, ui_j, uj_i])
  have z68 : ∀ s, s < 4 → (dlN m3).1 68 s = 0 := fun s hs => by
    unfold dlN
    obtain rfl | rfl | rfl | rfl : s = 0 ∨ s = 1 ∨ s = 2 ∨ s = 3 := by omega
    all_goals (simp (disch := first | decide | exact ad_ne (by decide) | exact ad_m (by decide) | exact ad_l (by decide) | exact ad_g (by decide) | exact ad_lt (by decide) | exact ad_o (by decide) | omega) only [↓ui_s, ↓uj_s, ↓ui_o, ↓ui_k, ↓uj_o, ↓uj_k, ↓ui_j, ↓uj_i, ui_s, uj_s, ui_o, ui_k, uj_o, uj_k, ui_j, uj_i])
  have z71 : ∀ s, s < 4 → (dlN m3).1 71 s = 0 := fun s hs => by
    unfold dlN
    obtain rfl | rfl | rfl | rfl : s = 0 ∨ s = 1 ∨ s = 2 ∨ s = 3 := by omega
    all_goals (simp (disch := first | decide | exact ad_ne (by decide) | exact ad_m (by decide) | exact ad_l (by decide) | exact ad_g (by decide) | exact ad_lt (by decide) | exact ad_o (by decide) | omega) only [↓ui_s, ↓uj_s, ↓ui_o, ↓ui_k, ↓uj_o, ↓uj_k, ↓ui_j, ↓uj_i, ui_s, uj_s, ui_o, ui_k, uj_o, uj_k, ui_j, uj_i])
  have zH : ¬ (dlN m3).1 60 (34 * dl + wlN sd 52) = -1 := by
    unfold dlN
    simp (disch := first | decide | exact ad_ne (by decide) | exact ad_m (by decide) | exact ad_l (by decide) | exact ad_g (by decide) | exact ad_lt (by decide) | exact ad_o (by decide) | omega) only [↓ui_s, ↓uj_s, ↓ui_o, ↓ui_k, ↓uj_o, ↓uj_k, ↓ui_j, ↓uj_i, ui_s, uj_s, ui_o, ui_k, uj_o, uj_k, ui_j, uj_i]
    rw [m2 dl (wlN sd 52) hdl w52.2]
    have := mC_le (dl := dl) (s := dl) (k := wlN sd 52) (f := wlF sd) 52
    exact of_decide_eq_false (kn_m1 (by omega))
  have hT : TC (z_ui (z_ui x3 0 6 0) 0 17 0) (dlN m3) (fun _ => 0) := by
    refine ⟨fun s k => cW (wlF sd) (13 * ((s + 4 - dl) % 4)) k 13, fun s k hs hk => ?_, fun k hk => ?_⟩
    · simp (disch := first | decide | exact ad_ne (by decide) | exact ad_m (by decide) | exact ad_l (by decide) | exact ad_g (by decide) | exact ad_lt (by decide) | exact ad_o (by decide) | omega) only [↓ui_s, ↓uj_s, ↓ui_o, ↓ui_k, ↓uj_o, ↓uj_k, ↓ui_j, ↓uj_i, ui_s, uj_s, ui_o, ui_k, uj_o, uj_k, ui_j, uj_i]
      have hp : (s + 4 - dl) % 4 < 4 := Nat.mod_lt _ (by decide)
      have z := hC.1 ((s + 4 - dl) % 4) hp
      rw [show (dl + (s + 4 - dl) % 4) % 4 = s from by omega] at z
      exact (z.1 k hk).2
    · rw [z46, z48, nI_clamp (by omega), nI_clamp (by omega), show cW (fW (dlN m3)) 0 k 52 = cW (wlF sd) 0 k 52 from cW_c9 52 (fun i hi => by rw [Nat.zero_add]; exact zW i (by omega)), cW_52]
      obtain rfl | rfl | rfl | rfl : dl = 0 ∨ dl = 1 ∨ dl = 2 ∨ dl = 3 := by omega
      all_goals (simp only [Nat.reduceAdd, Nat.reduceSub, Nat.reduceMod, Nat.reduceMul]; omega)
  refine ⟨rc_draw0 R1 hdl w52.2 z46, Or.inr ⟨1, dl, wlN sd 52, rp_first R1 hdl w52.2 ui_s z56 z64 (fun s hs => ?_) z59 z55 z71 z53 z68 z66 z46 z48 z40 hT ?_ ((zW 52 (by decide)).trans w52.1) zH⟩⟩
  · obtain ⟨p, _, _, z⟩ := SD s hs
    simp (disch := first | decide | exact ad_ne (by decide) | exact ad_m (by decide) | exact ad_l (by decide) | exact ad_g (by decide) | exact ad_lt (by decide) | exact ad_o (by decide) | omega) only [↓ui_s, ↓uj_s, ↓ui_o, ↓ui_k, ↓uj_o, ↓uj_k, ↓ui_j, ↓uj_i, ui_s, uj_s, ui_o, ui_k, uj_o, uj_k, ui_j, uj_i]
    exact z.2.2.2.2.2.1
  · rw [z47]; simp (disch := first | decide | exact ad_ne (by decide) | exact ad_m (by decide) | exact ad_l (by decide) | exact ad_g (by decide) | exact ad_lt (by decide) | exact ad_o (by decide) | omega) only [↓ui_s, ↓uj_s, ↓ui_o, ↓ui_k, ↓uj_o, ↓uj_k, ↓ui_j, ↓uj_i, ui_s, uj_s, ui_o, ui_k, uj_o, uj_k, ui_j, uj_i]; rw [hC.2.1 2 3 (by omega)]; exact b23
/-! each kind lies four times in the wall -/
set_option maxRecDepth 8000
noncomputable def cI (f : Nat → Int32) (k i : Nat) : Nat := if f i = nI k then 1 else 0
theorem cW_sn {f : Nat → Int32} {k : Nat} : ∀ n, cW f 0 k n = sn (cI f k) n
  | 0 => rfl
  | n + 1 => by
    show cW f 0 k n + (if f (0 + n) = nI k then 1 else 0) = sn (cI f k) n + cI f k n
    rw [cW_sn n, Nat.zero_add]; rfl
theorem sn_congr9 {g h : Nat → Nat} : ∀ n, (∀ i, i < n → g i = h i) → sn g n = sn h n
  | 0, _ => rfl
  | n + 1, e => by
    show sn g n + g n = sn h n + h n
    rw [sn_congr9 n (fun i hi => e i (by omega)), e n (by omega)]
theorem sn_one {g h : Nat → Nat} {a : Nat} : ∀ n, a < n → (∀ i, i < n → i ≠ a → g i = h i) → sn g n + h a = sn h n + g a
  | 0, ha, _ => absurd ha (Nat.not_lt_zero _)
  | n + 1, ha, e => by
    show sn g n + g n + h a = sn h n + h n + g a
    by_cases q : a = n
    · subst q
      have : sn g a = sn h a := sn_congr9 a (fun i hi => e i (by omega) (by omega))
      omega
    · have := sn_one n (by omega) (fun i hi => e i (by omega))
      have := e n (by omega) (fun z => q z.symm)
      omega
theorem sn_tw9 {g h : Nat → Nat} {a b : Nat} (hab : a ≠ b) : ∀ n, a < n → b < n → (∀ i, i < n → i ≠ a → i ≠ b → g i = h i) → sn g n + h a + h b = sn h n + g a + g b
  | 0, ha, _, _ => absurd ha (Nat.not_lt_zero _)
  | n + 1, ha, hb, e => by
    show sn g n + g n + h a + h b = sn h n + h n + g a + g b
    by_cases q : a = n
    · subst q
      have := sn_one (g := g) (h := h) (a := b) a (by omega) (fun i hi hn => e i (by omega) (by omega) hn)
      omega
    · by_cases q2 : b = n
      · subst q2
        have := sn_one (g := g) (h := h) (a := a) b (by omega) (fun i hi hn => e i (by omega) hn (by omega))
        omega
      · have := sn_tw9 hab n (by omega) (by omega) (fun i hi => e i (by omega))
        have := e n (by omega) (fun z => q z.symm) (fun z => q2 z.symm)
        omega
theorem cW_sw {f : Nat → Int32} {a b k : Nat} (ha : a < 136) (hb : b < 136) : cW (swW f a b) 0 k 136 = cW f 0 k 136 := by
  rw [cW_sn, cW_sn]
  by_cases e : a = b
  · subst e
    exact sn_congr9 136 (fun i _ => by
      unfold cI swW
      by_cases q : i = a
      · rw [if_pos q, q]
      · rw [if_neg q, if_neg q])
  · have z := sn_tw9 (g := cI (swW f a b) k) (h := cI f k) e 136 ha hb (fun i _ h1 h2 => by unfold cI swW; rw [if_neg h2, if_neg h1])
    have e1 : cI (swW f a b) k a = cI f k b := by unfold cI swW; rw [if_neg e, if_pos rfl]
    have e2 : cI (swW f a b) k b = cI f k a := by unfold cI swW; rw [if_pos rfl]
    omega
theorem cW_wsh {k : Nat} : ∀ i, i ≤ 135 → ∀ (x : Int64) (f : Nat → Int32), cW (wsh i x f) 0 k 136 = cW f 0 k 136
  | 0, _, _, _ => rfl
  | i + 1, hi, x, f => (cW_wsh i (by omega) (nxL x) _).trans (cW_sw (by omega) (jE_n (nxL x) i (by omega)).2.1)
theorem cW_0 : ∀ v, v < 34 → cW (fun i => nI (i / 4)) 0 v 136 = 4 := by decide +kernel
theorem cW_136 (sd : Int64) {k : Nat} (hk : k < 34) : cW (wlF sd) 0 k 136 = 4 := (cW_wsh 135 (by omega) sd _).trans (cW_0 k hk)
theorem cW_4 (sd : Int64) {f : Nat → Int32} (hf : ∀ i, i < 136 → f i = wlF sd i) {k n b : Nat} (hk : k < 34) (hn : n ≤ 122) (hb : b ≤ 14) : cW f 0 k n + cW f 122 k b ≤ 4 := by
  have e0 : cW f 0 k 136 = 4 := (cW_c9 136 (fun i hi => by rw [Nat.zero_add]; exact hf i hi)).trans (cW_136 sd hk)
  have e1 : cW f 0 k (122 + 14) = cW f 0 k 122 + cW f (0 + 122) k 14 := cW_spl 14
  have e2 : cW f 0 k (n + (122 - n)) = cW f 0 k n + cW f (0 + n) k (122 - n) := cW_spl (122 - n)
  have e3 : cW f 122 k (b + (14 - b)) = cW f 122 k b + cW f (122 + b) k (14 - b) := cW_spl (14 - b)
  rw [show n + (122 - n) = 122 from by omega] at e2
  rw [show b + (14 - b) = 14 from by omega] at e3
  rw [Nat.zero_add] at e1
  have e4 : cW f 0 k 136 = cW f 0 k 122 + cW f 122 k 14 := e1
  omega
/-! a SEAT's hand on both sides; the WAITS agree -/
set_option maxRecDepth 8000
theorem ct_nat (s l k : Int32) : ∃ c, c ≤ 4 ∧ ct s l k = nI c := by
  unfold ct
  split
  · split
    · exact ⟨1, by decide, rfl⟩
    · exact ⟨0, by decide, rfl⟩
  · split
    · split
      · exact ⟨3, by decide, rfl⟩
      · exact ⟨4, by decide, rfl⟩
    · exact ⟨0, by decide, rfl⟩
theorem ofv_nat {so lo : Nat → Int32} {k : Int32} {w : Nat} : ∀ n, ∃ c, c ≤ 4 * n ∧ ofv (nI w) so lo k n = nI (w + c)
  | 0 => ⟨0, by decide, rfl⟩
  | n + 1 => by
    obtain ⟨c, h1, h2⟩ := ofv_nat (so := so) (lo := lo) (k := k) (w := w) n
    obtain ⟨d, h3, h4⟩ := ct_nat (so n) (lo n) k
    refine ⟨c + d, by omega, ?_⟩
    show ofv (nI w) so lo k n + ct (so n) (lo n) k = _
    rw [h2, h4, nI_add, Nat.add_assoc]
noncomputable def HF (x m : zM) (s : Nat) (w aw : Nat → Nat) (q : Nat) (sL lL : Nat → Nat) : Prop := HM m s w q sL lL ∧ RW x (20 + 8 * s) w ∧ RW x (21 + 8 * s) aw ∧ x.1 (19 + 8 * s) 4 = nI q ∧ (q = 0 → ∀ k, k < 34 → aw k = w k) ∧ (∀ k, k < 34 → aw k ≤ 4) ∧ x.1 (19 + 8 * s) 5 = nI (sn w 34) ∧ (∀ k, k < 34 → nI (aw k) = ofv (nI (w k)) (fun i => m.1 62 (4 * s + i)) (fun i => m.1 63 (4 * s + i)) (nI k) q)
theorem i_nat {v : Int32} {n : Nat} (h0 : 0 ≤ v.toInt) (h1 : v.toInt ≤ n) (hn : n < 1000) : ∃ a, a ≤ n ∧ v = nI a := by
  obtain ⟨t, ht, e⟩ := a_nI (x := v) (n := n + 1) h0 (by omega) (by omega)
  exact ⟨t, by omega, e⟩
noncomputable abbrev hs9 (m : zM) (s : Nat) : Int := hs m s
theorem hf_of {x m : zM} {p t c : Nat} (R : RCl x m) (P : RPh x m p t c) (hA : a_H m) (hG : GP m) {s : Nat} (hs : s < 4) : ∃ w aw q sL lL, HF x m s w aw q sL lL := by
  have g14 : ∀ j, j < 4 → glim m j ≤ 14 := fun j _ => by unfold glim; split <;> decide
  obtain ⟨g1, g2, g3, -, -, -⟩ := hG
  have hmI : 0 ≤ mI m s := (hA 64 s).1
  have hsum : hs9 m s ≤ 14 := by
    have := g1.2 s hs
    have := g14 s hs
    show hs9 m s ≤ 14
    unfold hs9
    omega
  have hw : ∀ k, k < 34 → ∃ a, a ≤ 14 ∧ m.1 60 (34 * s + k) = nI a := fun k hk => i_nat (g1.1 _ (by omega)) (by have := g1.le hs hk; show hI m (34 * s + k) ≤ 14; unfold hs9 at hsum; omega) (by decide)
  obtain ⟨q, hq4, hq⟩ : ∃ q, q ≤ 4 ∧ m.1 64 s = nI q := i_nat (hA 64 s).1 (hA 64 s).2 (by decide)
  obtain ⟨a, ha1, ha2⟩ := P.tc
  obtain ⟨sd, hsd⟩ := R.wp P.is
  have hnx : (m.1 50 46).toNatClampNeg ≤ 122 := by
    obtain ⟨n, h1, h2⟩ := i_nat (v := m.1 50 46) (n := 122) (hA 50 46).1 (hA 50 46).2 (by decide)
    rw [h2, nI_clamp (by omega)]; exact h1
  have hbk : (m.1 50 48).toNatClampNeg ≤ 14 := by
    obtain ⟨n, h1, h2⟩ := i_nat (v := m.1 50 48) (n := 4) (hA 50 48).1 (hA 50 48).2 (by decide)
    rw [h2, nI_clamp (by omega)]; omega
  have ha4 : ∀ k, k < 34 → a s k ≤ 4 := fun k hk => by
    have h1 := ha2 k hk
    have h2 := cW_4 sd (f := fW m) hsd hk hnx hbk
    obtain rfl | rfl | rfl | rfl : s = 0 ∨ s = 1 ∨ s = 2 ∨ s = 3 := by omega
    all_goals omega
  let w : Nat → Nat := fun k => (m.1 60 (34 * s + k)).toNatClampNeg
  have hw9 : ∀ k, k < 34 → m.1 60 (34 * s + k) = nI (w k) ∧ w k ≤ 14 := fun k hk => by
    obtain ⟨b, h1, h2⟩ := hw k hk
    show m.1 60 (34 * s + k) = nI (m.1 60 (34 * s + k)).toNatClampNeg ∧ (m.1 60 (34 * s + k)).toNatClampNeg ≤ 14
    rw [h2, nI_clamp (by omega)]; exact ⟨rfl, h1⟩
  have hal : ∀ k, k < 34 → nI (a s k) = ofv (nI (w k)) (fun i => m.1 62 (4 * s + i)) (fun i => m.1 63 (4 * s + i)) (nI k) q := fun k hk => by
    rw [← ha1 s k hs hk, R.al s k hs hk, (hw9 k hk).1, hq, nI_clamp (by omega)]
  have hwa : ∀ k, k < 34 → w k ≤ a s k ∧ (q = 0 → a s k = w k) := fun k hk => by
    obtain ⟨d, h1, h2⟩ := ofv_nat (so := fun i => m.1 62 (4 * s + i)) (lo := fun i => m.1 63 (4 * s + i)) (k := nI k) (w := w k) q
    have h3 := (hal k hk).trans h2
    have h4 := ha4 k hk
    have h5 := (hw9 k hk).2
    have h6 := (nI_eq (a := a s k) (b := w k + d) (by omega) (by omega)).mp h3
    exact ⟨by omega, fun e => by omega⟩
  refine ⟨w, a s, q, fun i => (m.1 62 (4 * s + i)).toNatClampNeg, fun i => (m.1 63 (4 * s + i)).toNatClampNeg, ⟨fun k hk => ⟨(hw9 k hk).1, by have := (hwa k hk).1; have := ha4 k hk; omega⟩, hq, hq4, fun j hj => ?_⟩, fun k hk => ?_, fun k hk => ⟨ha1 s k hs hk, by have := ha4 k hk; omega⟩, (R.lm s hs).trans hq, fun e k hk => (hwa k hk).2 e, ha4, ?_, hal⟩
  · have z := R.sv s j hs (by rw [hq, nI_clamp (by omega)]; exact hj)
    obtain ⟨n1, h1, h2⟩ := i_nat (n := 3) z.1.1 z.1.2 (by decide)
    obtain ⟨n2, h3, h4⟩ := i_nat (n := 33) z.2.1.1 z.2.1.2 (by decide)
    have z3 := z.2.2
    rw [h2, h4] at z3
    show m.1 62 (4 * s + j) = nI (m.1 62 (4 * s + j)).toNatClampNeg ∧ (m.1 62 (4 * s + j)).toNatClampNeg ≤ 3 ∧ m.1 63 (4 * s + j) = nI (m.1 63 (4 * s + j)).toNatClampNeg ∧ (m.1 63 (4 * s + j)).toNatClampNeg < 34 ∧ ((m.1 62 (4 * s + j)).toNatClampNeg = 0 → rs (m.1 63 (4 * s + j)).toNatClampNeg)
    rw [h2, h4, nI_clamp (by omega), nI_clamp (by omega)]
    exact ⟨rfl, h1, rfl, by omega, fun e => (sr_rs n2 (by omega)).mp (z3 (by rw [e]; rfl))⟩
  · rw [R.hd s k hs hk]; exact ⟨(hw9 k hk).1, by have := (hwa k hk).1; have := ha4 k hk; omega⟩
  · rw [R.lz s hs]; exact sm_sn 34 (fun k hk => (hw9 k hk).1)
theorem wt_iff {x m : zM} {s : Nat} {w aw : Nat → Nat} {q : Nat} {sL lL : Nat → Nat} (H : HF x m s w aw q sL lL) (hs : s < 4) {c : Nat} (hc : c < 34) : WX (sMm s x) w q c ↔ WMs m s w q c := by
  obtain ⟨h1, -, h3, h4, -, -, h7, h8⟩ := H
  unfold WX WMs
  rw [sM9 hs, sM9 hs, sM11 hs, h4, h7, (h3 c hc).1, h8 c hc, size_nI]
  have hw4 : sn w 34 ≤ 4 * 34 := sn_ub 34 (fun k hk => (h1.1 k hk).2)
  have hq4 := h1.2.2.1
  have e : nI (sn w 34 + 3 * q) = 13 ↔ sn w 34 + 3 * q = 13 := by rw [show (13 : Int32) = nI 13 from rfl]; exact nI_eq (by omega) (by omega)
  constructor
  · rintro ⟨a, b, d⟩
    have a := e.mp a
    exact ⟨a, b, (FU_FM hq4 (by rw [sn_ad1 hc]; omega)).mp d⟩
  · rintro ⟨a, b, d⟩
    exact ⟨e.mpr a, b, (FU_FM hq4 (by rw [sn_ad1 hc]; omega)).mpr d⟩
theorem wt_kb {x m : zM} {s : Nat} {w aw : Nat → Nat} {q : Nat} {sL lL : Nat → Nat} (H : HF x m s w aw q sL lL) (hs : s < 4) : kb (wb (WX (sMm s x) w q)) 34 = kb (wb (WMs m s w q)) 34 := kb_congr (fun k hk => wb_iff (wt_iff H hs hk))
/-! one bit of the WAITS -/
set_option maxRecDepth 8000
theorem sb9 : ∀ c, c < 34 → (((nI c).toInt64 &&& 63).toBitVec.smod 64).toNat = c := by decide +kernel
theorem one_b : ∀ i, i < 64 → (1 : Int64).toBitVec.getLsbD i = decide (i = 0) := by decide +kernel
theorem zero_b : ∀ i, i < 64 → (0 : Int64).toBitVec.getLsbD i = false := by decide +kernel
theorem and1 {x : Int64} {b : Bool} (h : x.toBitVec.getLsbD 0 = b) : x &&& 1 = bif b then 1 else 0 := by
  apply Int64.toBitVec_inj.mp
  rw [Int64.toBitVec_and]
  apply BitVec.eq_of_getLsbD_eq
  intro i hi
  rw [BitVec.getLsbD_and, one_b i hi]
  by_cases e : i = 0
  · subst e
    rw [h]
    cases b
    · rw [cond_false, zero_b 0 (by decide)]; rfl
    · rw [cond_true, one_b 0 (by decide)]; rfl
  · rw [decide_eq_false e, Bool.and_false]
    cases b
    · rw [cond_false, zero_b i hi]
    · rw [cond_true, one_b i hi, decide_eq_false e]
theorem sh_bit (x : Int64) {c : Nat} (hc : c < 34) : ((x >>> ((nI c).toInt64 &&& 63)) &&& 1) = bif x.toBitVec.getLsbD c then 1 else 0 := by
  refine and1 ?_
  rw [Int64.toBitVec_shiftRight, BitVec.sshiftRight_eq', sb9 c hc, BitVec.getLsbD_sshiftRight]
  simp
  omega
theorem bw_kb (f : Nat → Bool) {c : Nat} (hc : c < 34) : bw (kb f 34) c = f c := by
  unfold bw
  rw [sh_bit _ hc, kb_bit f 34 (Nat.le_refl _) c hc, decide_eq_true hc, Bool.true_and]
  cases f c <;> decide
theorem bz_kb (f : Nat → Bool) {c : Nat} (hc : c < 34) : decide (lg_cmp ((kb f 34 >>> ((nI c).toInt64 &&& 63)) &&& 1) 0 = 0) = !f c := by
  rw [sh_bit _ hc, kb_bit f 34 (Nat.le_refl _) c hc, decide_eq_true hc, Bool.true_and]
  cases f c <;> decide
theorem su9 : ∀ c, c < 34 → ((((nI c).toInt64.toUInt64 &&& Int64.toUInt64 63)).toBitVec % 64).toNat = c := by decide +kernel
theorem shu_bit (x : Int64) {c : Nat} (hc : c < 34) : ((x.toUInt64 >>> ((nI c).toInt64.toUInt64 &&& Int64.toUInt64 63)).toInt64 &&& 1) = bif x.toBitVec.getLsbD c then 1 else 0 := by
  refine and1 ?_
  show (x.toUInt64 >>> ((nI c).toInt64.toUInt64 &&& Int64.toUInt64 63)).toBitVec.getLsbD 0 = _
  rw [UInt64.toBitVec_shiftRight, BitVec.ushiftRight_eq', su9 c hc, BitVec.getLsbD_ushiftRight, Nat.add_zero]
  rfl
theorem hd_kb (f : Nat → Bool) {c : Nat} (hc : c < 34) : xHd (kb f 34) (nI c) = f c := by
  unfold xHd
  rw [kn_l0 (by omega), kn_le (m := 34) rfl (by omega) hc, shu_bit _ hc, kb_bit f 34 (Nat.le_refl _) c hc, decide_eq_true hc, Bool.true_and]
  cases f c <;> decide
theorem HF.te {x m x' : zM} {s : Nat} {w aw : Nat → Nat} {q : Nat} {sL lL : Nat → Nat} (H : HF x m s w aw q sL lL) (hs : s < 4) (h : TE x x') : HF x' m s w aw q sL lL := by
  obtain ⟨h1, h2, h3, h4, h5, h6, h7, h8⟩ := H
  exact ⟨h1, fun k hk => by rw [h s hs 20 (by omega) (by omega)]; exact h2 k hk, fun k hk => by rw [h s hs 21 (by omega) (by omega)]; exact h3 k hk, by rw [h s hs 19 (by omega) (by omega)]; exact h4, h5, h6, by rw [h s hs 19 (by omega) (by omega)]; exact h7, h8⟩
/-- the WAITS of a hand -/
noncomputable def WV (m : zM) (s : Nat) (w : Nat → Nat) (q : Nat) : Int64 := kb (wb (WMs m s w q)) 34
theorem cw_wait {x m : zM} {s : Nat} {w aw : Nat → Nat} {q : Nat} {sL lL : Nat → Nat} (H : HF x m s w aw q sL lL) (hs : s < 4) : ∀ μ1, TE x μ1 → ∀ d, 7 ≤ d → z_C d mi_X3_waiting [.ref (19 + 8 * s)] μ1 (zR μ1 (.long (WV m s w q))) := fun μ1 ht d hd => by
  have H1 := H.te hs ht
  have e : WV m s w q = kb (wb (WX (sMm s μ1) w q)) 34 := (wt_kb H1 hs).symm
  rw [e]
  obtain ⟨h1, h2, h3, h4, h5, h6, h7, h8⟩ := H1
  exact gc_waiting d hd μ1 s hs w q h2 (fun k hk => (h1.1 k hk).2) h1.2.2.1 h4 (fun e k hk => by rw [← h5 e k hk]; exact h3 k hk)
theorem cw_for {x m : zM} {s : Nat} {w aw : Nat → Nat} {q : Nat} {sL lL : Nat → Nat} (H : HF x m s w aw q sL lL) (hs : s < 4) {c : Nat} (hc : c < 34) : ∀ μ1, TE x μ1 → ∀ d, 6 ≤ d → z_C d mi_X3_waitsFor [.ref (19 + 8 * s), .int (nI c)] μ1 (zR μ1 (.int (nB (bw (WV m s w q) c)))) := fun μ1 ht d hd => by
  have H1 := H.te hs ht
  have e := wt_iff H1 hs hc
  obtain ⟨h1, h2, h3, h4, h5, h6, h7, h8⟩ := H1
  refine z_C_mono (gc_waitsFor d hd μ1 s hs w q c h2 (fun k hk => (h1.1 k hk).2) h1.2.2.1 h4 (fun e k hk => by rw [← h5 e k hk]; exact h3 k hk) hc) (fun r m' z => ⟨z.1, ?_⟩)
  unfold WV
  rw [bw_kb _ hc]
  rcases z.2 with ⟨y, hy⟩ | ⟨y, hy⟩
  · rw [y, wb_t (e.mp hy)]; rfl
  · rw [y, wb_f (fun q => hy (e.mpr q))]; rfl
/-! refused calls -/
set_option maxRecDepth 8000
theorem gx_discP (d : Nat) (hd : 2 ≤ d) (μ : zM) (x b : Int32) (hp : decide (μ.1 0 7 = 1) = false) : z_C d mi_X6_discard [.ref 0, .int x, .int b] μ (fun r μ' => r = some (.int 0) ∧ μ' = μ) := by
  refine z_C_in (by decide) (by omega) (fun d' Z ed hc hr => ?_)
  have hH : zH mi_X6_discard zt_X6_discard 79 6 4 := hh_X6_discard
  refine z_rcs hc hH 1 (pc' := 1) (lv' := [(0, .ref 0), (1, .int x), (2, .int b)]) (st' := [.ref 0]) (μ' := μ) (by rfl) ?_
  refine zq_gfi hc hH (by rfl) (ci := 5) (f := 7) (by rfl) (by decide +kernel) (by rfl) ?_
  refine z_rcs hc hH 1 (pc' := 5) (lv' := [(0, .ref 0), (1, .int x), (2, .int b)]) (st' := [.int 1, .int (μ.1 0 7)]) (μ' := μ) (by rfl) ?_
  refine zq_ic hc hH (by rfl) (tg := 16) (by rfl) (fun h1 => ?_) (fun h1 => ?_)
  · have h1 : (decide ((μ.1 0 7) = 1)) = false := decide_eq_false (cm_ne.mp h1)
    refine z_rcs hc hH 1 (pc' := 17) (lv' := [(0, .ref 0), (1, .int x), (2, .int b)]) (st' := [.int 0]) (μ' := μ) (by rfl) ?_
    exact hr 0 17 _ _ _ (some (.int 0)) (by decide +kernel) (z_rx_ok hH (by rfl)) (⟨rfl, rfl⟩)
  · have h1 : (decide ((μ.1 0 7) = 1)) = true := decide_eq_true (cn_ne.mp h1)
    exact absurd (Eq.trans (Eq.symm (hp)) h1) (by decide)
theorem gx_discT (d : Nat) (hd : 4 ≤ d) (μ : zM) (x b : Int32) (hmt : ∀ d, 3 ≤ d → z_C d mi_X6_mayThrow [.ref 0, .int x] μ (zR μ (.int 0))) : z_C d mi_X6_discard [.ref 0, .int x, .int b] μ (fun r μ' => r = some (.int 0) ∧ μ' = μ) := by
  refine z_C_in (by decide) (by omega) (fun d' Z ed hc hr => ?_)
  have hH : zH mi_X6_discard zt_X6_discard 79 6 4 := hh_X6_discard
  refine z_rcs hc hH 1 (pc' := 1) (lv' := [(0, .ref 0), (1, .int x), (2, .int b)]) (st' := [.ref 0]) (μ' := μ) (by rfl) ?_
  refine zq_gfi hc hH (by rfl) (ci := 5) (f := 7) (by rfl) (by decide +kernel) (by rfl) ?_
  refine z_rcs hc hH 1 (pc' := 5) (lv' := [(0, .ref 0), (1, .int x), (2, .int b)]) (st' := [.int 1, .int (μ.1 0 7)]) (μ' := μ) (by rfl) ?_
  refine zq_ic hc hH (by rfl) (tg := 16) (by rfl) (fun h1 => ?_) (fun h1 => ?_)
  · have h1 : (decide ((μ.1 0 7) = 1)) = false := decide_eq_false (cm_ne.mp h1)
    refine z_rcs hc hH 1 (pc' := 17) (lv' := [(0, .ref 0), (1, .int x), (2, .int b)]) (st' := [.int 0]) (μ' := μ) (by rfl) ?_
    exact hr 0 17 _ _ _ (some (.int 0)) (by decide +kernel) (z_rx_ok hH (by rfl)) (⟨rfl, rfl⟩)
  · have h1 : (decide ((μ.1 0 7) = 1)) = true := decide_eq_true (cn_ne.mp h1)
    refine z_rcs hc hH 2 (pc' := 10) (lv' := [(0, .ref 0), (1, .int x), (2, .int b)]) (st' := [.int x, .ref 0]) (μ' := μ) (by rfl) ?_
    refine zq_call hc (z_cx_ok hH (by rfl)) (hmt d' (by omega)) (by decide +kernel) (fun r9 μ9 hq => ?_)
    obtain ⟨hμ9, rfl⟩ := hq
    rw [hμ9]
    clear hμ9 μ9
    show Z 0 13 [(0, .ref 0), (1, .int x), (2, .int b)] [.int 0] μ
    refine z_rcs hc hH 2 (pc' := 17) (lv' := [(0, .ref 0), (1, .int x), (2, .int b)]) (st' := [.int 0]) (μ' := μ) (by rfl) ?_
    exact hr 0 17 _ _ _ (some (.int 0)) (by decide +kernel) (z_rx_ok hH (by rfl)) (⟨rfl, rfl⟩)
theorem gx_pass (d : Nat) (hd : 2 ≤ d) (μ : zM) (h2 : decide (μ.1 0 7 = 2) = false) (h3 : decide (μ.1 0 7 = 3) = false) : z_C d mi_X6_pass [.ref 0] μ (fun r μ' => r = some (.int 0) ∧ μ' = μ) := by
  refine z_C_in (by decide) (by omega) (fun d' Z ed hc hr => ?_)
  have hH : zH mi_X6_pass zt_X6_pass 79 6 1 := hh_X6_pass
  refine z_rcs hc hH 1 (pc' := 1) (lv' := [(0, .ref 0)]) (st' := [.ref 0]) (μ' := μ) (by rfl) ?_
  refine zq_gfi hc hH (by rfl) (ci := 5) (f := 7) (by rfl) (by decide +kernel) (by rfl) ?_
  refine z_rcs hc hH 1 (pc' := 5) (lv' := [(0, .ref 0)]) (st' := [.int 2, .int (μ.1 0 7)]) (μ' := μ) (by rfl) ?_
  refine zq_ic hc hH (by rfl) (tg := 18) (by rfl) (fun h1 => ?_) (fun h1 => ?_)
  · have h1 : (decide ((μ.1 0 7) = 2)) = true := decide_eq_true (cm_eq9.mp h1)
    exact absurd (Eq.trans (Eq.symm (h2)) h1) (by decide)
  · have h1 : (decide ((μ.1 0 7) = 2)) = false := decide_eq_false (cn_eq.mp h1)
    refine z_rcs hc hH 1 (pc' := 9) (lv' := [(0, .ref 0)]) (st' := [.ref 0]) (μ' := μ) (by rfl) ?_
    refine zq_gfi hc hH (by rfl) (ci := 5) (f := 7) (by rfl) (by decide +kernel) (by rfl) ?_
    refine z_rcs hc hH 1 (pc' := 13) (lv' := [(0, .ref 0)]) (st' := [.int 3, .int (μ.1 0 7)]) (μ' := μ) (by rfl) ?_
    refine zq_ic hc hH (by rfl) (tg := 18) (by rfl) (fun h2 => ?_) (fun h2 => ?_)
    · have h2 : (decide ((μ.1 0 7) = 3)) = true := decide_eq_true (cm_eq9.mp h2)
      exact absurd (Eq.trans (Eq.symm (h3)) h2) (by decide)
    · have h2 : (decide ((μ.1 0 7) = 3)) = false := decide_eq_false (cn_eq.mp h2)
      refine z_rcs hc hH 1 (pc' := 17) (lv' := [(0, .ref 0)]) (st' := [.int 0]) (μ' := μ) (by rfl) ?_
      exact hr 0 17 _ _ _ (some (.int 0)) (by decide +kernel) (z_rx_ok hH (by rfl)) (⟨rfl, rfl⟩)
theorem gx_run (d : Nat) (hd : 4 ≤ d) (μ : zM) (y x : Int32) (hmc : ∀ d, 3 ≤ d → z_C d mi_X6_mayClaimSet [.ref 0, .int y] μ (zR μ (.int 0))) : z_C d mi_X6_run [.ref 0, .int y, .int x] μ (fun r μ' => r = some (.int 0) ∧ μ' = μ) := by
  refine z_C_in (by decide) (by omega) (fun d' Z ed hc hr => ?_)
  have hH : zH mi_X6_run zt_X6_run 79 6 6 := hh_X6_run
  refine z_rcs hc hH 2 (pc' := 2) (lv' := [(0, .ref 0), (1, .int y), (2, .int x)]) (st' := [.int y, .ref 0]) (μ' := μ) (by rfl) ?_
  refine zq_call hc (z_cx_ok hH (by rfl)) (hmc d' (by omega)) (by decide +kernel) (fun r9 μ9 hq => ?_)
  obtain ⟨hμ9, rfl⟩ := hq
  rw [hμ9]
  clear hμ9 μ9
  show Z 0 5 [(0, .ref 0), (1, .int y), (2, .int x)] [.int 0] μ
  refine z_rcs hc hH 2 (pc' := 28) (lv' := [(0, .ref 0), (1, .int y), (2, .int x)]) (st' := [.int 0]) (μ' := μ) (by rfl) ?_
  exact hr 0 28 _ _ _ (some (.int 0)) (by decide +kernel) (z_rx_ok hH (by rfl)) (⟨rfl, rfl⟩)
theorem gx_three (d : Nat) (hd : 4 ≤ d) (μ : zM) (y : Int32) (hmc : ∀ d, 3 ≤ d → z_C d mi_X6_mayClaimSet [.ref 0, .int y] μ (zR μ (.int 0))) : z_C d mi_X6_three [.ref 0, .int y] μ (fun r μ' => r = some (.int 0) ∧ μ' = μ) := by
  refine z_C_in (by decide) (by omega) (fun d' Z ed hc hr => ?_)
  have hH : zH mi_X6_three zt_X6_three 79 6 4 := hh_X6_three
  refine z_rcs hc hH 2 (pc' := 2) (lv' := [(0, .ref 0), (1, .int y)]) (st' := [.int y, .ref 0]) (μ' := μ) (by rfl) ?_
  refine zq_call hc (z_cx_ok hH (by rfl)) (hmc d' (by omega)) (by decide +kernel) (fun r9 μ9 hq => ?_)
  obtain ⟨hμ9, rfl⟩ := hq
  rw [hμ9]
  clear hμ9 μ9
  show Z 0 5 [(0, .ref 0), (1, .int y)] [.int 0] μ
  refine z_rcs hc hH 2 (pc' := 28) (lv' := [(0, .ref 0), (1, .int y)]) (st' := [.int 0]) (μ' := μ) (by rfl) ?_
  exact hr 0 28 _ _ _ (some (.int 0)) (by decide +kernel) (z_rx_ok hH (by rfl)) (⟨rfl, rfl⟩)
theorem gx_four (d : Nat) (hd : 4 ≤ d) (μ : zM) (y : Int32) (hmc : ∀ d, 3 ≤ d → z_C d mi_X6_mayClaimSet [.ref 0, .int y] μ (zR μ (.int 0))) : z_C d mi_X6_four [.ref 0, .int y] μ (fun r μ' => r = some (.int 0) ∧ μ' = μ) := by
  refine z_C_in (by decide) (by omega) (fun d' Z ed hc hr => ?_)
  have hH : zH mi_X6_four zt_X6_four 79 6 2 := hh_X6_four
  refine z_rcs hc hH 2 (pc' := 2) (lv' := [(0, .ref 0), (1, .int y)]) (st' := [.int y, .ref 0]) (μ' := μ) (by rfl) ?_
  refine zq_call hc (z_cx_ok hH (by rfl)) (hmc d' (by omega)) (by decide +kernel) (fun r9 μ9 hq => ?_)
  obtain ⟨hμ9, rfl⟩ := hq
  rw [hμ9]
  clear hμ9 μ9
  show Z 0 5 [(0, .ref 0), (1, .int y)] [.int 0] μ
  refine z_rcs hc hH 2 (pc' := 39) (lv' := [(0, .ref 0), (1, .int y)]) (st' := [.int 0]) (μ' := μ) (by rfl) ?_
  exact hr 0 39 _ _ _ (some (.int 0)) (by decide +kernel) (z_rx_ok hH (by rfl)) (⟨rfl, rfl⟩)
theorem gx_hide (d : Nat) (hd : 4 ≤ d) (μ : zM) (x : Int32) (hmm : ∀ d, 3 ≤ d → z_C d mi_X6_mayMakeFour [.ref 0] μ (zR μ (.int 0))) : z_C d mi_X6_hide [.ref 0, .int x] μ (fun r μ' => r = some (.int 0) ∧ μ' = μ) := by
  refine z_C_in (by decide) (by omega) (fun d' Z ed hc hr => ?_)
  have hH : zH mi_X6_hide zt_X6_hide 79 6 2 := hh_X6_hide
  refine z_rcs hc hH 1 (pc' := 1) (lv' := [(0, .ref 0), (1, .int x)]) (st' := [.ref 0]) (μ' := μ) (by rfl) ?_
  refine zq_call hc (z_cx_ok hH (by rfl)) (hmm d' (by omega)) (by decide +kernel) (fun r9 μ9 hq => ?_)
  obtain ⟨hμ9, rfl⟩ := hq
  rw [hμ9]
  clear hμ9 μ9
  show Z 0 4 [(0, .ref 0), (1, .int x)] [.int 0] μ
  refine z_rcs hc hH 2 (pc' := 27) (lv' := [(0, .ref 0), (1, .int x)]) (st' := [.int 0]) (μ' := μ) (by rfl) ?_
  exact hr 0 27 _ _ _ (some (.int 0)) (by decide +kernel) (z_rx_ok hH (by rfl)) (⟨rfl, rfl⟩)
theorem gx_add (d : Nat) (hd : 4 ≤ d) (μ : zM) (x : Int32) (hmm : ∀ d, 3 ≤ d → z_C d mi_X6_mayMakeFour [.ref 0] μ (zR μ (.int 0))) : z_C d mi_X6_add [.ref 0, .int x] μ (fun r μ' => r = some (.int 0) ∧ μ' = μ) := by
  refine z_C_in (by decide) (by omega) (fun d' Z ed hc hr => ?_)
  have hH : zH mi_X6_add zt_X6_add 79 6 2 := hh_X6_add
  refine z_rcs hc hH 1 (pc' := 1) (lv' := [(0, .ref 0), (1, .int x)]) (st' := [.ref 0]) (μ' := μ) (by rfl) ?_
  refine zq_call hc (z_cx_ok hH (by rfl)) (hmm d' (by omega)) (by decide +kernel) (fun r9 μ9 hq => ?_)
  obtain ⟨hμ9, rfl⟩ := hq
  rw [hμ9]
  clear hμ9 μ9
  show Z 0 4 [(0, .ref 0), (1, .int x)] [.int 0] μ
  refine z_rcs hc hH 2 (pc' := 26) (lv' := [(0, .ref 0), (1, .int x)]) (st' := [.int 0]) (μ' := μ) (by rfl) ?_
  exact hr 0 26 _ _ _ (some (.int 0)) (by decide +kernel) (z_rx_ok hH (by rfl)) (⟨rfl, rfl⟩)
theorem gx_hideF (d : Nat) (hd : 4 ≤ d) (μ : zM) (x : Int32) (t : Nat) (ht4 : t < 4) (ht : μ.1 0 8 = nI t) (hmm : ∀ d, 3 ≤ d → z_C d mi_X6_mayMakeFour [.ref 0] μ (zR μ (.int 1))) (hf : decide (4 ≤ fr μ (20 + 8 * t) x) = false) : z_C d mi_X6_hide [.ref 0, .int x] μ (fun r μ' => r = some (.int 0) ∧ μ' = μ) := by
  refine z_C_in (by decide) (by omega) (fun d' Z ed hc hr => ?_)
  have hH : zH mi_X6_hide zt_X6_hide 79 6 2 := hh_X6_hide
  refine z_rcs hc hH 1 (pc' := 1) (lv' := [(0, .ref 0), (1, .int x)]) (st' := [.ref 0]) (μ' := μ) (by rfl) ?_
  refine zq_call hc (z_cx_ok hH (by rfl)) (hmm d' (by omega)) (by decide +kernel) (fun r9 μ9 hq => ?_)
  obtain ⟨hμ9, rfl⟩ := hq
  rw [hμ9]
  clear hμ9 μ9
  show Z 0 4 [(0, .ref 0), (1, .int x)] [.int 1] μ
  refine z_rcs hc hH 3 (pc' := 9) (lv' := [(0, .ref 0), (1, .int x)]) (st' := [.ref 0, .ref 0]) (μ' := μ) (by rfl) ?_
  refine zq_gfi hc hH (by rfl) (ci := 5) (f := 8) (by rfl) (by decide +kernel) (by rfl) ?_
  rw [ht]
  refine zq_call hc (z_cx_ok hH (by rfl)) (gc_at4 d' (by omega) μ t ht4) (by decide +kernel) (fun r9 μ9 hq => ?_)
  obtain ⟨hμ9, rfl⟩ := hq
  rw [hμ9]
  clear hμ9 μ9
  show Z 0 15 [(0, .ref 0), (1, .int x)] [.ref (18 + 8 * t)] μ
  refine zq_gfr hc hH (by rfl) (ci := 1) (f := 0) (q := 19 + 8 * t) (by rfl) (sj (P := fun i => okf 79 1 0 (18 + 8 * i)) ht4 (by decide +kernel)) (by rfl) (sj (P := fun i => Nat.beq (z_gr (18 + 8 * i) 0) (19 + 8 * i)) ht4 (by decide +kernel)) ?_
  refine z_rcs hc hH 1 (pc' := 19) (lv' := [(0, .ref 0), (1, .int x)]) (st' := [.int x, .ref (19 + 8 * t)]) (μ' := μ) (by rfl) ?_
  refine zq_call hc (z_clv9 hH (by rfl) (by rfl) (by rfl) (by rfl) (sj (P := fun i => okr 79 2 (19 + 8 * i)) ht4 (by decide +kernel)) (by rfl) (by rfl)) (gc_free d' (by omega) μ t ht4 x) (by decide +kernel) (fun r9 μ9 hq => ?_)
  obtain ⟨hμ9, rfl⟩ := hq
  rw [hμ9]
  clear hμ9 μ9
  show Z 0 22 [(0, .ref 0), (1, .int x)] [.int (fr μ (20 + 8 * t) x)] μ
  refine z_rcs hc hH 1 (pc' := 23) (lv' := [(0, .ref 0), (1, .int x)]) (st' := [.int 4, .int (fr μ (20 + 8 * t) x)]) (μ' := μ) (by rfl) ?_
  refine zq_ic hc hH (by rfl) (tg := 28) (by rfl) (fun h1 => ?_) (fun h1 => ?_)
  · have h1 : (decide (4 ≤ (fr μ (20 + 8 * t) x))) = true := decide_eq_true (cm_ge.mp h1)
    exact absurd (Eq.trans (Eq.symm (hf)) h1) (by decide)
  · have h1 : (decide (4 ≤ (fr μ (20 + 8 * t) x))) = false := decide_eq_false (cn_ge.mp h1)
    refine z_rcs hc hH 1 (pc' := 27) (lv' := [(0, .ref 0), (1, .int x)]) (st' := [.int 0]) (μ' := μ) (by rfl) ?_
    exact hr 0 27 _ _ _ (some (.int 0)) (by decide +kernel) (z_rx_ok hH (by rfl)) (⟨rfl, rfl⟩)
theorem gx_winP (d : Nat) (hd : 2 ≤ d) (μ : zM) (hp : decide (μ.1 0 7 = 1) = false) : z_C d mi_X6_win [.ref 0] μ (fun r μ' => r = some (.int 0) ∧ μ' = μ) := by
  refine z_C_in (by decide) (by omega) (fun d' Z ed hc hr => ?_)
  have hH : zH mi_X6_win zt_X6_win 79 6 6 := hh_X6_win
  refine z_rcs hc hH 1 (pc' := 1) (lv' := [(0, .ref 0)]) (st' := [.ref 0]) (μ' := μ) (by rfl) ?_
  refine zq_gfi hc hH (by rfl) (ci := 5) (f := 7) (by rfl) (by decide +kernel) (by rfl) ?_
  refine z_rcs hc hH 1 (pc' := 5) (lv' := [(0, .ref 0)]) (st' := [.int 1, .int (μ.1 0 7)]) (μ' := μ) (by rfl) ?_
  refine zq_ic hc hH (by rfl) (tg := 28) (by rfl) (fun h1 => ?_) (fun h1 => ?_)
  · have h1 : (decide ((μ.1 0 7) = 1)) = false := decide_eq_false (cm_ne.mp h1)
    refine z_rcs hc hH 1 (pc' := 29) (lv' := [(0, .ref 0)]) (st' := [.int 0]) (μ' := μ) (by rfl) ?_
    exact hr 0 29 _ _ _ (some (.int 0)) (by decide +kernel) (z_rx_ok hH (by rfl)) (⟨rfl, rfl⟩)
  · have h1 : (decide ((μ.1 0 7) = 1)) = true := decide_eq_true (cn_ne.mp h1)
    exact absurd (Eq.trans (Eq.symm (hp)) h1) (by decide)
theorem gx_winT (d : Nat) (hd : 2 ≤ d) (μ : zM) (hp : decide (μ.1 0 7 = 1) = true) (h15 : decide (μ.1 0 15 = -1) = true) : z_C d mi_X6_win [.ref 0] μ (fun r μ' => r = some (.int 0) ∧ μ' = μ) := by
  refine z_C_in (by decide) (by omega) (fun d' Z ed hc hr => ?_)
  have hH : zH mi_X6_win zt_X6_win 79 6 6 := hh_X6_win
  refine z_rcs hc hH 1 (pc' := 1) (lv' := [(0, .ref 0)]) (st' := [.ref 0]) (μ' := μ) (by rfl) ?_
  refine zq_gfi hc hH (by rfl) (ci := 5) (f := 7) (by rfl) (by decide +kernel) (by rfl) ?_
  refine z_rcs hc hH 1 (pc' := 5) (lv' := [(0, .ref 0)]) (st' := [.int 1, .int (μ.1 0 7)]) (μ' := μ) (by rfl) ?_
  refine zq_ic hc hH (by rfl) (tg := 28) (by rfl) (fun h1 => ?_) (fun h1 => ?_)
  · have h1 : (decide ((μ.1 0 7) = 1)) = false := decide_eq_false (cm_ne.mp h1)
    exact absurd (Eq.trans (Eq.symm (hp)) h1) (by decide)
  · have h1 : (decide ((μ.1 0 7) = 1)) = true := decide_eq_true (cn_ne.mp h1)
    refine z_rcs hc hH 1 (pc' := 9) (lv' := [(0, .ref 0)]) (st' := [.ref 0]) (μ' := μ) (by rfl) ?_
    refine zq_gfi hc hH (by rfl) (ci := 5) (f := 15) (by rfl) (by decide +kernel) (by rfl) ?_
    refine z_rcs hc hH 1 (pc' := 13) (lv' := [(0, .ref 0)]) (st' := [.int (-1), .int (μ.1 0 15)]) (μ' := μ) (by rfl) ?_
    refine zq_ic hc hH (by rfl) (tg := 28) (by rfl) (fun h2 => ?_) (fun h2 => ?_)
    · have h2 : (decide ((μ.1 0 15) = (-1))) = true := decide_eq_true (cm_eq9.mp h2)
      refine z_rcs hc hH 1 (pc' := 29) (lv' := [(0, .ref 0)]) (st' := [.int 0]) (μ' := μ) (by rfl) ?_
      exact hr 0 29 _ _ _ (some (.int 0)) (by decide +kernel) (z_rx_ok hH (by rfl)) (⟨rfl, rfl⟩)
    · have h2 : (decide ((μ.1 0 15) = (-1))) = false := decide_eq_false (cn_eq.mp h2)
      exact absurd (Eq.trans (Eq.symm (h15)) h2) (by decide)
theorem gx_claimP (d : Nat) (hd : 2 ≤ d) (μ : zM) (y : Int32) (h2 : decide (μ.1 0 7 = 2) = false) (h3 : decide (μ.1 0 7 = 3) = false) : z_C d mi_X6_claim [.ref 0, .int y] μ (fun r μ' => r = some (.int 0) ∧ μ' = μ) := by
  refine z_C_in (by decide) (by omega) (fun d' Z ed hc hr => ?_)
  have hH : zH mi_X6_claim zt_X6_claim 79 6 5 := hh_X6_claim
  refine z_rcs hc hH 1 (pc' := 1) (lv' := [(0, .ref 0), (1, .int y)]) (st' := [.ref 0]) (μ' := μ) (by rfl) ?_
  refine zq_gfi hc hH (by rfl) (ci := 5) (f := 7) (by rfl) (by decide +kernel) (by rfl) ?_
  refine z_rcs hc hH 1 (pc' := 5) (lv' := [(0, .ref 0), (1, .int y)]) (st' := [.int 2, .int (μ.1 0 7)]) (μ' := μ) (by rfl) ?_
  refine zq_ic hc hH (by rfl) (tg := 16) (by rfl) (fun h1 => ?_) (fun h1 => ?_)
  · have h1 : (decide ((μ.1 0 7) = 2)) = true := decide_eq_true (cm_eq9.mp h1)
    exact absurd (Eq.trans (Eq.symm (h2)) h1) (by decide)
  · have h1 : (decide ((μ.1 0 7) = 2)) = false := decide_eq_false (cn_eq.mp h1)
    refine z_rcs hc hH 1 (pc' := 9) (lv' := [(0, .ref 0), (1, .int y)]) (st' := [.ref 0]) (μ' := μ) (by rfl) ?_
    refine zq_gfi hc hH (by rfl) (ci := 5) (f := 7) (by rfl) (by decide +kernel) (by rfl) ?_
    refine z_rcs hc hH 1 (pc' := 13) (lv' := [(0, .ref 0), (1, .int y)]) (st' := [.int 3, .int (μ.1 0 7)]) (μ' := μ) (by rfl) ?_
    refine zq_ic hc hH (by rfl) (tg := 31) (by rfl) (fun h2 => ?_) (fun h2 => ?_)
    · have h2 : (decide ((μ.1 0 7) = 3)) = false := decide_eq_false (cm_ne.mp h2)
      refine z_rcs hc hH 1 (pc' := 32) (lv' := [(0, .ref 0), (1, .int y)]) (st' := [.int 0]) (μ' := μ) (by rfl) ?_
      exact hr 0 32 _ _ _ (some (.int 0)) (by decide +kernel) (z_rx_ok hH (by rfl)) (⟨rfl, rfl⟩)
    · have h2 : (decide ((μ.1 0 7) = 3)) = true := decide_eq_true (cn_ne.mp h2)
      exact absurd (Eq.trans (Eq.symm (h3)) h2) (by decide)
theorem gx_claimS (d : Nat) (hd : 2 ≤ d) (μ : zM) (y : Int32) (hs : ∀ d, 1 ≤ d → z_C d mi_X6_isSeat [.int y] μ (zR μ (.int 0))) : z_C d mi_X6_claim [.ref 0, .int y] μ (fun r μ' => r = some (.int 0) ∧ μ' = μ) := by
  refine z_C_in (by decide) (by omega) (fun d' Z ed hc hr => ?_)
  have hH : zH mi_X6_claim zt_X6_claim 79 6 5 := hh_X6_claim
  refine z_rcs hc hH 1 (pc' := 1) (lv' := [(0, .ref 0), (1, .int y)]) (st' := [.ref 0]) (μ' := μ) (by rfl) ?_
  refine zq_gfi hc hH (by rfl) (ci := 5) (f := 7) (by rfl) (by decide +kernel) (by rfl) ?_
  refine z_rcs hc hH 1 (pc' := 5) (lv' := [(0, .ref 0), (1, .int y)]) (st' := [.int 2, .int (μ.1 0 7)]) (μ' := μ) (by rfl) ?_
  refine zq_ic hc hH (by rfl) (tg := 16) (by rfl) (fun h1 => ?_) (fun h1 => ?_)
  · have h1 : (decide ((μ.1 0 7) = 2)) = true := decide_eq_true (cm_eq9.mp h1)
    refine z_rcs hc hH 1 (pc' := 17) (lv' := [(0, .ref 0), (1, .int y)]) (st' := [.int y]) (μ' := μ) (by rfl) ?_
    refine zq_call hc (z_cx_ok hH (by rfl)) (hs d' (by omega)) (by decide +kernel) (fun r9 μ9 hq => ?_)
    obtain ⟨hμ9, rfl⟩ := hq
    rw [hμ9]
    clear hμ9 μ9
    show Z 0 20 [(0, .ref 0), (1, .int y)] [.int 0] μ
    refine z_rcs hc hH 2 (pc' := 32) (lv' := [(0, .ref 0), (1, .int y)]) (st' := [.int 0]) (μ' := μ) (by rfl) ?_
    exact hr 0 32 _ _ _ (some (.int 0)) (by decide +kernel) (z_rx_ok hH (by rfl)) (⟨rfl, rfl⟩)
  · have h1 : (decide ((μ.1 0 7) = 2)) = false := decide_eq_false (cn_eq.mp h1)
    refine z_rcs hc hH 1 (pc' := 9) (lv' := [(0, .ref 0), (1, .int y)]) (st' := [.ref 0]) (μ' := μ) (by rfl) ?_
    refine zq_gfi hc hH (by rfl) (ci := 5) (f := 7) (by rfl) (by decide +kernel) (by rfl) ?_
    refine z_rcs hc hH 1 (pc' := 13) (lv' := [(0, .ref 0), (1, .int y)]) (st' := [.int 3, .int (μ.1 0 7)]) (μ' := μ) (by rfl) ?_
    refine zq_ic hc hH (by rfl) (tg := 31) (by rfl) (fun h2 => ?_) (fun h2 => ?_)
    · have h2 : (decide ((μ.1 0 7) = 3)) = false := decide_eq_false (cm_ne.mp h2)
      refine z_rcs hc hH 1 (pc' := 32) (lv' := [(0, .ref 0), (1, .int y)]) (st' := [.int 0]) (μ' := μ) (by rfl) ?_
      exact hr 0 32 _ _ _ (some (.int 0)) (by decide +kernel) (z_rx_ok hH (by rfl)) (⟨rfl, rfl⟩)
    · have h2 : (decide ((μ.1 0 7) = 3)) = true := decide_eq_true (cn_ne.mp h2)
      refine z_rcs hc hH 1 (pc' := 17) (lv' := [(0, .ref 0), (1, .int y)]) (st' := [.int y]) (μ' := μ) (by rfl) ?_
      refine zq_call hc (z_cx_ok hH (by rfl)) (hs d' (by omega)) (by decide +kernel) (fun r9 μ9 hq => ?_)
      obtain ⟨hμ9, rfl⟩ := hq
      rw [hμ9]
      clear hμ9 μ9
      show Z 0 20 [(0, .ref 0), (1, .int y)] [.int 0] μ
      refine z_rcs hc hH 2 (pc' := 32) (lv' := [(0, .ref 0), (1, .int y)]) (st' := [.int 0]) (μ' := μ) (by rfl) ?_
      exact hr 0 32 _ _ _ (some (.int 0)) (by decide +kernel) (z_rx_ok hH (by rfl)) (⟨rfl, rfl⟩)
theorem gx_dealP (d : Nat) (hd : 2 ≤ d) (μ : zM) (sd : Int64) (hp : decide (μ.1 0 7 = 0) = false) : z_C d mi_X6_deal [.ref 0, .long sd] μ (fun r μ' => r = some (.int 0) ∧ μ' = μ) := by
  refine z_C_in (by decide) (by omega) (fun d' Z ed hc hr => ?_)
  have hH : zH mi_X6_deal zt_X6_deal 79 6 6 := hh_X6_deal
  refine z_rcs hc hH 1 (pc' := 1) (lv' := [(0, .ref 0), (1, .long sd)]) (st' := [.ref 0]) (μ' := μ) (by rfl) ?_
  refine zq_gfi hc hH (by rfl) (ci := 5) (f := 7) (by rfl) (by decide +kernel) (by rfl) ?_
  refine zq_if hc hH (by rfl) (tg := 14) (by rfl) (fun h1 => ?_) (fun h1 => ?_)
  · have h1 : (decide ((μ.1 0 7) = 0)) = false := decide_eq_false (cm_ne.mp h1)
    refine z_rcs hc hH 1 (pc' := 15) (lv' := [(0, .ref 0), (1, .long sd)]) (st' := [.int 0]) (μ' := μ) (by rfl) ?_
    exact hr 0 15 _ _ _ (some (.int 0)) (by decide +kernel) (z_rx_ok hH (by rfl)) (⟨rfl, rfl⟩)
  · have h1 : (decide ((μ.1 0 7) = 0)) = true := decide_eq_true (cn_ne.mp h1)
    exact absurd (Eq.trans (Eq.symm (hp)) h1) (by decide)
theorem gx_dealE (d : Nat) (hd : 2 ≤ d) (μ : zM) (sd : Int64) (hp : decide (μ.1 0 7 = 0) = true) (he : decide (μ.1 0 13 = 0) = false) : z_C d mi_X6_deal [.ref 0, .long sd] μ (fun r μ' => r = some (.int 0) ∧ μ' = μ) := by
  refine z_C_in (by decide) (by omega) (fun d' Z ed hc hr => ?_)
  have hH : zH mi_X6_deal zt_X6_deal 79 6 6 := hh_X6_deal
  refine z_rcs hc hH 1 (pc' := 1) (lv' := [(0, .ref 0), (1, .long sd)]) (st' := [.ref 0]) (μ' := μ) (by rfl) ?_
  refine zq_gfi hc hH (by rfl) (ci := 5) (f := 7) (by rfl) (by decide +kernel) (by rfl) ?_
  refine zq_if hc hH (by rfl) (tg := 14) (by rfl) (fun h1 => ?_) (fun h1 => ?_)
  · have h1 : (decide ((μ.1 0 7) = 0)) = false := decide_eq_false (cm_ne.mp h1)
    exact absurd (Eq.trans (Eq.symm (hp)) h1) (by decide)
  · have h1 : (decide ((μ.1 0 7) = 0)) = true := decide_eq_true (cn_ne.mp h1)
    refine z_rcs hc hH 1 (pc' := 8) (lv' := [(0, .ref 0), (1, .long sd)]) (st' := [.ref 0]) (μ' := μ) (by rfl) ?_
    refine zq_gfi hc hH (by rfl) (ci := 5) (f := 13) (by rfl) (by decide +kernel) (by rfl) ?_
    refine zq_if hc hH (by rfl) (tg := 16) (by rfl) (fun h2 => ?_) (fun h2 => ?_)
    · have h2 : (decide ((μ.1 0 13) = 0)) = true := decide_eq_true (cm_eq9.mp h2)
      exact absurd (Eq.trans (Eq.symm (he)) h2) (by decide)
    · have h2 : (decide ((μ.1 0 13) = 0)) = false := decide_eq_false (cn_eq.mp h2)
      refine z_rcs hc hH 1 (pc' := 15) (lv' := [(0, .ref 0), (1, .long sd)]) (st' := [.int 0]) (μ' := μ) (by rfl) ?_
      exact hr 0 15 _ _ _ (some (.int 0)) (by decide +kernel) (z_rx_ok hH (by rfl)) (⟨rfl, rfl⟩)
theorem mr_discP (d : Nat) (hd : 2 ≤ d) (μ : zM) (x b : Int32) (hp : decide (μ.1 50 44 = 1) = false) : z_C d mi_X7_discard [.ref 50, .int x, .int b] μ (fun r μ' => r = some (.int 0) ∧ μ' = z_ui μ 50 0 0) := by
  refine z_C_in (by decide) (by omega) (fun d' Z ed hc hr => ?_)
  have hH : zH mi_X7_discard zt_X7_discard 79 7 5 := hh_X7_discard
  refine z_rcs hc hH 2 (pc' := 2) (lv' := [(0, .ref 50), (1, .int x), (2, .int b)]) (st' := [.int 0, .ref 50]) (μ' := μ) (by rfl) ?_
  refine zq_pfi hc hH (by rfl) (ci := 6) (f := 0) (by rfl) (by decide +kernel) (by rfl) ?_
  show Z 0 5 [(0, .ref 50), (1, .int x), (2, .int b)] [] (z_ui μ 50 0 0)
  refine z_rcs hc hH 1 (pc' := 6) (lv' := [(0, .ref 50), (1, .int x), (2, .int b)]) (st' := [.ref 50]) (μ' := z_ui μ 50 0 0) (by rfl) ?_
  refine zq_gfi hc hH (by rfl) (ci := 6) (f := 44) (by rfl) (by decide +kernel) (by rfl) ?_
  refine zV1 (Z := Z) (ui_k (by first | decide | omega)) ?_
  refine z_rcs hc hH 1 (pc' := 10) (lv' := [(0, .ref 50), (1, .int x), (2, .int b)]) (st' := [.int 1, .int (μ.1 50 44)]) (μ' := z_ui μ 50 0 0) (by rfl) ?_
  refine zq_ic hc hH (by rfl) (tg := 32) (by rfl) (fun h1 => ?_) (fun h1 => ?_)
  · have h1 : (decide ((μ.1 50 44) = 1)) = false := decide_eq_false (cm_ne.mp h1)
    refine z_rcs hc hH 1 (pc' := 33) (lv' := [(0, .ref 50), (1, .int x), (2, .int b)]) (st' := [.int 0]) (μ' := z_ui μ 50 0 0) (by rfl) ?_
    exact hr 0 33 _ _ _ (some (.int 0)) (by decide +kernel) (z_rx_ok hH (by rfl)) (⟨rfl, rfl⟩)
  · have h1 : (decide ((μ.1 50 44) = 1)) = true := decide_eq_true (cn_ne.mp h1)
    exact absurd (Eq.trans (Eq.symm (hp)) h1) (by decide)
theorem mr_discK (d : Nat) (hd : 2 ≤ d) (μ : zM) (x b : Int32) (hk : ∀ d, 1 ≤ d → z_C d mi_X7_isKind [.int x] (z_ui μ 50 0 0) (zR (z_ui μ 50 0 0) (.int 0))) : z_C d mi_X7_discard [.ref 50, .int x, .int b] μ (fun r μ' => r = some (.int 0) ∧ μ' = z_ui μ 50 0 0) := by
  refine z_C_in (by decide) (by omega) (fun d' Z ed hc hr => ?_)
  have hH : zH mi_X7_discard zt_X7_discard 79 7 5 := hh_X7_discard
  refine z_rcs hc hH 2 (pc' := 2) (lv' := [(0, .ref 50), (1, .int x), (2, .int b)]) (st' := [.int 0, .ref 50]) (μ' := μ) (by rfl) ?_
  refine zq_pfi hc hH (by rfl) (ci := 6) (f := 0) (by rfl) (by decide +kernel) (by rfl) ?_
  show Z 0 5 [(0, .ref 50), (1, .int x), (2, .int b)] [] (z_ui μ 50 0 0)
  refine z_rcs hc hH 1 (pc' := 6) (lv' := [(0, .ref 50), (1, .int x), (2, .int b)]) (st' := [.ref 50]) (μ' := z_ui μ 50 0 0) (by rfl) ?_
  refine zq_gfi hc hH (by rfl) (ci := 6) (f := 44) (by rfl) (by decide +kernel) (by rfl) ?_
  refine zV1 (Z := Z) (ui_k (by first | decide | omega)) ?_
  refine z_rcs hc hH 1 (pc' := 10) (lv' := [(0, .ref 50), (1, .int x), (2, .int b)]) (st' := [.int 1, .int (μ.1 50 44)]) (μ' := z_ui μ 50 0 0) (by rfl) ?_
  refine zq_ic hc hH (by rfl) (tg := 32) (by rfl) (fun h1 => ?_) (fun h1 => ?_)
  · have h1 : (decide ((μ.1 50 44) = 1)) = false := decide_eq_false (cm_ne.mp h1)
    refine z_rcs hc hH 1 (pc' := 33) (lv' := [(0, .ref 50), (1, .int x), (2, .int b)]) (st' := [.int 0]) (μ' := z_ui μ 50 0 0) (by rfl) ?_
    exact hr 0 33 _ _ _ (some (.int 0)) (by decide +kernel) (z_rx_ok hH (by rfl)) (⟨rfl, rfl⟩)
  · have h1 : (decide ((μ.1 50 44) = 1)) = true := decide_eq_true (cn_ne.mp h1)
    refine z_rcs hc hH 1 (pc' := 14) (lv' := [(0, .ref 50), (1, .int x), (2, .int b)]) (st' := [.int x]) (μ' := z_ui μ 50 0 0) (by rfl) ?_
    refine zq_call hc (z_cx_ok hH (by rfl)) (hk d' (by omega)) (by decide +kernel) (fun r9 μ9 hq => ?_)
    obtain ⟨hμ9, rfl⟩ := hq
    rw [hμ9]
    clear hμ9 μ9
    show Z 0 17 [(0, .ref 50), (1, .int x), (2, .int b)] [.int 0] (z_ui μ 50 0 0)
    refine z_rcs hc hH 2 (pc' := 33) (lv' := [(0, .ref 50), (1, .int x), (2, .int b)]) (st' := [.int 0]) (μ' := z_ui μ 50 0 0) (by rfl) ?_
    exact hr 0 33 _ _ _ (some (.int 0)) (by decide +kernel) (z_rx_ok hH (by rfl)) (⟨rfl, rfl⟩)
theorem mr_pass (d : Nat) (hd : 2 ≤ d) (μ : zM) (hp : decide (2 ≤ μ.1 50 44) = false) : z_C d mi_X7_pass [.ref 50] μ (fun r μ' => r = some (.int 0) ∧ μ' = z_ui μ 50 0 0) := by
  refine z_C_in (by decide) (by omega) (fun d' Z ed hc hr => ?_)
  have hH : zH mi_X7_pass zt_X7_pass 79 7 2 := hh_X7_pass
  refine z_rcs hc hH 2 (pc' := 2) (lv' := [(0, .ref 50)]) (st' := [.int 0, .ref 50]) (μ' := μ) (by rfl) ?_
  refine zq_pfi hc hH (by rfl) (ci := 6) (f := 0) (by rfl) (by decide +kernel) (by rfl) ?_
  show Z 0 5 [(0, .ref 50)] [] (z_ui μ 50 0 0)
  refine z_rcs hc hH 1 (pc' := 6) (lv' := [(0, .ref 50)]) (st' := [.ref 50]) (μ' := z_ui μ 50 0 0) (by rfl) ?_
  refine zq_gfi hc hH (by rfl) (ci := 6) (f := 44) (by rfl) (by decide +kernel) (by rfl) ?_
  refine zV1 (Z := Z) (ui_k (by first | decide | omega)) ?_
  refine z_rcs hc hH 1 (pc' := 10) (lv' := [(0, .ref 50)]) (st' := [.int 2, .int (μ.1 50 44)]) (μ' := z_ui μ 50 0 0) (by rfl) ?_
  refine zq_ic hc hH (by rfl) (tg := 15) (by rfl) (fun h1 => ?_) (fun h1 => ?_)
  · have h1 : (decide (2 ≤ (μ.1 50 44))) = true := decide_eq_true (cm_ge.mp h1)
    exact absurd (Eq.trans (Eq.symm (hp)) h1) (by decide)
  · have h1 : (decide (2 ≤ (μ.1 50 44))) = false := decide_eq_false (cn_ge.mp h1)
    refine z_rcs hc hH 1 (pc' := 14) (lv' := [(0, .ref 50)]) (st' := [.int 0]) (μ' := z_ui μ 50 0 0) (by rfl) ?_
    exact hr 0 14 _ _ _ (some (.int 0)) (by decide +kernel) (z_rx_ok hH (by rfl)) (⟨rfl, rfl⟩)
theorem mr_run (d : Nat) (hd : 3 ≤ d) (μ : zM) (y x : Int32) (hmc : ∀ d, 2 ≤ d → z_C d mi_X7_mayClaim [.ref 50, .int y] (z_ui μ 50 0 0) (zR (z_ui μ 50 0 0) (.int 0))) : z_C d mi_X7_run [.ref 50, .int y, .int x] μ (fun r μ' => r = some (.int 0) ∧ μ' = z_ui μ 50 0 0) := by
  refine z_C_in (by decide) (by omega) (fun d' Z ed hc hr => ?_)
  have hH : zH mi_X7_run zt_X7_run 79 7 5 := hh_X7_run
  refine z_rcs hc hH 2 (pc' := 2) (lv' := [(0, .ref 50), (1, .int y), (2, .int x)]) (st' := [.int 0, .ref 50]) (μ' := μ) (by rfl) ?_
  refine zq_pfi hc hH (by rfl) (ci := 6) (f := 0) (by rfl) (by decide +kernel) (by rfl) ?_
  show Z 0 5 [(0, .ref 50), (1, .int y), (2, .int x)] [] (z_ui μ 50 0 0)
  refine z_rcs hc hH 2 (pc' := 7) (lv' := [(0, .ref 50), (1, .int y), (2, .int x)]) (st' := [.int y, .ref 50]) (μ' := z_ui μ 50 0 0) (by rfl) ?_
  refine zq_call hc (z_cx_ok hH (by rfl)) (hmc d' (by omega)) (by decide +kernel) (fun r9 μ9 hq => ?_)
  obtain ⟨hμ9, rfl⟩ := hq
  rw [hμ9]
  clear hμ9 μ9
  show Z 0 10 [(0, .ref 50), (1, .int y), (2, .int x)] [.int 0] (z_ui μ 50 0 0)
  refine z_rcs hc hH 2 (pc' := 51) (lv' := [(0, .ref 50), (1, .int y), (2, .int x)]) (st' := [.int 0]) (μ' := z_ui μ 50 0 0) (by rfl) ?_
  exact hr 0 51 _ _ _ (some (.int 0)) (by decide +kernel) (z_rx_ok hH (by rfl)) (⟨rfl, rfl⟩)
theorem mr_three (d : Nat) (hd : 3 ≤ d) (μ : zM) (y : Int32) (hmc : ∀ d, 2 ≤ d → z_C d mi_X7_mayClaim [.ref 50, .int y] (z_ui μ 50 0 0) (zR (z_ui μ 50 0 0) (.int 0))) : z_C d mi_X7_three [.ref 50, .int y] μ (fun r μ' => r = some (.int 0) ∧ μ' = z_ui μ 50 0 0) := by
  refine z_C_in (by decide) (by omega) (fun d' Z ed hc hr => ?_)
  have hH : zH mi_X7_three zt_X7_three 79 7 3 := hh_X7_three
  refine z_rcs hc hH 2 (pc' := 2) (lv' := [(0, .ref 50), (1, .int y)]) (st' := [.int 0, .ref 50]) (μ' := μ) (by rfl) ?_
  refine zq_pfi hc hH (by rfl) (ci := 6) (f := 0) (by rfl) (by decide +kernel) (by rfl) ?_
  show Z 0 5 [(0, .ref 50), (1, .int y)] [] (z_ui μ 50 0 0)
  refine z_rcs hc hH 2 (pc' := 7) (lv' := [(0, .ref 50), (1, .int y)]) (st' := [.int y, .ref 50]) (μ' := z_ui μ 50 0 0) (by rfl) ?_
  refine zq_call hc (z_cx_ok hH (by rfl)) (hmc d' (by omega)) (by decide +kernel) (fun r9 μ9 hq => ?_)
  obtain ⟨hμ9, rfl⟩ := hq
  rw [hμ9]
  clear hμ9 μ9
  show Z 0 10 [(0, .ref 50), (1, .int y)] [.int 0] (z_ui μ 50 0 0)
  refine z_rcs hc hH 2 (pc' := 27) (lv' := [(0, .ref 50), (1, .int y)]) (st' := [.int 0]) (μ' := z_ui μ 50 0 0) (by rfl) ?_
  exact hr 0 27 _ _ _ (some (.int 0)) (by decide +kernel) (z_rx_ok hH (by rfl)) (⟨rfl, rfl⟩)
theorem mr_four (d : Nat) (hd : 3 ≤ d) (μ : zM) (y : Int32) (hmc : ∀ d, 2 ≤ d → z_C d mi_X7_mayClaim [.ref 50, .int y] (z_ui μ 50 0 0) (zR (z_ui μ 50 0 0) (.int 0))) : z_C d mi_X7_four [.ref 50, .int y] μ (fun r μ' => r = some (.int 0) ∧ μ' = z_ui μ 50 0 0) := by
  refine z_C_in (by decide) (by omega) (fun d' Z ed hc hr => ?_)
  have hH : zH mi_X7_four zt_X7_four 79 7 2 := hh_X7_four
  refine z_rcs hc hH 2 (pc' := 2) (lv' := [(0, .ref 50), (1, .int y)]) (st' := [.int 0, .ref 50]) (μ' := μ) (by rfl) ?_
  refine zq_pfi hc hH (by rfl) (ci := 6) (f := 0) (by rfl) (by decide +kernel) (by rfl) ?_
  show Z 0 5 [(0, .ref 50), (1, .int y)] [] (z_ui μ 50 0 0)
  refine z_rcs hc hH 2 (pc' := 7) (lv' := [(0, .ref 50), (1, .int y)]) (st' := [.int y, .ref 50]) (μ' := z_ui μ 50 0 0) (by rfl) ?_
  refine zq_call hc (z_cx_ok hH (by rfl)) (hmc d' (by omega)) (by decide +kernel) (fun r9 μ9 hq => ?_)
  obtain ⟨hμ9, rfl⟩ := hq
  rw [hμ9]
  clear hμ9 μ9
  show Z 0 10 [(0, .ref 50), (1, .int y)] [.int 0] (z_ui μ 50 0 0)
  refine z_rcs hc hH 2 (pc' := 35) (lv' := [(0, .ref 50), (1, .int y)]) (st' := [.int 0]) (μ' := z_ui μ 50 0 0) (by rfl) ?_
  exact hr 0 35 _ _ _ (some (.int 0)) (by decide +kernel) (z_rx_ok hH (by rfl)) (⟨rfl, rfl⟩)
theorem mr_hide (d : Nat) (hd : 3 ≤ d) (μ : zM) (x : Int32) (hmm : ∀ d, 2 ≤ d → z_C d mi_X7_mayMake [.ref 50] (z_ui μ 50 0 0) (zR (z_ui μ 50 0 0) (.int 0))) : z_C d mi_X7_hide [.ref 50, .int x] μ (fun r μ' => r = some (.int 0) ∧ μ' = z_ui μ 50 0 0) := by
  refine z_C_in (by decide) (by omega) (fun d' Z ed hc hr => ?_)
  have hH : zH mi_X7_hide zt_X7_hide 79 7 2 := hh_X7_hide
  refine z_rcs hc hH 2 (pc' := 2) (lv' := [(0, .ref 50), (1, .int x)]) (st' := [.int 0, .ref 50]) (μ' := μ) (by rfl) ?_
  refine zq_pfi hc hH (by rfl) (ci := 6) (f := 0) (by rfl) (by decide +kernel) (by rfl) ?_
  show Z 0 5 [(0, .ref 50), (1, .int x)] [] (z_ui μ 50 0 0)
  refine z_rcs hc hH 1 (pc' := 6) (lv' := [(0, .ref 50), (1, .int x)]) (st' := [.ref 50]) (μ' := z_ui μ 50 0 0) (by rfl) ?_
  refine zq_call hc (z_cx_ok hH (by rfl)) (hmm d' (by omega)) (by decide +kernel) (fun r9 μ9 hq => ?_)
  obtain ⟨hμ9, rfl⟩ := hq
  rw [hμ9]
  clear hμ9 μ9
  show Z 0 9 [(0, .ref 50), (1, .int x)] [.int 0] (z_ui μ 50 0 0)
  refine z_rcs hc hH 2 (pc' := 33) (lv' := [(0, .ref 50), (1, .int x)]) (st' := [.int 0]) (μ' := z_ui μ 50 0 0) (by rfl) ?_
  exact hr 0 33 _ _ _ (some (.int 0)) (by decide +kernel) (z_rx_ok hH (by rfl)) (⟨rfl, rfl⟩)
theorem mr_hideK (d : Nat) (hd : 3 ≤ d) (μ : zM) (x : Int32) (hmm : ∀ d, 2 ≤ d → z_C d mi_X7_mayMake [.ref 50] (z_ui μ 50 0 0) (zR (z_ui μ 50 0 0) (.int 1))) (hk : ∀ d, 1 ≤ d → z_C d mi_X7_isKind [.int x] (z_ui μ 50 0 0) (zR (z_ui μ 50 0 0) (.int 0))) : z_C d mi_X7_hide [.ref 50, .int x] μ (fun r μ' => r = some (.int 0) ∧ μ' = z_ui μ 50 0 0) := by
  refine z_C_in (by decide) (by omega) (fun d' Z ed hc hr => ?_)
  have hH : zH mi_X7_hide zt_X7_hide 79 7 2 := hh_X7_hide
  refine z_rcs hc hH 2 (pc' := 2) (lv' := [(0, .ref 50), (1, .int x)]) (st' := [.int 0, .ref 50]) (μ' := μ) (by rfl) ?_
  refine zq_pfi hc hH (by rfl) (ci := 6) (f := 0) (by rfl) (by decide +kernel) (by rfl) ?_
  show Z 0 5 [(0, .ref 50), (1, .int x)] [] (z_ui μ 50 0 0)
  refine z_rcs hc hH 1 (pc' := 6) (lv' := [(0, .ref 50), (1, .int x)]) (st' := [.ref 50]) (μ' := z_ui μ 50 0 0) (by rfl) ?_
  refine zq_call hc (z_cx_ok hH (by rfl)) (hmm d' (by omega)) (by decide +kernel) (fun r9 μ9 hq => ?_)
  obtain ⟨hμ9, rfl⟩ := hq
  rw [hμ9]
  clear hμ9 μ9
  show Z 0 9 [(0, .ref 50), (1, .int x)] [.int 1] (z_ui μ 50 0 0)
  refine z_rcs hc hH 2 (pc' := 13) (lv' := [(0, .ref 50), (1, .int x)]) (st' := [.int x]) (μ' := z_ui μ 50 0 0) (by rfl) ?_
  refine zq_call hc (z_cx_ok hH (by rfl)) (hk d' (by omega)) (by decide +kernel) (fun r9 μ9 hq => ?_)
  obtain ⟨hμ9, rfl⟩ := hq
  rw [hμ9]
  clear hμ9 μ9
  show Z 0 16 [(0, .ref 50), (1, .int x)] [.int 0] (z_ui μ 50 0 0)
  refine z_rcs hc hH 2 (pc' := 33) (lv' := [(0, .ref 50), (1, .int x)]) (st' := [.int 0]) (μ' := z_ui μ 50 0 0) (by rfl) ?_
  exact hr 0 33 _ _ _ (some (.int 0)) (by decide +kernel) (z_rx_ok hH (by rfl)) (⟨rfl, rfl⟩)
theorem mr_add (d : Nat) (hd : 3 ≤ d) (μ : zM) (x : Int32) (hmm : ∀ d, 2 ≤ d → z_C d mi_X7_mayMake [.ref 50] (z_ui μ 50 0 0) (zR (z_ui μ 50 0 0) (.int 0))) : z_C d mi_X7_add [.ref 50, .int x] μ (fun r μ' => r = some (.int 0) ∧ μ' = z_ui μ 50 0 0) := by
  refine z_C_in (by decide) (by omega) (fun d' Z ed hc hr => ?_)
  have hH : zH mi_X7_add zt_X7_add 79 7 3 := hh_X7_add
  refine z_rcs hc hH 2 (pc' := 2) (lv' := [(0, .ref 50), (1, .int x)]) (st' := [.int 0, .ref 50]) (μ' := μ) (by rfl) ?_
  refine zq_pfi hc hH (by rfl) (ci := 6) (f := 0) (by rfl) (by decide +kernel) (by rfl) ?_
  show Z 0 5 [(0, .ref 50), (1, .int x)] [] (z_ui μ 50 0 0)
  refine z_rcs hc hH 1 (pc' := 6) (lv' := [(0, .ref 50), (1, .int x)]) (st' := [.ref 50]) (μ' := z_ui μ 50 0 0) (by rfl) ?_
  refine zq_call hc (z_cx_ok hH (by rfl)) (hmm d' (by omega)) (by decide +kernel) (fun r9 μ9 hq => ?_)
  obtain ⟨hμ9, rfl⟩ := hq
  rw [hμ9]
  clear hμ9 μ9
  show Z 0 9 [(0, .ref 50), (1, .int x)] [.int 0] (z_ui μ 50 0 0)
  refine z_rcs hc hH 2 (pc' := 32) (lv' := [(0, .ref 50), (1, .int x)]) (st' := [.int 0]) (μ' := z_ui μ 50 0 0) (by rfl) ?_
  exact hr 0 32 _ _ _ (some (.int 0)) (by decide +kernel) (z_rx_ok hH (by rfl)) (⟨rfl, rfl⟩)
theorem mr_addK (d : Nat) (hd : 3 ≤ d) (μ : zM) (x : Int32) (hmm : ∀ d, 2 ≤ d → z_C d mi_X7_mayMake [.ref 50] (z_ui μ 50 0 0) (zR (z_ui μ 50 0 0) (.int 1))) (hk : ∀ d, 1 ≤ d → z_C d mi_X7_isKind [.int x] (z_ui μ 50 0 0) (zR (z_ui μ 50 0 0) (.int 0))) : z_C d mi_X7_add [.ref 50, .int x] μ (fun r μ' => r = some (.int 0) ∧ μ' = z_ui μ 50 0 0) := by
  refine z_C_in (by decide) (by omega) (fun d' Z ed hc hr => ?_)
  have hH : zH mi_X7_add zt_X7_add 79 7 3 := hh_X7_add
  refine z_rcs hc hH 2 (pc' := 2) (lv' := [(0, .ref 50), (1, .int x)]) (st' := [.int 0, .ref 50]) (μ' := μ) (by rfl) ?_
  refine zq_pfi hc hH (by rfl) (ci := 6) (f := 0) (by rfl) (by decide +kernel) (by rfl) ?_
  show Z 0 5 [(0, .ref 50), (1, .int x)] [] (z_ui μ 50 0 0)
  refine z_rcs hc hH 1 (pc' := 6) (lv' := [(0, .ref 50), (1, .int x)]) (st' := [.ref 50]) (μ' := z_ui μ 50 0 0) (by rfl) ?_
  refine zq_call hc (z_cx_ok hH (by rfl)) (hmm d' (by omega)) (by decide +kernel) (fun r9 μ9 hq => ?_)
  obtain ⟨hμ9, rfl⟩ := hq
  rw [hμ9]
  clear hμ9 μ9
  show Z 0 9 [(0, .ref 50), (1, .int x)] [.int 1] (z_ui μ 50 0 0)
  refine z_rcs hc hH 2 (pc' := 13) (lv' := [(0, .ref 50), (1, .int x)]) (st' := [.int x]) (μ' := z_ui μ 50 0 0) (by rfl) ?_
  refine zq_call hc (z_cx_ok hH (by rfl)) (hk d' (by omega)) (by decide +kernel) (fun r9 μ9 hq => ?_)
  obtain ⟨hμ9, rfl⟩ := hq
  rw [hμ9]
  clear hμ9 μ9
  show Z 0 16 [(0, .ref 50), (1, .int x)] [.int 0] (z_ui μ 50 0 0)
  refine z_rcs hc hH 2 (pc' := 32) (lv' := [(0, .ref 50), (1, .int x)]) (st' := [.int 0]) (μ' := z_ui μ 50 0 0) (by rfl) ?_
  exact hr 0 32 _ _ _ (some (.int 0)) (by decide +kernel) (z_rx_ok hH (by rfl)) (⟨rfl, rfl⟩)
theorem mr_winP (d : Nat) (hd : 2 ≤ d) (μ : zM) (hp : decide (μ.1 50 44 = 1) = false) : z_C d mi_X7_win [.ref 50] μ (fun r μ' => r = some (.int 0) ∧ μ' = z_ui μ 50 0 0) := by
  refine z_C_in (by decide) (by omega) (fun d' Z ed hc hr => ?_)
  have hH : zH mi_X7_win zt_X7_win 79 7 4 := hh_X7_win
  refine z_rcs hc hH 2 (pc' := 2) (lv' := [(0, .ref 50)]) (st' := [.int 0, .ref 50]) (μ' := μ) (by rfl) ?_
  refine zq_pfi hc hH (by rfl) (ci := 6) (f := 0) (by rfl) (by decide +kernel) (by rfl) ?_
  show Z 0 5 [(0, .ref 50)] [] (z_ui μ 50 0 0)
  refine z_rcs hc hH 1 (pc' := 6) (lv' := [(0, .ref 50)]) (st' := [.ref 50]) (μ' := z_ui μ 50 0 0) (by rfl) ?_
  refine zq_gfi hc hH (by rfl) (ci := 6) (f := 44) (by rfl) (by decide +kernel) (by rfl) ?_
  refine zV1 (Z := Z) (ui_k (by first | decide | omega)) ?_
  refine z_rcs hc hH 1 (pc' := 10) (lv' := [(0, .ref 50)]) (st' := [.int 1, .int (μ.1 50 44)]) (μ' := z_ui μ 50 0 0) (by rfl) ?_
  refine zq_ic hc hH (by rfl) (tg := 20) (by rfl) (fun h1 => ?_) (fun h1 => ?_)
  · have h1 : (decide ((μ.1 50 44) = 1)) = false := decide_eq_false (cm_ne.mp h1)
    refine z_rcs hc hH 1 (pc' := 21) (lv' := [(0, .ref 50)]) (st' := [.int 0]) (μ' := z_ui μ 50 0 0) (by rfl) ?_
    exact hr 0 21 _ _ _ (some (.int 0)) (by decide +kernel) (z_rx_ok hH (by rfl)) (⟨rfl, rfl⟩)
  · have h1 : (decide ((μ.1 50 44) = 1)) = true := decide_eq_true (cn_ne.mp h1)
    exact absurd (Eq.trans (Eq.symm (hp)) h1) (by decide)
theorem mr_winT (d : Nat) (hd : 2 ≤ d) (μ : zM) (hp : decide (μ.1 50 44 = 1) = true) (hj : decide (μ.1 50 57 = 0) = false) : z_C d mi_X7_win [.ref 50] μ (fun r μ' => r = some (.int 0) ∧ μ' = z_ui μ 50 0 0) := by
  refine z_C_in (by decide) (by omega) (fun d' Z ed hc hr => ?_)
  have hH : zH mi_X7_win zt_X7_win 79 7 4 := hh_X7_win
  refine z_rcs hc hH 2 (pc' := 2) (lv' := [(0, .ref 50)]) (st' := [.int 0, .ref 50]) (μ' := μ) (by rfl) ?_
  refine zq_pfi hc hH (by rfl) (ci := 6) (f := 0) (by rfl) (by decide +kernel) (by rfl) ?_
  show Z 0 5 [(0, .ref 50)] [] (z_ui μ 50 0 0)
  refine z_rcs hc hH 1 (pc' := 6) (lv' := [(0, .ref 50)]) (st' := [.ref 50]) (μ' := z_ui μ 50 0 0) (by rfl) ?_
  refine zq_gfi hc hH (by rfl) (ci := 6) (f := 44) (by rfl) (by decide +kernel) (by rfl) ?_
  refine zV1 (Z := Z) (ui_k (by first | decide | omega)) ?_
  refine z_rcs hc hH 1 (pc' := 10) (lv' := [(0, .ref 50)]) (st' := [.int 1, .int (μ.1 50 44)]) (μ' := z_ui μ 50 0 0) (by rfl) ?_
  refine zq_ic hc hH (by rfl) (tg := 20) (by rfl) (fun h1 => ?_) (fun h1 => ?_)
  · have h1 : (decide ((μ.1 50 44) = 1)) = false := decide_eq_false (cm_ne.mp h1)
    exact absurd (Eq.trans (Eq.symm (hp)) h1) (by decide)
  · have h1 : (decide ((μ.1 50 44) = 1)) = true := decide_eq_true (cn_ne.mp h1)
    refine z_rcs hc hH 1 (pc' := 14) (lv' := [(0, .ref 50)]) (st' := [.ref 50]) (μ' := z_ui μ 50 0 0) (by rfl) ?_
    refine zq_gfi hc hH (by rfl) (ci := 6) (f := 57) (by rfl) (by decide +kernel) (by rfl) ?_
    refine zV1 (Z := Z) (ui_k (by first | decide | omega)) ?_
    refine zq_if hc hH (by rfl) (tg := 22) (by rfl) (fun h2 => ?_) (fun h2 => ?_)
    · have h2 : (decide ((μ.1 50 57) = 0)) = true := decide_eq_true (cm_eq9.mp h2)
      exact absurd (Eq.trans (Eq.symm (hj)) h2) (by decide)
    · have h2 : (decide ((μ.1 50 57) = 0)) = false := decide_eq_false (cn_eq.mp h2)
      refine z_rcs hc hH 1 (pc' := 21) (lv' := [(0, .ref 50)]) (st' := [.int 0]) (μ' := z_ui μ 50 0 0) (by rfl) ?_
      exact hr 0 21 _ _ _ (some (.int 0)) (by decide +kernel) (z_rx_ok hH (by rfl)) (⟨rfl, rfl⟩)
theorem mr_claimP (d : Nat) (hd : 2 ≤ d) (μ : zM) (y : Int32) (hp : decide (μ.1 50 44 < 2) = true) : z_C d mi_X7_claim [.ref 50, .int y] μ (fun r μ' => r = some (.int 0) ∧ μ' = z_ui μ 50 0 0) := by
  refine z_C_in (by decide) (by omega) (fun d' Z ed hc hr => ?_)
  have hH : zH mi_X7_claim zt_X7_claim 79 7 5 := hh_X7_claim
  refine z_rcs hc hH 2 (pc' := 2) (lv' := [(0, .ref 50), (1, .int y)]) (st' := [.int 0, .ref 50]) (μ' := μ) (by rfl) ?_
  refine zq_pfi hc hH (by rfl) (ci := 6) (f := 0) (by rfl) (by decide +kernel) (by rfl) ?_
  show Z 0 5 [(0, .ref 50), (1, .int y)] [] (z_ui μ 50 0 0)
  refine z_rcs hc hH 1 (pc' := 6) (lv' := [(0, .ref 50), (1, .int y)]) (st' := [.ref 50]) (μ' := z_ui μ 50 0 0) (by rfl) ?_
  refine zq_gfi hc hH (by rfl) (ci := 6) (f := 44) (by rfl) (by decide +kernel) (by rfl) ?_
  refine zV1 (Z := Z) (ui_k (by first | decide | omega)) ?_
  refine z_rcs hc hH 1 (pc' := 10) (lv' := [(0, .ref 50), (1, .int y)]) (st' := [.int 2, .int (μ.1 50 44)]) (μ' := z_ui μ 50 0 0) (by rfl) ?_
  refine zq_ic hc hH (by rfl) (tg := 46) (by rfl) (fun h1 => ?_) (fun h1 => ?_)
  · have h1 : (decide ((μ.1 50 44) < 2)) = true := decide_eq_true (cm_lt.mp h1)
    refine z_rcs hc hH 1 (pc' := 47) (lv' := [(0, .ref 50), (1, .int y)]) (st' := [.int 0]) (μ' := z_ui μ 50 0 0) (by rfl) ?_
    exact hr 0 47 _ _ _ (some (.int 0)) (by decide +kernel) (z_rx_ok hH (by rfl)) (⟨rfl, rfl⟩)
  · have h1 : (decide ((μ.1 50 44) < 2)) = false := decide_eq_false (cn_lt.mp h1)
    exact absurd (Eq.trans (Eq.symm (hp)) h1) (by decide)
theorem mr_claimS (d : Nat) (hd : 2 ≤ d) (μ : zM) (y : Int32) (hs : ∀ d, 1 ≤ d → z_C d mi_X7_isSeat [.int y] (z_ui μ 50 0 0) (zR (z_ui μ 50 0 0) (.int 0))) : z_C d mi_X7_claim [.ref 50, .int y] μ (fun r μ' => r = some (.int 0) ∧ μ' = z_ui μ 50 0 0) := by
  refine z_C_in (by decide) (by omega) (fun d' Z ed hc hr => ?_)
  have hH : zH mi_X7_claim zt_X7_claim 79 7 5 := hh_X7_claim
  refine z_rcs hc hH 2 (pc' := 2) (lv' := [(0, .ref 50), (1, .int y)]) (st' := [.int 0, .ref 50]) (μ' := μ) (by rfl) ?_
  refine zq_pfi hc hH (by rfl) (ci := 6) (f := 0) (by rfl) (by decide +kernel) (by rfl) ?_
  show Z 0 5 [(0, .ref 50), (1, .int y)] [] (z_ui μ 50 0 0)
  refine z_rcs hc hH 1 (pc' := 6) (lv' := [(0, .ref 50), (1, .int y)]) (st' := [.ref 50]) (μ' := z_ui μ 50 0 0) (by rfl) ?_
  refine zq_gfi hc hH (by rfl) (ci := 6) (f := 44) (by rfl) (by decide +kernel) (by rfl) ?_
  refine zV1 (Z := Z) (ui_k (by first | decide | omega)) ?_
  refine z_rcs hc hH 1 (pc' := 10) (lv' := [(0, .ref 50), (1, .int y)]) (st' := [.int 2, .int (μ.1 50 44)]) (μ' := z_ui μ 50 0 0) (by rfl) ?_
  refine zq_ic hc hH (by rfl) (tg := 46) (by rfl) (fun h1 => ?_) (fun h1 => ?_)
  · have h1 : (decide ((μ.1 50 44) < 2)) = true := decide_eq_true (cm_lt.mp h1)
    refine z_rcs hc hH 1 (pc' := 47) (lv' := [(0, .ref 50), (1, .int y)]) (st' := [.int 0]) (μ' := z_ui μ 50 0 0) (by rfl) ?_
    exact hr 0 47 _ _ _ (some (.int 0)) (by decide +kernel) (z_rx_ok hH (by rfl)) (⟨rfl, rfl⟩)
  · have h1 : (decide ((μ.1 50 44) < 2)) = false := decide_eq_false (cn_lt.mp h1)
    refine z_rcs hc hH 1 (pc' := 14) (lv' := [(0, .ref 50), (1, .int y)]) (st' := [.int y]) (μ' := z_ui μ 50 0 0) (by rfl) ?_
    refine zq_call hc (z_cx_ok hH (by rfl)) (hs d' (by omega)) (by decide +kernel) (fun r9 μ9 hq => ?_)
    obtain ⟨hμ9, rfl⟩ := hq
    rw [hμ9]
    clear hμ9 μ9
    show Z 0 17 [(0, .ref 50), (1, .int y)] [.int 0] (z_ui μ 50 0 0)
    refine z_rcs hc hH 2 (pc' := 47) (lv' := [(0, .ref 50), (1, .int y)]) (st' := [.int 0]) (μ' := z_ui μ 50 0 0) (by rfl) ?_
    exact hr 0 47 _ _ _ (some (.int 0)) (by decide +kernel) (z_rx_ok hH (by rfl)) (⟨rfl, rfl⟩)
theorem mr_dealP (d : Nat) (hd : 2 ≤ d) (μ : zM) (sd : Int64) (hp : decide (μ.1 50 44 = 0) = false) : z_C d mi_X7_deal [.ref 50, .long sd] μ (fun r μ' => r = some (.int 0) ∧ μ' = z_ui μ 50 0 0) := by
  refine z_C_in (by decide) (by omega) (fun d' Z ed hc hr => ?_)
  have hH : zH mi_X7_deal zt_X7_deal 79 7 8 := hh_X7_deal
  refine z_rcs hc hH 2 (pc' := 2) (lv' := [(0, .ref 50), (1, .long sd)]) (st' := [.int 0, .ref 50]) (μ' := μ) (by rfl) ?_
  refine zq_pfi hc hH (by rfl) (ci := 6) (f := 0) (by rfl) (by decide +kernel) (by rfl) ?_
  show Z 0 5 [(0, .ref 50), (1, .long sd)] [] (z_ui μ 50 0 0)
  refine z_rcs hc hH 1 (pc' := 6) (lv' := [(0, .ref 50), (1, .long sd)]) (st' := [.ref 50]) (μ' := z_ui μ 50 0 0) (by rfl) ?_
  refine zq_gfi hc hH (by rfl) (ci := 6) (f := 44) (by rfl) (by decide +kernel) (by rfl) ?_
  refine zV1 (Z := Z) (ui_k (by first | decide | omega)) ?_
  refine zq_if hc hH (by rfl) (tg := 19) (by rfl) (fun h1 => ?_) (fun h1 => ?_)
  · have h1 : (decide ((μ.1 50 44) = 0)) = false := decide_eq_false (cm_ne.mp h1)
    refine z_rcs hc hH 1 (pc' := 20) (lv' := [(0, .ref 50), (1, .long sd)]) (st' := [.int 0]) (μ' := z_ui μ 50 0 0) (by rfl) ?_
    exact hr 0 20 _ _ _ (some (.int 0)) (by decide +kernel) (z_rx_ok hH (by rfl)) (⟨rfl, rfl⟩)
  · have h1 : (decide ((μ.1 50 44) = 0)) = true := decide_eq_true (cn_ne.mp h1)
    exact absurd (Eq.trans (Eq.symm (hp)) h1) (by decide)
theorem mr_dealE (d : Nat) (hd : 2 ≤ d) (μ : zM) (sd : Int64) (hp : decide (μ.1 50 44 = 0) = true) (he : decide (μ.1 50 54 = 0) = false) : z_C d mi_X7_deal [.ref 50, .long sd] μ (fun r μ' => r = some (.int 0) ∧ μ' = z_ui μ 50 0 0) := by
  refine z_C_in (by decide) (by omega) (fun d' Z ed hc hr => ?_)
  have hH : zH mi_X7_deal zt_X7_deal 79 7 8 := hh_X7_deal
  refine z_rcs hc hH 2 (pc' := 2) (lv' := [(0, .ref 50), (1, .long sd)]) (st' := [.int 0, .ref 50]) (μ' := μ) (by rfl) ?_
  refine zq_pfi hc hH (by rfl) (ci := 6) (f := 0) (by rfl) (by decide +kernel) (by rfl) ?_
  show Z 0 5 [(0, .ref 50), (1, .long sd)] [] (z_ui μ 50 0 0)
  refine z_rcs hc hH 1 (pc' := 6) (lv' := [(0, .ref 50), (1, .long sd)]) (st' := [.ref 50]) (μ' := z_ui μ 50 0 0) (by rfl) ?_
  refine zq_gfi hc hH (by rfl) (ci := 6) (f := 44) (by rfl) (by decide +kernel) (by rfl) ?_
  refine zV1 (Z := Z) (ui_k (by first | decide | omega)) ?_
  refine zq_if hc hH (by rfl) (tg := 19) (by rfl) (fun h1 => ?_) (fun h1 => ?_)
  · have h1 : (decide ((μ.1 50 44) = 0)) = false := decide_eq_false (cm_ne.mp h1)
    exact absurd (Eq.trans (Eq.symm (hp)) h1) (by decide)
  · have h1 : (decide ((μ.1 50 44) = 0)) = true := decide_eq_true (cn_ne.mp h1)
    refine z_rcs hc hH 1 (pc' := 13) (lv' := [(0, .ref 50), (1, .long sd)]) (st' := [.ref 50]) (μ' := z_ui μ 50 0 0) (by rfl) ?_
    refine zq_gfi hc hH (by rfl) (ci := 6) (f := 54) (by rfl) (by decide +kernel) (by rfl) ?_
    refine zV1 (Z := Z) (ui_k (by first | decide | omega)) ?_
    refine zq_if hc hH (by rfl) (tg := 21) (by rfl) (fun h2 => ?_) (fun h2 => ?_)
    · have h2 : (decide ((μ.1 50 54) = 0)) = true := decide_eq_true (cm_eq9.mp h2)
      exact absurd (Eq.trans (Eq.symm (he)) h2) (by decide)
    · have h2 : (decide ((μ.1 50 54) = 0)) = false := decide_eq_false (cn_eq.mp h2)
      refine z_rcs hc hH 1 (pc' := 20) (lv' := [(0, .ref 50), (1, .long sd)]) (st' := [.int 0]) (μ' := z_ui μ 50 0 0) (by rfl) ?_
      exact hr 0 20 _ _ _ (some (.int 0)) (by decide +kernel) (z_rx_ok hH (by rfl)) (⟨rfl, rfl⟩)
/-! between calls: both games -/
set_option maxRecDepth 8000
noncomputable def LGm (μ : zM) : Prop := LJ μ ∧ RG μ μ
noncomputable def md_x (md : List (Nat × Nat)) : Bool := md.all (fun q => Nat.blt q.1 50)
noncomputable def md_m (md : List (Nat × Nat)) : Bool := md.all (fun q => Nat.ble 50 q.1)
theorem fz_out {md : List (Nat × Nat)} {r k : Nat} (h : ∀ q ∈ md, q.1 ≠ r) : a_md md r k = false := by
  unfold a_md
  rw [List.any_eq_false]
  intro q hq hb
  exact h q hq (z_beq (z_and hb).1)
theorem fz_EqM {md : List (Nat × Nat)} {μ μ1 : zM} (h : a_Fz md μ μ1) (hx : md_x md = true) : EqM μ μ1 := fun r k g => h.1 r k (fz_out (fun q hq e => by
  have := Nat.blt_eq.mp (List.all_eq_true.mp hx q hq)
  unfold gMc at g
  omega))
theorem fz_EqX {md : List (Nat × Nat)} {μ μ1 : zM} (h : a_Fz md μ μ1) (hx : md_m md = true) : EqX μ μ1 := fun r k g => h.1 r k (fz_out (fun q hq e => by
  have := Nat.le_of_ble_eq_true (List.all_eq_true.mp hx q hq)
  unfold gXc at g
  omega))
theorem eqX_rf (μ : zM) : EqX μ μ := fun _ _ _ => ⟨rfl, rfl⟩
theorem eqM_rf (μ : zM) : EqM μ μ := fun _ _ _ => ⟨rfl, rfl⟩
theorem sm_EqM {a b : zM} (h : SMj a b) : EqM a b := fun r k g => h r k (by unfold gMc at g; omega)
theorem t0_EqM (μ : zM) (v : Int32) : EqM μ (z_ui μ 50 0 v) := fun r k g => ⟨by
  unfold gMc at g
  by_cases e : r = 50
  · exact ui_k (by first | decide | omega)
  · exact ui_o e, rfl⟩
theorem t0_EqX (μ : zM) (v : Int32) : EqX μ (z_ui μ 50 0 v) := fun r k g => ⟨by
  unfold gXc at g
  exact ui_o (by first | decide | omega), rfl⟩
/-- a call of the class by its old contract: what holds between calls, and the reference's cells as they were -/
theorem lg_k {d i : Nat} {K : aQ} (hk : (a_Ks.take 139)[i]? = some K) (hd : 695 ≤ d) (h1 : md_ok K.2.2.2.1 = true) (h2 : (md_rd K.2.2.2.1 && md_r3 K.2.2.2.1) = true) (h3 : K.2.2.1 = []) (hx : md_x K.2.2.2.1 = true) (As : List Value) (μ : zM) (h : LJ μ) (ha : aArg K.2.1 As) : z_C d K.1 As μ (fun _ μ' => LJ μ' ∧ EqM μ μ') := z_C_mono (a_use hk hd As μ (aArg_pre ha h3) h.1.1) (fun _ μ' q => ⟨h.keep q.1 q.2.1 h1 h2, fz_EqM q.2.1 hx⟩)
theorem md_G_m : md_m md_G = true := by decide +kernel
/-- a call of the reference's game by its old contract -/
theorem lg_g {d j : Nat} {As : List Value} {μ : zM} (h : LJ μ) (hc : z_C d j As μ (zPG μ)) : z_C d j As μ (fun _ μ' => LJ μ' ∧ EqX μ μ') := z_C_mono hc (fun _ μ' q => ⟨⟨q.2.1, h.2.elim fun n hn => ⟨n, hn.1.fz q.2.2 (by decide), hn.2.fz q.2.2 (by decide)⟩⟩, fz_EqX q.2.2 md_G_m⟩)
/-- refused by both -/
theorem lg_no {μ μ2 : zM} (hR : RG μ μ) (e : μ2 = z_ui μ 50 0 0) (hL : LJ μ2) : LGm μ2 := ⟨hL, by rw [e]; exact hR.cg (t0_EqX _ _) (t0_EqM _ _)⟩
theorem lg_deal {d : Nat} (hd : 704 ≤ d) {μ : zM} (h : LGm μ) (sd : Int64) : z_C d mi_X6_deal [.ref 0, .long sd] μ (fun r μ1 => LJ μ1 ∧ ∃ y, r = some (.int y) ∧ z_C d mi_X7_deal [.ref 50, .long sd] μ1 (fun r2 μ2 => LGm μ2 ∧ r2 = some (.int y))) := by
  obtain ⟨hJ, hR⟩ := h
  have kx : z_C d mi_X6_deal [.ref 0, .long sd] μ (fun _ μ' => LJ μ' ∧ EqM μ μ') := lg_k (i := 58) (K := ak_58) rfl (by omega) (by decide +kernel) (by decide +kernel) rfl (by decide +kernel) [.ref 0, .long sd] μ hJ ⟨⟨0, by decide, rfl⟩, ⟨_, rfl, a_topj _⟩, trivial⟩
  have km : ∀ μ1, LJ μ1 → z_C d mi_X7_deal [.ref 50, .long sd] μ1 (fun _ μ' => LJ μ' ∧ EqX μ1 μ') := fun μ1 h1 => lg_g h1 (fc_X7_deal d (by omega) μ1 sd h1.1)
  have no : z_C d mi_X6_deal [.ref 0, .long sd] μ (fun r μ' => r = some (.int 0) ∧ μ' = μ) → z_C d mi_X7_deal [.ref 50, .long sd] μ (fun r μ' => r = some (.int 0) ∧ μ' = z_ui μ 50 0 0) → z_C d mi_X6_deal [.ref 0, .long sd] μ (fun r μ1 => LJ μ1 ∧ ∃ y, r = some (.int y) ∧ z_C d mi_X7_deal [.ref 50, .long sd] μ1 (fun r2 μ2 => LGm μ2 ∧ r2 = some (.int y))) := fun c1 c2 => z_C_mono (zC_and d kx c1) (fun r μ1 q => by
    obtain ⟨⟨q1, _⟩, q2, rfl⟩ := q
    exact ⟨q1, 0, q2, z_C_mono (zC_and d (km _ q1) c2) (fun r2 μ2 z => ⟨lg_no hR z.2.2 z.1.1, z.2.1⟩)⟩)
  rcases hR.2 with ⟨p1, p2, p3, p4, p5⟩ | ⟨p, t, c, P⟩
  · by_cases e : μ.1 0 13 = 0
    · obtain ⟨dl, hdl4, hdl⟩ := dealer_nI hJ.1.1
      refine z_C_mono (zC_and d kx (gc_deal d (by omega) μ sd dl (hR.1.dl.trans hdl) hdl4 (decide_eq_true p1) (decide_eq_true e))) (fun r μ1 q => ?_)
      obtain ⟨⟨q1, qM⟩, q2, x3, hX, q3⟩ := q
      refine ⟨q1, 1, q2, ?_⟩
      have m40 : μ1.1 50 40 = nI dl := ((qM 50 40 (Or.inr ⟨rfl, by decide, by decide⟩)).1).trans hdl
      refine z_C_mono (zC_and d (km μ1 q1) (gm_deal d (by omega) μ1 sd dl m40 hdl4 (decide_eq_true (((qM 50 44 (Or.inr ⟨rfl, by decide, by decide⟩)).1).trans p2)) (decide_eq_true (((qM 50 54 (Or.inr ⟨rfl, by decide, by decide⟩)).1).trans (hR.1.en.symm.trans e))))) (fun r2 μ2 z => ?_)
      obtain ⟨⟨z1, zX⟩, z2, m3, hM, z3⟩ := z
      refine ⟨⟨z1, ?_⟩, z2⟩
      have g := rg_dealt (x := μ) (m := μ1) ((hR.cg (eqX_rf _) qM).1) ⟨hX, hM⟩ hdl4 m40
      rw [← q3, ← z3] at g
      exact g.cg zX (eqM_rf _)
    · exact no (gx_dealE d (by omega) μ sd (decide_eq_true p1) (decide_eq_false e)) (mr_dealE d (by omega) μ sd (decide_eq_true p2) (decide_eq_false (fun q => e (hR.1.en.trans q))))
  · have hp : ∀ v : Int32, v = nI p → ¬ v = 0 := fun v hv => by
      rcases P.p3 with q | q | q <;> (rw [hv, q]; decide)
    exact no (gx_dealP d (by omega) μ sd (decide_eq_false (hp _ P.px))) (mr_dealP d (by omega) μ sd (decide_eq_false (hp _ P.pm)))
/-! may a FOUR be made, a SET be claimed: of the reference -/
set_option maxRecDepth 8000
theorem gm_mayMake (d : Nat) (hd : 2 ≤ d) (μ : zM) (t : Nat) (ht4 : t < 4) (ht : μ.1 50 45 = nI t) : z_C d mi_X7_mayMake [.ref 50] μ (zR μ (.int (nB ((decide ((μ.1 50 44) = 1)) && ((decide ((μ.1 50 57) = 0)) && ((decide ((μ.1 67 t) = 0)) && (!(decide (((122 - (μ.1 50 47)) - (μ.1 50 46)) ≤ 0)) && (!(decide (4 ≤ (μ.1 50 47))))))))))) := by
  refine z_C_in (by decide) (by omega) (fun d' Z ed hc hr => ?_)
  have hH : zH mi_X7_mayMake zt_X7_mayMake 79 7 1 := hh_X7_mayMake
  refine z_rcs hc hH 1 (pc' := 1) (lv' := [(0, .ref 50)]) (st' := [.ref 50]) (μ' := μ) (by rfl) ?_
  refine zq_gfi hc hH (by rfl) (ci := 6) (f := 44) (by rfl) (by decide +kernel) (by rfl) ?_
  refine z_rcs hc hH 1 (pc' := 5) (lv' := [(0, .ref 50)]) (st' := [.int 1, .int (μ.1 50 44)]) (μ' := μ) (by rfl) ?_
  have hJ1 : Z 0 47 [(0, .ref 50)] [.int (nB ((decide ((μ.1 50 44) = 1)) && ((decide ((μ.1 50 57) = 0)) && ((decide ((μ.1 67 t) = 0)) && (!(decide (((122 - (μ.1 50 47)) - (μ.1 50 46)) ≤ 0)) && (!(decide (4 ≤ (μ.1 50 47)))))))))] μ := by
    generalize hee2 : ((decide ((μ.1 50 44) = 1)) && ((decide ((μ.1 50 57) = 0)) && ((decide ((μ.1 67 t) = 0)) && (!(decide (((122 - (μ.1 50 47)) - (μ.1 50 46)) ≤ 0)) && (!(decide (4 ≤ (μ.1 50 47)))))))) = ee2
    exact hr 0 47 _ _ _ (some (.int (nB ee2))) (by decide +kernel) ((fun b : Bool => (by cases b <;> rfl : z_rn mi_X7_mayMake 47 [.int (nB b)] = some (some (.int (nB b))))) ee2) (⟨rfl, (by subst hee2; rfl)⟩)
  refine zq_ic hc hH (by rfl) (tg := 46) (by rfl) (fun h3 => ?_) (fun h3 => ?_)
  · have h3 : (decide ((μ.1 50 44) = 1)) = false := decide_eq_false (cm_ne.mp h3)
    refine z_rcs hc hH 1 (pc' := 47) (lv' := [(0, .ref 50)]) (st' := [.int 0]) (μ' := μ) (by rfl) ?_
    exact zJ hJ1 rfl (by first | with_reducible rfl | (simp only [h3, lb_f, Int64.or_zero, Int32.add_zero, nB_t, nB_f, Bool.not_true, Bool.not_false, Bool.and_true, Bool.true_and, Bool.false_and, Bool.and_false, Bool.or_true, Bool.true_or, Bool.false_or, Bool.or_false, cond_true, cond_false]; done) | rfl) rfl
  · have h3 : (decide ((μ.1 50 44) = 1)) = true := decide_eq_true (cn_ne.mp h3)
    refine z_rcs hc hH 1 (pc' := 9) (lv' := [(0, .ref 50)]) (st' := [.ref 50]) (μ' := μ) (by rfl) ?_
    refine zq_gfi hc hH (by rfl) (ci := 6) (f := 57) (by rfl) (by decide +kernel) (by rfl) ?_
    refine zq_if hc hH (by rfl) (tg := 46) (by rfl) (fun h4 => ?_) (fun h4 => ?_)
    · have h4 : (decide ((μ.1 50 57) = 0)) = false := decide_eq_false (cm_ne.mp h4)
      refine z_rcs hc hH 1 (pc' := 47) (lv' := [(0, .ref 50)]) (st' := [.int 0]) (μ' := μ) (by rfl) ?_
      exact zJ hJ1 rfl (by first | with_reducible rfl | (simp only [h3, h4, lb_f, Int64.or_zero, Int32.add_zero, nB_t, nB_f, Bool.not_true, Bool.not_false, Bool.and_true, Bool.true_and, Bool.false_and, Bool.and_false, Bool.or_true, Bool.true_or, Bool.false_or, Bool.or_false, cond_true, cond_false]; done) | rfl) rfl
    · have h4 : (decide ((μ.1 50 57) = 0)) = true := decide_eq_true (cn_ne.mp h4)
      refine z_rcs hc hH 1 (pc' := 16) (lv' := [(0, .ref 50)]) (st' := [.ref 50]) (μ' := μ) (by rfl) ?_
      refine zq_gfr hc hH (by rfl) (ci := 6) (f := 35) (q := 67) (by rfl) (by decide +kernel) (by rfl) (by decide +kernel) ?_
      refine z_rcs hc hH 1 (pc' := 20) (lv' := [(0, .ref 50)]) (st' := [.ref 50, .ref 67]) (μ' := μ) (by rfl) ?_
      refine zq_gfi hc hH (by rfl) (ci := 6) (f := 45) (by rfl) (by decide +kernel) (by rfl) ?_
      rw [ht]
      refine zq_iald hc hH (by rfl) 4 (oka_i (by decide +kernel)) (vp_in_nI (by omega) (by decide)) ?_
      rw [nI_clamp (by omega)]
      refine zq_if hc hH (by rfl) (tg := 46) (by rfl) (fun h5 => ?_) (fun h5 => ?_)
      · have h5 : (decide ((μ.1 67 t) = 0)) = false := decide_eq_false (cm_ne.mp h5)
        refine z_rcs hc hH 1 (pc' := 47) (lv' := [(0, .ref 50)]) (st' := [.int 0]) (μ' := μ) (by rfl) ?_
        exact zJ hJ1 rfl (by first | with_reducible rfl | (simp only [h3, h4, h5, lb_f, Int64.or_zero, Int32.add_zero, nB_t, nB_f, Bool.not_true, Bool.not_false, Bool.and_true, Bool.true_and, Bool.false_and, Bool.and_false, Bool.or_true, Bool.true_or, Bool.false_or, Bool.or_false, cond_true, cond_false]; done) | rfl) rfl
      · have h5 : (decide ((μ.1 67 t) = 0)) = true := decide_eq_true (cn_ne.mp h5)
        refine z_rcs hc hH 1 (pc' := 28) (lv' := [(0, .ref 50)]) (st' := [.ref 50]) (μ' := μ) (by rfl) ?_
        refine zq_call hc (z_cx_ok hH (by rfl)) (fc_X7_left d' (by omega) μ) (by decide +kernel) (fun r9 μ9 hq => ?_)
        obtain ⟨hμ9, rfl⟩ := hq
        rw [hμ9]
        clear hμ9 μ9
        show Z 0 31 [(0, .ref 50)] [.int ((122 - (μ.1 50 47)) - (μ.1 50 46))] μ
        refine zq_if hc hH (by rfl) (tg := 46) (by rfl) (fun h6 => ?_) (fun h6 => ?_)
        · have h6 : (decide (((122 - (μ.1 50 47)) - (μ.1 50 46)) ≤ 0)) = true := decide_eq_true (cm_le.mp h6)
          refine z_rcs hc hH 1 (pc' := 47) (lv' := [(0, .ref 50)]) (st' := [.int 0]) (μ' := μ) (by rfl) ?_
          exact zJ hJ1 rfl (by first | with_reducible rfl | (simp only [h3, h4, h5, h6, lb_f, Int64.or_zero, Int32.add_zero, nB_t, nB_f, Bool.not_true, Bool.not_false, Bool.and_true, Bool.true_and, Bool.false_and, Bool.and_false, Bool.or_true, Bool.true_or, Bool.false_or, Bool.or_false, cond_true, cond_false]; done) | rfl) rfl
        · have h6 : (decide (((122 - (μ.1 50 47)) - (μ.1 50 46)) ≤ 0)) = false := decide_eq_false (cn_le.mp h6)
          refine z_rcs hc hH 1 (pc' := 35) (lv' := [(0, .ref 50)]) (st' := [.ref 50]) (μ' := μ) (by rfl) ?_
          refine zq_gfi hc hH (by rfl) (ci := 6) (f := 47) (by rfl) (by decide +kernel) (by rfl) ?_
          refine z_rcs hc hH 1 (pc' := 39) (lv' := [(0, .ref 50)]) (st' := [.int 4, .int (μ.1 50 47)]) (μ' := μ) (by rfl) ?_
          refine zq_ic hc hH (by rfl) (tg := 46) (by rfl) (fun h7 => ?_) (fun h7 => ?_)
          · have h7 : (decide (4 ≤ (μ.1 50 47))) = true := decide_eq_true (cm_ge.mp h7)
            refine z_rcs hc hH 1 (pc' := 47) (lv' := [(0, .ref 50)]) (st' := [.int 0]) (μ' := μ) (by rfl) ?_
            exact zJ hJ1 rfl (by first | with_reducible rfl | (simp only [h3, h4, h5, h6, h7, lb_f, Int64.or_zero, Int32.add_zero, nB_t, nB_f, Bool.not_true, Bool.not_false, Bool.and_true, Bool.true_and, Bool.false_and, Bool.and_false, Bool.or_true, Bool.true_or, Bool.false_or, Bool.or_false, cond_true, cond_false]; done) | rfl) rfl
          · have h7 : (decide (4 ≤ (μ.1 50 47))) = false := decide_eq_false (cn_ge.mp h7)
            refine z_rcs hc hH 2 (pc' := 47) (lv' := [(0, .ref 50)]) (st' := [.int 1]) (μ' := μ) (by rfl) ?_
            exact zJ hJ1 rfl (by first | with_reducible rfl | (simp only [h3, h4, h5, h6, h7, lb_f, Int64.or_zero, Int32.add_zero, nB_t, nB_f, Bool.not_true, Bool.not_false, Bool.and_true, Bool.true_and, Bool.false_and, Bool.and_false, Bool.or_true, Bool.true_or, Bool.false_or, Bool.or_false, cond_true, cond_false]; done) | rfl) rfl
noncomputable abbrev anS (μ : zM) : Bool := !(decide ((μ.1 71 0) = 0)) || (!(decide ((μ.1 71 1) = 0)) || (!(decide ((μ.1 71 2) = 0)) || (!(decide ((μ.1 71 3) = 0)))))
theorem gm_mayClaim (d : Nat) (hd : 2 ≤ d) (μ : zM) (s : Nat) (hs4 : s < 4) : z_C d mi_X7_mayClaim [.ref 50, .int (nI s)] μ (zR μ (.int (nB ((decide ((μ.1 50 44) = 2)) && (!(anS μ) && (!(decide (((122 - (μ.1 50 47)) - (μ.1 50 46)) ≤ 0)) && (!(decide ((nI s) = (μ.1 50 45))) && (decide ((μ.1 67 s) = 0))))))))) := by
  refine z_C_in (by decide) (by omega) (fun d' Z ed hc hr => ?_)
  have hH : zH mi_X7_mayClaim zt_X7_mayClaim 79 7 2 := hh_X7_mayClaim
  refine z_rcs hc hH 1 (pc' := 1) (lv' := [(0, .ref 50), (1, .int (nI s))]) (st' := [.ref 50]) (μ' := μ) (by rfl) ?_
  refine zq_gfi hc hH (by rfl) (ci := 6) (f := 44) (by rfl) (by decide +kernel) (by rfl) ?_
  refine z_rcs hc hH 1 (pc' := 5) (lv' := [(0, .ref 50), (1, .int (nI s))]) (st' := [.int 2, .int (μ.1 50 44)]) (μ' := μ) (by rfl) ?_
  have hJ1 : Z 0 51 [(0, .ref 50), (1, .int (nI s))] [.int (nB ((decide ((μ.1 50 44) = 2)) && (!(anS μ) && (!(decide (((122 - (μ.1 50 47)) - (μ.1 50 46)) ≤ 0)) && (!(decide ((nI s) = (μ.1 50 45))) && (decide ((μ.1 67 s) = 0)))))))] μ := by
    generalize hee2 : ((decide ((μ.1 50 44) = 2)) && (!(anS μ) && (!(decide (((122 - (μ.1 50 47)) - (μ.1 50 46)) ≤ 0)) && (!(decide ((nI s) = (μ.1 50 45))) && (decide ((μ.1 67 s) = 0)))))) = ee2
    exact hr 0 51 _ _ _ (some (.int (nB ee2))) (by decide +kernel) ((fun b : Bool => (by cases b <;> rfl : z_rn mi_X7_mayClaim 51 [.int (nB b)] = some (some (.int (nB b))))) ee2) (⟨rfl, (by subst hee2; rfl)⟩)
  refine zq_ic hc hH (by rfl) (tg := 50) (by rfl) (fun h3 => ?_) (fun h3 => ?_)
  · have h3 : (decide ((μ.1 50 44) = 2)) = false := decide_eq_false (cm_ne.mp h3)
    refine z_rcs hc hH 1 (pc' := 51) (lv' := [(0, .ref 50), (1, .int (nI s))]) (st' := [.int 0]) (μ' := μ) (by rfl) ?_
    exact zJ hJ1 rfl (by first | with_reducible rfl | (simp only [h3, lb_f, Int64.or_zero, Int32.add_zero, nB_t, nB_f, Bool.not_true, Bool.not_false, Bool.and_true, Bool.true_and, Bool.false_and, Bool.and_false, Bool.or_true, Bool.true_or, Bool.false_or, Bool.or_false, cond_true, cond_false]; done) | rfl) rfl
  · have h3 : (decide ((μ.1 50 44) = 2)) = true := decide_eq_true (cn_ne.mp h3)
    refine z_rcs hc hH 1 (pc' := 9) (lv' := [(0, .ref 50), (1, .int (nI s))]) (st' := [.ref 50]) (μ' := μ) (by rfl) ?_
    refine zq_call hc (z_cx_ok hH (by rfl)) (gm_anySays d' (by omega) μ) (by decide +kernel) (fun r9 μ9 hq => ?_)
    obtain ⟨hμ9, rfl⟩ := hq
    rw [hμ9]
    clear hμ9 μ9
    show Z 0 12 [(0, .ref 50), (1, .int (nI s))] [.int (nB (anS μ))] μ
    refine zq_if hc hH (by rfl) (tg := 50) (by rfl) (fun h4 => ?_) (fun h4 => ?_)
    · have h4 : (anS μ) = true := nB_n.mp (cm_ne.mp h4)
      refine z_rcs hc hH 1 (pc' := 51) (lv' := [(0, .ref 50), (1, .int (nI s))]) (st' := [.int 0]) (μ' := μ) (by rfl) ?_
      exact zJ hJ1 rfl (by first | with_reducible rfl | (simp only [h3, h4, lb_f, Int64.or_zero, Int32.add_zero, nB_t, nB_f, Bool.not_true, Bool.not_false, Bool.and_true, Bool.true_and, Bool.false_and, Bool.and_false, Bool.or_true, Bool.true_or, Bool.false_or, Bool.or_false, cond_true, cond_false]; done) | rfl) rfl
    · have h4 : (anS μ) = false := nB_z.mp (cn_ne.mp h4)
      refine z_rcs hc hH 1 (pc' := 16) (lv' := [(0, .ref 50), (1, .int (nI s))]) (st' := [.ref 50]) (μ' := μ) (by rfl) ?_
      refine zq_call hc (z_cx_ok hH (by rfl)) (fc_X7_left d' (by omega) μ) (by decide +kernel) (fun r9 μ9 hq => ?_)
      obtain ⟨hμ9, rfl⟩ := hq
      rw [hμ9]
      clear hμ9 μ9
      show Z 0 19 [(0, .ref 50), (1, .int (nI s))] [.int ((122 - (μ.1 50 47)) - (μ.1 50 46))] μ
      refine zq_if hc hH (by rfl) (tg := 50) (by rfl) (fun h5 => ?_) (fun h5 => ?_)
      · have h5 : (decide (((122 - (μ.1 50 47)) - (μ.1 50 46)) ≤ 0)) = true := decide_eq_true (cm_le.mp h5)
        refine z_rcs hc hH 1 (pc' := 51) (lv' := [(0, .ref 50), (1, .int (nI s))]) (st' := [.int 0]) (μ' := μ) (by rfl) ?_
        exact zJ hJ1 rfl (by first | with_reducible rfl | (simp only [h3, h4, h5, lb_f, Int64.or_zero, Int32.add_zero, nB_t, nB_f, Bool.not_true, Bool.not_false, Bool.and_true, Bool.true_and, Bool.false_and, Bool.and_false, Bool.or_true, Bool.true_or, Bool.false_or, Bool.or_false, cond_true, cond_false]; done) | rfl) rfl
      · have h5 : (decide (((122 - (μ.1 50 47)) - (μ.1 50 46)) ≤ 0)) = false := decide_eq_false (cn_le.mp h5)
        refine z_rcs hc hH 1 (pc' := 23) (lv' := [(0, .ref 50), (1, .int (nI s))]) (st' := [.int (nI s)]) (μ' := μ) (by rfl) ?_
        refine zq_call hc (z_cx_ok hH (by rfl)) (gm_isSeatN d' (by omega) μ s hs4) (by decide +kernel) (fun r9 μ9 hq => ?_)
        obtain ⟨hμ9, rfl⟩ := hq
        rw [hμ9]
        clear hμ9 μ9
        show Z 0 26 [(0, .ref 50), (1, .int (nI s))] [.int 1] μ
        refine z_rcs hc hH 3 (pc' := 31) (lv' := [(0, .ref 50), (1, .int (nI s))]) (st' := [.ref 50, .int (nI s)]) (μ' := μ) (by rfl) ?_
        refine zq_gfi hc hH (by rfl) (ci := 6) (f := 45) (by rfl) (by decide +kernel) (by rfl) ?_
        refine zq_ic hc hH (by rfl) (tg := 50) (by rfl) (fun h6 => ?_) (fun h6 => ?_)
        · have h6 : (decide ((nI s) = (μ.1 50 45))) = true := decide_eq_true (cm_eq9.mp h6)
          refine z_rcs hc hH 1 (pc' := 51) (lv' := [(0, .ref 50), (1, .int (nI s))]) (st' := [.int 0]) (μ' := μ) (by rfl) ?_
          exact zJ hJ1 rfl (by first | with_reducible rfl | (simp only [h3, h4, h5, h6, lb_f, Int64.or_zero, Int32.add_zero, nB_t, nB_f, Bool.not_true, Bool.not_false, Bool.and_true, Bool.true_and, Bool.false_and, Bool.and_false, Bool.or_true, Bool.true_or, Bool.false_or, Bool.or_false, cond_true, cond_false]; done) | rfl) rfl
        · have h6 : (decide ((nI s) = (μ.1 50 45))) = false := decide_eq_false (cn_eq.mp h6)
          refine z_rcs hc hH 1 (pc' := 38) (lv' := [(0, .ref 50), (1, .int (nI s))]) (st' := [.ref 50]) (μ' := μ) (by rfl) ?_
          refine zq_gfr hc hH (by rfl) (ci := 6) (f := 35) (q := 67) (by rfl) (by decide +kernel) (by rfl) (by decide +kernel) ?_
          refine z_rcs hc hH 1 (pc' := 42) (lv' := [(0, .ref 50), (1, .int (nI s))]) (st' := [.int (nI s), .ref 67]) (μ' := μ) (by rfl) ?_
          refine zq_iald hc hH (by rfl) 4 (oka_i (by decide +kernel)) (vp_in_nI (by omega) (by decide)) ?_
          rw [nI_clamp (by omega)]
          refine zq_if hc hH (by rfl) (tg := 50) (by rfl) (fun h7 => ?_) (fun h7 => ?_)
          · have h7 : (decide ((μ.1 67 s) = 0)) = false := decide_eq_false (cm_ne.mp h7)
            refine z_rcs hc hH 1 (pc' := 51) (lv' := [(0, .ref 50), (1, .int (nI s))]) (st' := [.int 0]) (μ' := μ) (by rfl) ?_
            exact zJ hJ1 rfl (by first | with_reducible rfl | (simp only [h3, h4, h5, h6, h7, lb_f, Int64.or_zero, Int32.add_zero, nB_t, nB_f, Bool.not_true, Bool.not_false, Bool.and_true, Bool.true_and, Bool.false_and, Bool.and_false, Bool.or_true, Bool.true_or, Bool.false_or, Bool.or_false, cond_true, cond_false]; done) | rfl) rfl
          · have h7 : (decide ((μ.1 67 s) = 0)) = true := decide_eq_true (cn_ne.mp h7)
            refine z_rcs hc hH 2 (pc' := 51) (lv' := [(0, .ref 50), (1, .int (nI s))]) (st' := [.int 1]) (μ' := μ) (by rfl) ?_
            exact zJ hJ1 rfl (by first | with_reducible rfl | (simp only [h3, h4, h5, h6, h7, lb_f, Int64.or_zero, Int32.add_zero, nB_t, nB_f, Bool.not_true, Bool.not_false, Bool.and_true, Bool.true_and, Bool.false_and, Bool.and_false, Bool.or_true, Bool.true_or, Bool.false_or, Bool.or_false, cond_true, cond_false]; done) | rfl) rfl
theorem mr_mayClaim (d : Nat) (hd : 2 ≤ d) (μ : zM) (y : Int32) (hs : ∀ d, 1 ≤ d → z_C d mi_X7_isSeat [.int y] μ (zR μ (.int 0))) : z_C d mi_X7_mayClaim [.ref 50, .int y] μ (fun r μ' => r = some (.int 0) ∧ μ' = μ) := by
  refine z_C_in (by decide) (by omega) (fun d' Z ed hc hr => ?_)
  have hH : zH mi_X7_mayClaim zt_X7_mayClaim 79 7 2 := hh_X7_mayClaim
  refine z_rcs hc hH 1 (pc' := 1) (lv' := [(0, .ref 50), (1, .int y)]) (st' := [.ref 50]) (μ' := μ) (by rfl) ?_
  refine zq_gfi hc hH (by rfl) (ci := 6) (f := 44) (by rfl) (by decide +kernel) (by rfl) ?_
  refine z_rcs hc hH 1 (pc' := 5) (lv' := [(0, .ref 50), (1, .int y)]) (st' := [.int 2, .int (μ.1 50 44)]) (μ' := μ) (by rfl) ?_
  refine zq_ic hc hH (by rfl) (tg := 50) (by rfl) (fun h1 => ?_) (fun h1 => ?_)
  · have h1 : (decide ((μ.1 50 44) = 2)) = false := decide_eq_false (cm_ne.mp h1)
    refine z_rcs hc hH 1 (pc' := 51) (lv' := [(0, .ref 50), (1, .int y)]) (st' := [.int 0]) (μ' := μ) (by rfl) ?_
    exact hr 0 51 _ _ _ (some (.int 0)) (by decide +kernel) (z_rx_ok hH (by rfl)) (⟨rfl, rfl⟩)
  · have h1 : (decide ((μ.1 50 44) = 2)) = true := decide_eq_true (cn_ne.mp h1)
    refine z_rcs hc hH 1 (pc' := 9) (lv' := [(0, .ref 50), (1, .int y)]) (st' := [.ref 50]) (μ' := μ) (by rfl) ?_
    refine zq_call hc (z_cx_ok hH (by rfl)) (gm_anySays d' (by omega) μ) (by decide +kernel) (fun r9 μ9 hq => ?_)
    obtain ⟨hμ9, rfl⟩ := hq
    rw [hμ9]
    clear hμ9 μ9
    show Z 0 12 [(0, .ref 50), (1, .int y)] [.int (nB (anS μ))] μ
    refine zq_if hc hH (by rfl) (tg := 50) (by rfl) (fun h2 => ?_) (fun h2 => ?_)
    · have h2 : (anS μ) = true := nB_n.mp (cm_ne.mp h2)
      refine z_rcs hc hH 1 (pc' := 51) (lv' := [(0, .ref 50), (1, .int y)]) (st' := [.int 0]) (μ' := μ) (by rfl) ?_
      exact hr 0 51 _ _ _ (some (.int 0)) (by decide +kernel) (z_rx_ok hH (by rfl)) (⟨rfl, rfl⟩)
    · have h2 : (anS μ) = false := nB_z.mp (cn_ne.mp h2)
      refine z_rcs hc hH 1 (pc' := 16) (lv' := [(0, .ref 50), (1, .int y)]) (st' := [.ref 50]) (μ' := μ) (by rfl) ?_
      refine zq_call hc (z_cx_ok hH (by rfl)) (fc_X7_left d' (by omega) μ) (by decide +kernel) (fun r9 μ9 hq => ?_)
      obtain ⟨hμ9, rfl⟩ := hq
      rw [hμ9]
      clear hμ9 μ9
      show Z 0 19 [(0, .ref 50), (1, .int y)] [.int ((122 - (μ.1 50 47)) - (μ.1 50 46))] μ
      refine zq_if hc hH (by rfl) (tg := 50) (by rfl) (fun h3 => ?_) (fun h3 => ?_)
      · have h3 : (decide (((122 - (μ.1 50 47)) - (μ.1 50 46)) ≤ 0)) = true := decide_eq_true (cm_le.mp h3)
        refine z_rcs hc hH 1 (pc' := 51) (lv' := [(0, .ref 50), (1, .int y)]) (st' := [.int 0]) (μ' := μ) (by rfl) ?_
        exact hr 0 51 _ _ _ (some (.int 0)) (by decide +kernel) (z_rx_ok hH (by rfl)) (⟨rfl, rfl⟩)
      · have h3 : (decide (((122 - (μ.1 50 47)) - (μ.1 50 46)) ≤ 0)) = false := decide_eq_false (cn_le.mp h3)
        refine z_rcs hc hH 1 (pc' := 23) (lv' := [(0, .ref 50), (1, .int y)]) (st' := [.int y]) (μ' := μ) (by rfl) ?_
        refine zq_call hc (z_cx_ok hH (by rfl)) (hs d' (by omega)) (by decide +kernel) (fun r9 μ9 hq => ?_)
        obtain ⟨hμ9, rfl⟩ := hq
        rw [hμ9]
        clear hμ9 μ9
        show Z 0 26 [(0, .ref 50), (1, .int y)] [.int 0] μ
        refine z_rcs hc hH 2 (pc' := 51) (lv' := [(0, .ref 50), (1, .int y)]) (st' := [.int 0]) (μ' := μ) (by rfl) ?_
        exact hr 0 51 _ _ _ (some (.int 0)) (by decide +kernel) (z_rx_ok hH (by rfl)) (⟨rfl, rfl⟩)
theorem gx_mayClaim (d : Nat) (hd : 2 ≤ d) (μ : zM) (y : Int32) (hs : ∀ d, 1 ≤ d → z_C d mi_X6_isSeat [.int y] μ (zR μ (.int 0))) : z_C d mi_X6_mayClaimSet [.ref 0, .int y] μ (fun r μ' => r = some (.int 0) ∧ μ' = μ) := by
  refine z_C_in (by decide) (by omega) (fun d' Z ed hc hr => ?_)
  have hH : zH mi_X6_mayClaimSet zt_X6_mayClaimSet 79 6 2 := hh_X6_mayClaimSet
  refine z_rcs hc hH 1 (pc' := 1) (lv' := [(0, .ref 0), (1, .int y)]) (st' := [.ref 0]) (μ' := μ) (by rfl) ?_
  refine zq_gfi hc hH (by rfl) (ci := 5) (f := 7) (by rfl) (by decide +kernel) (by rfl) ?_
  refine z_rcs hc hH 1 (pc' := 5) (lv' := [(0, .ref 0), (1, .int y)]) (st' := [.int 2, .int (μ.1 0 7)]) (μ' := μ) (by rfl) ?_
  refine zq_ic hc hH (by rfl) (tg := 55) (by rfl) (fun h1 => ?_) (fun h1 => ?_)
  · have h1 : (decide ((μ.1 0 7) = 2)) = false := decide_eq_false (cm_ne.mp h1)
    refine z_rcs hc hH 1 (pc' := 56) (lv' := [(0, .ref 0), (1, .int y)]) (st' := [.int 0]) (μ' := μ) (by rfl) ?_
    exact hr 0 56 _ _ _ (some (.int 0)) (by decide +kernel) (z_rx_ok hH (by rfl)) (⟨rfl, rfl⟩)
  · have h1 : (decide ((μ.1 0 7) = 2)) = true := decide_eq_true (cn_ne.mp h1)
    refine z_rcs hc hH 1 (pc' := 9) (lv' := [(0, .ref 0), (1, .int y)]) (st' := [.int y]) (μ' := μ) (by rfl) ?_
    refine zq_call hc (z_cx_ok hH (by rfl)) (hs d' (by omega)) (by decide +kernel) (fun r9 μ9 hq => ?_)
    obtain ⟨hμ9, rfl⟩ := hq
    rw [hμ9]
    clear hμ9 μ9
    show Z 0 12 [(0, .ref 0), (1, .int y)] [.int 0] μ
    refine z_rcs hc hH 2 (pc' := 56) (lv' := [(0, .ref 0), (1, .int y)]) (st' := [.int 0]) (μ' := μ) (by rfl) ?_
    exact hr 0 56 _ _ _ (some (.int 0)) (by decide +kernel) (z_rx_ok hH (by rfl)) (⟨rfl, rfl⟩)
theorem mr_hideH (d : Nat) (hd : 4 ≤ d) (μ : zM) (t k : Nat) (ht4 : t < 4) (ht : μ.1 50 45 = nI t) (hk : k < 34) (hmm : ∀ d, 2 ≤ d → z_C d mi_X7_mayMake [.ref 50] (z_ui μ 50 0 0) (zR (z_ui μ 50 0 0) (.int 1))) (h4 : decide (μ.1 60 (34 * t + k) = 4) = false) : z_C d mi_X7_hide [.ref 50, .int (nI k)] μ (fun r μ' => r = some (.int 0) ∧ μ' = z_ui μ 50 0 0) := by
  refine z_C_in (by decide) (by omega) (fun d' Z ed hc hr => ?_)
  have hH : zH mi_X7_hide zt_X7_hide 79 7 2 := hh_X7_hide
  refine z_rcs hc hH 2 (pc' := 2) (lv' := [(0, .ref 50), (1, .int (nI k))]) (st' := [.int 0, .ref 50]) (μ' := μ) (by rfl) ?_
  refine zq_pfi hc hH (by rfl) (ci := 6) (f := 0) (by rfl) (by decide +kernel) (by rfl) ?_
  show Z 0 5 [(0, .ref 50), (1, .int (nI k))] [] (z_ui μ 50 0 0)
  refine z_rcs hc hH 1 (pc' := 6) (lv' := [(0, .ref 50), (1, .int (nI k))]) (st' := [.ref 50]) (μ' := z_ui μ 50 0 0) (by rfl) ?_
  refine zq_call hc (z_cx_ok hH (by rfl)) (hmm d' (by omega)) (by decide +kernel) (fun r9 μ9 hq => ?_)
  obtain ⟨hμ9, rfl⟩ := hq
  rw [hμ9]
  clear hμ9 μ9
  show Z 0 9 [(0, .ref 50), (1, .int (nI k))] [.int 1] (z_ui μ 50 0 0)
  refine z_rcs hc hH 2 (pc' := 13) (lv' := [(0, .ref 50), (1, .int (nI k))]) (st' := [.int (nI k)]) (μ' := z_ui μ 50 0 0) (by rfl) ?_
  refine zq_call hc (z_cx_ok hH (by rfl)) (gm_isKindN d' (by omega) (z_ui μ 50 0 0) k hk) (by decide +kernel) (fun r9 μ9 hq => ?_)
  obtain ⟨hμ9, rfl⟩ := hq
  rw [hμ9]
  clear hμ9 μ9
  show Z 0 16 [(0, .ref 50), (1, .int (nI k))] [.int 1] (z_ui μ 50 0 0)
  refine z_rcs hc hH 3 (pc' := 21) (lv' := [(0, .ref 50), (1, .int (nI k))]) (st' := [.ref 50, .ref 50]) (μ' := z_ui μ 50 0 0) (by rfl) ?_
  refine zq_gfi hc hH (by rfl) (ci := 6) (f := 45) (by rfl) (by decide +kernel) (by rfl) ?_
  refine zV1 (Z := Z) (ui_k (by first | decide | omega)) ?_
  rw [ht]
  refine z_rcs hc hH 1 (pc' := 25) (lv' := [(0, .ref 50), (1, .int (nI k))]) (st' := [.int (nI k), .int (nI t), .ref 50]) (μ' := z_ui μ 50 0 0) (by rfl) ?_
  refine zq_call hc (z_cx_ok hH (by rfl)) (fc_X7_has_ d' (by omega) (z_ui μ 50 0 0) t k ht4 hk) (by decide +kernel) (fun r9 μ9 hq => ?_)
  obtain ⟨hμ9, rfl⟩ := hq
  rw [hμ9]
  clear hμ9 μ9
  rw [ui_o (by first | decide | omega)]
  show Z 0 28 [(0, .ref 50), (1, .int (nI k))] [.int (μ.1 60 (34 * t + k))] (z_ui μ 50 0 0)
  refine z_rcs hc hH 1 (pc' := 29) (lv' := [(0, .ref 50), (1, .int (nI k))]) (st' := [.int 4, .int (μ.1 60 (34 * t + k))]) (μ' := z_ui μ 50 0 0) (by rfl) ?_
  refine zq_ic hc hH (by rfl) (tg := 34) (by rfl) (fun h1 => ?_) (fun h1 => ?_)
  · have h1 : (decide ((μ.1 60 (34 * t + k)) = 4)) = true := decide_eq_true (cm_eq9.mp h1)
    exact absurd (Eq.trans (Eq.symm (h4)) h1) (by decide)
  · have h1 : (decide ((μ.1 60 (34 * t + k)) = 4)) = false := decide_eq_false (cn_eq.mp h1)
    refine z_rcs hc hH 1 (pc' := 33) (lv' := [(0, .ref 50), (1, .int (nI k))]) (st' := [.int 0]) (μ' := z_ui μ 50 0 0) (by rfl) ?_
    exact hr 0 33 _ _ _ (some (.int 0)) (by decide +kernel) (z_rx_ok hH (by rfl)) (⟨rfl, rfl⟩)
/-! hide answers alike -/
set_option maxRecDepth 8000
noncomputable abbrev xMM (μ : zM) (t : Nat) : Bool := (decide ((μ.1 0 7) = 1)) && (!(decide ((μ.1 0 15) = (-1))) && ((decide ((μ.1 (18 + 8 * t) 5) = 0)) && (!(decide ((xLf μ) ≤ 0)) && (!(decide (4 ≤ (μ.1 2 3)))))))
noncomputable abbrev mMM (μ : zM) (t : Nat) : Bool := (decide ((μ.1 50 44) = 1)) && ((decide ((μ.1 50 57) = 0)) && ((decide ((μ.1 67 t) = 0)) && (!(decide (((122 - (μ.1 50 47)) - (μ.1 50 46)) ≤ 0)) && (!(decide (4 ≤ (μ.1 50 47)))))))
theorem nI_m1n {c : Nat} (hc : c < 34) : decide (nI c = -1) = false := kn_m1 (by omega)
theorem mm_eq {x m : zM} {p t c : Nat} (R : RCl x m) (P : RPh x m p t c) : xMM x t = mMM m t := by
  unfold xMM mMM xLf
  rw [P.px, P.pm, R.sd, P.is, P.fo, R.nx, R.be t P.t4, P.cx]
  rcases P.p3 with e | e | e
  · rw [P.jc e]
    by_cases q : c = 34
    · rw [if_pos q, if_pos q]; rfl
    · rw [if_neg q, if_neg q, nI_m1n (by have := P.c3; omega)]; rfl
  · subst e; rfl
  · subst e; rfl
theorem turn_nI {m : zM} (h : a_H m) : ∃ t, t < 4 ∧ m.1 50 45 = nI t := by
  obtain ⟨a, h1, h2⟩ := i_nat (v := m.1 50 45) (n := 3) (h 50 45).1 (h 50 45).2 (by decide)
  exact ⟨a, by omega, h2⟩
theorem mMM_0 {m : zM} {t : Nat} {v : Int32} : mMM (z_ui m 50 0 v) t = mMM m t := by
  unfold mMM
  rw [ui_k (by decide), ui_k (by decide), ui_o (by decide), ui_k (by decide), ui_k (by decide)]
theorem mMM_e {m m' : zM} {t : Nat} (h : EqM m m') : mMM m' t = mMM m t := by
  have e : ∀ k, 40 ≤ k → k ≤ 59 → m'.1 50 k = m.1 50 k := fun k h1 h2 => (h 50 k (Or.inr ⟨rfl, h1, h2⟩)).1
  unfold mMM
  rw [e 44 (by decide) (by decide), e 57 (by decide) (by decide), e 47 (by decide) (by decide), e 46 (by decide) (by decide), (h 67 t (Or.inl ⟨by decide, by decide⟩)).1]
theorem rq_47 {x m : zM} {lb : Nat} (Q : RQ x m lb) (v : Int32) : RQ x (z_ui m 50 47 v) lb := ⟨(by rw [ui_k (by decide)]; exact Q.br), fun z s hs => by rw [ui_k (by decide)] at z; rw [ui_o (by decide)]; exact Q.us z s hs, Q.ow, (by rw [ui_k (by decide)]; exact Q.o1), (by rw [ui_k (by decide)]; exact Q.is), fun s hs => by rw [ui_o (by decide)]; exact Q.s1 s hs, (by rw [ui_k (by decide)]; exact Q.w0), DNm.cg (m := m) Q.dn (fun s _ => ui_o (by decide)) (ui_k (by decide)) (ui_k (by decide)) (ui_k (by decide)), fun z s hs => by rw [ui_k (by decide)] at z; rw [ui_o (by decide), ui_o (by decide)]; exact Q.dr z s hs, Q.tc.cg (fun _ _ _ _ => rfl) (fun i => ui_o (by decide)) (ui_k (by decide)) (ui_k (by decide))⟩
theorem rc_47 {x m : zM} (R : RCl x m) (v : Int32) : RCl x (z_ui m 50 47 v) := RCl.cg2 (x := x) (x' := x) (m := m) (m' := z_ui m 50 47 v) (q2_x _) (q2_mu (q2_m _) (by unfold gM2; omega)) R
/-- hide, done: both games behind it -/
theorem rg_hide {x m : zM} {t c k q n k2 : Nat} (R : RCl x m) (P : RPh x m 1 t c) (hk : k < 34) (hq : q ≤ 3) (e64 : m.1 64 t = nI q) (hm4 : ∀ j, j < 4 → (m.1 64 j).toNatClampNeg ≤ 4) (hn : n < 4) (e47 : m.1 50 47 = nI n) (e48 : m.1 50 48 = nI n) (hk2 : k2 < 34) (hw : m.1 59 (122 + n) = nI k2) (hnx : bI 0 122 (m.1 50 46)) (hh : ¬ (z_giv m t k (-4)).1 60 (34 * t + k2) = -1) : RG (dT1 (bkH (ldS x t 3 k q)) t n k2) (dM1 (z_ui (toM (z_lys (z_giv m t k (-4)) t q 3 (nI k))) 50 47 (m.1 50 47 + 1)) t n k2) := by
  have ht := P.t4
  have A := lay_hide (x := x) (m := m) (s := t) (c := k) (q := q) ht hk hq
  have R1 := rc_lay R A ht hq e64 (svd_n ⟨by decide, by decide⟩ (by decide) hk) hm4
  have R2 := rc_47 (rc_brk R1) (m.1 50 47 + 1)
  obtain ⟨Q, f1, f2⟩ := rq_hide P A (fun j hj => by
    rw [ct_n9 (by decide) hk hj]
    show (if j = k then (-4 : Int32) else 0) + _ = 0
    by_cases e : j = k
    · rw [if_pos e, if_pos e]; decide
    · rw [if_neg e, if_neg e]; decide)
  have Q2 := rq_47 Q (m.1 50 47 + 1)
  have g : ∀ r k', r ≠ 60 → r ≠ 62 → r ≠ 63 → r ≠ 64 → r ≠ 69 → (r ≠ 50 ∨ (k' ≠ 56 ∧ k' ≠ 47)) → (z_ui (toM (z_lys (z_giv m t k (-4)) t q 3 (nI k))) 50 47 (m.1 50 47 + 1)).1 r k' = m.1 r k' := fun r k' h1 h2 h3 h4 h5 h6 => by
    have z : (toM (z_lys (z_giv m t k (-4)) t q 3 (nI k))).1 r k' = m.1 r k' := by rw [toM_o ⟨h5, by omega⟩, lys_o ⟨h2, h3, h4⟩, giv_o h1]
    by_cases e : r = 50
    · rw [ui_k (by first | decide | omega)]; exact z
    · rw [ui_o e]; exact z
  refine ⟨rc_draw1 R2 ht hk2, Or.inr ⟨1, t, k2, rp_draw1 R2 Q2 ht hk2 ?_ hn ?_ ?_ ?_ (by rw [ui_o (by decide), toM_o ⟨by decide, Or.inl (by decide)⟩, lys_o ⟨by decide, by decide, by decide⟩]; exact hh)⟩⟩
  · rw [g 50 48 (by omega) (by omega) (by omega) (by omega) (by omega) (by omega)]; exact e48
  · rw [g 50 46 (by omega) (by omega) (by omega) (by omega) (by omega) (by omega)]; exact hnx
  · rw [g 59 _ (by omega) (by omega) (by omega) (by omega) (by omega) (by omega)]; exact hw
  · rw [ui_s, e47, nI_s1]
/-! hide answers alike: the call -/
set_option maxRecDepth 8000
theorem xk_mm {μ : zM} {t : Nat} (ht4 : t < 4) (ht : μ.1 0 8 = nI t) {b : Bool} (h : xMM μ t = b) : ∀ d, 3 ≤ d → z_C d mi_X6_mayMakeFour [.ref 0] μ (zR μ (.int (nB b))) := fun d hd => by
  rw [← h]; exact gc_mayMakeFour d hd μ t ht4 ht
theorem mk_mm {μ : zM} {t : Nat} (ht4 : t < 4) (ht : μ.1 50 45 = nI t) {b : Bool} (h : mMM μ t = b) : ∀ d, 2 ≤ d → z_C d mi_X7_mayMake [.ref 50] (z_ui μ 50 0 0) (zR (z_ui μ 50 0 0) (.int (nB b))) := fun d hd => by
  rw [← h, ← mMM_0 (m := μ) (v := 0)]
  exact gm_mayMake d hd (z_ui μ 50 0 0) t ht4 (by rw [ui_k (by decide)]; exact ht)
theorem isK_no {μ : zM} {x : Int32} (h : ¬ vp_in x 34) : ∀ d, 1 ≤ d → z_C d mi_X7_isKind [.int x] μ (zR μ (.int 0)) := fun d hd => z_C_mono (fc_X7_isKind d hd μ x) (fun r m z => ⟨z.1, by
  rcases z.2 with ⟨_, y⟩ | ⟨y, _⟩
  · exact absurd y h
  · exact y⟩)
theorem fr_no {μ : zM} {r : Nat} {x : Int32} (h : ¬ vp_in x 34) : fr μ r x = 0 := by
  unfold fr
  cases e : z_in x 34
  · rfl
  · exact absurd (z_in_iff.mp e) h
theorem fr_yes {μ : zM} {r k : Nat} (h : k < 34) : fr μ r (nI k) = μ.1 r k := by
  unfold fr
  rw [z_in_iff.mpr (vp_in_nI h (by decide)), cond_true, nI_clamp (by omega)]
theorem lg_hide {d : Nat} (hd : 705 ≤ d) {μ : zM} (h : LGm μ) (x : Int32) : z_C d mi_X6_hide [.ref 0, .int x] μ (fun r μ1 => LJ μ1 ∧ ∃ y, r = some (.int y) ∧ z_C d mi_X7_hide [.ref 50, .int x] μ1 (fun r2 μ2 => LGm μ2 ∧ r2 = some (.int y))) := by
  obtain ⟨hJ, hR⟩ := h
  have kx : z_C d mi_X6_hide [.ref 0, .int x] μ (fun _ μ' => LJ μ' ∧ EqM μ μ') := lg_k (i := 64) (K := ak_64) rfl (by omega) (by decide +kernel) (by decide +kernel) rfl (by decide +kernel) [.ref 0, .int x] μ hJ ⟨⟨0, by decide, rfl⟩, ⟨_, rfl, bI_top _⟩, trivial⟩
  have km : ∀ μ1, LJ μ1 → z_C d mi_X7_hide [.ref 50, .int x] μ1 (fun _ μ' => LJ μ' ∧ EqX μ1 μ') := fun μ1 h1 => lg_g h1 (fc_X7_hide d (by omega) μ1 x h1.1)
  have no : z_C d mi_X6_hide [.ref 0, .int x] μ (fun r μ' => r = some (.int 0) ∧ μ' = μ) → z_C d mi_X7_hide [.ref 50, .int x] μ (fun r μ' => r = some (.int 0) ∧ μ' = z_ui μ 50 0 0) → z_C d mi_X6_hide [.ref 0, .int x] μ (fun r μ1 => LJ μ1 ∧ ∃ y, r = some (.int y) ∧ z_C d mi_X7_hide [.ref 50, .int x] μ1 (fun r2 μ2 => LGm μ2 ∧ r2 = some (.int y))) := fun c1 c2 => z_C_mono (zC_and d kx c1) (fun r μ1 q => by
    obtain ⟨⟨q1, _⟩, q2, rfl⟩ := q
    exact ⟨q1, 0, q2, z_C_mono (zC_and d (km _ q1) c2) (fun r2 μ2 z => ⟨lg_no hR z.2.2 z.1.1, z.2.1⟩)⟩)
  have hA := hJ.1.1
  rcases hR.2 with ⟨p1, p2, p3, p4, p5⟩ | ⟨p, t, c, P⟩
  · obtain ⟨t, ht4, ht⟩ := turn_nI hA
    have e1 : xMM μ t = false := by unfold xMM; rw [p1]; rfl
    have e2 : mMM μ t = false := by unfold mMM; rw [p2]; rfl
    exact no (gx_hide d (by omega) μ x (xk_mm ht4 (p5.trans ht) e1)) (mr_hide d (by omega) μ x (mk_mm ht4 ht e2))
  · have R := hR.1
    have ht4 := P.t4
    have eq := mm_eq R P
    cases hm : mMM μ t with
    | false => exact no (gx_hide d (by omega) μ x (xk_mm ht4 P.tx (eq.trans hm))) (mr_hide d (by omega) μ x (mk_mm ht4 P.tm hm))
    | true =>
      have hx1 := xk_mm ht4 P.tx (eq.trans hm)
      have hm1 := mk_mm ht4 P.tm hm
      by_cases hv : vp_in x 34
      · obtain ⟨k, hk, rfl⟩ := vp_in_of hv (by decide)
        have hp0 : ¬ μ.1 50 44 = 0 := by rw [P.pm]; rcases P.p3 with q | q | q <;> (rw [q]; decide)
        have G := hJ.1.2.2 hp0
        obtain ⟨w, aw, q, sL, lL, H⟩ := hf_of R P hA G ht4
        have hwk := H.1.1 k hk
        by_cases h4 : w k = 4
        · have hp1 : p = 1 := by
            have z := hm
            unfold mMM at z
            have z := (z_and z).1
            have z := of_decide_eq_true z
            rw [P.pm] at z
            rcases P.p3 with q | q | q
            · exact q
            · rw [q] at z; exact absurd z (by decide)
            · rw [q] at z; exact absurd z (by decide)
          subst hp1
          obtain ⟨z1, z2⟩ := z_and hm
          obtain ⟨z3, z4⟩ := z_and z2
          obtain ⟨z5, z6⟩ := z_and z4
          obtain ⟨z7, z8⟩ := z_and z6
          obtain ⟨n, hn1, hn2⟩ := i_nat (v := μ.1 50 47) (n := 4) (hA 50 47).1 (hA 50 47).2 (by decide)
          have hn : n < 4 := by
            rcases Nat.lt_or_ge n 4 with y | y
            · exact y
            · exfalso
              have : n = 4 := by omega
              rw [hn2, this] at z8
              exact absurd z8 (by decide)
          have hq3 : q ≤ 3 := by
            have g1 := G.1.2 t ht4
            have g2 := G.1.le ht4 hk
            have g3 : glim μ t ≤ 14 := by unfold glim; split <;> decide
            have g4 : hI μ (34 * t + k) = 4 := by unfold hI; rw [hwk.1, h4]; decide
            have g5 : mI μ t = q := by unfold mI; rw [H.1.2.1]; exact nI_toInt (by have := H.1.2.2.1; omega)
            omega
          obtain ⟨k2, hk2a, hk2b⟩ := i_nat (v := μ.1 59 (122 + n)) (n := 33) (hA 59 _).1 (hA 59 _).2 (by decide)
          have hk2 : k2 < 34 := by omega
          have e48 : μ.1 50 48 = nI n := G.2.2.1.trans hn2
          have hz3 : k + zl 3 ≤ 33 := by rw [show zl 3 = 0 from by decide]; omega
          refine z_C_mono (zC_and d kx (gc_hide d (by omega) μ t ht4 P.tx k q hk hz3 hq3 H.2.2.2.1 n k2 (by omega) (P.fo.trans hn2) (R.sd.trans P.is) hk2 ((R.wl _ (by omega)).trans hk2b) true hx1)) (fun r μ1 qq => ?_)
          obtain ⟨⟨q1, qM⟩, q2, q3⟩ := qq
          have f4 : decide (4 ≤ fr μ (20 + 8 * t) (nI k)) = true := by rw [fr_yes hk, R.hd t k ht4 hk, hwk.1, h4]; decide
          rw [f4, cond_true, cond_true] at q2 q3
          refine ⟨q1, 1, q2, ?_⟩
          have E : ∀ r k', gMc r k' → μ1.1 r k' = μ.1 r k' := fun r k' g => (qM r k' g).1
          have R' := (hR.cg (eqX_rf _) qM).1
          have P' := P.cg (eqX_rf _) qM
          refine z_C_mono (zC_and d (km μ1 q1) (gm_hide d (by omega) μ1 t ht4 P'.tm k q n k2 hk (by omega) ((E 64 t (Or.inl ⟨by decide, by decide⟩)).trans H.1.2.1) (by omega) ((E 50 48 (Or.inr ⟨rfl, by decide, by decide⟩)).trans e48) hk2 ((E 59 _ (Or.inl ⟨by decide, by decide⟩)).trans hk2b) true (mk_mm ht4 P'.tm ((mMM_e qM).trans hm)))) (fun r2 μ2 z => ?_)
          obtain ⟨⟨y1, yX⟩, y2, y3⟩ := z
          have f5 : decide (μ1.1 60 (34 * t + k) = 4) = true := by rw [E 60 _ (Or.inl ⟨by decide, by decide⟩), hwk.1, h4]; decide
          rw [f5, cond_true, cond_true] at y2 y3
          refine ⟨⟨y1, ?_⟩, y2⟩
          have R0 := R'.cg (eqX_rf _) (t0_EqM μ1 0)
          have P0 := P'.cg (eqX_rf _) (t0_EqM μ1 0)
          have E0 : ∀ r k', gMc r k' → (z_ui μ1 50 0 0).1 r k' = μ.1 r k' := fun r k' g => ((t0_EqM μ1 0 r k' g).1).trans (E r k' g)
          have g := rg_hide (k := k) (q := q) (n := n) (k2 := k2) R0 P0 hk hq3 ((E0 64 t (Or.inl ⟨by decide, by decide⟩)).trans H.1.2.1) (fun j hj => by
            rw [E0 64 j (Or.inl ⟨by decide, by decide⟩)]
            obtain ⟨a, b1, b2⟩ := i_nat (v := μ.1 64 j) (n := 4) (hA 64 j).1 (hA 64 j).2 (by decide)
            rw [b2, nI_clamp (by omega)]; exact b1) hn ((E0 50 47 (Or.inr ⟨rfl, by decide, by decide⟩)).trans hn2) ((E0 50 48 (Or.inr ⟨rfl, by decide, by decide⟩)).trans e48) hk2 ((E0 59 _ (Or.inl ⟨by decide, by decide⟩)).trans hk2b) (by rw [E0 50 46 (Or.inr ⟨rfl, by decide, by decide⟩)]; exact hA 50 46) (by
            rw [giv_60, E0 60 _ (Or.inl ⟨by decide, by decide⟩), (H.1.1 k2 hk2).1]
            by_cases e : 34 * t + k2 = 34 * t + k
            · have e : k2 = k := by omega
              rw [if_pos (by omega), e, h4]; decide
            · rw [if_neg e]; exact of_decide_eq_false (kn_m1 (by have := (H.1.1 k2 hk2).2; omega)))
          rw [← q3, show (z_ui μ1 50 0 0).1 50 47 = μ1.1 50 47 from ui_k (by decide), ← y3] at g
          exact g.cg yX (eqM_rf _)
        · have ne4 : ∀ v : Nat, v ≤ 4 → v ≠ 4 → decide (4 ≤ nI v) = false ∧ decide (nI v = 4) = false := fun v h1 h2 => by
            obtain rfl | rfl | rfl | rfl : v = 0 ∨ v = 1 ∨ v = 2 ∨ v = 3 := by omega
            all_goals decide
          have z := ne4 (w k) hwk.2 h4
          exact no (gx_hideF d (by omega) μ (nI k) t ht4 P.tx hx1 (by rw [fr_yes hk, R.hd t k ht4 hk, hwk.1]; exact z.1)) (mr_hideH d (by omega) μ t k ht4 P.tm hk hm1 (by rw [hwk.1]; exact z.2))
      · exact no (gx_hideF d (by omega) μ x t ht4 P.tx hx1 (by rw [fr_no hv]; decide)) (mr_hideK d (by omega) μ x hm1 (isK_no hv))
/-! questions of the reference -/
set_option maxRecDepth 8000
theorem gm_hand (d : Nat) (hd : 3 ≤ d) (μ : zM) (s : Nat) (hs4 : s < 4) (k : Nat) (hk : k < 34) : z_C d mi_X7_hand [.ref 50, .int (nI s), .int (nI k)] μ (fun r μ' => r = some (.int (μ.1 60 (34 * s + k))) ∧ μ' = z_ui μ 50 0 0) := by
  refine z_C_in (by decide) (by omega) (fun d' Z ed hc hr => ?_)
  have hH : zH mi_X7_hand zt_X7_hand 79 7 3 := hh_X7_hand
  refine z_rcs hc hH 2 (pc' := 2) (lv' := [(0, .ref 50), (1, .int (nI s)), (2, .int (nI k))]) (st' := [.int 0, .ref 50]) (μ' := μ) (by rfl) ?_
  refine zq_pfi hc hH (by rfl) (ci := 6) (f := 0) (by rfl) (by decide +kernel) (by rfl) ?_
  show Z 0 5 [(0, .ref 50), (1, .int (nI s)), (2, .int (nI k))] [] (z_ui μ 50 0 0)
  refine z_rcs hc hH 1 (pc' := 6) (lv' := [(0, .ref 50), (1, .int (nI s)), (2, .int (nI k))]) (st' := [.int (nI s)]) (μ' := z_ui μ 50 0 0) (by rfl) ?_
  refine zq_call hc (z_cx_ok hH (by rfl)) (gm_isSeatN d' (by omega) (z_ui μ 50 0 0) s hs4) (by decide +kernel) (fun r9 μ9 hq => ?_)
  obtain ⟨hμ9, rfl⟩ := hq
  rw [hμ9]
  clear hμ9 μ9
  show Z 0 9 [(0, .ref 50), (1, .int (nI s)), (2, .int (nI k))] [.int 1] (z_ui μ 50 0 0)
  refine z_rcs hc hH 2 (pc' := 13) (lv' := [(0, .ref 50), (1, .int (nI s)), (2, .int (nI k))]) (st' := [.int (nI k)]) (μ' := z_ui μ 50 0 0) (by rfl) ?_
  refine zq_call hc (z_cx_ok hH (by rfl)) (gm_isKindN d' (by omega) (z_ui μ 50 0 0) k hk) (by decide +kernel) (fun r9 μ9 hq => ?_)
  obtain ⟨hμ9, rfl⟩ := hq
  rw [hμ9]
  clear hμ9 μ9
  show Z 0 16 [(0, .ref 50), (1, .int (nI s)), (2, .int (nI k))] [.int 1] (z_ui μ 50 0 0)
  refine z_rcs hc hH 4 (pc' := 22) (lv' := [(0, .ref 50), (1, .int (nI s)), (2, .int (nI k))]) (st' := [.int (nI k), .int (nI s), .ref 50]) (μ' := z_ui μ 50 0 0) (by rfl) ?_
  refine zq_call hc (z_cx_ok hH (by rfl)) (fc_X7_has_ d' (by omega) (z_ui μ 50 0 0) s k hs4 hk) (by decide +kernel) (fun r9 μ9 hq => ?_)
  obtain ⟨hμ9, rfl⟩ := hq
  rw [hμ9]
  clear hμ9 μ9
  rw [ui_o (by first | decide | omega)]
  show Z 0 25 [(0, .ref 50), (1, .int (nI s)), (2, .int (nI k))] [.int (μ.1 60 (34 * s + k))] (z_ui μ 50 0 0)
  refine z_rcs hc hH 1 (pc' := 29) (lv' := [(0, .ref 50), (1, .int (nI s)), (2, .int (nI k))]) (st' := [.int (μ.1 60 (34 * s + k))]) (μ' := z_ui μ 50 0 0) (by rfl) ?_
  exact hr 0 29 _ _ _ (some (.int (μ.1 60 (34 * s + k)))) (by decide +kernel) (z_rx_ok hH (by rfl)) (⟨rfl, rfl⟩)
theorem gm_handS (d : Nat) (hd : 3 ≤ d) (μ : zM) (y x : Int32) (hs : ∀ d, 1 ≤ d → z_C d mi_X7_isSeat [.int y] (z_ui μ 50 0 0) (zR (z_ui μ 50 0 0) (.int 0))) : z_C d mi_X7_hand [.ref 50, .int y, .int x] μ (fun r μ' => r = some (.int 0) ∧ μ' = z_ui μ 50 0 0) := by
  refine z_C_in (by decide) (by omega) (fun d' Z ed hc hr => ?_)
  have hH : zH mi_X7_hand zt_X7_hand 79 7 3 := hh_X7_hand
  refine z_rcs hc hH 2 (pc' := 2) (lv' := [(0, .ref 50), (1, .int y), (2, .int x)]) (st' := [.int 0, .ref 50]) (μ' := μ) (by rfl) ?_
  refine zq_pfi hc hH (by rfl) (ci := 6) (f := 0) (by rfl) (by decide +kernel) (by rfl) ?_
  show Z 0 5 [(0, .ref 50), (1, .int y), (2, .int x)] [] (z_ui μ 50 0 0)
  refine z_rcs hc hH 1 (pc' := 6) (lv' := [(0, .ref 50), (1, .int y), (2, .int x)]) (st' := [.int y]) (μ' := z_ui μ 50 0 0) (by rfl) ?_
  refine zq_call hc (z_cx_ok hH (by rfl)) (hs d' (by omega)) (by decide +kernel) (fun r9 μ9 hq => ?_)
  obtain ⟨hμ9, rfl⟩ := hq
  rw [hμ9]
  clear hμ9 μ9
  show Z 0 9 [(0, .ref 50), (1, .int y), (2, .int x)] [.int 0] (z_ui μ 50 0 0)
  refine z_rcs hc hH 2 (pc' := 29) (lv' := [(0, .ref 50), (1, .int y), (2, .int x)]) (st' := [.int 0]) (μ' := z_ui μ 50 0 0) (by rfl) ?_
  exact hr 0 29 _ _ _ (some (.int 0)) (by decide +kernel) (z_rx_ok hH (by rfl)) (⟨rfl, rfl⟩)
theorem gm_handK (d : Nat) (hd : 3 ≤ d) (μ : zM) (s : Nat) (hs4 : s < 4) (x : Int32) (hk : ∀ d, 1 ≤ d → z_C d mi_X7_isKind [.int x] (z_ui μ 50 0 0) (zR (z_ui μ 50 0 0) (.int 0))) : z_C d mi_X7_hand [.ref 50, .int (nI s), .int x] μ (fun r μ' => r = some (.int 0) ∧ μ' = z_ui μ 50 0 0) := by
  refine z_C_in (by decide) (by omega) (fun d' Z ed hc hr => ?_)
  have hH : zH mi_X7_hand zt_X7_hand 79 7 3 := hh_X7_hand
  refine z_rcs hc hH 2 (pc' := 2) (lv' := [(0, .ref 50), (1, .int (nI s)), (2, .int x)]) (st' := [.int 0, .ref 50]) (μ' := μ) (by rfl) ?_
  refine zq_pfi hc hH (by rfl) (ci := 6) (f := 0) (by rfl) (by decide +kernel) (by rfl) ?_
  show Z 0 5 [(0, .ref 50), (1, .int (nI s)), (2, .int x)] [] (z_ui μ 50 0 0)
  refine z_rcs hc hH 1 (pc' := 6) (lv' := [(0, .ref 50), (1, .int (nI s)), (2, .int x)]) (st' := [.int (nI s)]) (μ' := z_ui μ 50 0 0) (by rfl) ?_
  refine zq_call hc (z_cx_ok hH (by rfl)) (gm_isSeatN d' (by omega) (z_ui μ 50 0 0) s hs4) (by decide +kernel) (fun r9 μ9 hq => ?_)
  obtain ⟨hμ9, rfl⟩ := hq
  rw [hμ9]
  clear hμ9 μ9
  show Z 0 9 [(0, .ref 50), (1, .int (nI s)), (2, .int x)] [.int 1] (z_ui μ 50 0 0)
  refine z_rcs hc hH 2 (pc' := 13) (lv' := [(0, .ref 50), (1, .int (nI s)), (2, .int x)]) (st' := [.int x]) (μ' := z_ui μ 50 0 0) (by rfl) ?_
  refine zq_call hc (z_cx_ok hH (by rfl)) (hk d' (by omega)) (by decide +kernel) (fun r9 μ9 hq => ?_)
  obtain ⟨hμ9, rfl⟩ := hq
  rw [hμ9]
  clear hμ9 μ9
  show Z 0 16 [(0, .ref 50), (1, .int (nI s)), (2, .int x)] [.int 0] (z_ui μ 50 0 0)
  refine z_rcs hc hH 2 (pc' := 29) (lv' := [(0, .ref 50), (1, .int (nI s)), (2, .int x)]) (st' := [.int 0]) (μ' := z_ui μ 50 0 0) (by rfl) ?_
  exact hr 0 29 _ _ _ (some (.int 0)) (by decide +kernel) (z_rx_ok hH (by rfl)) (⟨rfl, rfl⟩)
theorem gm_seat0 (d : Nat) (hd : 4 ≤ d) (μ : zM) (s : Nat) (hs4 : s < 4) : z_C d mi_X7_seat [.ref 50, .int (nI s), .int 0] μ (fun r μ' => r = some (.int (μ.1 61 s)) ∧ μ' = z_ui μ 50 0 0) := by
  refine z_C_in (by decide) (by omega) (fun d' Z ed hc hr => ?_)
  have hH : zH mi_X7_seat zt_X7_seat 79 7 3 := hh_X7_seat
  refine z_rcs hc hH 2 (pc' := 2) (lv' := [(0, .ref 50), (1, .int (nI s)), (2, .int 0)]) (st' := [.int 0, .ref 50]) (μ' := μ) (by rfl) ?_
  refine zq_pfi hc hH (by rfl) (ci := 6) (f := 0) (by rfl) (by decide +kernel) (by rfl) ?_
  show Z 0 5 [(0, .ref 50), (1, .int (nI s)), (2, .int 0)] [] (z_ui μ 50 0 0)
  refine z_rcs hc hH 1 (pc' := 6) (lv' := [(0, .ref 50), (1, .int (nI s)), (2, .int 0)]) (st' := [.int (nI s)]) (μ' := z_ui μ 50 0 0) (by rfl) ?_
  refine zq_call hc (z_cx_ok hH (by rfl)) (gm_isSeatN d' (by omega) (z_ui μ 50 0 0) s hs4) (by decide +kernel) (fun r9 μ9 hq => ?_)
  obtain ⟨hμ9, rfl⟩ := hq
  rw [hμ9]
  clear hμ9 μ9
  show Z 0 9 [(0, .ref 50), (1, .int (nI s)), (2, .int 0)] [.int 1] (z_ui μ 50 0 0)
  refine z_rcs hc hH 4 (pc' := 61) (lv' := [(0, .ref 50), (1, .int (nI s)), (2, .int 0)]) (st' := [.ref 50]) (μ' := z_ui μ 50 0 0) (by rfl) ?_
  refine zq_gfr hc hH (by rfl) (ci := 6) (f := 29) (q := 61) (by rfl) (by decide +kernel) (by rfl) (by decide +kernel) ?_
  refine z_rcs hc hH 1 (pc' := 65) (lv' := [(0, .ref 50), (1, .int (nI s)), (2, .int 0)]) (st' := [.int (nI s), .ref 61]) (μ' := z_ui μ 50 0 0) (by rfl) ?_
  refine zq_iald hc hH (by rfl) 4 (oka_i (by decide +kernel)) (vp_in_nI (by omega) (by decide)) ?_
  rw [nI_clamp (by omega)]
  refine zV1 (Z := Z) (ui_o (by first | decide | omega)) ?_
  exact hr 0 66 _ _ _ (some (.int (μ.1 61 s))) (by decide +kernel) (z_rx_ok hH (by rfl)) (⟨rfl, rfl⟩)
theorem gm_seat1 (d : Nat) (hd : 4 ≤ d) (μ : zM) (s : Nat) (hs4 : s < 4) : z_C d mi_X7_seat [.ref 50, .int (nI s), .int 1] μ (fun r μ' => r = some (.int (μ.1 67 s)) ∧ μ' = z_ui μ 50 0 0) := by
  refine z_C_in (by decide) (by omega) (fun d' Z ed hc hr => ?_)
  have hH : zH mi_X7_seat zt_X7_seat 79 7 3 := hh_X7_seat
  refine z_rcs hc hH 2 (pc' := 2) (lv' := [(0, .ref 50), (1, .int (nI s)), (2, .int 1)]) (st' := [.int 0, .ref 50]) (μ' := μ) (by rfl) ?_
  refine zq_pfi hc hH (by rfl) (ci := 6) (f := 0) (by rfl) (by decide +kernel) (by rfl) ?_
  show Z 0 5 [(0, .ref 50), (1, .int (nI s)), (2, .int 1)] [] (z_ui μ 50 0 0)
  refine z_rcs hc hH 1 (pc' := 6) (lv' := [(0, .ref 50), (1, .int (nI s)), (2, .int 1)]) (st' := [.int (nI s)]) (μ' := z_ui μ 50 0 0) (by rfl) ?_
  refine zq_call hc (z_cx_ok hH (by rfl)) (gm_isSeatN d' (by omega) (z_ui μ 50 0 0) s hs4) (by decide +kernel) (fun r9 μ9 hq => ?_)
  obtain ⟨hμ9, rfl⟩ := hq
  rw [hμ9]
  clear hμ9 μ9
  show Z 0 9 [(0, .ref 50), (1, .int (nI s)), (2, .int 1)] [.int 1] (z_ui μ 50 0 0)
  refine z_rcs hc hH 4 (pc' := 68) (lv' := [(0, .ref 50), (1, .int (nI s)), (2, .int 1)]) (st' := [.ref 50]) (μ' := z_ui μ 50 0 0) (by rfl) ?_
  refine zq_gfr hc hH (by rfl) (ci := 6) (f := 35) (q := 67) (by rfl) (by decide +kernel) (by rfl) (by decide +kernel) ?_
  refine z_rcs hc hH 1 (pc' := 72) (lv' := [(0, .ref 50), (1, .int (nI s)), (2, .int 1)]) (st' := [.int (nI s), .ref 67]) (μ' := z_ui μ 50 0 0) (by rfl) ?_
  refine zq_iald hc hH (by rfl) 4 (oka_i (by decide +kernel)) (vp_in_nI (by omega) (by decide)) ?_
  rw [nI_clamp (by omega)]
  refine zV1 (Z := Z) (ui_o (by first | decide | omega)) ?_
  exact hr 0 73 _ _ _ (some (.int (μ.1 67 s))) (by decide +kernel) (z_rx_ok hH (by rfl)) (⟨rfl, rfl⟩)
theorem gm_seat2 (d : Nat) (hd : 4 ≤ d) (μ : zM) (s : Nat) (hs4 : s < 4) : z_C d mi_X7_seat [.ref 50, .int (nI s), .int 2] μ (fun r μ' => r = some ((bif decide ((μ.1 70 s) = 0) then .int 0 else .int 1)) ∧ μ' = z_ui μ 50 0 0) := by
  refine z_C_in (by decide) (by omega) (fun d' Z ed hc hr => ?_)
  have hH : zH mi_X7_seat zt_X7_seat 79 7 3 := hh_X7_seat
  refine z_rcs hc hH 2 (pc' := 2) (lv' := [(0, .ref 50), (1, .int (nI s)), (2, .int 2)]) (st' := [.int 0, .ref 50]) (μ' := μ) (by rfl) ?_
  refine zq_pfi hc hH (by rfl) (ci := 6) (f := 0) (by rfl) (by decide +kernel) (by rfl) ?_
  show Z 0 5 [(0, .ref 50), (1, .int (nI s)), (2, .int 2)] [] (z_ui μ 50 0 0)
  refine z_rcs hc hH 1 (pc' := 6) (lv' := [(0, .ref 50), (1, .int (nI s)), (2, .int 2)]) (st' := [.int (nI s)]) (μ' := z_ui μ 50 0 0) (by rfl) ?_
  refine zq_call hc (z_cx_ok hH (by rfl)) (gm_isSeatN d' (by omega) (z_ui μ 50 0 0) s hs4) (by decide +kernel) (fun r9 μ9 hq => ?_)
  obtain ⟨hμ9, rfl⟩ := hq
  rw [hμ9]
  clear hμ9 μ9
  show Z 0 9 [(0, .ref 50), (1, .int (nI s)), (2, .int 2)] [.int 1] (z_ui μ 50 0 0)
  refine z_rcs hc hH 4 (pc' := 75) (lv' := [(0, .ref 50), (1, .int (nI s)), (2, .int 2)]) (st' := [.ref 50]) (μ' := z_ui μ 50 0 0) (by rfl) ?_
  refine zq_gfr hc hH (by rfl) (ci := 6) (f := 38) (q := 70) (by rfl) (by decide +kernel) (by rfl) (by decide +kernel) ?_
  refine z_rcs hc hH 1 (pc' := 79) (lv' := [(0, .ref 50), (1, .int (nI s)), (2, .int 2)]) (st' := [.int (nI s), .ref 70]) (μ' := z_ui μ 50 0 0) (by rfl) ?_
  refine zq_bald hc hH (by rfl) 4 (by decide +kernel) (vp_in_nI (by omega) (by decide)) ?_
  rw [nI_clamp (by omega)]
  refine zV1 (Z := Z) (ui_o (by first | decide | omega)) ?_
  refine zq_if hc hH (by rfl) (tg := 87) (by rfl) (fun h1 => ?_) (fun h1 => ?_)
  · have h1 : (decide ((μ.1 70 s) = 0)) = true := decide_eq_true (cm_eq9.mp h1)
    refine z_rcs hc hH 1 (pc' := 88) (lv' := [(0, .ref 50), (1, .int (nI s)), (2, .int 2)]) (st' := [.int 0]) (μ' := z_ui μ 50 0 0) (by rfl) ?_
    exact hr 0 88 _ _ _ (some (.int 0)) (by decide +kernel) (z_rx_ok hH (by rfl)) (⟨(by first | with_reducible rfl | (simp only [h1, cond_true, cond_false]; done) | rfl), (by simp only [h1, cond_true, cond_false])⟩)
  · have h1 : (decide ((μ.1 70 s) = 0)) = false := decide_eq_false (cn_eq.mp h1)
    refine z_rcs hc hH 2 (pc' := 88) (lv' := [(0, .ref 50), (1, .int (nI s)), (2, .int 2)]) (st' := [.int 1]) (μ' := z_ui μ 50 0 0) (by rfl) ?_
    exact hr 0 88 _ _ _ (some (.int 1)) (by decide +kernel) (z_rx_ok hH (by rfl)) (⟨(by first | with_reducible rfl | (simp only [h1, cond_true, cond_false]; done) | rfl), (by simp only [h1, cond_true, cond_false])⟩)
theorem gm_seat3 (d : Nat) (hd : 4 ≤ d) (μ : zM) (s : Nat) (hs4 : s < 4) : z_C d mi_X7_seat [.ref 50, .int (nI s), .int 3] μ (fun r μ' => r = some (.int (wdM (μ.1 50 40) (nI s))) ∧ μ' = z_ui μ 50 0 0) := by
  refine z_C_in (by decide) (by omega) (fun d' Z ed hc hr => ?_)
  have hH : zH mi_X7_seat zt_X7_seat 79 7 3 := hh_X7_seat
  refine z_rcs hc hH 2 (pc' := 2) (lv' := [(0, .ref 50), (1, .int (nI s)), (2, .int 3)]) (st' := [.int 0, .ref 50]) (μ' := μ) (by rfl) ?_
  refine zq_pfi hc hH (by rfl) (ci := 6) (f := 0) (by rfl) (by decide +kernel) (by rfl) ?_
  show Z 0 5 [(0, .ref 50), (1, .int (nI s)), (2, .int 3)] [] (z_ui μ 50 0 0)
  refine z_rcs hc hH 1 (pc' := 6) (lv' := [(0, .ref 50), (1, .int (nI s)), (2, .int 3)]) (st' := [.int (nI s)]) (μ' := z_ui μ 50 0 0) (by rfl) ?_
  refine zq_call hc (z_cx_ok hH (by rfl)) (gm_isSeatN d' (by omega) (z_ui μ 50 0 0) s hs4) (by decide +kernel) (fun r9 μ9 hq => ?_)
  obtain ⟨hμ9, rfl⟩ := hq
  rw [hμ9]
  clear hμ9 μ9
  show Z 0 9 [(0, .ref 50), (1, .int (nI s)), (2, .int 3)] [.int 1] (z_ui μ 50 0 0)
  refine z_rcs hc hH 5 (pc' := 91) (lv' := [(0, .ref 50), (1, .int (nI s)), (2, .int 3)]) (st' := [.int (nI s), .ref 50]) (μ' := z_ui μ 50 0 0) (by rfl) ?_
  refine zq_call hc (z_cx_ok hH (by rfl)) (fx_wind d' (by omega) (z_ui μ 50 0 0) (μ.1 50 40) (nI s) (by rw [ui_k (by first | decide | omega)])) (by decide +kernel) (fun r9 μ9 hq => ?_)
  obtain ⟨hμ9, rfl⟩ := hq
  rw [hμ9]
  clear hμ9 μ9
  show Z 0 94 [(0, .ref 50), (1, .int (nI s)), (2, .int 3)] [.int (wdM (μ.1 50 40) (nI s))] (z_ui μ 50 0 0)
  exact hr 0 94 _ _ _ (some (.int (wdM (μ.1 50 40) (nI s)))) (by decide +kernel) (z_rx_ok hH (by rfl)) (⟨rfl, rfl⟩)
theorem gm_seat4 (d : Nat) (hd : 4 ≤ d) (μ : zM) (s : Nat) (hs4 : s < 4) : z_C d mi_X7_seat [.ref 50, .int (nI s), .int 4] μ (fun r μ' => r = some (.int (μ.1 66 s)) ∧ μ' = z_ui μ 50 0 0) := by
  refine z_C_in (by decide) (by omega) (fun d' Z ed hc hr => ?_)
  have hH : zH mi_X7_seat zt_X7_seat 79 7 3 := hh_X7_seat
  refine z_rcs hc hH 2 (pc' := 2) (lv' := [(0, .ref 50), (1, .int (nI s)), (2, .int 4)]) (st' := [.int 0, .ref 50]) (μ' := μ) (by rfl) ?_
  refine zq_pfi hc hH (by rfl) (ci := 6) (f := 0) (by rfl) (by decide +kernel) (by rfl) ?_
  show Z 0 5 [(0, .ref 50), (1, .int (nI s)), (2, .int 4)] [] (z_ui μ 50 0 0)
  refine z_rcs hc hH 1 (pc' := 6) (lv' := [(0, .ref 50), (1, .int (nI s)), (2, .int 4)]) (st' := [.int (nI s)]) (μ' := z_ui μ 50 0 0) (by rfl) ?_
  refine zq_call hc (z_cx_ok hH (by rfl)) (gm_isSeatN d' (by omega) (z_ui μ 50 0 0) s hs4) (by decide +kernel) (fun r9 μ9 hq => ?_)
  obtain ⟨hμ9, rfl⟩ := hq
  rw [hμ9]
  clear hμ9 μ9
  show Z 0 9 [(0, .ref 50), (1, .int (nI s)), (2, .int 4)] [.int 1] (z_ui μ 50 0 0)
  refine z_rcs hc hH 4 (pc' := 96) (lv' := [(0, .ref 50), (1, .int (nI s)), (2, .int 4)]) (st' := [.ref 50]) (μ' := z_ui μ 50 0 0) (by rfl) ?_
  refine zq_gfr hc hH (by rfl) (ci := 6) (f := 34) (q := 66) (by rfl) (by decide +kernel) (by rfl) (by decide +kernel) ?_
  refine z_rcs hc hH 1 (pc' := 100) (lv' := [(0, .ref 50), (1, .int (nI s)), (2, .int 4)]) (st' := [.int (nI s), .ref 66]) (μ' := z_ui μ 50 0 0) (by rfl) ?_
  refine zq_iald hc hH (by rfl) 4 (oka_i (by decide +kernel)) (vp_in_nI (by omega) (by decide)) ?_
  rw [nI_clamp (by omega)]
  refine zV1 (Z := Z) (ui_o (by first | decide | omega)) ?_
  exact hr 0 101 _ _ _ (some (.int (μ.1 66 s))) (by decide +kernel) (z_rx_ok hH (by rfl)) (⟨rfl, rfl⟩)
theorem gm_seat5 (d : Nat) (hd : 4 ≤ d) (μ : zM) (s : Nat) (hs4 : s < 4) : z_C d mi_X7_seat [.ref 50, .int (nI s), .int 5] μ (fun r μ' => r = some (.int (μ.1 64 s)) ∧ μ' = z_ui μ 50 0 0) := by
  refine z_C_in (by decide) (by omega) (fun d' Z ed hc hr => ?_)
  have hH : zH mi_X7_seat zt_X7_seat 79 7 3 := hh_X7_seat
  refine z_rcs hc hH 2 (pc' := 2) (lv' := [(0, .ref 50), (1, .int (nI s)), (2, .int 5)]) (st' := [.int 0, .ref 50]) (μ' := μ) (by rfl) ?_
  refine zq_pfi hc hH (by rfl) (ci := 6) (f := 0) (by rfl) (by decide +kernel) (by rfl) ?_
  show Z 0 5 [(0, .ref 50), (1, .int (nI s)), (2, .int 5)] [] (z_ui μ 50 0 0)
  refine z_rcs hc hH 1 (pc' := 6) (lv' := [(0, .ref 50), (1, .int (nI s)), (2, .int 5)]) (st' := [.int (nI s)]) (μ' := z_ui μ 50 0 0) (by rfl) ?_
  refine zq_call hc (z_cx_ok hH (by rfl)) (gm_isSeatN d' (by omega) (z_ui μ 50 0 0) s hs4) (by decide +kernel) (fun r9 μ9 hq => ?_)
  obtain ⟨hμ9, rfl⟩ := hq
  rw [hμ9]
  clear hμ9 μ9
  show Z 0 9 [(0, .ref 50), (1, .int (nI s)), (2, .int 5)] [.int 1] (z_ui μ 50 0 0)
  refine z_rcs hc hH 4 (pc' := 103) (lv' := [(0, .ref 50), (1, .int (nI s)), (2, .int 5)]) (st' := [.ref 50]) (μ' := z_ui μ 50 0 0) (by rfl) ?_
  refine zq_gfr hc hH (by rfl) (ci := 6) (f := 32) (q := 64) (by rfl) (by decide +kernel) (by rfl) (by decide +kernel) ?_
  refine z_rcs hc hH 1 (pc' := 107) (lv' := [(0, .ref 50), (1, .int (nI s)), (2, .int 5)]) (st' := [.int (nI s), .ref 64]) (μ' := z_ui μ 50 0 0) (by rfl) ?_
  refine zq_iald hc hH (by rfl) 4 (oka_i (by decide +kernel)) (vp_in_nI (by omega) (by decide)) ?_
  rw [nI_clamp (by omega)]
  refine zV1 (Z := Z) (ui_o (by first | decide | omega)) ?_
  exact hr 0 108 _ _ _ (some (.int (μ.1 64 s))) (by decide +kernel) (z_rx_ok hH (by rfl)) (⟨rfl, rfl⟩)
theorem gm_seat6 (d : Nat) (hd : 4 ≤ d) (μ : zM) (s : Nat) (hs4 : s < 4) (op : Bool) (hop : ∀ d, 1 ≤ d → z_C d mi_X7_isOpen_ [.ref 50, .int (nI s)] (z_ui μ 50 0 0) (zR (z_ui μ 50 0 0) (.int (nB op)))) : z_C d mi_X7_seat [.ref 50, .int (nI s), .int 6] μ (fun r μ' => r = some ((bif op then .int 1 else .int 0)) ∧ μ' = z_ui μ 50 0 0) := by
  refine z_C_in (by decide) (by omega) (fun d' Z ed hc hr => ?_)
  have hH : zH mi_X7_seat zt_X7_seat 79 7 3 := hh_X7_seat
  refine z_rcs hc hH 2 (pc' := 2) (lv' := [(0, .ref 50), (1, .int (nI s)), (2, .int 6)]) (st' := [.int 0, .ref 50]) (μ' := μ) (by rfl) ?_
  refine zq_pfi hc hH (by rfl) (ci := 6) (f := 0) (by rfl) (by decide +kernel) (by rfl) ?_
  show Z 0 5 [(0, .ref 50), (1, .int (nI s)), (2, .int 6)] [] (z_ui μ 50 0 0)
  refine z_rcs hc hH 1 (pc' := 6) (lv' := [(0, .ref 50), (1, .int (nI s)), (2, .int 6)]) (st' := [.int (nI s)]) (μ' := z_ui μ 50 0 0) (by rfl) ?_
  refine zq_call hc (z_cx_ok hH (by rfl)) (gm_isSeatN d' (by omega) (z_ui μ 50 0 0) s hs4) (by decide +kernel) (fun r9 μ9 hq => ?_)
  obtain ⟨hμ9, rfl⟩ := hq
  rw [hμ9]
  clear hμ9 μ9
  show Z 0 9 [(0, .ref 50), (1, .int (nI s)), (2, .int 6)] [.int 1] (z_ui μ 50 0 0)
  refine z_rcs hc hH 5 (pc' := 111) (lv' := [(0, .ref 50), (1, .int (nI s)), (2, .int 6)]) (st' := [.int (nI s), .ref 50]) (μ' := z_ui μ 50 0 0) (by rfl) ?_
  refine zq_call hc (z_cx_ok hH (by rfl)) (hop d' (by omega)) (by decide +kernel) (fun r9 μ9 hq => ?_)
  obtain ⟨hμ9, rfl⟩ := hq
  rw [hμ9]
  clear hμ9 μ9
  show Z 0 114 [(0, .ref 50), (1, .int (nI s)), (2, .int 6)] [.int (nB op)] (z_ui μ 50 0 0)
  refine zq_if hc hH (by rfl) (tg := 121) (by rfl) (fun h1 => ?_) (fun h1 => ?_)
  · have h1 : (op) = false := nB_z.mp (cm_eq9.mp h1)
    refine z_rcs hc hH 1 (pc' := 122) (lv' := [(0, .ref 50), (1, .int (nI s)), (2, .int 6)]) (st' := [.int 0]) (μ' := z_ui μ 50 0 0) (by rfl) ?_
    exact hr 0 122 _ _ _ (some (.int 0)) (by decide +kernel) (z_rx_ok hH (by rfl)) (⟨(by first | with_reducible rfl | (simp only [h1, cond_true, cond_false]; done) | rfl), (by simp only [h1, cond_true, cond_false])⟩)
  · have h1 : (op) = true := nB_n.mp (cn_eq.mp h1)
    refine z_rcs hc hH 2 (pc' := 122) (lv' := [(0, .ref 50), (1, .int (nI s)), (2, .int 6)]) (st' := [.int 1]) (μ' := z_ui μ 50 0 0) (by rfl) ?_
    exact hr 0 122 _ _ _ (some (.int 1)) (by decide +kernel) (z_rx_ok hH (by rfl)) (⟨(by first | with_reducible rfl | (simp only [h1, cond_true, cond_false]; done) | rfl), (by simp only [h1, cond_true, cond_false])⟩)
theorem gm_seat7 (d : Nat) (hd : 4 ≤ d) (μ : zM) (s : Nat) (hs4 : s < 4) : z_C d mi_X7_seat [.ref 50, .int (nI s), .int 7] μ (fun r μ' => r = some ((bif decide ((μ.1 71 s) = 0) then .int 0 else .int 1)) ∧ μ' = z_ui μ 50 0 0) := by
  refine z_C_in (by decide) (by omega) (fun d' Z ed hc hr => ?_)
  have hH : zH mi_X7_seat zt_X7_seat 79 7 3 := hh_X7_seat
  refine z_rcs hc hH 2 (pc' := 2) (lv' := [(0, .ref 50), (1, .int (nI s)), (2, .int 7)]) (st' := [.int 0, .ref 50]) (μ' := μ) (by rfl) ?_
  refine zq_pfi hc hH (by rfl) (ci := 6) (f := 0) (by rfl) (by decide +kernel) (by rfl) ?_
  show Z 0 5 [(0, .ref 50), (1, .int (nI s)), (2, .int 7)] [] (z_ui μ 50 0 0)
  refine z_rcs hc hH 1 (pc' := 6) (lv' := [(0, .ref 50), (1, .int (nI s)), (2, .int 7)]) (st' := [.int (nI s)]) (μ' := z_ui μ 50 0 0) (by rfl) ?_
  refine zq_call hc (z_cx_ok hH (by rfl)) (gm_isSeatN d' (by omega) (z_ui μ 50 0 0) s hs4) (by decide +kernel) (fun r9 μ9 hq => ?_)
  obtain ⟨hμ9, rfl⟩ := hq
  rw [hμ9]
  clear hμ9 μ9
  show Z 0 9 [(0, .ref 50), (1, .int (nI s)), (2, .int 7)] [.int 1] (z_ui μ 50 0 0)
  refine z_rcs hc hH 4 (pc' := 124) (lv' := [(0, .ref 50), (1, .int (nI s)), (2, .int 7)]) (st' := [.ref 50]) (μ' := z_ui μ 50 0 0) (by rfl) ?_
  refine zq_gfr hc hH (by rfl) (ci := 6) (f := 39) (q := 71) (by rfl) (by decide +kernel) (by rfl) (by decide +kernel) ?_
  refine z_rcs hc hH 1 (pc' := 128) (lv' := [(0, .ref 50), (1, .int (nI s)), (2, .int 7)]) (st' := [.int (nI s), .ref 71]) (μ' := z_ui μ 50 0 0) (by rfl) ?_
  refine zq_bald hc hH (by rfl) 4 (by decide +kernel) (vp_in_nI (by omega) (by decide)) ?_
  rw [nI_clamp (by omega)]
  refine zV1 (Z := Z) (ui_o (by first | decide | omega)) ?_
  refine zq_if hc hH (by rfl) (tg := 136) (by rfl) (fun h1 => ?_) (fun h1 => ?_)
  · have h1 : (decide ((μ.1 71 s) = 0)) = true := decide_eq_true (cm_eq9.mp h1)
    refine z_rcs hc hH 1 (pc' := 137) (lv' := [(0, .ref 50), (1, .int (nI s)), (2, .int 7)]) (st' := [.int 0]) (μ' := z_ui μ 50 0 0) (by rfl) ?_
    exact hr 0 137 _ _ _ (some (.int 0)) (by decide +kernel) (z_rx_ok hH (by rfl)) (⟨(by first | with_reducible rfl | (simp only [h1, cond_true, cond_false]; done) | rfl), (by simp only [h1, cond_true, cond_false])⟩)
  · have h1 : (decide ((μ.1 71 s) = 0)) = false := decide_eq_false (cn_eq.mp h1)
    refine z_rcs hc hH 2 (pc' := 137) (lv' := [(0, .ref 50), (1, .int (nI s)), (2, .int 7)]) (st' := [.int 1]) (μ' := z_ui μ 50 0 0) (by rfl) ?_
    exact hr 0 137 _ _ _ (some (.int 1)) (by decide +kernel) (z_rx_ok hH (by rfl)) (⟨(by first | with_reducible rfl | (simp only [h1, cond_true, cond_false]; done) | rfl), (by simp only [h1, cond_true, cond_false])⟩)
theorem gm_seatd (d : Nat) (hd : 4 ≤ d) (μ : zM) (s : Nat) (hs4 : s < 4) (x : Int32) (hx : (decide (x.toInt < 0) || decide (7 < x.toInt)) = true) : z_C d mi_X7_seat [.ref 50, .int (nI s), .int x] μ (fun r μ' => r = some (.int (-1)) ∧ μ' = z_ui μ 50 0 0) := by
  refine z_C_in (by decide) (by omega) (fun d' Z ed hc hr => ?_)
  have hH : zH mi_X7_seat zt_X7_seat 79 7 3 := hh_X7_seat
  refine z_rcs hc hH 2 (pc' := 2) (lv' := [(0, .ref 50), (1, .int (nI s)), (2, .int x)]) (st' := [.int 0, .ref 50]) (μ' := μ) (by rfl) ?_
  refine zq_pfi hc hH (by rfl) (ci := 6) (f := 0) (by rfl) (by decide +kernel) (by rfl) ?_
  show Z 0 5 [(0, .ref 50), (1, .int (nI s)), (2, .int x)] [] (z_ui μ 50 0 0)
  refine z_rcs hc hH 1 (pc' := 6) (lv' := [(0, .ref 50), (1, .int (nI s)), (2, .int x)]) (st' := [.int (nI s)]) (μ' := z_ui μ 50 0 0) (by rfl) ?_
  refine zq_call hc (z_cx_ok hH (by rfl)) (gm_isSeatN d' (by omega) (z_ui μ 50 0 0) s hs4) (by decide +kernel) (fun r9 μ9 hq => ?_)
  obtain ⟨hμ9, rfl⟩ := hq
  rw [hμ9]
  clear hμ9 μ9
  show Z 0 9 [(0, .ref 50), (1, .int (nI s)), (2, .int x)] [.int 1] (z_ui μ 50 0 0)
  refine z_rcs hc hH 2 (pc' := 15) (lv' := [(0, .ref 50), (1, .int (nI s)), (2, .int x)]) (st' := [.int x]) (μ' := z_ui μ 50 0 0) (by rfl) ?_
  refine zq_tsd hc hH (by rfl) (tg := 138) (by rfl) hx ?_
  refine z_rcs hc hH 1 (pc' := 139) (lv' := [(0, .ref 50), (1, .int (nI s)), (2, .int x)]) (st' := [.int (-1)]) (μ' := z_ui μ 50 0 0) (by rfl) ?_
  exact hr 0 139 _ _ _ (some (.int (-1))) (by decide +kernel) (z_rx_ok hH (by rfl)) (⟨rfl, rfl⟩)
theorem gm_seatS (d : Nat) (hd : 4 ≤ d) (μ : zM) (y x : Int32) (hs : ∀ d, 1 ≤ d → z_C d mi_X7_isSeat [.int y] (z_ui μ 50 0 0) (zR (z_ui μ 50 0 0) (.int 0))) : z_C d mi_X7_seat [.ref 50, .int y, .int x] μ (fun r μ' => r = some (.int (-1)) ∧ μ' = z_ui μ 50 0 0) := by
  refine z_C_in (by decide) (by omega) (fun d' Z ed hc hr => ?_)
  have hH : zH mi_X7_seat zt_X7_seat 79 7 3 := hh_X7_seat
  refine z_rcs hc hH 2 (pc' := 2) (lv' := [(0, .ref 50), (1, .int y), (2, .int x)]) (st' := [.int 0, .ref 50]) (μ' := μ) (by rfl) ?_
  refine zq_pfi hc hH (by rfl) (ci := 6) (f := 0) (by rfl) (by decide +kernel) (by rfl) ?_
  show Z 0 5 [(0, .ref 50), (1, .int y), (2, .int x)] [] (z_ui μ 50 0 0)
  refine z_rcs hc hH 1 (pc' := 6) (lv' := [(0, .ref 50), (1, .int y), (2, .int x)]) (st' := [.int y]) (μ' := z_ui μ 50 0 0) (by rfl) ?_
  refine zq_call hc (z_cx_ok hH (by rfl)) (hs d' (by omega)) (by decide +kernel) (fun r9 μ9 hq => ?_)
  obtain ⟨hμ9, rfl⟩ := hq
  rw [hμ9]
  clear hμ9 μ9
  show Z 0 9 [(0, .ref 50), (1, .int y), (2, .int x)] [.int 0] (z_ui μ 50 0 0)
  refine z_rcs hc hH 2 (pc' := 13) (lv' := [(0, .ref 50), (1, .int y), (2, .int x)]) (st' := [.int (-1)]) (μ' := z_ui μ 50 0 0) (by rfl) ?_
  exact hr 0 13 _ _ _ (some (.int (-1))) (by decide +kernel) (z_rx_ok hH (by rfl)) (⟨rfl, rfl⟩)
theorem gm_count0 (d : Nat) (hd : 4 ≤ d) (μ : zM) : z_C d mi_X7_count [.ref 50, .int 0] μ (fun r μ' => r = some (.int (μ.1 50 44)) ∧ μ' = z_ui μ 50 0 0) := by
  refine z_C_in (by decide) (by omega) (fun d' Z ed hc hr => ?_)
  have hH : zH mi_X7_count zt_X7_count 79 7 2 := hh_X7_count
  refine z_rcs hc hH 2 (pc' := 2) (lv' := [(0, .ref 50), (1, .int 0)]) (st' := [.int 0, .ref 50]) (μ' := μ) (by rfl) ?_
  refine zq_pfi hc hH (by rfl) (ci := 6) (f := 0) (by rfl) (by decide +kernel) (by rfl) ?_
  show Z 0 5 [(0, .ref 50), (1, .int 0)] [] (z_ui μ 50 0 0)
  refine z_rcs hc hH 3 (pc' := 73) (lv' := [(0, .ref 50), (1, .int 0)]) (st' := [.ref 50]) (μ' := z_ui μ 50 0 0) (by rfl) ?_
  refine zq_gfi hc hH (by rfl) (ci := 6) (f := 44) (by rfl) (by decide +kernel) (by rfl) ?_
  refine zV1 (Z := Z) (ui_k (by first | decide | omega)) ?_
  exact hr 0 76 _ _ _ (some (.int (μ.1 50 44))) (by decide +kernel) (z_rx_ok hH (by rfl)) (⟨rfl, rfl⟩)
theorem gm_count1 (d : Nat) (hd : 4 ≤ d) (μ : zM) : z_C d mi_X7_count [.ref 50, .int 1] μ (fun r μ' => r = some ((bif decide ((μ.1 50 44) = 0) then .int (-1) else .int (μ.1 50 45))) ∧ μ' = z_ui μ 50 0 0) := by
  refine z_C_in (by decide) (by omega) (fun d' Z ed hc hr => ?_)
  have hH : zH mi_X7_count zt_X7_count 79 7 2 := hh_X7_count
  refine z_rcs hc hH 2 (pc' := 2) (lv' := [(0, .ref 50), (1, .int 1)]) (st' := [.int 0, .ref 50]) (μ' := μ) (by rfl) ?_
  refine zq_pfi hc hH (by rfl) (ci := 6) (f := 0) (by rfl) (by decide +kernel) (by rfl) ?_
  show Z 0 5 [(0, .ref 50), (1, .int 1)] [] (z_ui μ 50 0 0)
  refine z_rcs hc hH 3 (pc' := 78) (lv' := [(0, .ref 50), (1, .int 1)]) (st' := [.ref 50]) (μ' := z_ui μ 50 0 0) (by rfl) ?_
  refine zq_gfi hc hH (by rfl) (ci := 6) (f := 44) (by rfl) (by decide +kernel) (by rfl) ?_
  refine zV1 (Z := Z) (ui_k (by first | decide | omega)) ?_
  refine zq_if hc hH (by rfl) (tg := 88) (by rfl) (fun h1 => ?_) (fun h1 => ?_)
  · have h1 : (decide ((μ.1 50 44) = 0)) = false := decide_eq_false (cm_ne.mp h1)
    refine z_rcs hc hH 1 (pc' := 89) (lv' := [(0, .ref 50), (1, .int 1)]) (st' := [.ref 50]) (μ' := z_ui μ 50 0 0) (by rfl) ?_
    refine zq_gfi hc hH (by rfl) (ci := 6) (f := 45) (by rfl) (by decide +kernel) (by rfl) ?_
    refine zV1 (Z := Z) (ui_k (by first | decide | omega)) ?_
    exact hr 0 92 _ _ _ (some (.int (μ.1 50 45))) (by decide +kernel) (z_rx_ok hH (by rfl)) (⟨(by first | with_reducible rfl | (simp only [h1, cond_true, cond_false]; done) | rfl), (by simp only [h1, cond_true, cond_false])⟩)
  · have h1 : (decide ((μ.1 50 44) = 0)) = true := decide_eq_true (cn_ne.mp h1)
    refine z_rcs hc hH 2 (pc' := 92) (lv' := [(0, .ref 50), (1, .int 1)]) (st' := [.int (-1)]) (μ' := z_ui μ 50 0 0) (by rfl) ?_
    exact hr 0 92 _ _ _ (some (.int (-1))) (by decide +kernel) (z_rx_ok hH (by rfl)) (⟨(by first | with_reducible rfl | (simp only [h1, cond_true, cond_false]; done) | rfl), (by simp only [h1, cond_true, cond_false])⟩)
theorem gm_count2 (d : Nat) (hd : 4 ≤ d) (μ : zM) : z_C d mi_X7_count [.ref 50, .int 2] μ (fun r μ' => r = some (.int (μ.1 50 40)) ∧ μ' = z_ui μ 50 0 0) := by
  refine z_C_in (by decide) (by omega) (fun d' Z ed hc hr => ?_)
  have hH : zH mi_X7_count zt_X7_count 79 7 2 := hh_X7_count
  refine z_rcs hc hH 2 (pc' := 2) (lv' := [(0, .ref 50), (1, .int 2)]) (st' := [.int 0, .ref 50]) (μ' := μ) (by rfl) ?_
  refine zq_pfi hc hH (by rfl) (ci := 6) (f := 0) (by rfl) (by decide +kernel) (by rfl) ?_
  show Z 0 5 [(0, .ref 50), (1, .int 2)] [] (z_ui μ 50 0 0)
  refine z_rcs hc hH 3 (pc' := 94) (lv' := [(0, .ref 50), (1, .int 2)]) (st' := [.ref 50]) (μ' := z_ui μ 50 0 0) (by rfl) ?_
  refine zq_gfi hc hH (by rfl) (ci := 6) (f := 40) (by rfl) (by decide +kernel) (by rfl) ?_
  refine zV1 (Z := Z) (ui_k (by first | decide | omega)) ?_
  exact hr 0 97 _ _ _ (some (.int (μ.1 50 40))) (by decide +kernel) (z_rx_ok hH (by rfl)) (⟨rfl, rfl⟩)
theorem gm_count3 (d : Nat) (hd : 4 ≤ d) (μ : zM) : z_C d mi_X7_count [.ref 50, .int 3] μ (fun r μ' => r = some (.int (μ.1 50 41)) ∧ μ' = z_ui μ 50 0 0) := by
  refine z_C_in (by decide) (by omega) (fun d' Z ed hc hr => ?_)
  have hH : zH mi_X7_count zt_X7_count 79 7 2 := hh_X7_count
  refine z_rcs hc hH 2 (pc' := 2) (lv' := [(0, .ref 50), (1, .int 3)]) (st' := [.int 0, .ref 50]) (μ' := μ) (by rfl) ?_
  refine zq_pfi hc hH (by rfl) (ci := 6) (f := 0) (by rfl) (by decide +kernel) (by rfl) ?_
  show Z 0 5 [(0, .ref 50), (1, .int 3)] [] (z_ui μ 50 0 0)
  refine z_rcs hc hH 3 (pc' := 99) (lv' := [(0, .ref 50), (1, .int 3)]) (st' := [.ref 50]) (μ' := z_ui μ 50 0 0) (by rfl) ?_
  refine zq_gfi hc hH (by rfl) (ci := 6) (f := 41) (by rfl) (by decide +kernel) (by rfl) ?_
  refine zV1 (Z := Z) (ui_k (by first | decide | omega)) ?_
  exact hr 0 102 _ _ _ (some (.int (μ.1 50 41))) (by decide +kernel) (z_rx_ok hH (by rfl)) (⟨rfl, rfl⟩)
theorem gm_count4 (d : Nat) (hd : 4 ≤ d) (μ : zM) : z_C d mi_X7_count [.ref 50, .int 4] μ (fun r μ' => r = some (.int (μ.1 50 42)) ∧ μ' = z_ui μ 50 0 0) := by
  refine z_C_in (by decide) (by omega) (fun d' Z ed hc hr => ?_)
  have hH : zH mi_X7_count zt_X7_count 79 7 2 := hh_X7_count
  refine z_rcs hc hH 2 (pc' := 2) (lv' := [(0, .ref 50), (1, .int 4)]) (st' := [.int 0, .ref 50]) (μ' := μ) (by rfl) ?_
  refine zq_pfi hc hH (by rfl) (ci := 6) (f := 0) (by rfl) (by decide +kernel) (by rfl) ?_
  show Z 0 5 [(0, .ref 50), (1, .int 4)] [] (z_ui μ 50 0 0)
  refine z_rcs hc hH 3 (pc' := 104) (lv' := [(0, .ref 50), (1, .int 4)]) (st' := [.ref 50]) (μ' := z_ui μ 50 0 0) (by rfl) ?_
  refine zq_gfi hc hH (by rfl) (ci := 6) (f := 42) (by rfl) (by decide +kernel) (by rfl) ?_
  refine zV1 (Z := Z) (ui_k (by first | decide | omega)) ?_
  exact hr 0 107 _ _ _ (some (.int (μ.1 50 42))) (by decide +kernel) (z_rx_ok hH (by rfl)) (⟨rfl, rfl⟩)
theorem gm_count5 (d : Nat) (hd : 4 ≤ d) (μ : zM) : z_C d mi_X7_count [.ref 50, .int 5] μ (fun r μ' => r = some (.int (μ.1 50 43)) ∧ μ' = z_ui μ 50 0 0) := by
  refine z_C_in (by decide) (by omega) (fun d' Z ed hc hr => ?_)
  have hH : zH mi_X7_count zt_X7_count 79 7 2 := hh_X7_count
  refine z_rcs hc hH 2 (pc' := 2) (lv' := [(0, .ref 50), (1, .int 5)]) (st' := [.int 0, .ref 50]) (μ' := μ) (by rfl) ?_
  refine zq_pfi hc hH (by rfl) (ci := 6) (f := 0) (by rfl) (by decide +kernel) (by rfl) ?_
  show Z 0 5 [(0, .ref 50), (1, .int 5)] [] (z_ui μ 50 0 0)
  refine z_rcs hc hH 3 (pc' := 109) (lv' := [(0, .ref 50), (1, .int 5)]) (st' := [.ref 50]) (μ' := z_ui μ 50 0 0) (by rfl) ?_
  refine zq_gfi hc hH (by rfl) (ci := 6) (f := 43) (by rfl) (by decide +kernel) (by rfl) ?_
  refine zV1 (Z := Z) (ui_k (by first | decide | omega)) ?_
  exact hr 0 112 _ _ _ (some (.int (μ.1 50 43))) (by decide +kernel) (z_rx_ok hH (by rfl)) (⟨rfl, rfl⟩)
theorem gm_count6 (d : Nat) (hd : 4 ≤ d) (μ : zM) : z_C d mi_X7_count [.ref 50, .int 6] μ (fun r μ' => r = some ((bif decide ((μ.1 50 55) = 0) then .int 0 else .int ((122 - (μ.1 50 47)) - (μ.1 50 46)))) ∧ μ' = z_ui μ 50 0 0) := by
  refine z_C_in (by decide) (by omega) (fun d' Z ed hc hr => ?_)
  have hH : zH mi_X7_count zt_X7_count 79 7 2 := hh_X7_count
  refine z_rcs hc hH 2 (pc' := 2) (lv' := [(0, .ref 50), (1, .int 6)]) (st' := [.int 0, .ref 50]) (μ' := μ) (by rfl) ?_
  refine zq_pfi hc hH (by rfl) (ci := 6) (f := 0) (by rfl) (by decide +kernel) (by rfl) ?_
  show Z 0 5 [(0, .ref 50), (1, .int 6)] [] (z_ui μ 50 0 0)
  refine z_rcs hc hH 3 (pc' := 114) (lv' := [(0, .ref 50), (1, .int 6)]) (st' := [.ref 50]) (μ' := z_ui μ 50 0 0) (by rfl) ?_
  refine zq_gfi hc hH (by rfl) (ci := 6) (f := 55) (by rfl) (by decide +kernel) (by rfl) ?_
  refine zV1 (Z := Z) (ui_k (by first | decide | omega)) ?_
  refine zq_if hc hH (by rfl) (tg := 127) (by rfl) (fun h1 => ?_) (fun h1 => ?_)
  · have h1 : (decide ((μ.1 50 55) = 0)) = true := decide_eq_true (cm_eq9.mp h1)
    refine z_rcs hc hH 1 (pc' := 128) (lv' := [(0, .ref 50), (1, .int 6)]) (st' := [.int 0]) (μ' := z_ui μ 50 0 0) (by rfl) ?_
    exact hr 0 128 _ _ _ (some (.int 0)) (by decide +kernel) (z_rx_ok hH (by rfl)) (⟨(by first | with_reducible rfl | (simp only [h1, cond_true, cond_false]; done) | rfl), (by simp only [h1, cond_true, cond_false])⟩)
  · have h1 : (decide ((μ.1 50 55) = 0)) = false := decide_eq_false (cn_eq.mp h1)
    refine z_rcs hc hH 1 (pc' := 121) (lv' := [(0, .ref 50), (1, .int 6)]) (st' := [.ref 50]) (μ' := z_ui μ 50 0 0) (by rfl) ?_
    refine zq_call hc (z_cx_ok hH (by rfl)) (fx_left d' (by omega) (z_ui μ 50 0 0) (μ.1 50 47) (μ.1 50 46) (by rw [ui_k (by first | decide | omega)]) (by rw [ui_k (by first | decide | omega)])) (by decide +kernel) (fun r9 μ9 hq => ?_)
    obtain ⟨hμ9, rfl⟩ := hq
    rw [hμ9]
    clear hμ9 μ9
    show Z 0 124 [(0, .ref 50), (1, .int 6)] [.int ((122 - (μ.1 50 47)) - (μ.1 50 46))] (z_ui μ 50 0 0)
    refine z_rcs hc hH 1 (pc' := 128) (lv' := [(0, .ref 50), (1, .int 6)]) (st' := [.int ((122 - (μ.1 50 47)) - (μ.1 50 46))]) (μ' := z_ui μ 50 0 0) (by rfl) ?_
    exact hr 0 128 _ _ _ (some (.int ((122 - (μ.1 50 47)) - (μ.1 50 46)))) (by decide +kernel) (z_rx_ok hH (by rfl)) (⟨(by first | with_reducible rfl | (simp only [h1, cond_true, cond_false]; done) | rfl), (by simp only [h1, cond_true, cond_false])⟩)
theorem gm_count7 (d : Nat) (hd : 4 ≤ d) (μ : zM) : z_C d mi_X7_count [.ref 50, .int 7] μ (fun r μ' => r = some (.int (μ.1 50 47)) ∧ μ' = z_ui μ 50 0 0) := by
  refine z_C_in (by decide) (by omega) (fun d' Z ed hc hr => ?_)
  have hH : zH mi_X7_count zt_X7_count 79 7 2 := hh_X7_count
  refine z_rcs hc hH 2 (pc' := 2) (lv' := [(0, .ref 50), (1, .int 7)]) (st' := [.int 0, .ref 50]) (μ' := μ) (by rfl) ?_
  refine zq_pfi hc hH (by rfl) (ci := 6) (f := 0) (by rfl) (by decide +kernel) (by rfl) ?_
  show Z 0 5 [(0, .ref 50), (1, .int 7)] [] (z_ui μ 50 0 0)
  refine z_rcs hc hH 3 (pc' := 130) (lv' := [(0, .ref 50), (1, .int 7)]) (st' := [.ref 50]) (μ' := z_ui μ 50 0 0) (by rfl) ?_
  refine zq_gfi hc hH (by rfl) (ci := 6) (f := 47) (by rfl) (by decide +kernel) (by rfl) ?_
  refine zV1 (Z := Z) (ui_k (by first | decide | omega)) ?_
  exact hr 0 133 _ _ _ (some (.int (μ.1 50 47))) (by decide +kernel) (z_rx_ok hH (by rfl)) (⟨rfl, rfl⟩)
theorem gm_count8 (d : Nat) (hd : 4 ≤ d) (μ : zM) : z_C d mi_X7_count [.ref 50, .int 8] μ (fun r μ' => r = some ((bif decide ((μ.1 50 55) = 0) then .int 0 else .int (1 + (μ.1 50 47)))) ∧ μ' = z_ui μ 50 0 0) := by
  refine z_C_in (by decide) (by omega) (fun d' Z ed hc hr => ?_)
  have hH : zH mi_X7_count zt_X7_count 79 7 2 := hh_X7_count
  refine z_rcs hc hH 2 (pc' := 2) (lv' := [(0, .ref 50), (1, .int 8)]) (st' := [.int 0, .ref 50]) (μ' := μ) (by rfl) ?_
  refine zq_pfi hc hH (by rfl) (ci := 6) (f := 0) (by rfl) (by decide +kernel) (by rfl) ?_
  show Z 0 5 [(0, .ref 50), (1, .int 8)] [] (z_ui μ 50 0 0)
  refine z_rcs hc hH 3 (pc' := 135) (lv' := [(0, .ref 50), (1, .int 8)]) (st' := [.ref 50]) (μ' := z_ui μ 50 0 0) (by rfl) ?_
  refine zq_gfi hc hH (by rfl) (ci := 6) (f := 55) (by rfl) (by decide +kernel) (by rfl) ?_
  refine zV1 (Z := Z) (ui_k (by first | decide | omega)) ?_
  refine zq_if hc hH (by rfl) (tg := 150) (by rfl) (fun h1 => ?_) (fun h1 => ?_)
  · have h1 : (decide ((μ.1 50 55) = 0)) = true := decide_eq_true (cm_eq9.mp h1)
    refine z_rcs hc hH 1 (pc' := 151) (lv' := [(0, .ref 50), (1, .int 8)]) (st' := [.int 0]) (μ' := z_ui μ 50 0 0) (by rfl) ?_
    exact hr 0 151 _ _ _ (some (.int 0)) (by decide +kernel) (z_rx_ok hH (by rfl)) (⟨(by first | with_reducible rfl | (simp only [h1, cond_true, cond_false]; done) | rfl), (by simp only [h1, cond_true, cond_false])⟩)
  · have h1 : (decide ((μ.1 50 55) = 0)) = false := decide_eq_false (cn_eq.mp h1)
    refine z_rcs hc hH 2 (pc' := 143) (lv' := [(0, .ref 50), (1, .int 8)]) (st' := [.ref 50, .int 1]) (μ' := z_ui μ 50 0 0) (by rfl) ?_
    refine zq_gfi hc hH (by rfl) (ci := 6) (f := 47) (by rfl) (by decide +kernel) (by rfl) ?_
    refine zV1 (Z := Z) (ui_k (by first | decide | omega)) ?_
    refine z_rcs hc hH 2 (pc' := 151) (lv' := [(0, .ref 50), (1, .int 8)]) (st' := [.int (1 + (μ.1 50 47))]) (μ' := z_ui μ 50 0 0) (by rfl) ?_
    exact hr 0 151 _ _ _ (some (.int (1 + (μ.1 50 47)))) (by decide +kernel) (z_rx_ok hH (by rfl)) (⟨(by first | with_reducible rfl | (simp only [h1, cond_true, cond_false]; done) | rfl), (by simp only [h1, cond_true, cond_false])⟩)
theorem gm_count9 (d : Nat) (hd : 4 ≤ d) (μ : zM) : z_C d mi_X7_count [.ref 50, .int 9] μ (fun r μ' => r = some ((bif decide ((μ.1 50 54) = 0) then .int 0 else .int 1)) ∧ μ' = z_ui μ 50 0 0) := by
  refine z_C_in (by decide) (by omega) (fun d' Z ed hc hr => ?_)
  have hH : zH mi_X7_count zt_X7_count 79 7 2 := hh_X7_count
  refine z_rcs hc hH 2 (pc' := 2) (lv' := [(0, .ref 50), (1, .int 9)]) (st' := [.int 0, .ref 50]) (μ' := μ) (by rfl) ?_
  refine zq_pfi hc hH (by rfl) (ci := 6) (f := 0) (by rfl) (by decide +kernel) (by rfl) ?_
  show Z 0 5 [(0, .ref 50), (1, .int 9)] [] (z_ui μ 50 0 0)
  refine z_rcs hc hH 3 (pc' := 153) (lv' := [(0, .ref 50), (1, .int 9)]) (st' := [.ref 50]) (μ' := z_ui μ 50 0 0) (by rfl) ?_
  refine zq_gfi hc hH (by rfl) (ci := 6) (f := 54) (by rfl) (by decide +kernel) (by rfl) ?_
  refine zV1 (Z := Z) (ui_k (by first | decide | omega)) ?_
  refine zq_if hc hH (by rfl) (tg := 163) (by rfl) (fun h1 => ?_) (fun h1 => ?_)
  · have h1 : (decide ((μ.1 50 54) = 0)) = true := decide_eq_true (cm_eq9.mp h1)
    refine z_rcs hc hH 1 (pc' := 164) (lv' := [(0, .ref 50), (1, .int 9)]) (st' := [.int 0]) (μ' := z_ui μ 50 0 0) (by rfl) ?_
    exact hr 0 164 _ _ _ (some (.int 0)) (by decide +kernel) (z_rx_ok hH (by rfl)) (⟨(by first | with_reducible rfl | (simp only [h1, cond_true, cond_false]; done) | rfl), (by simp only [h1, cond_true, cond_false])⟩)
  · have h1 : (decide ((μ.1 50 54) = 0)) = false := decide_eq_false (cn_eq.mp h1)
    refine z_rcs hc hH 2 (pc' := 164) (lv' := [(0, .ref 50), (1, .int 9)]) (st' := [.int 1]) (μ' := z_ui μ 50 0 0) (by rfl) ?_
    exact hr 0 164 _ _ _ (some (.int 1)) (by decide +kernel) (z_rx_ok hH (by rfl)) (⟨(by first | with_reducible rfl | (simp only [h1, cond_true, cond_false]; done) | rfl), (by simp only [h1, cond_true, cond_false])⟩)
theorem gm_count10 (d : Nat) (hd : 4 ≤ d) (μ : zM) : z_C d mi_X7_count [.ref 50, .int 10] μ (fun r μ' => r = some (.int (μ.1 50 52)) ∧ μ' = z_ui μ 50 0 0) := by
  refine z_C_in (by decide) (by omega) (fun d' Z ed hc hr => ?_)
  have hH : zH mi_X7_count zt_X7_count 79 7 2 := hh_X7_count
  refine z_rcs hc hH 2 (pc' := 2) (lv' := [(0, .ref 50), (1, .int 10)]) (st' := [.int 0, .ref 50]) (μ' := μ) (by rfl) ?_
  refine zq_pfi hc hH (by rfl) (ci := 6) (f := 0) (by rfl) (by decide +kernel) (by rfl) ?_
  show Z 0 5 [(0, .ref 50), (1, .int 10)] [] (z_ui μ 50 0 0)
  refine z_rcs hc hH 3 (pc' := 166) (lv' := [(0, .ref 50), (1, .int 10)]) (st' := [.ref 50]) (μ' := z_ui μ 50 0 0) (by rfl) ?_
  refine zq_gfi hc hH (by rfl) (ci := 6) (f := 52) (by rfl) (by decide +kernel) (by rfl) ?_
  refine zV1 (Z := Z) (ui_k (by first | decide | omega)) ?_
  exact hr 0 169 _ _ _ (some (.int (μ.1 50 52))) (by decide +kernel) (z_rx_ok hH (by rfl)) (⟨rfl, rfl⟩)
theorem gm_count11 (d : Nat) (hd : 4 ≤ d) (μ : zM) : z_C d mi_X7_count [.ref 50, .int 11] μ (fun r μ' => r = some (.int (μ.1 50 53)) ∧ μ' = z_ui μ 50 0 0) := by
  refine z_C_in (by decide) (by omega) (fun d' Z ed hc hr => ?_)
  have hH : zH mi_X7_count zt_X7_count 79 7 2 := hh_X7_count
  refine z_rcs hc hH 2 (pc' := 2) (lv' := [(0, .ref 50), (1, .int 11)]) (st' := [.int 0, .ref 50]) (μ' := μ) (by rfl) ?_
  refine zq_pfi hc hH (by rfl) (ci := 6) (f := 0) (by rfl) (by decide +kernel) (by rfl) ?_
  show Z 0 5 [(0, .ref 50), (1, .int 11)] [] (z_ui μ 50 0 0)
  refine z_rcs hc hH 3 (pc' := 171) (lv' := [(0, .ref 50), (1, .int 11)]) (st' := [.ref 50]) (μ' := z_ui μ 50 0 0) (by rfl) ?_
  refine zq_gfi hc hH (by rfl) (ci := 6) (f := 53) (by rfl) (by decide +kernel) (by rfl) ?_
  refine zV1 (Z := Z) (ui_k (by first | decide | omega)) ?_
  exact hr 0 174 _ _ _ (some (.int (μ.1 50 53))) (by decide +kernel) (z_rx_ok hH (by rfl)) (⟨rfl, rfl⟩)
theorem gm_count12 (d : Nat) (hd : 4 ≤ d) (μ : zM) : z_C d mi_X7_count [.ref 50, .int 12] μ (fun r μ' => r = some (.int (μ.1 50 49)) ∧ μ' = z_ui μ 50 0 0) := by
  refine z_C_in (by decide) (by omega) (fun d' Z ed hc hr => ?_)
  have hH : zH mi_X7_count zt_X7_count 79 7 2 := hh_X7_count
  refine z_rcs hc hH 2 (pc' := 2) (lv' := [(0, .ref 50), (1, .int 12)]) (st' := [.int 0, .ref 50]) (μ' := μ) (by rfl) ?_
  refine zq_pfi hc hH (by rfl) (ci := 6) (f := 0) (by rfl) (by decide +kernel) (by rfl) ?_
  show Z 0 5 [(0, .ref 50), (1, .int 12)] [] (z_ui μ 50 0 0)
  refine z_rcs hc hH 3 (pc' := 176) (lv' := [(0, .ref 50), (1, .int 12)]) (st' := [.ref 50]) (μ' := z_ui μ 50 0 0) (by rfl) ?_
  refine zq_gfi hc hH (by rfl) (ci := 6) (f := 49) (by rfl) (by decide +kernel) (by rfl) ?_
  refine zV1 (Z := Z) (ui_k (by first | decide | omega)) ?_
  exact hr 0 179 _ _ _ (some (.int (μ.1 50 49))) (by decide +kernel) (z_rx_ok hH (by rfl)) (⟨rfl, rfl⟩)
theorem gm_countd (d : Nat) (hd : 4 ≤ d) (μ : zM) (x : Int32) (hx : (decide (x.toInt < 0) || decide (12 < x.toInt)) = true) : z_C d mi_X7_count [.ref 50, .int x] μ (fun r μ' => r = some (.int (-1)) ∧ μ' = z_ui μ 50 0 0) := by
  refine z_C_in (by decide) (by omega) (fun d' Z ed hc hr => ?_)
  have hH : zH mi_X7_count zt_X7_count 79 7 2 := hh_X7_count
  refine z_rcs hc hH 2 (pc' := 2) (lv' := [(0, .ref 50), (1, .int x)]) (st' := [.int 0, .ref 50]) (μ' := μ) (by rfl) ?_
  refine zq_pfi hc hH (by rfl) (ci := 6) (f := 0) (by rfl) (by decide +kernel) (by rfl) ?_
  show Z 0 5 [(0, .ref 50), (1, .int x)] [] (z_ui μ 50 0 0)
  refine z_rcs hc hH 1 (pc' := 6) (lv' := [(0, .ref 50), (1, .int x)]) (st' := [.int x]) (μ' := z_ui μ 50 0 0) (by rfl) ?_
  refine zq_tsd hc hH (by rfl) (tg := 180) (by rfl) hx ?_
  refine z_rcs hc hH 1 (pc' := 181) (lv' := [(0, .ref 50), (1, .int x)]) (st' := [.int (-1)]) (μ' := z_ui μ 50 0 0) (by rfl) ?_
  exact hr 0 181 _ _ _ (some (.int (-1))) (by decide +kernel) (z_rx_ok hH (by rfl)) (⟨rfl, rfl⟩)
/-! questions: hand, count, seat answer alike -/
set_option maxRecDepth 8000
theorem q_go {d j j' : Nat} {As As' : List Value} {μ : zM} (h : LGm μ) {v : Int32} (c1 : z_C d j As μ (fun r μ' => r = some (.int v) ∧ μ' = μ)) (kq : z_C d j' As' μ (fun _ μ' => LJ μ')) (c2 : z_C d j' As' μ (fun r μ' => r = some (.int v) ∧ μ' = z_ui μ 50 0 0)) : z_C d j As μ (fun r μ1 => LJ μ1 ∧ ∃ y, r = some (.int y) ∧ z_C d j' As' μ1 (fun r2 μ2 => LGm μ2 ∧ r2 = some (.int y))) := z_C_mono c1 (fun r μ1 q => by
  obtain ⟨q1, rfl⟩ := q
  exact ⟨h.1, v, q1, z_C_mono (zC_and d kq c2) (fun r2 μ2 z => ⟨lg_no h.2 z.2.2 z.1, z.2.1⟩)⟩)
theorem sI_no {y : Int32} (h : ¬ vp_in y 4) : sI y = false := by
  unfold sI
  cases e1 : decide (y < 0) with
  | true => rfl
  | false =>
    cases e2 : decide (4 ≤ y) with
    | true => rfl
    | false => exact absurd (inOf2 (n := 4) (m := 4) rfl e1 e2) h
theorem isS_no {μ : zM} {y : Int32} (h : ¬ vp_in y 4) : ∀ d, 1 ≤ d → z_C d mi_X7_isSeat [.int y] μ (zR μ (.int 0)) := fun d hd => z_C_mono (fc_X7_isSeat d hd μ y) (fun r m z => ⟨z.1, by
  rcases z.2 with ⟨_, q⟩ | ⟨q, _⟩
  · exact absurd q h
  · exact q⟩)
theorem lg_hand {d : Nat} (hd : 705 ≤ d) {μ : zM} (h : LGm μ) (y x : Int32) : z_C d mi_X6_hand [.ref 0, .int y, .int x] μ (fun r μ1 => LJ μ1 ∧ ∃ v, r = some (.int v) ∧ z_C d mi_X7_hand [.ref 50, .int y, .int x] μ1 (fun r2 μ2 => LGm μ2 ∧ r2 = some (.int v))) := by
  have kq : z_C d mi_X7_hand [.ref 50, .int y, .int x] μ (fun _ μ' => LJ μ') := z_C_mono (lj_k (i := 126) (K := ak_126) rfl (by omega) (by decide +kernel) (by decide +kernel) rfl [.ref 50, .int y, .int x] μ h.1 ⟨⟨50, by decide, rfl⟩, ⟨_, rfl, bI_top _⟩, ⟨_, rfl, bI_top _⟩, trivial⟩) (fun _ _ q => q.1)
  by_cases hy : vp_in y 4
  · obtain ⟨s, hs, rfl⟩ := vp_in_of hy (by decide)
    by_cases hx : vp_in x 34
    · obtain ⟨k, hk, rfl⟩ := vp_in_of hx (by decide)
      refine q_go h (v := μ.1 60 (34 * s + k)) ?_ kq (gm_hand d (by omega) μ s hs k hk)
      have z := gq_hand d (by omega) μ s hs (nI k)
      rw [fr_yes hk, h.2.1.hd s k hs hk] at z
      exact z
    · refine q_go h (v := 0) ?_ kq (gm_handK d (by omega) μ s hs x (isK_no hx))
      have z := gq_hand d (by omega) μ s hs x
      rw [fr_no hx] at z
      exact z
  · exact q_go h (v := 0) (gq_hand0 d (by omega) μ x y (sI_no hy)) kq (gm_handS d (by omega) μ y x (isS_no hy))
/-! count answers alike -/
set_option maxRecDepth 8000
theorem rg_ph {x m : zM} (h : RG x m) : x.1 0 7 = m.1 50 44 ∧ x.1 0 8 = m.1 50 45 ∧ x.1 2 3 = m.1 50 47 := by
  rcases h.2 with ⟨p1, p2, p3, p4, p5⟩ | ⟨p, t, c, P⟩
  · exact ⟨p1.trans p2.symm, p5, p4⟩
  · exact ⟨P.px.trans P.pm.symm, P.tx.trans P.tm.symm, P.fo⟩
theorem rg_ti {x m : zM} (h : RG x m) : (bif decide (x.1 0 7 = 0) then (-1 : Int32) else x.1 0 15) = m.1 50 49 := by
  rcases h.2 with ⟨p1, p2, p3, p4, p5⟩ | ⟨p, t, c, P⟩
  · rw [p1, p3]; rfl
  · rw [P.px, P.cx, P.cm]
    rcases P.p3 with e | e | e <;> (subst e; rfl)
theorem bif_i {c : Bool} {a b : Int32} : (bif c then Value.int a else Value.int b) = Value.int (bif c then a else b) := by cases c <;> rfl
theorem k_count {d : Nat} (hd : 705 ≤ d) {μ : zM} (h : LJ μ) (x : Int32) : z_C d mi_X7_count [.ref 50, .int x] μ (fun _ μ' => LJ μ') := z_C_mono (lj_k (i := 133) (K := ak_133) rfl (by omega) (by decide +kernel) (by decide +kernel) rfl [.ref 50, .int x] μ h ⟨⟨50, by decide, rfl⟩, ⟨_, rfl, bI_top _⟩, trivial⟩) (fun _ _ q => q.1)
theorem lg_count0 {d : Nat} (hd : 705 ≤ d) {μ : zM} (h : LGm μ) : z_C d mi_X6_count [.ref 0, .int 0] μ (fun r μ1 => LJ μ1 ∧ ∃ v, r = some (.int v) ∧ z_C d mi_X7_count [.ref 50, .int 0] μ1 (fun r2 μ2 => LGm μ2 ∧ r2 = some (.int v))) := by
  have R := h.2.1
  obtain ⟨e7, e8, e3⟩ := rg_ph h.2
  have z1 := gq_count0 d (by omega) μ
  have z2 := gm_count0 d (by omega) μ
  rw [e7] at z1
  exact q_go h (v := μ.1 50 44) z1 (k_count hd h.1 _) z2
theorem lg_count1 {d : Nat} (hd : 705 ≤ d) {μ : zM} (h : LGm μ) : z_C d mi_X6_count [.ref 0, .int 1] μ (fun r μ1 => LJ μ1 ∧ ∃ v, r = some (.int v) ∧ z_C d mi_X7_count [.ref 50, .int 1] μ1 (fun r2 μ2 => LGm μ2 ∧ r2 = some (.int v))) := by
  have R := h.2.1
  obtain ⟨e7, e8, e3⟩ := rg_ph h.2
  have z1 := gq_count1 d (by omega) μ
  have z2 := gm_count1 d (by omega) μ
  rw [bif_i] at z1 z2
  rw [e7, e8] at z1
  exact q_go h (v := bif decide (μ.1 50 44 = 0) then (-1 : Int32) else μ.1 50 45) z1 (k_count hd h.1 _) z2
theorem lg_count2 {d : Nat} (hd : 705 ≤ d) {μ : zM} (h : LGm μ) : z_C d mi_X6_count [.ref 0, .int 2] μ (fun r μ1 => LJ μ1 ∧ ∃ v, r = some (.int v) ∧ z_C d mi_X7_count [.ref 50, .int 2] μ1 (fun r2 μ2 => LGm μ2 ∧ r2 = some (.int v))) := by
  have R := h.2.1
  obtain ⟨e7, e8, e3⟩ := rg_ph h.2
  have z1 := gq_count2 d (by omega) μ
  have z2 := gm_count2 d (by omega) μ
  rw [R.dl] at z1
  exact q_go h (v := μ.1 50 40) z1 (k_count hd h.1 _) z2
theorem lg_count3 {d : Nat} (hd : 705 ≤ d) {μ : zM} (h : LGm μ) : z_C d mi_X6_count [.ref 0, .int 3] μ (fun r μ1 => LJ μ1 ∧ ∃ v, r = some (.int v) ∧ z_C d mi_X7_count [.ref 50, .int 3] μ1 (fun r2 μ2 => LGm μ2 ∧ r2 = some (.int v))) := by
  have R := h.2.1
  obtain ⟨e7, e8, e3⟩ := rg_ph h.2
  have z1 := gq_count3 d (by omega) μ
  have z2 := gm_count3 d (by omega) μ
  rw [R.rn] at z1
  exact q_go h (v := μ.1 50 41) z1 (k_count hd h.1 _) z2
theorem lg_count4 {d : Nat} (hd : 705 ≤ d) {μ : zM} (h : LGm μ) : z_C d mi_X6_count [.ref 0, .int 4] μ (fun r μ1 => LJ μ1 ∧ ∃ v, r = some (.int v) ∧ z_C d mi_X7_count [.ref 50, .int 4] μ1 (fun r2 μ2 => LGm μ2 ∧ r2 = some (.int v))) := by
  have R := h.2.1
  obtain ⟨e7, e8, e3⟩ := rg_ph h.2
  have z1 := gq_count4 d (by omega) μ
  have z2 := gm_count4 d (by omega) μ
  rw [R.st] at z1
  exact q_go h (v := μ.1 50 42) z1 (k_count hd h.1 _) z2
theorem lg_count5 {d : Nat} (hd : 705 ≤ d) {μ : zM} (h : LGm μ) : z_C d mi_X6_count [.ref 0, .int 5] μ (fun r μ1 => LJ μ1 ∧ ∃ v, r = some (.int v) ∧ z_C d mi_X7_count [.ref 50, .int 5] μ1 (fun r2 μ2 => LGm μ2 ∧ r2 = some (.int v))) := by
  have R := h.2.1
  obtain ⟨e7, e8, e3⟩ := rg_ph h.2
  have z1 := gq_count5 d (by omega) μ
  have z2 := gm_count5 d (by omega) μ
  rw [R.bt] at z1
  exact q_go h (v := μ.1 50 43) z1 (k_count hd h.1 _) z2
theorem lg_count6 {d : Nat} (hd : 705 ≤ d) {μ : zM} (h : LGm μ) : z_C d mi_X6_count [.ref 0, .int 6] μ (fun r μ1 => LJ μ1 ∧ ∃ v, r = some (.int v) ∧ z_C d mi_X7_count [.ref 50, .int 6] μ1 (fun r2 μ2 => LGm μ2 ∧ r2 = some (.int v))) := by
  have R := h.2.1
  obtain ⟨e7, e8, e3⟩ := rg_ph h.2
  have z1 := gq_count6 d (by omega) μ
  have z2 := gm_count6 d (by omega) μ
  rw [bif_i] at z2
  unfold xLf at z1
  rw [R.sd, e3, R.nx] at z1
  exact q_go h (v := bif decide (μ.1 50 55 = 0) then (0 : Int32) else (122 - μ.1 50 47) - μ.1 50 46) z1 (k_count hd h.1 _) z2
theorem lg_count7 {d : Nat} (hd : 705 ≤ d) {μ : zM} (h : LGm μ) : z_C d mi_X6_count [.ref 0, .int 7] μ (fun r μ1 => LJ μ1 ∧ ∃ v, r = some (.int v) ∧ z_C d mi_X7_count [.ref 50, .int 7] μ1 (fun r2 μ2 => LGm μ2 ∧ r2 = some (.int v))) := by
  have R := h.2.1
  obtain ⟨e7, e8, e3⟩ := rg_ph h.2
  have z1 := gq_count7 d (by omega) μ
  have z2 := gm_count7 d (by omega) μ
  rw [e3] at z1
  exact q_go h (v := μ.1 50 47) z1 (k_count hd h.1 _) z2
theorem lg_count8 {d : Nat} (hd : 705 ≤ d) {μ : zM} (h : LGm μ) : z_C d mi_X6_count [.ref 0, .int 8] μ (fun r μ1 => LJ μ1 ∧ ∃ v, r = some (.int v) ∧ z_C d mi_X7_count [.ref 50, .int 8] μ1 (fun r2 μ2 => LGm μ2 ∧ r2 = some (.int v))) := by
  have R := h.2.1
  obtain ⟨e7, e8, e3⟩ := rg_ph h.2
  have z1 := gq_count8 d (by omega) μ
  have z2 := gm_count8 d (by omega) μ
  rw [bif_i] at z2
  unfold xSg at z1
  rw [R.sd, e3] at z1
  exact q_go h (v := bif decide (μ.1 50 55 = 0) then (0 : Int32) else 1 + μ.1 50 47) z1 (k_count hd h.1 _) z2
theorem lg_count9 {d : Nat} (hd : 705 ≤ d) {μ : zM} (h : LGm μ) : z_C d mi_X6_count [.ref 0, .int 9] μ (fun r μ1 => LJ μ1 ∧ ∃ v, r = some (.int v) ∧ z_C d mi_X7_count [.ref 50, .int 9] μ1 (fun r2 μ2 => LGm μ2 ∧ r2 = some (.int v))) := by
  have R := h.2.1
  obtain ⟨e7, e8, e3⟩ := rg_ph h.2
  have z1 := gq_count9 d (by omega) μ
  have z2 := gm_count9 d (by omega) μ
  rw [bif_i] at z1 z2
  rw [R.en] at z1
  exact q_go h (v := bif decide (μ.1 50 54 = 0) then (0 : Int32) else 1) z1 (k_count hd h.1 _) z2
theorem lg_count10 {d : Nat} (hd : 705 ≤ d) {μ : zM} (h : LGm μ) : z_C d mi_X6_count [.ref 0, .int 10] μ (fun r μ1 => LJ μ1 ∧ ∃ v, r = some (.int v) ∧ z_C d mi_X7_count [.ref 50, .int 10] μ1 (fun r2 μ2 => LGm μ2 ∧ r2 = some (.int v))) := by
  have R := h.2.1
  obtain ⟨e7, e8, e3⟩ := rg_ph h.2
  have z1 := gq_count10 d (by omega) μ
  have z2 := gm_count10 d (by omega) μ
  rw [R.he] at z1
  exact q_go h (v := μ.1 50 52) z1 (k_count hd h.1 _) z2
theorem lg_count11 {d : Nat} (hd : 705 ≤ d) {μ : zM} (h : LGm μ) : z_C d mi_X6_count [.ref 0, .int 11] μ (fun r μ1 => LJ μ1 ∧ ∃ v, r = some (.int v) ∧ z_C d mi_X7_count [.ref 50, .int 11] μ1 (fun r2 μ2 => LGm μ2 ∧ r2 = some (.int v))) := by
  have R := h.2.1
  obtain ⟨e7, e8, e3⟩ := rg_ph h.2
  have z1 := gq_count11 d (by omega) μ
  have z2 := gm_count11 d (by omega) μ
  rw [R.wc] at z1
  exact q_go h (v := μ.1 50 53) z1 (k_count hd h.1 _) z2
theorem lg_count12 {d : Nat} (hd : 705 ≤ d) {μ : zM} (h : LGm μ) : z_C d mi_X6_count [.ref 0, .int 12] μ (fun r μ1 => LJ μ1 ∧ ∃ v, r = some (.int v) ∧ z_C d mi_X7_count [.ref 50, .int 12] μ1 (fun r2 μ2 => LGm μ2 ∧ r2 = some (.int v))) := by
  have R := h.2.1
  obtain ⟨e7, e8, e3⟩ := rg_ph h.2
  have z1 := gq_count12 d (by omega) μ
  have z2 := gm_count12 d (by omega) μ
  rw [bif_i, rg_ti h.2] at z1
  exact q_go h (v := μ.1 50 49) z1 (k_count hd h.1 _) z2
theorem lg_count {d : Nat} (hd : 705 ≤ d) {μ : zM} (h : LGm μ) (x : Int32) : z_C d mi_X6_count [.ref 0, .int x] μ (fun r μ1 => LJ μ1 ∧ ∃ v, r = some (.int v) ∧ z_C d mi_X7_count [.ref 50, .int x] μ1 (fun r2 μ2 => LGm μ2 ∧ r2 = some (.int v))) := by
  by_cases hx : vp_in x 13
  · obtain ⟨k, hk, rfl⟩ := vp_in_of hx (by decide)
    match k, hk with
    | 0, _ => exact lg_count0 hd h
    | 1, _ => exact lg_count1 hd h
    | 2, _ => exact lg_count2 hd h
    | 3, _ => exact lg_count3 hd h
    | 4, _ => exact lg_count4 hd h
    | 5, _ => exact lg_count5 hd h
    | 6, _ => exact lg_count6 hd h
    | 7, _ => exact lg_count7 hd h
    | 8, _ => exact lg_count8 hd h
    | 9, _ => exact lg_count9 hd h
    | 10, _ => exact lg_count10 hd h
    | 11, _ => exact lg_count11 hd h
    | 12, _ => exact lg_count12 hd h
    | k + 13, h9 => exact absurd h9 (by omega)
  · have e : (decide (x.toInt < 0) || decide (12 < x.toInt)) = true := by
      cases e1 : decide (x.toInt < 0) with
      | true => rfl
      | false =>
        cases e2 : decide (12 < x.toInt) with
        | true => rfl
        | false =>
          have h1 := of_decide_eq_false e1
          have h2 := of_decide_eq_false e2
          exact absurd (vp_in_iff.mpr ⟨by omega, by omega⟩) hx
    exact q_go h (v := -1) (gq_countd d (by omega) μ x e) (k_count hd h.1 x) (gm_countd d (by omega) μ x e)
/-! seat answers alike -/
set_option maxRecDepth 8000
theorem wind_eq : ∀ s, s < 4 → ∀ dl, dl < 4 → (nI s - nI dl) &&& 3 = wdM (nI dl) (nI s) := by decide +kernel
theorem open_eq {x m : zM} (R : RCl x m) {s : Nat} (hs : s < 4) : ∀ q, q ≤ 4 → xOr (x.1 (22 + 8 * s)) q = kA (ioF m s) q
  | 0, _ => rfl
  | q + 1, h => by
    show (xOr (x.1 (22 + 8 * s)) q || !decide (x.1 (22 + 8 * s) q = 3)) = (kA (ioF m s) q || ioF m s q)
    rw [open_eq R hs q (by omega), R.so s q hs (by omega)]
    rfl
theorem k_seat {d : Nat} (hd : 705 ≤ d) {μ : zM} (h : LJ μ) (y x : Int32) : z_C d mi_X7_seat [.ref 50, .int y, .int x] μ (fun _ μ' => LJ μ') := z_C_mono (lj_k (i := 130) (K := ak_130) rfl (by omega) (by decide +kernel) (by decide +kernel) rfl [.ref 50, .int y, .int x] μ h ⟨⟨50, by decide, rfl⟩, ⟨_, rfl, bI_top _⟩, ⟨_, rfl, bI_top _⟩, trivial⟩) (fun _ _ q => q.1)
theorem lg_seat0 {d : Nat} (hd : 705 ≤ d) {μ : zM} (h : LGm μ) {s : Nat} (hs : s < 4) : z_C d mi_X6_seat [.ref 0, .int (nI s), .int 0] μ (fun r μ1 => LJ μ1 ∧ ∃ v, r = some (.int v) ∧ z_C d mi_X7_seat [.ref 50, .int (nI s), .int 0] μ1 (fun r2 μ2 => LGm μ2 ∧ r2 = some (.int v))) := by
  have R := h.2.1
  have z1 := gq_seat0 d (by omega) μ s hs
  have z2 := gm_seat0 d (by omega) μ s hs
  rw [R.pt s hs] at z1
  exact q_go h (v := μ.1 61 s) z1 (k_seat hd h.1 _ _) z2
theorem lg_seat1 {d : Nat} (hd : 705 ≤ d) {μ : zM} (h : LGm μ) {s : Nat} (hs : s < 4) : z_C d mi_X6_seat [.ref 0, .int (nI s), .int 1] μ (fun r μ1 => LJ μ1 ∧ ∃ v, r = some (.int v) ∧ z_C d mi_X7_seat [.ref 50, .int (nI s), .int 1] μ1 (fun r2 μ2 => LGm μ2 ∧ r2 = some (.int v))) := by
  have R := h.2.1
  have z1 := gq_seat1 d (by omega) μ s hs
  have z2 := gm_seat1 d (by omega) μ s hs
  rw [R.be s hs] at z1
  exact q_go h (v := μ.1 67 s) z1 (k_seat hd h.1 _ _) z2
theorem lg_seat2 {d : Nat} (hd : 705 ≤ d) {μ : zM} (h : LGm μ) {s : Nat} (hs : s < 4) : z_C d mi_X6_seat [.ref 0, .int (nI s), .int 2] μ (fun r μ1 => LJ μ1 ∧ ∃ v, r = some (.int v) ∧ z_C d mi_X7_seat [.ref 50, .int (nI s), .int 2] μ1 (fun r2 μ2 => LGm μ2 ∧ r2 = some (.int v))) := by
  have R := h.2.1
  have z1 := gq_seat2 d (by omega) μ s hs
  have z2 := gm_seat2 d (by omega) μ s hs
  rw [bif_i] at z1 z2
  rw [R.lg s hs] at z1
  exact q_go h (v := bif decide (μ.1 70 s = 0) then (0 : Int32) else 1) z1 (k_seat hd h.1 _ _) z2
theorem lg_seat3 {d : Nat} (hd : 705 ≤ d) {μ : zM} (h : LGm μ) {s : Nat} (hs : s < 4) : z_C d mi_X6_seat [.ref 0, .int (nI s), .int 3] μ (fun r μ1 => LJ μ1 ∧ ∃ v, r = some (.int v) ∧ z_C d mi_X7_seat [.ref 50, .int (nI s), .int 3] μ1 (fun r2 μ2 => LGm μ2 ∧ r2 = some (.int v))) := by
  have R := h.2.1
  have z1 := gq_seat3 d (by omega) μ s hs
  have z2 := gm_seat3 d (by omega) μ s hs
  obtain ⟨dl, hdl4, hdl⟩ := dealer_nI h.1.1.1
  rw [R.dl, hdl, wind_eq s hs dl hdl4, ← hdl] at z1
  exact q_go h (v := wdM (μ.1 50 40) (nI s)) z1 (k_seat hd h.1 _ _) z2
theorem lg_seat4 {d : Nat} (hd : 705 ≤ d) {μ : zM} (h : LGm μ) {s : Nat} (hs : s < 4) : z_C d mi_X6_seat [.ref 0, .int (nI s), .int 4] μ (fun r μ1 => LJ μ1 ∧ ∃ v, r = some (.int v) ∧ z_C d mi_X7_seat [.ref 50, .int (nI s), .int 4] μ1 (fun r2 μ2 => LGm μ2 ∧ r2 = some (.int v))) := by
  have R := h.2.1
  have z1 := gq_seat4 d (by omega) μ s hs
  have z2 := gm_seat4 d (by omega) μ s hs
  rw [R.ds s hs] at z1
  exact q_go h (v := μ.1 66 s) z1 (k_seat hd h.1 _ _) z2
theorem lg_seat5 {d : Nat} (hd : 705 ≤ d) {μ : zM} (h : LGm μ) {s : Nat} (hs : s < 4) : z_C d mi_X6_seat [.ref 0, .int (nI s), .int 5] μ (fun r μ1 => LJ μ1 ∧ ∃ v, r = some (.int v) ∧ z_C d mi_X7_seat [.ref 50, .int (nI s), .int 5] μ1 (fun r2 μ2 => LGm μ2 ∧ r2 = some (.int v))) := by
  have R := h.2.1
  have z1 := gq_seat5 d (by omega) μ s hs
  have z2 := gm_seat5 d (by omega) μ s hs
  rw [R.lm s hs] at z1
  exact q_go h (v := μ.1 64 s) z1 (k_seat hd h.1 _ _) z2
theorem lg_seat6 {d : Nat} (hd : 705 ≤ d) {μ : zM} (h : LGm μ) {s : Nat} (hs : s < 4) : z_C d mi_X6_seat [.ref 0, .int (nI s), .int 6] μ (fun r μ1 => LJ μ1 ∧ ∃ v, r = some (.int v) ∧ z_C d mi_X7_seat [.ref 50, .int (nI s), .int 6] μ1 (fun r2 μ2 => LGm μ2 ∧ r2 = some (.int v))) := by
  have R := h.2.1
  obtain ⟨q, hq4, hq⟩ : ∃ q, q ≤ 4 ∧ μ.1 64 s = nI q := i_nat (h.1.1.1 64 s).1 (h.1.1.1 64 s).2 (by decide)
  have z1 := gq_seat6 d (by omega) μ s hs (kA (ioF μ s) q) (fun d' hd' => by rw [← open_eq R hs q hq4]; exact gc_isOpen d' hd' μ s hs q hq4 ((R.lm s hs).trans hq))
  have z2 := gm_seat6 d (by omega) μ s hs (kA (ioF μ s) q) (fun d' hd' => by
    have z := gm_isOpenS d' hd' (z_ui μ 50 0 0) s q hs hq4 (by rw [ui_o (by decide)]; exact hq)
    rw [show kA (ioF (z_ui μ 50 0 0) s) q = kA (ioF μ s) q from kA_cg (fun i _ => by unfold ioF; rw [ui_o (by decide)])] at z
    exact z)
  rw [bif_i] at z1 z2
  exact q_go h (v := bif kA (ioF μ s) q then (1 : Int32) else 0) z1 (k_seat hd h.1 _ _) z2
theorem lg_seat7 {d : Nat} (hd : 705 ≤ d) {μ : zM} (h : LGm μ) {s : Nat} (hs : s < 4) : z_C d mi_X6_seat [.ref 0, .int (nI s), .int 7] μ (fun r μ1 => LJ μ1 ∧ ∃ v, r = some (.int v) ∧ z_C d mi_X7_seat [.ref 50, .int (nI s), .int 7] μ1 (fun r2 μ2 => LGm μ2 ∧ r2 = some (.int v))) := by
  have R := h.2.1
  have z1 := gq_seat7 d (by omega) μ s hs
  have z2 := gm_seat7 d (by omega) μ s hs
  rw [bif_i] at z1 z2
  rw [R.sy s hs] at z1
  exact q_go h (v := bif decide (μ.1 71 s = 0) then (0 : Int32) else 1) z1 (k_seat hd h.1 _ _) z2
theorem lg_seat {d : Nat} (hd : 705 ≤ d) {μ : zM} (h : LGm μ) (y x : Int32) : z_C d mi_X6_seat [.ref 0, .int y, .int x] μ (fun r μ1 => LJ μ1 ∧ ∃ v, r = some (.int v) ∧ z_C d mi_X7_seat [.ref 50, .int y, .int x] μ1 (fun r2 μ2 => LGm μ2 ∧ r2 = some (.int v))) := by
  by_cases hy : vp_in y 4
  · obtain ⟨s, hs, rfl⟩ := vp_in_of hy (by decide)
    by_cases hx : vp_in x 8
    · obtain ⟨k, hk, rfl⟩ := vp_in_of hx (by decide)
      match k, hk with
      | 0, _ => exact lg_seat0 hd h hs
      | 1, _ => exact lg_seat1 hd h hs
      | 2, _ => exact lg_seat2 hd h hs
      | 3, _ => exact lg_seat3 hd h hs
      | 4, _ => exact lg_seat4 hd h hs
      | 5, _ => exact lg_seat5 hd h hs
      | 6, _ => exact lg_seat6 hd h hs
      | 7, _ => exact lg_seat7 hd h hs
      | k + 8, h9 => exact absurd h9 (by omega)
    · have e : (decide (x.toInt < 0) || decide (7 < x.toInt)) = true := by
        cases e1 : decide (x.toInt < 0) with
        | true => rfl
        | false =>
          cases e2 : decide (7 < x.toInt) with
          | true => rfl
          | false =>
            have h1 := of_decide_eq_false e1
            have h2 := of_decide_eq_false e2
            exact absurd (vp_in_iff.mpr ⟨by omega, by omega⟩) hx
      exact q_go h (v := -1) (gq_seatd d (by omega) μ s hs x e) (k_seat hd h.1 _ x) (gm_seatd d (by omega) μ s hs x e)
  · exact q_go h (v := -1) (gq_seat0y d (by omega) μ y x (sI_no hy)) (k_seat hd h.1 y x) (gm_seatS d (by omega) μ y x (isS_no hy))
/-! a SET is claimed: both games behind it -/
set_option maxRecDepth 8000
theorem h56_t (m : zM) : (toM m).1 50 56 = 0 := by unfold toM; rw [ui_o (by decide), ui_o (by decide), ui_o (by decide), ui_o (by decide), ui_s]
theorem t64_t (m : zM) (j : Nat) : (toM m).1 64 j = m.1 64 j := toM_o ⟨by decide, Or.inl (by decide)⟩
theorem t50_t (m : zM) {k : Nat} (h : k ≠ 56) : (toM m).1 50 k = m.1 50 k := toM_o ⟨by decide, Or.inr h⟩
theorem rg_three {x m : zM} {s c q : Nat} (R : RCl x m) (Q : RQ x m c) (hfo : x.1 2 3 = m.1 50 47) (hs : s < 4) (hc : c < 34) (hq : q ≤ 3) (e64 : m.1 64 s = nI q) (hm4 : ∀ j, j < 4 → (m.1 64 j).toNatClampNeg ≤ 4) {bs : Int64} (hbs : bs = (((1 : Int64) <<< ((m.1 50 50).toInt64 &&& 63)) ||| (bif decide (m.1 50 51 = -1) then (0 : Int64) else 1 <<< ((m.1 50 51).toInt64 &&& 63)))) (hbn : BN m) : RG (clX (ldS (pS (bkH x) s c 1) s 1 c q) s bs) (clN (toM (z_lys (z_giv m s c (-2)) s q 1 (nI c))) s) := by
  rw [toM_lys, toM_giv]
  obtain ⟨Q1, f1, f2, f3⟩ := rq_brk Q
  have A := lay_three (x := bkH x) (m := toM m) (s := s) (c := c) (q := q) hs hc hq
  have R1 := rc_lay (rc_brk R) A hs hq ((t64_t m s).trans e64) (svd_n ⟨by decide, by decide⟩ (by decide) hc) (fun j hj => by rw [t64_t]; exact hm4 j hj)
  obtain ⟨Q2, g1, g2⟩ := rq_lay Q1 A hs f3 (fun j hj => by
    rw [ct_n9 (by decide) hc hj]
    show (if j = c then (-2 : Int32) else 0) + _ = _
    by_cases e : j = c
    · rw [if_pos e, if_pos e, if_pos e]; decide
    · rw [if_neg e, if_neg e, if_neg e]; decide)
  have e50 : ∀ k, k ≠ 56 → (z_lys (z_giv (toM m) s c (-2)) s q 1 (nI c)).1 50 k = m.1 50 k := fun k hk => by
    rw [A.fm 50 k (by decide) (by decide) (by decide) (by decide)]; exact t50_t m hk
  refine ⟨rc_claimed R1, Or.inr ⟨1, s, 34, rp_claimed Q2 hs ?_ ?_ ?_ (by unfold BN; rw [e50 50 (by decide), e50 51 (by decide)]; exact hbn)⟩⟩
  · rw [g1, g2, f1, f2]; exact hfo
  · rw [A.fm 50 56 (by decide) (by decide) (by decide) (by decide)]; exact f3
  · rw [e50 50 (by decide), e50 51 (by decide)]; exact hbs
theorem rg_run0 {x m : zM} {s l q : Nat} (R : RCl x m) (Q : RQ x m l) (hfo : x.1 2 3 = m.1 50 47) (hs : s < 4) (hl : l + 2 < 34) (hsr : sr (nI l)) (hq : q ≤ 3) (e64 : m.1 64 s = nI q) (hm4 : ∀ j, j < 4 → (m.1 64 j).toNatClampNeg ≤ 4) {bs : Int64} (hbs : bs = (((1 : Int64) <<< ((m.1 50 50).toInt64 &&& 63)) ||| (bif decide (m.1 50 51 = -1) then (0 : Int64) else 1 <<< ((m.1 50 51).toInt64 &&& 63)))) (hbn : BN m) : RG (clX (ldS (pS (bkH x) s l 1) s 0 l q) s bs) (clN (toM (z_lys (z_giv (z_giv m s (l + 1) (-1)) s (l + 2) (-1)) s q 0 (nI l))) s) := by
  rw [toM_lys, toM_giv, toM_giv]
  obtain ⟨Q1, f1, f2, f3⟩ := rq_brk Q
  have A := lay_run0 (x := bkH x) (m := toM m) (s := s) (l := l) (q := q) hs hl hq
  have R1 := rc_lay (rc_brk R) A hs hq ((t64_t m s).trans e64) (⟨⟨by decide, by decide⟩, bd_nI (by omega) ⟨by omega, by omega⟩, fun _ => hsr⟩) (fun j hj => by rw [t64_t]; exact hm4 j hj)
  obtain ⟨Q2, g1, g2⟩ := rq_lay Q1 A hs f3 (fun j hj => by
    rw [ct_r hl hj]
    show (if j = (l + 1) ∨ j = (l + 2) then (-1 : Int32) else 0) + _ = _
    by_cases e : j = l
    · rw [if_neg (by omega), if_pos (by omega), if_pos e]; decide
    · by_cases e2 : j = (l + 1) ∨ j = (l + 2)
      · rw [if_pos e2, if_pos (by omega), if_neg e]; decide
      · rw [if_neg e2, if_neg (by omega), if_neg e]; decide)
  have e50 : ∀ k, k ≠ 56 → (z_lys (z_giv (z_giv (toM m) s (l + 1) (-1)) s (l + 2) (-1)) s q 0 (nI l)).1 50 k = m.1 50 k := fun k hk => by
    rw [A.fm 50 k (by decide) (by decide) (by decide) (by decide)]; exact t50_t m hk
  refine ⟨rc_claimed R1, Or.inr ⟨1, s, 34, rp_claimed Q2 hs ?_ ?_ ?_ (by unfold BN; rw [e50 50 (by decide), e50 51 (by decide)]; exact hbn)⟩⟩
  · rw [g1, g2, f1, f2]; exact hfo
  · rw [A.fm 50 56 (by decide) (by decide) (by decide) (by decide)]; exact f3
  · rw [e50 50 (by decide), e50 51 (by decide)]; exact hbs
theorem rg_run1 {x m : zM} {s l q : Nat} (R : RCl x m) (Q : RQ x m (l + 1)) (hfo : x.1 2 3 = m.1 50 47) (hs : s < 4) (hl : l + 2 < 34) (hsr : sr (nI l)) (hq : q ≤ 3) (e64 : m.1 64 s = nI q) (hm4 : ∀ j, j < 4 → (m.1 64 j).toNatClampNeg ≤ 4) {bs : Int64} (hbs : bs = (((1 : Int64) <<< ((m.1 50 50).toInt64 &&& 63)) ||| (bif decide (m.1 50 51 = -1) then (0 : Int64) else 1 <<< ((m.1 50 51).toInt64 &&& 63)))) (hbn : BN m) : RG (clX (ldS (pS (bkH x) s (l + 1) 1) s 0 l q) s bs) (clN (toM (z_lys (z_giv (z_giv m s l (-1)) s (l + 2) (-1)) s q 0 (nI l))) s) := by
  rw [toM_lys, toM_giv, toM_giv]
  obtain ⟨Q1, f1, f2, f3⟩ := rq_brk Q
  have A := lay_run1 (x := bkH x) (m := toM m) (s := s) (l := l) (q := q) hs hl hq
  have R1 := rc_lay (rc_brk R) A hs hq ((t64_t m s).trans e64) (⟨⟨by decide, by decide⟩, bd_nI (by omega) ⟨by omega, by omega⟩, fun _ => hsr⟩) (fun j hj => by rw [t64_t]; exact hm4 j hj)
  obtain ⟨Q2, g1, g2⟩ := rq_lay Q1 A hs f3 (fun j hj => by
    rw [ct_r hl hj]
    show (if j = l ∨ j = (l + 2) then (-1 : Int32) else 0) + _ = _
    by_cases e : j = (l + 1)
    · rw [if_neg (by omega), if_pos (by omega), if_pos e]; decide
    · by_cases e2 : j = l ∨ j = (l + 2)
      · rw [if_pos e2, if_pos (by omega), if_neg e]; decide
      · rw [if_neg e2, if_neg (by omega), if_neg e]; decide)
  have e50 : ∀ k, k ≠ 56 → (z_lys (z_giv (z_giv (toM m) s l (-1)) s (l + 2) (-1)) s q 0 (nI l)).1 50 k = m.1 50 k := fun k hk => by
    rw [A.fm 50 k (by decide) (by decide) (by decide) (by decide)]; exact t50_t m hk
  refine ⟨rc_claimed R1, Or.inr ⟨1, s, 34, rp_claimed Q2 hs ?_ ?_ ?_ (by unfold BN; rw [e50 50 (by decide), e50 51 (by decide)]; exact hbn)⟩⟩
  · rw [g1, g2, f1, f2]; exact hfo
  · rw [A.fm 50 56 (by decide) (by decide) (by decide) (by decide)]; exact f3
  · rw [e50 50 (by decide), e50 51 (by decide)]; exact hbs
theorem rg_run2 {x m : zM} {s l q : Nat} (R : RCl x m) (Q : RQ x m (l + 2)) (hfo : x.1 2 3 = m.1 50 47) (hs : s < 4) (hl : l + 2 < 34) (hsr : sr (nI l)) (hq : q ≤ 3) (e64 : m.1 64 s = nI q) (hm4 : ∀ j, j < 4 → (m.1 64 j).toNatClampNeg ≤ 4) {bs : Int64} (hbs : bs = (((1 : Int64) <<< ((m.1 50 50).toInt64 &&& 63)) ||| (bif decide (m.1 50 51 = -1) then (0 : Int64) else 1 <<< ((m.1 50 51).toInt64 &&& 63)))) (hbn : BN m) : RG (clX (ldS (pS (bkH x) s (l + 2) 1) s 0 l q) s bs) (clN (toM (z_lys (z_giv (z_giv m s l (-1)) s (l + 1) (-1)) s q 0 (nI l))) s) := by
  rw [toM_lys, toM_giv, toM_giv]
  obtain ⟨Q1, f1, f2, f3⟩ := rq_brk Q
  have A := lay_run2 (x := bkH x) (m := toM m) (s := s) (l := l) (q := q) hs hl hq
  have R1 := rc_lay (rc_brk R) A hs hq ((t64_t m s).trans e64) (⟨⟨by decide, by decide⟩, bd_nI (by omega) ⟨by omega, by omega⟩, fun _ => hsr⟩) (fun j hj => by rw [t64_t]; exact hm4 j hj)
  obtain ⟨Q2, g1, g2⟩ := rq_lay Q1 A hs f3 (fun j hj => by
    rw [ct_r hl hj]
    show (if j = l ∨ j = (l + 1) then (-1 : Int32) else 0) + _ = _
    by_cases e : j = (l + 2)
    · rw [if_neg (by omega), if_pos (by omega), if_pos e]; decide
    · by_cases e2 : j = l ∨ j = (l + 1)
      · rw [if_pos e2, if_pos (by omega), if_neg e]; decide
      · rw [if_neg e2, if_neg (by omega), if_neg e]; decide)
  have e50 : ∀ k, k ≠ 56 → (z_lys (z_giv (z_giv (toM m) s l (-1)) s (l + 1) (-1)) s q 0 (nI l)).1 50 k = m.1 50 k := fun k hk => by
    rw [A.fm 50 k (by decide) (by decide) (by decide) (by decide)]; exact t50_t m hk
  refine ⟨rc_claimed R1, Or.inr ⟨1, s, 34, rp_claimed Q2 hs ?_ ?_ ?_ (by unfold BN; rw [e50 50 (by decide), e50 51 (by decide)]; exact hbn)⟩⟩
  · rw [g1, g2, f1, f2]; exact hfo
  · rw [A.fm 50 56 (by decide) (by decide) (by decide) (by decide)]; exact f3
  · rw [e50 50 (by decide), e50 51 (by decide)]; exact hbs
/-! four, pass, add: both games behind them -/
set_option maxRecDepth 8000
theorem toM_tt (m : zM) : toM (toM m) = toM m := by
  refine Prod.ext (funext fun r => funext fun k => ?_) rfl
  by_cases e : r = 69
  · subst e
    by_cases e3 : k = 3
    · subst e3; unfold toM; rw [ui_s, ui_s]
    · by_cases e2 : k = 2
      · subst e2; unfold toM; simp (disch := first | decide | exact ad_ne (by decide) | exact ad_m (by decide) | exact ad_l (by decide) | exact ad_g (by decide) | exact ad_lt (by decide) | exact ad_o (by decide) | omega) only [↓ui_s, ↓ui_k, ui_s, ui_k]
      · by_cases e1 : k = 1
        · subst e1; unfold toM; simp (disch := first | decide | exact ad_ne (by decide) | exact ad_m (by decide) | exact ad_l (by decide) | exact ad_g (by decide) | exact ad_lt (by decide) | exact ad_o (by decide) | omega) only [↓ui_s, ↓ui_k, ui_s, ui_k]
        · by_cases e0 : k = 0
          · subst e0; unfold toM; simp (disch := first | decide | exact ad_ne (by decide) | exact ad_m (by decide) | exact ad_l (by decide) | exact ad_g (by decide) | exact ad_lt (by decide) | exact ad_o (by decide) | omega) only [↓ui_s, ↓ui_k, ui_s, ui_k]
          · unfold toM; simp (disch := first | decide | exact ad_ne (by decide) | exact ad_m (by decide) | exact ad_l (by decide) | exact ad_g (by decide) | exact ad_lt (by decide) | exact ad_o (by decide) | omega) only [↓ui_s, ↓ui_k, ↓ui_o, ui_s, ui_k, ui_o]
  · by_cases e5 : r = 50 ∧ k = 56
    · obtain ⟨rfl, rfl⟩ := e5
      rw [h56_t, h56_t]
    · exact toM_o ⟨e, by omega⟩
noncomputable def tkW (y : zM) (s : Nat) : zM := z_ui (z_ui (z_ui y 0 8 (nI s)) 0 7 1) 0 15 (-1)
theorem rc_tkW {x m : zM} (R : RCl x m) (s : Nat) : RCl (tkW x s) m := RCl.cg2 (x := x) (x' := tkW x s) (m := m) (m' := m) (q2_xu (q2_xu (q2_xu (q2_x _) (by unfold gX2; omega)) (by unfold gX2; omega)) (by unfold gX2; omega)) (q2_m _) R
theorem rq_tkW {x m : zM} {lb : Nat} (Q : RQ x m lb) (s : Nat) : RQ (tkW x s) m lb ∧ (tkW x s).1 2 3 = x.1 2 3 := by
  unfold tkW
  refine ⟨⟨(by rw [ui_k (by decide), ui_k (by decide), ui_k (by decide)]; exact Q.br), Q.us, fun j h => by rw [ui_o (by first | decide | omega), ui_o (by first | decide | omega), ui_o (by first | decide | omega)]; exact Q.ow j h, Q.o1, Q.is, Q.s1, Q.w0, Q.dn, Q.dr, Q.tc.cg (fun j k _ _ => by rw [ui_o (by first | decide | omega), ui_o (by first | decide | omega), ui_o (by first | decide | omega)]) (fun _ => rfl) rfl rfl⟩, by rw [ui_o (by decide), ui_o (by decide), ui_o (by decide)]⟩
theorem rg_four {x m : zM} {s c q n k2 : Nat} (R : RCl x m) (Q : RQ x m c) (hs : s < 4) (hc : c < 34) (hq : q ≤ 3) (e64 : m.1 64 s = nI q) (hm4 : ∀ j, j < 4 → (m.1 64 j).toNatClampNeg ≤ 4) (hn : n < 4) (e47 : m.1 50 47 = nI n) (e48 : m.1 50 48 = nI n) (hk2 : k2 < 34) (hw : m.1 59 (122 + n) = nI k2) (hnx : bI 0 122 (m.1 50 46)) (hh : ¬ (z_giv m s c (-3)).1 60 (34 * s + k2) = -1) : RG (dT1 (bkH (tkW (ldS (pS (bkH x) s c 1) s 2 c q) s)) s n k2) (dM1 (z_ui (toM (z_lys (z_giv m s c (-3)) s q 2 (nI c))) 50 47 (m.1 50 47 + 1)) s n k2) := by
  rw [toM_lys, toM_giv]
  obtain ⟨Q1, f1, f2, f3⟩ := rq_brk Q
  have A := lay_four (x := bkH x) (m := toM m) (s := s) (c := c) (q := q) hs hc hq
  have R1 := rc_lay (rc_brk R) A hs hq ((t64_t m s).trans e64) (svd_n ⟨by decide, by decide⟩ (by decide) hc) (fun j hj => by rw [t64_t]; exact hm4 j hj)
  obtain ⟨Q2, g1, g2⟩ := rq_lay Q1 A hs f3 (fun j hj => by
    rw [ct_n9 (by decide) hc hj]
    show (if j = c then (-3 : Int32) else 0) + _ = _
    by_cases e : j = c
    · rw [if_pos e, if_pos e, if_pos e]; decide
    · rw [if_neg e, if_neg e, if_neg e]; decide)
  have R2 := rc_brk (rc_tkW R1 s)
  obtain ⟨Q3, -⟩ := rq_tkW Q2 s
  obtain ⟨Q4, -, -, -⟩ := rq_brk Q3
  have eT : toM (z_lys (z_giv (toM m) s c (-3)) s q 2 (nI c)) = z_lys (z_giv (toM m) s c (-3)) s q 2 (nI c) := by rw [toM_lys, toM_giv, toM_tt]
  rw [eT] at R2 Q4
  have R5 := rc_47 R2 (m.1 50 47 + 1)
  have Q5 := rq_47 Q4 (m.1 50 47 + 1)
  have g : ∀ r k', r ≠ 60 → r ≠ 62 → r ≠ 63 → r ≠ 64 → r ≠ 69 → (r ≠ 50 ∨ (k' ≠ 56 ∧ k' ≠ 47)) → (z_ui (z_lys (z_giv (toM m) s c (-3)) s q 2 (nI c)) 50 47 (m.1 50 47 + 1)).1 r k' = m.1 r k' := fun r k' h1 h2 h3 h4 h5 h6 => by
    have z : (z_lys (z_giv (toM m) s c (-3)) s q 2 (nI c)).1 r k' = m.1 r k' := by rw [lys_o ⟨h2, h3, h4⟩, giv_o h1, toM_o ⟨h5, by omega⟩]
    by_cases e : r = 50
    · rw [ui_k (by first | decide | omega)]; exact z
    · rw [ui_o e]; exact z
  refine ⟨rc_draw1 R5 hs hk2, Or.inr ⟨1, s, k2, rp_draw1 R5 Q5 hs hk2 ?_ hn ?_ ?_ ?_ (by rw [ui_o (by decide), lys_o ⟨by decide, by decide, by decide⟩, ← toM_giv, toM_o ⟨by decide, Or.inl (by decide)⟩]; exact hh)⟩⟩
  · rw [g 50 48 (by omega) (by omega) (by omega) (by omega) (by omega) (by omega)]; exact e48
  · rw [g 50 46 (by omega) (by omega) (by omega) (by omega) (by omega) (by omega)]; exact hnx
  · rw [g 59 _ (by omega) (by omega) (by omega) (by omega) (by omega) (by omega)]; exact hw
  · rw [ui_s, e47, nI_s1]
/-- a FOUR by an added tile goes through -/
theorem rg_pass3 {x m : zM} {t n k2 : Nat} (R : RCl x m) (Q : RQ x m 34) (ht : t < 4) (hn : n < 4) (e47 : m.1 50 47 = nI n) (e48 : m.1 50 48 = nI n) (hk2 : k2 < 34) (hw : m.1 59 (122 + n) = nI k2) (hnx : bI 0 122 (m.1 50 46)) (hh : ¬ m.1 60 (34 * t + k2) = -1) : RG (dT1 (bkH x) t n k2) (dM1 (toM (z_ui m 50 47 (m.1 50 47 + 1))) t n k2) := by
  rw [toM_47]
  obtain ⟨Q1, -, -, -⟩ := rq_brk Q
  have R5 := rc_47 (rc_brk R) (m.1 50 47 + 1)
  have Q5 := rq_47 Q1 (m.1 50 47 + 1)
  have g : ∀ r k', r ≠ 69 → (r ≠ 50 ∨ (k' ≠ 56 ∧ k' ≠ 47)) → (z_ui (toM m) 50 47 (m.1 50 47 + 1)).1 r k' = m.1 r k' := fun r k' h5 h6 => by
    have z : (toM m).1 r k' = m.1 r k' := toM_o ⟨h5, by omega⟩
    by_cases e : r = 50
    · rw [ui_k (by first | decide | omega)]; exact z
    · rw [ui_o e]; exact z
  refine ⟨rc_draw1 R5 ht hk2, Or.inr ⟨1, t, k2, rp_draw1 R5 Q5 ht hk2 ?_ hn ?_ ?_ ?_ (by rw [g 60 _ (by omega) (by omega)]; exact hh)⟩⟩
  · rw [g 50 48 (by omega) (by omega)]; exact e48
  · rw [g 50 46 (by omega) (by omega)]; exact hnx
  · rw [g 59 _ (by omega) (by omega)]; exact hw
  · rw [ui_s, e47, nI_s1]
/-- the next draws -/
theorem rg_pass2 {x m : zM} {u n k : Nat} (R : RCl x m) (Q : RQ x m 34) (hu : u < 4) (hk : k < 34) (hn : m.1 50 46 = nI n) (hn2 : n < 122) (hbk : bI 0 4 (m.1 50 48)) (hw : m.1 59 n = nI k) (hfo : x.1 2 3 = m.1 50 47) (hh : ¬ m.1 60 (34 * u + k) = -1) : RG (dT0 x u n k) (dM0 m u n k) := ⟨rc_draw0 R hu hk hn, Or.inr ⟨1, u, k, rp_draw0 R Q hu hk hn hn2 hbk hw hfo hh⟩⟩
/-- the tile that nobody wanted lies no more between -/
theorem rq_34 {x m : zM} {c : Nat} (Q : RQ x m c) : RQ x m 34 := ⟨Q.br, Q.us, Q.ow, Q.o1, Q.is, Q.s1, Q.w0, Q.dn, Q.dr, Q.tc.elim fun a z => ⟨a, z.1, fun k hk => by have y := z.2 k hk; simp only [show ¬ 34 = k by omega, if_false]; omega⟩⟩
/-! ends: both games behind them -/
set_option maxRecDepth 8000
theorem rg_ends {x m : zM} (R : RCl x m) (hfo : x.1 2 3 = m.1 50 47) (htu : x.1 0 8 = m.1 50 45) {dl e : Nat} (hdl : m.1 50 40 = nI dl) (hdl4 : dl < 4) (he : (dl + 1) % 4 = e) (ds ow : Bool) : RG (eHB x ds ow (xBk x) dl e (rcM x)) (eMB m ds (!ow) dl e) := by
  obtain ⟨h1, p1, p2, p3, p4, p5, p6, p7⟩ := rc_ends R hdl hdl4 he ds ow
  exact ⟨h1, Or.inl ⟨p1, p2, p3, p4.trans (hfo.trans p5.symm), p6.trans (htu.trans p7.symm)⟩⟩
theorem rg_win0_1 {x m W : zM} (R : RCl x m) (hfo : x.1 2 3 = m.1 50 47) (htu : x.1 0 8 = m.1 50 45) {dl e c : Nat} (hdl : m.1 50 40 = nI dl) (hdl4 : dl < 4) (he : (dl + 1) % 4 = e) (hb : x.1 4 0 = W.1 50 13) (hh : x.1 4 1 = W.1 50 14) (hf : x.2.1 4 3 = W.2.1 50 17) (hq : x.1 4 2 = W.1 50 15) (hc : x.1 0 15 = nI c) : RG (wn1 x 0 dl e 1 2 3) (wM0_1 m W dl e c) := by
  rw [wn1_p, wM0_1p]
  have R1 := rc_win0_1 (dl := dl) R hb hh hf hq hc
  refine rg_ends R1 ?_ ?_ ?_ hdl4 he true false
  · unfold wp1 wq0_1 rcW; simp (disch := first | decide | exact ad_ne (by decide) | exact ad_m (by decide) | exact ad_l (by decide) | exact ad_g (by decide) | exact ad_lt (by decide) | exact ad_o (by decide) | omega) only [↓ui_s, ↓uj_s, ↓ui_o, ↓ui_k, ↓uj_o, ↓uj_k, ↓ui_j, ↓uj_i, ui_s, uj_s, ui_o, ui_k, uj_o, uj_k, ui_j, uj_i]; exact hfo
  · unfold wp1 wq0_1 rcW; simp (disch := first | decide | exact ad_ne (by decide) | exact ad_m (by decide) | exact ad_l (by decide) | exact ad_g (by decide) | exact ad_lt (by decide) | exact ad_o (by decide) | omega) only [↓ui_s, ↓uj_s, ↓ui_o, ↓ui_k, ↓uj_o, ↓uj_k, ↓ui_j, ↓uj_i, ui_s, uj_s, ui_o, ui_k, uj_o, uj_k, ui_j, uj_i]; exact htu
  · unfold wq0_1; simp (disch := first | decide | exact ad_ne (by decide) | exact ad_m (by decide) | exact ad_l (by decide) | exact ad_g (by decide) | exact ad_lt (by decide) | exact ad_o (by decide) | omega) only [↓ui_s, ↓uj_s, ↓ui_o, ↓ui_k, ↓uj_o, ↓uj_k, ↓ui_j, ↓uj_i, ui_s, uj_s, ui_o, ui_k, uj_o, uj_k, ui_j, uj_i]; exact hdl
theorem rg_win0_0 {x m W : zM} (R : RCl x m) (hfo : x.1 2 3 = m.1 50 47) (htu : x.1 0 8 = m.1 50 45) {dl e c : Nat} (hdl : m.1 50 40 = nI dl) (hdl4 : dl < 4) (he : (dl + 1) % 4 = e) (hb : x.1 4 0 = W.1 50 13) (hh : x.1 4 1 = W.1 50 14) (hf : x.2.1 4 3 = W.2.1 50 17) (hq : x.1 4 2 = W.1 50 15) (hc : x.1 0 15 = nI c) : RG (wn0 x 0 dl e 1 2 3) (wM0_0 m W dl e c) := by
  rw [wn0_p, wM0_0p]
  have R1 := rc_win0_0 (dl := dl) R hb hh hf hq hc
  refine rg_ends R1 ?_ ?_ ?_ hdl4 he false true
  · unfold wp0 wq0_0 rcW; simp (disch := first | decide | exact ad_ne (by decide) | exact ad_m (by decide) | exact ad_l (by decide) | exact ad_g (by decide) | exact ad_lt (by decide) | exact ad_o (by decide) | omega) only [↓ui_s, ↓uj_s, ↓ui_o, ↓ui_k, ↓uj_o, ↓uj_k, ↓ui_j, ↓uj_i, ui_s, uj_s, ui_o, ui_k, uj_o, uj_k, ui_j, uj_i]; exact hfo
  · unfold wp0 wq0_0 rcW; simp (disch := first | decide | exact ad_ne (by decide) | exact ad_m (by decide) | exact ad_l (by decide) | exact ad_g (by decide) | exact ad_lt (by decide) | exact ad_o (by decide) | omega) only [↓ui_s, ↓uj_s, ↓ui_o, ↓ui_k, ↓uj_o, ↓uj_k, ↓ui_j, ↓uj_i, ui_s, uj_s, ui_o, ui_k, uj_o, uj_k, ui_j, uj_i]; exact htu
  · unfold wq0_0; simp (disch := first | decide | exact ad_ne (by decide) | exact ad_m (by decide) | exact ad_l (by decide) | exact ad_g (by decide) | exact ad_lt (by decide) | exact ad_o (by decide) | omega) only [↓ui_s, ↓uj_s, ↓ui_o, ↓ui_k, ↓uj_o, ↓uj_k, ↓ui_j, ↓uj_i, ui_s, uj_s, ui_o, ui_k, uj_o, uj_k, ui_j, uj_i]; exact hdl
theorem rg_win1_1 {x m W : zM} (R : RCl x m) (hfo : x.1 2 3 = m.1 50 47) (htu : x.1 0 8 = m.1 50 45) {dl e c : Nat} (hdl : m.1 50 40 = nI dl) (hdl4 : dl < 4) (he : (dl + 1) % 4 = e) (hb : x.1 4 0 = W.1 50 13) (hh : x.1 4 1 = W.1 50 14) (hf : x.2.1 4 3 = W.2.1 50 17) (hq : x.1 4 2 = W.1 50 15) (hc : x.1 0 15 = nI c) : RG (wn1 x 1 dl e 2 3 0) (wM1_1 m W dl e c) := by
  rw [wn1_p, wM1_1p]
  have R1 := rc_win1_1 (dl := dl) R hb hh hf hq hc
  refine rg_ends R1 ?_ ?_ ?_ hdl4 he true false
  · unfold wp1 wq1_1 rcW; simp (disch := first | decide | exact ad_ne (by decide) | exact ad_m (by decide) | exact ad_l (by decide) | exact ad_g (by decide) | exact ad_lt (by decide) | exact ad_o (by decide) | omega) only [↓ui_s, ↓uj_s, ↓ui_o, ↓ui_k, ↓uj_o, ↓uj_k, ↓ui_j, ↓uj_i, ui_s, uj_s, ui_o, ui_k, uj_o, uj_k, ui_j, uj_i]; exact hfo
  · unfold wp1 wq1_1 rcW; simp (disch := first | decide | exact ad_ne (by decide) | exact ad_m (by decide) | exact ad_l (by decide) | exact ad_g (by decide) | exact ad_lt (by decide) | exact ad_o (by decide) | omega) only [↓ui_s, ↓uj_s, ↓ui_o, ↓ui_k, ↓uj_o, ↓uj_k, ↓ui_j, ↓uj_i, ui_s, uj_s, ui_o, ui_k, uj_o, uj_k, ui_j, uj_i]; exact htu
  · unfold wq1_1; simp (disch := first | decide | exact ad_ne (by decide) | exact ad_m (by decide) | exact ad_l (by decide) | exact ad_g (by decide) | exact ad_lt (by decide) | exact ad_o (by decide) | omega) only [↓ui_s, ↓uj_s, ↓ui_o, ↓ui_k, ↓uj_o, ↓uj_k, ↓ui_j, ↓uj_i, ui_s, uj_s, ui_o, ui_k, uj_o, uj_k, ui_j, uj_i]; exact hdl
theorem rg_win1_0 {x m W : zM} (R : RCl x m) (hfo : x.1 2 3 = m.1 50 47) (htu : x.1 0 8 = m.1 50 45) {dl e c : Nat} (hdl : m.1 50 40 = nI dl) (hdl4 : dl < 4) (he : (dl + 1) % 4 = e) (hb : x.1 4 0 = W.1 50 13) (hh : x.1 4 1 = W.1 50 14) (hf : x.2.1 4 3 = W.2.1 50 17) (hq : x.1 4 2 = W.1 50 15) (hc : x.1 0 15 = nI c) : RG (wn0 x 1 dl e 2 3 0) (wM1_0 m W dl e c) := by
  rw [wn0_p, wM1_0p]
  have R1 := rc_win1_0 (dl := dl) R hb hh hf hq hc
  refine rg_ends R1 ?_ ?_ ?_ hdl4 he false true
  · unfold wp0 wq1_0 rcW; simp (disch := first | decide | exact ad_ne (by decide) | exact ad_m (by decide) | exact ad_l (by decide) | exact ad_g (by decide) | exact ad_lt (by decide) | exact ad_o (by decide) | omega) only [↓ui_s, ↓uj_s, ↓ui_o, ↓ui_k, ↓uj_o, ↓uj_k, ↓ui_j, ↓uj_i, ui_s, uj_s, ui_o, ui_k, uj_o, uj_k, ui_j, uj_i]; exact hfo
  · unfold wp0 wq1_0 rcW; simp (disch := first | decide | exact ad_ne (by decide) | exact ad_m (by decide) | exact ad_l (by decide) | exact ad_g (by decide) | exact ad_lt (by decide) | exact ad_o (by decide) | omega) only [↓ui_s, ↓uj_s, ↓ui_o, ↓ui_k, ↓uj_o, ↓uj_k, ↓ui_j, ↓uj_i, ui_s, uj_s, ui_o, ui_k, uj_o, uj_k, ui_j, uj_i]; exact htu
  · unfold wq1_0; simp (disch := first | decide | exact ad_ne (by decide) | exact ad_m (by decide) | exact ad_l (by decide) | exact ad_g (by decide) | exact ad_lt (by decide) | exact ad_o (by decide) | omega) only [↓ui_s, ↓uj_s, ↓ui_o, ↓ui_k, ↓uj_o, ↓uj_k, ↓ui_j, ↓uj_i, ui_s, uj_s, ui_o, ui_k, uj_o, uj_k, ui_j, uj_i]; exact hdl
theorem rg_win2_1 {x m W : zM} (R : RCl x m) (hfo : x.1 2 3 = m.1 50 47) (htu : x.1 0 8 = m.1 50 45) {dl e c : Nat} (hdl : m.1 50 40 = nI dl) (hdl4 : dl < 4) (he : (dl + 1) % 4 = e) (hb : x.1 4 0 = W.1 50 13) (hh : x.1 4 1 = W.1 50 14) (hf : x.2.1 4 3 = W.2.1 50 17) (hq : x.1 4 2 = W.1 50 15) (hc : x.1 0 15 = nI c) : RG (wn1 x 2 dl e 3 0 1) (wM2_1 m W dl e c) := by
  rw [wn1_p, wM2_1p]
  have R1 := rc_win2_1 (dl := dl) R hb hh hf hq hc
  refine rg_ends R1 ?_ ?_ ?_ hdl4 he true false
  · unfold wp1 wq2_1 rcW; simp (disch := first | decide | exact ad_ne (by decide) | exact ad_m (by decide) | exact ad_l (by decide) | exact ad_g (by decide) | exact ad_lt (by decide) | exact ad_o (by decide) | omega) only [↓ui_s, ↓uj_s, ↓ui_o, ↓ui_k, ↓uj_o, ↓uj_k, ↓ui_j, ↓uj_i, ui_s, uj_s, ui_o, ui_k, uj_o, uj_k, ui_j, uj_i]; exact hfo
  · unfold wp1 wq2_1 rcW; simp (disch := first | decide | exact ad_ne (by decide) | exact ad_m (by decide) | exact ad_l (by decide) | exact ad_g (by decide) | exact ad_lt (by decide) | exact ad_o (by decide) | omega) only [↓ui_s, ↓uj_s, ↓ui_o, ↓ui_k, ↓uj_o, ↓uj_k, ↓ui_j, ↓uj_i, ui_s, uj_s, ui_o, ui_k, uj_o, uj_k, ui_j, uj_i]; exact htu
  · unfold wq2_1; simp (disch := first | decide | exact ad_ne (by decide) | exact ad_m (by decide) | exact ad_l (by decide) | exact ad_g (by decide) | exact ad_lt (by decide) | exact ad_o (by decide) | omega) only [↓ui_s, ↓uj_s, ↓ui_o, ↓ui_k, ↓uj_o, ↓uj_k, ↓ui_j, ↓uj_i, ui_s, uj_s, ui_o, ui_k, uj_o, uj_k, ui_j, uj_i]; exact hdl
theorem rg_win2_0 {x m W : zM} (R : RCl x m) (hfo : x.1 2 3 = m.1 50 47) (htu : x.1 0 8 = m.1 50 45) {dl e c : Nat} (hdl : m.1 50 40 = nI dl) (hdl4 : dl < 4) (he : (dl + 1) % 4 = e) (hb : x.1 4 0 = W.1 50 13) (hh : x.1 4 1 = W.1 50 14) (hf : x.2.1 4 3 = W.2.1 50 17) (hq : x.1 4 2 = W.1 50 15) (hc : x.1 0 15 = nI c) : RG (wn0 x 2 dl e 3 0 1) (wM2_0 m W dl e c) := by
  rw [wn0_p, wM2_0p]
  have R1 := rc_win2_0 (dl := dl) R hb hh hf hq hc
  refine rg_ends R1 ?_ ?_ ?_ hdl4 he false true
  · unfold wp0 wq2_0 rcW; simp (disch := first | decide | exact ad_ne (by decide) | exact ad_m (by decide) | exact ad_l (by decide) | exact ad_g (by decide) | exact ad_lt (by decide) | exact ad_o (by decide) | omega) only [↓ui_s, ↓uj_s, ↓ui_o, ↓ui_k, ↓uj_o, ↓uj_k, ↓ui_j, ↓uj_i, ui_s, uj_s, ui_o, ui_k, uj_o, uj_k, ui_j, uj_i]; exact hfo
  · unfold wp0 wq2_0 rcW; simp (disch := first | decide | exact ad_ne (by decide) | exact ad_m (by decide) | exact ad_l (by decide) | exact ad_g (by decide) | exact ad_lt (by decide) | exact ad_o (by decide) | omega) only [↓ui_s, ↓uj_s, ↓ui_o, ↓ui_k, ↓uj_o, ↓uj_k, ↓ui_j, ↓uj_i, ui_s, uj_s, ui_o, ui_k, uj_o, uj_k, ui_j, uj_i]; exact htu
  · unfold wq2_0; simp (disch := first | decide | exact ad_ne (by decide) | exact ad_m (by decide) | exact ad_l (by decide) | exact ad_g (by decide) | exact ad_lt (by decide) | exact ad_o (by decide) | omega) only [↓ui_s, ↓uj_s, ↓ui_o, ↓ui_k, ↓uj_o, ↓uj_k, ↓ui_j, ↓uj_i, ui_s, uj_s, ui_o, ui_k, uj_o, uj_k, ui_j, uj_i]; exact hdl
theorem rg_win3_1 {x m W : zM} (R : RCl x m) (hfo : x.1 2 3 = m.1 50 47) (htu : x.1 0 8 = m.1 50 45) {dl e c : Nat} (hdl : m.1 50 40 = nI dl) (hdl4 : dl < 4) (he : (dl + 1) % 4 = e) (hb : x.1 4 0 = W.1 50 13) (hh : x.1 4 1 = W.1 50 14) (hf : x.2.1 4 3 = W.2.1 50 17) (hq : x.1 4 2 = W.1 50 15) (hc : x.1 0 15 = nI c) : RG (wn1 x 3 dl e 0 1 2) (wM3_1 m W dl e c) := by
  rw [wn1_p, wM3_1p]
  have R1 := rc_win3_1 (dl := dl) R hb hh hf hq hc
  refine rg_ends R1 ?_ ?_ ?_ hdl4 he true false
  · unfold wp1 wq3_1 rcW; simp (disch := first | decide | exact ad_ne (by decide) | exact ad_m (by decide) | exact ad_l (by decide) | exact ad_g (by decide) | exact ad_lt (by decide) | exact ad_o (by decide) | omega) only [↓ui_s, ↓uj_s, ↓ui_o, ↓ui_k, ↓uj_o, ↓uj_k, ↓ui_j, ↓uj_i, ui_s, uj_s, ui_o, ui_k, uj_o, uj_k, ui_j, uj_i]; exact hfo
  · unfold wp1 wq3_1 rcW; simp (disch := first | decide | exact ad_ne (by decide) | exact ad_m (by decide) | exact ad_l (by decide) | exact ad_g (by decide) | exact ad_lt (by decide) | exact ad_o (by decide) | omega) only [↓ui_s, ↓uj_s, ↓ui_o, ↓ui_k, ↓uj_o, ↓uj_k, ↓ui_j, ↓uj_i, ui_s, uj_s, ui_o, ui_k, uj_o, uj_k, ui_j, uj_i]; exact htu
  · unfold wq3_1; simp (disch := first | decide | exact ad_ne (by decide) | exact ad_m (by decide) | exact ad_l (by decide) | exact ad_g (by decide) | exact ad_lt (by decide) | exact ad_o (by decide) | omega) only [↓ui_s, ↓uj_s, ↓ui_o, ↓ui_k, ↓uj_o, ↓uj_k, ↓ui_j, ↓uj_i, ui_s, uj_s, ui_o, ui_k, uj_o, uj_k, ui_j, uj_i]; exact hdl
theorem rg_win3_0 {x m W : zM} (R : RCl x m) (hfo : x.1 2 3 = m.1 50 47) (htu : x.1 0 8 = m.1 50 45) {dl e c : Nat} (hdl : m.1 50 40 = nI dl) (hdl4 : dl < 4) (he : (dl + 1) % 4 = e) (hb : x.1 4 0 = W.1 50 13) (hh : x.1 4 1 = W.1 50 14) (hf : x.2.1 4 3 = W.2.1 50 17) (hq : x.1 4 2 = W.1 50 15) (hc : x.1 0 15 = nI c) : RG (wn0 x 3 dl e 0 1 2) (wM3_0 m W dl e c) := by
  rw [wn0_p, wM3_0p]
  have R1 := rc_win3_0 (dl := dl) R hb hh hf hq hc
  refine rg_ends R1 ?_ ?_ ?_ hdl4 he false true
  · unfold wp0 wq3_0 rcW; simp (disch := first | decide | exact ad_ne (by decide) | exact ad_m (by decide) | exact ad_l (by decide) | exact ad_g (by decide) | exact ad_lt (by decide) | exact ad_o (by decide) | omega) only [↓ui_s, ↓uj_s, ↓ui_o, ↓ui_k, ↓uj_o, ↓uj_k, ↓ui_j, ↓uj_i, ui_s, uj_s, ui_o, ui_k, uj_o, uj_k, ui_j, uj_i]; exact hfo
  · unfold wp0 wq3_0 rcW; simp (disch := first | decide | exact ad_ne (by decide) | exact ad_m (by decide) | exact ad_l (by decide) | exact ad_g (by decide) | exact ad_lt (by decide) | exact ad_o (by decide) | omega) only [↓ui_s, ↓uj_s, ↓ui_o, ↓ui_k, ↓uj_o, ↓uj_k, ↓ui_j, ↓uj_i, ui_s, uj_s, ui_o, ui_k, uj_o, uj_k, ui_j, uj_i]; exact htu
  · unfold wq3_0; simp (disch := first | decide | exact ad_ne (by decide) | exact ad_m (by decide) | exact ad_l (by decide) | exact ad_g (by decide) | exact ad_lt (by decide) | exact ad_o (by decide) | omega) only [↓ui_s, ↓uj_s, ↓ui_o, ↓ui_k, ↓uj_o, ↓uj_k, ↓ui_j, ↓uj_i, ui_s, uj_s, ui_o, ui_k, uj_o, uj_k, ui_j, uj_i]; exact hdl
/-! all that said so win: both games behind it -/
set_option maxRecDepth 8000
theorem rg_aw001 {x m W3 N3 : zM} {v3 : Q4} (R : RCl x m) {t dl e c u1 u2 u3 : Nat} (hfo : x.1 2 3 = m.1 50 47) (htu : x.1 0 8 = m.1 50 45) (hdl : m.1 50 40 = nI dl) (hdl4 : dl < 4) (he : (dl + 1) % 4 = e) (ht : t < 4) (hu1 : (t + 1) % 4 = u1) (hu2 : (t + 2) % 4 = u2) (hu3 : (t + 3) % 4 = u3) (hc : x.1 0 15 = nI c) (hO3 : WOj (x) W3) (hv3 : bqJ W3 = v3) (hb3 : v3.1 = N3.1 50 13) (hh3 : v3.2.1 = N3.1 50 14) (hf3 : v3.2.2.2 = N3.2.1 50 17) (hq3 : v3.2.2.1 = N3.1 50 15) : RG (wA001 W3 t dl e u1 u2 u3 v3 x) (aM001 m N3 t dl e c u1 u2 u3) := by
  rw [wA001_p, aM001_p]
  have R1 := rc_aw001 (dl := dl) R ht hu1 hu2 hu3 hc hO3 hv3 hb3 hh3 hf3 hq3
  have o3 := fun r k h => (hO3 r k h).1
  have h1 : u1 < 4 := by omega
  have h2 : u2 < 4 := by omega
  have h3 : u3 < 4 := by omega
  have g := rg_ends R1 (dl := dl) (e := e) ?_ ?_ ?_ hdl4 he ((decide ((nI u3) = (nI dl)))) (!((decide ((nI u3) = (nI dl)))))
  · rw [Bool.not_not] at g; exact g
  · unfold wa001 aq001; unfold rcW at *; simp (disch := first | decide | exact ad_ne (by decide) | exact ad_m (by decide) | exact ad_l (by decide) | exact ad_g (by decide) | exact ad_lt (by decide) | exact ad_o (by decide) | omega) only [↓ui_s, ↓uj_s, ↓ui_o, ↓ui_k, ↓uj_o, ↓uj_k, ↓ui_j, ↓uj_i, ↓o3, ui_s, uj_s, ui_o, ui_k, uj_o, uj_k, ui_j, uj_i, o3]; exact hfo
  · unfold wa001 aq001; unfold rcW at *; simp (disch := first | decide | exact ad_ne (by decide) | exact ad_m (by decide) | exact ad_l (by decide) | exact ad_g (by decide) | exact ad_lt (by decide) | exact ad_o (by decide) | omega) only [↓ui_s, ↓uj_s, ↓ui_o, ↓ui_k, ↓uj_o, ↓uj_k, ↓ui_j, ↓uj_i, ↓o3, ui_s, uj_s, ui_o, ui_k, uj_o, uj_k, ui_j, uj_i, o3]; exact htu
  · unfold aq001; simp (disch := first | decide | exact ad_ne (by decide) | exact ad_m (by decide) | exact ad_l (by decide) | exact ad_g (by decide) | exact ad_lt (by decide) | exact ad_o (by decide) | omega) only [↓ui_s, ↓uj_s, ↓ui_o, ↓ui_k, ↓uj_o, ↓uj_k, ↓ui_j, ↓uj_i, ui_s, uj_s, ui_o, ui_k, uj_o, uj_k, ui_j, uj_i]; exact hdl
theorem rg_aw010 {x m W2 N2 : zM} {v2 : Q4} (R : RCl x m) {t dl e c u1 u2 u3 : Nat} (hfo : x.1 2 3 = m.1 50 47) (htu : x.1 0 8 = m.1 50 45) (hdl : m.1 50 40 = nI dl) (hdl4 : dl < 4) (he : (dl + 1) % 4 = e) (ht : t < 4) (hu1 : (t + 1) % 4 = u1) (hu2 : (t + 2) % 4 = u2) (hu3 : (t + 3) % 4 = u3) (hc : x.1 0 15 = nI c) (hO2 : WOj (x) W2) (hv2 : bqJ W2 = v2) (hb2 : v2.1 = N2.1 50 13) (hh2 : v2.2.1 = N2.1 50 14) (hf2 : v2.2.2.2 = N2.2.1 50 17) (hq2 : v2.2.2.1 = N2.1 50 15) : RG (wA010 W2 t dl e u1 u2 u3 v2 x) (aM010 m N2 t dl e c u1 u2 u3) := by
  rw [wA010_p, aM010_p]
  have R1 := rc_aw010 (dl := dl) R ht hu1 hu2 hu3 hc hO2 hv2 hb2 hh2 hf2 hq2
  have o2 := fun r k h => (hO2 r k h).1
  have h1 : u1 < 4 := by omega
  have h2 : u2 < 4 := by omega
  have h3 : u3 < 4 := by omega
  have g := rg_ends R1 (dl := dl) (e := e) ?_ ?_ ?_ hdl4 he ((decide ((nI u2) = (nI dl)))) (!((decide ((nI u2) = (nI dl)))))
  · rw [Bool.not_not] at g; exact g
  · unfold wa010 aq010; unfold rcW at *; simp (disch := first | decide | exact ad_ne (by decide) | exact ad_m (by decide) | exact ad_l (by decide) | exact ad_g (by decide) | exact ad_lt (by decide) | exact ad_o (by decide) | omega) only [↓ui_s, ↓uj_s, ↓ui_o, ↓ui_k, ↓uj_o, ↓uj_k, ↓ui_j, ↓uj_i, ↓o2, ui_s, uj_s, ui_o, ui_k, uj_o, uj_k, ui_j, uj_i, o2]; exact hfo
  · unfold wa010 aq010; unfold rcW at *; simp (disch := first | decide | exact ad_ne (by decide) | exact ad_m (by decide) | exact ad_l (by decide) | exact ad_g (by decide) | exact ad_lt (by decide) | exact ad_o (by decide) | omega) only [↓ui_s, ↓uj_s, ↓ui_o, ↓ui_k, ↓uj_o, ↓uj_k, ↓ui_j, ↓uj_i, ↓o2, ui_s, uj_s, ui_o, ui_k, uj_o, uj_k, ui_j, uj_i, o2]; exact htu
  · unfold aq010; simp (disch := first | decide | exact ad_ne (by decide) | exact ad_m (by decide) | exact ad_l (by decide) | exact ad_g (by decide) | exact ad_lt (by decide) | exact ad_o (by decide) | omega) only [↓ui_s, ↓uj_s, ↓ui_o, ↓ui_k, ↓uj_o, ↓uj_k, ↓ui_j, ↓uj_i, ui_s, uj_s, ui_o, ui_k, uj_o, uj_k, ui_j, uj_i]; exact hdl
theorem rg_aw011 {x m W2 W3 N2 N3 : zM} {v2 v3 : Q4} (R : RCl x m) {t dl e c u1 u2 u3 : Nat} (hfo : x.1 2 3 = m.1 50 47) (htu : x.1 0 8 = m.1 50 45) (hdl : m.1 50 40 = nI dl) (hdl4 : dl < 4) (he : (dl + 1) % 4 = e) (ht : t < 4) (hu1 : (t + 1) % 4 = u1) (hu2 : (t + 2) % 4 = u2) (hu3 : (t + 3) % 4 = u3) (hc : x.1 0 15 = nI c) (hO2 : WOj (x) W2) (hv2 : bqJ W2 = v2) (hb2 : v2.1 = N2.1 50 13) (hh2 : v2.2.1 = N2.1 50 14) (hf2 : v2.2.2.2 = N2.2.1 50 17) (hq2 : v2.2.2.1 = N2.1 50 15) (hO3 : WOj (z_ui (rcW (z_ui (z_ui W2 (18 + 8 * t) 4 ((x.1 (18 + 8 * t) 4) - ((hnd (v2.1 * (bif decide ((nI u2) = (nI dl)) then (6 : Int32) else 4))) + (300 * (x.1 0 11))))) (18 + 8 * u2) 4 ((x.1 (18 + 8 * u2) 4) + (((hnd (v2.1 * (bif decide ((nI u2) = (nI dl)) then (6 : Int32) else 4))) + (300 * (x.1 0 11))) + ((x.1 0 12) * 1000)))) 0 (nI u2) (nI t) (((hnd (v2.1 * (bif decide ((nI u2) = (nI dl)) then (6 : Int32) else 4))) + (300 * (x.1 0 11))) + ((x.1 0 12) * 1000))) 0 12 0) W3) (hv3 : bqJ W3 = v3) (hb3 : v3.1 = N3.1 50 13) (hh3 : v3.2.1 = N3.1 50 14) (hf3 : v3.2.2.2 = N3.2.1 50 17) (hq3 : v3.2.2.1 = N3.1 50 15) : RG (wA011 W3 t dl e u1 u2 u3 v2 v3 x) (aM011 m N2 N3 t dl e c u1 u2 u3) := by
  rw [wA011_p, aM011_p]
  have R1 := rc_aw011 (dl := dl) R ht hu1 hu2 hu3 hc hO2 hv2 hb2 hh2 hf2 hq2 hO3 hv3 hb3 hh3 hf3 hq3
  have o2 := fun r k h => (hO2 r k h).1
  have o3 := fun r k h => (hO3 r k h).1
  have h1 : u1 < 4 := by omega
  have h2 : u2 < 4 := by omega
  have h3 : u3 < 4 := by omega
  have g := rg_ends R1 (dl := dl) (e := e) ?_ ?_ ?_ hdl4 he ((decide ((nI u2) = (nI dl))) || (decide ((nI u3) = (nI dl)))) (!((decide ((nI u2) = (nI dl))) || (decide ((nI u3) = (nI dl)))))
  · rw [Bool.not_not] at g; exact g
  · unfold wa011 aq011; unfold rcW at *; simp (disch := first | decide | exact ad_ne (by decide) | exact ad_m (by decide) | exact ad_l (by decide) | exact ad_g (by decide) | exact ad_lt (by decide) | exact ad_o (by decide) | omega) only [↓ui_s, ↓uj_s, ↓ui_o, ↓ui_k, ↓uj_o, ↓uj_k, ↓ui_j, ↓uj_i, ↓o2, ↓o3, ui_s, uj_s, ui_o, ui_k, uj_o, uj_k, ui_j, uj_i, o2, o3]; exact hfo
  · unfold wa011 aq011; unfold rcW at *; simp (disch := first | decide | exact ad_ne (by decide) | exact ad_m (by decide) | exact ad_l (by decide) | exact ad_g (by decide) | exact ad_lt (by decide) | exact ad_o (by decide) | omega) only [↓ui_s, ↓uj_s, ↓ui_o, ↓ui_k, ↓uj_o, ↓uj_k, ↓ui_j, ↓uj_i, ↓o2, ↓o3, ui_s, uj_s, ui_o, ui_k, uj_o, uj_k, ui_j, uj_i, o2, o3]; exact htu
  · unfold aq011; simp (disch := first | decide | exact ad_ne (by decide) | exact ad_m (by decide) | exact ad_l (by decide) | exact ad_g (by decide) | exact ad_lt (by decide) | exact ad_o (by decide) | omega) only [↓ui_s, ↓uj_s, ↓ui_o, ↓ui_k, ↓uj_o, ↓uj_k, ↓ui_j, ↓uj_i, ui_s, uj_s, ui_o, ui_k, uj_o, uj_k, ui_j, uj_i]; exact hdl
theorem rg_aw100 {x m W1 N1 : zM} {v1 : Q4} (R : RCl x m) {t dl e c u1 u2 u3 : Nat} (hfo : x.1 2 3 = m.1 50 47) (htu : x.1 0 8 = m.1 50 45) (hdl : m.1 50 40 = nI dl) (hdl4 : dl < 4) (he : (dl + 1) % 4 = e) (ht : t < 4) (hu1 : (t + 1) % 4 = u1) (hu2 : (t + 2) % 4 = u2) (hu3 : (t + 3) % 4 = u3) (hc : x.1 0 15 = nI c) (hO1 : WOj (x) W1) (hv1 : bqJ W1 = v1) (hb1 : v1.1 = N1.1 50 13) (hh1 : v1.2.1 = N1.1 50 14) (hf1 : v1.2.2.2 = N1.2.1 50 17) (hq1 : v1.2.2.1 = N1.1 50 15) : RG (wA100 W1 t dl e u1 u2 u3 v1 x) (aM100 m N1 t dl e c u1 u2 u3) := by
  rw [wA100_p, aM100_p]
  have R1 := rc_aw100 (dl := dl) R ht hu1 hu2 hu3 hc hO1 hv1 hb1 hh1 hf1 hq1
  have o1 := fun r k h => (hO1 r k h).1
  have h1 : u1 < 4 := by omega
  have h2 : u2 < 4 := by omega
  have h3 : u3 < 4 := by omega
  have g := rg_ends R1 (dl := dl) (e := e) ?_ ?_ ?_ hdl4 he ((decide ((nI u1) = (nI dl)))) (!((decide ((nI u1) = (nI dl)))))
  · rw [Bool.not_not] at g; exact g
  · unfold wa100 aq100; unfold rcW at *; simp (disch := first | decide | exact ad_ne (by decide) | exact ad_m (by decide) | exact ad_l (by decide) | exact ad_g (by decide) | exact ad_lt (by decide) | exact ad_o (by decide) | omega) only [↓ui_s, ↓uj_s, ↓ui_o, ↓ui_k, ↓uj_o, ↓uj_k, ↓ui_j, ↓uj_i, ↓o1, ui_s, uj_s, ui_o, ui_k, uj_o, uj_k, ui_j, uj_i, o1]; exact hfo
  · unfold wa100 aq100; unfold rcW at *; simp (disch := first | decide | exact ad_ne (by decide) | exact ad_m (by decide) | exact ad_l (by decide) | exact ad_g (by decide) | exact ad_lt (by decide) | exact ad_o (by decide) | omega) only [↓ui_s, ↓uj_s, ↓ui_o, ↓ui_k, ↓uj_o, ↓uj_k, ↓ui_j, ↓uj_i, ↓o1, ui_s, uj_s, ui_o, ui_k, uj_o, uj_k, ui_j, uj_i, o1]; exact htu
  · unfold aq100; simp (disch := first | decide | exact ad_ne (by decide) | exact ad_m (by decide) | exact ad_l (by decide) | exact ad_g (by decide) | exact ad_lt (by decide) | exact ad_o (by decide) | omega) only [↓ui_s, ↓uj_s, ↓ui_o, ↓ui_k, ↓uj_o, ↓uj_k, ↓ui_j, ↓uj_i, ui_s, uj_s, ui_o, ui_k, uj_o, uj_k, ui_j, uj_i]; exact hdl
theorem rg_aw101 {x m W1 W3 N1 N3 : zM} {v1 v3 : Q4} (R : RCl x m) {t dl e c u1 u2 u3 : Nat} (hfo : x.1 2 3 = m.1 50 47) (htu : x.1 0 8 = m.1 50 45) (hdl : m.1 50 40 = nI dl) (hdl4 : dl < 4) (he : (dl + 1) % 4 = e) (ht : t < 4) (hu1 : (t + 1) % 4 = u1) (hu2 : (t + 2) % 4 = u2) (hu3 : (t + 3) % 4 = u3) (hc : x.1 0 15 = nI c) (hO1 : WOj (x) W1) (hv1 : bqJ W1 = v1) (hb1 : v1.1 = N1.1 50 13) (hh1 : v1.2.1 = N1.1 50 14) (hf1 : v1.2.2.2 = N1.2.1 50 17) (hq1 : v1.2.2.1 = N1.1 50 15) (hO3 : WOj (z_ui (rcW (z_ui (z_ui W1 (18 + 8 * t) 4 ((x.1 (18 + 8 * t) 4) - ((hnd (v1.1 * (bif decide ((nI u1) = (nI dl)) then (6 : Int32) else 4))) + (300 * (x.1 0 11))))) (18 + 8 * u1) 4 ((x.1 (18 + 8 * u1) 4) + (((hnd (v1.1 * (bif decide ((nI u1) = (nI dl)) then (6 : Int32) else 4))) + (300 * (x.1 0 11))) + ((x.1 0 12) * 1000)))) 0 (nI u1) (nI t) (((hnd (v1.1 * (bif decide ((nI u1) = (nI dl)) then (6 : Int32) else 4))) + (300 * (x.1 0 11))) + ((x.1 0 12) * 1000))) 0 12 0) W3) (hv3 : bqJ W3 = v3) (hb3 : v3.1 = N3.1 50 13) (hh3 : v3.2.1 = N3.1 50 14) (hf3 : v3.2.2.2 = N3.2.1 50 17) (hq3 : v3.2.2.1 = N3.1 50 15) : RG (wA101 W3 t dl e u1 u2 u3 v1 v3 x) (aM101 m N1 N3 t dl e c u1 u2 u3) := by
  rw [wA101_p, aM101_p]
  have R1 := rc_aw101 (dl := dl) R ht hu1 hu2 hu3 hc hO1 hv1 hb1 hh1 hf1 hq1 hO3 hv3 hb3 hh3 hf3 hq3
  have o1 := fun r k h => (hO1 r k h).1
  have o3 := fun r k h => (hO3 r k h).1
  have h1 : u1 < 4 := by omega
  have h2 : u2 < 4 := by omega
  have h3 : u3 < 4 := by omega
  have g := rg_ends R1 (dl := dl) (e := e) ?_ ?_ ?_ hdl4 he ((decide ((nI u1) = (nI dl))) || (decide ((nI u3) = (nI dl)))) (!((decide ((nI u1) = (nI dl))) || (decide ((nI u3) = (nI dl)))))
  · rw [Bool.not_not] at g; exact g
  · unfold wa101 aq101; unfold rcW at *; simp (disch := first | decide | exact ad_ne (by decide) | exact ad_m (by decide) | exact ad_l (by decide) | exact ad_g (by decide) | exact ad_lt (by decide) | exact ad_o (by decide) | omega) only [↓ui_s, ↓uj_s, ↓ui_o, ↓ui_k, ↓uj_o, ↓uj_k, ↓ui_j, ↓uj_i, ↓o1, ↓o3, ui_s, uj_s, ui_o, ui_k, uj_o, uj_k, ui_j, uj_i, o1, o3]; exact hfo
  · unfold wa101 aq101; unfold rcW at *; simp (disch := first | decide | exact ad_ne (by decide) | exact ad_m (by decide) | exact ad_l (by decide) | exact ad_g (by decide) | exact ad_lt (by decide) | exact ad_o (by decide) | omega) only [↓ui_s, ↓uj_s, ↓ui_o, ↓ui_k, ↓uj_o, ↓uj_k, ↓ui_j, ↓uj_i, ↓o1, ↓o3, ui_s, uj_s, ui_o, ui_k, uj_o, uj_k, ui_j, uj_i, o1, o3]; exact htu
  · unfold aq101; simp (disch := first | decide | exact ad_ne (by decide) | exact ad_m (by decide) | exact ad_l (by decide) | exact ad_g (by decide) | exact ad_lt (by decide) | exact ad_o (by decide) | omega) only [↓ui_s, ↓uj_s, ↓ui_o, ↓ui_k, ↓uj_o, ↓uj_k, ↓ui_j, ↓uj_i, ui_s, uj_s, ui_o, ui_k, uj_o, uj_k, ui_j, uj_i]; exact hdl
theorem rg_aw110 {x m W1 W2 N1 N2 : zM} {v1 v2 : Q4} (R : RCl x m) {t dl e c u1 u2 u3 : Nat} (hfo : x.1 2 3 = m.1 50 47) (htu : x.1 0 8 = m.1 50 45) (hdl : m.1 50 40 = nI dl) (hdl4 : dl < 4) (he : (dl + 1) % 4 = e) (ht : t < 4) (hu1 : (t + 1) % 4 = u1) (hu2 : (t + 2) % 4 = u2) (hu3 : (t + 3) % 4 = u3) (hc : x.1 0 15 = nI c) (hO1 : WOj (x) W1) (hv1 : bqJ W1 = v1) (hb1 : v1.1 = N1.1 50 13) (hh1 : v1.2.1 = N1.1 50 14) (hf1 : v1.2.2.2 = N1.2.1 50 17) (hq1 : v1.2.2.1 = N1.1 50 15) (hO2 : WOj (z_ui (rcW (z_ui (z_ui W1 (18 + 8 * t) 4 ((x.1 (18 + 8 * t) 4) - ((hnd (v1.1 * (bif decide ((nI u1) = (nI dl)) then (6 : Int32) else 4))) + (300 * (x.1 0 11))))) (18 + 8 * u1) 4 ((x.1 (18 + 8 * u1) 4) + (((hnd (v1.1 * (bif decide ((nI u1) = (nI dl)) then (6 : Int32) else 4))) + (300 * (x.1 0 11))) + ((x.1 0 12) * 1000)))) 0 (nI u1) (nI t) (((hnd (v1.1 * (bif decide ((nI u1) = (nI dl)) then (6 : Int32) else 4))) + (300 * (x.1 0 11))) + ((x.1 0 12) * 1000))) 0 12 0) W2) (hv2 : bqJ W2 = v2) (hb2 : v2.1 = N2.1 50 13) (hh2 : v2.2.1 = N2.1 50 14) (hf2 : v2.2.2.2 = N2.2.1 50 17) (hq2 : v2.2.2.1 = N2.1 50 15) : RG (wA110 W2 t dl e u1 u2 u3 v1 v2 x) (aM110 m N1 N2 t dl e c u1 u2 u3) := by
  rw [wA110_p, aM110_p]
  have R1 := rc_aw110 (dl := dl) R ht hu1 hu2 hu3 hc hO1 hv1 hb1 hh1 hf1 hq1 hO2 hv2 hb2 hh2 hf2 hq2
  have o1 := fun r k h => (hO1 r k h).1
  have o2 := fun r k h => (hO2 r k h).1
  have h1 : u1 < 4 := by omega
  have h2 : u2 < 4 := by omega
  have h3 : u3 < 4 := by omega
  have g := rg_ends R1 (dl := dl) (e := e) ?_ ?_ ?_ hdl4 he ((decide ((nI u1) = (nI dl))) || (decide ((nI u2) = (nI dl)))) (!((decide ((nI u1) = (nI dl))) || (decide ((nI u2) = (nI dl)))))
  · rw [Bool.not_not] at g; exact g
  · unfold wa110 aq110; unfold rcW at *; simp (disch := first | decide | exact ad_ne (by decide) | exact ad_m (by decide) | exact ad_l (by decide) | exact ad_g (by decide) | exact ad_lt (by decide) | exact ad_o (by decide) | omega) only [↓ui_s, ↓uj_s, ↓ui_o, ↓ui_k, ↓uj_o, ↓uj_k, ↓ui_j, ↓uj_i, ↓o1, ↓o2, ui_s, uj_s, ui_o, ui_k, uj_o, uj_k, ui_j, uj_i, o1, o2]; exact hfo
  · unfold wa110 aq110; unfold rcW at *; simp (disch := first | decide | exact ad_ne (by decide) | exact ad_m (by decide) | exact ad_l (by decide) | exact ad_g (by decide) | exact ad_lt (by decide) | exact ad_o (by decide) | omega) only [↓ui_s, ↓uj_s, ↓ui_o, ↓ui_k, ↓uj_o, ↓uj_k, ↓ui_j, ↓uj_i, ↓o1, ↓o2, ui_s, uj_s, ui_o, ui_k, uj_o, uj_k, ui_j, uj_i, o1, o2]; exact htu
  · unfold aq110; simp (disch := first | decide | exact ad_ne (by decide) | exact ad_m (by decide) | exact ad_l (by decide) | exact ad_g (by decide) | exact ad_lt (by decide) | exact ad_o (by decide) | omega) only [↓ui_s, ↓uj_s, ↓ui_o, ↓ui_k, ↓uj_o, ↓uj_k, ↓ui_j, ↓uj_i, ui_s, uj_s, ui_o, ui_k, uj_o, uj_k, ui_j, uj_i]; exact hdl
theorem rg_aw111 {x m W1 W2 W3 N1 N2 N3 : zM} {v1 v2 v3 : Q4} (R : RCl x m) {t dl e c u1 u2 u3 : Nat} (hfo : x.1 2 3 = m.1 50 47) (htu : x.1 0 8 = m.1 50 45) (hdl : m.1 50 40 = nI dl) (hdl4 : dl < 4) (he : (dl + 1) % 4 = e) (ht : t < 4) (hu1 : (t + 1) % 4 = u1) (hu2 : (t + 2) % 4 = u2) (hu3 : (t + 3) % 4 = u3) (hc : x.1 0 15 = nI c) (hO1 : WOj (x) W1) (hv1 : bqJ W1 = v1) (hb1 : v1.1 = N1.1 50 13) (hh1 : v1.2.1 = N1.1 50 14) (hf1 : v1.2.2.2 = N1.2.1 50 17) (hq1 : v1.2.2.1 = N1.1 50 15) (hO2 : WOj (z_ui (rcW (z_ui (z_ui W1 (18 + 8 * t) 4 ((x.1 (18 + 8 * t) 4) - ((hnd (v1.1 * (bif decide ((nI u1) = (nI dl)) then (6 : Int32) else 4))) + (300 * (x.1 0 11))))) (18 + 8 * u1) 4 ((x.1 (18 + 8 * u1) 4) + (((hnd (v1.1 * (bif decide ((nI u1) = (nI dl)) then (6 : Int32) else 4))) + (300 * (x.1 0 11))) + ((x.1 0 12) * 1000)))) 0 (nI u1) (nI t) (((hnd (v1.1 * (bif decide ((nI u1) = (nI dl)) then (6 : Int32) else 4))) + (300 * (x.1 0 11))) + ((x.1 0 12) * 1000))) 0 12 0) W2) (hv2 : bqJ W2 = v2) (hb2 : v2.1 = N2.1 50 13) (hh2 : v2.2.1 = N2.1 50 14) (hf2 : v2.2.2.2 = N2.2.1 50 17) (hq2 : v2.2.2.1 = N2.1 50 15) (hO3 : WOj (z_ui (rcW (z_ui (z_ui W2 (18 + 8 * t) 4 (((x.1 (18 + 8 * t) 4) - ((hnd (v1.1 * (bif decide ((nI u1) = (nI dl)) then (6 : Int32) else 4))) + (300 * (x.1 0 11)))) - ((hnd (v2.1 * (bif decide ((nI u2) = (nI dl)) then (6 : Int32) else 4))) + 0))) (18 + 8 * u2) 4 ((x.1 (18 + 8 * u2) 4) + (((hnd (v2.1 * (bif decide ((nI u2) = (nI dl)) then (6 : Int32) else 4))) + 0) + 0))) 1 (nI u2) (nI t) (((hnd (v2.1 * (bif decide ((nI u2) = (nI dl)) then (6 : Int32) else 4))) + 0) + 0)) 0 12 0) W3) (hv3 : bqJ W3 = v3) (hb3 : v3.1 = N3.1 50 13) (hh3 : v3.2.1 = N3.1 50 14) (hf3 : v3.2.2.2 = N3.2.1 50 17) (hq3 : v3.2.2.1 = N3.1 50 15) : RG (wA111 W3 t dl e u1 u2 u3 v1 v2 v3 x) (aM111 m N1 N2 N3 t dl e c u1 u2 u3) := by
  rw [wA111_p, aM111_p]
  have R1 := rc_aw111 (dl := dl) R ht hu1 hu2 hu3 hc hO1 hv1 hb1 hh1 hf1 hq1 hO2 hv2 hb2 hh2 hf2 hq2 hO3 hv3 hb3 hh3 hf3 hq3
  have o1 := fun r k h => (hO1 r k h).1
  have o2 := fun r k h => (hO2 r k h).1
  have o3 := fun r k h => (hO3 r k h).1
  have h1 : u1 < 4 := by omega
  have h2 : u2 < 4 := by omega
  have h3 : u3 < 4 := by omega
  have g := rg_ends R1 (dl := dl) (e := e) ?_ ?_ ?_ hdl4 he (((decide ((nI u1) = (nI dl))) || (decide ((nI u2) = (nI dl)))) || (decide ((nI u3) = (nI dl)))) (!(((decide ((nI u1) = (nI dl))) || (decide ((nI u2) = (nI dl)))) || (decide ((nI u3) = (nI dl)))))
  · rw [Bool.not_not] at g; exact g
  · unfold wa111 aq111; unfold rcW at *; simp (disch := first | decide | exact ad_ne (by decide) | exact ad_m (by decide) | exact ad_l (by decide) | exact ad_g (by decide) | exact ad_lt (by decide) | exact ad_o (by decide) | omega) only [↓ui_s, ↓uj_s, ↓ui_o, ↓ui_k, ↓uj_o, ↓uj_k, ↓ui_j, ↓uj_i, ↓o1, ↓o2, ↓o3, ui_s, uj_s, ui_o, ui_k, uj_o, uj_k, ui_j, uj_i, o1, o2, o3]; exact hfo
  · unfold wa111 aq111; unfold rcW at *; simp (disch := first | decide | exact ad_ne (by decide) | exact ad_m (by decide) | exact ad_l (by decide) | exact ad_g (by decide) | exact ad_lt (by decide) | exact ad_o (by decide) | omega) only [↓ui_s, ↓uj_s, ↓ui_o, ↓ui_k, ↓uj_o, ↓uj_k, ↓ui_j, ↓uj_i, ↓o1, ↓o2, ↓o3, ui_s, uj_s, ui_o, ui_k, uj_o, uj_k, ui_j, uj_i, o1, o2, o3]; exact htu
  · unfold aq111; simp (disch := first | decide | exact ad_ne (by decide) | exact ad_m (by decide) | exact ad_l (by decide) | exact ad_g (by decide) | exact ad_lt (by decide) | exact ad_o (by decide) | omega) only [↓ui_s, ↓uj_s, ↓ui_o, ↓ui_k, ↓uj_o, ↓uj_k, ↓ui_j, ↓uj_i, ui_s, uj_s, ui_o, ui_k, uj_o, uj_k, ui_j, uj_i]; exact hdl
