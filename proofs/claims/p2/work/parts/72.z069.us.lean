/-! the first draw of a hand -/
set_option maxRecDepth 8000
theorem rp_first {x m : zM} (R : RCl x m) {t k : Nat} (ht : t < 4) (hk : k < 34) (hbr : x.1 0 17 = 0) (h56 : m.1 50 56 = 1) (hus : ∀ s, s < 4 → m.1 64 s = 0) (how : ∀ s, s < 4 → x.1 (18 + 8 * s) 6 = 0) (ho1 : m.1 50 59 = 0) (his : m.1 50 55 = 1) (hs1 : ∀ s, s < 4 → m.1 71 s = 0) (hw0 : m.1 50 53 = 0) (h68 : ∀ s, s < 4 → m.1 68 s = 0) (h66 : ∀ s, s < 4 → m.1 66 s = 0) (h46 : m.1 50 46 = nI 52) (h48 : m.1 50 48 = nI 0) (h40 : m.1 50 40 = nI t) (htc : TC x m (fun _ => 0)) (hfo : x.1 2 3 = m.1 50 47) (hw : m.1 59 52 = nI k) (hh : ¬ m.1 60 (34 * t + k) = -1) : RPh (dT0 x t 52 k) (dM0 m t 52 k) 1 t k := by
  have e5 := R.be t ht
  have hne : ¬ k = 34 := by omega
  have hnI1 : (nI (52 + 1)).toInt = 53 := by decide
  have h48I : (nI 0).toInt = 0 := by decide
  unfold dT0 dM0 pS z_giv
  rw [e5]
  cases hb : decide (m.1 67 t = 0) with
  | true =>
    rw [cond_true, cond_true]
    exact ⟨(by simp (disch := omega) only [ui_s, uj_s, ui_o, ui_k, uj_o, uj_k, ui_j, uj_i]; exact hfo), (by simp (disch := omega) only [ui_s, uj_s, ui_o, ui_k, uj_o, uj_k, ui_j, uj_i]; rfl), (by simp (disch := omega) only [ui_s, uj_s, ui_o, ui_k, uj_o, uj_k, ui_j, uj_i]; rfl), (by simp (disch := omega) only [ui_s, uj_s, ui_o, ui_k, uj_o, uj_k, ui_j, uj_i]), (by simp (disch := omega) only [ui_s, uj_s, ui_o, ui_k, uj_o, uj_k, ui_j, uj_i]), ht, Or.inl rfl, (by simp (disch := omega) only [ui_s, uj_s, ui_o, ui_k, uj_o, uj_k, ui_j, uj_i]; rw [if_neg hne]), (by simp (disch := omega) only [ui_s, uj_s, ui_o, ui_k, uj_o, uj_k, ui_j, uj_i]; rw [if_neg hne]), Or.inl hk, fun _ => by simp (disch := omega) only [ui_s, uj_s, ui_o, ui_k, uj_o, uj_k, ui_j, uj_i]; rw [if_neg hne], (by simp (disch := omega) only [ui_s, uj_s, ui_o, ui_k, uj_o, uj_k, ui_j, uj_i]; rw [hbr, h56]; rfl), fun _ s h0 => by simp (disch := omega) only [ui_s, uj_s, ui_o, ui_k, uj_o, uj_k, ui_j, uj_i]; exact hus s h0, fun _ _ => by simp (disch := omega) only [ui_s, uj_s, ui_o, ui_k, uj_o, uj_k, ui_j, uj_i], fun _ => by unfold barM; simp (disch := omega) only [ui_s, uj_s, ui_o, ui_k, uj_o, uj_k, ui_j, uj_i]; rfl, fun _ e => absurd e (by omega), fun _ _ => by simp (disch := omega) only [ui_s, uj_s, ui_o, ui_k, uj_o, uj_k, ui_j, uj_i]; exact v1_ne hh, fun z => absurd z (by decide), fun s h0 => by simp (disch := omega) only [ui_s, uj_s, ui_o, ui_k, uj_o, uj_k, ui_j, uj_i]; rw [how s h0, ho1]; split <;> rfl, fun _ => by simp (disch := omega) only [ui_s, uj_s, ui_o, ui_k, uj_o, uj_k, ui_j, uj_i]; exact ho1, (by simp (disch := omega) only [ui_s, uj_s, ui_o, ui_k, uj_o, uj_k, ui_j, uj_i]; exact his), (by simp (disch := omega) only [ui_s, uj_s, ui_o, ui_k, uj_o, uj_k, ui_j, uj_i]; exact hs1 t ht), fun _ s h0 => by simp (disch := omega) only [ui_s, uj_s, ui_o, ui_k, uj_o, uj_k, ui_j, uj_i]; exact hs1 s h0, (by simp (disch := omega) only [ui_s, uj_s, ui_o, ui_k, uj_o, uj_k, ui_j, uj_i]; exact hw0), (fun s h0 => by
        by_cases e : s = t
        · subst e
          refine ⟨1, ?_, ?_, fun _ => Nat.le_refl _⟩
          · simp (disch := omega) only [ui_s, uj_s, ui_o, ui_k, uj_o, uj_k, ui_j, uj_i]; rw [h68 s h0]; rfl
          · simp (disch := omega) only [ui_s, uj_s, ui_o, ui_k, uj_o, uj_k, ui_j, uj_i]; rw [hnI1, h48, h48I]; decide
        · refine ⟨0, ?_, ?_, ?_⟩
          · simp (disch := omega) only [ui_s, uj_s, ui_o, ui_k, uj_o, uj_k, ui_j, uj_i]; rw [h68 s h0]; rfl
          · simp (disch := omega) only [ui_s, uj_s, ui_o, ui_k, uj_o, uj_k, ui_j, uj_i]; rw [hnI1, h48, h48I]; decide
          · simp (disch := omega) only [ui_s, uj_s, ui_o, ui_k, uj_o, uj_k, ui_j, uj_i]; intro z; exact absurd ((nI_eq (a := t) (b := s) (by omega) (by omega)).mp (h40.symm.trans z)).symm e), (fun z s h0 => by
        by_cases e : s = t
        · subst e
          rw [if_pos ⟨rfl, rfl⟩]
          simp (disch := omega) only [ui_s, uj_s, ui_o, ui_k, uj_o, uj_k, ui_j, uj_i]
          rw [h68 s h0, h66 s h0]
        · rw [if_neg (fun z => e z.2)]
          simp (disch := omega) only [ui_s, uj_s, ui_o, ui_k, uj_o, uj_k, ui_j, uj_i]
          rw [h68 s h0, h66 s h0]), fun z => absurd (show m.1 50 56 = 0 from by simp (disch := omega) only [ui_s, uj_s, ui_o, ui_k, uj_o, uj_k, ui_j, uj_i] at z; exact z) (by rw [h56]; decide), (htc.elim fun a z => by
        refine ⟨fun s k2 => if s = t ∧ k2 = k then a s k2 + 1 else a s k2, fun s k2 h0 h2 => ?_, fun k2 h2 => ?_⟩
        · by_cases e : s = t
          · subst e
            by_cases e2 : k2 = k
            · subst e2; simp (disch := omega) only [ui_s, uj_s, ui_o, ui_k, uj_o, uj_k, ui_j, uj_i]; rw [z.1 s k2 h0 h2]; simp only [and_self, if_true]; exact nI_s1 _
            · simp (disch := omega) only [ui_s, uj_s, ui_o, ui_k, uj_o, uj_k, ui_j, uj_i]; rw [if_neg (by omega)]; exact z.1 s k2 h0 h2
          · simp (disch := omega) only [ui_s, uj_s, ui_o, ui_k, uj_o, uj_k, ui_j, uj_i]; rw [if_neg (by omega)]; exact z.1 s k2 h0 h2
        · have y := z.2 k2 h2
          rw [if_neg (by omega), fW_cg (m := m) (fun i => by simp (disch := omega) only [ui_s, uj_s, ui_o, ui_k, uj_o, uj_k, ui_j, uj_i])]
          simp (disch := omega) only [ui_s, uj_s, ui_o, ui_k, uj_o, uj_k, ui_j, uj_i]
          rw [h46, nI_clamp (by omega)] at y
          rw [nI_clamp (by omega), cW_up (f := fW m) (a := 0) (v := k) hk h2 (by rw [Nat.zero_add]; exact hw)]
          have w := sum4 (a := fun s => a s k2) (b := fun s => if s = t ∧ k2 = k then a s k2 + 1 else a s k2) ht (fun s _ e => by rw [if_neg (by omega)])
          by_cases e : k2 = k
          · subst e
            simp only [and_true, if_true] at w ⊢
            omega
          · simp only [e, and_false, if_false] at w ⊢
            omega)⟩
  | false =>
    rw [cond_false, cond_false]
    exact ⟨(by simp (disch := omega) only [ui_s, uj_s, ui_o, ui_k, uj_o, uj_k, ui_j, uj_i]; exact hfo), (by simp (disch := omega) only [ui_s, uj_s, ui_o, ui_k, uj_o, uj_k, ui_j, uj_i]; rfl), (by simp (disch := omega) only [ui_s, uj_s, ui_o, ui_k, uj_o, uj_k, ui_j, uj_i]; rfl), (by simp (disch := omega) only [ui_s, uj_s, ui_o, ui_k, uj_o, uj_k, ui_j, uj_i]), (by simp (disch := omega) only [ui_s, uj_s, ui_o, ui_k, uj_o, uj_k, ui_j, uj_i]), ht, Or.inl rfl, (by simp (disch := omega) only [ui_s, uj_s, ui_o, ui_k, uj_o, uj_k, ui_j, uj_i]; rw [if_neg hne]), (by simp (disch := omega) only [ui_s, uj_s, ui_o, ui_k, uj_o, uj_k, ui_j, uj_i]; rw [if_neg hne]), Or.inl hk, fun _ => by simp (disch := omega) only [ui_s, uj_s, ui_o, ui_k, uj_o, uj_k, ui_j, uj_i]; rw [if_neg hne], (by simp (disch := omega) only [ui_s, uj_s, ui_o, ui_k, uj_o, uj_k, ui_j, uj_i]; rw [hbr, h56]; rfl), fun _ s h0 => by simp (disch := omega) only [ui_s, uj_s, ui_o, ui_k, uj_o, uj_k, ui_j, uj_i]; exact hus s h0, fun _ _ => by simp (disch := omega) only [ui_s, uj_s, ui_o, ui_k, uj_o, uj_k, ui_j, uj_i], fun _ => by unfold barM; simp (disch := omega) only [ui_s, uj_s, ui_o, ui_k, uj_o, uj_k, ui_j, uj_i]; rfl, fun _ e => absurd e (by omega), fun _ _ => by simp (disch := omega) only [ui_s, uj_s, ui_o, ui_k, uj_o, uj_k, ui_j, uj_i]; exact v1_ne hh, fun z => absurd z (by decide), fun s h0 => by simp (disch := omega) only [ui_s, uj_s, ui_o, ui_k, uj_o, uj_k, ui_j, uj_i]; rw [how s h0, ho1]; split <;> rfl, fun _ => by simp (disch := omega) only [ui_s, uj_s, ui_o, ui_k, uj_o, uj_k, ui_j, uj_i]; exact ho1, (by simp (disch := omega) only [ui_s, uj_s, ui_o, ui_k, uj_o, uj_k, ui_j, uj_i]; exact his), (by simp (disch := omega) only [ui_s, uj_s, ui_o, ui_k, uj_o, uj_k, ui_j, uj_i]; exact hs1 t ht), fun _ s h0 => by simp (disch := omega) only [ui_s, uj_s, ui_o, ui_k, uj_o, uj_k, ui_j, uj_i]; exact hs1 s h0, (by simp (disch := omega) only [ui_s, uj_s, ui_o, ui_k, uj_o, uj_k, ui_j, uj_i]; exact hw0), (fun s h0 => by
        by_cases e : s = t
        · subst e
          refine ⟨1, ?_, ?_, fun _ => Nat.le_refl _⟩
          · simp (disch := omega) only [ui_s, uj_s, ui_o, ui_k, uj_o, uj_k, ui_j, uj_i]; rw [h68 s h0]; rfl
          · simp (disch := omega) only [ui_s, uj_s, ui_o, ui_k, uj_o, uj_k, ui_j, uj_i]; rw [hnI1, h48, h48I]; decide
        · refine ⟨0, ?_, ?_, ?_⟩
          · simp (disch := omega) only [ui_s, uj_s, ui_o, ui_k, uj_o, uj_k, ui_j, uj_i]; rw [h68 s h0]; rfl
          · simp (disch := omega) only [ui_s, uj_s, ui_o, ui_k, uj_o, uj_k, ui_j, uj_i]; rw [hnI1, h48, h48I]; decide
          · simp (disch := omega) only [ui_s, uj_s, ui_o, ui_k, uj_o, uj_k, ui_j, uj_i]; intro z; exact absurd ((nI_eq (a := t) (b := s) (by omega) (by omega)).mp (h40.symm.trans z)).symm e), (fun z s h0 => by
        by_cases e : s = t
        · subst e
          rw [if_pos ⟨rfl, rfl⟩]
          simp (disch := omega) only [ui_s, uj_s, ui_o, ui_k, uj_o, uj_k, ui_j, uj_i]
          rw [h68 s h0, h66 s h0]
        · rw [if_neg (fun z => e z.2)]
          simp (disch := omega) only [ui_s, uj_s, ui_o, ui_k, uj_o, uj_k, ui_j, uj_i]
          rw [h68 s h0, h66 s h0]), fun z => absurd (show m.1 50 56 = 0 from by simp (disch := omega) only [ui_s, uj_s, ui_o, ui_k, uj_o, uj_k, ui_j, uj_i] at z; exact z) (by rw [h56]; decide), (htc.elim fun a z => by
        refine ⟨fun s k2 => if s = t ∧ k2 = k then a s k2 + 1 else a s k2, fun s k2 h0 h2 => ?_, fun k2 h2 => ?_⟩
        · by_cases e : s = t
          · subst e
            by_cases e2 : k2 = k
            · subst e2; simp (disch := omega) only [ui_s, uj_s, ui_o, ui_k, uj_o, uj_k, ui_j, uj_i]; rw [z.1 s k2 h0 h2]; simp only [and_self, if_true]; exact nI_s1 _
            · simp (disch := omega) only [ui_s, uj_s, ui_o, ui_k, uj_o, uj_k, ui_j, uj_i]; rw [if_neg (by omega)]; exact z.1 s k2 h0 h2
          · simp (disch := omega) only [ui_s, uj_s, ui_o, ui_k, uj_o, uj_k, ui_j, uj_i]; rw [if_neg (by omega)]; exact z.1 s k2 h0 h2
        · have y := z.2 k2 h2
          rw [if_neg (by omega), fW_cg (m := m) (fun i => by simp (disch := omega) only [ui_s, uj_s, ui_o, ui_k, uj_o, uj_k, ui_j, uj_i])]
          simp (disch := omega) only [ui_s, uj_s, ui_o, ui_k, uj_o, uj_k, ui_j, uj_i]
          rw [h46, nI_clamp (by omega)] at y
          rw [nI_clamp (by omega), cW_up (f := fW m) (a := 0) (v := k) hk h2 (by rw [Nat.zero_add]; exact hw)]
          have w := sum4 (a := fun s => a s k2) (b := fun s => if s = t ∧ k2 = k then a s k2 + 1 else a s k2) ht (fun s _ e => by rw [if_neg (by omega)])
          by_cases e : k2 = k
          · subst e
            simp only [and_true, if_true] at w ⊢
            omega
          · simp only [e, and_false, if_false] at w ⊢
            omega)⟩
theorem cW_c9 {f g : Nat → Int32} {a k : Nat} : ∀ n, (∀ i, i < n → f (a + i) = g (a + i)) → cW f a k n = cW g a k n
  | 0, _ => rfl
  | n + 1, h => by
    show cW f a k n + (if f (a + n) = nI k then 1 else 0) = cW g a k n + (if g (a + n) = nI k then 1 else 0)
    rw [cW_c9 n (fun i hi => h i (by omega)), h n (by omega)]
theorem rg_dealt {x m x3 m3 : zM} {dl : Nat} {sd : Int64} (R : RCl x m) (D : DLR x m dl sd x3 m3) (hdl : dl < 4) (hd : m.1 50 40 = nI dl) : RG (dT0 (z_ui (z_ui x3 0 6 0) 0 17 0) dl 52 (wlN sd 52)) (dlM m3 dl sd) := by
  have R1 := rc_dealt R D hdl
  have w52 := wlN_e sd (k := 52) (by decide)
  rw [dlM_n]
  obtain ⟨μb, hC, b3, b21, b22, b23, bf, bj⟩ := D.hx
  obtain ⟨m1, m2, m3f, m4⟩ := D.hm
  have SD : ∀ s, s < 4 → ∃ p, p < 4 ∧ (dl + p) % 4 = s ∧ SDx (wlF sd) x3 s p := fun s hs => by
    obtain ⟨p, h1, h2⟩ := seat_p hdl hs
    exact ⟨p, h1, h2, h2 ▸ hC.1 p h1⟩
  have z46 : (dlN m3).1 50 46 = nI 52 := by unfold dlN; simp (disch := omega) only [ui_s, uj_s, ui_o, ui_k, uj_o, uj_k, ui_j, uj_i]; rfl
  have z48 : (dlN m3).1 50 48 = nI 0 := by unfold dlN; simp (disch := omega) only [ui_s, uj_s, ui_o, ui_k, uj_o, uj_k, ui_j, uj_i]; rfl
  have z47 : (dlN m3).1 50 47 = 0 := by unfold dlN; simp (disch := omega) only [ui_s, uj_s, ui_o, ui_k, uj_o, uj_k, ui_j, uj_i]
  have z53 : (dlN m3).1 50 53 = 0 := by unfold dlN; simp (disch := omega) only [ui_s, uj_s, ui_o, ui_k, uj_o, uj_k, ui_j, uj_i]
  have z55 : (dlN m3).1 50 55 = 1 := by unfold dlN; simp (disch := omega) only [ui_s, uj_s, ui_o, ui_k, uj_o, uj_k, ui_j, uj_i]
  have z56 : (dlN m3).1 50 56 = 1 := by unfold dlN; simp (disch := omega) only [ui_s, uj_s, ui_o, ui_k, uj_o, uj_k, ui_j, uj_i]
  have z59 : (dlN m3).1 50 59 = 0 := by unfold dlN; simp (disch := omega) only [ui_s, uj_s, ui_o, ui_k, uj_o, uj_k, ui_j, uj_i]
  have z40 : (dlN m3).1 50 40 = nI dl := by unfold dlN; simp (disch := omega) only [ui_s, uj_s, ui_o, ui_k, uj_o, uj_k, ui_j, uj_i]; rw [m3f 50 40 (by decide) (by decide), ui_k (by decide)]; exact hd
  have zW : ∀ i, i < 136 → (dlN m3).1 59 i = wlF sd i := fun i hi => by unfold dlN; simp (disch := omega) only [ui_s, uj_s, ui_o, ui_k, uj_o, uj_k, ui_j, uj_i]; exact m1 i hi
  have z64 : ∀ s, s < 4 → (dlN m3).1 64 s = 0 := fun s hs => by
    unfold dlN
    obtain rfl | rfl | rfl | rfl : s = 0 ∨ s = 1 ∨ s = 2 ∨ s = 3 := by omega
    all_goals (simp (disch := omega) only [ui_s, uj_s, ui_o, ui_k, uj_o, uj_k, ui_j, uj_i])
  have z66 : ∀ s, s < 4 → (dlN m3).1 66 s = 0 := fun s hs => by
    unfold dlN
    obtain rfl | rfl | rfl | rfl : s = 0 ∨ s = 1 ∨ s = 2 ∨ s = 3 := by omega
    all_goals (simp (disch := omega) only [ui_s, uj_s, ui_o, ui_k, uj_o, uj_k, ui_j, uj_i])
  have z68 : ∀ s, s < 4 → (dlN m3).1 68 s = 0 := fun s hs => by
    unfold dlN
    obtain rfl | rfl | rfl | rfl : s = 0 ∨ s = 1 ∨ s = 2 ∨ s = 3 := by omega
    all_goals (simp (disch := omega) only [ui_s, uj_s, ui_o, ui_k, uj_o, uj_k, ui_j, uj_i])
  have z71 : ∀ s, s < 4 → (dlN m3).1 71 s = 0 := fun s hs => by
    unfold dlN
    obtain rfl | rfl | rfl | rfl : s = 0 ∨ s = 1 ∨ s = 2 ∨ s = 3 := by omega
    all_goals (simp (disch := omega) only [ui_s, uj_s, ui_o, ui_k, uj_o, uj_k, ui_j, uj_i])
  have zH : ¬ (dlN m3).1 60 (34 * dl + wlN sd 52) = -1 := by
    unfold dlN
    simp (disch := omega) only [ui_s, uj_s, ui_o, ui_k, uj_o, uj_k, ui_j, uj_i]
    rw [m2 dl (wlN sd 52) hdl w52.2]
    have := mC_le (dl := dl) (s := dl) (k := wlN sd 52) (f := wlF sd) 52
    exact of_decide_eq_false (kn_m1 (by omega))
  have hT : TC (z_ui (z_ui x3 0 6 0) 0 17 0) (dlN m3) (fun _ => 0) := by
    refine ⟨fun s k => cW (wlF sd) (13 * ((s + 4 - dl) % 4)) k 13, fun s k hs hk => ?_, fun k hk => ?_⟩
    · simp (disch := omega) only [ui_s, uj_s, ui_o, ui_k, uj_o, uj_k, ui_j, uj_i]
      have hp : (s + 4 - dl) % 4 < 4 := Nat.mod_lt _ (by decide)
      have z := hC.1 ((s + 4 - dl) % 4) hp
      rw [show (dl + (s + 4 - dl) % 4) % 4 = s from by omega] at z
      exact (z.1 k hk).2
    · rw [z46, z48, nI_clamp (by omega), nI_clamp (by omega), show cW (fW (dlN m3)) 0 k 52 = cW (wlF sd) 0 k 52 from cW_c9 52 (fun i hi => by rw [Nat.zero_add]; exact zW i (by omega)), cW_52]
      obtain rfl | rfl | rfl | rfl : dl = 0 ∨ dl = 1 ∨ dl = 2 ∨ dl = 3 := by omega
      all_goals (simp only [Nat.reduceAdd, Nat.reduceSub, Nat.reduceMod, Nat.reduceMul]; omega)
  refine ⟨rc_draw0 R1 hdl w52.2 z46, Or.inr ⟨1, dl, wlN sd 52, rp_first R1 hdl w52.2 ui_s z56 z64 (fun s hs => ?_) z59 z55 z71 z53 z68 z66 z46 z48 z40 hT ?_ ((zW 52 (by decide)).trans w52.1) zH⟩⟩
  · obtain ⟨p, _, _, z⟩ := SD s hs
    simp (disch := omega) only [ui_s, uj_s, ui_o, ui_k, uj_o, uj_k, ui_j, uj_i]
    exact z.2.2.2.2.2.1
  · rw [z47]; simp (disch := omega) only [ui_s, uj_s, ui_o, ui_k, uj_o, uj_k, ui_j, uj_i]; rw [hC.2.1 2 3 (by omega)]; exact b23
