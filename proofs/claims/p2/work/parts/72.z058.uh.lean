/-! laying down: hide, three, four, run -/
set_option maxRecDepth 8000
theorem ldS_20 {μ : zM} {j a q k : Nat} {s : Int32} : (ldS μ j s a q).1 (20 + 8 * j) k = (if a ≤ k ∧ k < a + (zl s + 1) then μ.1 (20 + 8 * j) k - se s else μ.1 (20 + 8 * j) k) := by
  unfold ldS
  show (if 20 + 8 * j = 20 + 8 * j then _ else _) = _
  rw [if_pos rfl]
theorem ldS_5 {μ : zM} {j a q : Nat} {s : Int32} : (ldS μ j s a q).1 (19 + 8 * j) 5 = μ.1 (19 + 8 * j) 5 - nI (zl s + 1) * se s := by
  unfold ldS
  show (if 19 + 8 * j = 20 + 8 * j then _ else if 19 + 8 * j = 19 + 8 * j ∧ 5 = 5 then _ else _) = _
  rw [if_neg (by omega), if_pos ⟨rfl, rfl⟩]
theorem ldS_4 {μ : zM} {j a q : Nat} {s : Int32} : (ldS μ j s a q).1 (19 + 8 * j) 4 = nI (q + 1) := by
  unfold ldS
  show (if 19 + 8 * j = 20 + 8 * j then _ else if 19 + 8 * j = 19 + 8 * j ∧ 4 = 5 then _ else if 19 + 8 * j = 19 + 8 * j ∧ 4 = 4 then _ else _) = _
  rw [if_neg (by omega), if_neg (by omega), if_pos ⟨rfl, rfl⟩]
theorem ldS_22 {μ : zM} {j a q k : Nat} {s : Int32} : (ldS μ j s a q).1 (22 + 8 * j) k = (if k = q then s else μ.1 (22 + 8 * j) k) := by
  unfold ldS
  show (if 22 + 8 * j = 20 + 8 * j then _ else if 22 + 8 * j = 19 + 8 * j ∧ k = 5 then _ else if 22 + 8 * j = 19 + 8 * j ∧ k = 4 then _ else if 22 + 8 * j = 22 + 8 * j ∧ k = q then _ else if 22 + 8 * j = 23 + 8 * j ∧ k = q then _ else _) = _
  rw [if_neg (by omega), if_neg (by omega), if_neg (by omega)]
  by_cases e : k = q
  · rw [if_pos ⟨rfl, e⟩, if_pos e]
  · rw [if_neg (fun z => e z.2), if_neg (fun z => e z.2), if_neg e]
theorem ldS_23 {μ : zM} {j a q k : Nat} {s : Int32} : (ldS μ j s a q).1 (23 + 8 * j) k = (if k = q then nI a else μ.1 (23 + 8 * j) k) := by
  unfold ldS
  show (if 23 + 8 * j = 20 + 8 * j then _ else if 23 + 8 * j = 19 + 8 * j ∧ k = 5 then _ else if 23 + 8 * j = 19 + 8 * j ∧ k = 4 then _ else if 23 + 8 * j = 22 + 8 * j ∧ k = q then _ else if 23 + 8 * j = 23 + 8 * j ∧ k = q then _ else _) = _
  rw [if_neg (by omega), if_neg (by omega), if_neg (by omega), if_neg (by omega)]
  by_cases e : k = q
  · rw [if_pos ⟨rfl, e⟩, if_pos e]
  · rw [if_neg (fun z => e z.2), if_neg e]
theorem ldS_21 {μ : zM} {j a q k : Nat} {s : Int32} : (ldS μ j s a q).1 (21 + 8 * j) k = μ.1 (21 + 8 * j) k := ldS_o (by omega)
theorem lys_62 {μ : zM} {a q k : Nat} {so kk : Int32} : (z_lys μ a q so kk).1 62 k = (if k = 4 * a + q then so else μ.1 62 k) := by
  unfold z_lys
  rw [ui_o (by decide), ui_o (by decide)]
  by_cases e : k = 4 * a + q
  · rw [if_pos e, e, ui_s]
  · rw [if_neg e, ui_k e]
theorem lys_63 {μ : zM} {a q k : Nat} {so kk : Int32} : (z_lys μ a q so kk).1 63 k = (if k = 4 * a + q then kk else μ.1 63 k) := by
  unfold z_lys
  rw [ui_o (by decide)]
  by_cases e : k = 4 * a + q
  · rw [if_pos e, e, ui_s]
  · rw [if_neg e, ui_k e, ui_o (by decide)]
theorem lys_64s {μ : zM} {a q : Nat} {so kk : Int32} : (z_lys μ a q so kk).1 64 a = nI (q + 1) := by unfold z_lys; rw [ui_s]
theorem lys_64o {μ : zM} {a q k : Nat} {so kk : Int32} (h : k ≠ a) : (z_lys μ a q so kk).1 64 k = μ.1 64 k := by unfold z_lys; rw [ui_k h, ui_o (by decide), ui_o (by decide)]
theorem ct_n9 {so : Int32} {a k : Nat} (h : ¬ so = 0) (ha : a < 34) (hk : k < 34) : ct so (nI a) (nI k) = (if k = a then (if so = 1 then 3 else 4) else 0) := by
  unfold ct
  rw [if_neg h]
  by_cases e : k = a
  · rw [if_pos e, if_pos (by rw [e])]
  · rw [if_neg e, if_neg (fun z => e ((nI_eq (a := a) (b := k) (by omega) (by omega)).mp z).symm)]
theorem ct_r {l k : Nat} (hl : l + 2 < 34) (hk : k < 34) : ct 0 (nI l) (nI k) = (if l ≤ k ∧ k ≤ l + 2 then 1 else 0) := by
  unfold ct
  rw [if_pos rfl]
  have e1 : nI l ≤ nI k ↔ l ≤ k := by rw [Int32.le_iff_toInt_le, nI_toInt (by omega), nI_toInt (by omega)]; omega
  have e2 : nI k ≤ nI l + 2 ↔ k ≤ l + 2 := by rw [show nI l + 2 = nI (l + 2) from nI_add l 2, Int32.le_iff_toInt_le, nI_toInt (by omega), nI_toInt (by omega)]; omega
  simp only [e1, e2]
theorem i3 {x a b c : Int32} (h : a - b = c) : x + a - b = x + c := by rw [← h, Int32.sub_eq_add_neg, Int32.sub_eq_add_neg, Int32.add_assoc]
theorem i2 {x b c : Int32} (h : -b = c) : x - b = x + c := by rw [← h, Int32.sub_eq_add_neg]
theorem i0 {x c : Int32} (h : c = 0) : x = x + c := by rw [h, Int32.add_zero]
theorem sm_z9 : ∀ n, sm (fun _ => 0) n = 0
  | 0 => rfl
  | n + 1 => by show sm _ n + 0 = 0; rw [sm_z9 n]; rfl
theorem sm_p9 {c : Nat} {d : Int32} (hc : c < 34) : sm (fun j => if j = c then d else 0) 34 = d := by
  rw [sm_up9 (g := fun _ => 0) (d := d) hc (fun j _ e => if_neg e) (by rw [if_pos rfl, Int32.zero_add]), sm_z9, Int32.zero_add]
theorem sm_p2 {a b : Nat} (ha : a < 34) (hb : b < 34) (hab : a ≠ b) : sm (fun j => if j = a ∨ j = b then (-1 : Int32) else 0) 34 = -2 := by
  rw [sm_up9 (g := fun j => if j = a then (-1 : Int32) else 0) (d := -1) hb (fun j _ e => by simp only [e, or_false]) (by rw [if_pos (Or.inr rfl), if_neg (fun z => hab z.symm), Int32.zero_add]), sm_p9 ha]
  rfl
theorem svd_n {so : Int32} {a : Nat} (h : bI 0 3 so) (h0 : ¬ so = 0) (ha : a < 34) : SVd so (nI a) := ⟨h, bd_nI (by omega) ⟨by omega, by omega⟩, fun z => absurd z h0⟩
theorem lay_hide {x m : zM} {s c q : Nat} (hs : s < 4) (hc : c < 34) (hq : q ≤ 3) : LAY x m (ldS x s 3 c q) (z_lys (z_giv m s c (-4)) s q 3 (nI c)) s q c 3 (fun j => if j = c then (-4 : Int32) else 0) := by
  have z1 : zl 3 = 0 := by decide
  have z2 : se 3 = 4 := by decide
  exact ⟨fun r k h1 h2 h3 h4 h5 => by rw [ldS_o ⟨h1, h2, h4, h5⟩], rfl, fun r k h1 h2 h3 h4 => by rw [lys_o ⟨h2, h3, h4⟩, giv_o (by omega)], rfl, ldS_4, lys_64s, fun j e => by rw [lys_64o e, giv_o (by omega)], (fun k h1 => by
      rw [ldS_20, z1, z2]
      show _ = x.1 (20 + 8 * s) k + (if k = c then (-4 : Int32) else 0)
      by_cases e : k = c
      · rw [if_pos (by omega), if_pos e]; exact i2 (by decide)
      · rw [if_neg (by omega), if_neg e, Int32.add_zero]), (fun k h1 => by
      rw [lys_o (by decide), giv_60]
      show _ = m.1 60 (34 * s + k) + (if k = c then (-4 : Int32) else 0)
      by_cases e : k = c
      · rw [if_pos (by rw [e]), if_pos e]
      · rw [if_neg (by omega), if_neg e, Int32.add_zero]), fun j k h0 h1 e => by rw [lys_o (by decide), giv_60, if_neg (by omega)], (fun k h1 => by
      rw [ldS_21, ct_n9 (by decide) hc h1]
      show _ = x.1 (21 + 8 * s) k + ((if k = c then (-4 : Int32) else 0) + _)
      by_cases e : k = c
      · rw [if_pos e, if_pos e]; exact i0 (by decide)
      · rw [if_neg e, if_neg e]; exact i0 (by decide)), (by
      rw [ldS_5, z1, z2, sm_p9 hc]
      exact i2 (by decide)), fun i _ => by rw [ldS_22], fun i _ => by rw [ldS_23], (fun j i h0 h1 => by
      rw [lys_62, giv_o (by omega)]
      by_cases e : j = s ∧ i = q
      · rw [if_pos e, if_pos (by rw [e.1, e.2])]
      · rw [if_neg e, if_neg (by omega)]), (fun j i h0 h1 => by
      rw [lys_63, giv_o (by omega)]
      by_cases e : j = s ∧ i = q
      · rw [if_pos e, if_pos (by rw [e.1, e.2])]
      · rw [if_neg e, if_neg (by omega)])⟩
theorem lay_three {x m : zM} {s c q : Nat} (hs : s < 4) (hc : c < 34) (hq : q ≤ 3) : LAY x m (ldS (pS x s c 1) s 1 c q) (z_lys (z_giv m s c (-2)) s q 1 (nI c)) s q c 1 (fun j => if j = c then (-2 : Int32) else 0) := by
  have z1 : zl 1 = 0 := by decide
  have z2 : se 1 = 3 := by decide
  exact ⟨fun r k h1 h2 h3 h4 h5 => by rw [ldS_o ⟨h1, h2, h4, h5⟩, pS_g (by omega)], rfl, fun r k h1 h2 h3 h4 => by rw [lys_o ⟨h2, h3, h4⟩, giv_o (by omega)], rfl, ldS_4, lys_64s, fun j e => by rw [lys_64o e, giv_o (by omega)], (fun k h1 => by
      rw [ldS_20, pS_20, z1, z2]
      show _ = x.1 (20 + 8 * s) k + (if k = c then (-2 : Int32) else 0)
      by_cases e : k = c
      · rw [if_pos (by omega), if_pos e, if_pos e, e]; exact i3 (by decide)
      · rw [if_neg (by omega), if_neg e, if_neg e, Int32.add_zero]), (fun k h1 => by
      rw [lys_o (by decide), giv_60]
      show _ = m.1 60 (34 * s + k) + (if k = c then (-2 : Int32) else 0)
      by_cases e : k = c
      · rw [if_pos (by rw [e]), if_pos e]
      · rw [if_neg (by omega), if_neg e, Int32.add_zero]), fun j k h0 h1 e => by rw [lys_o (by decide), giv_60, if_neg (by omega)], (fun k h1 => by
      rw [ldS_21, pS_21, ct_n9 (by decide) hc h1]
      show _ = x.1 (21 + 8 * s) k + ((if k = c then (-2 : Int32) else 0) + _)
      by_cases e : k = c
      · rw [if_pos e, if_pos e, if_pos e, e]; rfl
      · rw [if_neg e, if_neg e, if_neg e]; exact i0 (by decide)), (by
      rw [ldS_5, pS_5, z1, z2, sm_p9 hc]
      exact i3 (by decide)), fun i _ => by rw [ldS_22, pS_g (by omega)], fun i _ => by rw [ldS_23, pS_g (by omega)], (fun j i h0 h1 => by
      rw [lys_62, giv_o (by omega)]
      by_cases e : j = s ∧ i = q
      · rw [if_pos e, if_pos (by rw [e.1, e.2])]
      · rw [if_neg e, if_neg (by omega)]), (fun j i h0 h1 => by
      rw [lys_63, giv_o (by omega)]
      by_cases e : j = s ∧ i = q
      · rw [if_pos e, if_pos (by rw [e.1, e.2])]
      · rw [if_neg e, if_neg (by omega)])⟩
theorem lay_four {x m : zM} {s c q : Nat} (hs : s < 4) (hc : c < 34) (hq : q ≤ 3) : LAY x m (ldS (pS x s c 1) s 2 c q) (z_lys (z_giv m s c (-3)) s q 2 (nI c)) s q c 2 (fun j => if j = c then (-3 : Int32) else 0) := by
  have z1 : zl 2 = 0 := by decide
  have z2 : se 2 = 4 := by decide
  exact ⟨fun r k h1 h2 h3 h4 h5 => by rw [ldS_o ⟨h1, h2, h4, h5⟩, pS_g (by omega)], rfl, fun r k h1 h2 h3 h4 => by rw [lys_o ⟨h2, h3, h4⟩, giv_o (by omega)], rfl, ldS_4, lys_64s, fun j e => by rw [lys_64o e, giv_o (by omega)], (fun k h1 => by
      rw [ldS_20, pS_20, z1, z2]
      show _ = x.1 (20 + 8 * s) k + (if k = c then (-3 : Int32) else 0)
      by_cases e : k = c
      · rw [if_pos (by omega), if_pos e, if_pos e, e]; exact i3 (by decide)
      · rw [if_neg (by omega), if_neg e, if_neg e, Int32.add_zero]), (fun k h1 => by
      rw [lys_o (by decide), giv_60]
      show _ = m.1 60 (34 * s + k) + (if k = c then (-3 : Int32) else 0)
      by_cases e : k = c
      · rw [if_pos (by rw [e]), if_pos e]
      · rw [if_neg (by omega), if_neg e, Int32.add_zero]), fun j k h0 h1 e => by rw [lys_o (by decide), giv_60, if_neg (by omega)], (fun k h1 => by
      rw [ldS_21, pS_21, ct_n9 (by decide) hc h1]
      show _ = x.1 (21 + 8 * s) k + ((if k = c then (-3 : Int32) else 0) + _)
      by_cases e : k = c
      · rw [if_pos e, if_pos e, if_pos e, e]; rfl
      · rw [if_neg e, if_neg e, if_neg e]; exact i0 (by decide)), (by
      rw [ldS_5, pS_5, z1, z2, sm_p9 hc]
      exact i3 (by decide)), fun i _ => by rw [ldS_22, pS_g (by omega)], fun i _ => by rw [ldS_23, pS_g (by omega)], (fun j i h0 h1 => by
      rw [lys_62, giv_o (by omega)]
      by_cases e : j = s ∧ i = q
      · rw [if_pos e, if_pos (by rw [e.1, e.2])]
      · rw [if_neg e, if_neg (by omega)]), (fun j i h0 h1 => by
      rw [lys_63, giv_o (by omega)]
      by_cases e : j = s ∧ i = q
      · rw [if_pos e, if_pos (by rw [e.1, e.2])]
      · rw [if_neg e, if_neg (by omega)])⟩
theorem lay_run0 {x m : zM} {s l q : Nat} (hs : s < 4) (hl : l + 2 < 34) (hq : q ≤ 3) : LAY x m (ldS (pS x s l 1) s 0 l q) (z_lys (z_giv (z_giv m s (l + 1) (-1)) s (l + 2) (-1)) s q 0 (nI l)) s q l 0 (fun j => if j = (l + 1) ∨ j = (l + 2) then (-1 : Int32) else 0) := by
  have z1 : zl 0 = 2 := by decide
  have z2 : se 0 = 1 := by decide
  exact ⟨fun r k h1 h2 h3 h4 h5 => by rw [ldS_o ⟨h1, h2, h4, h5⟩, pS_g (by omega)], rfl, fun r k h1 h2 h3 h4 => by rw [lys_o ⟨h2, h3, h4⟩, giv_o (by omega), giv_o (by omega)], rfl, ldS_4, lys_64s, fun j e => by rw [lys_64o e, giv_o (by omega), giv_o (by omega)], (fun k h1 => by
      rw [ldS_20, pS_20, z1, z2]
      show _ = x.1 (20 + 8 * s) k + (if k = (l + 1) ∨ k = (l + 2) then (-1 : Int32) else 0)
      by_cases e : k = l
      · rw [if_pos (by omega), if_pos e, if_neg (by omega), e, Int32.add_zero]; exact (i3 (by decide)).trans (Int32.add_zero _)
      · by_cases e2 : k = (l + 1) ∨ k = (l + 2)
        · rw [if_pos (by omega), if_neg e, if_pos e2]; exact i2 (by decide)
        · rw [if_neg (by omega), if_neg e, if_neg e2, Int32.add_zero]), (fun k h1 => by
      rw [lys_o (by decide), giv_60, giv_60]
      show _ = m.1 60 (34 * s + k) + (if k = (l + 1) ∨ k = (l + 2) then (-1 : Int32) else 0)
      by_cases e : k = (l + 2)
      · rw [if_pos (by rw [e]), if_neg (by omega), if_pos (Or.inr e)]
      · rw [if_neg (by omega)]
        by_cases e2 : k = (l + 1)
        · rw [if_pos (by rw [e2]), if_pos (Or.inl e2)]
        · rw [if_neg (by omega), if_neg (by omega), Int32.add_zero]), fun j k h0 h1 e => by rw [lys_o (by decide), giv_60, giv_60, if_neg (by omega), if_neg (by omega)], (fun k h1 => by
      rw [ldS_21, pS_21, ct_r hl h1]
      show _ = x.1 (21 + 8 * s) k + ((if k = (l + 1) ∨ k = (l + 2) then (-1 : Int32) else 0) + _)
      by_cases e : k = l
      · rw [if_pos e, if_neg (by omega), if_pos (by omega), e]; rfl
      · by_cases e2 : k = (l + 1) ∨ k = (l + 2)
        · rw [if_neg e, if_pos e2, if_pos (by omega)]; exact i0 (by decide)
        · rw [if_neg e, if_neg e2, if_neg (by omega)]; exact i0 (by decide)), (by
      rw [ldS_5, pS_5, z1, z2, sm_p2 (by omega) (by omega) (by omega)]
      exact i3 (by decide)), fun i _ => by rw [ldS_22, pS_g (by omega)], fun i _ => by rw [ldS_23, pS_g (by omega)], (fun j i h0 h1 => by
      rw [lys_62, giv_o (by omega), giv_o (by omega)]
      by_cases e : j = s ∧ i = q
      · rw [if_pos e, if_pos (by rw [e.1, e.2])]
      · rw [if_neg e, if_neg (by omega)]), (fun j i h0 h1 => by
      rw [lys_63, giv_o (by omega), giv_o (by omega)]
      by_cases e : j = s ∧ i = q
      · rw [if_pos e, if_pos (by rw [e.1, e.2])]
      · rw [if_neg e, if_neg (by omega)])⟩
theorem lay_run1 {x m : zM} {s l q : Nat} (hs : s < 4) (hl : l + 2 < 34) (hq : q ≤ 3) : LAY x m (ldS (pS x s (l + 1) 1) s 0 l q) (z_lys (z_giv (z_giv m s l (-1)) s (l + 2) (-1)) s q 0 (nI l)) s q l 0 (fun j => if j = l ∨ j = (l + 2) then (-1 : Int32) else 0) := by
  have z1 : zl 0 = 2 := by decide
  have z2 : se 0 = 1 := by decide
  exact ⟨fun r k h1 h2 h3 h4 h5 => by rw [ldS_o ⟨h1, h2, h4, h5⟩, pS_g (by omega)], rfl, fun r k h1 h2 h3 h4 => by rw [lys_o ⟨h2, h3, h4⟩, giv_o (by omega), giv_o (by omega)], rfl, ldS_4, lys_64s, fun j e => by rw [lys_64o e, giv_o (by omega), giv_o (by omega)], (fun k h1 => by
      rw [ldS_20, pS_20, z1, z2]
      show _ = x.1 (20 + 8 * s) k + (if k = l ∨ k = (l + 2) then (-1 : Int32) else 0)
      by_cases e : k = (l + 1)
      · rw [if_pos (by omega), if_pos e, if_neg (by omega), e, Int32.add_zero]; exact (i3 (by decide)).trans (Int32.add_zero _)
      · by_cases e2 : k = l ∨ k = (l + 2)
        · rw [if_pos (by omega), if_neg e, if_pos e2]; exact i2 (by decide)
        · rw [if_neg (by omega), if_neg e, if_neg e2, Int32.add_zero]), (fun k h1 => by
      rw [lys_o (by decide), giv_60, giv_60]
      show _ = m.1 60 (34 * s + k) + (if k = l ∨ k = (l + 2) then (-1 : Int32) else 0)
      by_cases e : k = (l + 2)
      · rw [if_pos (by rw [e]), if_neg (by omega), if_pos (Or.inr e)]
      · rw [if_neg (by omega)]
        by_cases e2 : k = l
        · rw [if_pos (by rw [e2]), if_pos (Or.inl e2)]
        · rw [if_neg (by omega), if_neg (by omega), Int32.add_zero]), fun j k h0 h1 e => by rw [lys_o (by decide), giv_60, giv_60, if_neg (by omega), if_neg (by omega)], (fun k h1 => by
      rw [ldS_21, pS_21, ct_r hl h1]
      show _ = x.1 (21 + 8 * s) k + ((if k = l ∨ k = (l + 2) then (-1 : Int32) else 0) + _)
      by_cases e : k = (l + 1)
      · rw [if_pos e, if_neg (by omega), if_pos (by omega), e]; rfl
      · by_cases e2 : k = l ∨ k = (l + 2)
        · rw [if_neg e, if_pos e2, if_pos (by omega)]; exact i0 (by decide)
        · rw [if_neg e, if_neg e2, if_neg (by omega)]; exact i0 (by decide)), (by
      rw [ldS_5, pS_5, z1, z2, sm_p2 (by omega) (by omega) (by omega)]
      exact i3 (by decide)), fun i _ => by rw [ldS_22, pS_g (by omega)], fun i _ => by rw [ldS_23, pS_g (by omega)], (fun j i h0 h1 => by
      rw [lys_62, giv_o (by omega), giv_o (by omega)]
      by_cases e : j = s ∧ i = q
      · rw [if_pos e, if_pos (by rw [e.1, e.2])]
      · rw [if_neg e, if_neg (by omega)]), (fun j i h0 h1 => by
      rw [lys_63, giv_o (by omega), giv_o (by omega)]
      by_cases e : j = s ∧ i = q
      · rw [if_pos e, if_pos (by rw [e.1, e.2])]
      · rw [if_neg e, if_neg (by omega)])⟩
theorem lay_run2 {x m : zM} {s l q : Nat} (hs : s < 4) (hl : l + 2 < 34) (hq : q ≤ 3) : LAY x m (ldS (pS x s (l + 2) 1) s 0 l q) (z_lys (z_giv (z_giv m s l (-1)) s (l + 1) (-1)) s q 0 (nI l)) s q l 0 (fun j => if j = l ∨ j = (l + 1) then (-1 : Int32) else 0) := by
  have z1 : zl 0 = 2 := by decide
  have z2 : se 0 = 1 := by decide
  exact ⟨fun r k h1 h2 h3 h4 h5 => by rw [ldS_o ⟨h1, h2, h4, h5⟩, pS_g (by omega)], rfl, fun r k h1 h2 h3 h4 => by rw [lys_o ⟨h2, h3, h4⟩, giv_o (by omega), giv_o (by omega)], rfl, ldS_4, lys_64s, fun j e => by rw [lys_64o e, giv_o (by omega), giv_o (by omega)], (fun k h1 => by
      rw [ldS_20, pS_20, z1, z2]
      show _ = x.1 (20 + 8 * s) k + (if k = l ∨ k = (l + 1) then (-1 : Int32) else 0)
      by_cases e : k = (l + 2)
      · rw [if_pos (by omega), if_pos e, if_neg (by omega), e, Int32.add_zero]; exact (i3 (by decide)).trans (Int32.add_zero _)
      · by_cases e2 : k = l ∨ k = (l + 1)
        · rw [if_pos (by omega), if_neg e, if_pos e2]; exact i2 (by decide)
        · rw [if_neg (by omega), if_neg e, if_neg e2, Int32.add_zero]), (fun k h1 => by
      rw [lys_o (by decide), giv_60, giv_60]
      show _ = m.1 60 (34 * s + k) + (if k = l ∨ k = (l + 1) then (-1 : Int32) else 0)
      by_cases e : k = (l + 1)
      · rw [if_pos (by rw [e]), if_neg (by omega), if_pos (Or.inr e)]
      · rw [if_neg (by omega)]
        by_cases e2 : k = l
        · rw [if_pos (by rw [e2]), if_pos (Or.inl e2)]
        · rw [if_neg (by omega), if_neg (by omega), Int32.add_zero]), fun j k h0 h1 e => by rw [lys_o (by decide), giv_60, giv_60, if_neg (by omega), if_neg (by omega)], (fun k h1 => by
      rw [ldS_21, pS_21, ct_r hl h1]
      show _ = x.1 (21 + 8 * s) k + ((if k = l ∨ k = (l + 1) then (-1 : Int32) else 0) + _)
      by_cases e : k = (l + 2)
      · rw [if_pos e, if_neg (by omega), if_pos (by omega), e]; rfl
      · by_cases e2 : k = l ∨ k = (l + 1)
        · rw [if_neg e, if_pos e2, if_pos (by omega)]; exact i0 (by decide)
        · rw [if_neg e, if_neg e2, if_neg (by omega)]; exact i0 (by decide)), (by
      rw [ldS_5, pS_5, z1, z2, sm_p2 (by omega) (by omega) (by omega)]
      exact i3 (by decide)), fun i _ => by rw [ldS_22, pS_g (by omega)], fun i _ => by rw [ldS_23, pS_g (by omega)], (fun j i h0 h1 => by
      rw [lys_62, giv_o (by omega), giv_o (by omega)]
      by_cases e : j = s ∧ i = q
      · rw [if_pos e, if_pos (by rw [e.1, e.2])]
      · rw [if_neg e, if_neg (by omega)]), (fun j i h0 h1 => by
      rw [lys_63, giv_o (by omega), giv_o (by omega)]
      by_cases e : j = s ∧ i = q
      · rw [if_pos e, if_pos (by rw [e.1, e.2])]
      · rw [if_neg e, if_neg (by omega)])⟩
