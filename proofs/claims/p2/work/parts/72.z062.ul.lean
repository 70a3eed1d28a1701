/-! within a hand: laying down, drawing -/
set_option maxRecDepth 8000
theorem TC.lay {x m x' m' : zM} {f g : Nat → Nat} {s : Nat} (h : TC x m f) (hs : s < 4) (h1 : ∀ j k, j < 4 → k < 34 → j ≠ s → x'.1 (21 + 8 * j) k = x.1 (21 + 8 * j) k) {d : Nat → Nat} (hd : ∀ k, k < 34 → x'.1 (21 + 8 * s) k = x.1 (21 + 8 * s) k + nI (d k)) (hf : ∀ k, k < 34 → d k + g k ≤ f k) (h2 : ∀ i, m'.1 59 i = m.1 59 i) (h3 : m'.1 50 46 = m.1 50 46) (h4 : m'.1 50 48 = m.1 50 48) : TC x' m' g := h.elim fun a z => by
  refine ⟨fun j k => if j = s then a j k + d k else a j k, fun j k hj hk => ?_, fun k hk => ?_⟩
  · by_cases e : j = s
    · subst e; rw [hd k hk, z.1 j k hj hk, nI_add]; simp only [if_true]
    · rw [h1 j k hj hk e, z.1 j k hj hk]; simp only [e, if_false]
  · rw [fW_cg h2, h3, h4]
    have y := z.2 k hk
    have w := sum4 (a := fun j => a j k) (b := fun j => if j = s then a j k + d k else a j k) hs (fun j _ e => by rw [if_neg e])
    simp only [if_true] at w
    have v := hf k hk
    dsimp only
    omega
theorem rq_lay {x m x' m' : zM} {s q a c : Nat} {so : Int32} {dt : Nat → Int32} (Q : RQ x m c) (A : LAY x m x' m' s q a so dt) (hs : s < 4) (h56 : m.1 50 56 = 0) (hxa : ∀ k, k < 34 → dt k + ct so (nI a) (nI k) = nI (if k = c then 1 else 0)) : RQ x' m' 34 ∧ x'.1 2 3 = x.1 2 3 ∧ m'.1 50 47 = m.1 50 47 := by
  have e56 : m'.1 50 56 = 0 := (A.fm _ _ (by omega) (by omega) (by omega) (by omega)).trans h56
  refine ⟨⟨(by rw [A.fx _ _ (by omega) (by omega) (by omega) (by omega) (by omega), e56, Q.br, h56]), fun z => absurd e56 z, fun j h0 => by rw [A.fx _ _ (by omega) (by omega) (by omega) (by omega) (by omega)]; exact Q.ow j h0, (by rw [A.fm _ _ (by omega) (by omega) (by omega) (by omega)]; exact Q.o1), (by rw [A.fm _ _ (by omega) (by omega) (by omega) (by omega)]; exact Q.is), fun j h0 => by rw [A.fm _ _ (by omega) (by omega) (by omega) (by omega)]; exact Q.s1 j h0, (by rw [A.fm _ _ (by omega) (by omega) (by omega) (by omega)]; exact Q.w0), DNm.cg (m := m) Q.dn (fun j h => A.fm _ _ (by omega) (by omega) (by omega) (by omega)) (A.fm _ _ (by omega) (by omega) (by omega) (by omega)) (A.fm _ _ (by omega) (by omega) (by omega) (by omega)) (A.fm _ _ (by omega) (by omega) (by omega) (by omega)), fun z => absurd e56 z, (Q.tc.lay hs (fun j k _ _ e => A.fx _ _ (by omega) (by omega) (by omega) (by omega) (by omega)) (d := fun k => if k = c then 1 else 0) (fun k hk => by rw [A.xa k hk, hxa k hk]) (fun k hk => by
      simp only [show ¬ 34 = k by omega, if_false]
      by_cases e : k = c
      · rw [if_pos e, if_pos e.symm]; exact Nat.le_refl _
      · rw [if_neg e]; exact Nat.zero_le _) (fun i => A.fm _ _ (by omega) (by omega) (by omega) (by omega)) (A.fm _ _ (by omega) (by omega) (by omega) (by omega)) (A.fm _ _ (by omega) (by omega) (by omega) (by omega)))⟩, A.fx _ _ (by omega) (by omega) (by omega) (by omega) (by omega), A.fm _ _ (by omega) (by omega) (by omega) (by omega)⟩
theorem rq_hide {x m x' m' : zM} {s q a c : Nat} {so : Int32} {dt : Nat → Int32} (P : RPh x m 1 s c) (A : LAY x m x' m' s q a so dt) (hxa : ∀ k, k < 34 → dt k + ct so (nI a) (nI k) = 0) : RQ (bkH x') (toM m') 34 ∧ (bkH x').1 2 3 = x.1 2 3 ∧ (toM m').1 50 47 = m.1 50 47 := by
  have hs := P.t4
  have h59 := P.o1 (by decide)
  have e56 : (toM m').1 50 56 = 0 := by unfold toM; simp (disch := omega) only [ui_s, uj_s, ui_o, ui_k, uj_o, uj_k, ui_j, uj_i]
  have X : ∀ r k, r ≠ 19 + 8 * s → r ≠ 20 + 8 * s → r ≠ 21 + 8 * s → r ≠ 22 + 8 * s → r ≠ 23 + 8 * s → k ≠ 7 → k ≠ 17 → (bkH x').1 r k = x.1 r k := fun r k h1 h2 h3 h4 h5 h6 h7 => (bkH_o ⟨h6, h7⟩).trans (A.fx r k h1 h2 h3 h4 h5)
  have M : ∀ r k, r ≠ 60 → r ≠ 62 → r ≠ 63 → r ≠ 64 → r ≠ 69 → (r ≠ 50 ∨ k ≠ 56) → (toM m').1 r k = m.1 r k := fun r k h1 h2 h3 h4 h5 h6 => (toM_o ⟨h5, h6⟩).trans (A.fm r k h1 h2 h3 h4)
  refine ⟨⟨(by rw [e56]; unfold bkH; simp (disch := omega) only [ui_s, uj_s, ui_o, ui_k, uj_o, uj_k, ui_j, uj_i]; rfl), fun z => absurd e56 z, fun j h0 => by rw [X _ _ (by omega) (by omega) (by omega) (by omega) (by omega) (by omega) (by omega)]; have z := P.ow j h0; rw [h59] at z; rw [z]; split <;> rfl, (by rw [M _ _ (by omega) (by omega) (by omega) (by omega) (by omega) (by omega)]; exact h59), (by rw [M _ _ (by omega) (by omega) (by omega) (by omega) (by omega) (by omega)]; exact P.is), fun j h0 => by rw [M _ _ (by omega) (by omega) (by omega) (by omega) (by omega) (by omega)]; exact P.s1 rfl j h0, (by rw [M _ _ (by omega) (by omega) (by omega) (by omega) (by omega) (by omega)]; exact P.w0), DNm.cg (m := m) P.dn (fun j h => M _ _ (by omega) (by omega) (by omega) (by omega) (by omega) (by omega)) (M _ _ (by omega) (by omega) (by omega) (by omega) (by omega) (by omega)) (M _ _ (by omega) (by omega) (by omega) (by omega) (by omega) (by omega)) (M _ _ (by omega) (by omega) (by omega) (by omega) (by omega) (by omega)), fun z => absurd e56 z, TC.lay (x := x) (m := m) (f := fun _ => 0) (P.tc.elim fun a z => ⟨a, z.1, fun k hk => by have y := z.2 k hk; dsimp only; omega⟩) hs (fun j k _ _ e => (bkH_r (by omega)).trans (A.fx _ _ (by omega) (by omega) (by omega) (by omega) (by omega))) (d := fun _ => 0) (fun k hk => by rw [bkH_r (by omega), A.xa k hk, hxa k hk]; rfl) (fun k hk => by simp only [show ¬ 34 = k by omega, if_false]; omega) (fun i => M _ _ (by omega) (by omega) (by omega) (by omega) (by omega) (by omega)) (M _ _ (by omega) (by omega) (by omega) (by omega) (by omega) (by omega)) (M _ _ (by omega) (by omega) (by omega) (by omega) (by omega) (by omega))⟩, X _ _ (by omega) (by omega) (by omega) (by omega) (by omega) (by omega) (by omega), M _ _ (by omega) (by omega) (by omega) (by omega) (by omega) (by omega)⟩
theorem cW_up {f : Nat → Int32} {a n k v : Nat} (hv : v < 34) (hk : k < 34) (hf : f (a + n) = nI v) : cW f a k (n + 1) = cW f a k n + (if k = v then 1 else 0) := cW_s hv hk hf
theorem nI_ne1 {n : Nat} (h1 : 1 ≤ n) (h2 : n < 1000) : ¬ nI n + 1 = 1 := by
  rw [nI_s1, show (1 : Int32) = nI 1 from rfl, nI_eq (by omega) (by omega)]
  omega
theorem rp_draw0 {x m : zM} (R : RCl x m) (Q : RQ x m 34) {t n k : Nat} (ht : t < 4) (hk : k < 34) (hn : m.1 50 46 = nI n) (hn2 : n < 122) (hbk : bI 0 4 (m.1 50 48)) (hw : m.1 59 n = nI k) (hfo : x.1 2 3 = m.1 50 47) (hh : ¬ m.1 60 (34 * t + k) = -1) : RPh (dT0 x t n k) (dM0 m t n k) 1 t k := by
  have e5 := R.be t ht
  have hne : ¬ k = 34 := by omega
  have hnI : (nI n).toInt = (n : Int) := nI_toInt (by omega)
  have hnI1 : (nI (n + 1)).toInt = ((n + 1 : Nat) : Int) := nI_toInt (by omega)
  unfold dT0 dM0 pS z_giv
  rw [e5]
  cases hb : decide (m.1 67 t = 0) with
  | true =>
    rw [cond_true, cond_true]
    exact ⟨(by simp (disch := omega) only [ui_s, uj_s, ui_o, ui_k, uj_o, uj_k, ui_j, uj_i]; exact hfo), (by simp (disch := omega) only [ui_s, uj_s, ui_o, ui_k, uj_o, uj_k, ui_j, uj_i]; rfl), (by simp (disch := omega) only [ui_s, uj_s, ui_o, ui_k, uj_o, uj_k, ui_j, uj_i]; rfl), (by simp (disch := omega) only [ui_s, uj_s, ui_o, ui_k, uj_o, uj_k, ui_j, uj_i]), (by simp (disch := omega) only [ui_s, uj_s, ui_o, ui_k, uj_o, uj_k, ui_j, uj_i]), ht, Or.inl rfl, (by simp (disch := omega) only [ui_s, uj_s, ui_o, ui_k, uj_o, uj_k, ui_j, uj_i]; rw [if_neg hne]), (by simp (disch := omega) only [ui_s, uj_s, ui_o, ui_k, uj_o, uj_k, ui_j, uj_i]; rw [if_neg hne]), Or.inl hk, fun _ => by simp (disch := omega) only [ui_s, uj_s, ui_o, ui_k, uj_o, uj_k, ui_j, uj_i]; rw [if_neg hne], (by simp (disch := omega) only [ui_s, uj_s, ui_o, ui_k, uj_o, uj_k, ui_j, uj_i]; exact Q.br), (by simp (disch := omega) only [ui_s, uj_s, ui_o, ui_k, uj_o, uj_k, ui_j, uj_i]; exact Q.us), fun _ _ => by simp (disch := omega) only [ui_s, uj_s, ui_o, ui_k, uj_o, uj_k, ui_j, uj_i], fun _ => by unfold barM; simp (disch := omega) only [ui_s, uj_s, ui_o, ui_k, uj_o, uj_k, ui_j, uj_i]; rfl, fun _ e => absurd e (by omega), fun _ _ => by simp (disch := omega) only [ui_s, uj_s, ui_o, ui_k, uj_o, uj_k, ui_j, uj_i]; exact v1_ne hh, fun z => absurd z (by decide), fun s h0 => by simp (disch := omega) only [ui_s, uj_s, ui_o, ui_k, uj_o, uj_k, ui_j, uj_i]; rw [Q.ow s h0, Q.o1]; split <;> rfl, fun _ => by simp (disch := omega) only [ui_s, uj_s, ui_o, ui_k, uj_o, uj_k, ui_j, uj_i]; exact Q.o1, (by simp (disch := omega) only [ui_s, uj_s, ui_o, ui_k, uj_o, uj_k, ui_j, uj_i]; exact Q.is), (by simp (disch := omega) only [ui_s, uj_s, ui_o, ui_k, uj_o, uj_k, ui_j, uj_i]; exact Q.s1 t ht), fun _ s h0 => by simp (disch := omega) only [ui_s, uj_s, ui_o, ui_k, uj_o, uj_k, ui_j, uj_i]; exact Q.s1 s h0, (by simp (disch := omega) only [ui_s, uj_s, ui_o, ui_k, uj_o, uj_k, ui_j, uj_i]; exact Q.w0), (fun s h0 => by
        obtain ⟨n0, q1, q2, q3⟩ := Q.dn s h0
        rw [hn, hnI] at q2
        by_cases e : s = t
        · subst e
          refine ⟨n0 + 1, ?_, ?_, ?_⟩
          · simp (disch := omega) only [ui_s, uj_s, ui_o, ui_k, uj_o, uj_k, ui_j, uj_i]; rw [q1, nI_s1]
          · simp (disch := omega) only [ui_s, uj_s, ui_o, ui_k, uj_o, uj_k, ui_j, uj_i]; rw [hnI1]; omega
          · simp (disch := omega) only [ui_s, uj_s, ui_o, ui_k, uj_o, uj_k, ui_j, uj_i]; intro _; omega
        · refine ⟨n0, ?_, ?_, ?_⟩
          · simp (disch := omega) only [ui_s, uj_s, ui_o, ui_k, uj_o, uj_k, ui_j, uj_i]; exact q1
          · simp (disch := omega) only [ui_s, uj_s, ui_o, ui_k, uj_o, uj_k, ui_j, uj_i]; rw [hnI1]; omega
          · simp (disch := omega) only [ui_s, uj_s, ui_o, ui_k, uj_o, uj_k, ui_j, uj_i]; exact q3), (fun z s h0 => by
        simp (disch := omega) only [ui_s, uj_s, ui_o, ui_k, uj_o, uj_k, ui_j, uj_i] at z
        have y := Q.dr z s h0
        by_cases e : s = t
        · subst e
          rw [if_pos ⟨rfl, rfl⟩]
          simp (disch := omega) only [ui_s, uj_s, ui_o, ui_k, uj_o, uj_k, ui_j, uj_i]
          rw [y]
        · rw [if_neg (fun z => e z.2)]
          simp (disch := omega) only [ui_s, uj_s, ui_o, ui_k, uj_o, uj_k, ui_j, uj_i]
          exact y), (fun z _ z3 _ => by
        simp (disch := omega) only [ui_s, uj_s, ui_o, ui_k, uj_o, uj_k, ui_j, uj_i] at z3 ⊢
        obtain ⟨n0, q1, q2, q3⟩ := Q.dn t ht
        rw [hn, hnI] at q2
        rw [q1]
        exact nI_ne1 (q3 z3) (by have := hbk.2; omega)), (Q.tc.elim fun a z => by
        refine ⟨fun s k2 => if s = t ∧ k2 = k then a s k2 + 1 else a s k2, fun s k2 h0 h2 => ?_, fun k2 h2 => ?_⟩
        · by_cases e : s = t
          · subst e
            by_cases e2 : k2 = k
            · subst e2; simp (disch := omega) only [ui_s, uj_s, ui_o, ui_k, uj_o, uj_k, ui_j, uj_i]; rw [z.1 s k2 h0 h2]; simp only [and_self, if_true]; exact nI_s1 _
            · simp (disch := omega) only [ui_s, uj_s, ui_o, ui_k, uj_o, uj_k, ui_j, uj_i]; rw [if_neg (by omega)]; exact z.1 s k2 h0 h2
          · simp (disch := omega) only [ui_s, uj_s, ui_o, ui_k, uj_o, uj_k, ui_j, uj_i]; rw [if_neg (by omega)]; exact z.1 s k2 h0 h2
        · have y := z.2 k2 h2
          simp only [show ¬ 34 = k2 by omega, if_false] at y
          rw [if_neg (by omega), fW_cg (m := m) (fun i => by simp (disch := omega) only [ui_s, uj_s, ui_o, ui_k, uj_o, uj_k, ui_j, uj_i])]
          simp (disch := omega) only [ui_s, uj_s, ui_o, ui_k, uj_o, uj_k, ui_j, uj_i]
          rw [hn, nI_clamp (by omega)] at y
          rw [nI_clamp (by omega), cW_up (f := fW m) (a := 0) (v := k) hk h2 (by rw [Nat.zero_add]; exact hw)]
          have w := sum4 (a := fun s => a s k2) (b := fun s => if s = t ∧ k2 = k then a s k2 + 1 else a s k2) ht (fun s _ e => by rw [if_neg (by omega)])
          by_cases e : k2 = k
          · subst e
            simp only [and_true, if_true] at w ⊢
            omega
          · simp only [e, and_false, if_false] at w ⊢
            omega)⟩
  | false =>
    rw [cond_false, cond_false]
    exact ⟨(by simp (disch := omega) only [ui_s, uj_s, ui_o, ui_k, uj_o, uj_k, ui_j, uj_i]; exact hfo), (by simp (disch := omega) only [ui_s, uj_s, ui_o, ui_k, uj_o, uj_k, ui_j, uj_i]; rfl), (by simp (disch := omega) only [ui_s, uj_s, ui_o, ui_k, uj_o, uj_k, ui_j, uj_i]; rfl), (by simp (disch := omega) only [ui_s, uj_s, ui_o, ui_k, uj_o, uj_k, ui_j, uj_i]), (by simp (disch := omega) only [ui_s, uj_s, ui_o, ui_k, uj_o, uj_k, ui_j, uj_i]), ht, Or.inl rfl, (by simp (disch := omega) only [ui_s, uj_s, ui_o, ui_k, uj_o, uj_k, ui_j, uj_i]; rw [if_neg hne]), (by simp (disch := omega) only [ui_s, uj_s, ui_o, ui_k, uj_o, uj_k, ui_j, uj_i]; rw [if_neg hne]), Or.inl hk, fun _ => by simp (disch := omega) only [ui_s, uj_s, ui_o, ui_k, uj_o, uj_k, ui_j, uj_i]; rw [if_neg hne], (by simp (disch := omega) only [ui_s, uj_s, ui_o, ui_k, uj_o, uj_k, ui_j, uj_i]; exact Q.br), (by simp (disch := omega) only [ui_s, uj_s, ui_o, ui_k, uj_o, uj_k, ui_j, uj_i]; exact Q.us), fun _ _ => by simp (disch := omega) only [ui_s, uj_s, ui_o, ui_k, uj_o, uj_k, ui_j, uj_i], fun _ => by unfold barM; simp (disch := omega) only [ui_s, uj_s, ui_o, ui_k, uj_o, uj_k, ui_j, uj_i]; rfl, fun _ e => absurd e (by omega), fun _ _ => by simp (disch := omega) only [ui_s, uj_s, ui_o, ui_k, uj_o, uj_k, ui_j, uj_i]; exact v1_ne hh, fun z => absurd z (by decide), fun s h0 => by simp (disch := omega) only [ui_s, uj_s, ui_o, ui_k, uj_o, uj_k, ui_j, uj_i]; rw [Q.ow s h0, Q.o1]; split <;> rfl, fun _ => by simp (disch := omega) only [ui_s, uj_s, ui_o, ui_k, uj_o, uj_k, ui_j, uj_i]; exact Q.o1, (by simp (disch := omega) only [ui_s, uj_s, ui_o, ui_k, uj_o, uj_k, ui_j, uj_i]; exact Q.is), (by simp (disch := omega) only [ui_s, uj_s, ui_o, ui_k, uj_o, uj_k, ui_j, uj_i]; exact Q.s1 t ht), fun _ s h0 => by simp (disch := omega) only [ui_s, uj_s, ui_o, ui_k, uj_o, uj_k, ui_j, uj_i]; exact Q.s1 s h0, (by simp (disch := omega) only [ui_s, uj_s, ui_o, ui_k, uj_o, uj_k, ui_j, uj_i]; exact Q.w0), (fun s h0 => by
        obtain ⟨n0, q1, q2, q3⟩ := Q.dn s h0
        rw [hn, hnI] at q2
        by_cases e : s = t
        · subst e
          refine ⟨n0 + 1, ?_, ?_, ?_⟩
          · simp (disch := omega) only [ui_s, uj_s, ui_o, ui_k, uj_o, uj_k, ui_j, uj_i]; rw [q1, nI_s1]
          · simp (disch := omega) only [ui_s, uj_s, ui_o, ui_k, uj_o, uj_k, ui_j, uj_i]; rw [hnI1]; omega
          · simp (disch := omega) only [ui_s, uj_s, ui_o, ui_k, uj_o, uj_k, ui_j, uj_i]; intro _; omega
        · refine ⟨n0, ?_, ?_, ?_⟩
          · simp (disch := omega) only [ui_s, uj_s, ui_o, ui_k, uj_o, uj_k, ui_j, uj_i]; exact q1
          · simp (disch := omega) only [ui_s, uj_s, ui_o, ui_k, uj_o, uj_k, ui_j, uj_i]; rw [hnI1]; omega
          · simp (disch := omega) only [ui_s, uj_s, ui_o, ui_k, uj_o, uj_k, ui_j, uj_i]; exact q3), (fun z s h0 => by
        simp (disch := omega) only [ui_s, uj_s, ui_o, ui_k, uj_o, uj_k, ui_j, uj_i] at z
        have y := Q.dr z s h0
        by_cases e : s = t
        · subst e
          rw [if_pos ⟨rfl, rfl⟩]
          simp (disch := omega) only [ui_s, uj_s, ui_o, ui_k, uj_o, uj_k, ui_j, uj_i]
          rw [y]
        · rw [if_neg (fun z => e z.2)]
          simp (disch := omega) only [ui_s, uj_s, ui_o, ui_k, uj_o, uj_k, ui_j, uj_i]
          exact y), (fun z _ z3 _ => by
        simp (disch := omega) only [ui_s, uj_s, ui_o, ui_k, uj_o, uj_k, ui_j, uj_i] at z3 ⊢
        obtain ⟨n0, q1, q2, q3⟩ := Q.dn t ht
        rw [hn, hnI] at q2
        rw [q1]
        exact nI_ne1 (q3 z3) (by have := hbk.2; omega)), (Q.tc.elim fun a z => by
        refine ⟨fun s k2 => if s = t ∧ k2 = k then a s k2 + 1 else a s k2, fun s k2 h0 h2 => ?_, fun k2 h2 => ?_⟩
        · by_cases e : s = t
          · subst e
            by_cases e2 : k2 = k
            · subst e2; simp (disch := omega) only [ui_s, uj_s, ui_o, ui_k, uj_o, uj_k, ui_j, uj_i]; rw [z.1 s k2 h0 h2]; simp only [and_self, if_true]; exact nI_s1 _
            · simp (disch := omega) only [ui_s, uj_s, ui_o, ui_k, uj_o, uj_k, ui_j, uj_i]; rw [if_neg (by omega)]; exact z.1 s k2 h0 h2
          · simp (disch := omega) only [ui_s, uj_s, ui_o, ui_k, uj_o, uj_k, ui_j, uj_i]; rw [if_neg (by omega)]; exact z.1 s k2 h0 h2
        · have y := z.2 k2 h2
          simp only [show ¬ 34 = k2 by omega, if_false] at y
          rw [if_neg (by omega), fW_cg (m := m) (fun i => by simp (disch := omega) only [ui_s, uj_s, ui_o, ui_k, uj_o, uj_k, ui_j, uj_i])]
          simp (disch := omega) only [ui_s, uj_s, ui_o, ui_k, uj_o, uj_k, ui_j, uj_i]
          rw [hn, nI_clamp (by omega)] at y
          rw [nI_clamp (by omega), cW_up (f := fW m) (a := 0) (v := k) hk h2 (by rw [Nat.zero_add]; exact hw)]
          have w := sum4 (a := fun s => a s k2) (b := fun s => if s = t ∧ k2 = k then a s k2 + 1 else a s k2) ht (fun s _ e => by rw [if_neg (by omega)])
          by_cases e : k2 = k
          · subst e
            simp only [and_true, if_true] at w ⊢
            omega
          · simp only [e, and_false, if_false] at w ⊢
            omega)⟩
theorem rp_draw1 {x m : zM} (R : RCl x m) (Q : RQ x m 34) {t n k : Nat} (ht : t < 4) (hk : k < 34) (hn : m.1 50 48 = nI n) (hn2 : n < 4) (hnx : bI 0 122 (m.1 50 46)) (hw : m.1 59 (122 + n) = nI k) (h47 : m.1 50 47 = nI (n + 1)) (hh : ¬ m.1 60 (34 * t + k) = -1) : RPh (dT1 x t n k) (dM1 m t n k) 1 t k := by
  have e5 := R.be t ht
  have hne : ¬ k = 34 := by omega
  have hnI : (nI n).toInt = (n : Int) := nI_toInt (by omega)
  have hnI1 : (nI (n + 1)).toInt = ((n + 1 : Nat) : Int) := nI_toInt (by omega)
  unfold dT1 dM1 pS z_giv
  rw [e5]
  cases hb : decide (m.1 67 t = 0) with
  | true =>
    rw [cond_true, cond_true]
    exact ⟨(by simp (disch := omega) only [ui_s, uj_s, ui_o, ui_k, uj_o, uj_k, ui_j, uj_i]; exact h47.symm), (by simp (disch := omega) only [ui_s, uj_s, ui_o, ui_k, uj_o, uj_k, ui_j, uj_i]; rfl), (by simp (disch := omega) only [ui_s, uj_s, ui_o, ui_k, uj_o, uj_k, ui_j, uj_i]; rfl), (by simp (disch := omega) only [ui_s, uj_s, ui_o, ui_k, uj_o, uj_k, ui_j, uj_i]), (by simp (disch := omega) only [ui_s, uj_s, ui_o, ui_k, uj_o, uj_k, ui_j, uj_i]), ht, Or.inl rfl, (by simp (disch := omega) only [ui_s, uj_s, ui_o, ui_k, uj_o, uj_k, ui_j, uj_i]; rw [if_neg hne]), (by simp (disch := omega) only [ui_s, uj_s, ui_o, ui_k, uj_o, uj_k, ui_j, uj_i]; rw [if_neg hne]), Or.inl hk, fun _ => by simp (disch := omega) only [ui_s, uj_s, ui_o, ui_k, uj_o, uj_k, ui_j, uj_i]; rw [if_neg hne], (by simp (disch := omega) only [ui_s, uj_s, ui_o, ui_k, uj_o, uj_k, ui_j, uj_i]; exact Q.br), (by simp (disch := omega) only [ui_s, uj_s, ui_o, ui_k, uj_o, uj_k, ui_j, uj_i]; exact Q.us), fun _ _ => by simp (disch := omega) only [ui_s, uj_s, ui_o, ui_k, uj_o, uj_k, ui_j, uj_i], fun _ => by unfold barM; simp (disch := omega) only [ui_s, uj_s, ui_o, ui_k, uj_o, uj_k, ui_j, uj_i]; rfl, fun _ e => absurd e (by omega), fun _ _ => by simp (disch := omega) only [ui_s, uj_s, ui_o, ui_k, uj_o, uj_k, ui_j, uj_i]; exact v1_ne hh, fun z => absurd z (by decide), fun s h0 => by simp (disch := omega) only [ui_s, uj_s, ui_o, ui_k, uj_o, uj_k, ui_j, uj_i]; rw [Q.ow s h0, Q.o1]; split <;> rfl, fun _ => by simp (disch := omega) only [ui_s, uj_s, ui_o, ui_k, uj_o, uj_k, ui_j, uj_i]; exact Q.o1, (by simp (disch := omega) only [ui_s, uj_s, ui_o, ui_k, uj_o, uj_k, ui_j, uj_i]; exact Q.is), (by simp (disch := omega) only [ui_s, uj_s, ui_o, ui_k, uj_o, uj_k, ui_j, uj_i]; exact Q.s1 t ht), fun _ s h0 => by simp (disch := omega) only [ui_s, uj_s, ui_o, ui_k, uj_o, uj_k, ui_j, uj_i]; exact Q.s1 s h0, (by simp (disch := omega) only [ui_s, uj_s, ui_o, ui_k, uj_o, uj_k, ui_j, uj_i]; exact Q.w0), (fun s h0 => by
        obtain ⟨n0, q1, q2, q3⟩ := Q.dn s h0
        rw [hn, hnI] at q2
        by_cases e : s = t
        · subst e
          refine ⟨n0 + 1, ?_, ?_, ?_⟩
          · simp (disch := omega) only [ui_s, uj_s, ui_o, ui_k, uj_o, uj_k, ui_j, uj_i]; rw [q1, nI_s1]
          · simp (disch := omega) only [ui_s, uj_s, ui_o, ui_k, uj_o, uj_k, ui_j, uj_i]; rw [hnI1]; omega
          · simp (disch := omega) only [ui_s, uj_s, ui_o, ui_k, uj_o, uj_k, ui_j, uj_i]; intro _; omega
        · refine ⟨n0, ?_, ?_, ?_⟩
          · simp (disch := omega) only [ui_s, uj_s, ui_o, ui_k, uj_o, uj_k, ui_j, uj_i]; exact q1
          · simp (disch := omega) only [ui_s, uj_s, ui_o, ui_k, uj_o, uj_k, ui_j, uj_i]; rw [hnI1]; omega
          · simp (disch := omega) only [ui_s, uj_s, ui_o, ui_k, uj_o, uj_k, ui_j, uj_i]; exact q3), (fun z s h0 => by
        simp (disch := omega) only [ui_s, uj_s, ui_o, ui_k, uj_o, uj_k, ui_j, uj_i] at z
        have y := Q.dr z s h0
        by_cases e : s = t
        · subst e
          rw [if_pos ⟨rfl, rfl⟩]
          simp (disch := omega) only [ui_s, uj_s, ui_o, ui_k, uj_o, uj_k, ui_j, uj_i]
          rw [y]
        · rw [if_neg (fun z => e z.2)]
          simp (disch := omega) only [ui_s, uj_s, ui_o, ui_k, uj_o, uj_k, ui_j, uj_i]
          exact y), (fun z _ z3 _ => by
        simp (disch := omega) only [ui_s, uj_s, ui_o, ui_k, uj_o, uj_k, ui_j, uj_i] at z3 ⊢
        obtain ⟨n0, q1, q2, q3⟩ := Q.dn t ht
        rw [hn, hnI] at q2
        rw [q1]
        exact nI_ne1 (q3 z3) (by have := hnx.2; omega)), (Q.tc.elim fun a z => by
        refine ⟨fun s k2 => if s = t ∧ k2 = k then a s k2 + 1 else a s k2, fun s k2 h0 h2 => ?_, fun k2 h2 => ?_⟩
        · by_cases e : s = t
          · subst e
            by_cases e2 : k2 = k
            · subst e2; simp (disch := omega) only [ui_s, uj_s, ui_o, ui_k, uj_o, uj_k, ui_j, uj_i]; rw [z.1 s k2 h0 h2]; simp only [and_self, if_true]; exact nI_s1 _
            · simp (disch := omega) only [ui_s, uj_s, ui_o, ui_k, uj_o, uj_k, ui_j, uj_i]; rw [if_neg (by omega)]; exact z.1 s k2 h0 h2
          · simp (disch := omega) only [ui_s, uj_s, ui_o, ui_k, uj_o, uj_k, ui_j, uj_i]; rw [if_neg (by omega)]; exact z.1 s k2 h0 h2
        · have y := z.2 k2 h2
          simp only [show ¬ 34 = k2 by omega, if_false] at y
          rw [if_neg (by omega), fW_cg (m := m) (fun i => by simp (disch := omega) only [ui_s, uj_s, ui_o, ui_k, uj_o, uj_k, ui_j, uj_i])]
          simp (disch := omega) only [ui_s, uj_s, ui_o, ui_k, uj_o, uj_k, ui_j, uj_i]
          rw [hn, nI_clamp (by omega)] at y
          rw [nI_clamp (by omega), cW_up (f := fW m) (a := 122) (v := k) hk h2 (hw)]
          have w := sum4 (a := fun s => a s k2) (b := fun s => if s = t ∧ k2 = k then a s k2 + 1 else a s k2) ht (fun s _ e => by rw [if_neg (by omega)])
          by_cases e : k2 = k
          · subst e
            simp only [and_true, if_true] at w ⊢
            omega
          · simp only [e, and_false, if_false] at w ⊢
            omega)⟩
  | false =>
    rw [cond_false, cond_false]
    exact ⟨(by simp (disch := omega) only [ui_s, uj_s, ui_o, ui_k, uj_o, uj_k, ui_j, uj_i]; exact h47.symm), (by simp (disch := omega) only [ui_s, uj_s, ui_o, ui_k, uj_o, uj_k, ui_j, uj_i]; rfl), (by simp (disch := omega) only [ui_s, uj_s, ui_o, ui_k, uj_o, uj_k, ui_j, uj_i]; rfl), (by simp (disch := omega) only [ui_s, uj_s, ui_o, ui_k, uj_o, uj_k, ui_j, uj_i]), (by simp (disch := omega) only [ui_s, uj_s, ui_o, ui_k, uj_o, uj_k, ui_j, uj_i]), ht, Or.inl rfl, (by simp (disch := omega) only [ui_s, uj_s, ui_o, ui_k, uj_o, uj_k, ui_j, uj_i]; rw [if_neg hne]), (by simp (disch := omega) only [ui_s, uj_s, ui_o, ui_k, uj_o, uj_k, ui_j, uj_i]; rw [if_neg hne]), Or.inl hk, fun _ => by simp (disch := omega) only [ui_s, uj_s, ui_o, ui_k, uj_o, uj_k, ui_j, uj_i]; rw [if_neg hne], (by simp (disch := omega) only [ui_s, uj_s, ui_o, ui_k, uj_o, uj_k, ui_j, uj_i]; exact Q.br), (by simp (disch := omega) only [ui_s, uj_s, ui_o, ui_k, uj_o, uj_k, ui_j, uj_i]; exact Q.us), fun _ _ => by simp (disch := omega) only [ui_s, uj_s, ui_o, ui_k, uj_o, uj_k, ui_j, uj_i], fun _ => by unfold barM; simp (disch := omega) only [ui_s, uj_s, ui_o, ui_k, uj_o, uj_k, ui_j, uj_i]; rfl, fun _ e => absurd e (by omega), fun _ _ => by simp (disch := omega) only [ui_s, uj_s, ui_o, ui_k, uj_o, uj_k, ui_j, uj_i]; exact v1_ne hh, fun z => absurd z (by decide), fun s h0 => by simp (disch := omega) only [ui_s, uj_s, ui_o, ui_k, uj_o, uj_k, ui_j, uj_i]; rw [Q.ow s h0, Q.o1]; split <;> rfl, fun _ => by simp (disch := omega) only [ui_s, uj_s, ui_o, ui_k, uj_o, uj_k, ui_j, uj_i]; exact Q.o1, (by simp (disch := omega) only [ui_s, uj_s, ui_o, ui_k, uj_o, uj_k, ui_j, uj_i]; exact Q.is), (by simp (disch := omega) only [ui_s, uj_s, ui_o, ui_k, uj_o, uj_k, ui_j, uj_i]; exact Q.s1 t ht), fun _ s h0 => by simp (disch := omega) only [ui_s, uj_s, ui_o, ui_k, uj_o, uj_k, ui_j, uj_i]; exact Q.s1 s h0, (by simp (disch := omega) only [ui_s, uj_s, ui_o, ui_k, uj_o, uj_k, ui_j, uj_i]; exact Q.w0), (fun s h0 => by
        obtain ⟨n0, q1, q2, q3⟩ := Q.dn s h0
        rw [hn, hnI] at q2
        by_cases e : s = t
        · subst e
          refine ⟨n0 + 1, ?_, ?_, ?_⟩
          · simp (disch := omega) only [ui_s, uj_s, ui_o, ui_k, uj_o, uj_k, ui_j, uj_i]; rw [q1, nI_s1]
          · simp (disch := omega) only [ui_s, uj_s, ui_o, ui_k, uj_o, uj_k, ui_j, uj_i]; rw [hnI1]; omega
          · simp (disch := omega) only [ui_s, uj_s, ui_o, ui_k, uj_o, uj_k, ui_j, uj_i]; intro _; omega
        · refine ⟨n0, ?_, ?_, ?_⟩
          · simp (disch := omega) only [ui_s, uj_s, ui_o, ui_k, uj_o, uj_k, ui_j, uj_i]; exact q1
          · simp (disch := omega) only [ui_s, uj_s, ui_o, ui_k, uj_o, uj_k, ui_j, uj_i]; rw [hnI1]; omega
          · simp (disch := omega) only [ui_s, uj_s, ui_o, ui_k, uj_o, uj_k, ui_j, uj_i]; exact q3), (fun z s h0 => by
        simp (disch := omega) only [ui_s, uj_s, ui_o, ui_k, uj_o, uj_k, ui_j, uj_i] at z
        have y := Q.dr z s h0
        by_cases e : s = t
        · subst e
          rw [if_pos ⟨rfl, rfl⟩]
          simp (disch := omega) only [ui_s, uj_s, ui_o, ui_k, uj_o, uj_k, ui_j, uj_i]
          rw [y]
        · rw [if_neg (fun z => e z.2)]
          simp (disch := omega) only [ui_s, uj_s, ui_o, ui_k, uj_o, uj_k, ui_j, uj_i]
          exact y), (fun z _ z3 _ => by
        simp (disch := omega) only [ui_s, uj_s, ui_o, ui_k, uj_o, uj_k, ui_j, uj_i] at z3 ⊢
        obtain ⟨n0, q1, q2, q3⟩ := Q.dn t ht
        rw [hn, hnI] at q2
        rw [q1]
        exact nI_ne1 (q3 z3) (by have := hnx.2; omega)), (Q.tc.elim fun a z => by
        refine ⟨fun s k2 => if s = t ∧ k2 = k then a s k2 + 1 else a s k2, fun s k2 h0 h2 => ?_, fun k2 h2 => ?_⟩
        · by_cases e : s = t
          · subst e
            by_cases e2 : k2 = k
            · subst e2; simp (disch := omega) only [ui_s, uj_s, ui_o, ui_k, uj_o, uj_k, ui_j, uj_i]; rw [z.1 s k2 h0 h2]; simp only [and_self, if_true]; exact nI_s1 _
            · simp (disch := omega) only [ui_s, uj_s, ui_o, ui_k, uj_o, uj_k, ui_j, uj_i]; rw [if_neg (by omega)]; exact z.1 s k2 h0 h2
          · simp (disch := omega) only [ui_s, uj_s, ui_o, ui_k, uj_o, uj_k, ui_j, uj_i]; rw [if_neg (by omega)]; exact z.1 s k2 h0 h2
        · have y := z.2 k2 h2
          simp only [show ¬ 34 = k2 by omega, if_false] at y
          rw [if_neg (by omega), fW_cg (m := m) (fun i => by simp (disch := omega) only [ui_s, uj_s, ui_o, ui_k, uj_o, uj_k, ui_j, uj_i])]
          simp (disch := omega) only [ui_s, uj_s, ui_o, ui_k, uj_o, uj_k, ui_j, uj_i]
          rw [hn, nI_clamp (by omega)] at y
          rw [nI_clamp (by omega), cW_up (f := fW m) (a := 122) (v := k) hk h2 (hw)]
          have w := sum4 (a := fun s => a s k2) (b := fun s => if s = t ∧ k2 = k then a s k2 + 1 else a s k2) ht (fun s _ e => by rw [if_neg (by omega)])
          by_cases e : k2 = k
          · subst e
            simp only [and_true, if_true] at w ⊢
            omega
          · simp only [e, and_false, if_false] at w ⊢
            omega)⟩
