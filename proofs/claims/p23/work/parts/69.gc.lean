/-! discard -/
theorem sR_add {μ μ' : zM} {a rr : Nat} (ha : a < 4) (hr : rr < 2 ^ 30) (e : μ.1 66 a = nI rr) (h : ∀ i, μ'.1 66 i = if i = a then nI (rr + 1) else μ.1 66 i) : sR μ' = sR μ + 1 := by
  have t0 := nI_toInt (n := rr) (by omega)
  have t1 := nI_toInt (n := rr + 1) (by omega)
  have ma : rI μ a = rr := by unfold rI; rw [e, t0]
  have ma' : rI μ' a = rr + 1 := by unfold rI; rw [h, if_pos rfl, t1]; omega
  have mo : ∀ i, i ≠ a → rI μ' i = rI μ i := fun i hi => by unfold rI; rw [h, if_neg hi]
  unfold sR
  rcases (show a = 0 ∨ a = 1 ∨ a = 2 ∨ a = 3 by omega) with rfl | rfl | rfl | rfl
  · rw [ma', ma, mo 1 (by decide), mo 2 (by decide), mo 3 (by decide)]; omega
  · rw [ma', ma, mo 0 (by decide), mo 2 (by decide), mo 3 (by decide)]; omega
  · rw [ma', ma, mo 0 (by decide), mo 1 (by decide), mo 3 (by decide)]; omega
  · rw [ma', ma, mo 0 (by decide), mo 1 (by decide), mo 2 (by decide)]; omega
/-- a river is short -/
theorem rv_nI {μ : zM} {a : Nat} (hP : GP μ) (hH : a_H μ) (ha : a < 4) (y1 : μ.1 50 44 = 1) : ∃ rr, rr < 100 ∧ μ.1 66 a = nI rr := by
  have g6 := hP.2.2.2.2.2
  rw [if_pos y1] at g6
  have b46 : (μ.1 50 46).toInt ≤ 122 := (hH 50 46).2
  have b48 : (μ.1 50 48).toInt ≤ 4 := (hH 50 48).2
  have m : ∀ s, mI μ s ≤ 4 := fun s => (hH 64 s).2
  have r : ∀ s, 0 ≤ rI μ s := fun s => (hH 66 s).1
  have m0 := m 0
  have m1 := m 1
  have m2 := m 2
  have m3 := m 3
  have r0 := r 0
  have r1 := r 1
  have r2 := r 2
  have r3 := r 3
  unfold sM sR at g6
  have hb : rI μ a < 100 := by
    rcases (show a = 0 ∨ a = 1 ∨ a = 2 ∨ a = 3 by omega) with rfl | rfl | rfl | rfl <;> omega
  exact a_nI (x := μ.1 66 a) (n := 100) (r a) hb (by decide)
theorem GP_disc {μ0 μ' : zM} {a cc rr : Nat} (hP : GP μ0) (hH : a_H μ0) (ha : a < 4) (hcc : cc < 34) (hrr : rr < 100) (y1 : μ0.1 50 44 = 1) (ea : μ0.1 50 45 = nI a) (h1 : 1 ≤ hI μ0 (34 * a + cc)) (er : μ0.1 66 a = nI rr) (e60 : ∀ j, μ'.1 60 j = if j = 34 * a + cc then μ0.1 60 j + (-1) else μ0.1 60 j) (r64 : ∀ j, μ'.1 64 j = μ0.1 64 j) (r66 : ∀ j, μ'.1 66 j = if j = a then nI (rr + 1) else μ0.1 66 j) (e44 : μ'.1 50 44 = 2) (e49 : μ'.1 50 49 = nI cc) (c46 : μ'.1 50 46 = μ0.1 50 46) (c47 : μ'.1 50 47 = μ0.1 50 47) (c48 : μ'.1 50 48 = μ0.1 50 48) : GP μ' := by
  obtain ⟨g1, g2, g3, g4, g5, g6⟩ := hP
  rw [if_pos y1] at g6
  have ll : ∀ s, s < 4 → glim μ0 s ≤ 14 := fun s _ => by unfold glim; split <;> decide
  have em : ∀ s, mI μ' s = mI μ0 s := fun s => by unfold mI; rw [r64]
  have eM : sM μ' = sM μ0 := by unfold sM; simp only [em]
  have eR := sR_add ha (by omega) er r66
  have hr := HR_of g1 ll (fun s _ => mI_nn hH s) ha hcc (n := -1) (by decide) e60
  have hr : HR μ0 μ' a cc (-1) := hr
  have n1 := g1.2 a ha
  have l3 : glim μ0 a = 14 := by unfold glim; rw [if_pos ⟨y1, ea⟩]
  have lim' : ∀ s, glim μ' s = 13 := fun s => by unfold glim; rw [if_neg (fun z => absurd (e44.symm.trans z.1) (by decide))]
  refine ⟨g1.upd hr ha hcc (by omega) (fun s _ _ => em s) (by rw [lim', em]; omega) (fun s hs4 hs => ?_), by rw [c46, c47]; exact g2, by rw [c48, c47]; exact g3, fun z => absurd (e44.symm.trans z) (by decide), fun _ => by rw [e49, nI_toInt (by omega)]; omega, ?_⟩
  · rw [lim']
    unfold glim
    rw [if_neg (fun z => hs ((nI_eq (by omega) (by omega)).mp (z.2.symm.trans ea)))]
    exact Int.le_refl _
  · rw [if_neg (by rw [e44]; decide), eR, eM, c46, c48]
    omega
theorem b01_bI {x : Int32} (h : bI 0 1 x) : z_b01 x = true := by
  obtain ⟨t, ht, rfl⟩ := a_nI (x := x) (n := 2) h.1 (by have := h.2; omega) (by decide)
  rcases (show t = 0 ∨ t = 1 by omega) with rfl | rfl <;> decide
theorem nI_136 (a q : Nat) : (136 : Int32) * nI a + nI q = nI (136 * a + q) := by
  rw [show (136 : Int32) = nI 136 from rfl, nI_ml, nI_add]
theorem i_11 : (-1 : Int32) + 1 = 0 := by rw [Int32.add_comm, ← Int32.sub_eq_add_neg, Int32.sub_self]
