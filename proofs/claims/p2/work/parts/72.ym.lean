/-! NINE GATES: both sides alike -/
set_option maxRecDepth 8000
theorem l3_n (a : Nat) (ha : a < 100) : decide (nI a < 3) = decide (a < 3) := by
  have : ∀ a, a < 100 → decide (nI a < 3) = decide (a < 3) := by decide +kernel
  exact this a ha
theorem l1_n (a : Nat) (ha : a < 100) : decide (nI a < 1) = decide (a < 1) := by
  have : ∀ a, a < 100 → decide (nI a < 1) = decide (a < 1) := by decide +kernel
  exact this a ha
/-- the nine of a suit -/
def cj (f : Nat → Int32) (s : Nat) : Bool := ((((((((!(decide (f s < 3))) && (!(decide (f (s + 1) < 1)))) && (!(decide (f (s + 2) < 1)))) && (!(decide (f (s + 3) < 1)))) && (!(decide (f (s + 4) < 1)))) && (!(decide (f (s + 5) < 1)))) && (!(decide (f (s + 6) < 1)))) && (!(decide (f (s + 7) < 1)))) && (!(decide (f (s + 8) < 3)))
theorem n40_1 (μ : zM) (t : T7) (h : t.2.2.2.2.2.2 = 1) : n40 μ t = (!t.2.2.2.1 && (decide (μ.1 50 4 = 0) && cj (μ.1 58) 0)) := by
  unfold n40
  rw [h]
  rfl
theorem n40_2 (μ : zM) (t : T7) (h : t.2.2.2.2.2.2 = 2) : n40 μ t = (!t.2.2.2.1 && (decide (μ.1 50 4 = 0) && cj (μ.1 58) 9)) := by
  unfold n40
  rw [h]
  rfl
theorem n40_4 (μ : zM) (t : T7) (h : t.2.2.2.2.2.2 = 4) : n40 μ t = (!t.2.2.2.1 && (decide (μ.1 50 4 = 0) && cj (μ.1 58) 18)) := by
  unfold n40
  rw [h]
  rfl
theorem n40_0 (μ : zM) (t : T7) (h : one7 t.2.2.2.2.2.2 = false) : n40 μ t = false := by
  have e : n40 μ t = (one7 t.2.2.2.2.2.2 && (n40 μ t)) := by
    unfold n40 one7
    generalize ((decide (t.2.2.2.2.2.2 = 1)) || ((decide (t.2.2.2.2.2.2 = 2)) || (decide (t.2.2.2.2.2.2 = 4)))) = x
    cases x
    · rfl
    · rw [Bool.true_and, Bool.true_and]
  rw [e, h]; rfl
theorem cj_t {f : Nat → Int32} {w : Nat → Nat} {s : Nat} (hs : s ≤ 18) (hf : ∀ j, j < 34 → f j = nI (w j)) (hw : ∀ j, j < 34 → w j < 100) : cj f s = true ↔ (3 ≤ w s ∧ 3 ≤ w (s + 8) ∧ ∀ j, s ≤ j → j < s + 9 → 0 < w j) := by
  unfold cj
  rw [hf s (by omega), hf (s + 1) (by omega), hf (s + 2) (by omega), hf (s + 3) (by omega), hf (s + 4) (by omega), hf (s + 5) (by omega), hf (s + 6) (by omega), hf (s + 7) (by omega), hf (s + 8) (by omega)]
  rw [l3_n _ (hw s (by omega)), l1_n _ (hw (s + 1) (by omega)), l1_n _ (hw (s + 2) (by omega)), l1_n _ (hw (s + 3) (by omega)), l1_n _ (hw (s + 4) (by omega)), l1_n _ (hw (s + 5) (by omega)), l1_n _ (hw (s + 6) (by omega)), l1_n _ (hw (s + 7) (by omega)), l3_n _ (hw (s + 8) (by omega))]
  simp only [Bool.and_eq_true, Bool.not_eq_true', decide_eq_false_iff_not]
  constructor
  · rintro ⟨⟨⟨⟨⟨⟨⟨⟨a0, a1⟩, a2⟩, a3⟩, a4⟩, a5⟩, a6⟩, a7⟩, a8⟩
    refine ⟨by omega, by omega, fun j h1 h2 => ?_⟩
    have : j = s ∨ j = s + 1 ∨ j = s + 2 ∨ j = s + 3 ∨ j = s + 4 ∨ j = s + 5 ∨ j = s + 6 ∨ j = s + 7 ∨ j = s + 8 := by omega
    rcases this with rfl | rfl | rfl | rfl | rfl | rfl | rfl | rfl | rfl <;> omega
  · rintro ⟨a0, a8, a⟩
    have b1 := a (s + 1) (by omega) (by omega)
    have b2 := a (s + 2) (by omega) (by omega)
    have b3 := a (s + 3) (by omega) (by omega)
    have b4 := a (s + 4) (by omega) (by omega)
    have b5 := a (s + 5) (by omega) (by omega)
    have b6 := a (s + 6) (by omega) (by omega)
    have b7 := a (s + 7) (by omega) (by omega)
    exact ⟨⟨⟨⟨⟨⟨⟨⟨by omega, by omega⟩, by omega⟩, by omega⟩, by omega⟩, by omega⟩, by omega⟩, by omega⟩, by omega⟩
theorem su_1 : ∀ a b c : Bool, (su3 a b c = 1 ↔ (a = true ∧ b = false ∧ c = false)) ∧ (su3 a b c = 2 ↔ (a = false ∧ b = true ∧ c = false)) ∧ (su3 a b c = 4 ↔ (a = false ∧ b = false ∧ c = true)) := by decide +kernel
theorem one7_t {x : Int32} : one7 x = true ↔ (x = 1 ∨ x = 2 ∨ x = 4) := by
  unfold one7
  rw [Bool.or_eq_true, Bool.or_eq_true, decide_eq_true_iff, decide_eq_true_iff, decide_eq_true_iff]
theorem NG_eq (κC κM : zM) (q : Nat) (hq : q ≤ 4) (w aw : Nat → Nat) (d4 : κC.1 9 4 = nI q) (m4 : κM.1 50 4 = nI q) (r10 : RW κC 10 w) (r58 : ∀ j, j < 34 → κM.1 58 j = nI (w j)) (aw0 : q = 0 → ∀ k, k < 34 → aw k = w k) : xNG κC (kb (fun k => decide (0 < aw k)) 34) = n40 κM (tN (fun k => decide (0 < aw k)) 34) := by
  have wb : ∀ j, j < 34 → w j < 100 := fun j hj => by have := (r10 j hj).2; omega
  by_cases h0 : q = 0
  · subst h0
    have b : ∀ k, k < 34 → ((fun k => decide (0 < aw k)) k = true ↔ 0 < w k) := fun k hk => by show decide (0 < aw k) = true ↔ _; rw [decide_eq_true_iff, aw0 rfl k hk]
    generalize (fun k => decide (0 < aw k)) = bb at b ⊢
    have k0 : decide (κC.1 9 4 ≤ 0) = true := by rw [d4]; rfl
    have k4 : decide (κM.1 50 4 = 0) = true := by rw [m4]; rfl
    -- which suits
    have eA : ∀ f : Nat → Bool, an (fun k => bb k && f k) 34 = true ↔ ∃ k, k < 34 ∧ 0 < w k ∧ f k = true := fun f => by
      rw [an_iff]
      exact ⟨fun ⟨k, h1, h2⟩ => ⟨k, h1, by rw [Bool.and_eq_true] at h2; exact ⟨(b k h1).mp h2.1, h2.2⟩⟩, fun ⟨k, h1, h2, h3⟩ => ⟨k, h1, by rw [Bool.and_eq_true]; exact ⟨(b k h1).mpr h2, h3⟩⟩⟩
    have eF : ∀ f : Nat → Bool, an (fun k => bb k && f k) 34 = false ↔ ∀ k, k < 34 → 0 < w k → f k = false := fun f => by
      rw [← Bool.not_eq_true, eA]
      exact ⟨fun z k h1 h2 => by rw [← Bool.not_eq_true]; exact fun y => z ⟨k, h1, h2, y⟩, fun z ⟨k, h1, h2, h3⟩ => by rw [z k h1 h2] at h3; exact absurd h3 (by decide)⟩
    have full : ∀ (m : Int64) (f : Nat → Bool), (∀ j, j < 64 → m.toBitVec.getLsbD j = (decide (j < 34) && f j)) → (decide (lg_cmp (kb bb 34) m = 0) = true ↔ ∀ j, j < 34 → (0 < w j ↔ f j = true)) := fun m f hm => by
      rw [ks_is bb m f hm]
      exact ⟨fun z j hj => by rw [← b j hj, z j hj], fun z j hj => by rw [Bool.eq_iff_iff, b j hj]; exact z j hj⟩
    have D0 := full _ _ mT0
    have D1 := full _ _ mT1
    have D2 := full _ _ mT2
    have f10 : ∀ j, j < 34 → κC.1 10 j = nI (w j) := fun j hj => (r10 j hj).1
    have X : ∀ j, j < 34 → decide (κC.1 10 j < 3) = decide (w j < 3) := fun j hj => by rw [f10 j hj, l3_n _ (wb j hj)]
    have su : (tN bb 34).2.2.2.2.2.2 = su3 (an (fun k => bb k && decide (k < 9)) 34) (an (fun k => bb k && (decide (9 ≤ k) && decide (k < 18))) 34) (an (fun k => bb k && (decide (18 ≤ k) && decide (k < 27))) 34) := rfl
    have ho : (tN bb 34).2.2.2.1 = an (fun k => bb k && xHo (nI k)) 34 := rfl
    -- the reference's yes
    have R : n40 κM (tN bb 34) = true ↔ ((∀ j, j < 34 → (0 < w j ↔ j < 9)) ∧ 3 ≤ w 0 ∧ 3 ≤ w 8) ∨ ((∀ j, j < 34 → (0 < w j ↔ (9 ≤ j ∧ j < 18))) ∧ 3 ≤ w 9 ∧ 3 ≤ w 17) ∨ ((∀ j, j < 34 → (0 < w j ↔ (18 ≤ j ∧ j < 27))) ∧ 3 ≤ w 18 ∧ 3 ≤ w 26) := by
      have hoj : ∀ j, j < 34 → (xHo (nI j) = true ↔ 27 ≤ j) := fun j hj => by rw [ho_n j hj, decide_eq_true_iff]
      have key : n40 κM (tN bb 34) = true ↔ (one7 (tN bb 34).2.2.2.2.2.2 = true ∧ (tN bb 34).2.2.2.1 = false ∧ (((tN bb 34).2.2.2.2.2.2 = 1 → cj (κM.1 58) 0 = true) ∧ ((tN bb 34).2.2.2.2.2.2 = 2 → cj (κM.1 58) 9 = true) ∧ ((tN bb 34).2.2.2.2.2.2 = 4 → cj (κM.1 58) 18 = true))) := by
        cases c : one7 (tN bb 34).2.2.2.2.2.2
        · rw [n40_0 _ _ c]; exact ⟨fun z => absurd z (by decide), fun z => absurd z.1 (by decide)⟩
        · rcases one7_t.mp c with e | e | e
          · rw [n40_1 _ _ e, k4, Bool.true_and, Bool.and_eq_true, Bool.not_eq_true', e]
            exact ⟨fun z => ⟨rfl, z.1, fun _ => z.2, fun y => absurd y (by decide), fun y => absurd y (by decide)⟩, fun z => ⟨z.2.1, z.2.2.1 rfl⟩⟩
          · rw [n40_2 _ _ e, k4, Bool.true_and, Bool.and_eq_true, Bool.not_eq_true', e]
            exact ⟨fun z => ⟨rfl, z.1, fun y => absurd y (by decide), fun _ => z.2, fun y => absurd y (by decide)⟩, fun z => ⟨z.2.1, z.2.2.2.1 rfl⟩⟩
          · rw [n40_4 _ _ e, k4, Bool.true_and, Bool.and_eq_true, Bool.not_eq_true', e]
            exact ⟨fun z => ⟨rfl, z.1, fun y => absurd y (by decide), fun y => absurd y (by decide), fun _ => z.2⟩, fun z => ⟨z.2.1, z.2.2.2.2 rfl⟩⟩
      rw [key, one7_t, su, ho, (su_1 _ _ _).1, (su_1 _ _ _).2.1, (su_1 _ _ _).2.2, eA, eA, eA, eF, eF, eF, eF]
      rw [cj_t (by omega) r58 wb, cj_t (by omega) r58 wb, cj_t (by omega) r58 wb]
      simp only [Bool.and_eq_true, Bool.and_eq_false_iff, decide_eq_true_iff, decide_eq_false_iff_not]
      have hoF : (∀ k, k < 34 → 0 < w k → xHo (nI k) = false) ↔ ∀ k, k < 34 → 0 < w k → k < 27 := ⟨fun z k h1 h2 => by have := z k h1 h2; rw [ho_n k h1, decide_eq_false_iff_not] at this; omega, fun z k h1 h2 => by rw [ho_n k h1, decide_eq_false_iff_not]; have := z k h1 h2; omega⟩
      rw [hoF]
      constructor
      · rintro ⟨hs, hh, c1, c2, c3⟩
        rcases hs with e | e | e
        · have y := c1 e
          exact Or.inl ⟨fun j hj => ⟨fun z => by have := hh j hj z; have := e.2.1 j hj z; have := e.2.2 j hj z; omega, fun z => y.2.2 j (by omega) (by omega)⟩, y.1, y.2.1⟩
        · have y := c2 e
          exact Or.inr (Or.inl ⟨fun j hj => ⟨fun z => by have := hh j hj z; have := e.1 j hj z; have := e.2.2 j hj z; omega, fun z => y.2.2 j (by omega) (by omega)⟩, y.1, y.2.1⟩)
        · have y := c3 e
          exact Or.inr (Or.inr ⟨fun j hj => ⟨fun z => by have := hh j hj z; have := e.1 j hj z; have := e.2.1 j hj z; omega, fun z => y.2.2 j (by omega) (by omega)⟩, y.1, y.2.1⟩)
      · rintro (⟨f, y1, y2⟩ | ⟨f, y1, y2⟩ | ⟨f, y1, y2⟩)
        · refine ⟨Or.inl ⟨⟨0, by omega, (f 0 (by omega)).mpr (by omega), by omega⟩, fun k h1 h2 => ?_, fun k h1 h2 => ?_⟩, fun k h1 h2 => ?_, fun _ => ⟨y1, y2, fun j h1 h2 => (f j (by omega)).mpr (by omega)⟩, fun e => ?_, fun e => ?_⟩
          · have := (f k h1).mp h2; omega
          · have := (f k h1).mp h2; omega
          · have := (f k h1).mp h2; omega
          · have := e.1 0 (by omega) ((f 0 (by omega)).mpr (by omega)); omega
          · have := e.1 0 (by omega) ((f 0 (by omega)).mpr (by omega)); omega
        · refine ⟨Or.inr (Or.inl ⟨fun k h1 h2 => ?_, ⟨9, by omega, (f 9 (by omega)).mpr (by omega), by omega⟩, fun k h1 h2 => ?_⟩), fun k h1 h2 => ?_, fun e => ?_, fun _ => ⟨y1, y2, fun j h1 h2 => (f j (by omega)).mpr (by omega)⟩, fun e => ?_⟩
          · have := (f k h1).mp h2; omega
          · have := (f k h1).mp h2; omega
          · have := (f k h1).mp h2; omega
          · have := e.2.1 9 (by omega) ((f 9 (by omega)).mpr (by omega)); omega
          · have := e.2.1 9 (by omega) ((f 9 (by omega)).mpr (by omega)); omega
        · refine ⟨Or.inr (Or.inr ⟨fun k h1 h2 => ?_, fun k h1 h2 => ?_, ⟨18, by omega, (f 18 (by omega)).mpr (by omega), by omega⟩⟩), fun k h1 h2 => ?_, fun e => ?_, fun e => ?_, fun _ => ⟨y1, y2, fun j h1 h2 => (f j (by omega)).mpr (by omega)⟩⟩
          · have := (f k h1).mp h2; omega
          · have := (f k h1).mp h2; omega
          · have := (f k h1).mp h2; omega
          · have := e.2.2 18 (by omega) ((f 18 (by omega)).mpr (by omega)); omega
          · have := e.2.2 18 (by omega) ((f 18 (by omega)).mpr (by omega)); omega
    rw [Bool.eq_iff_iff, R]
    unfold xNG
    rw [k0, Bool.true_and, X 0 (by omega), X 8 (by omega), X 9 (by omega), X 17 (by omega), X 18 (by omega), X 26 (by omega)]
    simp only [Bool.and_eq_true, decide_eq_true_iff] at D0 D1 D2
    cases c0 : decide (lg_cmp (kb bb 34) (511 <<< ((0 : Int32).toInt64 &&& 63)) = 0)
    · have n0 : ¬ ∀ j, j < 34 → (0 < w j ↔ j < 9) := fun z => absurd (decide_eq_true (D0.mpr z)) (by rw [c0]; decide)
      cases c1 : decide (lg_cmp (kb bb 34) (511 <<< ((9 : Int32).toInt64 &&& 63)) = 0)
      · have n1 : ¬ ∀ j, j < 34 → (0 < w j ↔ (9 ≤ j ∧ j < 18)) := fun z => absurd (decide_eq_true (D1.mpr z)) (by rw [c1]; decide)
        cases c2 : decide (lg_cmp (kb bb 34) (511 <<< ((18 : Int32).toInt64 &&& 63)) = 0)
        · have n2 : ¬ ∀ j, j < 34 → (0 < w j ↔ (18 ≤ j ∧ j < 27)) := fun z => absurd (decide_eq_true (D2.mpr z)) (by rw [c2]; decide)
          exact ⟨fun z => absurd (show false = true from z) (by decide), fun z => by rcases z with z | z | z; exact absurd z.1 n0; exact absurd z.1 n1; exact absurd z.1 n2⟩
        · have y2 := D2.mp (of_decide_eq_true c2)
          show (true && (!(decide (w 18 < 3)) && !(decide (w 26 < 3)))) = true ↔ _
          simp only [Bool.true_and, Bool.and_eq_true, Bool.not_eq_true', decide_eq_false_iff_not]
          exact ⟨fun z => Or.inr (Or.inr ⟨y2, by omega, by omega⟩), fun z => by rcases z with z | z | z; exact absurd z.1 n0; exact absurd z.1 n1; exact ⟨by omega, by omega⟩⟩
      · have y1 := D1.mp (of_decide_eq_true c1)
        show (!(decide (w 9 < 3)) && !(decide (w 17 < 3))) = true ↔ _
        simp only [Bool.and_eq_true, Bool.not_eq_true', decide_eq_false_iff_not]
        exact ⟨fun z => Or.inr (Or.inl ⟨y1, by omega, by omega⟩), fun z => by rcases z with z | z | z; exact absurd z.1 n0; exact ⟨by omega, by omega⟩; have := (y1 9 (by omega)).mpr (by omega); have := (z.1 9 (by omega)).mp this; omega⟩
    · have y0 := D0.mp (of_decide_eq_true c0)
      show (!(decide (w 0 < 3)) && !(decide (w 8 < 3))) = true ↔ _
      simp only [Bool.and_eq_true, Bool.not_eq_true', decide_eq_false_iff_not]
      exact ⟨fun z => Or.inl ⟨y0, by omega, by omega⟩, fun z => by rcases z with z | z | z; exact ⟨by omega, by omega⟩; have := (y0 0 (by omega)).mpr (by omega); have := (z.1 0 (by omega)).mp this; omega; have := (y0 0 (by omega)).mpr (by omega); have := (z.1 0 (by omega)).mp this; omega⟩
  · have k0 : decide (κC.1 9 4 ≤ 0) = false := by
      rw [d4]
      have : ∀ q, q ≤ 4 → q ≠ 0 → decide (nI q ≤ 0) = false := by decide +kernel
      exact this q hq h0
    have k4 : decide (κM.1 50 4 = 0) = false := by
      rw [m4]
      have : ∀ q, q ≤ 4 → q ≠ 0 → decide (nI q = 0) = false := by decide +kernel
      exact this q hq h0
    unfold xNG
    rw [k0, Bool.false_and]
    cases c : one7 (tN (fun k => decide (0 < aw k)) 34).2.2.2.2.2.2
    · rw [n40_0 _ _ c]
    · rcases one7_t.mp c with e | e | e
      · rw [n40_1 _ _ e, k4, Bool.false_and, Bool.and_false]
      · rw [n40_2 _ _ e, k4, Bool.false_and, Bool.and_false]
      · rw [n40_4 _ _ e, k4, Bool.false_and, Bool.and_false]
