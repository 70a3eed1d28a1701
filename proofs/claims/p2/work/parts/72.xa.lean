/-! the greatest of many offers does not ask for their order -/
abbrev Q4 : Type := Int32 × Int32 × Int32 × Int64
/-- greater: base, then HAN, then FU, then FORMS -/
def g4 (x y : Q4) : Prop := y.1 < x.1 ∨ (x.1 = y.1 ∧ (y.2.1 < x.2.1 ∨ (x.2.1 = y.2.1 ∧ (y.2.2.1 < x.2.2.1 ∨ (x.2.2.1 = y.2.2.1 ∧ y.2.2.2 < x.2.2.2)))))
theorem i32_tri (x y : Int32) (h1 : ¬ x < y) (h2 : ¬ y < x) : x = y := Int32.le_antisymm (Int32.not_lt.mp h2) (Int32.not_lt.mp h1)
theorem i64_tri (x y : Int64) (h1 : ¬ x < y) (h2 : ¬ y < x) : x = y := Int64.le_antisymm (Int64.not_lt.mp h2) (Int64.not_lt.mp h1)
theorem g4_anti {x y : Q4} (h1 : ¬ g4 x y) (h2 : ¬ g4 y x) : x = y := by
  unfold g4 at h1 h2
  have e1 : x.1 = y.1 := i32_tri _ _ (fun q => h2 (Or.inl q)) (fun q => h1 (Or.inl q))
  have e2 : x.2.1 = y.2.1 := i32_tri _ _ (fun q => h2 (Or.inr ⟨e1.symm, Or.inl q⟩)) (fun q => h1 (Or.inr ⟨e1, Or.inl q⟩))
  have e3 : x.2.2.1 = y.2.2.1 := i32_tri _ _ (fun q => h2 (Or.inr ⟨e1.symm, Or.inr ⟨e2.symm, Or.inl q⟩⟩)) (fun q => h1 (Or.inr ⟨e1, Or.inr ⟨e2, Or.inl q⟩⟩))
  have e4 : x.2.2.2 = y.2.2.2 := i64_tri _ _ (fun q => h2 (Or.inr ⟨e1.symm, Or.inr ⟨e2.symm, Or.inr ⟨e3.symm, q⟩⟩⟩)) (fun q => h1 (Or.inr ⟨e1, Or.inr ⟨e2, Or.inr ⟨e3, q⟩⟩⟩))
  exact Prod.ext e1 (Prod.ext e2 (Prod.ext e3 e4))
theorem g4_irr (x : Q4) : ¬ g4 x x := by
  rintro (h | ⟨-, h | ⟨-, h | ⟨-, h⟩⟩⟩)
  · exact Int32.lt_irrefl h
  · exact Int32.lt_irrefl h
  · exact Int32.lt_irrefl h
  · exact Int64.lt_irrefl h
theorem g4_tr {x y z : Q4} (h1 : g4 x y) (h2 : g4 y z) : g4 x z := by
  rcases h1 with h1 | ⟨e1, h1⟩
  · rcases h2 with h2 | ⟨e2, h2⟩
    · exact Or.inl (Int32.lt_trans h2 h1)
    · exact Or.inl (e2 ▸ h1)
  · rcases h2 with h2 | ⟨e2, h2⟩
    · exact Or.inl (e1 ▸ h2)
    · refine Or.inr ⟨e1.trans e2, ?_⟩
      rcases h1 with h1 | ⟨f1, h1⟩
      · rcases h2 with h2 | ⟨f2, h2⟩
        · exact Or.inl (Int32.lt_trans h2 h1)
        · exact Or.inl (f2 ▸ h1)
      · rcases h2 with h2 | ⟨f2, h2⟩
        · exact Or.inl (f1 ▸ h2)
        · refine Or.inr ⟨f1.trans f2, ?_⟩
          rcases h1 with h1 | ⟨k1, h1⟩
          · rcases h2 with h2 | ⟨k2, h2⟩
            · exact Or.inl (Int32.lt_trans h2 h1)
            · exact Or.inl (k2 ▸ h1)
          · rcases h2 with h2 | ⟨k2, h2⟩
            · exact Or.inl (k1 ▸ h2)
            · exact Or.inr ⟨k1.trans k2, Int64.lt_trans h2 h1⟩
/-- no greater, on and on -/
theorem n4_tr {x y z : Q4} (h1 : ¬ g4 x y) (h2 : ¬ g4 y z) : ¬ g4 x z := by
  intro h
  by_cases c : g4 y x
  · exact h2 (g4_tr c h)
  · exact h2 (g4_anti h1 c ▸ h)
/-- b is the greatest of b0 and of all that S has -/
def BS (S : Q4 → Prop) (b0 b : Q4) : Prop := (b = b0 ∨ S b) ∧ ¬ g4 b0 b ∧ ∀ x, S x → ¬ g4 x b
theorem BS_rf {S : Q4 → Prop} {b : Q4} (h : ∀ x, ¬ S x) : BS S b b := ⟨Or.inl rfl, g4_irr b, fun x hx => absurd hx (h x)⟩
theorem BS.tr {S T : Q4 → Prop} {b0 b1 b2 : Q4} (h1 : BS S b0 b1) (h2 : BS T b1 b2) : BS (fun x => S x ∨ T x) b0 b2 := by
  refine ⟨?_, n4_tr h1.2.1 h2.2.1, fun x hx => ?_⟩
  · rcases h2.1 with e | e
    · rw [e]
      exact h1.1.imp id Or.inl
    · exact Or.inr (Or.inr e)
  · rcases hx with hx | hx
    · exact n4_tr (h1.2.2 x hx) h2.2.1
    · exact h2.2.2 x hx
theorem BS.iff {S T : Q4 → Prop} {b0 b : Q4} (h : BS S b0 b) (e : ∀ x, S x ↔ T x) : BS T b0 b := ⟨h.1.imp id (e b).mp, h.2.1, fun x hx => h.2.2 x ((e x).mpr hx)⟩
theorem BS.uniq {S : Q4 → Prop} {b0 b c : Q4} (h1 : BS S b0 b) (h2 : BS S b0 c) : b = c := by
  refine g4_anti (fun g => ?_) (fun g => ?_)
  · rcases h1.1 with e | e
    · exact h2.2.1 (e ▸ g)
    · exact h2.2.2 b e g
  · rcases h2.1 with e | e
    · exact h1.2.1 (e ▸ g)
    · exact h1.2.2 c e g
theorem BS_one {b0 x b : Q4} (h : (g4 x b0 ∧ b = x) ∨ (¬ g4 x b0 ∧ b = b0)) : BS (fun y => y = x) b0 b := by
  rcases h with ⟨g, rfl⟩ | ⟨g, rfl⟩
  · exact ⟨Or.inr rfl, fun q => g4_irr b (g4_tr g q), fun y hy => by rw [hy]; exact g4_irr b⟩
  · exact ⟨Or.inl rfl, g4_irr b, fun y hy => by rw [hy]; exact g⟩
/-- the class takes its first offer as it is; the reference begins with nothing and leaves out what has no FORM: base, HAN and FORMS are the same -/
theorem BS_both {S : Q4 → Prop} {f c m : Q4} (hf : S f) (hc : BS S f c) (hm : BS (fun x => S x ∧ ¬ x.2.2.2 = 0) (0, 0, 0, 0) m) (hz : ∀ x, S x → x.2.2.2 = 0 → x.1 = 0 ∧ x.2.1 = 0) (hp : ∀ x, S x → ¬ x.2.2.2 = 0 → 0 < x.1) : c.1 = m.1 ∧ c.2.1 = m.2.1 ∧ c.2.2.2 = m.2.2.2 := by
  have hS : S c := by
    rcases hc.1 with e | e
    · rw [e]; exact hf
    · exact e
  by_cases h : ∃ x, S x ∧ ¬ x.2.2.2 = 0
  · obtain ⟨x, hx, hx0⟩ := h
    have c0 : ¬ c.2.2.2 = 0 := fun e => hc.2.2 x hx (Or.inl (by rw [(hz c hS e).1]; exact hp x hx hx0))
    have hmS : S m ∧ ¬ m.2.2.2 = 0 := by
      rcases hm.1 with e | e
      · exact absurd (Or.inl (by rw [e]; exact hp x hx hx0)) (hm.2.2 x ⟨hx, hx0⟩)
      · exact e
    have e : c = m := g4_anti (hm.2.2 c ⟨hS, c0⟩) (hc.2.2 m hmS.1)
    rw [e]
    exact ⟨rfl, rfl, rfl⟩
  · have c0 : c.2.2.2 = 0 := Decidable.byContradiction fun e => h ⟨c, hS, e⟩
    have m0 : m = (0, 0, 0, 0) := hm.1.resolve_right (fun e => h ⟨m, e⟩)
    have := hz c hS c0
    rw [m0]
    exact ⟨this.1, this.2, c0⟩
