set_option maxRecDepth 8000
theorem ah_cOf {μ : zM} {μ' : zM} (h : AH μ μ') (g pl : Int64) (f : Int32) (b : Bool) : cOf (mGP μ g pl f) b = cOf (mGP μ' g pl f) b := by
  have a1 : ∀ ν : zM, (mGP ν g pl f).2.1 50 24 = g := fun _ => rfl
  have a2 : ∀ ν : zM, (mGP ν g pl f).2.1 50 25 = pl := fun _ => rfl
  have a3 : ∀ ν : zM, (mGP ν g pl f).2.1 50 12 = ν.2.1 50 12 := fun _ => rfl
  have a4 : ∀ ν : zM, (mGP ν g pl f).1 50 23 = f := fun _ => rfl
  have a5 : ∀ ν : zM, (mGP ν g pl f).1 50 11 = ν.1 50 11 := fun _ => rfl
  have a6 : ∀ ν : zM, (mGP ν g pl f).1 50 10 = ν.1 50 10 := fun _ => rfl
  first | (have e1 : cpG (mGP μ g pl f) = cpG (mGP μ' g pl f) := (by unfold cpG; rw [a1 μ, a1 μ', a3 μ, a3 μ', h.t12]); have e2 : cpP (mGP μ g pl f) b = cpP (mGP μ' g pl f) b := (by unfold cpP; rw [a2 μ, a2 μ', a3 μ, a3 μ', a5 μ, a5 μ', h.t12, h.c11]); have e3 : ∀ x y, bsH (mGP μ g pl f) x y = bsH (mGP μ' g pl f) x y := (fun x y => (by unfold bsH; rw [a6 μ, a6 μ', h.c10])); unfold cOf; rw [e1, e2, e3, a4 μ, a4 μ', a6 μ, a6 μ', h.c10]) | simp only [cOf, cpG, cpP, bsH, a1, a2, a3, a4, a5, a6, h.t12, h.c11, h.c10]
/-- seven PAIRS, and thirteen, as the reference has them -/
noncomputable def vP (μ : zM) (q : Nat) : Q4 := cOf (mGP μ (tlG μ 0 (tF μ q 34 0 t70)) (tlP μ (lb true 16) (tF μ q 34 0 t70)) 25) false
noncomputable def vT (μ : zM) : Q4 := cOf (mGP μ (lb true 32) 0 30) false
theorem tlP_any (A B : zM) (x : Int64) (t : T7) : tlP A x t = tlP B x t := rfl
theorem tlG_mGP9 (A : zM) (g p : Int64) (f : Int32) (x : Int64) (t : T7) : tlG (mGP A g p f) x t = tlG A x t := rfl
theorem ah_vP {μ μ' : zM} (h : AH μ μ') (q : Nat) : vP μ q = vP μ' q := by
  unfold vP
  first | rw [ah_tF h, ah_tlG h, ah_cOf h, tlP_any μ μ'] | rw [ah_tF h, ah_tlG h, ah_cOf h, show tlP μ (lb true 16) (tF μ' q 34 0 t70) = tlP μ' (lb true 16) (tF μ' q 34 0 t70) from rfl]
theorem ah_vT {μ μ' : zM} (h : AH μ μ') : vT μ = vT μ' := by unfold vT; rw [ah_cOf h]
/-- one more way -/
noncomputable def PQ (μ μ' : zM) (x : Q4) : Prop := a_Fz mdY μ μ' ∧ a_H μ' ∧ BS (fun y => y = x ∧ ¬ y.2.2.2 = 0) (bq μ) (bq μ')
theorem mGP_z (μ : zM) (x : Int32) : z_ui μ 50 16 x = mGP (z_ui μ 50 16 x) (μ.2.1 50 24) (μ.2.1 50 25) (μ.1 50 23) := by
  have := mGP_rf (z_ui μ 50 16 x)
  rw [show (z_ui μ 50 16 x).1 50 23 = μ.1 50 23 by rw [z_ui_rd, if_neg (by omega)]] at this
  exact this.symm
theorem bq_16 {μ : zM} {x : Int32} : bq (z_ui μ 50 16 x) = bq μ := by
  unfold bq
  rw [z_ui_rd, if_neg (by omega), z_ui_rd, if_neg (by omega), z_ui_rd, if_neg (by omega)]
  rfl
