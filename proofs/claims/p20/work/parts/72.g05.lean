/-! the reference: all ways of a hand -/
set_option maxRecDepth 8000
noncomputable def AH (μ μ' : zM) : Prop := (μ.1 52 = μ'.1 52) ∧ (μ.1 53 = μ'.1 53) ∧ (μ.1 58 = μ'.1 58) ∧ (μ.1 50 4 = μ'.1 50 4) ∧ (μ.1 50 10 = μ'.1 50 10) ∧ (μ.1 50 11 = μ'.1 50 11) ∧ (μ.2.1 50 12 = μ'.2.1 50 12)
theorem AH.r52 {μ μ' : zM} (h : AH μ μ') : μ.1 52 = μ'.1 52 := h.1
theorem AH.r53 {μ μ' : zM} (h : AH μ μ') : μ.1 53 = μ'.1 53 := h.2.1
theorem AH.r58 {μ μ' : zM} (h : AH μ μ') : μ.1 58 = μ'.1 58 := h.2.2.1
theorem AH.c4 {μ μ' : zM} (h : AH μ μ') : μ.1 50 4 = μ'.1 50 4 := h.2.2.2.1
theorem AH.c10 {μ μ' : zM} (h : AH μ μ') : μ.1 50 10 = μ'.1 50 10 := h.2.2.2.2.1
theorem AH.c11 {μ μ' : zM} (h : AH μ μ') : μ.1 50 11 = μ'.1 50 11 := h.2.2.2.2.2.1
theorem AH.t12 {μ μ' : zM} (h : AH μ μ') : μ.2.1 50 12 = μ'.2.1 50 12 := h.2.2.2.2.2.2
theorem AH_Fz {μ μ' : zM} (h : a_Fz mdR μ μ') : AH μ' μ := ⟨funext fun j => a_Fz_at h 52 j (a_md_row (by decide +kernel)), funext fun j => a_Fz_at h 53 j (a_md_row (by decide +kernel)), funext fun j => a_Fz_at h 58 j (a_md_row (by decide +kernel)), a_Fz_at h 50 4 (by decide +kernel), a_Fz_at h 50 10 (by decide +kernel), a_Fz_at h 50 11 (by decide +kernel), (h.1 50 12 (by decide +kernel)).2⟩
theorem ah_tF {μ : zM} {μ' : zM} (h : AH μ μ') (q : Nat) : ∀ n i t, tF μ q n i t = tF μ' q n i t := by
  intro n
  induction n with
  | zero => intro i t; rfl
  | succ n ih => intro i t; show tF μ q n (i + 1) (tSt μ q i t) = tF μ' q n (i + 1) (tSt μ' q i t); rw [show tSt μ q i t = tSt μ' q i t by unfold tSt; rw [h.r52, h.r53, h.r58], ih]
theorem ah_tlG {μ : zM} {μ' : zM} (h : AH μ μ') (g : Int64) (t : T7) : tlG μ g t = tlG μ' g t := by unfold tlG; rw [h.c4, h.r58]
