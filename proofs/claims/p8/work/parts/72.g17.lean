/-! the class: all completed SETS of a way -/
set_option maxRecDepth 8000
noncomputable def AC (μ μ' : zM) : Prop := (μ.1 15 0 = μ'.1 15 0) ∧ (μ.1 16 0 = μ'.1 16 0) ∧ (μ.1 15 1 = μ'.1 15 1) ∧ (μ.1 16 1 = μ'.1 16 1) ∧ (μ.1 15 2 = μ'.1 15 2) ∧ (μ.1 16 2 = μ'.1 16 2) ∧ (μ.1 15 3 = μ'.1 15 3) ∧ (μ.1 16 3 = μ'.1 16 3) ∧ (μ.1 14 6 = μ'.1 14 6) ∧ (μ.1 14 7 = μ'.1 14 7) ∧ (μ.1 14 8 = μ'.1 14 8) ∧ (μ.1 14 9 = μ'.1 14 9) ∧ (μ.1 14 10 = μ'.1 14 10) ∧ (μ.1 14 11 = μ'.1 14 11) ∧ (μ.1 14 15 = μ'.1 14 15) ∧ (μ.1 9 4 = μ'.1 9 4) ∧ (μ.2.1 14 12 = μ'.2.1 14 12) ∧ (μ.2.1 14 16 = μ'.2.1 14 16) ∧ (μ.2.1 14 17 = μ'.2.1 14 17)
theorem AC.s0 {μ μ' : zM} (h : AC μ μ') : μ.1 15 0 = μ'.1 15 0 := h.1
theorem AC.l0 {μ μ' : zM} (h : AC μ μ') : μ.1 16 0 = μ'.1 16 0 := h.2.1
theorem AC.s1 {μ μ' : zM} (h : AC μ μ') : μ.1 15 1 = μ'.1 15 1 := h.2.2.1
theorem AC.l1 {μ μ' : zM} (h : AC μ μ') : μ.1 16 1 = μ'.1 16 1 := h.2.2.2.1
theorem AC.s2 {μ μ' : zM} (h : AC μ μ') : μ.1 15 2 = μ'.1 15 2 := h.2.2.2.2.1
theorem AC.l2 {μ μ' : zM} (h : AC μ μ') : μ.1 16 2 = μ'.1 16 2 := h.2.2.2.2.2.1
theorem AC.s3 {μ μ' : zM} (h : AC μ μ') : μ.1 15 3 = μ'.1 15 3 := h.2.2.2.2.2.2.1
theorem AC.l3 {μ μ' : zM} (h : AC μ μ') : μ.1 16 3 = μ'.1 16 3 := h.2.2.2.2.2.2.2.1
theorem AC.c6 {μ μ' : zM} (h : AC μ μ') : μ.1 14 6 = μ'.1 14 6 := h.2.2.2.2.2.2.2.2.1
theorem AC.c7 {μ μ' : zM} (h : AC μ μ') : μ.1 14 7 = μ'.1 14 7 := h.2.2.2.2.2.2.2.2.2.1
theorem AC.c8 {μ μ' : zM} (h : AC μ μ') : μ.1 14 8 = μ'.1 14 8 := h.2.2.2.2.2.2.2.2.2.2.1
theorem AC.c9 {μ μ' : zM} (h : AC μ μ') : μ.1 14 9 = μ'.1 14 9 := h.2.2.2.2.2.2.2.2.2.2.2.1
theorem AC.c10 {μ μ' : zM} (h : AC μ μ') : μ.1 14 10 = μ'.1 14 10 := h.2.2.2.2.2.2.2.2.2.2.2.2.1
theorem AC.c11 {μ μ' : zM} (h : AC μ μ') : μ.1 14 11 = μ'.1 14 11 := h.2.2.2.2.2.2.2.2.2.2.2.2.2.1
theorem AC.c15 {μ μ' : zM} (h : AC μ μ') : μ.1 14 15 = μ'.1 14 15 := h.2.2.2.2.2.2.2.2.2.2.2.2.2.2.1
theorem AC.d4 {μ μ' : zM} (h : AC μ μ') : μ.1 9 4 = μ'.1 9 4 := h.2.2.2.2.2.2.2.2.2.2.2.2.2.2.2.1
theorem AC.t12 {μ μ' : zM} (h : AC μ μ') : μ.2.1 14 12 = μ'.2.1 14 12 := h.2.2.2.2.2.2.2.2.2.2.2.2.2.2.2.2.1
theorem AC.t16 {μ μ' : zM} (h : AC μ μ') : μ.2.1 14 16 = μ'.2.1 14 16 := h.2.2.2.2.2.2.2.2.2.2.2.2.2.2.2.2.2.1
theorem AC.t17 {μ μ' : zM} (h : AC μ μ') : μ.2.1 14 17 = μ'.2.1 14 17 := h.2.2.2.2.2.2.2.2.2.2.2.2.2.2.2.2.2.2
theorem ac_xLR {μ : zM} {μ' : zM} (h : AC μ μ') : xLR μ = xLR μ' := by simp only [xLR, h.s0, h.s1, h.s2, h.s3, h.l0, h.l1, h.l2, h.l3, h.c6, h.c7, h.c8, h.c9, h.c10, h.c11, h.c15, h.d4, h.t12, h.t16, h.t17]
theorem ac_xSF {μ : zM} {μ' : zM} (h : AC μ μ') : xSF μ = xSF μ' := by simp only [xSF, h.s0, h.s1, h.s2, h.s3, h.l0, h.l1, h.l2, h.l3, h.c6, h.c7, h.c8, h.c9, h.c10, h.c11, h.c15, h.d4, h.t12, h.t16, h.t17]
theorem ac_xEF {μ : zM} {μ' : zM} (h : AC μ μ') : xEF μ = xEF μ' := by simp only [xEF, h.s0, h.s1, h.s2, h.s3, h.l0, h.l1, h.l2, h.l3, h.c6, h.c7, h.c8, h.c9, h.c10, h.c11, h.c15, h.d4, h.t12, h.t16, h.t17]
theorem ac_xPf {μ : zM} {μ' : zM} (h : AC μ μ') : xPf μ = xPf μ' := by simp only [xPf, h.s0, h.s1, h.s2, h.s3, h.l0, h.l1, h.l2, h.l3, h.c6, h.c7, h.c8, h.c9, h.c10, h.c11, h.c15, h.d4, h.t12, h.t16, h.t17]
theorem ac_xWf0 {μ : zM} {μ' : zM} (h : AC μ μ') : xWf0 μ = xWf0 μ' := by simp only [xWf0, h.s0, h.s1, h.s2, h.s3, h.l0, h.l1, h.l2, h.l3, h.c6, h.c7, h.c8, h.c9, h.c10, h.c11, h.c15, h.d4, h.t12, h.t16, h.t17]
theorem ac_xWf1 {μ : zM} {μ' : zM} (h : AC μ μ') : xWf1 μ = xWf1 μ' := by simp only [xWf1, h.s0, h.s1, h.s2, h.s3, h.l0, h.l1, h.l2, h.l3, h.c6, h.c7, h.c8, h.c9, h.c10, h.c11, h.c15, h.d4, h.t12, h.t16, h.t17]
theorem ac_xWf2 {μ : zM} {μ' : zM} (h : AC μ μ') : xWf2 μ = xWf2 μ' := by simp only [xWf2, h.s0, h.s1, h.s2, h.s3, h.l0, h.l1, h.l2, h.l3, h.c6, h.c7, h.c8, h.c9, h.c10, h.c11, h.c15, h.d4, h.t12, h.t16, h.t17]
theorem ac_xWf3 {μ : zM} {μ' : zM} (h : AC μ μ') : xWf3 μ = xWf3 μ' := by simp only [xWf3, h.s0, h.s1, h.s2, h.s3, h.l0, h.l1, h.l2, h.l3, h.c6, h.c7, h.c8, h.c9, h.c10, h.c11, h.c15, h.d4, h.t12, h.t16, h.t17]
theorem ac_xHi_0_0 {μ : zM} {μ' : zM} (h : AC μ μ') : xHi_0_0 μ = xHi_0_0 μ' := by simp only [xHi_0_0, h.s0, h.s1, h.s2, h.s3, h.l0, h.l1, h.l2, h.l3, h.c6, h.c7, h.c8, h.c9, h.c10, h.c11, h.c15, h.d4, h.t12, h.t16, h.t17]
theorem ac_xHi_0_1 {μ : zM} {μ' : zM} (h : AC μ μ') : xHi_0_1 μ = xHi_0_1 μ' := by simp only [xHi_0_1, h.s0, h.s1, h.s2, h.s3, h.l0, h.l1, h.l2, h.l3, h.c6, h.c7, h.c8, h.c9, h.c10, h.c11, h.c15, h.d4, h.t12, h.t16, h.t17]
theorem ac_xHi_0_2 {μ : zM} {μ' : zM} (h : AC μ μ') : xHi_0_2 μ = xHi_0_2 μ' := by simp only [xHi_0_2, h.s0, h.s1, h.s2, h.s3, h.l0, h.l1, h.l2, h.l3, h.c6, h.c7, h.c8, h.c9, h.c10, h.c11, h.c15, h.d4, h.t12, h.t16, h.t17]
theorem ac_xHi_0_3 {μ : zM} {μ' : zM} (h : AC μ μ') : xHi_0_3 μ = xHi_0_3 μ' := by simp only [xHi_0_3, h.s0, h.s1, h.s2, h.s3, h.l0, h.l1, h.l2, h.l3, h.c6, h.c7, h.c8, h.c9, h.c10, h.c11, h.c15, h.d4, h.t12, h.t16, h.t17]
theorem ac_xHi_0_4 {μ : zM} {μ' : zM} (h : AC μ μ') : xHi_0_4 μ = xHi_0_4 μ' := by simp only [xHi_0_4, h.s0, h.s1, h.s2, h.s3, h.l0, h.l1, h.l2, h.l3, h.c6, h.c7, h.c8, h.c9, h.c10, h.c11, h.c15, h.d4, h.t12, h.t16, h.t17]
theorem ac_xHi_1_0 {μ : zM} {μ' : zM} (h : AC μ μ') : xHi_1_0 μ = xHi_1_0 μ' := by simp only [xHi_1_0, h.s0, h.s1, h.s2, h.s3, h.l0, h.l1, h.l2, h.l3, h.c6, h.c7, h.c8, h.c9, h.c10, h.c11, h.c15, h.d4, h.t12, h.t16, h.t17]
theorem ac_xHi_1_1 {μ : zM} {μ' : zM} (h : AC μ μ') : xHi_1_1 μ = xHi_1_1 μ' := by simp only [xHi_1_1, h.s0, h.s1, h.s2, h.s3, h.l0, h.l1, h.l2, h.l3, h.c6, h.c7, h.c8, h.c9, h.c10, h.c11, h.c15, h.d4, h.t12, h.t16, h.t17]
theorem ac_xHi_1_2 {μ : zM} {μ' : zM} (h : AC μ μ') : xHi_1_2 μ = xHi_1_2 μ' := by simp only [xHi_1_2, h.s0, h.s1, h.s2, h.s3, h.l0, h.l1, h.l2, h.l3, h.c6, h.c7, h.c8, h.c9, h.c10, h.c11, h.c15, h.d4, h.t12, h.t16, h.t17]
theorem ac_xHi_1_3 {μ : zM} {μ' : zM} (h : AC μ μ') : xHi_1_3 μ = xHi_1_3 μ' := by simp only [xHi_1_3, h.s0, h.s1, h.s2, h.s3, h.l0, h.l1, h.l2, h.l3, h.c6, h.c7, h.c8, h.c9, h.c10, h.c11, h.c15, h.d4, h.t12, h.t16, h.t17]
theorem ac_xHi_1_4 {μ : zM} {μ' : zM} (h : AC μ μ') : xHi_1_4 μ = xHi_1_4 μ' := by simp only [xHi_1_4, h.s0, h.s1, h.s2, h.s3, h.l0, h.l1, h.l2, h.l3, h.c6, h.c7, h.c8, h.c9, h.c10, h.c11, h.c15, h.d4, h.t12, h.t16, h.t17]
theorem ac_xHi_2_0 {μ : zM} {μ' : zM} (h : AC μ μ') : xHi_2_0 μ = xHi_2_0 μ' := by simp only [xHi_2_0, h.s0, h.s1, h.s2, h.s3, h.l0, h.l1, h.l2, h.l3, h.c6, h.c7, h.c8, h.c9, h.c10, h.c11, h.c15, h.d4, h.t12, h.t16, h.t17]
theorem ac_xHi_2_1 {μ : zM} {μ' : zM} (h : AC μ μ') : xHi_2_1 μ = xHi_2_1 μ' := by simp only [xHi_2_1, h.s0, h.s1, h.s2, h.s3, h.l0, h.l1, h.l2, h.l3, h.c6, h.c7, h.c8, h.c9, h.c10, h.c11, h.c15, h.d4, h.t12, h.t16, h.t17]
theorem ac_xHi_2_2 {μ : zM} {μ' : zM} (h : AC μ μ') : xHi_2_2 μ = xHi_2_2 μ' := by simp only [xHi_2_2, h.s0, h.s1, h.s2, h.s3, h.l0, h.l1, h.l2, h.l3, h.c6, h.c7, h.c8, h.c9, h.c10, h.c11, h.c15, h.d4, h.t12, h.t16, h.t17]
theorem ac_xHi_2_3 {μ : zM} {μ' : zM} (h : AC μ μ') : xHi_2_3 μ = xHi_2_3 μ' := by simp only [xHi_2_3, h.s0, h.s1, h.s2, h.s3, h.l0, h.l1, h.l2, h.l3, h.c6, h.c7, h.c8, h.c9, h.c10, h.c11, h.c15, h.d4, h.t12, h.t16, h.t17]
theorem ac_xHi_2_4 {μ : zM} {μ' : zM} (h : AC μ μ') : xHi_2_4 μ = xHi_2_4 μ' := by simp only [xHi_2_4, h.s0, h.s1, h.s2, h.s3, h.l0, h.l1, h.l2, h.l3, h.c6, h.c7, h.c8, h.c9, h.c10, h.c11, h.c15, h.d4, h.t12, h.t16, h.t17]
theorem ac_xHi_3_0 {μ : zM} {μ' : zM} (h : AC μ μ') : xHi_3_0 μ = xHi_3_0 μ' := by simp only [xHi_3_0, h.s0, h.s1, h.s2, h.s3, h.l0, h.l1, h.l2, h.l3, h.c6, h.c7, h.c8, h.c9, h.c10, h.c11, h.c15, h.d4, h.t12, h.t16, h.t17]
theorem ac_xHi_3_1 {μ : zM} {μ' : zM} (h : AC μ μ') : xHi_3_1 μ = xHi_3_1 μ' := by simp only [xHi_3_1, h.s0, h.s1, h.s2, h.s3, h.l0, h.l1, h.l2, h.l3, h.c6, h.c7, h.c8, h.c9, h.c10, h.c11, h.c15, h.d4, h.t12, h.t16, h.t17]
theorem ac_xHi_3_2 {μ : zM} {μ' : zM} (h : AC μ μ') : xHi_3_2 μ = xHi_3_2 μ' := by simp only [xHi_3_2, h.s0, h.s1, h.s2, h.s3, h.l0, h.l1, h.l2, h.l3, h.c6, h.c7, h.c8, h.c9, h.c10, h.c11, h.c15, h.d4, h.t12, h.t16, h.t17]
theorem ac_xHi_3_3 {μ : zM} {μ' : zM} (h : AC μ μ') : xHi_3_3 μ = xHi_3_3 μ' := by simp only [xHi_3_3, h.s0, h.s1, h.s2, h.s3, h.l0, h.l1, h.l2, h.l3, h.c6, h.c7, h.c8, h.c9, h.c10, h.c11, h.c15, h.d4, h.t12, h.t16, h.t17]
theorem ac_xHi_3_4 {μ : zM} {μ' : zM} (h : AC μ μ') : xHi_3_4 μ = xHi_3_4 μ' := by simp only [xHi_3_4, h.s0, h.s1, h.s2, h.s3, h.l0, h.l1, h.l2, h.l3, h.c6, h.c7, h.c8, h.c9, h.c10, h.c11, h.c15, h.d4, h.t12, h.t16, h.t17]
theorem ac_xWf {μ : zM} {μ' : zM} (h : AC μ μ') (c : Nat) : xWf μ c = xWf μ' c := by
  rcases c with _ | _ | _ | _ | c
  · exact ac_xWf0 h
  · exact ac_xWf1 h
  · exact ac_xWf2 h
  · exact ac_xWf3 h
  · rfl
theorem ac_xHc0 {μ : zM} {μ' : zM} (h : AC μ μ') (c : Nat) : xHc0 μ c = xHc0 μ' c := by
  rcases c with _ | _ | _ | _ | c
  · exact ac_xHi_0_0 h
  · exact ac_xHi_0_1 h
  · exact ac_xHi_0_2 h
  · exact ac_xHi_0_3 h
  · exact ac_xHi_0_4 h
theorem ac_xHc1 {μ : zM} {μ' : zM} (h : AC μ μ') (c : Nat) : xHc1 μ c = xHc1 μ' c := by
  rcases c with _ | _ | _ | _ | c
  · exact ac_xHi_1_0 h
  · exact ac_xHi_1_1 h
  · exact ac_xHi_1_2 h
  · exact ac_xHi_1_3 h
  · exact ac_xHi_1_4 h
theorem ac_xHc2 {μ : zM} {μ' : zM} (h : AC μ μ') (c : Nat) : xHc2 μ c = xHc2 μ' c := by
  rcases c with _ | _ | _ | _ | c
  · exact ac_xHi_2_0 h
  · exact ac_xHi_2_1 h
  · exact ac_xHi_2_2 h
  · exact ac_xHi_2_3 h
  · exact ac_xHi_2_4 h
theorem ac_xHc3 {μ : zM} {μ' : zM} (h : AC μ μ') (c : Nat) : xHc3 μ c = xHc3 μ' c := by
  rcases c with _ | _ | _ | _ | c
  · exact ac_xHi_3_0 h
  · exact ac_xHi_3_1 h
  · exact ac_xHi_3_2 h
  · exact ac_xHi_3_3 h
  · exact ac_xHi_3_4 h
theorem ac_wFl {μ : zM} {μ' : zM} (h : AC μ μ') (cc wf : Int32) : wFl μ cc wf = wFl μ' cc wf := by unfold wFl; rw [h.t17, h.c8, ac_xPf h]
theorem ac_wHi {μ : zM} {μ' : zM} (h : AC μ μ') (a b c d : Bool) : wHi μ a b c d = wHi μ' a b c d := by unfold wHi; rw [h.s0, h.s1, h.s2, h.s3]
theorem ac_fuC {μ : zM} {μ' : zM} (h : AC μ μ') (fl : Bool) (wf : Int32) (a b c d : Bool) : fuC μ fl wf a b c d = fuC μ' fl wf a b c d := by
  unfold fuC
  rw [show ∀ x, fuE μ x = fuE μ' x from fun x => by unfold fuE; rw [h.c8], show fuS μ wf fl = fuS μ' wf fl by unfold fuS; rw [ac_xPf h, h.c7, h.c8], h.s0, h.s1, h.s2, h.s3, h.l0, h.l1, h.l2, h.l3]
theorem ac_vC {μ : zM} {μ' : zM} (h : AC μ μ') (c : Nat) : vC μ c = vC μ' c := by
  unfold vC vW
  rw [ac_xLR h, ac_xSF h, ac_xEF h, ac_xWf h, ac_xHc0 h, ac_xHc1 h, ac_xHc2 h, ac_xHc3 h, ac_wFl h, ac_wHi h, ac_fuC h, h.t12, h.c8, h.c11]
/-- the memory of a way of the class -/
noncomputable def cM (κ : zM) (s l : Nat → Nat) (p : Int32) : zM := (fun r k => if r = 15 then nI (s k) else if r = 16 then nI (l k) else if r = 14 ∧ k = 15 then p else κ.1 r k, fun r k => if r = 14 ∧ k = 16 then rB s l 4 else if r = 14 ∧ k = 17 then tB s l 4 else κ.2.1 r k, κ.2.2)
noncomputable def OC (κ : zM) (q p : Nat) (s l : Nat → Nat) (c : Nat) (x : Q4) : Prop := mc (κ.1 14 6) q p s l c = true ∧ x = vC (cM κ s l (nI p)) c
noncomputable abbrev mdJ : List (Nat × Nat) := [(14, 0), (14, 1), (14, 2), (14, 3), (14, 4), (14, 15), (14, 16), (14, 17), (15, 9999), (16, 9999), (17, 9999)]
noncomputable abbrev mdWW : List (Nat × Nat) := [(14, 0), (14, 1), (14, 2), (14, 3), (14, 4), (14, 16), (14, 17)]
theorem AC_way {κ μ : zM} {s l : Nat → Nat} {p : Nat} (hF : a_Fz mdJ κ μ) (hW : CW μ s l) (hp : μ.1 14 15 = nI p) (h16 : μ.2.1 14 16 = rB s l 4) (h17 : μ.2.1 14 17 = tB s l 4) : AC μ (cM κ s l (nI p)) := by
  have y5 : ∀ b, ¬ b = 15 → a_md mdJ 14 b = false → μ.1 14 b = (cM κ s l (nI p)).1 14 b := fun b h1 h4 => by
    rw [a_Fz_at hF 14 b h4]
    show _ = if 14 = 15 then nI (s b) else if 14 = 16 then nI (l b) else if 14 = 14 ∧ b = 15 then nI p else κ.1 14 b
    rw [if_neg (by omega), if_neg (by omega), if_neg (fun z => h1 z.2)]
  exact ⟨(hW 0 (by omega)).1.1, (hW 0 (by omega)).2.1, (hW 1 (by omega)).1.1, (hW 1 (by omega)).2.1, (hW 2 (by omega)).1.1, (hW 2 (by omega)).2.1, (hW 3 (by omega)).1.1, (hW 3 (by omega)).2.1, y5 6 (by omega) (by decide), y5 7 (by omega) (by decide), y5 8 (by omega) (by decide), y5 9 (by omega) (by decide), y5 10 (by omega) (by decide), y5 11 (by omega) (by decide), hp, a_Fz_at hF 9 4 (a_md_row (by decide)), (hF.1 14 12 (by decide)).2, h16, h17⟩
theorem zh_X1_weighWay : zH mi_X1_weighWay zt_X1_weighWay 79 1 4 := hh_X1_weighWay
noncomputable def WT (μ μ1 : zM) (s l : Nat → Nat) (i : Nat) : Prop := a_Fz [(14, 16), (14, 17)] μ μ1 ∧ a_H μ1 ∧ μ1.2.1 14 16 = rB s l i ∧ μ1.2.1 14 17 = tB s l i
theorem WT.r {μ μ1 : zM} {s l : Nat → Nat} {i : Nat} {x : Int64} (h : WT μ μ1 s l i) (h0 : s i = 0) (hx : x = rB s l i ||| ((1 : Int64) <<< ((nI (l i)).toInt64 &&& 63))) : WT μ (z_uj μ1 14 16 x) s l (i + 1) := ⟨a_Fz_uj h.1 (by decide), a_H_uj h.2.1, by rw [z_uj_rd, if_pos ⟨rfl, rfl⟩, hx]; show _ = if s i = 0 then _ else _; rw [if_pos h0], by rw [z_uj_rd, if_neg (by omega), h.2.2.2]; show _ = if s i = 0 then _ else _; rw [if_pos h0]⟩
theorem WT.t {μ μ1 : zM} {s l : Nat → Nat} {i : Nat} {x : Int64} (h : WT μ μ1 s l i) (h0 : ¬ s i = 0) (hx : x = tB s l i ||| ((1 : Int64) <<< ((nI (l i)).toInt64 &&& 63))) : WT μ (z_uj μ1 14 17 x) s l (i + 1) := ⟨a_Fz_uj h.1 (by decide), a_H_uj h.2.1, by rw [z_uj_rd, if_neg (by omega), h.2.2.1]; show _ = if s i = 0 then _ else _; rw [if_neg h0], by rw [z_uj_rd, if_pos ⟨rfl, rfl⟩, hx]; show _ = if s i = 0 then _ else _; rw [if_neg h0]⟩
theorem wW12 (d' : Nat) (Z : zK) (hd : 4 ≤ d') (κ μ : zM) (q p : Nat) (s l : Nat → Nat) (S : Q4 → Prop) (N : Nat) (hN : N + 10 < 100000) (hq : q ≤ 4) (hp : p < 34) (hF : a_Fz mdJ κ μ) (hW : CW μ s l) (h15 : μ.1 14 15 = nI p) (ht : μ.2.2 14 = 9) (e4 : μ.1 9 4 = nI q) (hc : z_clo z_x0 mi_X1_weighWay (z_C d') Z) (K : ∀ μ1, WT μ μ1 s l 4 → Z 0 69 [(1, .int (nI 4)), (0, .ref 14)] [] μ1) : ∀ n i, i + n = 4 → ∀ μ1, WT μ μ1 s l i → Z 0 12 [(1, .int (nI i)), (0, .ref 14)] [] μ1 := by
  have hH := zh_X1_weighWay
  intro n
  induction n with
  | zero =>
    intro i hi μ1 g
    have hi : i = 4 := by omega
    subst hi
    refine z_rcs hc hH 2 (pc' := 14) (lv' := [(1, .int (nI 4)), (0, .ref 14)]) (st' := [.int 4, .int (nI 4)]) (μ' := μ1) (by rfl) ?_
    refine zq_ic hc hH (by rfl) (tg := 69) (by rfl) (fun _ => ?_) (fun h9 => (zb_t (ge_nIt (n := 4) (i := 4) (by decide) (by decide)) h9).elim)
    exact K μ1 g
  | succ n ih =>
    intro i hi μ1 g
    have hin : vp_in (nI i) 4 := vp_in_nI (by omega) (by decide)
    have ei : (nI i).toNatClampNeg = i := nI_clamp (by omega)
    have b15 : μ1.1 15 i = nI (s i) := (a_Fz_at g.1 15 i (a_md_row (by decide))).trans (hW i (by omega)).1.1
    have b16 : μ1.1 16 i = nI (l i) := (a_Fz_at g.1 16 i (a_md_row (by decide))).trans (hW i (by omega)).2.1
    have bs := (hW i (by omega)).1.2
    refine z_rcs hc hH 2 (pc' := 14) (lv' := [(1, .int (nI i)), (0, .ref 14)]) (st' := [.int 4, .int (nI i)]) (μ' := μ1) (by rfl) ?_
    refine zq_ic hc hH (by rfl) (tg := 69) (by rfl) (fun h9 => (zb_t h9 (ge_nI (n := 4) (i := i) (by omega) (by decide))).elim) (fun _ => ?_)
    refine z_rcs hc hH 3 (pc' := 22) (lv' := [(1, .int (nI i)), (0, .ref 14)]) (st' := [.int (nI i), .ref 15]) (μ' := μ1) (by rfl) ?_
    refine zq_iald hc hH (by rfl) 4 (by decide +kernel) (hin) ?_
    rw [ei, b15]
    show Z 0 23 [(1, .int (nI i)), (0, .ref 14)] [.int (nI (s i))] μ1
    refine zq_if hc hH (by rfl) (tg := 46) (by rfl) (fun h1 => ?_) (fun h1 => ?_)
    · have h1 := cm_ne.mp h1
      refine z_rcs hc hH 3 (pc' := 51) (lv' := [(1, .int (nI i)), (0, .ref 14)]) (st' := [.long (μ1.2.1 14 17), .ref 14]) (μ' := μ1) (by rfl) ?_
      rw [g.2.2.2]
      show Z 0 51 [(1, .int (nI i)), (0, .ref 14)] [.long (tB s l i), .ref 14] μ1
      refine z_rcs hc hH 4 (pc' := 57) (lv' := [(1, .int (nI i)), (0, .ref 14)]) (st' := [.int (nI i), .ref 16, .long 1, .long (tB s l i), .ref 14]) (μ' := μ1) (by rfl) ?_
      refine zq_iald hc hH (by rfl) 4 (by decide +kernel) (hin) ?_
      rw [ei, b16]
      show Z 0 58 [(1, .int (nI i)), (0, .ref 14)] [.int (nI (l i)), .long 1, .long (tB s l i), .ref 14] μ1
      refine z_rcs hc hH 3 (pc' := 63) (lv' := [(1, .int (nI i)), (0, .ref 14)]) (st' := []) (μ' := z_uj μ1 14 17 ((tB s l i) ||| (1 <<< ((nI (l i)).toInt64 &&& 63)))) (by rfl) ?_
      have h0 : ¬ s i = 0 := fun z => h1 (by rw [z]; rfl)
      have g2 : WT μ (z_uj μ1 14 17 ((tB s l i) ||| (1 <<< ((nI (l i)).toInt64 &&& 63)))) s l (i + 1) := g.t h0 rfl
      generalize z_uj μ1 14 17 ((tB s l i) ||| (1 <<< ((nI (l i)).toInt64 &&& 63))) = μ2 at g2 ⊢
      refine z_rcs hc hH 2 (pc' := 12) (lv' := [(1, .int ((nI i) + 1)), (0, .ref 14)]) (st' := []) (μ' := μ2) (by rfl) ?_
      rw [nI_1]
      exact ih (i + 1) (by omega) μ2 g2
    · have h1 := cn_ne.mp h1
      refine z_rcs hc hH 3 (pc' := 31) (lv' := [(1, .int (nI i)), (0, .ref 14)]) (st' := [.long (μ1.2.1 14 16), .ref 14]) (μ' := μ1) (by rfl) ?_
      rw [g.2.2.1]
      show Z 0 31 [(1, .int (nI i)), (0, .ref 14)] [.long (rB s l i), .ref 14] μ1
      refine z_rcs hc hH 4 (pc' := 37) (lv' := [(1, .int (nI i)), (0, .ref 14)]) (st' := [.int (nI i), .ref 16, .long 1, .long (rB s l i), .ref 14]) (μ' := μ1) (by rfl) ?_
      refine zq_iald hc hH (by rfl) 4 (by decide +kernel) (hin) ?_
      rw [ei, b16]
      show Z 0 38 [(1, .int (nI i)), (0, .ref 14)] [.int (nI (l i)), .long 1, .long (rB s l i), .ref 14] μ1
      refine z_rcs hc hH 4 (pc' := 63) (lv' := [(1, .int (nI i)), (0, .ref 14)]) (st' := []) (μ' := z_uj μ1 14 16 ((rB s l i) ||| (1 <<< ((nI (l i)).toInt64 &&& 63)))) (by rfl) ?_
      have h0 : s i = 0 := (nI_eq (show s i < 2 ^ 31 by omega) (show 0 < 2 ^ 31 by decide)).mp h1
      have g2 : WT μ (z_uj μ1 14 16 ((rB s l i) ||| (1 <<< ((nI (l i)).toInt64 &&& 63)))) s l (i + 1) := g.r h0 rfl
      generalize z_uj μ1 14 16 ((rB s l i) ||| (1 <<< ((nI (l i)).toInt64 &&& 63))) = μ2 at g2 ⊢
      refine z_rcs hc hH 2 (pc' := 12) (lv' := [(1, .int ((nI i) + 1)), (0, .ref 14)]) (st' := []) (μ' := μ2) (by rfl) ?_
      rw [nI_1]
      exact ih (i + 1) (by omega) μ2 g2
noncomputable def WO (κ μ : zM) (q p : Nat) (s l : Nat → Nat) (S : Q4 → Prop) (N i : Nat) (μ1 : zM) : Prop := a_Fz mdWW μ μ1 ∧ a_H μ1 ∧ (μ1.2.1 14 16 = rB s l 4 ∧ μ1.2.1 14 17 = tB s l 4) ∧ CI (fun x => S x ∨ ∃ c, q ≤ c ∧ c < i ∧ OC κ q p s l c x) (N + i) μ1
theorem WO.cw {κ μ μ1 : zM} {q p N i : Nat} {s l : Nat → Nat} {S : Q4 → Prop} (h : WO κ μ q p s l S N i μ1) (hW : CW μ s l) : CW μ1 s l := fun j hj => by rw [a_Fz_at h.1 15 j (a_md_row (by decide)), a_Fz_at h.1 16 j (a_md_row (by decide))]; exact hW j hj
theorem WO.no {κ μ μ1 : zM} {q p N i : Nat} {s l : Nat → Nat} {S : Q4 → Prop} (h : WO κ μ q p s l S N i μ1) (hm : mc (κ.1 14 6) q p s l i = false) : WO κ μ q p s l S N (i + 1) μ1 := ⟨h.1, h.2.1, h.2.2.1, (h.2.2.2.up (by omega)).iff (fun x => ⟨fun z => z.imp id (fun ⟨c, c1, c2, c3⟩ => ⟨c, c1, by omega, c3⟩), fun z => z.imp id (fun ⟨c, c1, c2, c3⟩ => ⟨c, c1, if e : c = i then (by rw [e] at c3; exact absurd c3.1 (by rw [hm]; decide)) else (by omega), c3⟩)⟩)⟩
theorem WO.yes {κ μ μ1 μ2 : zM} {q p N i : Nat} {s l : Nat → Nat} {S : Q4 → Prop} (h : WO κ μ q p s l S N i μ1) (hN : N + 10 < 100000) (hqi : q ≤ i) (hi : i < 5) (hF : a_Fz mdJ κ μ) (hW : CW μ s l) (h15 : μ.1 14 15 = nI p) (hm : mc (κ.1 14 6) q p s l i = true) (ho : OQ μ1 μ2 (vC μ1 i)) : WO κ μ q p s l S N (i + 1) μ2 := by
  have F : a_Fz mdJ κ μ1 := a_Fz_tr (by decide) hF h.1
  have e : vC μ1 i = vC (cM κ s l (nI p)) i := ac_vC (AC_way F (h.cw hW) ((a_Fz_at h.1 14 15 (by decide)).trans h15) h.2.2.1.1 h.2.2.1.2) i
  rw [e] at ho
  refine ⟨a_Fz_tr (by decide) h.1 ho.1, ho.2.1, ⟨(ho.1.1 14 16 (by decide)).2.trans h.2.2.1.1, (ho.1.1 14 17 (by decide)).2.trans h.2.2.1.2⟩, (h.2.2.2.add (by omega) ho).iff (fun x => ⟨?_, ?_⟩)⟩
  · rintro ((z | ⟨c, c1, c2, c3⟩) | z)
    · exact Or.inl z
    · exact Or.inr ⟨c, c1, by omega, c3⟩
    · exact Or.inr ⟨i, hqi, by omega, hm, z⟩
  · rintro (z | ⟨c, c1, c2, c3⟩)
    · exact Or.inl (Or.inl z)
    · by_cases e : c = i
      · subst e; exact Or.inr c3.2
      · exact Or.inl (Or.inr ⟨c, c1, by omega, c3⟩)
theorem wW97 (d' : Nat) (Z : zK) (hd : 4 ≤ d') (κ μ : zM) (q p : Nat) (s l : Nat → Nat) (S : Q4 → Prop) (N : Nat) (hN : N + 10 < 100000) (hq : q ≤ 4) (hp : p < 34) (hF : a_Fz mdJ κ μ) (hW : CW μ s l) (h15 : μ.1 14 15 = nI p) (ht : μ.2.2 14 = 9) (e4 : μ.1 9 4 = nI q) (hc : z_clo z_x0 mi_X1_weighWay (z_C d') Z) (f : Int64) (hf : ∀ μ1, a_Fz mdWW μ μ1 → μ1.2.1 14 16 = rB s l 4 → μ1.2.1 14 17 = tB s l 4 → f = ((μ1.2.1 14 12 ||| xLR μ1) ||| xSF μ1) ||| xEF μ1) (hr : z_ret mi_X1_weighWay (fun r μ' => r = none ∧ WO κ μ q p s l S N 5 μ') Z) : ∀ n i, i + n = 4 → q ≤ i → ∀ μ1, WO κ μ q p s l S N i μ1 → Z 0 97 [(3, .int (nI i)), (1, .long f), (0, .ref 14)] [] μ1 := by
  have hH := zh_X1_weighWay
  have e6 : μ.1 14 6 = κ.1 14 6 := a_Fz_at hF 14 6 (by decide)
  intro n
  induction n with
  | zero =>
    intro i hi hqi μ1 g
    have hi : i = 4 := by omega
    subst hi
    have ht1 : μ1.2.2 14 = 9 := (g.1.2 14 (by decide)).trans ht
    have e61 : μ1.1 14 6 = κ.1 14 6 := (a_Fz_at g.1 14 6 (by decide)).trans e6
    have e151 : μ1.1 14 15 = nI p := (a_Fz_at g.1 14 15 (by decide)).trans h15
    have e41 : μ1.1 9 4 = nI q := (a_Fz_at g.1 9 4 (a_md_row (by decide))).trans e4
    refine z_rcs hc hH 2 (pc' := 99) (lv' := [(3, .int (nI 4)), (1, .long f), (0, .ref 14)]) (st' := [.int 4, .int (nI 4)]) (μ' := μ1) (by rfl) ?_
    refine zq_ic hc hH (by rfl) (tg := 122) (by rfl) (fun _ => ?_) (fun h9 => (zb_t (ge_nIt (n := 4) (i := 4) (by decide) (by decide)) h9).elim)
    refine z_rcs hc hH 4 (pc' := 130) (lv' := [(3, .int (nI 4)), (1, .long f), (0, .ref 14)]) (st' := [.int (μ1.1 14 6), .int (μ1.1 14 15)]) (μ' := μ1) (by rfl) ?_
    rw [e151, e61]
    show Z 0 130 [(3, .int (nI 4)), (1, .long f), (0, .ref 14)] [.int (κ.1 14 6), .int (nI p)] μ1
    refine zq_ic hc hH (by rfl) (tg := 139) (by rfl) (fun h1 => ?_) (fun h1 => ?_)
    · have h1 := cm_ne.mp h1
      exact hr 0 139 _ _ _ none (by decide +kernel) (by rfl) (⟨rfl, g.no (by unfold mc; rw [show Nat.blt 4 4 = false from rfl]; exact decide_eq_false h1)⟩)
    · have h1 := cn_ne.mp h1
      refine z_rcs hc hH 3 (pc' := 136) (lv' := [(3, .int (nI 4)), (1, .long f), (0, .ref 14)]) (st' := [.int 4, .long f, .ref 14]) (μ' := μ1) (by rfl) ?_
      have hm : mc (κ.1 14 6) q p s l 4 = true := by unfold mc; rw [show Nat.blt 4 4 = false from rfl]; exact decide_eq_true h1
      have hfe := hf μ1 g.1 g.2.2.1.1 g.2.2.1.2
      refine zq_call hc (z_cx_ok hH (by rfl)) (fb_X1_weighCompleted d' (by omega) μ1 g.2.1 f (nI 4) (xWf μ1 4) (fb_waitFu μ1 4 (by omega)) (xHc0 μ1 4) (fb_hid0 μ1 ht1 4 (by omega)) (xHc1 μ1 4) (fb_hid1 μ1 ht1 4 (by omega)) (xHc2 μ1 4) (fb_hid2 μ1 ht1 4 (by omega)) (xHc3 μ1 4) (fb_hid3 μ1 ht1 4 (by omega))) (by decide +kernel) (fun r2 μ2 hq2 => ?_)
      obtain ⟨rfl, ho⟩ := hq2
      have ho : OQ μ1 μ2 (vC μ1 4) := by unfold vC; rw [← hfe]; exact ho
      have g2 := g.yes hN (by omega) (by omega) hF hW h15 hm ho
      show Z 0 139 [(3, .int (nI 4)), (1, .long f), (0, .ref 14)] [] μ2
      exact hr 0 139 _ _ _ none (by decide +kernel) (by rfl) (⟨rfl, g2⟩)
  | succ n ih =>
    intro i hi hqi μ1 g
    have ht1 : μ1.2.2 14 = 9 := (g.1.2 14 (by decide)).trans ht
    have e61 : μ1.1 14 6 = κ.1 14 6 := (a_Fz_at g.1 14 6 (by decide)).trans e6
    have e151 : μ1.1 14 15 = nI p := (a_Fz_at g.1 14 15 (by decide)).trans h15
    have e41 : μ1.1 9 4 = nI q := (a_Fz_at g.1 9 4 (a_md_row (by decide))).trans e4
    have em : mc (κ.1 14 6) q p s l i = mcB (κ.1 14 6) q s l i := by unfold mc; rw [show Nat.blt i 4 = true from Nat.blt_eq.mpr (by omega)]; rfl
    refine z_rcs hc hH 2 (pc' := 99) (lv' := [(3, .int (nI i)), (1, .long f), (0, .ref 14)]) (st' := [.int 4, .int (nI i)]) (μ' := μ1) (by rfl) ?_
    refine zq_ic hc hH (by rfl) (tg := 122) (by rfl) (fun h9 => (zb_t h9 (ge_nI (n := 4) (i := i) (by omega) (by decide))).elim) (fun _ => ?_)
    refine z_rcs hc hH 2 (pc' := 104) (lv' := [(3, .int (nI i)), (1, .long f), (0, .ref 14)]) (st' := [.int (nI i), .ref 14]) (μ' := μ1) (by rfl) ?_
    refine zq_call hc (z_cx_ok hH (by rfl)) (fb_X1_mayHaveCompleted d' (by omega) μ1 s l (g.cw hW) q i (by omega) hqi ht1 e41) (by decide +kernel) (fun r9 μ9 hq => ?_)
    obtain ⟨hμ9, rfl⟩ := hq
    rw [hμ9]
    clear hμ9 μ9
    show Z 0 107 [(3, .int (nI i)), (1, .long f), (0, .ref 14)] [.int (nB (mcB (μ1.1 14 6) q s l i))] μ1
    rw [e61, ← em]
    generalize hm : mc (κ.1 14 6) q p s l i = e
    show Z 0 107 [(3, .int (nI i)), (1, .long f), (0, .ref 14)] [.int (nB e)] μ1
    refine zq_if hc hH (by rfl) (tg := 116) (by rfl) (fun h1 => ?_) (fun h1 => ?_)
    · have h1 := cm_eq9.mp h1
      refine z_rcs hc hH 2 (pc' := 97) (lv' := [(3, .int ((nI i) + 1)), (1, .long f), (0, .ref 14)]) (st' := []) (μ' := μ1) (by rfl) ?_
      rw [nI_1]
      exact ih (i + 1) (by omega) (by omega) μ1 (g.no (hm.trans (nB_z.mp h1)))
    · have h1 := cn_eq.mp h1
      refine z_rcs hc hH 3 (pc' := 113) (lv' := [(3, .int (nI i)), (1, .long f), (0, .ref 14)]) (st' := [.int (nI i), .long f, .ref 14]) (μ' := μ1) (by rfl) ?_
      have hm := hm.trans (nB_n.mp h1)
      have hfe := hf μ1 g.1 g.2.2.1.1 g.2.2.1.2
      refine zq_call hc (z_cx_ok hH (by rfl)) (fb_X1_weighCompleted d' (by omega) μ1 g.2.1 f (nI i) (xWf μ1 i) (fb_waitFu μ1 i (by omega)) (xHc0 μ1 i) (fb_hid0 μ1 ht1 i (by omega)) (xHc1 μ1 i) (fb_hid1 μ1 ht1 i (by omega)) (xHc2 μ1 i) (fb_hid2 μ1 ht1 i (by omega)) (xHc3 μ1 i) (fb_hid3 μ1 ht1 i (by omega))) (by decide +kernel) (fun r2 μ2 hq2 => ?_)
      obtain ⟨rfl, ho⟩ := hq2
      have ho : OQ μ1 μ2 (vC μ1 i) := by unfold vC; rw [← hfe]; exact ho
      have g2 := g.yes hN (by omega) (by omega) hF hW h15 hm ho
      show Z 0 116 [(3, .int (nI i)), (1, .long f), (0, .ref 14)] [] μ2
      refine z_rcs hc hH 2 (pc' := 97) (lv' := [(3, .int ((nI i) + 1)), (1, .long f), (0, .ref 14)]) (st' := []) (μ' := μ2) (by rfl) ?_
      rw [nI_1]
      exact ih (i + 1) (by omega) (by omega) μ2 g2
theorem fb_X1_weighWay (d : Nat) (hd : 5 ≤ d) (μ : zM) (κ : zM) (q p : Nat) (s l : Nat → Nat) (S : Q4 → Prop) (N : Nat) (hN : N + 10 < 100000) (hq : q ≤ 4) (hp : p < 34) (hF : a_Fz mdJ κ μ) (hH0 : a_H μ) (hW : CW μ s l) (h15 : μ.1 14 15 = nI p) (ht : μ.2.2 14 = 9) (e4 : μ.1 9 4 = nI q) (hC : CI S N μ) : z_C d mi_X1_weighWay [.ref 14] μ (fun r μ' => r = none ∧ a_Fz mdWW μ μ' ∧ a_H μ' ∧ CI (fun x => S x ∨ ∃ c, q ≤ c ∧ c < 5 ∧ OC κ q p s l c x) (N + 5) μ') := by
  refine z_C_in (by decide) (by omega) (fun d' Z ed hc hr => ?_)
  have hH := zh_X1_weighWay
  refine z_rcs hc hH 8 (pc' := 12) (lv' := [(1, .int 0), (0, .ref 14)]) (st' := []) (μ' := z_uj (z_uj μ 14 16 0) 14 17 0) (by rfl) ?_
  have g0 : WT μ (z_uj (z_uj μ 14 16 0) 14 17 0) s l 0 := ⟨a_Fz_uj (a_Fz_uj (a_Fz_rf _ _) (by decide)) (by decide), a_H_uj (a_H_uj hH0), by rw [z_uj_rd, if_neg (by omega), z_uj_rd, if_pos ⟨rfl, rfl⟩]; rfl, by rw [z_uj_rd, if_pos ⟨rfl, rfl⟩]; rfl⟩
  generalize z_uj (z_uj μ 14 16 0) 14 17 0 = μ0 at g0 ⊢
  refine wW12 d' Z (by omega) κ μ q p s l S N hN hq hp hF hW h15 ht e4 hc (fun μa ga => ?_) 4 0 (by omega) μ0 g0
  clear g0 μ0
  have hta : μa.2.2 14 = 9 := (ga.1.2 14 (by decide)).trans ht
  have e4a : μa.1 9 4 = nI q := (a_Fz_at ga.1 9 4 (a_md_row (by decide))).trans e4
  refine z_rcs hc hH 3 (pc' := 74) (lv' := [(1, .int (nI 4)), (0, .ref 14)]) (st' := [.ref 14, .long (μa.2.1 14 12)]) (μ' := μa) (by rfl) ?_
  refine zq_call hc (z_cx_ok hH (by rfl)) (fb_X1_likeRuns d' (by omega) μa) (by decide +kernel) (fun r9 μ9 hq => ?_)
  obtain ⟨hμ9, rfl⟩ := hq
  rw [hμ9]
  clear hμ9 μ9
  show Z 0 77 [(1, .int (nI 4)), (0, .ref 14)] [.long (xLR μa), .long (μa.2.1 14 12)] μa
  refine z_rcs hc hH 2 (pc' := 79) (lv' := [(1, .int (nI 4)), (0, .ref 14)]) (st' := [.ref 14, .long ((μa.2.1 14 12) ||| (xLR μa))]) (μ' := μa) (by rfl) ?_
  refine zq_call hc (z_cx_ok hH (by rfl)) (fb_X1_setForms d' (by omega) μa) (by decide +kernel) (fun r9 μ9 hq => ?_)
  obtain ⟨hμ9, rfl⟩ := hq
  rw [hμ9]
  clear hμ9 μ9
  show Z 0 82 [(1, .int (nI 4)), (0, .ref 14)] [.long (xSF μa), .long ((μa.2.1 14 12) ||| (xLR μa))] μa
  refine z_rcs hc hH 2 (pc' := 84) (lv' := [(1, .int (nI 4)), (0, .ref 14)]) (st' := [.ref 14, .long (((μa.2.1 14 12) ||| (xLR μa)) ||| (xSF μa))]) (μ' := μa) (by rfl) ?_
  refine zq_call hc (z_cx_ok hH (by rfl)) (fb_X1_endForms d' (by omega) μa) (by decide +kernel) (fun r9 μ9 hq => ?_)
  obtain ⟨hμ9, rfl⟩ := hq
  rw [hμ9]
  clear hμ9 μ9
  show Z 0 87 [(1, .int (nI 4)), (0, .ref 14)] [.long (xEF μa), .long (((μa.2.1 14 12) ||| (xLR μa)) ||| (xSF μa))] μa
  refine z_rcs hc hH 3 (pc' := 90) (lv' := [(1, .long ((((μa.2.1 14 12) ||| (xLR μa)) ||| (xSF μa)) ||| (xEF μa))), (0, .ref 14)]) (st' := [.ref 14]) (μ' := μa) (by rfl) ?_
  refine zq_tget hc hH (by rfl) (ci := 0) (f := 5) (t := 9) (by decide +kernel) hta (by decide) ?_
  show Z 0 93 [(1, .long ((((μa.2.1 14 12) ||| (xLR μa)) ||| (xSF μa)) ||| (xEF μa))), (0, .ref 14)] [.ref 9] μa
  refine z_rcs hc hH 1 (pc' := 96) (lv' := [(1, .long ((((μa.2.1 14 12) ||| (xLR μa)) ||| (xSF μa)) ||| (xEF μa))), (0, .ref 14)]) (st' := [.int (μa.1 9 4)]) (μ' := μa) (by rfl) ?_
  rw [e4a]
  show Z 0 96 [(1, .long ((((μa.2.1 14 12) ||| (xLR μa)) ||| (xSF μa)) ||| (xEF μa))), (0, .ref 14)] [.int (nI q)] μa
  refine z_rcs hc hH 1 (pc' := 97) (lv' := [(3, .int (nI q)), (1, .long ((((μa.2.1 14 12) ||| (xLR μa)) ||| (xSF μa)) ||| (xEF μa))), (0, .ref 14)]) (st' := []) (μ' := μa) (by rfl) ?_
  have hf : ∀ μ1, a_Fz mdWW μ μ1 → μ1.2.1 14 16 = rB s l 4 → μ1.2.1 14 17 = tB s l 4 → ((μa.2.1 14 12 ||| xLR μa) ||| xSF μa) ||| xEF μa = ((μ1.2.1 14 12 ||| xLR μ1) ||| xSF μ1) ||| xEF μ1 := fun μ1 F1 z1 z2 => by
    have ac : AC μa μ1 := by
      have Fa : a_Fz mdJ κ μa := a_Fz_tr (by decide) hF ga.1
      have Fb : a_Fz mdJ κ μ1 := a_Fz_tr (by decide) hF F1
      have ra : ∀ r k, a_md mdWW r k = false → μa.1 r k = μ1.1 r k := fun r k hm => (a_Fz_at (a_Fz_tr (m2 := mdWW) (by decide) (a_Fz_rf mdWW μ) ga.1) r k hm).trans (a_Fz_at F1 r k hm).symm
      exact ⟨ra 15 0 (a_md_row (by decide)), ra 16 0 (a_md_row (by decide)), ra 15 1 (a_md_row (by decide)), ra 16 1 (a_md_row (by decide)), ra 15 2 (a_md_row (by decide)), ra 16 2 (a_md_row (by decide)), ra 15 3 (a_md_row (by decide)), ra 16 3 (a_md_row (by decide)), ra 14 6 (by decide), ra 14 7 (by decide), ra 14 8 (by decide), ra 14 9 (by decide), ra 14 10 (by decide), ra 14 11 (by decide), ra 14 15 (by decide), ra 9 4 (a_md_row (by decide)), ((ga.1.1 14 12 (by decide)).2).trans ((F1.1 14 12 (by decide)).2).symm, ga.2.2.1.trans z1.symm, ga.2.2.2.trans z2.symm⟩
    rw [ac_xLR ac, ac_xSF ac, ac_xEF ac, ac.t12]
  generalize ((μa.2.1 14 12 ||| xLR μa) ||| xSF μa) ||| xEF μa = f at hf ⊢
  refine wW97 d' Z (by omega) κ μ q p s l S N hN hq hp hF hW h15 ht e4 hc f hf (fun b pc lv st ν r h1 h2 h3 => hr b pc lv st ν r h1 h2 ⟨h3.1, h3.2.1, h3.2.2.1, h3.2.2.2.2⟩) (4 - q) q (by omega) (by omega) μa ?_
  refine ⟨a_Fz_tr (by decide) (a_Fz_rf mdWW μ) ga.1, ga.2.1, ⟨ga.2.2.1, ga.2.2.2⟩, ?_⟩
  obtain ⟨n, h1, h2, h3⟩ := hC
  have e1 : μa.1 14 4 = μ.1 14 4 := a_Fz_at ga.1 14 4 (by decide)
  have e2 : bqC μa = bqC μ := by unfold bqC; rw [a_Fz_at ga.1 14 0 (by decide), a_Fz_at ga.1 14 1 (by decide), a_Fz_at ga.1 14 2 (by decide), (ga.1.1 14 3 (by decide)).2]
  have hS : ∀ x, S x ↔ (S x ∨ ∃ c, q ≤ c ∧ c < q ∧ OC κ q p s l c x) := fun x => ⟨Or.inl, fun z => z.resolve_right (fun ⟨c, c1, c2, _⟩ => by omega)⟩
  exact CI.iff ⟨n, by omega, e1.trans h2, by rw [e2]; exact h3⟩ hS
