/-! a way is read in few cells -/
set_option maxRecDepth 8000
def AG (μ μ' : zM) : Prop := (μ.1 56 0 = μ'.1 56 0) ∧ (μ.1 57 0 = μ'.1 57 0) ∧ (μ.1 56 1 = μ'.1 56 1) ∧ (μ.1 57 1 = μ'.1 57 1) ∧ (μ.1 56 2 = μ'.1 56 2) ∧ (μ.1 57 2 = μ'.1 57 2) ∧ (μ.1 56 3 = μ'.1 56 3) ∧ (μ.1 57 3 = μ'.1 57 3) ∧ (μ.1 50 4 = μ'.1 50 4) ∧ (μ.1 50 7 = μ'.1 50 7) ∧ (μ.1 50 8 = μ'.1 50 8) ∧ (μ.1 50 9 = μ'.1 50 9) ∧ (μ.1 50 10 = μ'.1 50 10) ∧ (μ.1 50 11 = μ'.1 50 11) ∧ (μ.1 50 21 = μ'.1 50 21) ∧ (μ.1 50 22 = μ'.1 50 22) ∧ (μ.1 52 = μ'.1 52) ∧ (μ.1 53 = μ'.1 53) ∧ (μ.1 58 = μ'.1 58) ∧ (μ.2.1 50 12 = μ'.2.1 50 12) ∧ (vp_in (μ'.1 50 22) 5)
theorem AG.s0 {μ μ' : zM} (h : AG μ μ') : μ.1 56 0 = μ'.1 56 0 := h.1
theorem AG.l0 {μ μ' : zM} (h : AG μ μ') : μ.1 57 0 = μ'.1 57 0 := h.2.1
theorem AG.s1 {μ μ' : zM} (h : AG μ μ') : μ.1 56 1 = μ'.1 56 1 := h.2.2.1
theorem AG.l1 {μ μ' : zM} (h : AG μ μ') : μ.1 57 1 = μ'.1 57 1 := h.2.2.2.1
theorem AG.s2 {μ μ' : zM} (h : AG μ μ') : μ.1 56 2 = μ'.1 56 2 := h.2.2.2.2.1
theorem AG.l2 {μ μ' : zM} (h : AG μ μ') : μ.1 57 2 = μ'.1 57 2 := h.2.2.2.2.2.1
theorem AG.s3 {μ μ' : zM} (h : AG μ μ') : μ.1 56 3 = μ'.1 56 3 := h.2.2.2.2.2.2.1
theorem AG.l3 {μ μ' : zM} (h : AG μ μ') : μ.1 57 3 = μ'.1 57 3 := h.2.2.2.2.2.2.2.1
theorem AG.c4 {μ μ' : zM} (h : AG μ μ') : μ.1 50 4 = μ'.1 50 4 := h.2.2.2.2.2.2.2.2.1
theorem AG.c7 {μ μ' : zM} (h : AG μ μ') : μ.1 50 7 = μ'.1 50 7 := h.2.2.2.2.2.2.2.2.2.1
theorem AG.c8 {μ μ' : zM} (h : AG μ μ') : μ.1 50 8 = μ'.1 50 8 := h.2.2.2.2.2.2.2.2.2.2.1
theorem AG.c9 {μ μ' : zM} (h : AG μ μ') : μ.1 50 9 = μ'.1 50 9 := h.2.2.2.2.2.2.2.2.2.2.2.1
theorem AG.c10 {μ μ' : zM} (h : AG μ μ') : μ.1 50 10 = μ'.1 50 10 := h.2.2.2.2.2.2.2.2.2.2.2.2.1
theorem AG.c11 {μ μ' : zM} (h : AG μ μ') : μ.1 50 11 = μ'.1 50 11 := h.2.2.2.2.2.2.2.2.2.2.2.2.2.1
theorem AG.c21 {μ μ' : zM} (h : AG μ μ') : μ.1 50 21 = μ'.1 50 21 := h.2.2.2.2.2.2.2.2.2.2.2.2.2.2.1
theorem AG.c22 {μ μ' : zM} (h : AG μ μ') : μ.1 50 22 = μ'.1 50 22 := h.2.2.2.2.2.2.2.2.2.2.2.2.2.2.2.1
theorem AG.r52 {μ μ' : zM} (h : AG μ μ') : μ.1 52 = μ'.1 52 := h.2.2.2.2.2.2.2.2.2.2.2.2.2.2.2.2.1
theorem AG.r53 {μ μ' : zM} (h : AG μ μ') : μ.1 53 = μ'.1 53 := h.2.2.2.2.2.2.2.2.2.2.2.2.2.2.2.2.2.1
theorem AG.r58 {μ μ' : zM} (h : AG μ μ') : μ.1 58 = μ'.1 58 := h.2.2.2.2.2.2.2.2.2.2.2.2.2.2.2.2.2.2.1
theorem AG.t12 {μ μ' : zM} (h : AG μ μ') : μ.2.1 50 12 = μ'.2.1 50 12 := h.2.2.2.2.2.2.2.2.2.2.2.2.2.2.2.2.2.2.2.1
theorem AG.v22 {μ μ' : zM} (h : AG μ μ') : vp_in (μ'.1 50 22) 5 := h.2.2.2.2.2.2.2.2.2.2.2.2.2.2.2.2.2.2.2.2
theorem ag_xT {μ : zM} {μ' : zM} (h : AG μ μ') (k : Int32) : xT μ k = xT μ' k := by simp only [xT, h.s0, h.s1, h.s2, h.s3, h.l0, h.l1, h.l2, h.l3, h.c4, h.c7, h.c8, h.c9, h.c10, h.c11, h.c21, h.c22, h.r52, h.r53, h.r58, h.t12]
theorem ag_xR {μ : zM} {μ' : zM} (h : AG μ μ') (k : Int32) : xR μ k = xR μ' k := by simp only [xR, h.s0, h.s1, h.s2, h.s3, h.l0, h.l1, h.l2, h.l3, h.c4, h.c7, h.c8, h.c9, h.c10, h.c11, h.c21, h.c22, h.r52, h.r53, h.r58, h.t12]
theorem ag_xE1 {μ : zM} {μ' : zM} (h : AG μ μ') (k : Int32) : xE1 μ k = xE1 μ' k := by simp only [xE1, h.s0, h.s1, h.s2, h.s3, h.l0, h.l1, h.l2, h.l3, h.c4, h.c7, h.c8, h.c9, h.c10, h.c11, h.c21, h.c22, h.r52, h.r53, h.r58, h.t12]
theorem ag_xE2 {μ : zM} {μ' : zM} (h : AG μ μ') (k : Int32) : xE2 μ k = xE2 μ' k := by simp only [xE2, h.s0, h.s1, h.s2, h.s3, h.l0, h.l1, h.l2, h.l3, h.c4, h.c7, h.c8, h.c9, h.c10, h.c11, h.c21, h.c22, h.r52, h.r53, h.r58, h.t12]
theorem ag_xHi0 {μ : zM} {μ' : zM} (h : AG μ μ') : xHi0 μ = xHi0 μ' := by simp only [xHi0, h.s0, h.s1, h.s2, h.s3, h.l0, h.l1, h.l2, h.l3, h.c4, h.c7, h.c8, h.c9, h.c10, h.c11, h.c21, h.c22, h.r52, h.r53, h.r58, h.t12]
theorem ag_xHi1 {μ : zM} {μ' : zM} (h : AG μ μ') : xHi1 μ = xHi1 μ' := by simp only [xHi1, h.s0, h.s1, h.s2, h.s3, h.l0, h.l1, h.l2, h.l3, h.c4, h.c7, h.c8, h.c9, h.c10, h.c11, h.c21, h.c22, h.r52, h.r53, h.r58, h.t12]
theorem ag_xHi2 {μ : zM} {μ' : zM} (h : AG μ μ') : xHi2 μ = xHi2 μ' := by simp only [xHi2, h.s0, h.s1, h.s2, h.s3, h.l0, h.l1, h.l2, h.l3, h.c4, h.c7, h.c8, h.c9, h.c10, h.c11, h.c21, h.c22, h.r52, h.r53, h.r58, h.t12]
theorem ag_xHi3 {μ : zM} {μ' : zM} (h : AG μ μ') : xHi3 μ = xHi3 μ' := by simp only [xHi3, h.s0, h.s1, h.s2, h.s3, h.l0, h.l1, h.l2, h.l3, h.c4, h.c7, h.c8, h.c9, h.c10, h.c11, h.c21, h.c22, h.r52, h.r53, h.r58, h.t12]
theorem ag_xOp {μ : zM} {μ' : zM} (h : AG μ μ') : ∀ q, xOp μ q = xOp μ' q := by
  intro q
  induction q with
  | zero => rfl
  | succ q ih => show (xOp μ q || _) = (xOp μ' q || _); rw [ih, h.r52]
theorem ag_tSt {μ : zM} {μ' : zM} (h : AG μ μ') (q i : Nat) (t : T7) : tSt μ q i t = tSt μ' q i t := by unfold tSt; rw [h.r52, h.r53, h.r58]
theorem ag_tF {μ : zM} {μ' : zM} (h : AG μ μ') (q : Nat) : ∀ n i t, tF μ q n i t = tF μ' q n i t := by
  intro n
  induction n with
  | zero => intro i t; rfl
  | succ n ih => intro i t; show tF μ q n (i + 1) (tSt μ q i t) = tF μ' q n (i + 1) (tSt μ' q i t); rw [ag_tSt h, ih]
theorem ag_tlG {μ : zM} {μ' : zM} (h : AG μ μ') (g : Int64) (t : T7) : tlG μ g t = tlG μ' g t := by unfold tlG; rw [h.c4, h.r58]
theorem ag_tlP {μ : zM} {μ' : zM} (h : AG μ μ') (g : Int64) (t : T7) : tlP μ g t = tlP μ' g t := rfl
theorem ag_w92_6 {μ : zM} {μ' : zM} (h : AG μ μ') (q : Nat) (s l : Nat → Nat) : w92_6 μ q s l = w92_6 μ' q s l := by
  unfold w92_6
  rw [h.c22]
  cases e : decide ((4 : Int32) ≤ μ'.1 50 22)
  · have h4 := vp_in_iff.mp (in4a h.v22 e)
    have hk : (μ'.1 50 22).toNatClampNeg < 4 := by rw [Int32.toNatClampNeg]; omega
    generalize (μ'.1 50 22).toNatClampNeg = k at hk ⊢
    rw [show μ.1 56 k = μ'.1 56 k from by
      rcases k with _ | _ | _ | _ | k
      · exact h.s0
      · exact h.s1
      · exact h.s2
      · exact h.s3
      · omega]
  · rfl
theorem ag_w164_7 {μ : zM} {μ' : zM} (h : AG μ μ') (q : Nat) (s l : Nat → Nat) : w164_7 μ q s l = w164_7 μ' q s l := by
  unfold w164_7
  rw [ag_w92_6 h]
  cases c : w92_6 μ' q s l
  · rfl
  · unfold w92_6 at c
    cases e : decide ((4 : Int32) ≤ μ'.1 50 22)
    · rw [h.c22]
      have h4 := vp_in_iff.mp (in4a h.v22 e)
      have hk : (μ'.1 50 22).toNatClampNeg < 4 := by rw [Int32.toNatClampNeg]; omega
      generalize (μ'.1 50 22).toNatClampNeg = k at hk ⊢
      rw [show μ.1 57 k = μ'.1 57 k from by
        rcases k with _ | _ | _ | _ | k
        · exact h.l0
        · exact h.l1
        · exact h.l2
        · exact h.l3
        · omega]
    · rw [e] at c; exact absurd (show false = true from c) (by decide)
theorem ag_w0_3 {μ : zM} {μ' : zM} (h : AG μ μ') (q : Nat) (s l : Nat → Nat) : w0_3 μ q s l = w0_3 μ' q s l := by simp only [w0_3, h.s0, h.s1, h.s2, h.s3, h.l0, h.l1, h.l2, h.l3, h.c4, h.c7, h.c8, h.c9, h.c10, h.c11, h.c21, h.c22, h.r52, h.r53, h.r58, h.t12]
theorem ag_w0_2 {μ : zM} {μ' : zM} (h : AG μ μ') (q : Nat) (s l : Nat → Nat) : w0_2 μ q s l = w0_2 μ' q s l := by simp only [w0_2, ag_xHi0 h, ag_xHi1 h, ag_xHi2 h, ag_xHi3 h, h.s0, h.s1, h.s2, h.s3, h.l0, h.l1, h.l2, h.l3, h.c4, h.c7, h.c8, h.c9, h.c10, h.c11, h.c21, h.c22, h.r52, h.r53, h.r58, h.t12]
theorem ag_w0_1 {μ : zM} {μ' : zM} (h : AG μ μ') (q : Nat) (s l : Nat → Nat) : w0_1 μ q s l = w0_1 μ' q s l := by simp only [w0_1, h.s0, h.s1, h.s2, h.s3, h.l0, h.l1, h.l2, h.l3, h.c4, h.c7, h.c8, h.c9, h.c10, h.c11, h.c21, h.c22, h.r52, h.r53, h.r58, h.t12]
theorem ag_w0_4 {μ : zM} {μ' : zM} (h : AG μ μ') (q : Nat) (s l : Nat → Nat) : w0_4 μ q s l = w0_4 μ' q s l := by simp only [w0_4, ag_xOp h, h.s0, h.s1, h.s2, h.s3, h.l0, h.l1, h.l2, h.l3, h.c4, h.c7, h.c8, h.c9, h.c10, h.c11, h.c21, h.c22, h.r52, h.r53, h.r58, h.t12]
theorem ag_w92_5 {μ : zM} {μ' : zM} (h : AG μ μ') (q : Nat) (s l : Nat → Nat) : w92_5 μ q s l = w92_5 μ' q s l := by simp only [w92_5, h.s0, h.s1, h.s2, h.s3, h.l0, h.l1, h.l2, h.l3, h.c4, h.c7, h.c8, h.c9, h.c10, h.c11, h.c21, h.c22, h.r52, h.r53, h.r58, h.t12]
theorem ag_w184_9 {μ : zM} {μ' : zM} (h : AG μ μ') (q : Nat) (s l : Nat → Nat) : w184_9 μ q s l = w184_9 μ' q s l := by simp only [w184_9, ag_w92_6 h, ag_w164_7 h, ag_w0_1 h, ag_w0_4 h, ag_w92_5 h, h.s0, h.s1, h.s2, h.s3, h.l0, h.l1, h.l2, h.l3, h.c4, h.c7, h.c8, h.c9, h.c10, h.c11, h.c21, h.c22, h.r52, h.r53, h.r58, h.t12]
theorem ag_w184_8 {μ : zM} {μ' : zM} (h : AG μ μ') (q : Nat) (s l : Nat → Nat) : w184_8 μ q s l = w184_8 μ' q s l := by simp only [w184_8, ag_w92_6 h, ag_w164_7 h, h.s0, h.s1, h.s2, h.s3, h.l0, h.l1, h.l2, h.l3, h.c4, h.c7, h.c8, h.c9, h.c10, h.c11, h.c21, h.c22, h.r52, h.r53, h.r58, h.t12]
theorem ag_w261_g {μ : zM} {μ' : zM} (h : AG μ μ') (q : Nat) (s l : Nat → Nat) : w261_g μ q s l = w261_g μ' q s l := by simp only [w261_g, h.s0, h.s1, h.s2, h.s3, h.l0, h.l1, h.l2, h.l3, h.c4, h.c7, h.c8, h.c9, h.c10, h.c11, h.c21, h.c22, h.r52, h.r53, h.r58, h.t12]
theorem ag_w261_p {μ : zM} {μ' : zM} (h : AG μ μ') (q : Nat) (s l : Nat → Nat) : w261_p μ q s l = w261_p μ' q s l := by simp only [w261_p, ag_w0_4 h, ag_w184_9 h, h.s0, h.s1, h.s2, h.s3, h.l0, h.l1, h.l2, h.l3, h.c4, h.c7, h.c8, h.c9, h.c10, h.c11, h.c21, h.c22, h.r52, h.r53, h.r58, h.t12]
theorem ag_w302_p {μ : zM} {μ' : zM} (h : AG μ μ') (q : Nat) (s l : Nat → Nat) : w302_p μ q s l = w302_p μ' q s l := by simp only [w302_p, ag_w261_p h, ag_xT h, h.s0, h.s1, h.s2, h.s3, h.l0, h.l1, h.l2, h.l3, h.c4, h.c7, h.c8, h.c9, h.c10, h.c11, h.c21, h.c22, h.r52, h.r53, h.r58, h.t12]
theorem ag_w402_0_p {μ : zM} {μ' : zM} (h : AG μ μ') (q : Nat) (s l : Nat → Nat) : w402_0_p μ q s l = w402_0_p μ' q s l := by simp only [w402_0_p, ag_w302_p h, ag_xT h, ag_xR h, h.s0, h.s1, h.s2, h.s3, h.l0, h.l1, h.l2, h.l3, h.c4, h.c7, h.c8, h.c9, h.c10, h.c11, h.c21, h.c22, h.r52, h.r53, h.r58, h.t12]
theorem ag_w402_1_p {μ : zM} {μ' : zM} (h : AG μ μ') (q : Nat) (s l : Nat → Nat) : w402_1_p μ q s l = w402_1_p μ' q s l := by simp only [w402_1_p, ag_w402_0_p h, ag_xT h, ag_xR h, h.s0, h.s1, h.s2, h.s3, h.l0, h.l1, h.l2, h.l3, h.c4, h.c7, h.c8, h.c9, h.c10, h.c11, h.c21, h.c22, h.r52, h.r53, h.r58, h.t12]
theorem ag_w402_2_p {μ : zM} {μ' : zM} (h : AG μ μ') (q : Nat) (s l : Nat → Nat) : w402_2_p μ q s l = w402_2_p μ' q s l := by simp only [w402_2_p, ag_w402_1_p h, ag_xT h, ag_xR h, h.s0, h.s1, h.s2, h.s3, h.l0, h.l1, h.l2, h.l3, h.c4, h.c7, h.c8, h.c9, h.c10, h.c11, h.c21, h.c22, h.r52, h.r53, h.r58, h.t12]
theorem ag_w402_3_p {μ : zM} {μ' : zM} (h : AG μ μ') (q : Nat) (s l : Nat → Nat) : w402_3_p μ q s l = w402_3_p μ' q s l := by simp only [w402_3_p, ag_w402_2_p h, ag_xT h, ag_xR h, h.s0, h.s1, h.s2, h.s3, h.l0, h.l1, h.l2, h.l3, h.c4, h.c7, h.c8, h.c9, h.c10, h.c11, h.c21, h.c22, h.r52, h.r53, h.r58, h.t12]
theorem ag_w402_4_p {μ : zM} {μ' : zM} (h : AG μ μ') (q : Nat) (s l : Nat → Nat) : w402_4_p μ q s l = w402_4_p μ' q s l := by simp only [w402_4_p, ag_w402_3_p h, ag_xT h, ag_xR h, h.s0, h.s1, h.s2, h.s3, h.l0, h.l1, h.l2, h.l3, h.c4, h.c7, h.c8, h.c9, h.c10, h.c11, h.c21, h.c22, h.r52, h.r53, h.r58, h.t12]
theorem ag_w402_5_p {μ : zM} {μ' : zM} (h : AG μ μ') (q : Nat) (s l : Nat → Nat) : w402_5_p μ q s l = w402_5_p μ' q s l := by simp only [w402_5_p, ag_w402_4_p h, ag_xT h, ag_xR h, h.s0, h.s1, h.s2, h.s3, h.l0, h.l1, h.l2, h.l3, h.c4, h.c7, h.c8, h.c9, h.c10, h.c11, h.c21, h.c22, h.r52, h.r53, h.r58, h.t12]
theorem ag_w402_6_p {μ : zM} {μ' : zM} (h : AG μ μ') (q : Nat) (s l : Nat → Nat) : w402_6_p μ q s l = w402_6_p μ' q s l := by simp only [w402_6_p, ag_w402_5_p h, ag_xT h, ag_xR h, h.s0, h.s1, h.s2, h.s3, h.l0, h.l1, h.l2, h.l3, h.c4, h.c7, h.c8, h.c9, h.c10, h.c11, h.c21, h.c22, h.r52, h.r53, h.r58, h.t12]
theorem ag_w402_7_p {μ : zM} {μ' : zM} (h : AG μ μ') (q : Nat) (s l : Nat → Nat) : w402_7_p μ q s l = w402_7_p μ' q s l := by simp only [w402_7_p, ag_w402_6_p h, ag_xT h, h.s0, h.s1, h.s2, h.s3, h.l0, h.l1, h.l2, h.l3, h.c4, h.c7, h.c8, h.c9, h.c10, h.c11, h.c21, h.c22, h.r52, h.r53, h.r58, h.t12]
theorem ag_w402_8_p {μ : zM} {μ' : zM} (h : AG μ μ') (q : Nat) (s l : Nat → Nat) : w402_8_p μ q s l = w402_8_p μ' q s l := by simp only [w402_8_p, ag_w402_7_p h, ag_xT h, h.s0, h.s1, h.s2, h.s3, h.l0, h.l1, h.l2, h.l3, h.c4, h.c7, h.c8, h.c9, h.c10, h.c11, h.c21, h.c22, h.r52, h.r53, h.r58, h.t12]
theorem ag_w519_p {μ : zM} {μ' : zM} (h : AG μ μ') (q : Nat) (s l : Nat → Nat) : w519_p μ q s l = w519_p μ' q s l := by simp only [w519_p, ag_w0_3 h, ag_w0_2 h, ag_w0_1 h, ag_w402_8_p h, ag_xR h, ag_xE1 h, ag_xE2 h, h.s0, h.s1, h.s2, h.s3, h.l0, h.l1, h.l2, h.l3, h.c4, h.c7, h.c8, h.c9, h.c10, h.c11, h.c21, h.c22, h.r52, h.r53, h.r58, h.t12]
theorem ag_w639_10 {μ : zM} {μ' : zM} (h : AG μ μ') (q : Nat) (s l : Nat → Nat) : w639_10 μ q s l = w639_10 μ' q s l := by simp only [w639_10, ag_xT h, h.s0, h.s1, h.s2, h.s3, h.l0, h.l1, h.l2, h.l3, h.c4, h.c7, h.c8, h.c9, h.c10, h.c11, h.c21, h.c22, h.r52, h.r53, h.r58, h.t12]
theorem ag_w639_11 {μ : zM} {μ' : zM} (h : AG μ μ') (q : Nat) (s l : Nat → Nat) : w639_11 μ q s l = w639_11 μ' q s l := by simp only [w639_11, ag_xT h, h.s0, h.s1, h.s2, h.s3, h.l0, h.l1, h.l2, h.l3, h.c4, h.c7, h.c8, h.c9, h.c10, h.c11, h.c21, h.c22, h.r52, h.r53, h.r58, h.t12]
theorem ag_w639_g {μ : zM} {μ' : zM} (h : AG μ μ') (q : Nat) (s l : Nat → Nat) : w639_g μ q s l = w639_g μ' q s l := by simp only [w639_g, ag_w0_3 h, ag_w0_2 h, ag_w261_g h, ag_xT h, ag_tF h, ag_tlG h, h.s0, h.s1, h.s2, h.s3, h.l0, h.l1, h.l2, h.l3, h.c4, h.c7, h.c8, h.c9, h.c10, h.c11, h.c21, h.c22, h.r52, h.r53, h.r58, h.t12]
theorem ag_w639_p {μ : zM} {μ' : zM} (h : AG μ μ') (q : Nat) (s l : Nat → Nat) : w639_p μ q s l = w639_p μ' q s l := by simp only [w639_p, ag_w519_p h, ag_xT h, ag_tF h, ag_tlP h, h.s0, h.s1, h.s2, h.s3, h.l0, h.l1, h.l2, h.l3, h.c4, h.c7, h.c8, h.c9, h.c10, h.c11, h.c21, h.c22, h.r52, h.r53, h.r58, h.t12]
theorem ag_w861_f {μ : zM} {μ' : zM} (h : AG μ μ') (q : Nat) (s l : Nat → Nat) : w861_f μ q s l = w861_f μ' q s l := by simp only [w861_f, ag_w0_4 h, h.s0, h.s1, h.s2, h.s3, h.l0, h.l1, h.l2, h.l3, h.c4, h.c7, h.c8, h.c9, h.c10, h.c11, h.c21, h.c22, h.r52, h.r53, h.r58, h.t12]
theorem ag_wfu0 {μ : zM} {μ' : zM} (h : AG μ μ') (q : Nat) (s l : Nat → Nat) : wfu0 μ q s l = wfu0 μ' q s l := by simp only [wfu0, ag_w861_f h, ag_xHi0 h, h.s0, h.s1, h.s2, h.s3, h.l0, h.l1, h.l2, h.l3, h.c4, h.c7, h.c8, h.c9, h.c10, h.c11, h.c21, h.c22, h.r52, h.r53, h.r58, h.t12]
theorem ag_wfu1 {μ : zM} {μ' : zM} (h : AG μ μ') (q : Nat) (s l : Nat → Nat) : wfu1 μ q s l = wfu1 μ' q s l := by simp only [wfu1, ag_wfu0 h, ag_xHi1 h, h.s0, h.s1, h.s2, h.s3, h.l0, h.l1, h.l2, h.l3, h.c4, h.c7, h.c8, h.c9, h.c10, h.c11, h.c21, h.c22, h.r52, h.r53, h.r58, h.t12]
theorem ag_wfu2 {μ : zM} {μ' : zM} (h : AG μ μ') (q : Nat) (s l : Nat → Nat) : wfu2 μ q s l = wfu2 μ' q s l := by simp only [wfu2, ag_wfu1 h, ag_xHi2 h, h.s0, h.s1, h.s2, h.s3, h.l0, h.l1, h.l2, h.l3, h.c4, h.c7, h.c8, h.c9, h.c10, h.c11, h.c21, h.c22, h.r52, h.r53, h.r58, h.t12]
theorem ag_wfu3 {μ : zM} {μ' : zM} (h : AG μ μ') (q : Nat) (s l : Nat → Nat) : wfu3 μ q s l = wfu3 μ' q s l := by simp only [wfu3, ag_wfu2 h, ag_xHi3 h, h.s0, h.s1, h.s2, h.s3, h.l0, h.l1, h.l2, h.l3, h.c4, h.c7, h.c8, h.c9, h.c10, h.c11, h.c21, h.c22, h.r52, h.r53, h.r58, h.t12]
theorem ag_wFu {μ : zM} {μ' : zM} (h : AG μ μ') (q : Nat) (s l : Nat → Nat) : wFu μ q s l = wFu μ' q s l := by simp only [wFu, ag_w92_6 h, ag_w0_4 h, ag_w184_9 h, ag_w184_8 h, ag_wfu3 h, h.s0, h.s1, h.s2, h.s3, h.l0, h.l1, h.l2, h.l3, h.c4, h.c7, h.c8, h.c9, h.c10, h.c11, h.c21, h.c22, h.r52, h.r53, h.r58, h.t12]
theorem ag_cOf {μ : zM} {μ' : zM} (h : AG μ μ') (g pl : Int64) (f : Int32) (b : Bool) : cOf (mGP μ g pl f) b = cOf (mGP μ' g pl f) b := by
  have a1 : ∀ ν : zM, (mGP ν g pl f).2.1 50 24 = g := fun _ => rfl
  have a2 : ∀ ν : zM, (mGP ν g pl f).2.1 50 25 = pl := fun _ => rfl
  have a3 : ∀ ν : zM, (mGP ν g pl f).2.1 50 12 = ν.2.1 50 12 := fun _ => rfl
  have a4 : ∀ ν : zM, (mGP ν g pl f).1 50 23 = f := fun _ => rfl
  have a5 : ∀ ν : zM, (mGP ν g pl f).1 50 11 = ν.1 50 11 := fun _ => rfl
  have a6 : ∀ ν : zM, (mGP ν g pl f).1 50 10 = ν.1 50 10 := fun _ => rfl
  simp only [cOf, cpG, cpP, bsH, a1, a2, a3, a4, a5, a6, h.t12, h.c11, h.c10]
/-- the value of a way, as the reference has it -/
def vRf (μ : zM) (q : Nat) (s l : Nat → Nat) : Q4 := cOf (mGP μ (w639_g μ q s l) (w639_p μ q s l) (wFu μ q s l)) (xOp μ q)
theorem ag_vRf {μ μ' : zM} (h : AG μ μ') (q : Nat) (s l : Nat → Nat) : vRf μ q s l = vRf μ' q s l := by
  unfold vRf
  rw [ag_w639_g h, ag_w639_p h, ag_wFu h, ag_xOp h, ag_cOf h]
/-- the memory of a way -/
def yM (μ : zM) (s l : Nat → Nat) (p co : Int32) : zM := (fun r k => if r = 56 then nI (s k) else if r = 57 then nI (l k) else if r = 50 ∧ k = 21 then p else if r = 50 ∧ k = 22 then co else μ.1 r k, μ.2)
