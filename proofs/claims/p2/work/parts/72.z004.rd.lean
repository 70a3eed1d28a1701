/-! a seat's tiles in the place of the desk's, the game's judge in the place of the desk's -/
set_option maxRecDepth 8000
def swp (L : List (Nat × Nat)) (r : Nat) : Nat := match L with
  | [] => r
  | q :: t => if r = q.1 then q.2 else if r = q.2 then q.1 else swp t r
/-- seat j's tiles for the desk's, judge 4 for judge 14 -/
def sgm (j : Nat) : Nat → Nat := swp [(9, 19 + 8 * j), (10, 20 + 8 * j), (11, 21 + 8 * j), (12, 22 + 8 * j), (13, 23 + 8 * j), (14, 4), (15, 5), (16, 6), (17, 7)]
theorem sgm_hi (j : Nat) (hj : j < 4) (r : Nat) (hr : 79 ≤ r) : sgm j r = r := by
  unfold sgm
  simp only [swp]
  repeat' rw [if_neg (by omega)]
theorem sgm_lo : ∀ j, j < 4 → ∀ r, r < 79 → sgm j (sgm j r) = r ∧ z_sh (sgm j r) = z_sh r := by decide +kernel
theorem gr_hi : ∀ r, r < 79 → ∀ q ∈ z_grs.getD r [], q.1 < 80 := by decide +kernel
theorem lk_none {l : List (Nat × Nat)} {k : Nat} (h : ∀ q ∈ l, q.1 < 80) (hk : 80 ≤ k) : z_lk l k = none := by
  induction l with
  | nil => rfl
  | cons q t ih =>
    show (bif Nat.beq q.1 k then some q.2 else z_lk t k) = none
    have : Nat.beq q.1 k = false := by rw [← Bool.not_eq_true, bq_t]; have := h q List.mem_cons_self; omega
    rw [this]
    exact ih (fun q hq => h q (List.mem_cons_of_mem _ hq))
theorem gr_lo : ∀ j, j < 4 → ∀ r, r < 79 → (!(Nat.beq (z_sh r).1 0 && (Nat.beq (z_sh r).2.1 0 || Nat.beq (z_sh r).2.1 2)) || (List.range 80).all (fun k => Nat.beq (z_gr (sgm j r) k) (sgm j (z_gr r k)))) = true := by decide +kernel
theorem sgm_lt : ∀ j, j < 4 → ∀ r, r < 79 → sgm j r < 79 := by decide +kernel
theorem sgm_0 : ∀ j, j < 4 → sgm j 0 = 0 ∧ sgm j 60 = 60 := by decide +kernel
theorem RN_sgm (j : Nat) (hj : j < 4) : RN (sgm j) := by
  refine ⟨fun r => ?_, fun r => ?_, fun r hr => sgm_hi j hj r hr, (sgm_0 j hj).1, (sgm_0 j hj).2, fun r k h0 h1 => ?_⟩
  · by_cases c : r < 79
    · exact (sgm_lo j hj r c).1
    · rw [sgm_hi j hj r (by omega), sgm_hi j hj r (by omega)]
  · by_cases c : r < 79
    · exact (sgm_lo j hj r c).2
    · rw [sgm_hi j hj r (by omega)]
  · by_cases c : r < 79
    · by_cases hk : k < 80
      · have z := gr_lo j hj r c
        rw [show (Nat.beq (z_sh r).1 0 && (Nat.beq (z_sh r).2.1 0 || Nat.beq (z_sh r).2.1 2)) = true from by
          rw [Bool.and_eq_true, Bool.or_eq_true, bq_t, bq_t, bq_t]; exact ⟨h0, h1⟩] at z
        have z := List.all_eq_true.mp (show (List.range 80).all (fun k => Nat.beq (z_gr (sgm j r) k) (sgm j (z_gr r k))) = true from z) k (List.mem_range.mpr hk)
        exact z_beq z
      · unfold z_gr
        rw [lk_none (gr_hi r c) (by omega), lk_none (gr_hi (sgm j r) (sgm_lt j hj r c)) (by omega)]
        exact (sgm_0 j hj).1.symm
    · exfalso
      by_cases h9 : r = 79
      · rw [h9] at h0; exact absurd h0 (by decide +kernel)
      · have e : z_sh r = (9, 0, 0) := by
          unfold z_sh
          rw [List.getD_eq_getElem?_getD, List.getElem?_eq_none (by have : z_shs.length = 80 := by decide +kernel
                                                                    omega)]
          rfl
        rw [e] at h0
        exact absurd h0 (by decide)
