/-! the first state: both games -/
set_option maxRecDepth 8000
theorem mu0_z (r k : Nat) (h1 : r ≠ 61) (h2 : ¬ (r = 0 ∧ k = 15)) (h3 : ¬ (r = 50 ∧ (k = 49 ∨ k = 50 ∨ k = 51))) (h4 : ¬ ((r = 18 ∨ r = 26 ∨ r = 34 ∨ r = 42) ∧ k = 4)) : mu0.1 r k = 0 := by
  show (bif Nat.beq r 61 then _ else bif (Nat.beq r 0 && Nat.beq k 15) || (Nat.beq r 50 && (Nat.beq k 49 || (Nat.beq k 50 || Nat.beq k 51))) then (-1 : Int32) else bif (Nat.beq r 18 || (Nat.beq r 26 || (Nat.beq r 34 || Nat.beq r 42))) && Nat.beq k 4 then (25000 : Int32) else 0) = 0
  have b : ∀ x y : Nat, Nat.beq x y = decide (x = y) := fun x y => by
    by_cases q : x = y
    · subst q; rw [decide_eq_true rfl]; exact Nat.beq_refl x
    · rw [decide_eq_false q]; exact z_bf q
  simp only [b]
  rw [decide_eq_false h1]
  have c2 : (decide (r = 0) && decide (k = 15) || decide (r = 50) && (decide (k = 49) || (decide (k = 50) || decide (k = 51)))) = false := by
    rw [Bool.eq_false_iff]
    intro q
    simp only [Bool.or_eq_true, Bool.and_eq_true, decide_eq_true_iff] at q
    omega
  have c3 : ((decide (r = 18) || (decide (r = 26) || (decide (r = 34) || decide (r = 42)))) && decide (k = 4)) = false := by
    rw [Bool.eq_false_iff]
    intro q
    simp only [Bool.or_eq_true, Bool.and_eq_true, decide_eq_true_iff] at q
    omega
  rw [c2, c3]
  rfl
theorem cl0 : (0 : Int32).toNatClampNeg = 0 := by decide
theorem RC_0 : RCl mu0 mu0 := by
  refine ⟨rfl, rfl, rfl, rfl, rfl, rfl, rfl, rfl, rfl, fun i _ => ?_, fun s hs => ?_, fun s hs => ?_, fun s hs => ?_, fun s hs => ?_, fun s hs => ?_, fun s hs => ?_, fun s hs => ?_, fun s k hs hk => ?_, fun s i hs hi => ?_, fun s i hs hi => ?_, fun s i hs hi => ?_, fun i f hi hf _ => ?_, fun i hi => rfl, fun s k hs hk => ?_, fun s hs => ?_, fun s i hs hi => ?_, fun s hs => ?_, fun s hs => ?_, fun s i hs hi => ?_, Or.inl rfl, fun s hs => Or.inl ?_, fun h => ?_⟩
  · rw [mu0_z 3 i (by omega) (by omega) (by omega) (by omega), mu0_z 59 i (by omega) (by omega) (by omega) (by omega)]
  · obtain rfl | rfl | rfl | rfl := t_four hs <;> decide +kernel
  · rw [mu0_z (18 + 8 * s) 5 (by omega) (by omega) (by omega) (by omega), mu0_z 67 s (by omega) (by omega) (by omega) (by omega)]
  · rw [mu0_z (18 + 8 * s) 7 (by omega) (by omega) (by omega) (by omega), mu0_z 69 s (by omega) (by omega) (by omega) (by omega)]
  · rw [mu0_z (18 + 8 * s) 8 (by omega) (by omega) (by omega) (by omega), mu0_z 70 s (by omega) (by omega) (by omega) (by omega)]
  · rw [mu0_z (18 + 8 * s) 9 (by omega) (by omega) (by omega) (by omega), mu0_z 71 s (by omega) (by omega) (by omega) (by omega)]
  · rw [mu0_z (18 + 8 * s) 2 (by omega) (by omega) (by omega) (by omega), mu0_z 66 s (by omega) (by omega) (by omega) (by omega)]
  · rw [mu0_z (19 + 8 * s) 4 (by omega) (by omega) (by omega) (by omega), mu0_z 64 s (by omega) (by omega) (by omega) (by omega)]
  · rw [mu0_z (20 + 8 * s) k (by omega) (by omega) (by omega) (by omega), mu0_z 60 (34 * s + k) (by omega) (by omega) (by omega) (by omega)]
  · rw [mu0_z (22 + 8 * s) i (by omega) (by omega) (by omega) (by omega), mu0_z 62 (4 * s + i) (by omega) (by omega) (by omega) (by omega)]
  · rw [mu0_z (23 + 8 * s) i (by omega) (by omega) (by omega) (by omega), mu0_z 63 (4 * s + i) (by omega) (by omega) (by omega) (by omega)]
  · rw [mu0_z (24 + 8 * s) i (by omega) (by omega) (by omega) (by omega), mu0_z 65 (136 * s + i) (by omega) (by omega) (by omega) (by omega)]
  · rw [mu0_z (25 + 8 * i) f (by omega) (by omega) (by omega) (by omega), mu0_z 72 (7 * i + f) (by omega) (by omega) (by omega) (by omega)]
  · rw [mu0_z (21 + 8 * s) k (by omega) (by omega) (by omega) (by omega), mu0_z 64 s (by omega) (by omega) (by omega) (by omega), mu0_z 60 (34 * s + k) (by omega) (by omega) (by omega) (by omega), cl0]
    rfl
  · rw [mu0_z (19 + 8 * s) 5 (by omega) (by omega) (by omega) (by omega), show (fun k => mu0.1 60 (34 * s + k)) = (fun _ => (0 : Int32)) from funext fun k => mu0_z 60 (34 * s + k) (by omega) (by omega) (by omega) (by omega)]
    decide +kernel
  · rw [mu0_z 64 s (by omega) (by omega) (by omega) (by omega), cl0] at hi
    exact absurd hi (by omega)
  · show (0 : Int64) = kb (tkM mu0 s) 34
    refine (kb_0 34 (fun b _ => ?_)).symm
    unfold tkM
    rw [mu0_z 66 s (by omega) (by omega) (by omega) (by omega), cl0]
    rfl
  · rw [mu0_z 66 s (by omega) (by omega) (by omega) (by omega)]
    decide
  · rw [mu0_z 66 s (by omega) (by omega) (by omega) (by omega), cl0] at hi
    exact absurd hi (by omega)
  · exact mu0_z 67 s (by omega) (by omega) (by omega) (by omega)
  · rw [mu0_z 50 55 (by omega) (by omega) (by omega) (by omega)] at h
    exact absurd h (by decide)
theorem RG_0 : RG mu0 mu0 := ⟨RC_0, Or.inl ⟨rfl, rfl, rfl, rfl, rfl⟩⟩
