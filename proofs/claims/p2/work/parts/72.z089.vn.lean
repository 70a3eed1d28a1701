/-! a tile stays to be discarded: alike (three) -/
set_option maxRecDepth 8000
theorem hd_one : ∀ c, c < 34 → ∀ k, k < 34 → xHd ((1 : Int64) <<< ((nI c).toInt64 &&& 63)) (nI k) = decide (k = c) := by decide +kernel
theorem hd_zero : ∀ k, k < 34 → xHd 0 (nI k) = false := by decide +kernel
theorem nI_dec {a b : Nat} (ha : a < 34) (hb : b < 34) : decide (nI a = nI b) = decide (a = b) := by
  by_cases e : a = b
  · rw [decide_eq_true e, decide_eq_true (by rw [e])]
  · rw [decide_eq_false e, decide_eq_false (fun z => e ((nI_eq (by omega) (by omega)).mp z))]
theorem ko_three {x m : zM} (R : RCl x m) {s c : Nat} (hs : s < 4) (hc : c < 34) : kA (koF x s 0 ((1 : Int64) <<< ((nI c).toInt64 &&& 63))) 34 = kA (cdF (z_giv (z_ui (z_ui (z_ui m 50 0 0) 50 50 (nI c)) 50 51 (-1)) s c (-2)) s) 34 := by
  refine kA_cg (fun k hk => ?_)
  have e50 : (z_giv (z_ui (z_ui (z_ui m 50 0 0) 50 50 (nI c)) 50 51 (-1)) s c (-2)).1 50 50 = nI c := by rw [giv_o (by decide), ui_k (by decide), ui_s]
  have e51 : (z_giv (z_ui (z_ui (z_ui m 50 0 0) 50 50 (nI c)) 50 51 (-1)) s c (-2)).1 50 51 = -1 := by rw [giv_o (by decide), ui_s]
  unfold koF cdF
  rw [hd_zero k hk, hd_one c hc k hk, show nB false = 0 from rfl, Int32.sub_zero, R.hd s k hs hk, e50, e51, nI_dec hk hc, nI_m1n hk]
  by_cases e : k = c
  · rw [decide_eq_true e]; simp
  · rw [decide_eq_false e, giv_60, if_neg (by omega), ui_o (by decide), ui_o (by decide), ui_o (by decide)]; simp
