/-! who may claim a SET: alike -/
set_option maxRecDepth 8000
abbrev xMC (μ : zM) (s : Nat) : Bool := (decide ((μ.1 0 7) = 2)) && ((sI (nI s)) && (!(decide ((nI s) = (μ.1 0 8))) && ((decide ((μ.1 (18 + 8 * s) 5) = 0)) && (!(decide ((xLf μ) ≤ 0)) && (!(xAny μ))))))
abbrev mMC (μ : zM) (s : Nat) : Bool := (decide ((μ.1 50 44) = 2)) && (!(anS μ) && (!(decide (((122 - (μ.1 50 47)) - (μ.1 50 46)) ≤ 0)) && (!(decide ((nI s) = (μ.1 50 45))) && (decide ((μ.1 67 s) = 0)))))
theorem any_eq {x m : zM} (R : RCl x m) : xAny x = anS m := by
  have e0 : x.1 18 9 = m.1 71 0 := R.sy 0 (by decide)
  have e1 : x.1 26 9 = m.1 71 1 := R.sy 1 (by decide)
  have e2 : x.1 34 9 = m.1 71 2 := R.sy 2 (by decide)
  have e3 : x.1 42 9 = m.1 71 3 := R.sy 3 (by decide)
  unfold xAny anS
  rw [e0, e1, e2, e3]
theorem mc_eq {x m : zM} (h : RG x m) {s : Nat} (hs : s < 4) : xMC x s = mMC m s := by
  have R := h.1
  obtain ⟨e7, e8, e3⟩ := rg_ph h
  unfold xMC mMC
  rw [e7, e8, sI_n hs, R.be s hs, any_eq R, Bool.true_and]
  rcases h.2 with ⟨p1, p2, -, -, -⟩ | ⟨p, t, c, P⟩
  · rw [p2]; rfl
  · unfold xLf
    rw [R.sd, P.is, e3, R.nx, show decide ((1 : Int32) = 0) = false from by decide, cond_false]
    generalize decide (m.1 50 44 = 2) = b1
    generalize anS m = b2
    generalize decide (122 - m.1 50 47 - m.1 50 46 ≤ 0) = b3
    generalize decide (nI s = m.1 50 45) = b4
    generalize decide (m.1 67 s = 0) = b5
    cases b1 <;> cases b2 <;> cases b3 <;> cases b4 <;> cases b5 <;> rfl
