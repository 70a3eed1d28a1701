/-! the relation is kept: a hand without a winner -/
set_option maxRecDepth 8000
theorem z_zero_j {μ : zM} {r k : Nat} : (z_zero μ).2.1 r k = μ.2.1 r k := rfl
theorem rc_nob0000 {x m : zM} (R : RCl x m) : RCl (x) (nM0000 m) := by
  have ne : ∀ r k, gM2 r k → r ≠ 79 := fun r k h => by unfold gM2 at h; omega
  exact RCl.cg2 (x := x) (x' := x) (m := m) (m' := nM0000 m) (q2_x _) (fun r k h => ⟨by unfold nM0000; rw [ui_o (ne r k h), ui_o (ne r k h), ui_o (ne r k h), ui_o (ne r k h), z_zero_o (ne r k h)], rfl⟩) R
theorem rc_nob0001 {x m : zM} (R : RCl x m) : RCl (z_ui (z_ui (z_ui (z_ui x 18 4 ((x.1 18 4) + (-1000))) 26 4 ((x.1 26 4) + (-1000))) 34 4 ((x.1 34 4) + (-1000))) 42 4 ((x.1 42 4) + 3000)) (nM0001 m) := by
  have e0 : x.1 18 4 = m.1 61 0 := R.pt 0 (by decide)
  have e1 : x.1 26 4 = m.1 61 1 := R.pt 1 (by decide)
  have e2 : x.1 34 4 = m.1 61 2 := R.pt 2 (by decide)
  have e3 : x.1 42 4 = m.1 61 3 := R.pt 3 (by decide)
  unfold nM0001
  exact ⟨(by simp (disch := first | decide | omega) only [↓ui_s, ↓uj_s, ↓ui_o, ↓ui_k, ↓uj_o, ↓uj_k, ↓ui_j, ↓uj_i, ↓z_zero_o, ↓z_zero_j, ui_s, uj_s, ui_o, ui_k, uj_o, uj_k, ui_j, uj_i, z_zero_o, z_zero_j]; exact R.dl), (by simp (disch := first | decide | omega) only [↓ui_s, ↓uj_s, ↓ui_o, ↓ui_k, ↓uj_o, ↓uj_k, ↓ui_j, ↓uj_i, ↓z_zero_o, ↓z_zero_j, ui_s, uj_s, ui_o, ui_k, uj_o, uj_k, ui_j, uj_i, z_zero_o, z_zero_j]; exact R.rn), (by simp (disch := first | decide | omega) only [↓ui_s, ↓uj_s, ↓ui_o, ↓ui_k, ↓uj_o, ↓uj_k, ↓ui_j, ↓uj_i, ↓z_zero_o, ↓z_zero_j, ui_s, uj_s, ui_o, ui_k, uj_o, uj_k, ui_j, uj_i, z_zero_o, z_zero_j]; exact R.st), (by simp (disch := first | decide | omega) only [↓ui_s, ↓uj_s, ↓ui_o, ↓ui_k, ↓uj_o, ↓uj_k, ↓ui_j, ↓uj_i, ↓z_zero_o, ↓z_zero_j, ui_s, uj_s, ui_o, ui_k, uj_o, uj_k, ui_j, uj_i, z_zero_o, z_zero_j]; exact R.bt), (by simp (disch := first | decide | omega) only [↓ui_s, ↓uj_s, ↓ui_o, ↓ui_k, ↓uj_o, ↓uj_k, ↓ui_j, ↓uj_i, ↓z_zero_o, ↓z_zero_j, ui_s, uj_s, ui_o, ui_k, uj_o, uj_k, ui_j, uj_i, z_zero_o, z_zero_j]; exact R.en), (by simp (disch := first | decide | omega) only [↓ui_s, ↓uj_s, ↓ui_o, ↓ui_k, ↓uj_o, ↓uj_k, ↓ui_j, ↓uj_i, ↓z_zero_o, ↓z_zero_j, ui_s, uj_s, ui_o, ui_k, uj_o, uj_k, ui_j, uj_i, z_zero_o, z_zero_j]; exact R.he), (by simp (disch := first | decide | omega) only [↓ui_s, ↓uj_s, ↓ui_o, ↓ui_k, ↓uj_o, ↓uj_k, ↓ui_j, ↓uj_i, ↓z_zero_o, ↓z_zero_j, ui_s, uj_s, ui_o, ui_k, uj_o, uj_k, ui_j, uj_i, z_zero_o, z_zero_j]; exact R.wc), (by simp (disch := first | decide | omega) only [↓ui_s, ↓uj_s, ↓ui_o, ↓ui_k, ↓uj_o, ↓uj_k, ↓ui_j, ↓uj_i, ↓z_zero_o, ↓z_zero_j, ui_s, uj_s, ui_o, ui_k, uj_o, uj_k, ui_j, uj_i, z_zero_o, z_zero_j]; exact R.sd), (by simp (disch := first | decide | omega) only [↓ui_s, ↓uj_s, ↓ui_o, ↓ui_k, ↓uj_o, ↓uj_k, ↓ui_j, ↓uj_i, ↓z_zero_o, ↓z_zero_j, ui_s, uj_s, ui_o, ui_k, uj_o, uj_k, ui_j, uj_i, z_zero_o, z_zero_j]; exact R.nx), fun i h0 => by simp (disch := first | decide | omega) only [↓ui_s, ↓uj_s, ↓ui_o, ↓ui_k, ↓uj_o, ↓uj_k, ↓ui_j, ↓uj_i, ↓z_zero_o, ↓z_zero_j, ui_s, uj_s, ui_o, ui_k, uj_o, uj_k, ui_j, uj_i, z_zero_o, z_zero_j]; exact R.wl i h0, (fun s h0 => by
      obtain rfl | rfl | rfl | rfl : s = 0 ∨ s = 1 ∨ s = 2 ∨ s = 3 := by omega
      · show (z_ui (z_ui (z_ui (z_ui x 18 4 ((x.1 18 4) + (-1000))) 26 4 ((x.1 26 4) + (-1000))) 34 4 ((x.1 34 4) + (-1000))) 42 4 ((x.1 42 4) + 3000)).1 18 4 = _; simp (disch := first | decide | omega) only [↓ui_s, ↓uj_s, ↓ui_o, ↓ui_k, ↓uj_o, ↓uj_k, ↓ui_j, ↓uj_i, ↓z_zero_o, ↓z_zero_j, ui_s, uj_s, ui_o, ui_k, uj_o, uj_k, ui_j, uj_i, z_zero_o, z_zero_j]; rw [e0]
      · show (z_ui (z_ui (z_ui (z_ui x 18 4 ((x.1 18 4) + (-1000))) 26 4 ((x.1 26 4) + (-1000))) 34 4 ((x.1 34 4) + (-1000))) 42 4 ((x.1 42 4) + 3000)).1 26 4 = _; simp (disch := first | decide | omega) only [↓ui_s, ↓uj_s, ↓ui_o, ↓ui_k, ↓uj_o, ↓uj_k, ↓ui_j, ↓uj_i, ↓z_zero_o, ↓z_zero_j, ui_s, uj_s, ui_o, ui_k, uj_o, uj_k, ui_j, uj_i, z_zero_o, z_zero_j]; rw [e1]
      · show (z_ui (z_ui (z_ui (z_ui x 18 4 ((x.1 18 4) + (-1000))) 26 4 ((x.1 26 4) + (-1000))) 34 4 ((x.1 34 4) + (-1000))) 42 4 ((x.1 42 4) + 3000)).1 34 4 = _; simp (disch := first | decide | omega) only [↓ui_s, ↓uj_s, ↓ui_o, ↓ui_k, ↓uj_o, ↓uj_k, ↓ui_j, ↓uj_i, ↓z_zero_o, ↓z_zero_j, ui_s, uj_s, ui_o, ui_k, uj_o, uj_k, ui_j, uj_i, z_zero_o, z_zero_j]; rw [e2]
      · show (z_ui (z_ui (z_ui (z_ui x 18 4 ((x.1 18 4) + (-1000))) 26 4 ((x.1 26 4) + (-1000))) 34 4 ((x.1 34 4) + (-1000))) 42 4 ((x.1 42 4) + 3000)).1 42 4 = _; simp (disch := first | decide | omega) only [↓ui_s, ↓uj_s, ↓ui_o, ↓ui_k, ↓uj_o, ↓uj_k, ↓ui_j, ↓uj_i, ↓z_zero_o, ↓z_zero_j, ui_s, uj_s, ui_o, ui_k, uj_o, uj_k, ui_j, uj_i, z_zero_o, z_zero_j]; rw [e3]), fun s h0 => by simp (disch := first | decide | omega) only [↓ui_s, ↓uj_s, ↓ui_o, ↓ui_k, ↓uj_o, ↓uj_k, ↓ui_j, ↓uj_i, ↓z_zero_o, ↓z_zero_j, ui_s, uj_s, ui_o, ui_k, uj_o, uj_k, ui_j, uj_i, z_zero_o, z_zero_j]; exact R.be s h0, fun s h0 => by simp (disch := first | decide | omega) only [↓ui_s, ↓uj_s, ↓ui_o, ↓ui_k, ↓uj_o, ↓uj_k, ↓ui_j, ↓uj_i, ↓z_zero_o, ↓z_zero_j, ui_s, uj_s, ui_o, ui_k, uj_o, uj_k, ui_j, uj_i, z_zero_o, z_zero_j]; exact R.ao s h0, fun s h0 => by simp (disch := first | decide | omega) only [↓ui_s, ↓uj_s, ↓ui_o, ↓ui_k, ↓uj_o, ↓uj_k, ↓ui_j, ↓uj_i, ↓z_zero_o, ↓z_zero_j, ui_s, uj_s, ui_o, ui_k, uj_o, uj_k, ui_j, uj_i, z_zero_o, z_zero_j]; exact R.lg s h0, fun s h0 => by simp (disch := first | decide | omega) only [↓ui_s, ↓uj_s, ↓ui_o, ↓ui_k, ↓uj_o, ↓uj_k, ↓ui_j, ↓uj_i, ↓z_zero_o, ↓z_zero_j, ui_s, uj_s, ui_o, ui_k, uj_o, uj_k, ui_j, uj_i, z_zero_o, z_zero_j]; exact R.sy s h0, fun s h0 => by simp (disch := first | decide | omega) only [↓ui_s, ↓uj_s, ↓ui_o, ↓ui_k, ↓uj_o, ↓uj_k, ↓ui_j, ↓uj_i, ↓z_zero_o, ↓z_zero_j, ui_s, uj_s, ui_o, ui_k, uj_o, uj_k, ui_j, uj_i, z_zero_o, z_zero_j]; exact R.ds s h0, fun s h0 => by simp (disch := first | decide | omega) only [↓ui_s, ↓uj_s, ↓ui_o, ↓ui_k, ↓uj_o, ↓uj_k, ↓ui_j, ↓uj_i, ↓z_zero_o, ↓z_zero_j, ui_s, uj_s, ui_o, ui_k, uj_o, uj_k, ui_j, uj_i, z_zero_o, z_zero_j]; exact R.lm s h0, fun s k h0 h1 => by simp (disch := first | decide | omega) only [↓ui_s, ↓uj_s, ↓ui_o, ↓ui_k, ↓uj_o, ↓uj_k, ↓ui_j, ↓uj_i, ↓z_zero_o, ↓z_zero_j, ui_s, uj_s, ui_o, ui_k, uj_o, uj_k, ui_j, uj_i, z_zero_o, z_zero_j]; exact R.hd s k h0 h1, fun s i h0 h1 => by simp (disch := first | decide | omega) only [↓ui_s, ↓uj_s, ↓ui_o, ↓ui_k, ↓uj_o, ↓uj_k, ↓ui_j, ↓uj_i, ↓z_zero_o, ↓z_zero_j, ui_s, uj_s, ui_o, ui_k, uj_o, uj_k, ui_j, uj_i, z_zero_o, z_zero_j]; exact R.so s i h0 h1, fun s i h0 h1 => by simp (disch := first | decide | omega) only [↓ui_s, ↓uj_s, ↓ui_o, ↓ui_k, ↓uj_o, ↓uj_k, ↓ui_j, ↓uj_i, ↓z_zero_o, ↓z_zero_j, ui_s, uj_s, ui_o, ui_k, uj_o, uj_k, ui_j, uj_i, z_zero_o, z_zero_j]; exact R.lo s i h0 h1, fun s i h0 h1 => by simp (disch := first | decide | omega) only [↓ui_s, ↓uj_s, ↓ui_o, ↓ui_k, ↓uj_o, ↓uj_k, ↓ui_j, ↓uj_i, ↓z_zero_o, ↓z_zero_j, ui_s, uj_s, ui_o, ui_k, uj_o, uj_k, ui_j, uj_i, z_zero_o, z_zero_j]; exact R.rv s i h0 h1, fun i f h0 h1 h2 => by simp (disch := first | decide | omega) only [↓ui_s, ↓uj_s, ↓ui_o, ↓ui_k, ↓uj_o, ↓uj_k, ↓ui_j, ↓uj_i, ↓z_zero_o, ↓z_zero_j, ui_s, uj_s, ui_o, ui_k, uj_o, uj_k, ui_j, uj_i, z_zero_o, z_zero_j]; exact R.wi i f h0 h1 h2, fun i h0 => by simp (disch := first | decide | omega) only [↓ui_s, ↓uj_s, ↓ui_o, ↓ui_k, ↓uj_o, ↓uj_k, ↓ui_j, ↓uj_i, ↓z_zero_o, ↓z_zero_j, ui_s, uj_s, ui_o, ui_k, uj_o, uj_k, ui_j, uj_i, z_zero_o, z_zero_j]; exact R.wf i h0, fun s k2 h0 h1 => by simp (disch := first | decide | omega) only [↓ui_s, ↓uj_s, ↓ui_o, ↓ui_k, ↓uj_o, ↓uj_k, ↓ui_j, ↓uj_i, ↓z_zero_o, ↓z_zero_j, ui_s, uj_s, ui_o, ui_k, uj_o, uj_k, ui_j, uj_i, z_zero_o, z_zero_j]; exact R.al s k2 h0 h1, fun s h0 => by simp (disch := first | decide | omega) only [↓ui_s, ↓uj_s, ↓ui_o, ↓ui_k, ↓uj_o, ↓uj_k, ↓ui_j, ↓uj_i, ↓z_zero_o, ↓z_zero_j, ui_s, uj_s, ui_o, ui_k, uj_o, uj_k, ui_j, uj_i, z_zero_o, z_zero_j]; exact R.lz s h0, fun s i h0 h1 => by simp (disch := first | decide | omega) only [↓ui_s, ↓uj_s, ↓ui_o, ↓ui_k, ↓uj_o, ↓uj_k, ↓ui_j, ↓uj_i, ↓z_zero_o, ↓z_zero_j, ui_s, uj_s, ui_o, ui_k, uj_o, uj_k, ui_j, uj_i, z_zero_o, z_zero_j] at h1 ⊢; exact R.sv s i h0 h1, fun s h0 => by simp (disch := first | decide | omega) only [↓ui_s, ↓uj_s, ↓ui_o, ↓ui_k, ↓uj_o, ↓uj_k, ↓ui_j, ↓uj_i, ↓z_zero_o, ↓z_zero_j, ui_s, uj_s, ui_o, ui_k, uj_o, uj_k, ui_j, uj_i, z_zero_o, z_zero_j]; rw [R.tk s h0]; exact congrArg (fun f => kb f 34) (tkM_cg (R.rb s h0) (fun i hi => by simp (disch := first | decide | omega) only [↓ui_s, ↓uj_s, ↓ui_o, ↓ui_k, ↓uj_o, ↓uj_k, ↓ui_j, ↓uj_i, ↓z_zero_o, ↓z_zero_j, ui_s, uj_s, ui_o, ui_k, uj_o, uj_k, ui_j, uj_i, z_zero_o, z_zero_j]) (by simp (disch := first | decide | omega) only [↓ui_s, ↓uj_s, ↓ui_o, ↓ui_k, ↓uj_o, ↓uj_k, ↓ui_j, ↓uj_i, ↓z_zero_o, ↓z_zero_j, ui_s, uj_s, ui_o, ui_k, uj_o, uj_k, ui_j, uj_i, z_zero_o, z_zero_j])), fun s h0 => by simp (disch := first | decide | omega) only [↓ui_s, ↓uj_s, ↓ui_o, ↓ui_k, ↓uj_o, ↓uj_k, ↓ui_j, ↓uj_i, ↓z_zero_o, ↓z_zero_j, ui_s, uj_s, ui_o, ui_k, uj_o, uj_k, ui_j, uj_i, z_zero_o, z_zero_j]; exact R.rb s h0, fun s i h0 h1 => by simp (disch := first | decide | omega) only [↓ui_s, ↓uj_s, ↓ui_o, ↓ui_k, ↓uj_o, ↓uj_k, ↓ui_j, ↓uj_i, ↓z_zero_o, ↓z_zero_j, ui_s, uj_s, ui_o, ui_k, uj_o, uj_k, ui_j, uj_i, z_zero_o, z_zero_j] at h1 ⊢; exact R.rk s i h0 h1, (by simp (disch := first | decide | omega) only [↓ui_s, ↓uj_s, ↓ui_o, ↓ui_k, ↓uj_o, ↓uj_k, ↓ui_j, ↓uj_i, ↓z_zero_o, ↓z_zero_j, ui_s, uj_s, ui_o, ui_k, uj_o, uj_k, ui_j, uj_i, z_zero_o, z_zero_j]; exact R.rd), fun s h0 => by simp (disch := first | decide | omega) only [↓ui_s, ↓uj_s, ↓ui_o, ↓ui_k, ↓uj_o, ↓uj_k, ↓ui_j, ↓uj_i, ↓z_zero_o, ↓z_zero_j, ui_s, uj_s, ui_o, ui_k, uj_o, uj_k, ui_j, uj_i, z_zero_o, z_zero_j]; exact R.bb s h0, fun z => by simp (disch := first | decide | omega) only [↓ui_s, ↓uj_s, ↓ui_o, ↓ui_k, ↓uj_o, ↓uj_k, ↓ui_j, ↓uj_i, ↓z_zero_o, ↓z_zero_j, ui_s, uj_s, ui_o, ui_k, uj_o, uj_k, ui_j, uj_i, z_zero_o, z_zero_j] at z ⊢; exact R.wp z⟩
theorem rc_nob0010 {x m : zM} (R : RCl x m) : RCl (z_ui (z_ui (z_ui (z_ui x 18 4 ((x.1 18 4) + (-1000))) 26 4 ((x.1 26 4) + (-1000))) 34 4 ((x.1 34 4) + 3000)) 42 4 ((x.1 42 4) + (-1000))) (nM0010 m) := by
  have e0 : x.1 18 4 = m.1 61 0 := R.pt 0 (by decide)
  have e1 : x.1 26 4 = m.1 61 1 := R.pt 1 (by decide)
  have e2 : x.1 34 4 = m.1 61 2 := R.pt 2 (by decide)
  have e3 : x.1 42 4 = m.1 61 3 := R.pt 3 (by decide)
  unfold nM0010
  exact ⟨(by simp (disch := first | decide | omega) only [↓ui_s, ↓uj_s, ↓ui_o, ↓ui_k, ↓uj_o, ↓uj_k, ↓ui_j, ↓uj_i, ↓z_zero_o, ↓z_zero_j, ui_s, uj_s, ui_o, ui_k, uj_o, uj_k, ui_j, uj_i, z_zero_o, z_zero_j]; exact R.dl), (by simp (disch := first | decide | omega) only [↓ui_s, ↓uj_s, ↓ui_o, ↓ui_k, ↓uj_o, ↓uj_k, ↓ui_j, ↓uj_i, ↓z_zero_o, ↓z_zero_j, ui_s, uj_s, ui_o, ui_k, uj_o, uj_k, ui_j, uj_i, z_zero_o, z_zero_j]; exact R.rn), (by simp (disch := first | decide | omega) only [↓ui_s, ↓uj_s, ↓ui_o, ↓ui_k, ↓uj_o, ↓uj_k, ↓ui_j, ↓uj_i, ↓z_zero_o, ↓z_zero_j, ui_s, uj_s, ui_o, ui_k, uj_o, uj_k, ui_j, uj_i, z_zero_o, z_zero_j]; exact R.st), (by simp (disch := first | decide | omega) only [↓ui_s, ↓uj_s, ↓ui_o, ↓ui_k, ↓uj_o, ↓uj_k, ↓ui_j, ↓uj_i, ↓z_zero_o, ↓z_zero_j, ui_s, uj_s, ui_o, ui_k, uj_o, uj_k, ui_j, uj_i, z_zero_o, z_zero_j]; exact R.bt), (by simp (disch := first | decide | omega) only [↓ui_s, ↓uj_s, ↓ui_o, ↓ui_k, ↓uj_o, ↓uj_k, ↓ui_j, ↓uj_i, ↓z_zero_o, ↓z_zero_j, ui_s, uj_s, ui_o, ui_k, uj_o, uj_k, ui_j, uj_i, z_zero_o, z_zero_j]; exact R.en), (by simp (disch := first | decide | omega) only [↓ui_s, ↓uj_s, ↓ui_o, ↓ui_k, ↓uj_o, ↓uj_k, ↓ui_j, ↓uj_i, ↓z_zero_o, ↓z_zero_j, ui_s, uj_s, ui_o, ui_k, uj_o, uj_k, ui_j, uj_i, z_zero_o, z_zero_j]; exact R.he), (by simp (disch := first | decide | omega) only [↓ui_s, ↓uj_s, ↓ui_o, ↓ui_k, ↓uj_o, ↓uj_k, ↓ui_j, ↓uj_i, ↓z_zero_o, ↓z_zero_j, ui_s, uj_s, ui_o, ui_k, uj_o, uj_k, ui_j, uj_i, z_zero_o, z_zero_j]; exact R.wc), (by simp (disch := first | decide | omega) only [↓ui_s, ↓uj_s, ↓ui_o, ↓ui_k, ↓uj_o, ↓uj_k, ↓ui_j, ↓uj_i, ↓z_zero_o, ↓z_zero_j, ui_s, uj_s, ui_o, ui_k, uj_o, uj_k, ui_j, uj_i, z_zero_o, z_zero_j]; exact R.sd), (by simp (disch := first | decide | omega) only [↓ui_s, ↓uj_s, ↓ui_o, ↓ui_k, ↓uj_o, ↓uj_k, ↓ui_j, ↓uj_i, ↓z_zero_o, ↓z_zero_j, ui_s, uj_s, ui_o, ui_k, uj_o, uj_k, ui_j, uj_i, z_zero_o, z_zero_j]; exact R.nx), fun i h0 => by simp (disch := first | decide | omega) only [↓ui_s, ↓uj_s, ↓ui_o, ↓ui_k, ↓uj_o, ↓uj_k, ↓ui_j, ↓uj_i, ↓z_zero_o, ↓z_zero_j, ui_s, uj_s, ui_o, ui_k, uj_o, uj_k, ui_j, uj_i, z_zero_o, z_zero_j]; exact R.wl i h0, (fun s h0 => by
      obtain rfl | rfl | rfl | rfl : s = 0 ∨ s = 1 ∨ s = 2 ∨ s = 3 := by omega
      · show (z_ui (z_ui (z_ui (z_ui x 18 4 ((x.1 18 4) + (-1000))) 26 4 ((x.1 26 4) + (-1000))) 34 4 ((x.1 34 4) + 3000)) 42 4 ((x.1 42 4) + (-1000))).1 18 4 = _; simp (disch := first | decide | omega) only [↓ui_s, ↓uj_s, ↓ui_o, ↓ui_k, ↓uj_o, ↓uj_k, ↓ui_j, ↓uj_i, ↓z_zero_o, ↓z_zero_j, ui_s, uj_s, ui_o, ui_k, uj_o, uj_k, ui_j, uj_i, z_zero_o, z_zero_j]; rw [e0]
      · show (z_ui (z_ui (z_ui (z_ui x 18 4 ((x.1 18 4) + (-1000))) 26 4 ((x.1 26 4) + (-1000))) 34 4 ((x.1 34 4) + 3000)) 42 4 ((x.1 42 4) + (-1000))).1 26 4 = _; simp (disch := first | decide | omega) only [↓ui_s, ↓uj_s, ↓ui_o, ↓ui_k, ↓uj_o, ↓uj_k, ↓ui_j, ↓uj_i, ↓z_zero_o, ↓z_zero_j, ui_s, uj_s, ui_o, ui_k, uj_o, uj_k, ui_j, uj_i, z_zero_o, z_zero_j]; rw [e1]
      · show (z_ui (z_ui (z_ui (z_ui x 18 4 ((x.1 18 4) + (-1000))) 26 4 ((x.1 26 4) + (-1000))) 34 4 ((x.1 34 4) + 3000)) 42 4 ((x.1 42 4) + (-1000))).1 34 4 = _; simp (disch := first | decide | omega) only [↓ui_s, ↓uj_s, ↓ui_o, ↓ui_k, ↓uj_o, ↓uj_k, ↓ui_j, ↓uj_i, ↓z_zero_o, ↓z_zero_j, ui_s, uj_s, ui_o, ui_k, uj_o, uj_k, ui_j, uj_i, z_zero_o, z_zero_j]; rw [e2]
      · show (z_ui (z_ui (z_ui (z_ui x 18 4 ((x.1 18 4) + (-1000))) 26 4 ((x.1 26 4) + (-1000))) 34 4 ((x.1 34 4) + 3000)) 42 4 ((x.1 42 4) + (-1000))).1 42 4 = _; simp (disch := first | decide | omega) only [↓ui_s, ↓uj_s, ↓ui_o, ↓ui_k, ↓uj_o, ↓uj_k, ↓ui_j, ↓uj_i, ↓z_zero_o, ↓z_zero_j, ui_s, uj_s, ui_o, ui_k, uj_o, uj_k, ui_j, uj_i, z_zero_o, z_zero_j]; rw [e3]), fun s h0 => by simp (disch := first | decide | omega) only [↓ui_s, ↓uj_s, ↓ui_o, ↓ui_k, ↓uj_o, ↓uj_k, ↓ui_j, ↓uj_i, ↓z_zero_o, ↓z_zero_j, ui_s, uj_s, ui_o, ui_k, uj_o, uj_k, ui_j, uj_i, z_zero_o, z_zero_j]; exact R.be s h0, fun s h0 => by simp (disch := first | decide | omega) only [↓ui_s, ↓uj_s, ↓ui_o, ↓ui_k, ↓uj_o, ↓uj_k, ↓ui_j, ↓uj_i, ↓z_zero_o, ↓z_zero_j, ui_s, uj_s, ui_o, ui_k, uj_o, uj_k, ui_j, uj_i, z_zero_o, z_zero_j]; exact R.ao s h0, fun s h0 => by simp (disch := first | decide | omega) only [↓ui_s, ↓uj_s, ↓ui_o, ↓ui_k, ↓uj_o, ↓uj_k, ↓ui_j, ↓uj_i, ↓z_zero_o, ↓z_zero_j, ui_s, uj_s, ui_o, ui_k, uj_o, uj_k, ui_j, uj_i, z_zero_o, z_zero_j]; exact R.lg s h0, fun s h0 => by simp (disch := first | decide | omega) only [↓ui_s, ↓uj_s, ↓ui_o, ↓ui_k, ↓uj_o, ↓uj_k, ↓ui_j, ↓uj_i, ↓z_zero_o, ↓z_zero_j, ui_s, uj_s, ui_o, ui_k, uj_o, uj_k, ui_j, uj_i, z_zero_o, z_zero_j]; exact R.sy s h0, fun s h0 => by simp (disch := first | decide | omega) only [↓ui_s, ↓uj_s, ↓ui_o, ↓ui_k, ↓uj_o, ↓uj_k, ↓ui_j, ↓uj_i, ↓z_zero_o, ↓z_zero_j, ui_s, uj_s, ui_o, ui_k, uj_o, uj_k, ui_j, uj_i, z_zero_o, z_zero_j]; exact R.ds s h0, fun s h0 => by simp (disch := first | decide | omega) only [↓ui_s, ↓uj_s, ↓ui_o, ↓ui_k, ↓uj_o, ↓uj_k, ↓ui_j, ↓uj_i, ↓z_zero_o, ↓z_zero_j, ui_s, uj_s, ui_o, ui_k, uj_o, uj_k, ui_j, uj_i, z_zero_o, z_zero_j]; exact R.lm s h0, fun s k h0 h1 => by simp (disch := first | decide | omega) only [↓ui_s, ↓uj_s, ↓ui_o, ↓ui_k, ↓uj_o, ↓uj_k, ↓ui_j, ↓uj_i, ↓z_zero_o, ↓z_zero_j, ui_s, uj_s, ui_o, ui_k, uj_o, uj_k, ui_j, uj_i, z_zero_o, z_zero_j]; exact R.hd s k h0 h1, fun s i h0 h1 => by simp (disch := first | decide | omega) only [↓ui_s, ↓uj_s, ↓ui_o, ↓ui_k, ↓uj_o, ↓uj_k, ↓ui_j, ↓uj_i, ↓z_zero_o, ↓z_zero_j, ui_s, uj_s, ui_o, ui_k, uj_o, uj_k, ui_j, uj_i, z_zero_o, z_zero_j]; exact R.so s i h0 h1, fun s i h0 h1 => by simp (disch := first | decide | omega) only [↓ui_s, ↓uj_s, ↓ui_o, ↓ui_k, ↓uj_o, ↓uj_k, ↓ui_j, ↓uj_i, ↓z_zero_o, ↓z_zero_j, ui_s, uj_s, ui_o, ui_k, uj_o, uj_k, ui_j, uj_i, z_zero_o, z_zero_j]; exact R.lo s i h0 h1, fun s i h0 h1 => by simp (disch := first | decide | omega) only [↓ui_s, ↓uj_s, ↓ui_o, ↓ui_k, ↓uj_o, ↓uj_k, ↓ui_j, ↓uj_i, ↓z_zero_o, ↓z_zero_j, ui_s, uj_s, ui_o, ui_k, uj_o, uj_k, ui_j, uj_i, z_zero_o, z_zero_j]; exact R.rv s i h0 h1, fun i f h0 h1 h2 => by simp (disch := first | decide | omega) only [↓ui_s, ↓uj_s, ↓ui_o, ↓ui_k, ↓uj_o, ↓uj_k, ↓ui_j, ↓uj_i, ↓z_zero_o, ↓z_zero_j, ui_s, uj_s, ui_o, ui_k, uj_o, uj_k, ui_j, uj_i, z_zero_o, z_zero_j]; exact R.wi i f h0 h1 h2, fun i h0 => by simp (disch := first | decide | omega) only [↓ui_s, ↓uj_s, ↓ui_o, ↓ui_k, ↓uj_o, ↓uj_k, ↓ui_j, ↓uj_i, ↓z_zero_o, ↓z_zero_j, ui_s, uj_s, ui_o, ui_k, uj_o, uj_k, ui_j, uj_i, z_zero_o, z_zero_j]; exact R.wf i h0, fun s k2 h0 h1 => by simp (disch := first | decide | omega) only [↓ui_s, ↓uj_s, ↓ui_o, ↓ui_k, ↓uj_o, ↓uj_k, ↓ui_j, ↓uj_i, ↓z_zero_o, ↓z_zero_j, ui_s, uj_s, ui_o, ui_k, uj_o, uj_k, ui_j, uj_i, z_zero_o, z_zero_j]; exact R.al s k2 h0 h1, fun s h0 => by simp (disch := first | decide | omega) only [↓ui_s, ↓uj_s, ↓ui_o, ↓ui_k, ↓uj_o, ↓uj_k, ↓ui_j, ↓uj_i, ↓z_zero_o, ↓z_zero_j, ui_s, uj_s, ui_o, ui_k, uj_o, uj_k, ui_j, uj_i, z_zero_o, z_zero_j]; exact R.lz s h0, fun s i h0 h1 => by simp (disch := first | decide | omega) only [↓ui_s, ↓uj_s, ↓ui_o, ↓ui_k, ↓uj_o, ↓uj_k, ↓ui_j, ↓uj_i, ↓z_zero_o, ↓z_zero_j, ui_s, uj_s, ui_o, ui_k, uj_o, uj_k, ui_j, uj_i, z_zero_o, z_zero_j] at h1 ⊢; exact R.sv s i h0 h1, fun s h0 => by simp (disch := first | decide | omega) only [↓ui_s, ↓uj_s, ↓ui_o, ↓ui_k, ↓uj_o, ↓uj_k, ↓ui_j, ↓uj_i, ↓z_zero_o, ↓z_zero_j, ui_s, uj_s, ui_o, ui_k, uj_o, uj_k, ui_j, uj_i, z_zero_o, z_zero_j]; rw [R.tk s h0]; exact congrArg (fun f => kb f 34) (tkM_cg (R.rb s h0) (fun i hi => by simp (disch := first | decide | omega) only [↓ui_s, ↓uj_s, ↓ui_o, ↓ui_k, ↓uj_o, ↓uj_k, ↓ui_j, ↓uj_i, ↓z_zero_o, ↓z_zero_j, ui_s, uj_s, ui_o, ui_k, uj_o, uj_k, ui_j, uj_i, z_zero_o, z_zero_j]) (by simp (disch := first | decide | omega) only [↓ui_s, ↓uj_s, ↓ui_o, ↓ui_k, ↓uj_o, ↓uj_k, ↓ui_j, ↓uj_i, ↓z_zero_o, ↓z_zero_j, ui_s, uj_s, ui_o, ui_k, uj_o, uj_k, ui_j, uj_i, z_zero_o, z_zero_j])), fun s h0 => by simp (disch := first | decide | omega) only [↓ui_s, ↓uj_s, ↓ui_o, ↓ui_k, ↓uj_o, ↓uj_k, ↓ui_j, ↓uj_i, ↓z_zero_o, ↓z_zero_j, ui_s, uj_s, ui_o, ui_k, uj_o, uj_k, ui_j, uj_i, z_zero_o, z_zero_j]; exact R.rb s h0, fun s i h0 h1 => by simp (disch := first | decide | omega) only [↓ui_s, ↓uj_s, ↓ui_o, ↓ui_k, ↓uj_o, ↓uj_k, ↓ui_j, ↓uj_i, ↓z_zero_o, ↓z_zero_j, ui_s, uj_s, ui_o, ui_k, uj_o, uj_k, ui_j, uj_i, z_zero_o, z_zero_j] at h1 ⊢; exact R.rk s i h0 h1, (by simp (disch := first | decide | omega) only [↓ui_s, ↓uj_s, ↓ui_o, ↓ui_k, ↓uj_o, ↓uj_k, ↓ui_j, ↓uj_i, ↓z_zero_o, ↓z_zero_j, ui_s, uj_s, ui_o, ui_k, uj_o, uj_k, ui_j, uj_i, z_zero_o, z_zero_j]; exact R.rd), fun s h0 => by simp (disch := first | decide | omega) only [↓ui_s, ↓uj_s, ↓ui_o, ↓ui_k, ↓uj_o, ↓uj_k, ↓ui_j, ↓uj_i, ↓z_zero_o, ↓z_zero_j, ui_s, uj_s, ui_o, ui_k, uj_o, uj_k, ui_j, uj_i, z_zero_o, z_zero_j]; exact R.bb s h0, fun z => by simp (disch := first | decide | omega) only [↓ui_s, ↓uj_s, ↓ui_o, ↓ui_k, ↓uj_o, ↓uj_k, ↓ui_j, ↓uj_i, ↓z_zero_o, ↓z_zero_j, ui_s, uj_s, ui_o, ui_k, uj_o, uj_k, ui_j, uj_i, z_zero_o, z_zero_j] at z ⊢; exact R.wp z⟩
theorem rc_nob0011 {x m : zM} (R : RCl x m) : RCl (z_ui (z_ui (z_ui (z_ui x 18 4 ((x.1 18 4) + (-1500))) 26 4 ((x.1 26 4) + (-1500))) 34 4 ((x.1 34 4) + 1500)) 42 4 ((x.1 42 4) + 1500)) (nM0011 m) := by
  have e0 : x.1 18 4 = m.1 61 0 := R.pt 0 (by decide)
  have e1 : x.1 26 4 = m.1 61 1 := R.pt 1 (by decide)
  have e2 : x.1 34 4 = m.1 61 2 := R.pt 2 (by decide)
  have e3 : x.1 42 4 = m.1 61 3 := R.pt 3 (by decide)
  unfold nM0011
  exact ⟨(by simp (disch := first | decide | omega) only [↓ui_s, ↓uj_s, ↓ui_o, ↓ui_k, ↓uj_o, ↓uj_k, ↓ui_j, ↓uj_i, ↓z_zero_o, ↓z_zero_j, ui_s, uj_s, ui_o, ui_k, uj_o, uj_k, ui_j, uj_i, z_zero_o, z_zero_j]; exact R.dl), (by simp (disch := first | decide | omega) only [↓ui_s, ↓uj_s, ↓ui_o, ↓ui_k, ↓uj_o, ↓uj_k, ↓ui_j, ↓uj_i, ↓z_zero_o, ↓z_zero_j, ui_s, uj_s, ui_o, ui_k, uj_o, uj_k, ui_j, uj_i, z_zero_o, z_zero_j]; exact R.rn), (by simp (disch := first | decide | omega) only [↓ui_s, ↓uj_s, ↓ui_o, ↓ui_k, ↓uj_o, ↓uj_k, ↓ui_j, ↓uj_i, ↓z_zero_o, ↓z_zero_j, ui_s, uj_s, ui_o, ui_k, uj_o, uj_k, ui_j, uj_i, z_zero_o, z_zero_j]; exact R.st), (by simp (disch := first | decide | omega) only [↓ui_s, ↓uj_s, ↓ui_o, ↓ui_k, ↓uj_o, ↓uj_k, ↓ui_j, ↓uj_i, ↓z_zero_o, ↓z_zero_j, ui_s, uj_s, ui_o, ui_k, uj_o, uj_k, ui_j, uj_i, z_zero_o, z_zero_j]; exact R.bt), (by simp (disch := first | decide | omega) only [↓ui_s, ↓uj_s, ↓ui_o, ↓ui_k, ↓uj_o, ↓uj_k, ↓ui_j, ↓uj_i, ↓z_zero_o, ↓z_zero_j, ui_s, uj_s, ui_o, ui_k, uj_o, uj_k, ui_j, uj_i, z_zero_o, z_zero_j]; exact R.en), (by simp (disch := first | decide | omega) only [↓ui_s, ↓uj_s, ↓ui_o, ↓ui_k, ↓uj_o, ↓uj_k, ↓ui_j, ↓uj_i, ↓z_zero_o, ↓z_zero_j, ui_s, uj_s, ui_o, ui_k, uj_o, uj_k, ui_j, uj_i, z_zero_o, z_zero_j]; exact R.he), (by simp (disch := first | decide | omega) only [↓ui_s, ↓uj_s, ↓ui_o, ↓ui_k, ↓uj_o, ↓uj_k, ↓ui_j, ↓uj_i, ↓z_zero_o, ↓z_zero_j, ui_s, uj_s, ui_o, ui_k, uj_o, uj_k, ui_j, uj_i, z_zero_o, z_zero_j]; exact R.wc), (by simp (disch := first | decide | omega) only [↓ui_s, ↓uj_s, ↓ui_o, ↓ui_k, ↓uj_o, ↓uj_k, ↓ui_j, ↓uj_i, ↓z_zero_o, ↓z_zero_j, ui_s, uj_s, ui_o, ui_k, uj_o, uj_k, ui_j, uj_i, z_zero_o, z_zero_j]; exact R.sd), (by simp (disch := first | decide | omega) only [↓ui_s, ↓uj_s, ↓ui_o, ↓ui_k, ↓uj_o, ↓uj_k, ↓ui_j, ↓uj_i, ↓z_zero_o, ↓z_zero_j, ui_s, uj_s, ui_o, ui_k, uj_o, uj_k, ui_j, uj_i, z_zero_o, z_zero_j]; exact R.nx), fun i h0 => by simp (disch := first | decide | omega) only [↓ui_s, ↓uj_s, ↓ui_o, ↓ui_k, ↓uj_o, ↓uj_k, ↓ui_j, ↓uj_i, ↓z_zero_o, ↓z_zero_j, ui_s, uj_s, ui_o, ui_k, uj_o, uj_k, ui_j, uj_i, z_zero_o, z_zero_j]; exact R.wl i h0, (fun s h0 => by
      obtain rfl | rfl | rfl | rfl : s = 0 ∨ s = 1 ∨ s = 2 ∨ s = 3 := by omega
      · show (z_ui (z_ui (z_ui (z_ui x 18 4 ((x.1 18 4) + (-1500))) 26 4 ((x.1 26 4) + (-1500))) 34 4 ((x.1 34 4) + 1500)) 42 4 ((x.1 42 4) + 1500)).1 18 4 = _; simp (disch := first | decide | omega) only [↓ui_s, ↓uj_s, ↓ui_o, ↓ui_k, ↓uj_o, ↓uj_k, ↓ui_j, ↓uj_i, ↓z_zero_o, ↓z_zero_j, ui_s, uj_s, ui_o, ui_k, uj_o, uj_k, ui_j, uj_i, z_zero_o, z_zero_j]; rw [e0]
      · show (z_ui (z_ui (z_ui (z_ui x 18 4 ((x.1 18 4) + (-1500))) 26 4 ((x.1 26 4) + (-1500))) 34 4 ((x.1 34 4) + 1500)) 42 4 ((x.1 42 4) + 1500)).1 26 4 = _; simp (disch := first | decide | omega) only [↓ui_s, ↓uj_s, ↓ui_o, ↓ui_k, ↓uj_o, ↓uj_k, ↓ui_j, ↓uj_i, ↓z_zero_o, ↓z_zero_j, ui_s, uj_s, ui_o, ui_k, uj_o, uj_k, ui_j, uj_i, z_zero_o, z_zero_j]; rw [e1]
      · show (z_ui (z_ui (z_ui (z_ui x 18 4 ((x.1 18 4) + (-1500))) 26 4 ((x.1 26 4) + (-1500))) 34 4 ((x.1 34 4) + 1500)) 42 4 ((x.1 42 4) + 1500)).1 34 4 = _; simp (disch := first | decide | omega) only [↓ui_s, ↓uj_s, ↓ui_o, ↓ui_k, ↓uj_o, ↓uj_k, ↓ui_j, ↓uj_i, ↓z_zero_o, ↓z_zero_j, ui_s, uj_s, ui_o, ui_k, uj_o, uj_k, ui_j, uj_i, z_zero_o, z_zero_j]; rw [e2]
      · show (z_ui (z_ui (z_ui (z_ui x 18 4 ((x.1 18 4) + (-1500))) 26 4 ((x.1 26 4) + (-1500))) 34 4 ((x.1 34 4) + 1500)) 42 4 ((x.1 42 4) + 1500)).1 42 4 = _; simp (disch := first | decide | omega) only [↓ui_s, ↓uj_s, ↓ui_o, ↓ui_k, ↓uj_o, ↓uj_k, ↓ui_j, ↓uj_i, ↓z_zero_o, ↓z_zero_j, ui_s, uj_s, ui_o, ui_k, uj_o, uj_k, ui_j, uj_i, z_zero_o, z_zero_j]; rw [e3]), fun s h0 => by simp (disch := first | decide | omega) only [↓ui_s, ↓uj_s, ↓ui_o, ↓ui_k, ↓uj_o, ↓uj_k, ↓ui_j, ↓uj_i, ↓z_zero_o, ↓z_zero_j, ui_s, uj_s, ui_o, ui_k, uj_o, uj_k, ui_j, uj_i, z_zero_o, z_zero_j]; exact R.be s h0, fun s h0 => by simp (disch := first | decide | omega) only [↓ui_s, ↓uj_s, ↓ui_o, ↓ui_k, ↓uj_o, ↓uj_k, ↓ui_j, ↓uj_i, ↓z_zero_o, ↓z_zero_j, ui_s, uj_s, ui_o, ui_k, uj_o, uj_k, ui_j, uj_i, z_zero_o, z_zero_j]; exact R.ao s h0, fun s h0 => by simp (disch := first | decide | omega) only [↓ui_s, ↓uj_s, ↓ui_o, ↓ui_k, ↓uj_o, ↓uj_k, ↓ui_j, ↓uj_i, ↓z_zero_o, ↓z_zero_j, ui_s, uj_s, ui_o, ui_k, uj_o, uj_k, ui_j, uj_i, z_zero_o, z_zero_j]; exact R.lg s h0, fun s h0 => by simp (disch := first | decide | omega) only [↓ui_s, ↓uj_s, ↓ui_o, ↓ui_k, ↓uj_o, ↓uj_k, ↓ui_j, ↓uj_i, ↓z_zero_o, ↓z_zero_j, ui_s, uj_s, ui_o, ui_k, uj_o, uj_k, ui_j, uj_i, z_zero_o, z_zero_j]; exact R.sy s h0, fun s h0 => by simp (disch := first | decide | omega) only [↓ui_s, ↓uj_s, ↓ui_o, ↓ui_k, ↓uj_o, ↓uj_k, ↓ui_j, ↓uj_i, ↓z_zero_o, ↓z_zero_j, ui_s, uj_s, ui_o, ui_k, uj_o, uj_k, ui_j, uj_i, z_zero_o, z_zero_j]; exact R.ds s h0, fun s h0 => by simp (disch := first | decide | omega) only [↓ui_s, ↓uj_s, ↓ui_o, ↓ui_k, ↓uj_o, ↓uj_k, ↓ui_j, ↓uj_i, ↓z_zero_o, ↓z_zero_j, ui_s, uj_s, ui_o, ui_k, uj_o, uj_k, ui_j, uj_i, z_zero_o, z_zero_j]; exact R.lm s h0, fun s k h0 h1 => by simp (disch := first | decide | omega) only [↓ui_s, ↓uj_s, ↓ui_o, ↓ui_k, ↓uj_o, ↓uj_k, ↓ui_j, ↓uj_i, ↓z_zero_o, ↓z_zero_j, ui_s, uj_s, ui_o, ui_k, uj_o, uj_k, ui_j, uj_i, z_zero_o, z_zero_j]; exact R.hd s k h0 h1, fun s i h0 h1 => by simp (disch := first | decide | omega) only [↓ui_s, ↓uj_s, ↓ui_o, ↓ui_k, ↓uj_o, ↓uj_k, ↓ui_j, ↓uj_i, ↓z_zero_o, ↓z_zero_j, ui_s, uj_s, ui_o, ui_k, uj_o, uj_k, ui_j, uj_i, z_zero_o, z_zero_j]; exact R.so s i h0 h1, fun s i h0 h1 => by simp (disch := first | decide | omega) only [↓ui_s, ↓uj_s, ↓ui_o, ↓ui_k, ↓uj_o, ↓uj_k, ↓ui_j, ↓uj_i, ↓z_zero_o, ↓z_zero_j, ui_s, uj_s, ui_o, ui_k, uj_o, uj_k, ui_j, uj_i, z_zero_o, z_zero_j]; exact R.lo s i h0 h1, fun s i h0 h1 => by simp (disch := first | decide | omega) only [↓ui_s, ↓uj_s, ↓ui_o, ↓ui_k, ↓uj_o, ↓uj_k, ↓ui_j, ↓uj_i, ↓z_zero_o, ↓z_zero_j, ui_s, uj_s, ui_o, ui_k, uj_o, uj_k, ui_j, uj_i, z_zero_o, z_zero_j]; exact R.rv s i h0 h1, fun i f h0 h1 h2 => by simp (disch := first | decide | omega) only [↓ui_s, ↓uj_s, ↓ui_o, ↓ui_k, ↓uj_o, ↓uj_k, ↓ui_j, ↓uj_i, ↓z_zero_o, ↓z_zero_j, ui_s, uj_s, ui_o, ui_k, uj_o, uj_k, ui_j, uj_i, z_zero_o, z_zero_j]; exact R.wi i f h0 h1 h2, fun i h0 => by simp (disch := first | decide | omega) only [↓ui_s, ↓uj_s, ↓ui_o, ↓ui_k, ↓uj_o, ↓uj_k, ↓ui_j, ↓uj_i, ↓z_zero_o, ↓z_zero_j, ui_s, uj_s, ui_o, ui_k, uj_o, uj_k, ui_j, uj_i, z_zero_o, z_zero_j]; exact R.wf i h0, fun s k2 h0 h1 => by simp (disch := first | decide | omega) only [↓ui_s, ↓uj_s, ↓ui_o, ↓ui_k, ↓uj_o, ↓uj_k, ↓ui_j, ↓uj_i, ↓z_zero_o, ↓z_zero_j, ui_s, uj_s, ui_o, ui_k, uj_o, uj_k, ui_j, uj_i, z_zero_o, z_zero_j]; exact R.al s k2 h0 h1, fun s h0 => by simp (disch := first | decide | omega) only [↓ui_s, ↓uj_s, ↓ui_o, ↓ui_k, ↓uj_o, ↓uj_k, ↓ui_j, ↓uj_i, ↓z_zero_o, ↓z_zero_j, ui_s, uj_s, ui_o, ui_k, uj_o, uj_k, ui_j, uj_i, z_zero_o, z_zero_j]; exact R.lz s h0, fun s i h0 h1 => by simp (disch := first | decide | omega) only [↓ui_s, ↓uj_s, ↓ui_o, ↓ui_k, ↓uj_o, ↓uj_k, ↓ui_j, ↓uj_i, ↓z_zero_o, ↓z_zero_j, ui_s, uj_s, ui_o, ui_k, uj_o, uj_k, ui_j, uj_i, z_zero_o, z_zero_j] at h1 ⊢; exact R.sv s i h0 h1, fun s h0 => by simp (disch := first | decide | omega) only [↓ui_s, ↓uj_s, ↓ui_o, ↓ui_k, ↓uj_o, ↓uj_k, ↓ui_j, ↓uj_i, ↓z_zero_o, ↓z_zero_j, ui_s, uj_s, ui_o, ui_k, uj_o, uj_k, ui_j, uj_i, z_zero_o, z_zero_j]; rw [R.tk s h0]; exact congrArg (fun f => kb f 34) (tkM_cg (R.rb s h0) (fun i hi => by simp (disch := first | decide | omega) only [↓ui_s, ↓uj_s, ↓ui_o, ↓ui_k, ↓uj_o, ↓uj_k, ↓ui_j, ↓uj_i, ↓z_zero_o, ↓z_zero_j, ui_s, uj_s, ui_o, ui_k, uj_o, uj_k, ui_j, uj_i, z_zero_o, z_zero_j]) (by simp (disch := first | decide | omega) only [↓ui_s, ↓uj_s, ↓ui_o, ↓ui_k, ↓uj_o, ↓uj_k, ↓ui_j, ↓uj_i, ↓z_zero_o, ↓z_zero_j, ui_s, uj_s, ui_o, ui_k, uj_o, uj_k, ui_j, uj_i, z_zero_o, z_zero_j])), fun s h0 => by simp (disch := first | decide | omega) only [↓ui_s, ↓uj_s, ↓ui_o, ↓ui_k, ↓uj_o, ↓uj_k, ↓ui_j, ↓uj_i, ↓z_zero_o, ↓z_zero_j, ui_s, uj_s, ui_o, ui_k, uj_o, uj_k, ui_j, uj_i, z_zero_o, z_zero_j]; exact R.rb s h0, fun s i h0 h1 => by simp (disch := first | decide | omega) only [↓ui_s, ↓uj_s, ↓ui_o, ↓ui_k, ↓uj_o, ↓uj_k, ↓ui_j, ↓uj_i, ↓z_zero_o, ↓z_zero_j, ui_s, uj_s, ui_o, ui_k, uj_o, uj_k, ui_j, uj_i, z_zero_o, z_zero_j] at h1 ⊢; exact R.rk s i h0 h1, (by simp (disch := first | decide | omega) only [↓ui_s, ↓uj_s, ↓ui_o, ↓ui_k, ↓uj_o, ↓uj_k, ↓ui_j, ↓uj_i, ↓z_zero_o, ↓z_zero_j, ui_s, uj_s, ui_o, ui_k, uj_o, uj_k, ui_j, uj_i, z_zero_o, z_zero_j]; exact R.rd), fun s h0 => by simp (disch := first | decide | omega) only [↓ui_s, ↓uj_s, ↓ui_o, ↓ui_k, ↓uj_o, ↓uj_k, ↓ui_j, ↓uj_i, ↓z_zero_o, ↓z_zero_j, ui_s, uj_s, ui_o, ui_k, uj_o, uj_k, ui_j, uj_i, z_zero_o, z_zero_j]; exact R.bb s h0, fun z => by simp (disch := first | decide | omega) only [↓ui_s, ↓uj_s, ↓ui_o, ↓ui_k, ↓uj_o, ↓uj_k, ↓ui_j, ↓uj_i, ↓z_zero_o, ↓z_zero_j, ui_s, uj_s, ui_o, ui_k, uj_o, uj_k, ui_j, uj_i, z_zero_o, z_zero_j] at z ⊢; exact R.wp z⟩
theorem rc_nob0100 {x m : zM} (R : RCl x m) : RCl (z_ui (z_ui (z_ui (z_ui x 18 4 ((x.1 18 4) + (-1000))) 26 4 ((x.1 26 4) + 3000)) 34 4 ((x.1 34 4) + (-1000))) 42 4 ((x.1 42 4) + (-1000))) (nM0100 m) := by
  have e0 : x.1 18 4 = m.1 61 0 := R.pt 0 (by decide)
  have e1 : x.1 26 4 = m.1 61 1 := R.pt 1 (by decide)
  have e2 : x.1 34 4 = m.1 61 2 := R.pt 2 (by decide)
  have e3 : x.1 42 4 = m.1 61 3 := R.pt 3 (by decide)
  unfold nM0100
  exact ⟨(by simp (disch := first | decide | omega) only [↓ui_s, ↓uj_s, ↓ui_o, ↓ui_k, ↓uj_o, ↓uj_k, ↓ui_j, ↓uj_i, ↓z_zero_o, ↓z_zero_j, ui_s, uj_s, ui_o, ui_k, uj_o, uj_k, ui_j, uj_i, z_zero_o, z_zero_j]; exact R.dl), (by simp (disch := first | decide | omega) only [↓ui_s, ↓uj_s, ↓ui_o, ↓ui_k, ↓uj_o, ↓uj_k, ↓ui_j, ↓uj_i, ↓z_zero_o, ↓z_zero_j, ui_s, uj_s, ui_o, ui_k, uj_o, uj_k, ui_j, uj_i, z_zero_o, z_zero_j]; exact R.rn), (by simp (disch := first | decide | omega) only [↓ui_s, ↓uj_s, ↓ui_o, ↓ui_k, ↓uj_o, ↓uj_k, ↓ui_j, ↓uj_i, ↓z_zero_o, ↓z_zero_j, ui_s, uj_s, ui_o, ui_k, uj_o, uj_k, ui_j, uj_i, z_zero_o, z_zero_j]; exact R.st), (by simp (disch := first | decide | omega) only [↓ui_s, ↓uj_s, ↓ui_o, ↓ui_k, ↓uj_o, ↓uj_k, ↓ui_j, ↓uj_i, ↓z_zero_o, ↓z_zero_j, ui_s, uj_s, ui_o, ui_k, uj_o, uj_k, ui_j, uj_i, z_zero_o, z_zero_j]; exact R.bt), (by simp (disch := first | decide | omega) only [↓ui_s, ↓uj_s, ↓ui_o, ↓ui_k, ↓uj_o, ↓uj_k, ↓ui_j, ↓uj_i, ↓z_zero_o, ↓z_zero_j, ui_s, uj_s, ui_o, ui_k, uj_o, uj_k, ui_j, uj_i, z_zero_o, z_zero_j]; exact R.en), (by simp (disch := first | decide | omega) only [↓ui_s, ↓uj_s, ↓ui_o, ↓ui_k, ↓uj_o, ↓uj_k, ↓ui_j, ↓uj_i, ↓z_zero_o, ↓z_zero_j, ui_s, uj_s, ui_o, ui_k, uj_o, uj_k, ui_j, uj_i, z_zero_o, z_zero_j]; exact R.he), (by simp (disch := first | decide | omega) only [↓ui_s, ↓uj_s, ↓ui_o, ↓ui_k, ↓uj_o, ↓uj_k, ↓ui_j, ↓uj_i, ↓z_zero_o, ↓z_zero_j, ui_s, uj_s, ui_o, ui_k, uj_o, uj_k, ui_j, uj_i, z_zero_o, z_zero_j]; exact R.wc), (by simp (disch := first | decide | omega) only [↓ui_s, ↓uj_s, ↓ui_o, ↓ui_k, ↓uj_o, ↓uj_k, ↓ui_j, ↓uj_i, ↓z_zero_o, ↓z_zero_j, ui_s, uj_s, ui_o, ui_k, uj_o, uj_k, ui_j, uj_i, z_zero_o, z_zero_j]; exact R.sd), (by simp (disch := first | decide | omega) only [↓ui_s, ↓uj_s, ↓ui_o, ↓ui_k, ↓uj_o, ↓uj_k, ↓ui_j, ↓uj_i, ↓z_zero_o, ↓z_zero_j, ui_s, uj_s, ui_o, ui_k, uj_o, uj_k, ui_j, uj_i, z_zero_o, z_zero_j]; exact R.nx), fun i h0 => by simp (disch := first | decide | omega) only [↓ui_s, ↓uj_s, ↓ui_o, ↓ui_k, ↓uj_o, ↓uj_k, ↓ui_j, ↓uj_i, ↓z_zero_o, ↓z_zero_j, ui_s, uj_s, ui_o, ui_k, uj_o, uj_k, ui_j, uj_i, z_zero_o, z_zero_j]; exact R.wl i h0, (fun s h0 => by
      obtain rfl | rfl | rfl | rfl : s = 0 ∨ s = 1 ∨ s = 2 ∨ s = 3 := by omega
      · show (z_ui (z_ui (z_ui (z_ui x 18 4 ((x.1 18 4) + (-1000))) 26 4 ((x.1 26 4) + 3000)) 34 4 ((x.1 34 4) + (-1000))) 42 4 ((x.1 42 4) + (-1000))).1 18 4 = _; simp (disch := first | decide | omega) only [↓ui_s, ↓uj_s, ↓ui_o, ↓ui_k, ↓uj_o, ↓uj_k, ↓ui_j, ↓uj_i, ↓z_zero_o, ↓z_zero_j, ui_s, uj_s, ui_o, ui_k, uj_o, uj_k, ui_j, uj_i, z_zero_o, z_zero_j]; rw [e0]
      · show (z_ui (z_ui (z_ui (z_ui x 18 4 ((x.1 18 4) + (-1000))) 26 4 ((x.1 26 4) + 3000)) 34 4 ((x.1 34 4) + (-1000))) 42 4 ((x.1 42 4) + (-1000))).1 26 4 = _; simp (disch := first | decide | omega) only [↓ui_s, ↓uj_s, ↓ui_o, ↓ui_k, ↓uj_o, ↓uj_k, ↓ui_j, ↓uj_i, ↓z_zero_o, ↓z_zero_j, ui_s, uj_s, ui_o, ui_k, uj_o, uj_k, ui_j, uj_i, z_zero_o, z_zero_j]; rw [e1]
      · show (z_ui (z_ui (z_ui (z_ui x 18 4 ((x.1 18 4) + (-1000))) 26 4 ((x.1 26 4) + 3000)) 34 4 ((x.1 34 4) + (-1000))) 42 4 ((x.1 42 4) + (-1000))).1 34 4 = _; simp (disch := first | decide | omega) only [↓ui_s, ↓uj_s, ↓ui_o, ↓ui_k, ↓uj_o, ↓uj_k, ↓ui_j, ↓uj_i, ↓z_zero_o, ↓z_zero_j, ui_s, uj_s, ui_o, ui_k, uj_o, uj_k, ui_j, uj_i, z_zero_o, z_zero_j]; rw [e2]
      · show (z_ui (z_ui (z_ui (z_ui x 18 4 ((x.1 18 4) + (-1000))) 26 4 ((x.1 26 4) + 3000)) 34 4 ((x.1 34 4) + (-1000))) 42 4 ((x.1 42 4) + (-1000))).1 42 4 = _; simp (disch := first | decide | omega) only [↓ui_s, ↓uj_s, ↓ui_o, ↓ui_k, ↓uj_o, ↓uj_k, ↓ui_j, ↓uj_i, ↓z_zero_o, ↓z_zero_j, ui_s, uj_s, ui_o, ui_k, uj_o, uj_k, ui_j, uj_i, z_zero_o, z_zero_j]; rw [e3]), fun s h0 => by simp (disch := first | decide | omega) only [↓ui_s, ↓uj_s, ↓ui_o, ↓ui_k, ↓uj_o, ↓uj_k, ↓ui_j, ↓uj_i, ↓z_zero_o, ↓z_zero_j, ui_s, uj_s, ui_o, ui_k, uj_o, uj_k, ui_j, uj_i, z_zero_o, z_zero_j]; exact R.be s h0, fun s h0 => by simp (disch := first | decide | omega) only [↓ui_s, ↓uj_s, ↓ui_o, ↓ui_k, ↓uj_o, ↓uj_k, ↓ui_j, ↓uj_i, ↓z_zero_o, ↓z_zero_j, ui_s, uj_s, ui_o, ui_k, uj_o, uj_k, ui_j, uj_i, z_zero_o, z_zero_j]; exact R.ao s h0, fun s h0 => by simp (disch := first | decide | omega) only [↓ui_s, ↓uj_s, ↓ui_o, ↓ui_k, ↓uj_o, ↓uj_k, ↓ui_j, ↓uj_i, ↓z_zero_o, ↓z_zero_j, ui_s, uj_s, ui_o, ui_k, uj_o, uj_k, ui_j, uj_i, z_zero_o, z_zero_j]; exact R.lg s h0, fun s h0 => by simp (disch := first | decide | omega) only [↓ui_s, ↓uj_s, ↓ui_o, ↓ui_k, ↓uj_o, ↓uj_k, ↓ui_j, ↓uj_i, ↓z_zero_o, ↓z_zero_j, ui_s, uj_s, ui_o, ui_k, uj_o, uj_k, ui_j, uj_i, z_zero_o, z_zero_j]; exact R.sy s h0, fun s h0 => by simp (disch := first | decide | omega) only [↓ui_s, ↓uj_s, ↓ui_o, ↓ui_k, ↓uj_o, ↓uj_k, ↓ui_j, ↓uj_i, ↓z_zero_o, ↓z_zero_j, ui_s, uj_s, ui_o, ui_k, uj_o, uj_k, ui_j, uj_i, z_zero_o, z_zero_j]; exact R.ds s h0, fun s h0 => by simp (disch := first | decide | omega) only [↓ui_s, ↓uj_s, ↓ui_o, ↓ui_k, ↓uj_o, ↓uj_k, ↓ui_j, ↓uj_i, ↓z_zero_o, ↓z_zero_j, ui_s, uj_s, ui_o, ui_k, uj_o, uj_k, ui_j, uj_i, z_zero_o, z_zero_j]; exact R.lm s h0, fun s k h0 h1 => by simp (disch := first | decide | omega) only [↓ui_s, ↓uj_s, ↓ui_o, ↓ui_k, ↓uj_o, ↓uj_k, ↓ui_j, ↓uj_i, ↓z_zero_o, ↓z_zero_j, ui_s, uj_s, ui_o, ui_k, uj_o, uj_k, ui_j, uj_i, z_zero_o, z_zero_j]; exact R.hd s k h0 h1, fun s i h0 h1 => by simp (disch := first | decide | omega) only [↓ui_s, ↓uj_s, ↓ui_o, ↓ui_k, ↓uj_o, ↓uj_k, ↓ui_j, ↓uj_i, ↓z_zero_o, ↓z_zero_j, ui_s, uj_s, ui_o, ui_k, uj_o, uj_k, ui_j, uj_i, z_zero_o, z_zero_j]; exact R.so s i h0 h1, fun s i h0 h1 => by simp (disch := first | decide | omega) only [↓ui_s, ↓uj_s, ↓ui_o, ↓ui_k, ↓uj_o, ↓uj_k, ↓ui_j, ↓uj_i, ↓z_zero_o, ↓z_zero_j, ui_s, uj_s, ui_o, ui_k, uj_o, uj_k, ui_j, uj_i, z_zero_o, z_zero_j]; exact R.lo s i h0 h1, fun s i h0 h1 => by simp (disch := first | decide | omega) only [↓ui_s, ↓uj_s, ↓ui_o, ↓ui_k, ↓uj_o, ↓uj_k, ↓ui_j, ↓uj_i, ↓z_zero_o, ↓z_zero_j, ui_s, uj_s, ui_o, ui_k, uj_o, uj_k, ui_j, uj_i, z_zero_o, z_zero_j]; exact R.rv s i h0 h1, fun i f h0 h1 h2 => by simp (disch := first | decide | omega) only [↓ui_s, ↓uj_s, ↓ui_o, ↓ui_k, ↓uj_o, ↓uj_k, ↓ui_j, ↓uj_i, ↓z_zero_o, ↓z_zero_j, ui_s, uj_s, ui_o, ui_k, uj_o, uj_k, ui_j, uj_i, z_zero_o, z_zero_j]; exact R.wi i f h0 h1 h2, fun i h0 => by simp (disch := first | decide | omega) only [↓ui_s, ↓uj_s, ↓ui_o, ↓ui_k, ↓uj_o, ↓uj_k, ↓ui_j, ↓uj_i, ↓z_zero_o, ↓z_zero_j, ui_s, uj_s, ui_o, ui_k, uj_o, uj_k, ui_j, uj_i, z_zero_o, z_zero_j]; exact R.wf i h0, fun s k2 h0 h1 => by simp (disch := first | decide | omega) only [↓ui_s, ↓uj_s, ↓ui_o, ↓ui_k, ↓uj_o, ↓uj_k, ↓ui_j, ↓uj_i, ↓z_zero_o, ↓z_zero_j, ui_s, uj_s, ui_o, ui_k, uj_o, uj_k, ui_j, uj_i, z_zero_o, z_zero_j]; exact R.al s k2 h0 h1, fun s h0 => by simp (disch := first | decide | omega) only [↓ui_s, ↓uj_s, ↓ui_o, ↓ui_k, ↓uj_o, ↓uj_k, ↓ui_j, ↓uj_i, ↓z_zero_o, ↓z_zero_j, ui_s, uj_s, ui_o, ui_k, uj_o, uj_k, ui_j, uj_i, z_zero_o, z_zero_j]; exact R.lz s h0, fun s i h0 h1 => by simp (disch := first | decide | omega) only [↓ui_s, ↓uj_s, ↓ui_o, ↓ui_k, ↓uj_o, ↓uj_k, ↓ui_j, ↓uj_i, ↓z_zero_o, ↓z_zero_j, ui_s, uj_s, ui_o, ui_k, uj_o, uj_k, ui_j, uj_i, z_zero_o, z_zero_j] at h1 ⊢; exact R.sv s i h0 h1, fun s h0 => by simp (disch := first | decide | omega) only [↓ui_s, ↓uj_s, ↓ui_o, ↓ui_k, ↓uj_o, ↓uj_k, ↓ui_j, ↓uj_i, ↓z_zero_o, ↓z_zero_j, ui_s, uj_s, ui_o, ui_k, uj_o, uj_k, ui_j, uj_i, z_zero_o, z_zero_j]; rw [R.tk s h0]; exact congrArg (fun f => kb f 34) (tkM_cg (R.rb s h0) (fun i hi => by simp (disch := first | decide | omega) only [↓ui_s, ↓uj_s, ↓ui_o, ↓ui_k, ↓uj_o, ↓uj_k, ↓ui_j, ↓uj_i, ↓z_zero_o, ↓z_zero_j, ui_s, uj_s, ui_o, ui_k, uj_o, uj_k, ui_j, uj_i, z_zero_o, z_zero_j]) (by simp (disch := first | decide | omega) only [↓ui_s, ↓uj_s, ↓ui_o, ↓ui_k, ↓uj_o, ↓uj_k, ↓ui_j, ↓uj_i, ↓z_zero_o, ↓z_zero_j, ui_s, uj_s, ui_o, ui_k, uj_o, uj_k, ui_j, uj_i, z_zero_o, z_zero_j])), fun s h0 => by simp (disch := first | decide | omega) only [↓ui_s, ↓uj_s, ↓ui_o, ↓ui_k, ↓uj_o, ↓uj_k, ↓ui_j, ↓uj_i, ↓z_zero_o, ↓z_zero_j, ui_s, uj_s, ui_o, ui_k, uj_o, uj_k, ui_j, uj_i, z_zero_o, z_zero_j]; exact R.rb s h0, fun s i h0 h1 => by simp (disch := first | decide | omega) only [↓ui_s, ↓uj_s, ↓ui_o, ↓ui_k, ↓uj_o, ↓uj_k, ↓ui_j, ↓uj_i, ↓z_zero_o, ↓z_zero_j, ui_s, uj_s, ui_o, ui_k, uj_o, uj_k, ui_j, uj_i, z_zero_o, z_zero_j] at h1 ⊢; exact R.rk s i h0 h1, (by simp (disch := first | decide | omega) only [↓ui_s, ↓uj_s, ↓ui_o, ↓ui_k, ↓uj_o, ↓uj_k, ↓ui_j, ↓uj_i, ↓z_zero_o, ↓z_zero_j, ui_s, uj_s, ui_o, ui_k, uj_o, uj_k, ui_j, uj_i, z_zero_o, z_zero_j]; exact R.rd), fun s h0 => by simp (disch := first | decide | omega) only [↓ui_s, ↓uj_s, ↓ui_o, ↓ui_k, ↓uj_o, ↓uj_k, ↓ui_j, ↓uj_i, ↓z_zero_o, ↓z_zero_j, ui_s, uj_s, ui_o, ui_k, uj_o, uj_k, ui_j, uj_i, z_zero_o, z_zero_j]; exact R.bb s h0, fun z => by simp (disch := first | decide | omega) only [↓ui_s, ↓uj_s, ↓ui_o, ↓ui_k, ↓uj_o, ↓uj_k, ↓ui_j, ↓uj_i, ↓z_zero_o, ↓z_zero_j, ui_s, uj_s, ui_o, ui_k, uj_o, uj_k, ui_j, uj_i, z_zero_o, z_zero_j] at z ⊢; exact R.wp z⟩
theorem rc_nob0101 {x m : zM} (R : RCl x m) : RCl (z_ui (z_ui (z_ui (z_ui x 18 4 ((x.1 18 4) + (-1500))) 26 4 ((x.1 26 4) + 1500)) 34 4 ((x.1 34 4) + (-1500))) 42 4 ((x.1 42 4) + 1500)) (nM0101 m) := by
  have e0 : x.1 18 4 = m.1 61 0 := R.pt 0 (by decide)
  have e1 : x.1 26 4 = m.1 61 1 := R.pt 1 (by decide)
  have e2 : x.1 34 4 = m.1 61 2 := R.pt 2 (by decide)
  have e3 : x.1 42 4 = m.1 61 3 := R.pt 3 (by decide)
  unfold nM0101
  exact ⟨(by simp (disch := first | decide | omega) only [↓ui_s, ↓uj_s, ↓ui_o, ↓ui_k, ↓uj_o, ↓uj_k, ↓ui_j, ↓uj_i, ↓z_zero_o, ↓z_zero_j, ui_s, uj_s, ui_o, ui_k, uj_o, uj_k, ui_j, uj_i, z_zero_o, z_zero_j]; exact R.dl), (by simp (disch := first | decide | omega) only [↓ui_s, ↓uj_s, ↓ui_o, ↓ui_k, ↓uj_o, ↓uj_k, ↓ui_j, ↓uj_i, ↓z_zero_o, ↓z_zero_j, ui_s, uj_s, ui_o, ui_k, uj_o, uj_k, ui_j, uj_i, z_zero_o, z_zero_j]; exact R.rn), (by simp (disch := first | decide | omega) only [↓ui_s, ↓uj_s, ↓ui_o, ↓ui_k, ↓uj_o, ↓uj_k, ↓ui_j, ↓uj_i, ↓z_zero_o, ↓z_zero_j, ui_s, uj_s, ui_o, ui_k, uj_o, uj_k, ui_j, uj_i, z_zero_o, z_zero_j]; exact R.st), (by simp (disch := first | decide | omega) only [↓ui_s, ↓uj_s, ↓ui_o, ↓ui_k, ↓uj_o, ↓uj_k, ↓ui_j, ↓uj_i, ↓z_zero_o, ↓z_zero_j, ui_s, uj_s, ui_o, ui_k, uj_o, uj_k, ui_j, uj_i, z_zero_o, z_zero_j]; exact R.bt), (by simp (disch := first | decide | omega) only [↓ui_s, ↓uj_s, ↓ui_o, ↓ui_k, ↓uj_o, ↓uj_k, ↓ui_j, ↓uj_i, ↓z_zero_o, ↓z_zero_j, ui_s, uj_s, ui_o, ui_k, uj_o, uj_k, ui_j, uj_i, z_zero_o, z_zero_j]; exact R.en), (by simp (disch := first | decide | omega) only [↓ui_s, ↓uj_s, ↓ui_o, ↓ui_k, ↓uj_o, ↓uj_k, ↓ui_j, ↓uj_i, ↓z_zero_o, ↓z_zero_j, ui_s, uj_s, ui_o, ui_k, uj_o, uj_k, ui_j, uj_i, z_zero_o, z_zero_j]; exact R.he), (by simp (disch := first | decide | omega) only [↓ui_s, ↓uj_s, ↓ui_o, ↓ui_k, ↓uj_o, ↓uj_k, ↓ui_j, ↓uj_i, ↓z_zero_o, ↓z_zero_j, ui_s, uj_s, ui_o, ui_k, uj_o, uj_k, ui_j, uj_i, z_zero_o, z_zero_j]; exact R.wc), (by simp (disch := first | decide | omega) only [↓ui_s, ↓uj_s, ↓ui_o, ↓ui_k, ↓uj_o, ↓uj_k, ↓ui_j, ↓uj_i, ↓z_zero_o, ↓z_zero_j, ui_s, uj_s, ui_o, ui_k, uj_o, uj_k, ui_j, uj_i, z_zero_o, z_zero_j]; exact R.sd), (by simp (disch := first | decide | omega) only [↓ui_s, ↓uj_s, ↓ui_o, ↓ui_k, ↓uj_o, ↓uj_k, ↓ui_j, ↓uj_i, ↓z_zero_o, ↓z_zero_j, ui_s, uj_s, ui_o, ui_k, uj_o, uj_k, ui_j, uj_i, z_zero_o, z_zero_j]; exact R.nx), fun i h0 => by simp (disch := first | decide | omega) only [↓ui_s, ↓uj_s, ↓ui_o, ↓ui_k, ↓uj_o, ↓uj_k, ↓ui_j, ↓uj_i, ↓z_zero_o, ↓z_zero_j, ui_s, uj_s, ui_o, ui_k, uj_o, uj_k, ui_j, uj_i, z_zero_o, z_zero_j]; exact R.wl i h0, (fun s h0 => by
      obtain rfl | rfl | rfl | rfl : s = 0 ∨ s = 1 ∨ s = 2 ∨ s = 3 := by omega
      · show (z_ui (z_ui (z_ui (z_ui x 18 4 ((x.1 18 4) + (-1500))) 26 4 ((x.1 26 4) + 1500)) 34 4 ((x.1 34 4) + (-1500))) 42 4 ((x.1 42 4) + 1500)).1 18 4 = _; simp (disch := first | decide | omega) only [↓ui_s, ↓uj_s, ↓ui_o, ↓ui_k, ↓uj_o, ↓uj_k, ↓ui_j, ↓uj_i, ↓z_zero_o, ↓z_zero_j, ui_s, uj_s, ui_o, ui_k, uj_o, uj_k, ui_j, uj_i, z_zero_o, z_zero_j]; rw [e0]
      · show (z_ui (z_ui (z_ui (z_ui x 18 4 ((x.1 18 4) + (-1500))) 26 4 ((x.1 26 4) + 1500)) 34 4 ((x.1 34 4) + (-1500))) 42 4 ((x.1 42 4) + 1500)).1 26 4 = _; simp (disch := first | decide | omega) only [↓ui_s, ↓uj_s, ↓ui_o, ↓ui_k, ↓uj_o, ↓uj_k, ↓ui_j, ↓uj_i, ↓z_zero_o, ↓z_zero_j, ui_s, uj_s, ui_o, ui_k, uj_o, uj_k, ui_j, uj_i, z_zero_o, z_zero_j]; rw [e1]
      · show (z_ui (z_ui (z_ui (z_ui x 18 4 ((x.1 18 4) + (-1500))) 26 4 ((x.1 26 4) + 1500)) 34 4 ((x.1 34 4) + (-1500))) 42 4 ((x.1 42 4) + 1500)).1 34 4 = _; simp (disch := first | decide | omega) only [↓ui_s, ↓uj_s, ↓ui_o, ↓ui_k, ↓uj_o, ↓uj_k, ↓ui_j, ↓uj_i, ↓z_zero_o, ↓z_zero_j, ui_s, uj_s, ui_o, ui_k, uj_o, uj_k, ui_j, uj_i, z_zero_o, z_zero_j]; rw [e2]
      · show (z_ui (z_ui (z_ui (z_ui x 18 4 ((x.1 18 4) + (-1500))) 26 4 ((x.1 26 4) + 1500)) 34 4 ((x.1 34 4) + (-1500))) 42 4 ((x.1 42 4) + 1500)).1 42 4 = _; simp (disch := first | decide | omega) only [↓ui_s, ↓uj_s, ↓ui_o, ↓ui_k, ↓uj_o, ↓uj_k, ↓ui_j, ↓uj_i, ↓z_zero_o, ↓z_zero_j, ui_s, uj_s, ui_o, ui_k, uj_o, uj_k, ui_j, uj_i, z_zero_o, z_zero_j]; rw [e3]), fun s h0 => by simp (disch := first | decide | omega) only [↓ui_s, ↓uj_s, ↓ui_o, ↓ui_k, ↓uj_o, ↓uj_k, ↓ui_j, ↓uj_i, ↓z_zero_o, ↓z_zero_j, ui_s, uj_s, ui_o, ui_k, uj_o, uj_k, ui_j, uj_i, z_zero_o, z_zero_j]; exact R.be s h0, fun s h0 => by simp (disch := first | decide | omega) only [↓ui_s, ↓uj_s, ↓ui_o, ↓ui_k, ↓uj_o, ↓uj_k, ↓ui_j, ↓uj_i, ↓z_zero_o, ↓z_zero_j, ui_s, uj_s, ui_o, ui_k, uj_o, uj_k, ui_j, uj_i, z_zero_o, z_zero_j]; exact R.ao s h0, fun s h0 => by simp (disch := first | decide | omega) only [↓ui_s, ↓uj_s, ↓ui_o, ↓ui_k, ↓uj_o, ↓uj_k, ↓ui_j, ↓uj_i, ↓z_zero_o, ↓z_zero_j, ui_s, uj_s, ui_o, ui_k, uj_o, uj_k, ui_j, uj_i, z_zero_o, z_zero_j]; exact R.lg s h0, fun s h0 => by simp (disch := first | decide | omega) only [↓ui_s, ↓uj_s, ↓ui_o, ↓ui_k, ↓uj_o, ↓uj_k, ↓ui_j, ↓uj_i, ↓z_zero_o, ↓z_zero_j, ui_s, uj_s, ui_o, ui_k, uj_o, uj_k, ui_j, uj_i, z_zero_o, z_zero_j]; exact R.sy s h0, fun s h0 => by simp (disch := first | decide | omega) only [↓ui_s, ↓uj_s, ↓ui_o, ↓ui_k, ↓uj_o, ↓uj_k, ↓ui_j, ↓uj_i, ↓z_zero_o, ↓z_zero_j, ui_s, uj_s, ui_o, ui_k, uj_o, uj_k, ui_j, uj_i, z_zero_o, z_zero_j]; exact R.ds s h0, fun s h0 => by simp (disch := first | decide | omega) only [↓ui_s, ↓uj_s, ↓ui_o, ↓ui_k, ↓uj_o, ↓uj_k, ↓ui_j, ↓uj_i, ↓z_zero_o, ↓z_zero_j, ui_s, uj_s, ui_o, ui_k, uj_o, uj_k, ui_j, uj_i, z_zero_o, z_zero_j]; exact R.lm s h0, fun s k h0 h1 => by simp (disch := first | decide | omega) only [↓ui_s, ↓uj_s, ↓ui_o, ↓ui_k, ↓uj_o, ↓uj_k, ↓ui_j, ↓uj_i, ↓z_zero_o, ↓z_zero_j, ui_s, uj_s, ui_o, ui_k, uj_o, uj_k, ui_j, uj_i, z_zero_o, z_zero_j]; exact R.hd s k h0 h1, fun s i h0 h1 => by simp (disch := first | decide | omega) only [↓ui_s, ↓uj_s, ↓ui_o, ↓ui_k, ↓uj_o, ↓uj_k, ↓ui_j, ↓uj_i, ↓z_zero_o, ↓z_zero_j, ui_s, uj_s, ui_o, ui_k, uj_o, uj_k, ui_j, uj_i, z_zero_o, z_zero_j]; exact R.so s i h0 h1, fun s i h0 h1 => by simp (disch := first | decide | omega) only [↓ui_s, ↓uj_s, ↓ui_o, ↓ui_k, ↓uj_o, ↓uj_k, ↓ui_j, ↓uj_i, ↓z_zero_o, ↓z_zero_j, ui_s, uj_s, ui_o, ui_k, uj_o, uj_k, ui_j, uj_i, z_zero_o, z_zero_j]; exact R.lo s i h0 h1, fun s i h0 h1 => by simp (disch := first | decide | omega) only [↓ui_s, ↓uj_s, ↓ui_o, ↓ui_k, ↓uj_o, ↓uj_k, ↓ui_j, ↓uj_i, ↓z_zero_o, ↓z_zero_j, ui_s, uj_s, ui_o, ui_k, uj_o, uj_k, ui_j, uj_i, z_zero_o, z_zero_j]; exact R.rv s i h0 h1, fun i f h0 h1 h2 => by simp (disch := first | decide | omega) only [↓ui_s, ↓uj_s, ↓ui_o, ↓ui_k, ↓uj_o, ↓uj_k, ↓ui_j, ↓uj_i, ↓z_zero_o, ↓z_zero_j, ui_s, uj_s, ui_o, ui_k, uj_o, uj_k, ui_j, uj_i, z_zero_o, z_zero_j]; exact R.wi i f h0 h1 h2, fun i h0 => by simp (disch := first | decide | omega) only [↓ui_s, ↓uj_s, ↓ui_o, ↓ui_k, ↓uj_o, ↓uj_k, ↓ui_j, ↓uj_i, ↓z_zero_o, ↓z_zero_j, ui_s, uj_s, ui_o, ui_k, uj_o, uj_k, ui_j, uj_i, z_zero_o, z_zero_j]; exact R.wf i h0, fun s k2 h0 h1 => by simp (disch := first | decide | omega) only [↓ui_s, ↓uj_s, ↓ui_o, ↓ui_k, ↓uj_o, ↓uj_k, ↓ui_j, ↓uj_i, ↓z_zero_o, ↓z_zero_j, ui_s, uj_s, ui_o, ui_k, uj_o, uj_k, ui_j, uj_i, z_zero_o, z_zero_j]; exact R.al s k2 h0 h1, fun s h0 => by simp (disch := first | decide | omega) only [↓ui_s, ↓uj_s, ↓ui_o, ↓ui_k, ↓uj_o, ↓uj_k, ↓ui_j, ↓uj_i, ↓z_zero_o, ↓z_zero_j, ui_s, uj_s, ui_o, ui_k, uj_o, uj_k, ui_j, uj_i, z_zero_o, z_zero_j]; exact R.lz s h0, fun s i h0 h1 => by simp (disch := first | decide | omega) only [↓ui_s, ↓uj_s, ↓ui_o, ↓ui_k, ↓uj_o, ↓uj_k, ↓ui_j, ↓uj_i, ↓z_zero_o, ↓z_zero_j, ui_s, uj_s, ui_o, ui_k, uj_o, uj_k, ui_j, uj_i, z_zero_o, z_zero_j] at h1 ⊢; exact R.sv s i h0 h1, fun s h0 => by simp (disch := first | decide | omega) only [↓ui_s, ↓uj_s, ↓ui_o, ↓ui_k, ↓uj_o, ↓uj_k, ↓ui_j, ↓uj_i, ↓z_zero_o, ↓z_zero_j, ui_s, uj_s, ui_o, ui_k, uj_o, uj_k, ui_j, uj_i, z_zero_o, z_zero_j]; rw [R.tk s h0]; exact congrArg (fun f => kb f 34) (tkM_cg (R.rb s h0) (fun i hi => by simp (disch := first | decide | omega) only [↓ui_s, ↓uj_s, ↓ui_o, ↓ui_k, ↓uj_o, ↓uj_k, ↓ui_j, ↓uj_i, ↓z_zero_o, ↓z_zero_j, ui_s, uj_s, ui_o, ui_k, uj_o, uj_k, ui_j, uj_i, z_zero_o, z_zero_j]) (by simp (disch := first | decide | omega) only [↓ui_s, ↓uj_s, ↓ui_o, ↓ui_k, ↓uj_o, ↓uj_k, ↓ui_j, ↓uj_i, ↓z_zero_o, ↓z_zero_j, ui_s, uj_s, ui_o, ui_k, uj_o, uj_k, ui_j, uj_i, z_zero_o, z_zero_j])), fun s h0 => by simp (disch := first | decide | omega) only [↓ui_s, ↓uj_s, ↓ui_o, ↓ui_k, ↓uj_o, ↓uj_k, ↓ui_j, ↓uj_i, ↓z_zero_o, ↓z_zero_j, ui_s, uj_s, ui_o, ui_k, uj_o, uj_k, ui_j, uj_i, z_zero_o, z_zero_j]; exact R.rb s h0, fun s i h0 h1 => by simp (disch := first | decide | omega) only [↓ui_s, ↓uj_s, ↓ui_o, ↓ui_k, ↓uj_o, ↓uj_k, ↓ui_j, ↓uj_i, ↓z_zero_o, ↓z_zero_j, ui_s, uj_s, ui_o, ui_k, uj_o, uj_k, ui_j, uj_i, z_zero_o, z_zero_j] at h1 ⊢; exact R.rk s i h0 h1, (by simp (disch := first | decide | omega) only [↓ui_s, ↓uj_s, ↓ui_o, ↓ui_k, ↓uj_o, ↓uj_k, ↓ui_j, ↓uj_i, ↓z_zero_o, ↓z_zero_j, ui_s, uj_s, ui_o, ui_k, uj_o, uj_k, ui_j, uj_i, z_zero_o, z_zero_j]; exact R.rd), fun s h0 => by simp (disch := first | decide | omega) only [↓ui_s, ↓uj_s, ↓ui_o, ↓ui_k, ↓uj_o, ↓uj_k, ↓ui_j, ↓uj_i, ↓z_zero_o, ↓z_zero_j, ui_s, uj_s, ui_o, ui_k, uj_o, uj_k, ui_j, uj_i, z_zero_o, z_zero_j]; exact R.bb s h0, fun z => by simp (disch := first | decide | omega) only [↓ui_s, ↓uj_s, ↓ui_o, ↓ui_k, ↓uj_o, ↓uj_k, ↓ui_j, ↓uj_i, ↓z_zero_o, ↓z_zero_j, ui_s, uj_s, ui_o, ui_k, uj_o, uj_k, ui_j, uj_i, z_zero_o, z_zero_j] at z ⊢; exact R.wp z⟩
theorem rc_nob0110 {x m : zM} (R : RCl x m) : RCl (z_ui (z_ui (z_ui (z_ui x 18 4 ((x.1 18 4) + (-1500))) 26 4 ((x.1 26 4) + 1500)) 34 4 ((x.1 34 4) + 1500)) 42 4 ((x.1 42 4) + (-1500))) (nM0110 m) := by
  have e0 : x.1 18 4 = m.1 61 0 := R.pt 0 (by decide)
  have e1 : x.1 26 4 = m.1 61 1 := R.pt 1 (by decide)
  have e2 : x.1 34 4 = m.1 61 2 := R.pt 2 (by decide)
  have e3 : x.1 42 4 = m.1 61 3 := R.pt 3 (by decide)
  unfold nM0110
  exact ⟨(by simp (disch := first | decide | omega) only [↓ui_s, ↓uj_s, ↓ui_o, ↓ui_k, ↓uj_o, ↓uj_k, ↓ui_j, ↓uj_i, ↓z_zero_o, ↓z_zero_j, ui_s, uj_s, ui_o, ui_k, uj_o, uj_k, ui_j, uj_i, z_zero_o, z_zero_j]; exact R.dl), (by simp (disch := first | decide | omega) only [↓ui_s, ↓uj_s, ↓ui_o, ↓ui_k, ↓uj_o, ↓uj_k, ↓ui_j, ↓uj_i, ↓z_zero_o, ↓z_zero_j, ui_s, uj_s, ui_o, ui_k, uj_o, uj_k, ui_j, uj_i, z_zero_o, z_zero_j]; exact R.rn), (by simp (disch := first | decide | omega) only [↓ui_s, ↓uj_s, ↓ui_o, ↓ui_k, ↓uj_o, ↓uj_k, ↓ui_j, ↓uj_i, ↓z_zero_o, ↓z_zero_j, ui_s, uj_s, ui_o, ui_k, uj_o, uj_k, ui_j, uj_i, z_zero_o, z_zero_j]; exact R.st), (by simp (disch := first | decide | omega) only [↓ui_s, ↓uj_s, ↓ui_o, ↓ui_k, ↓uj_o, ↓uj_k, ↓ui_j, ↓uj_i, ↓z_zero_o, ↓z_zero_j, ui_s, uj_s, ui_o, ui_k, uj_o, uj_k, ui_j, uj_i, z_zero_o, z_zero_j]; exact R.bt), (by simp (disch := first | decide | omega) only [↓ui_s, ↓uj_s, ↓ui_o, ↓ui_k, ↓uj_o, ↓uj_k, ↓ui_j, ↓uj_i, ↓z_zero_o, ↓z_zero_j, ui_s, uj_s, ui_o, ui_k, uj_o, uj_k, ui_j, uj_i, z_zero_o, z_zero_j]; exact R.en), (by simp (disch := first | decide | omega) only [↓ui_s, ↓uj_s, ↓ui_o, ↓ui_k, ↓uj_o, ↓uj_k, ↓ui_j, ↓uj_i, ↓z_zero_o, ↓z_zero_j, ui_s, uj_s, ui_o, ui_k, uj_o, uj_k, ui_j, uj_i, z_zero_o, z_zero_j]; exact R.he), (by simp (disch := first | decide | omega) only [↓ui_s, ↓uj_s, ↓ui_o, ↓ui_k, ↓uj_o, ↓uj_k, ↓ui_j, ↓uj_i, ↓z_zero_o, ↓z_zero_j, ui_s, uj_s, ui_o, ui_k, uj_o, uj_k, ui_j, uj_i, z_zero_o, z_zero_j]; exact R.wc), (by simp (disch := first | decide | omega) only [↓ui_s, ↓uj_s, ↓ui_o, ↓ui_k, ↓uj_o, ↓uj_k, ↓ui_j, ↓uj_i, ↓z_zero_o, ↓z_zero_j, ui_s, uj_s, ui_o, ui_k, uj_o, uj_k, ui_j, uj_i, z_zero_o, z_zero_j]; exact R.sd), (by simp (disch := first | decide | omega) only [↓ui_s, ↓uj_s, ↓ui_o, ↓ui_k, ↓uj_o, ↓uj_k, ↓ui_j, ↓uj_i, ↓z_zero_o, ↓z_zero_j, ui_s, uj_s, ui_o, ui_k, uj_o, uj_k, ui_j, uj_i, z_zero_o, z_zero_j]; exact R.nx), fun i h0 => by simp (disch := first | decide | omega) only [↓ui_s, ↓uj_s, ↓ui_o, ↓ui_k, ↓uj_o, ↓uj_k, ↓ui_j, ↓uj_i, ↓z_zero_o, ↓z_zero_j, ui_s, uj_s, ui_o, ui_k, uj_o, uj_k, ui_j, uj_i, z_zero_o, z_zero_j]; exact R.wl i h0, (fun s h0 => by
      obtain rfl | rfl | rfl | rfl : s = 0 ∨ s = 1 ∨ s = 2 ∨ s = 3 := by omega
      · show (z_ui (z_ui (z_ui (z_ui x 18 4 ((x.1 18 4) + (-1500))) 26 4 ((x.1 26 4) + 1500)) 34 4 ((x.1 34 4) + 1500)) 42 4 ((x.1 42 4) + (-1500))).1 18 4 = _; simp (disch := first | decide | omega) only [↓ui_s, ↓uj_s, ↓ui_o, ↓ui_k, ↓uj_o, ↓uj_k, ↓ui_j, ↓uj_i, ↓z_zero_o, ↓z_zero_j, ui_s, uj_s, ui_o, ui_k, uj_o, uj_k, ui_j, uj_i, z_zero_o, z_zero_j]; rw [e0]
      · show (z_ui (z_ui (z_ui (z_ui x 18 4 ((x.1 18 4) + (-1500))) 26 4 ((x.1 26 4) + 1500)) 34 4 ((x.1 34 4) + 1500)) 42 4 ((x.1 42 4) + (-1500))).1 26 4 = _; simp (disch := first | decide | omega) only [↓ui_s, ↓uj_s, ↓ui_o, ↓ui_k, ↓uj_o, ↓uj_k, ↓ui_j, ↓uj_i, ↓z_zero_o, ↓z_zero_j, ui_s, uj_s, ui_o, ui_k, uj_o, uj_k, ui_j, uj_i, z_zero_o, z_zero_j]; rw [e1]
      · show (z_ui (z_ui (z_ui (z_ui x 18 4 ((x.1 18 4) + (-1500))) 26 4 ((x.1 26 4) + 1500)) 34 4 ((x.1 34 4) + 1500)) 42 4 ((x.1 42 4) + (-1500))).1 34 4 = _; simp (disch := first | decide | omega) only [↓ui_s, ↓uj_s, ↓ui_o, ↓ui_k, ↓uj_o, ↓uj_k, ↓ui_j, ↓uj_i, ↓z_zero_o, ↓z_zero_j, ui_s, uj_s, ui_o, ui_k, uj_o, uj_k, ui_j, uj_i, z_zero_o, z_zero_j]; rw [e2]
      · show (z_ui (z_ui (z_ui (z_ui x 18 4 ((x.1 18 4) + (-1500))) 26 4 ((x.1 26 4) + 1500)) 34 4 ((x.1 34 4) + 1500)) 42 4 ((x.1 42 4) + (-1500))).1 42 4 = _; simp (disch := first | decide | omega) only [↓ui_s, ↓uj_s, ↓ui_o, ↓ui_k, ↓uj_o, ↓uj_k, ↓ui_j, ↓uj_i, ↓z_zero_o, ↓z_zero_j, ui_s, uj_s, ui_o, ui_k, uj_o, uj_k, ui_j, uj_i, z_zero_o, z_zero_j]; rw [e3]), fun s h0 => by simp (disch := first | decide | omega) only [↓ui_s, ↓uj_s, ↓ui_o, ↓ui_k, ↓uj_o, ↓uj_k, ↓ui_j, ↓uj_i, ↓z_zero_o, ↓z_zero_j, ui_s, uj_s, ui_o, ui_k, uj_o, uj_k, ui_j, uj_i, z_zero_o, z_zero_j]; exact R.be s h0, fun s h0 => by simp (disch := first | decide | omega) only [↓ui_s, ↓uj_s, ↓ui_o, ↓ui_k, ↓uj_o, ↓uj_k, ↓ui_j, ↓uj_i, ↓z_zero_o, ↓z_zero_j, ui_s, uj_s, ui_o, ui_k, uj_o, uj_k, ui_j, uj_i, z_zero_o, z_zero_j]; exact R.ao s h0, fun s h0 => by simp (disch := first | decide | omega) only [↓ui_s, ↓uj_s, ↓ui_o, ↓ui_k, ↓uj_o, ↓uj_k, ↓ui_j, ↓uj_i, ↓z_zero_o, ↓z_zero_j, ui_s, uj_s, ui_o, ui_k, uj_o, uj_k, ui_j, uj_i, z_zero_o, z_zero_j]; exact R.lg s h0, fun s h0 => by simp (disch := first | decide | omega) only [↓ui_s, ↓uj_s, ↓ui_o, ↓ui_k, ↓uj_o, ↓uj_k, ↓ui_j, ↓uj_i, ↓z_zero_o, ↓z_zero_j, ui_s, uj_s, ui_o, ui_k, uj_o, uj_k, ui_j, uj_i, z_zero_o, z_zero_j]; exact R.sy s h0, fun s h0 => by simp (disch := first | decide | omega) only [↓ui_s, ↓uj_s, ↓ui_o, ↓ui_k, ↓uj_o, ↓uj_k, ↓ui_j, ↓uj_i, ↓z_zero_o, ↓z_zero_j, ui_s, uj_s, ui_o, ui_k, uj_o, uj_k, ui_j, uj_i, z_zero_o, z_zero_j]; exact R.ds s h0, fun s h0 => by simp (disch := first | decide | omega) only [↓ui_s, ↓uj_s, ↓ui_o, ↓ui_k, ↓uj_o, ↓uj_k, ↓ui_j, ↓uj_i, ↓z_zero_o, ↓z_zero_j, ui_s, uj_s, ui_o, ui_k, uj_o, uj_k, ui_j, uj_i, z_zero_o, z_zero_j]; exact R.lm s h0, fun s k h0 h1 => by simp (disch := first | decide | omega) only [↓ui_s, ↓uj_s, ↓ui_o, ↓ui_k, ↓uj_o, ↓uj_k, ↓ui_j, ↓uj_i, ↓z_zero_o, ↓z_zero_j, ui_s, uj_s, ui_o, ui_k, uj_o, uj_k, ui_j, uj_i, z_zero_o, z_zero_j]; exact R.hd s k h0 h1, fun s i h0 h1 => by simp (disch := first | decide | omega) only [↓ui_s, ↓uj_s, ↓ui_o, ↓ui_k, ↓uj_o, ↓uj_k, ↓ui_j, ↓uj_i, ↓z_zero_o, ↓z_zero_j, ui_s, uj_s, ui_o, ui_k, uj_o, uj_k, ui_j, uj_i, z_zero_o, z_zero_j]; exact R.so s i h0 h1, fun s i h0 h1 => by simp (disch := first | decide | omega) only [↓ui_s, ↓uj_s, ↓ui_o, ↓ui_k, ↓uj_o, ↓uj_k, ↓ui_j, ↓uj_i, ↓z_zero_o, ↓z_zero_j, ui_s, uj_s, ui_o, ui_k, uj_o, uj_k, ui_j, uj_i, z_zero_o, z_zero_j]; exact R.lo s i h0 h1, fun s i h0 h1 => by simp (disch := first | decide | omega) only [↓ui_s, ↓uj_s, ↓ui_o, ↓ui_k, ↓uj_o, ↓uj_k, ↓ui_j, ↓uj_i, ↓z_zero_o, ↓z_zero_j, ui_s, uj_s, ui_o, ui_k, uj_o, uj_k, ui_j, uj_i, z_zero_o, z_zero_j]; exact R.rv s i h0 h1, fun i f h0 h1 h2 => by simp (disch := first | decide | omega) only [↓ui_s, ↓uj_s, ↓ui_o, ↓ui_k, ↓uj_o, ↓uj_k, ↓ui_j, ↓uj_i, ↓z_zero_o, ↓z_zero_j, ui_s, uj_s, ui_o, ui_k, uj_o, uj_k, ui_j, uj_i, z_zero_o, z_zero_j]; exact R.wi i f h0 h1 h2, fun i h0 => by simp (disch := first | decide | omega) only [↓ui_s, ↓uj_s, ↓ui_o, ↓ui_k, ↓uj_o, ↓uj_k, ↓ui_j, ↓uj_i, ↓z_zero_o, ↓z_zero_j, ui_s, uj_s, ui_o, ui_k, uj_o, uj_k, ui_j, uj_i, z_zero_o, z_zero_j]; exact R.wf i h0, fun s k2 h0 h1 => by simp (disch := first | decide | omega) only [↓ui_s, ↓uj_s, ↓ui_o, ↓ui_k, ↓uj_o, ↓uj_k, ↓ui_j, ↓uj_i, ↓z_zero_o, ↓z_zero_j, ui_s, uj_s, ui_o, ui_k, uj_o, uj_k, ui_j, uj_i, z_zero_o, z_zero_j]; exact R.al s k2 h0 h1, fun s h0 => by simp (disch := first | decide | omega) only [↓ui_s, ↓uj_s, ↓ui_o, ↓ui_k, ↓uj_o, ↓uj_k, ↓ui_j, ↓uj_i, ↓z_zero_o, ↓z_zero_j, ui_s, uj_s, ui_o, ui_k, uj_o, uj_k, ui_j, uj_i, z_zero_o, z_zero_j]; exact R.lz s h0, fun s i h0 h1 => by simp (disch := first | decide | omega) only [↓ui_s, ↓uj_s, ↓ui_o, ↓ui_k, ↓uj_o, ↓uj_k, ↓ui_j, ↓uj_i, ↓z_zero_o, ↓z_zero_j, ui_s, uj_s, ui_o, ui_k, uj_o, uj_k, ui_j, uj_i, z_zero_o, z_zero_j] at h1 ⊢; exact R.sv s i h0 h1, fun s h0 => by simp (disch := first | decide | omega) only [↓ui_s, ↓uj_s, ↓ui_o, ↓ui_k, ↓uj_o, ↓uj_k, ↓ui_j, ↓uj_i, ↓z_zero_o, ↓z_zero_j, ui_s, uj_s, ui_o, ui_k, uj_o, uj_k, ui_j, uj_i, z_zero_o, z_zero_j]; rw [R.tk s h0]; exact congrArg (fun f => kb f 34) (tkM_cg (R.rb s h0) (fun i hi => by simp (disch := first | decide | omega) only [↓ui_s, ↓uj_s, ↓ui_o, ↓ui_k, ↓uj_o, ↓uj_k, ↓ui_j, ↓uj_i, ↓z_zero_o, ↓z_zero_j, ui_s, uj_s, ui_o, ui_k, uj_o, uj_k, ui_j, uj_i, z_zero_o, z_zero_j]) (by simp (disch := first | decide | omega) only [↓ui_s, ↓uj_s, ↓ui_o, ↓ui_k, ↓uj_o, ↓uj_k, ↓ui_j, ↓uj_i, ↓z_zero_o, ↓z_zero_j, ui_s, uj_s, ui_o, ui_k, uj_o, uj_k, ui_j, uj_i, z_zero_o, z_zero_j])), fun s h0 => by simp (disch := first | decide | omega) only [↓ui_s, ↓uj_s, ↓ui_o, ↓ui_k, ↓uj_o, ↓uj_k, ↓ui_j, ↓uj_i, ↓z_zero_o, ↓z_zero_j, ui_s, uj_s, ui_o, ui_k, uj_o, uj_k, ui_j, uj_i, z_zero_o, z_zero_j]; exact R.rb s h0, fun s i h0 h1 => by simp (disch := first | decide | omega) only [↓ui_s, ↓uj_s, ↓ui_o, ↓ui_k, ↓uj_o, ↓uj_k, ↓ui_j, ↓uj_i, ↓z_zero_o, ↓z_zero_j, ui_s, uj_s, ui_o, ui_k, uj_o, uj_k, ui_j, uj_i, z_zero_o, z_zero_j] at h1 ⊢; exact R.rk s i h0 h1, (by simp (disch := first | decide | omega) only [↓ui_s, ↓uj_s, ↓ui_o, ↓ui_k, ↓uj_o, ↓uj_k, ↓ui_j, ↓uj_i, ↓z_zero_o, ↓z_zero_j, ui_s, uj_s, ui_o, ui_k, uj_o, uj_k, ui_j, uj_i, z_zero_o, z_zero_j]; exact R.rd), fun s h0 => by simp (disch := first | decide | omega) only [↓ui_s, ↓uj_s, ↓ui_o, ↓ui_k, ↓uj_o, ↓uj_k, ↓ui_j, ↓uj_i, ↓z_zero_o, ↓z_zero_j, ui_s, uj_s, ui_o, ui_k, uj_o, uj_k, ui_j, uj_i, z_zero_o, z_zero_j]; exact R.bb s h0, fun z => by simp (disch := first | decide | omega) only [↓ui_s, ↓uj_s, ↓ui_o, ↓ui_k, ↓uj_o, ↓uj_k, ↓ui_j, ↓uj_i, ↓z_zero_o, ↓z_zero_j, ui_s, uj_s, ui_o, ui_k, uj_o, uj_k, ui_j, uj_i, z_zero_o, z_zero_j] at z ⊢; exact R.wp z⟩
theorem rc_nob0111 {x m : zM} (R : RCl x m) : RCl (z_ui (z_ui (z_ui (z_ui x 18 4 ((x.1 18 4) + (-3000))) 26 4 ((x.1 26 4) + 1000)) 34 4 ((x.1 34 4) + 1000)) 42 4 ((x.1 42 4) + 1000)) (nM0111 m) := by
  have e0 : x.1 18 4 = m.1 61 0 := R.pt 0 (by decide)
  have e1 : x.1 26 4 = m.1 61 1 := R.pt 1 (by decide)
  have e2 : x.1 34 4 = m.1 61 2 := R.pt 2 (by decide)
  have e3 : x.1 42 4 = m.1 61 3 := R.pt 3 (by decide)
  unfold nM0111
  exact ⟨(by simp (disch := first | decide | omega) only [↓ui_s, ↓uj_s, ↓ui_o, ↓ui_k, ↓uj_o, ↓uj_k, ↓ui_j, ↓uj_i, ↓z_zero_o, ↓z_zero_j, ui_s, uj_s, ui_o, ui_k, uj_o, uj_k, ui_j, uj_i, z_zero_o, z_zero_j]; exact R.dl), (by simp (disch := first | decide | omega) only [↓ui_s, ↓uj_s, ↓ui_o, ↓ui_k, ↓uj_o, ↓uj_k, ↓ui_j, ↓uj_i, ↓z_zero_o, ↓z_zero_j, ui_s, uj_s, ui_o, ui_k, uj_o, uj_k, ui_j, uj_i, z_zero_o, z_zero_j]; exact R.rn), (by simp (disch := first | decide | omega) only [↓ui_s, ↓uj_s, ↓ui_o, ↓ui_k, ↓uj_o, ↓uj_k, ↓ui_j, ↓uj_i, ↓z_zero_o, ↓z_zero_j, ui_s, uj_s, ui_o, ui_k, uj_o, uj_k, ui_j, uj_i, z_zero_o, z_zero_j]; exact R.st), (by simp (disch := first | decide | omega) only [↓ui_s, ↓uj_s, ↓ui_o, ↓ui_k, ↓uj_o, ↓uj_k, ↓ui_j, ↓uj_i, ↓z_zero_o, ↓z_zero_j, ui_s, uj_s, ui_o, ui_k, uj_o, uj_k, ui_j, uj_i, z_zero_o, z_zero_j]; exact R.bt), (by simp (disch := first | decide | omega) only [↓ui_s, ↓uj_s, ↓ui_o, ↓ui_k, ↓uj_o, ↓uj_k, ↓ui_j, ↓uj_i, ↓z_zero_o, ↓z_zero_j, ui_s, uj_s, ui_o, ui_k, uj_o, uj_k, ui_j, uj_i, z_zero_o, z_zero_j]; exact R.en), (by simp (disch := first | decide | omega) only [↓ui_s, ↓uj_s, ↓ui_o, ↓ui_k, ↓uj_o, ↓uj_k, ↓ui_j, ↓uj_i, ↓z_zero_o, ↓z_zero_j, ui_s, uj_s, ui_o, ui_k, uj_o, uj_k, ui_j, uj_i, z_zero_o, z_zero_j]; exact R.he), (by simp (disch := first | decide | omega) only [↓ui_s, ↓uj_s, ↓ui_o, ↓ui_k, ↓uj_o, ↓uj_k, ↓ui_j, ↓uj_i, ↓z_zero_o, ↓z_zero_j, ui_s, uj_s, ui_o, ui_k, uj_o, uj_k, ui_j, uj_i, z_zero_o, z_zero_j]; exact R.wc), (by simp (disch := first | decide | omega) only [↓ui_s, ↓uj_s, ↓ui_o, ↓ui_k, ↓uj_o, ↓uj_k, ↓ui_j, ↓uj_i, ↓z_zero_o, ↓z_zero_j, ui_s, uj_s, ui_o, ui_k, uj_o, uj_k, ui_j, uj_i, z_zero_o, z_zero_j]; exact R.sd), (by simp (disch := first | decide | omega) only [↓ui_s, ↓uj_s, ↓ui_o, ↓ui_k, ↓uj_o, ↓uj_k, ↓ui_j, ↓uj_i, ↓z_zero_o, ↓z_zero_j, ui_s, uj_s, ui_o, ui_k, uj_o, uj_k, ui_j, uj_i, z_zero_o, z_zero_j]; exact R.nx), fun i h0 => by simp (disch := first | decide | omega) only [↓ui_s, ↓uj_s, ↓ui_o, ↓ui_k, ↓uj_o, ↓uj_k, ↓ui_j, ↓uj_i, ↓z_zero_o, ↓z_zero_j, ui_s, uj_s, ui_o, ui_k, uj_o, uj_k, ui_j, uj_i, z_zero_o, z_zero_j]; exact R.wl i h0, (fun s h0 => by
      obtain rfl | rfl | rfl | rfl : s = 0 ∨ s = 1 ∨ s = 2 ∨ s = 3 := by omega
      · show (z_ui (z_ui (z_ui (z_ui x 18 4 ((x.1 18 4) + (-3000))) 26 4 ((x.1 26 4) + 1000)) 34 4 ((x.1 34 4) + 1000)) 42 4 ((x.1 42 4) + 1000)).1 18 4 = _; simp (disch := first | decide | omega) only [↓ui_s, ↓uj_s, ↓ui_o, ↓ui_k, ↓uj_o, ↓uj_k, ↓ui_j, ↓uj_i, ↓z_zero_o, ↓z_zero_j, ui_s, uj_s, ui_o, ui_k, uj_o, uj_k, ui_j, uj_i, z_zero_o, z_zero_j]; rw [e0]
      · show (z_ui (z_ui (z_ui (z_ui x 18 4 ((x.1 18 4) + (-3000))) 26 4 ((x.1 26 4) + 1000)) 34 4 ((x.1 34 4) + 1000)) 42 4 ((x.1 42 4) + 1000)).1 26 4 = _; simp (disch := first | decide | omega) only [↓ui_s, ↓uj_s, ↓ui_o, ↓ui_k, ↓uj_o, ↓uj_k, ↓ui_j, ↓uj_i, ↓z_zero_o, ↓z_zero_j, ui_s, uj_s, ui_o, ui_k, uj_o, uj_k, ui_j, uj_i, z_zero_o, z_zero_j]; rw [e1]
      · show (z_ui (z_ui (z_ui (z_ui x 18 4 ((x.1 18 4) + (-3000))) 26 4 ((x.1 26 4) + 1000)) 34 4 ((x.1 34 4) + 1000)) 42 4 ((x.1 42 4) + 1000)).1 34 4 = _; simp (disch := first | decide | omega) only [↓ui_s, ↓uj_s, ↓ui_o, ↓ui_k, ↓uj_o, ↓uj_k, ↓ui_j, ↓uj_i, ↓z_zero_o, ↓z_zero_j, ui_s, uj_s, ui_o, ui_k, uj_o, uj_k, ui_j, uj_i, z_zero_o, z_zero_j]; rw [e2]
      · show (z_ui (z_ui (z_ui (z_ui x 18 4 ((x.1 18 4) + (-3000))) 26 4 ((x.1 26 4) + 1000)) 34 4 ((x.1 34 4) + 1000)) 42 4 ((x.1 42 4) + 1000)).1 42 4 = _; simp (disch := first | decide | omega) only [↓ui_s, ↓uj_s, ↓ui_o, ↓ui_k, ↓uj_o, ↓uj_k, ↓ui_j, ↓uj_i, ↓z_zero_o, ↓z_zero_j, ui_s, uj_s, ui_o, ui_k, uj_o, uj_k, ui_j, uj_i, z_zero_o, z_zero_j]; rw [e3]), fun s h0 => by simp (disch := first | decide | omega) only [↓ui_s, ↓uj_s, ↓ui_o, ↓ui_k, ↓uj_o, ↓uj_k, ↓ui_j, ↓uj_i, ↓z_zero_o, ↓z_zero_j, ui_s, uj_s, ui_o, ui_k, uj_o, uj_k, ui_j, uj_i, z_zero_o, z_zero_j]; exact R.be s h0, fun s h0 => by simp (disch := first | decide | omega) only [↓ui_s, ↓uj_s, ↓ui_o, ↓ui_k, ↓uj_o, ↓uj_k, ↓ui_j, ↓uj_i, ↓z_zero_o, ↓z_zero_j, ui_s, uj_s, ui_o, ui_k, uj_o, uj_k, ui_j, uj_i, z_zero_o, z_zero_j]; exact R.ao s h0, fun s h0 => by simp (disch := first | decide | omega) only [↓ui_s, ↓uj_s, ↓ui_o, ↓ui_k, ↓uj_o, ↓uj_k, ↓ui_j, ↓uj_i, ↓z_zero_o, ↓z_zero_j, ui_s, uj_s, ui_o, ui_k, uj_o, uj_k, ui_j, uj_i, z_zero_o, z_zero_j]; exact R.lg s h0, fun s h0 => by simp (disch := first | decide | omega) only [↓ui_s, ↓uj_s, ↓ui_o, ↓ui_k, ↓uj_o, ↓uj_k, ↓ui_j, ↓uj_i, ↓z_zero_o, ↓z_zero_j, ui_s, uj_s, ui_o, ui_k, uj_o, uj_k, ui_j, uj_i, z_zero_o, z_zero_j]; exact R.sy s h0, fun s h0 => by simp (disch := first | decide | omega) only [↓ui_s, ↓uj_s, ↓ui_o, ↓ui_k, ↓uj_o, ↓uj_k, ↓ui_j, ↓uj_i, ↓z_zero_o, ↓z_zero_j, ui_s, uj_s, ui_o, ui_k, uj_o, uj_k, ui_j, uj_i, z_zero_o, z_zero_j]; exact R.ds s h0, fun s h0 => by simp (disch := first | decide | omega) only [↓ui_s, ↓uj_s, ↓ui_o, ↓ui_k, ↓uj_o, ↓uj_k, ↓ui_j, ↓uj_i, ↓z_zero_o, ↓z_zero_j, ui_s, uj_s, ui_o, ui_k, uj_o, uj_k, ui_j, uj_i, z_zero_o, z_zero_j]; exact R.lm s h0, fun s k h0 h1 => by simp (disch := first | decide | omega) only [↓ui_s, ↓uj_s, ↓ui_o, ↓ui_k, ↓uj_o, ↓uj_k, ↓ui_j, ↓uj_i, ↓z_zero_o, ↓z_zero_j, ui_s, uj_s, ui_o, ui_k, uj_o, uj_k, ui_j, uj_i, z_zero_o, z_zero_j]; exact R.hd s k h0 h1, fun s i h0 h1 => by simp (disch := first | decide | omega) only [↓ui_s, ↓uj_s, ↓ui_o, ↓ui_k, ↓uj_o, ↓uj_k, ↓ui_j, ↓uj_i, ↓z_zero_o, ↓z_zero_j, ui_s, uj_s, ui_o, ui_k, uj_o, uj_k, ui_j, uj_i, z_zero_o, z_zero_j]; exact R.so s i h0 h1, fun s i h0 h1 => by simp (disch := first | decide | omega) only [↓ui_s, ↓uj_s, ↓ui_o, ↓ui_k, ↓uj_o, ↓uj_k, ↓ui_j, ↓uj_i, ↓z_zero_o, ↓z_zero_j, ui_s, uj_s, ui_o, ui_k, uj_o, uj_k, ui_j, uj_i, z_zero_o, z_zero_j]; exact R.lo s i h0 h1, fun s i h0 h1 => by simp (disch := first | decide | omega) only [↓ui_s, ↓uj_s, ↓ui_o, ↓ui_k, ↓uj_o, ↓uj_k, ↓ui_j, ↓uj_i, ↓z_zero_o, ↓z_zero_j, ui_s, uj_s, ui_o, ui_k, uj_o, uj_k, ui_j, uj_i, z_zero_o, z_zero_j]; exact R.rv s i h0 h1, fun i f h0 h1 h2 => by simp (disch := first | decide | omega) only [↓ui_s, ↓uj_s, ↓ui_o, ↓ui_k, ↓uj_o, ↓uj_k, ↓ui_j, ↓uj_i, ↓z_zero_o, ↓z_zero_j, ui_s, uj_s, ui_o, ui_k, uj_o, uj_k, ui_j, uj_i, z_zero_o, z_zero_j]; exact R.wi i f h0 h1 h2, fun i h0 => by simp (disch := first | decide | omega) only [↓ui_s, ↓uj_s, ↓ui_o, ↓ui_k, ↓uj_o, ↓uj_k, ↓ui_j, ↓uj_i, ↓z_zero_o, ↓z_zero_j, ui_s, uj_s, ui_o, ui_k, uj_o, uj_k, ui_j, uj_i, z_zero_o, z_zero_j]; exact R.wf i h0, fun s k2 h0 h1 => by simp (disch := first | decide | omega) only [↓ui_s, ↓uj_s, ↓ui_o, ↓ui_k, ↓uj_o, ↓uj_k, ↓ui_j, ↓uj_i, ↓z_zero_o, ↓z_zero_j, ui_s, uj_s, ui_o, ui_k, uj_o, uj_k, ui_j, uj_i, z_zero_o, z_zero_j]; exact R.al s k2 h0 h1, fun s h0 => by simp (disch := first | decide | omega) only [↓ui_s, ↓uj_s, ↓ui_o, ↓ui_k, ↓uj_o, ↓uj_k, ↓ui_j, ↓uj_i, ↓z_zero_o, ↓z_zero_j, ui_s, uj_s, ui_o, ui_k, uj_o, uj_k, ui_j, uj_i, z_zero_o, z_zero_j]; exact R.lz s h0, fun s i h0 h1 => by simp (disch := first | decide | omega) only [↓ui_s, ↓uj_s, ↓ui_o, ↓ui_k, ↓uj_o, ↓uj_k, ↓ui_j, ↓uj_i, ↓z_zero_o, ↓z_zero_j, ui_s, uj_s, ui_o, ui_k, uj_o, uj_k, ui_j, uj_i, z_zero_o, z_zero_j] at h1 ⊢; exact R.sv s i h0 h1, fun s h0 => by simp (disch := first | decide | omega) only [↓ui_s, ↓uj_s, ↓ui_o, ↓ui_k, ↓uj_o, ↓uj_k, ↓ui_j, ↓uj_i, ↓z_zero_o, ↓z_zero_j, ui_s, uj_s, ui_o, ui_k, uj_o, uj_k, ui_j, uj_i, z_zero_o, z_zero_j]; rw [R.tk s h0]; exact congrArg (fun f => kb f 34) (tkM_cg (R.rb s h0) (fun i hi => by simp (disch := first | decide | omega) only [↓ui_s, ↓uj_s, ↓ui_o, ↓ui_k, ↓uj_o, ↓uj_k, ↓ui_j, ↓uj_i, ↓z_zero_o, ↓z_zero_j, ui_s, uj_s, ui_o, ui_k, uj_o, uj_k, ui_j, uj_i, z_zero_o, z_zero_j]) (by simp (disch := first | decide | omega) only [↓ui_s, ↓uj_s, ↓ui_o, ↓ui_k, ↓uj_o, ↓uj_k, ↓ui_j, ↓uj_i, ↓z_zero_o, ↓z_zero_j, ui_s, uj_s, ui_o, ui_k, uj_o, uj_k, ui_j, uj_i, z_zero_o, z_zero_j])), fun s h0 => by simp (disch := first | decide | omega) only [↓ui_s, ↓uj_s, ↓ui_o, ↓ui_k, ↓uj_o, ↓uj_k, ↓ui_j, ↓uj_i, ↓z_zero_o, ↓z_zero_j, ui_s, uj_s, ui_o, ui_k, uj_o, uj_k, ui_j, uj_i, z_zero_o, z_zero_j]; exact R.rb s h0, fun s i h0 h1 => by simp (disch := first | decide | omega) only [↓ui_s, ↓uj_s, ↓ui_o, ↓ui_k, ↓uj_o, ↓uj_k, ↓ui_j, ↓uj_i, ↓z_zero_o, ↓z_zero_j, ui_s, uj_s, ui_o, ui_k, uj_o, uj_k, ui_j, uj_i, z_zero_o, z_zero_j] at h1 ⊢; exact R.rk s i h0 h1, (by simp (disch := first | decide | omega) only [↓ui_s, ↓uj_s, ↓ui_o, ↓ui_k, ↓uj_o, ↓uj_k, ↓ui_j, ↓uj_i, ↓z_zero_o, ↓z_zero_j, ui_s, uj_s, ui_o, ui_k, uj_o, uj_k, ui_j, uj_i, z_zero_o, z_zero_j]; exact R.rd), fun s h0 => by simp (disch := first | decide | omega) only [↓ui_s, ↓uj_s, ↓ui_o, ↓ui_k, ↓uj_o, ↓uj_k, ↓ui_j, ↓uj_i, ↓z_zero_o, ↓z_zero_j, ui_s, uj_s, ui_o, ui_k, uj_o, uj_k, ui_j, uj_i, z_zero_o, z_zero_j]; exact R.bb s h0, fun z => by simp (disch := first | decide | omega) only [↓ui_s, ↓uj_s, ↓ui_o, ↓ui_k, ↓uj_o, ↓uj_k, ↓ui_j, ↓uj_i, ↓z_zero_o, ↓z_zero_j, ui_s, uj_s, ui_o, ui_k, uj_o, uj_k, ui_j, uj_i, z_zero_o, z_zero_j] at z ⊢; exact R.wp z⟩
theorem rc_nob1000 {x m : zM} (R : RCl x m) : RCl (z_ui (z_ui (z_ui (z_ui x 18 4 ((x.1 18 4) + 3000)) 26 4 ((x.1 26 4) + (-1000))) 34 4 ((x.1 34 4) + (-1000))) 42 4 ((x.1 42 4) + (-1000))) (nM1000 m) := by
  have e0 : x.1 18 4 = m.1 61 0 := R.pt 0 (by decide)
  have e1 : x.1 26 4 = m.1 61 1 := R.pt 1 (by decide)
  have e2 : x.1 34 4 = m.1 61 2 := R.pt 2 (by decide)
  have e3 : x.1 42 4 = m.1 61 3 := R.pt 3 (by decide)
  unfold nM1000
  exact ⟨(by simp (disch := first | decide | omega) only [↓ui_s, ↓uj_s, ↓ui_o, ↓ui_k, ↓uj_o, ↓uj_k, ↓ui_j, ↓uj_i, ↓z_zero_o, ↓z_zero_j, ui_s, uj_s, ui_o, ui_k, uj_o, uj_k, ui_j, uj_i, z_zero_o, z_zero_j]; exact R.dl), (by simp (disch := first | decide | omega) only [↓ui_s, ↓uj_s, ↓ui_o, ↓ui_k, ↓uj_o, ↓uj_k, ↓ui_j, ↓uj_i, ↓z_zero_o, ↓z_zero_j, ui_s, uj_s, ui_o, ui_k, uj_o, uj_k, ui_j, uj_i, z_zero_o, z_zero_j]; exact R.rn), (by simp (disch := first | decide | omega) only [↓ui_s, ↓uj_s, ↓ui_o, ↓ui_k, ↓uj_o, ↓uj_k, ↓ui_j, ↓uj_i, ↓z_zero_o, ↓z_zero_j, ui_s, uj_s, ui_o, ui_k, uj_o, uj_k, ui_j, uj_i, z_zero_o, z_zero_j]; exact R.st), (by simp (disch := first | decide | omega) only [↓ui_s, ↓uj_s, ↓ui_o, ↓ui_k, ↓uj_o, ↓uj_k, ↓ui_j, ↓uj_i, ↓z_zero_o, ↓z_zero_j, ui_s, uj_s, ui_o, ui_k, uj_o, uj_k, ui_j, uj_i, z_zero_o, z_zero_j]; exact R.bt), (by simp (disch := first | decide | omega) only [↓ui_s, ↓uj_s, ↓ui_o, ↓ui_k, ↓uj_o, ↓uj_k, ↓ui_j, ↓uj_i, ↓z_zero_o, ↓z_zero_j, ui_s, uj_s, ui_o, ui_k, uj_o, uj_k, ui_j, uj_i, z_zero_o, z_zero_j]; exact R.en), (by simp (disch := first | decide | omega) only [↓ui_s, ↓uj_s, ↓ui_o, ↓ui_k, ↓uj_o, ↓uj_k, ↓ui_j, ↓uj_i, ↓z_zero_o, ↓z_zero_j, ui_s, uj_s, ui_o, ui_k, uj_o, uj_k, ui_j, uj_i, z_zero_o, z_zero_j]; exact R.he), (by simp (disch := first | decide | omega) only [↓ui_s, ↓uj_s, ↓ui_o, ↓ui_k, ↓uj_o, ↓uj_k, ↓ui_j, ↓uj_i, ↓z_zero_o, ↓z_zero_j, ui_s, uj_s, ui_o, ui_k, uj_o, uj_k, ui_j, uj_i, z_zero_o, z_zero_j]; exact R.wc), (by simp (disch := first | decide | omega) only [↓ui_s, ↓uj_s, ↓ui_o, ↓ui_k, ↓uj_o, ↓uj_k, ↓ui_j, ↓uj_i, ↓z_zero_o, ↓z_zero_j, ui_s, uj_s, ui_o, ui_k, uj_o, uj_k, ui_j, uj_i, z_zero_o, z_zero_j]; exact R.sd), (by simp (disch := first | decide | omega) only [↓ui_s, ↓uj_s, ↓ui_o, ↓ui_k, ↓uj_o, ↓uj_k, ↓ui_j, ↓uj_i, ↓z_zero_o, ↓z_zero_j, ui_s, uj_s, ui_o, ui_k, uj_o, uj_k, ui_j, uj_i, z_zero_o, z_zero_j]; exact R.nx), fun i h0 => by simp (disch := first | decide | omega) only [↓ui_s, ↓uj_s, ↓ui_o, ↓ui_k, ↓uj_o, ↓uj_k, ↓ui_j, ↓uj_i, ↓z_zero_o, ↓z_zero_j, ui_s, uj_s, ui_o, ui_k, uj_o, uj_k, ui_j, uj_i, z_zero_o, z_zero_j]; exact R.wl i h0, (fun s h0 => by
      obtain rfl | rfl | rfl | rfl : s = 0 ∨ s = 1 ∨ s = 2 ∨ s = 3 := by omega
      · show (z_ui (z_ui (z_ui (z_ui x 18 4 ((x.1 18 4) + 3000)) 26 4 ((x.1 26 4) + (-1000))) 34 4 ((x.1 34 4) + (-1000))) 42 4 ((x.1 42 4) + (-1000))).1 18 4 = _; simp (disch := first | decide | omega) only [↓ui_s, ↓uj_s, ↓ui_o, ↓ui_k, ↓uj_o, ↓uj_k, ↓ui_j, ↓uj_i, ↓z_zero_o, ↓z_zero_j, ui_s, uj_s, ui_o, ui_k, uj_o, uj_k, ui_j, uj_i, z_zero_o, z_zero_j]; rw [e0]
      · show (z_ui (z_ui (z_ui (z_ui x 18 4 ((x.1 18 4) + 3000)) 26 4 ((x.1 26 4) + (-1000))) 34 4 ((x.1 34 4) + (-1000))) 42 4 ((x.1 42 4) + (-1000))).1 26 4 = _; simp (disch := first | decide | omega) only [↓ui_s, ↓uj_s, ↓ui_o, ↓ui_k, ↓uj_o, ↓uj_k, ↓ui_j, ↓uj_i, ↓z_zero_o, ↓z_zero_j, ui_s, uj_s, ui_o, ui_k, uj_o, uj_k, ui_j, uj_i, z_zero_o, z_zero_j]; rw [e1]
      · show (z_ui (z_ui (z_ui (z_ui x 18 4 ((x.1 18 4) + 3000)) 26 4 ((x.1 26 4) + (-1000))) 34 4 ((x.1 34 4) + (-1000))) 42 4 ((x.1 42 4) + (-1000))).1 34 4 = _; simp (disch := first | decide | omega) only [↓ui_s, ↓uj_s, ↓ui_o, ↓ui_k, ↓uj_o, ↓uj_k, ↓ui_j, ↓uj_i, ↓z_zero_o, ↓z_zero_j, ui_s, uj_s, ui_o, ui_k, uj_o, uj_k, ui_j, uj_i, z_zero_o, z_zero_j]; rw [e2]
      · show (z_ui (z_ui (z_ui (z_ui x 18 4 ((x.1 18 4) + 3000)) 26 4 ((x.1 26 4) + (-1000))) 34 4 ((x.1 34 4) + (-1000))) 42 4 ((x.1 42 4) + (-1000))).1 42 4 = _; simp (disch := first | decide | omega) only [↓ui_s, ↓uj_s, ↓ui_o, ↓ui_k, ↓uj_o, ↓uj_k, ↓ui_j, ↓uj_i, ↓z_zero_o, ↓z_zero_j, ui_s, uj_s, ui_o, ui_k, uj_o, uj_k, ui_j, uj_i, z_zero_o, z_zero_j]; rw [e3]), fun s h0 => by simp (disch := first | decide | omega) only [↓ui_s, ↓uj_s, ↓ui_o, ↓ui_k, ↓uj_o, ↓uj_k, ↓ui_j, ↓uj_i, ↓z_zero_o, ↓z_zero_j, ui_s, uj_s, ui_o, ui_k, uj_o, uj_k, ui_j, uj_i, z_zero_o, z_zero_j]; exact R.be s h0, fun s h0 => by simp (disch := first | decide | omega) only [↓ui_s, ↓uj_s, ↓ui_o, ↓ui_k, ↓uj_o, ↓uj_k, ↓ui_j, ↓uj_i, ↓z_zero_o, ↓z_zero_j, ui_s, uj_s, ui_o, ui_k, uj_o, uj_k, ui_j, uj_i, z_zero_o, z_zero_j]; exact R.ao s h0, fun s h0 => by simp (disch := first | decide | omega) only [↓ui_s, ↓uj_s, ↓ui_o, ↓ui_k, ↓uj_o, ↓uj_k, ↓ui_j, ↓uj_i, ↓z_zero_o, ↓z_zero_j, ui_s, uj_s, ui_o, ui_k, uj_o, uj_k, ui_j, uj_i, z_zero_o, z_zero_j]; exact R.lg s h0, fun s h0 => by simp (disch := first | decide | omega) only [↓ui_s, ↓uj_s, ↓ui_o, ↓ui_k, ↓uj_o, ↓uj_k, ↓ui_j, ↓uj_i, ↓z_zero_o, ↓z_zero_j, ui_s, uj_s, ui_o, ui_k, uj_o, uj_k, ui_j, uj_i, z_zero_o, z_zero_j]; exact R.sy s h0, fun s h0 => by simp (disch := first | decide | omega) only [↓ui_s, ↓uj_s, ↓ui_o, ↓ui_k, ↓uj_o, ↓uj_k, ↓ui_j, ↓uj_i, ↓z_zero_o, ↓z_zero_j, ui_s, uj_s, ui_o, ui_k, uj_o, uj_k, ui_j, uj_i, z_zero_o, z_zero_j]; exact R.ds s h0, fun s h0 => by simp (disch := first | decide | omega) only [↓ui_s, ↓uj_s, ↓ui_o, ↓ui_k, ↓uj_o, ↓uj_k, ↓ui_j, ↓uj_i, ↓z_zero_o, ↓z_zero_j, ui_s, uj_s, ui_o, ui_k, uj_o, uj_k, ui_j, uj_i, z_zero_o, z_zero_j]; exact R.lm s h0, fun s k h0 h1 => by simp (disch := first | decide | omega) only [↓ui_s, ↓uj_s, ↓ui_o, ↓ui_k, ↓uj_o, ↓uj_k, ↓ui_j, ↓uj_i, ↓z_zero_o, ↓z_zero_j, ui_s, uj_s, ui_o, ui_k, uj_o, uj_k, ui_j, uj_i, z_zero_o, z_zero_j]; exact R.hd s k h0 h1, fun s i h0 h1 => by simp (disch := first | decide | omega) only [↓ui_s, ↓uj_s, ↓ui_o, ↓ui_k, ↓uj_o, ↓uj_k, ↓ui_j, ↓uj_i, ↓z_zero_o, ↓z_zero_j, ui_s, uj_s, ui_o, ui_k, uj_o, uj_k, ui_j, uj_i, z_zero_o, z_zero_j]; exact R.so s i h0 h1, fun s i h0 h1 => by simp (disch := first | decide | omega) only [↓ui_s, ↓uj_s, ↓ui_o, ↓ui_k, ↓uj_o, ↓uj_k, ↓ui_j, ↓uj_i, ↓z_zero_o, ↓z_zero_j, ui_s, uj_s, ui_o, ui_k, uj_o, uj_k, ui_j, uj_i, z_zero_o, z_zero_j]; exact R.lo s i h0 h1, fun s i h0 h1 => by simp (disch := first | decide | omega) only [↓ui_s, ↓uj_s, ↓ui_o, ↓ui_k, ↓uj_o, ↓uj_k, ↓ui_j, ↓uj_i, ↓z_zero_o, ↓z_zero_j, ui_s, uj_s, ui_o, ui_k, uj_o, uj_k, ui_j, uj_i, z_zero_o, z_zero_j]; exact R.rv s i h0 h1, fun i f h0 h1 h2 => by simp (disch := first | decide | omega) only [↓ui_s, ↓uj_s, ↓ui_o, ↓ui_k, ↓uj_o, ↓uj_k, ↓ui_j, ↓uj_i, ↓z_zero_o, ↓z_zero_j, ui_s, uj_s, ui_o, ui_k, uj_o, uj_k, ui_j, uj_i, z_zero_o, z_zero_j]; exact R.wi i f h0 h1 h2, fun i h0 => by simp (disch := first | decide | omega) only [↓ui_s, ↓uj_s, ↓ui_o, ↓ui_k, ↓uj_o, ↓uj_k, ↓ui_j, ↓uj_i, ↓z_zero_o, ↓z_zero_j, ui_s, uj_s, ui_o, ui_k, uj_o, uj_k, ui_j, uj_i, z_zero_o, z_zero_j]; exact R.wf i h0, fun s k2 h0 h1 => by simp (disch := first | decide | omega) only [↓ui_s, ↓uj_s, ↓ui_o, ↓ui_k, ↓uj_o, ↓uj_k, ↓ui_j, ↓uj_i, ↓z_zero_o, ↓z_zero_j, ui_s, uj_s, ui_o, ui_k, uj_o, uj_k, ui_j, uj_i, z_zero_o, z_zero_j]; exact R.al s k2 h0 h1, fun s h0 => by simp (disch := first | decide | omega) only [↓ui_s, ↓uj_s, ↓ui_o, ↓ui_k, ↓uj_o, ↓uj_k, ↓ui_j, ↓uj_i, ↓z_zero_o, ↓z_zero_j, ui_s, uj_s, ui_o, ui_k, uj_o, uj_k, ui_j, uj_i, z_zero_o, z_zero_j]; exact R.lz s h0, fun s i h0 h1 => by simp (disch := first | decide | omega) only [↓ui_s, ↓uj_s, ↓ui_o, ↓ui_k, ↓uj_o, ↓uj_k, ↓ui_j, ↓uj_i, ↓z_zero_o, ↓z_zero_j, ui_s, uj_s, ui_o, ui_k, uj_o, uj_k, ui_j, uj_i, z_zero_o, z_zero_j] at h1 ⊢; exact R.sv s i h0 h1, fun s h0 => by simp (disch := first | decide | omega) only [↓ui_s, ↓uj_s, ↓ui_o, ↓ui_k, ↓uj_o, ↓uj_k, ↓ui_j, ↓uj_i, ↓z_zero_o, ↓z_zero_j, ui_s, uj_s, ui_o, ui_k, uj_o, uj_k, ui_j, uj_i, z_zero_o, z_zero_j]; rw [R.tk s h0]; exact congrArg (fun f => kb f 34) (tkM_cg (R.rb s h0) (fun i hi => by simp (disch := first | decide | omega) only [↓ui_s, ↓uj_s, ↓ui_o, ↓ui_k, ↓uj_o, ↓uj_k, ↓ui_j, ↓uj_i, ↓z_zero_o, ↓z_zero_j, ui_s, uj_s, ui_o, ui_k, uj_o, uj_k, ui_j, uj_i, z_zero_o, z_zero_j]) (by simp (disch := first | decide | omega) only [↓ui_s, ↓uj_s, ↓ui_o, ↓ui_k, ↓uj_o, ↓uj_k, ↓ui_j, ↓uj_i, ↓z_zero_o, ↓z_zero_j, ui_s, uj_s, ui_o, ui_k, uj_o, uj_k, ui_j, uj_i, z_zero_o, z_zero_j])), fun s h0 => by simp (disch := first | decide | omega) only [↓ui_s, ↓uj_s, ↓ui_o, ↓ui_k, ↓uj_o, ↓uj_k, ↓ui_j, ↓uj_i, ↓z_zero_o, ↓z_zero_j, ui_s, uj_s, ui_o, ui_k, uj_o, uj_k, ui_j, uj_i, z_zero_o, z_zero_j]; exact R.rb s h0, fun s i h0 h1 => by simp (disch := first | decide | omega) only [↓ui_s, ↓uj_s, ↓ui_o, ↓ui_k, ↓uj_o, ↓uj_k, ↓ui_j, ↓uj_i, ↓z_zero_o, ↓z_zero_j, ui_s, uj_s, ui_o, ui_k, uj_o, uj_k, ui_j, uj_i, z_zero_o, z_zero_j] at h1 ⊢; exact R.rk s i h0 h1, (by simp (disch := first | decide | omega) only [↓ui_s, ↓uj_s, ↓ui_o, ↓ui_k, ↓uj_o, ↓uj_k, ↓ui_j, ↓uj_i, ↓z_zero_o, ↓z_zero_j, ui_s, uj_s, ui_o, ui_k, uj_o, uj_k, ui_j, uj_i, z_zero_o, z_zero_j]; exact R.rd), fun s h0 => by simp (disch := first | decide | omega) only [↓ui_s, ↓uj_s, ↓ui_o, ↓ui_k, ↓uj_o, ↓uj_k, ↓ui_j, ↓uj_i, ↓z_zero_o, ↓z_zero_j, ui_s, uj_s, ui_o, ui_k, uj_o, uj_k, ui_j, uj_i, z_zero_o, z_zero_j]; exact R.bb s h0, fun z => by simp (disch := first | decide | omega) only [↓ui_s, ↓uj_s, ↓ui_o, ↓ui_k, ↓uj_o, ↓uj_k, ↓ui_j, ↓uj_i, ↓z_zero_o, ↓z_zero_j, ui_s, uj_s, ui_o, ui_k, uj_o, uj_k, ui_j, uj_i, z_zero_o, z_zero_j] at z ⊢; exact R.wp z⟩
theorem rc_nob1001 {x m : zM} (R : RCl x m) : RCl (z_ui (z_ui (z_ui (z_ui x 18 4 ((x.1 18 4) + 1500)) 26 4 ((x.1 26 4) + (-1500))) 34 4 ((x.1 34 4) + (-1500))) 42 4 ((x.1 42 4) + 1500)) (nM1001 m) := by
  have e0 : x.1 18 4 = m.1 61 0 := R.pt 0 (by decide)
  have e1 : x.1 26 4 = m.1 61 1 := R.pt 1 (by decide)
  have e2 : x.1 34 4 = m.1 61 2 := R.pt 2 (by decide)
  have e3 : x.1 42 4 = m.1 61 3 := R.pt 3 (by decide)
  unfold nM1001
  exact ⟨(by simp (disch := first | decide | omega) only [↓ui_s, ↓uj_s, ↓ui_o, ↓ui_k, ↓uj_o, ↓uj_k, ↓ui_j, ↓uj_i, ↓z_zero_o, ↓z_zero_j, ui_s, uj_s, ui_o, ui_k, uj_o, uj_k, ui_j, uj_i, z_zero_o, z_zero_j]; exact R.dl), (by simp (disch := first | decide | omega) only [↓ui_s, ↓uj_s, ↓ui_o, ↓ui_k, ↓uj_o, ↓uj_k, ↓ui_j, ↓uj_i, ↓z_zero_o, ↓z_zero_j, ui_s, uj_s, ui_o, ui_k, uj_o, uj_k, ui_j, uj_i, z_zero_o, z_zero_j]; exact R.rn), (by simp (disch := first | decide | omega) only [↓ui_s, ↓uj_s, ↓ui_o, ↓ui_k, ↓uj_o, ↓uj_k, ↓ui_j, ↓uj_i, ↓z_zero_o, ↓z_zero_j, ui_s, uj_s, ui_o, ui_k, uj_o, uj_k, ui_j, uj_i, z_zero_o, z_zero_j]; exact R.st), (by simp (disch := first | decide | omega) only [↓ui_s, ↓uj_s, ↓ui_o, ↓ui_k, ↓uj_o, ↓uj_k, ↓ui_j, ↓uj_i, ↓z_zero_o, ↓z_zero_j, ui_s, uj_s, ui_o, ui_k, uj_o, uj_k, ui_j, uj_i, z_zero_o, z_zero_j]; exact R.bt), (by simp (disch := first | decide | omega) only [↓ui_s, ↓uj_s, ↓ui_o, ↓ui_k, ↓uj_o, ↓uj_k, ↓ui_j, ↓uj_i, ↓z_zero_o, ↓z_zero_j, ui_s, uj_s, ui_o, ui_k, uj_o, uj_k, ui_j, uj_i, z_zero_o, z_zero_j]; exact R.en), (by simp (disch := first | decide | omega) only [↓ui_s, ↓uj_s, ↓ui_o, ↓ui_k, ↓uj_o, ↓uj_k, ↓ui_j, ↓uj_i, ↓z_zero_o, ↓z_zero_j, ui_s, uj_s, ui_o, ui_k, uj_o, uj_k, ui_j, uj_i, z_zero_o, z_zero_j]; exact R.he), (by simp (disch := first | decide | omega) only [↓ui_s, ↓uj_s, ↓ui_o, ↓ui_k, ↓uj_o, ↓uj_k, ↓ui_j, ↓uj_i, ↓z_zero_o, ↓z_zero_j, ui_s, uj_s, ui_o, ui_k, uj_o, uj_k, ui_j, uj_i, z_zero_o, z_zero_j]; exact R.wc), (by simp (disch := first | decide | omega) only [↓ui_s, ↓uj_s, ↓ui_o, ↓ui_k, ↓uj_o, ↓uj_k, ↓ui_j, ↓uj_i, ↓z_zero_o, ↓z_zero_j, ui_s, uj_s, ui_o, ui_k, uj_o, uj_k, ui_j, uj_i, z_zero_o, z_zero_j]; exact R.sd), (by simp (disch := first | decide | omega) only [↓ui_s, ↓uj_s, ↓ui_o, ↓ui_k, ↓uj_o, ↓uj_k, ↓ui_j, ↓uj_i, ↓z_zero_o, ↓z_zero_j, ui_s, uj_s, ui_o, ui_k, uj_o, uj_k, ui_j, uj_i, z_zero_o, z_zero_j]; exact R.nx), fun i h0 => by simp (disch := first | decide | omega) only [↓ui_s, ↓uj_s, ↓ui_o, ↓ui_k, ↓uj_o, ↓uj_k, ↓ui_j, ↓uj_i, ↓z_zero_o, ↓z_zero_j, ui_s, uj_s, ui_o, ui_k, uj_o, uj_k, ui_j, uj_i, z_zero_o, z_zero_j]; exact R.wl i h0, (fun s h0 => by
      obtain rfl | rfl | rfl | rfl : s = 0 ∨ s = 1 ∨ s = 2 ∨ s = 3 := by omega
      · show (z_ui (z_ui (z_ui (z_ui x 18 4 ((x.1 18 4) + 1500)) 26 4 ((x.1 26 4) + (-1500))) 34 4 ((x.1 34 4) + (-1500))) 42 4 ((x.1 42 4) + 1500)).1 18 4 = _; simp (disch := first | decide | omega) only [↓ui_s, ↓uj_s, ↓ui_o, ↓ui_k, ↓uj_o, ↓uj_k, ↓ui_j, ↓uj_i, ↓z_zero_o, ↓z_zero_j, ui_s, uj_s, ui_o, ui_k, uj_o, uj_k, ui_j, uj_i, z_zero_o, z_zero_j]; rw [e0]
      · show (z_ui (z_ui (z_ui (z_ui x 18 4 ((x.1 18 4) + 1500)) 26 4 ((x.1 26 4) + (-1500))) 34 4 ((x.1 34 4) + (-1500))) 42 4 ((x.1 42 4) + 1500)).1 26 4 = _; simp (disch := first | decide | omega) only [↓ui_s, ↓uj_s, ↓ui_o, ↓ui_k, ↓uj_o, ↓uj_k, ↓ui_j, ↓uj_i, ↓z_zero_o, ↓z_zero_j, ui_s, uj_s, ui_o, ui_k, uj_o, uj_k, ui_j, uj_i, z_zero_o, z_zero_j]; rw [e1]
      · show (z_ui (z_ui (z_ui (z_ui x 18 4 ((x.1 18 4) + 1500)) 26 4 ((x.1 26 4) + (-1500))) 34 4 ((x.1 34 4) + (-1500))) 42 4 ((x.1 42 4) + 1500)).1 34 4 = _; simp (disch := first | decide | omega) only [↓ui_s, ↓uj_s, ↓ui_o, ↓ui_k, ↓uj_o, ↓uj_k, ↓ui_j, ↓uj_i, ↓z_zero_o, ↓z_zero_j, ui_s, uj_s, ui_o, ui_k, uj_o, uj_k, ui_j, uj_i, z_zero_o, z_zero_j]; rw [e2]
      · show (z_ui (z_ui (z_ui (z_ui x 18 4 ((x.1 18 4) + 1500)) 26 4 ((x.1 26 4) + (-1500))) 34 4 ((x.1 34 4) + (-1500))) 42 4 ((x.1 42 4) + 1500)).1 42 4 = _; simp (disch := first | decide | omega) only [↓ui_s, ↓uj_s, ↓ui_o, ↓ui_k, ↓uj_o, ↓uj_k, ↓ui_j, ↓uj_i, ↓z_zero_o, ↓z_zero_j, ui_s, uj_s, ui_o, ui_k, uj_o, uj_k, ui_j, uj_i, z_zero_o, z_zero_j]; rw [e3]), fun s h0 => by simp (disch := first | decide | omega) only [↓ui_s, ↓uj_s, ↓ui_o, ↓ui_k, ↓uj_o, ↓uj_k, ↓ui_j, ↓uj_i, ↓z_zero_o, ↓z_zero_j, ui_s, uj_s, ui_o, ui_k, uj_o, uj_k, ui_j, uj_i, z_zero_o, z_zero_j]; exact R.be s h0, fun s h0 => by simp (disch := first | decide | omega) only [↓ui_s, ↓uj_s, ↓ui_o, ↓ui_k, ↓uj_o, ↓uj_k, ↓ui_j, ↓uj_i, ↓z_zero_o, ↓z_zero_j, ui_s, uj_s, ui_o, ui_k, uj_o, uj_k, ui_j, uj_i, z_zero_o, z_zero_j]; exact R.ao s h0, fun s h0 => by simp (disch := first | decide | omega) only [↓ui_s, ↓uj_s, ↓ui_o, ↓ui_k, ↓uj_o, ↓uj_k, ↓ui_j, ↓uj_i, ↓z_zero_o, ↓z_zero_j, ui_s, uj_s, ui_o, ui_k, uj_o, uj_k, ui_j, uj_i, z_zero_o, z_zero_j]; exact R.lg s h0, fun s h0 => by simp (disch := first | decide | omega) only [↓ui_s, ↓uj_s, ↓ui_o, ↓ui_k, ↓uj_o, ↓uj_k, ↓ui_j, ↓uj_i, ↓z_zero_o, ↓z_zero_j, ui_s, uj_s, ui_o, ui_k, uj_o, uj_k, ui_j, uj_i, z_zero_o, z_zero_j]; exact R.sy s h0, fun s h0 => by simp (disch := first | decide | omega) only [↓ui_s, ↓uj_s, ↓ui_o, ↓ui_k, ↓uj_o, ↓uj_k, ↓ui_j, ↓uj_i, ↓z_zero_o, ↓z_zero_j, ui_s, uj_s, ui_o, ui_k, uj_o, uj_k, ui_j, uj_i, z_zero_o, z_zero_j]; exact R.ds s h0, fun s h0 => by simp (disch := first | decide | omega) only [↓ui_s, ↓uj_s, ↓ui_o, ↓ui_k, ↓uj_o, ↓uj_k, ↓ui_j, ↓uj_i, ↓z_zero_o, ↓z_zero_j, ui_s, uj_s, ui_o, ui_k, uj_o, uj_k, ui_j, uj_i, z_zero_o, z_zero_j]; exact R.lm s h0, fun s k h0 h1 => by simp (disch := first | decide | omega) only [↓ui_s, ↓uj_s, ↓ui_o, ↓ui_k, ↓uj_o, ↓uj_k, ↓ui_j, ↓uj_i, ↓z_zero_o, ↓z_zero_j, ui_s, uj_s, ui_o, ui_k, uj_o, uj_k, ui_j, uj_i, z_zero_o, z_zero_j]; exact R.hd s k h0 h1, fun s i h0 h1 => by simp (disch := first | decide | omega) only [↓ui_s, ↓uj_s, ↓ui_o, ↓ui_k, ↓uj_o, ↓uj_k, ↓ui_j, ↓uj_i, ↓z_zero_o, ↓z_zero_j, ui_s, uj_s, ui_o, ui_k, uj_o, uj_k, ui_j, uj_i, z_zero_o, z_zero_j]; exact R.so s i h0 h1, fun s i h0 h1 => by simp (disch := first | decide | omega) only [↓ui_s, ↓uj_s, ↓ui_o, ↓ui_k, ↓uj_o, ↓uj_k, ↓ui_j, ↓uj_i, ↓z_zero_o, ↓z_zero_j, ui_s, uj_s, ui_o, ui_k, uj_o, uj_k, ui_j, uj_i, z_zero_o, z_zero_j]; exact R.lo s i h0 h1, fun s i h0 h1 => by simp (disch := first | decide | omega) only [↓ui_s, ↓uj_s, ↓ui_o, ↓ui_k, ↓uj_o, ↓uj_k, ↓ui_j, ↓uj_i, ↓z_zero_o, ↓z_zero_j, ui_s, uj_s, ui_o, ui_k, uj_o, uj_k, ui_j, uj_i, z_zero_o, z_zero_j]; exact R.rv s i h0 h1, fun i f h0 h1 h2 => by simp (disch := first | decide | omega) only [↓ui_s, ↓uj_s, ↓ui_o, ↓ui_k, ↓uj_o, ↓uj_k, ↓ui_j, ↓uj_i, ↓z_zero_o, ↓z_zero_j, ui_s, uj_s, ui_o, ui_k, uj_o, uj_k, ui_j, uj_i, z_zero_o, z_zero_j]; exact R.wi i f h0 h1 h2, fun i h0 => by simp (disch := first | decide | omega) only [↓ui_s, ↓uj_s, ↓ui_o, ↓ui_k, ↓uj_o, ↓uj_k, ↓ui_j, ↓uj_i, ↓z_zero_o, ↓z_zero_j, ui_s, uj_s, ui_o, ui_k, uj_o, uj_k, ui_j, uj_i, z_zero_o, z_zero_j]; exact R.wf i h0, fun s k2 h0 h1 => by simp (disch := first | decide | omega) only [↓ui_s, ↓uj_s, ↓ui_o, ↓ui_k, ↓uj_o, ↓uj_k, ↓ui_j, ↓uj_i, ↓z_zero_o, ↓z_zero_j, ui_s, uj_s, ui_o, ui_k, uj_o, uj_k, ui_j, uj_i, z_zero_o, z_zero_j]; exact R.al s k2 h0 h1, fun s h0 => by simp (disch := first | decide | omega) only [↓ui_s, ↓uj_s, ↓ui_o, ↓ui_k, ↓uj_o, ↓uj_k, ↓ui_j, ↓uj_i, ↓z_zero_o, ↓z_zero_j, ui_s, uj_s, ui_o, ui_k, uj_o, uj_k, ui_j, uj_i, z_zero_o, z_zero_j]; exact R.lz s h0, fun s i h0 h1 => by simp (disch := first | decide | omega) only [↓ui_s, ↓uj_s, ↓ui_o, ↓ui_k, ↓uj_o, ↓uj_k, ↓ui_j, ↓uj_i, ↓z_zero_o, ↓z_zero_j, ui_s, uj_s, ui_o, ui_k, uj_o, uj_k, ui_j, uj_i, z_zero_o, z_zero_j] at h1 ⊢; exact R.sv s i h0 h1, fun s h0 => by simp (disch := first | decide | omega) only [↓ui_s, ↓uj_s, ↓ui_o, ↓ui_k, ↓uj_o, ↓uj_k, ↓ui_j, ↓uj_i, ↓z_zero_o, ↓z_zero_j, ui_s, uj_s, ui_o, ui_k, uj_o, uj_k, ui_j, uj_i, z_zero_o, z_zero_j]; rw [R.tk s h0]; exact congrArg (fun f => kb f 34) (tkM_cg (R.rb s h0) (fun i hi => by simp (disch := first | decide | omega) only [↓ui_s, ↓uj_s, ↓ui_o, ↓ui_k, ↓uj_o, ↓uj_k, ↓ui_j, ↓uj_i, ↓z_zero_o, ↓z_zero_j, ui_s, uj_s, ui_o, ui_k, uj_o, uj_k, ui_j, uj_i, z_zero_o, z_zero_j]) (by simp (disch := first | decide | omega) only [↓ui_s, ↓uj_s, ↓ui_o, ↓ui_k, ↓uj_o, ↓uj_k, ↓ui_j, ↓uj_i, ↓z_zero_o, ↓z_zero_j, ui_s, uj_s, ui_o, ui_k, uj_o, uj_k, ui_j, uj_i, z_zero_o, z_zero_j])), fun s h0 => by simp (disch := first | decide | omega) only [↓ui_s, ↓uj_s, ↓ui_o, ↓ui_k, ↓uj_o, ↓uj_k, ↓ui_j, ↓uj_i, ↓z_zero_o, ↓z_zero_j, ui_s, uj_s, ui_o, ui_k, uj_o, uj_k, ui_j, uj_i, z_zero_o, z_zero_j]; exact R.rb s h0, fun s i h0 h1 => by simp (disch := first | decide | omega) only [↓ui_s, ↓uj_s, ↓ui_o, ↓ui_k, ↓uj_o, ↓uj_k, ↓ui_j, ↓uj_i, ↓z_zero_o, ↓z_zero_j, ui_s, uj_s, ui_o, ui_k, uj_o, uj_k, ui_j, uj_i, z_zero_o, z_zero_j] at h1 ⊢; exact R.rk s i h0 h1, (by simp (disch := first | decide | omega) only [↓ui_s, ↓uj_s, ↓ui_o, ↓ui_k, ↓uj_o, ↓uj_k, ↓ui_j, ↓uj_i, ↓z_zero_o, ↓z_zero_j, ui_s, uj_s, ui_o, ui_k, uj_o, uj_k, ui_j, uj_i, z_zero_o, z_zero_j]; exact R.rd), fun s h0 => by simp (disch := first | decide | omega) only [↓ui_s, ↓uj_s, ↓ui_o, ↓ui_k, ↓uj_o, ↓uj_k, ↓ui_j, ↓uj_i, ↓z_zero_o, ↓z_zero_j, ui_s, uj_s, ui_o, ui_k, uj_o, uj_k, ui_j, uj_i, z_zero_o, z_zero_j]; exact R.bb s h0, fun z => by simp (disch := first | decide | omega) only [↓ui_s, ↓uj_s, ↓ui_o, ↓ui_k, ↓uj_o, ↓uj_k, ↓ui_j, ↓uj_i, ↓z_zero_o, ↓z_zero_j, ui_s, uj_s, ui_o, ui_k, uj_o, uj_k, ui_j, uj_i, z_zero_o, z_zero_j] at z ⊢; exact R.wp z⟩
theorem rc_nob1010 {x m : zM} (R : RCl x m) : RCl (z_ui (z_ui (z_ui (z_ui x 18 4 ((x.1 18 4) + 1500)) 26 4 ((x.1 26 4) + (-1500))) 34 4 ((x.1 34 4) + 1500)) 42 4 ((x.1 42 4) + (-1500))) (nM1010 m) := by
  have e0 : x.1 18 4 = m.1 61 0 := R.pt 0 (by decide)
  have e1 : x.1 26 4 = m.1 61 1 := R.pt 1 (by decide)
  have e2 : x.1 34 4 = m.1 61 2 := R.pt 2 (by decide)
  have e3 : x.1 42 4 = m.1 61 3 := R.pt 3 (by decide)
  unfold nM1010
  exact ⟨(by simp (disch := first | decide | omega) only [↓ui_s, ↓uj_s, ↓ui_o, ↓ui_k, ↓uj_o, ↓uj_k, ↓ui_j, ↓uj_i, ↓z_zero_o, ↓z_zero_j, ui_s, uj_s, ui_o, ui_k, uj_o, uj_k, ui_j, uj_i, z_zero_o, z_zero_j]; exact R.dl), (by simp (disch := first | decide | omega) only [↓ui_s, ↓uj_s, ↓ui_o, ↓ui_k, ↓uj_o, ↓uj_k, ↓ui_j, ↓uj_i, ↓z_zero_o, ↓z_zero_j, ui_s, uj_s, ui_o, ui_k, uj_o, uj_k, ui_j, uj_i, z_zero_o, z_zero_j]; exact R.rn), (by simp (disch := first | decide | omega) only [↓ui_s, ↓uj_s, ↓ui_o, ↓ui_k, ↓uj_o, ↓uj_k, ↓ui_j, ↓uj_i, ↓z_zero_o, ↓z_zero_j, ui_s, uj_s, ui_o, ui_k, uj_o, uj_k, ui_j, uj_i, z_zero_o, z_zero_j]; exact R.st), (by simp (disch := first | decide | omega) only [↓ui_s, ↓uj_s, ↓ui_o, ↓ui_k, ↓uj_o, ↓uj_k, ↓ui_j, ↓uj_i, ↓z_zero_o, ↓z_zero_j, ui_s, uj_s, ui_o, ui_k, uj_o, uj_k, ui_j, uj_i, z_zero_o, z_zero_j]; exact R.bt), (by simp (disch := first | decide | omega) only [↓ui_s, ↓uj_s, ↓ui_o, ↓ui_k, ↓uj_o, ↓uj_k, ↓ui_j, ↓uj_i, ↓z_zero_o, ↓z_zero_j, ui_s, uj_s, ui_o, ui_k, uj_o, uj_k, ui_j, uj_i, z_zero_o, z_zero_j]; exact R.en), (by simp (disch := first | decide | omega) only [↓ui_s, ↓uj_s, ↓ui_o, ↓ui_k, ↓uj_o, ↓uj_k, ↓ui_j, ↓uj_i, ↓z_zero_o, ↓z_zero_j, ui_s, uj_s, ui_o, ui_k, uj_o, uj_k, ui_j, uj_i, z_zero_o, z_zero_j]; exact R.he), (by simp (disch := first | decide | omega) only [↓ui_s, ↓uj_s, ↓ui_o, ↓ui_k, ↓uj_o, ↓uj_k, ↓ui_j, ↓uj_i, ↓z_zero_o, ↓z_zero_j, ui_s, uj_s, ui_o, ui_k, uj_o, uj_k, ui_j, uj_i, z_zero_o, z_zero_j]; exact R.wc), (by simp (disch := first | decide | omega) only [↓ui_s, ↓uj_s, ↓ui_o, ↓ui_k, ↓uj_o, ↓uj_k, ↓ui_j, ↓uj_i, ↓z_zero_o, ↓z_zero_j, ui_s, uj_s, ui_o, ui_k, uj_o, uj_k, ui_j, uj_i, z_zero_o, z_zero_j]; exact R.sd), (by simp (disch := first | decide | omega) only [↓ui_s, ↓uj_s, ↓ui_o, ↓ui_k, ↓uj_o, ↓uj_k, ↓ui_j, ↓uj_i, ↓z_zero_o, ↓z_zero_j, ui_s, uj_s, ui_o, ui_k, uj_o, uj_k, ui_j, uj_i, z_zero_o, z_zero_j]; exact R.nx), fun i h0 => by simp (disch := first | decide | omega) only [↓ui_s, ↓uj_s, ↓ui_o, ↓ui_k, ↓uj_o, ↓uj_k, ↓ui_j, ↓uj_i, ↓z_zero_o, ↓z_zero_j, ui_s, uj_s, ui_o, ui_k, uj_o, uj_k, ui_j, uj_i, z_zero_o, z_zero_j]; exact R.wl i h0, (fun s h0 => by
      obtain rfl | rfl | rfl | rfl : s = 0 ∨ s = 1 ∨ s = 2 ∨ s = 3 := by omega
      · show (z_ui (z_ui (z_ui (z_ui x 18 4 ((x.1 18 4) + 1500)) 26 4 ((x.1 26 4) + (-1500))) 34 4 ((x.1 34 4) + 1500)) 42 4 ((x.1 42 4) + (-1500))).1 18 4 = _; simp (disch := first | decide | omega) only [↓ui_s, ↓uj_s, ↓ui_o, ↓ui_k, ↓uj_o, ↓uj_k, ↓ui_j, ↓uj_i, ↓z_zero_o, ↓z_zero_j, ui_s, uj_s, ui_o, ui_k, uj_o, uj_k, ui_j, uj_i, z_zero_o, z_zero_j]; rw [e0]
      · show (z_ui (z_ui (z_ui (z_ui x 18 4 ((x.1 18 4) + 1500)) 26 4 ((x.1 26 4) + (-1500))) 34 4 ((x.1 34 4) + 1500)) 42 4 ((x.1 42 4) + (-1500))).1 26 4 = _; simp (disch := first | decide | omega) only [↓ui_s, ↓uj_s, ↓ui_o, ↓ui_k, ↓uj_o, ↓uj_k, ↓ui_j, ↓uj_i, ↓z_zero_o, ↓z_zero_j, ui_s, uj_s, ui_o, ui_k, uj_o, uj_k, ui_j, uj_i, z_zero_o, z_zero_j]; rw [e1]
      · show (z_ui (z_ui (z_ui (z_ui x 18 4 ((x.1 18 4) + 1500)) 26 4 ((x.1 26 4) + (-1500))) 34 4 ((x.1 34 4) + 1500)) 42 4 ((x.1 42 4) + (-1500))).1 34 4 = _; simp (disch := first | decide | omega) only [↓ui_s, ↓uj_s, ↓ui_o, ↓ui_k, ↓uj_o, ↓uj_k, ↓ui_j, ↓uj_i, ↓z_zero_o, ↓z_zero_j, ui_s, uj_s, ui_o, ui_k, uj_o, uj_k, ui_j, uj_i, z_zero_o, z_zero_j]; rw [e2]
      · show (z_ui (z_ui (z_ui (z_ui x 18 4 ((x.1 18 4) + 1500)) 26 4 ((x.1 26 4) + (-1500))) 34 4 ((x.1 34 4) + 1500)) 42 4 ((x.1 42 4) + (-1500))).1 42 4 = _; simp (disch := first | decide | omega) only [↓ui_s, ↓uj_s, ↓ui_o, ↓ui_k, ↓uj_o, ↓uj_k, ↓ui_j, ↓uj_i, ↓z_zero_o, ↓z_zero_j, ui_s, uj_s, ui_o, ui_k, uj_o, uj_k, ui_j, uj_i, z_zero_o, z_zero_j]; rw [e3]), fun s h0 => by simp (disch := first | decide | omega) only [↓ui_s, ↓uj_s, ↓ui_o, ↓ui_k, ↓uj_o, ↓uj_k, ↓ui_j, ↓uj_i, ↓z_zero_o, ↓z_zero_j, ui_s, uj_s, ui_o, ui_k, uj_o, uj_k, ui_j, uj_i, z_zero_o, z_zero_j]; exact R.be s h0, fun s h0 => by simp (disch := first | decide | omega) only [↓ui_s, ↓uj_s, ↓ui_o, ↓ui_k, ↓uj_o, ↓uj_k, ↓ui_j, ↓uj_i, ↓z_zero_o, ↓z_zero_j, ui_s, uj_s, ui_o, ui_k, uj_o, uj_k, ui_j, uj_i, z_zero_o, z_zero_j]; exact R.ao s h0, fun s h0 => by simp (disch := first | decide | omega) only [↓ui_s, ↓uj_s, ↓ui_o, ↓ui_k, ↓uj_o, ↓uj_k, ↓ui_j, ↓uj_i, ↓z_zero_o, ↓z_zero_j, ui_s, uj_s, ui_o, ui_k, uj_o, uj_k, ui_j, uj_i, z_zero_o, z_zero_j]; exact R.lg s h0, fun s h0 => by simp (disch := first | decide | omega) only [↓ui_s, ↓uj_s, ↓ui_o, ↓ui_k, ↓uj_o, ↓uj_k, ↓ui_j, ↓uj_i, ↓z_zero_o, ↓z_zero_j, ui_s, uj_s, ui_o, ui_k, uj_o, uj_k, ui_j, uj_i, z_zero_o, z_zero_j]; exact R.sy s h0, fun s h0 => by simp (disch := first | decide | omega) only [↓ui_s, ↓uj_s, ↓ui_o, ↓ui_k, ↓uj_o, ↓uj_k, ↓ui_j, ↓uj_i, ↓z_zero_o, ↓z_zero_j, ui_s, uj_s, ui_o, ui_k, uj_o, uj_k, ui_j, uj_i, z_zero_o, z_zero_j]; exact R.ds s h0, fun s h0 => by simp (disch := first | decide | omega) only [↓ui_s, ↓uj_s, ↓ui_o, ↓ui_k, ↓uj_o, ↓uj_k, ↓ui_j, ↓uj_i, ↓z_zero_o, ↓z_zero_j, ui_s, uj_s, ui_o, ui_k, uj_o, uj_k, ui_j, uj_i, z_zero_o, z_zero_j]; exact R.lm s h0, fun s k h0 h1 => by simp (disch := first | decide | omega) only [↓ui_s, ↓uj_s, ↓ui_o, ↓ui_k, ↓uj_o, ↓uj_k, ↓ui_j, ↓uj_i, ↓z_zero_o, ↓z_zero_j, ui_s, uj_s, ui_o, ui_k, uj_o, uj_k, ui_j, uj_i, z_zero_o, z_zero_j]; exact R.hd s k h0 h1, fun s i h0 h1 => by simp (disch := first | decide | omega) only [↓ui_s, ↓uj_s, ↓ui_o, ↓ui_k, ↓uj_o, ↓uj_k, ↓ui_j, ↓uj_i, ↓z_zero_o, ↓z_zero_j, ui_s, uj_s, ui_o, ui_k, uj_o, uj_k, ui_j, uj_i, z_zero_o, z_zero_j]; exact R.so s i h0 h1, fun s i h0 h1 => by simp (disch := first | decide | omega) only [↓ui_s, ↓uj_s, ↓ui_o, ↓ui_k, ↓uj_o, ↓uj_k, ↓ui_j, ↓uj_i, ↓z_zero_o, ↓z_zero_j, ui_s, uj_s, ui_o, ui_k, uj_o, uj_k, ui_j, uj_i, z_zero_o, z_zero_j]; exact R.lo s i h0 h1, fun s i h0 h1 => by simp (disch := first | decide | omega) only [↓ui_s, ↓uj_s, ↓ui_o, ↓ui_k, ↓uj_o, ↓uj_k, ↓ui_j, ↓uj_i, ↓z_zero_o, ↓z_zero_j, ui_s, uj_s, ui_o, ui_k, uj_o, uj_k, ui_j, uj_i, z_zero_o, z_zero_j]; exact R.rv s i h0 h1, fun i f h0 h1 h2 => by simp (disch := first | decide | omega) only [↓ui_s, ↓uj_s, ↓ui_o, ↓ui_k, ↓uj_o, ↓uj_k, ↓ui_j, ↓uj_i, ↓z_zero_o, ↓z_zero_j, ui_s, uj_s, ui_o, ui_k, uj_o, uj_k, ui_j, uj_i, z_zero_o, z_zero_j]; exact R.wi i f h0 h1 h2, fun i h0 => by simp (disch := first | decide | omega) only [↓ui_s, ↓uj_s, ↓ui_o, ↓ui_k, ↓uj_o, ↓uj_k, ↓ui_j, ↓uj_i, ↓z_zero_o, ↓z_zero_j, ui_s, uj_s, ui_o, ui_k, uj_o, uj_k, ui_j, uj_i, z_zero_o, z_zero_j]; exact R.wf i h0, fun s k2 h0 h1 => by simp (disch := first | decide | omega) only [↓ui_s, ↓uj_s, ↓ui_o, ↓ui_k, ↓uj_o, ↓uj_k, ↓ui_j, ↓uj_i, ↓z_zero_o, ↓z_zero_j, ui_s, uj_s, ui_o, ui_k, uj_o, uj_k, ui_j, uj_i, z_zero_o, z_zero_j]; exact R.al s k2 h0 h1, fun s h0 => by simp (disch := first | decide | omega) only [↓ui_s, ↓uj_s, ↓ui_o, ↓ui_k, ↓uj_o, ↓uj_k, ↓ui_j, ↓uj_i, ↓z_zero_o, ↓z_zero_j, ui_s, uj_s, ui_o, ui_k, uj_o, uj_k, ui_j, uj_i, z_zero_o, z_zero_j]; exact R.lz s h0, fun s i h0 h1 => by simp (disch := first | decide | omega) only [↓ui_s, ↓uj_s, ↓ui_o, ↓ui_k, ↓uj_o, ↓uj_k, ↓ui_j, ↓uj_i, ↓z_zero_o, ↓z_zero_j, ui_s, uj_s, ui_o, ui_k, uj_o, uj_k, ui_j, uj_i, z_zero_o, z_zero_j] at h1 ⊢; exact R.sv s i h0 h1, fun s h0 => by simp (disch := first | decide | omega) only [↓ui_s, ↓uj_s, ↓ui_o, ↓ui_k, ↓uj_o, ↓uj_k, ↓ui_j, ↓uj_i, ↓z_zero_o, ↓z_zero_j, ui_s, uj_s, ui_o, ui_k, uj_o, uj_k, ui_j, uj_i, z_zero_o, z_zero_j]; rw [R.tk s h0]; exact congrArg (fun f => kb f 34) (tkM_cg (R.rb s h0) (fun i hi => by simp (disch := first | decide | omega) only [↓ui_s, ↓uj_s, ↓ui_o, ↓ui_k, ↓uj_o, ↓uj_k, ↓ui_j, ↓uj_i, ↓z_zero_o, ↓z_zero_j, ui_s, uj_s, ui_o, ui_k, uj_o, uj_k, ui_j, uj_i, z_zero_o, z_zero_j]) (by simp (disch := first | decide | omega) only [↓ui_s, ↓uj_s, ↓ui_o, ↓ui_k, ↓uj_o, ↓uj_k, ↓ui_j, ↓uj_i, ↓z_zero_o, ↓z_zero_j, ui_s, uj_s, ui_o, ui_k, uj_o, uj_k, ui_j, uj_i, z_zero_o, z_zero_j])), fun s h0 => by simp (disch := first | decide | omega) only [↓ui_s, ↓uj_s, ↓ui_o, ↓ui_k, ↓uj_o, ↓uj_k, ↓ui_j, ↓uj_i, ↓z_zero_o, ↓z_zero_j, ui_s, uj_s, ui_o, ui_k, uj_o, uj_k, ui_j, uj_i, z_zero_o, z_zero_j]; exact R.rb s h0, fun s i h0 h1 => by simp (disch := first | decide | omega) only [↓ui_s, ↓uj_s, ↓ui_o, ↓ui_k, ↓uj_o, ↓uj_k, ↓ui_j, ↓uj_i, ↓z_zero_o, ↓z_zero_j, ui_s, uj_s, ui_o, ui_k, uj_o, uj_k, ui_j, uj_i, z_zero_o, z_zero_j] at h1 ⊢; exact R.rk s i h0 h1, (by simp (disch := first | decide | omega) only [↓ui_s, ↓uj_s, ↓ui_o, ↓ui_k, ↓uj_o, ↓uj_k, ↓ui_j, ↓uj_i, ↓z_zero_o, ↓z_zero_j, ui_s, uj_s, ui_o, ui_k, uj_o, uj_k, ui_j, uj_i, z_zero_o, z_zero_j]; exact R.rd), fun s h0 => by simp (disch := first | decide | omega) only [↓ui_s, ↓uj_s, ↓ui_o, ↓ui_k, ↓uj_o, ↓uj_k, ↓ui_j, ↓uj_i, ↓z_zero_o, ↓z_zero_j, ui_s, uj_s, ui_o, ui_k, uj_o, uj_k, ui_j, uj_i, z_zero_o, z_zero_j]; exact R.bb s h0, fun z => by simp (disch := first | decide | omega) only [↓ui_s, ↓uj_s, ↓ui_o, ↓ui_k, ↓uj_o, ↓uj_k, ↓ui_j, ↓uj_i, ↓z_zero_o, ↓z_zero_j, ui_s, uj_s, ui_o, ui_k, uj_o, uj_k, ui_j, uj_i, z_zero_o, z_zero_j] at z ⊢; exact R.wp z⟩
theorem rc_nob1011 {x m : zM} (R : RCl x m) : RCl (z_ui (z_ui (z_ui (z_ui x 18 4 ((x.1 18 4) + 1000)) 26 4 ((x.1 26 4) + (-3000))) 34 4 ((x.1 34 4) + 1000)) 42 4 ((x.1 42 4) + 1000)) (nM1011 m) := by
  have e0 : x.1 18 4 = m.1 61 0 := R.pt 0 (by decide)
  have e1 : x.1 26 4 = m.1 61 1 := R.pt 1 (by decide)
  have e2 : x.1 34 4 = m.1 61 2 := R.pt 2 (by decide)
  have e3 : x.1 42 4 = m.1 61 3 := R.pt 3 (by decide)
  unfold nM1011
  exact ⟨(by simp (disch := first | decide | omega) only [↓ui_s, ↓uj_s, ↓ui_o, ↓ui_k, ↓uj_o, ↓uj_k, ↓ui_j, ↓uj_i, ↓z_zero_o, ↓z_zero_j, ui_s, uj_s, ui_o, ui_k, uj_o, uj_k, ui_j, uj_i, z_zero_o, z_zero_j]; exact R.dl), (by simp (disch := first | decide | omega) only [↓ui_s, ↓uj_s, ↓ui_o, ↓ui_k, ↓uj_o, ↓uj_k, ↓ui_j, ↓uj_i, ↓z_zero_o, ↓z_zero_j, ui_s, uj_s, ui_o, ui_k, uj_o, uj_k, ui_j, uj_i, z_zero_o, z_zero_j]; exact R.rn), (by simp (disch := first | decide | omega) only [↓ui_s, ↓uj_s, ↓ui_o, ↓ui_k, ↓uj_o, ↓uj_k, ↓ui_j, ↓uj_i, ↓z_zero_o, ↓z_zero_j, ui_s, uj_s, ui_o, ui_k, uj_o, uj_k, ui_j, uj_i, z_zero_o, z_zero_j]; exact R.st), (by simp (disch := first | decide | omega) only [↓ui_s, ↓uj_s, ↓ui_o, ↓ui_k, ↓uj_o, ↓uj_k, ↓ui_j, ↓uj_i, ↓z_zero_o, ↓z_zero_j, ui_s, uj_s, ui_o, ui_k, uj_o, uj_k, ui_j, uj_i, z_zero_o, z_zero_j]; exact R.bt), (by simp (disch := first | decide | omega) only [↓ui_s, ↓uj_s, ↓ui_o, ↓ui_k, ↓uj_o, ↓uj_k, ↓ui_j, ↓uj_i, ↓z_zero_o, ↓z_zero_j, ui_s, uj_s, ui_o, ui_k, uj_o, uj_k, ui_j, uj_i, z_zero_o, z_zero_j]; exact R.en), (by simp (disch := first | decide | omega) only [↓ui_s, ↓uj_s, ↓ui_o, ↓ui_k, ↓uj_o, ↓uj_k, ↓ui_j, ↓uj_i, ↓z_zero_o, ↓z_zero_j, ui_s, uj_s, ui_o, ui_k, uj_o, uj_k, ui_j, uj_i, z_zero_o, z_zero_j]; exact R.he), (by simp (disch := first | decide | omega) only [↓ui_s, ↓uj_s, ↓ui_o, ↓ui_k, ↓uj_o, ↓uj_k, ↓ui_j, ↓uj_i, ↓z_zero_o, ↓z_zero_j, ui_s, uj_s, ui_o, ui_k, uj_o, uj_k, ui_j, uj_i, z_zero_o, z_zero_j]; exact R.wc), (by simp (disch := first | decide | omega) only [↓ui_s, ↓uj_s, ↓ui_o, ↓ui_k, ↓uj_o, ↓uj_k, ↓ui_j, ↓uj_i, ↓z_zero_o, ↓z_zero_j, ui_s, uj_s, ui_o, ui_k, uj_o, uj_k, ui_j, uj_i, z_zero_o, z_zero_j]; exact R.sd), (by simp (disch := first | decide | omega) only [↓ui_s, ↓uj_s, ↓ui_o, ↓ui_k, ↓uj_o, ↓uj_k, ↓ui_j, ↓uj_i, ↓z_zero_o, ↓z_zero_j, ui_s, uj_s, ui_o, ui_k, uj_o, uj_k, ui_j, uj_i, z_zero_o, z_zero_j]; exact R.nx), fun i h0 => by simp (disch := first | decide | omega) only [↓ui_s, ↓uj_s, ↓ui_o, ↓ui_k, ↓uj_o, ↓uj_k, ↓ui_j, ↓uj_i, ↓z_zero_o, ↓z_zero_j, ui_s, uj_s, ui_o, ui_k, uj_o, uj_k, ui_j, uj_i, z_zero_o, z_zero_j]; exact R.wl i h0, (fun s h0 => by
      obtain rfl | rfl | rfl | rfl : s = 0 ∨ s = 1 ∨ s = 2 ∨ s = 3 := by omega
      · show (z_ui (z_ui (z_ui (z_ui x 18 4 ((x.1 18 4) + 1000)) 26 4 ((x.1 26 4) + (-3000))) 34 4 ((x.1 34 4) + 1000)) 42 4 ((x.1 42 4) + 1000)).1 18 4 = _; simp (disch := first | decide | omega) only [↓ui_s, ↓uj_s, ↓ui_o, ↓ui_k, ↓uj_o, ↓uj_k, ↓ui_j, ↓uj_i, ↓z_zero_o, ↓z_zero_j, ui_s, uj_s, ui_o, ui_k, uj_o, uj_k, ui_j, uj_i, z_zero_o, z_zero_j]; rw [e0]
      · show (z_ui (z_ui (z_ui (z_ui x 18 4 ((x.1 18 4) + 1000)) 26 4 ((x.1 26 4) + (-3000))) 34 4 ((x.1 34 4) + 1000)) 42 4 ((x.1 42 4) + 1000)).1 26 4 = _; simp (disch := first | decide | omega) only [↓ui_s, ↓uj_s, ↓ui_o, ↓ui_k, ↓uj_o, ↓uj_k, ↓ui_j, ↓uj_i, ↓z_zero_o, ↓z_zero_j, ui_s, uj_s, ui_o, ui_k, uj_o, uj_k, ui_j, uj_i, z_zero_o, z_zero_j]; rw [e1]
      · show (z_ui (z_ui (z_ui (z_ui x 18 4 ((x.1 18 4) + 1000)) 26 4 ((x.1 26 4) + (-3000))) 34 4 ((x.1 34 4) + 1000)) 42 4 ((x.1 42 4) + 1000)).1 34 4 = _; simp (disch := first | decide | omega) only [↓ui_s, ↓uj_s, ↓ui_o, ↓ui_k, ↓uj_o, ↓uj_k, ↓ui_j, ↓uj_i, ↓z_zero_o, ↓z_zero_j, ui_s, uj_s, ui_o, ui_k, uj_o, uj_k, ui_j, uj_i, z_zero_o, z_zero_j]; rw [e2]
      · show (z_ui (z_ui (z_ui (z_ui x 18 4 ((x.1 18 4) + 1000)) 26 4 ((x.1 26 4) + (-3000))) 34 4 ((x.1 34 4) + 1000)) 42 4 ((x.1 42 4) + 1000)).1 42 4 = _; simp (disch := first | decide | omega) only [↓ui_s, ↓uj_s, ↓ui_o, ↓ui_k, ↓uj_o, ↓uj_k, ↓ui_j, ↓uj_i, ↓z_zero_o, ↓z_zero_j, ui_s, uj_s, ui_o, ui_k, uj_o, uj_k, ui_j, uj_i, z_zero_o, z_zero_j]; rw [e3]), fun s h0 => by simp (disch := first | decide | omega) only [↓ui_s, ↓uj_s, ↓ui_o, ↓ui_k, ↓uj_o, ↓uj_k, ↓ui_j, ↓uj_i, ↓z_zero_o, ↓z_zero_j, ui_s, uj_s, ui_o, ui_k, uj_o, uj_k, ui_j, uj_i, z_zero_o, z_zero_j]; exact R.be s h0, fun s h0 => by simp (disch := first | decide | omega) only [↓ui_s, ↓uj_s, ↓ui_o, ↓ui_k, ↓uj_o, ↓uj_k, ↓ui_j, ↓uj_i, ↓z_zero_o, ↓z_zero_j, ui_s, uj_s, ui_o, ui_k, uj_o, uj_k, ui_j, uj_i, z_zero_o, z_zero_j]; exact R.ao s h0, fun s h0 => by simp (disch := first | decide | omega) only [↓ui_s, ↓uj_s, ↓ui_o, ↓ui_k, ↓uj_o, ↓uj_k, ↓ui_j, ↓uj_i, ↓z_zero_o, ↓z_zero_j, ui_s, uj_s, ui_o, ui_k, uj_o, uj_k, ui_j, uj_i, z_zero_o, z_zero_j]; exact R.lg s h0, fun s h0 => by simp (disch := first | decide | omega) only [↓ui_s, ↓uj_s, ↓ui_o, ↓ui_k, ↓uj_o, ↓uj_k, ↓ui_j, ↓uj_i, ↓z_zero_o, ↓z_zero_j, ui_s, uj_s, ui_o, ui_k, uj_o, uj_k, ui_j, uj_i, z_zero_o, z_zero_j]; exact R.sy s h0, fun s h0 => by simp (disch := first | decide | omega) only [↓ui_s, ↓uj_s, ↓ui_o, ↓ui_k, ↓uj_o, ↓uj_k, ↓ui_j, ↓uj_i, ↓z_zero_o, ↓z_zero_j, ui_s, uj_s, ui_o, ui_k, uj_o, uj_k, ui_j, uj_i, z_zero_o, z_zero_j]; exact R.ds s h0, fun s h0 => by simp (disch := first | decide | omega) only [↓ui_s, ↓uj_s, ↓ui_o, ↓ui_k, ↓uj_o, ↓uj_k, ↓ui_j, ↓uj_i, ↓z_zero_o, ↓z_zero_j, ui_s, uj_s, ui_o, ui_k, uj_o, uj_k, ui_j, uj_i, z_zero_o, z_zero_j]; exact R.lm s h0, fun s k h0 h1 => by simp (disch := first | decide | omega) only [↓ui_s, ↓uj_s, ↓ui_o, ↓ui_k, ↓uj_o, ↓uj_k, ↓ui_j, ↓uj_i, ↓z_zero_o, ↓z_zero_j, ui_s, uj_s, ui_o, ui_k, uj_o, uj_k, ui_j, uj_i, z_zero_o, z_zero_j]; exact R.hd s k h0 h1, fun s i h0 h1 => by simp (disch := first | decide | omega) only [↓ui_s, ↓uj_s, ↓ui_o, ↓ui_k, ↓uj_o, ↓uj_k, ↓ui_j, ↓uj_i, ↓z_zero_o, ↓z_zero_j, ui_s, uj_s, ui_o, ui_k, uj_o, uj_k, ui_j, uj_i, z_zero_o, z_zero_j]; exact R.so s i h0 h1, fun s i h0 h1 => by simp (disch := first | decide | omega) only [↓ui_s, ↓uj_s, ↓ui_o, ↓ui_k, ↓uj_o, ↓uj_k, ↓ui_j, ↓uj_i, ↓z_zero_o, ↓z_zero_j, ui_s, uj_s, ui_o, ui_k, uj_o, uj_k, ui_j, uj_i, z_zero_o, z_zero_j]; exact R.lo s i h0 h1, fun s i h0 h1 => by simp (disch := first | decide | omega) only [↓ui_s, ↓uj_s, ↓ui_o, ↓ui_k, ↓uj_o, ↓uj_k, ↓ui_j, ↓uj_i, ↓z_zero_o, ↓z_zero_j, ui_s, uj_s, ui_o, ui_k, uj_o, uj_k, ui_j, uj_i, z_zero_o, z_zero_j]; exact R.rv s i h0 h1, fun i f h0 h1 h2 => by simp (disch := first | decide | omega) only [↓ui_s, ↓uj_s, ↓ui_o, ↓ui_k, ↓uj_o, ↓uj_k, ↓ui_j, ↓uj_i, ↓z_zero_o, ↓z_zero_j, ui_s, uj_s, ui_o, ui_k, uj_o, uj_k, ui_j, uj_i, z_zero_o, z_zero_j]; exact R.wi i f h0 h1 h2, fun i h0 => by simp (disch := first | decide | omega) only [↓ui_s, ↓uj_s, ↓ui_o, ↓ui_k, ↓uj_o, ↓uj_k, ↓ui_j, ↓uj_i, ↓z_zero_o, ↓z_zero_j, ui_s, uj_s, ui_o, ui_k, uj_o, uj_k, ui_j, uj_i, z_zero_o, z_zero_j]; exact R.wf i h0, fun s k2 h0 h1 => by simp (disch := first | decide | omega) only [↓ui_s, ↓uj_s, ↓ui_o, ↓ui_k, ↓uj_o, ↓uj_k, ↓ui_j, ↓uj_i, ↓z_zero_o, ↓z_zero_j, ui_s, uj_s, ui_o, ui_k, uj_o, uj_k, ui_j, uj_i, z_zero_o, z_zero_j]; exact R.al s k2 h0 h1, fun s h0 => by simp (disch := first | decide | omega) only [↓ui_s, ↓uj_s, ↓ui_o, ↓ui_k, ↓uj_o, ↓uj_k, ↓ui_j, ↓uj_i, ↓z_zero_o, ↓z_zero_j, ui_s, uj_s, ui_o, ui_k, uj_o, uj_k, ui_j, uj_i, z_zero_o, z_zero_j]; exact R.lz s h0, fun s i h0 h1 => by simp (disch := first | decide | omega) only [↓ui_s, ↓uj_s, ↓ui_o, ↓ui_k, ↓uj_o, ↓uj_k, ↓ui_j, ↓uj_i, ↓z_zero_o, ↓z_zero_j, ui_s, uj_s, ui_o, ui_k, uj_o, uj_k, ui_j, uj_i, z_zero_o, z_zero_j] at h1 ⊢; exact R.sv s i h0 h1, fun s h0 => by simp (disch := first | decide | omega) only [↓ui_s, ↓uj_s, ↓ui_o, ↓ui_k, ↓uj_o, ↓uj_k, ↓ui_j, ↓uj_i, ↓z_zero_o, ↓z_zero_j, ui_s, uj_s, ui_o, ui_k, uj_o, uj_k, ui_j, uj_i, z_zero_o, z_zero_j]; rw [R.tk s h0]; exact congrArg (fun f => kb f 34) (tkM_cg (R.rb s h0) (fun i hi => by simp (disch := first | decide | omega) only [↓ui_s, ↓uj_s, ↓ui_o, ↓ui_k, ↓uj_o, ↓uj_k, ↓ui_j, ↓uj_i, ↓z_zero_o, ↓z_zero_j, ui_s, uj_s, ui_o, ui_k, uj_o, uj_k, ui_j, uj_i, z_zero_o, z_zero_j]) (by simp (disch := first | decide | omega) only [↓ui_s, ↓uj_s, ↓ui_o, ↓ui_k, ↓uj_o, ↓uj_k, ↓ui_j, ↓uj_i, ↓z_zero_o, ↓z_zero_j, ui_s, uj_s, ui_o, ui_k, uj_o, uj_k, ui_j, uj_i, z_zero_o, z_zero_j])), fun s h0 => by simp (disch := first | decide | omega) only [↓ui_s, ↓uj_s, ↓ui_o, ↓ui_k, ↓uj_o, ↓uj_k, ↓ui_j, ↓uj_i, ↓z_zero_o, ↓z_zero_j, ui_s, uj_s, ui_o, ui_k, uj_o, uj_k, ui_j, uj_i, z_zero_o, z_zero_j]; exact R.rb s h0, fun s i h0 h1 => by simp (disch := first | decide | omega) only [↓ui_s, ↓uj_s, ↓ui_o, ↓ui_k, ↓uj_o, ↓uj_k, ↓ui_j, ↓uj_i, ↓z_zero_o, ↓z_zero_j, ui_s, uj_s, ui_o, ui_k, uj_o, uj_k, ui_j, uj_i, z_zero_o, z_zero_j] at h1 ⊢; exact R.rk s i h0 h1, (by simp (disch := first | decide | omega) only [↓ui_s, ↓uj_s, ↓ui_o, ↓ui_k, ↓uj_o, ↓uj_k, ↓ui_j, ↓uj_i, ↓z_zero_o, ↓z_zero_j, ui_s, uj_s, ui_o, ui_k, uj_o, uj_k, ui_j, uj_i, z_zero_o, z_zero_j]; exact R.rd), fun s h0 => by simp (disch := first | decide | omega) only [↓ui_s, ↓uj_s, ↓ui_o, ↓ui_k, ↓uj_o, ↓uj_k, ↓ui_j, ↓uj_i, ↓z_zero_o, ↓z_zero_j, ui_s, uj_s, ui_o, ui_k, uj_o, uj_k, ui_j, uj_i, z_zero_o, z_zero_j]; exact R.bb s h0, fun z => by simp (disch := first | decide | omega) only [↓ui_s, ↓uj_s, ↓ui_o, ↓ui_k, ↓uj_o, ↓uj_k, ↓ui_j, ↓uj_i, ↓z_zero_o, ↓z_zero_j, ui_s, uj_s, ui_o, ui_k, uj_o, uj_k, ui_j, uj_i, z_zero_o, z_zero_j] at z ⊢; exact R.wp z⟩
theorem rc_nob1100 {x m : zM} (R : RCl x m) : RCl (z_ui (z_ui (z_ui (z_ui x 18 4 ((x.1 18 4) + 1500)) 26 4 ((x.1 26 4) + 1500)) 34 4 ((x.1 34 4) + (-1500))) 42 4 ((x.1 42 4) + (-1500))) (nM1100 m) := by
  have e0 : x.1 18 4 = m.1 61 0 := R.pt 0 (by decide)
  have e1 : x.1 26 4 = m.1 61 1 := R.pt 1 (by decide)
  have e2 : x.1 34 4 = m.1 61 2 := R.pt 2 (by decide)
  have e3 : x.1 42 4 = m.1 61 3 := R.pt 3 (by decide)
  unfold nM1100
  exact ⟨(by simp (disch := first | decide | omega) only [↓ui_s, ↓uj_s, ↓ui_o, ↓ui_k, ↓uj_o, ↓uj_k, ↓ui_j, ↓uj_i, ↓z_zero_o, ↓z_zero_j, ui_s, uj_s, ui_o, ui_k, uj_o, uj_k, ui_j, uj_i, z_zero_o, z_zero_j]; exact R.dl), (by simp (disch := first | decide | omega) only [↓ui_s, ↓uj_s, ↓ui_o, ↓ui_k, ↓uj_o, ↓uj_k, ↓ui_j, ↓uj_i, ↓z_zero_o, ↓z_zero_j, ui_s, uj_s, ui_o, ui_k, uj_o, uj_k, ui_j, uj_i, z_zero_o, z_zero_j]; exact R.rn), (by simp (disch := first | decide | omega) only [↓ui_s, ↓uj_s, ↓ui_o, ↓ui_k, ↓uj_o, ↓uj_k, ↓ui_j, ↓uj_i, ↓z_zero_o, ↓z_zero_j, ui_s, uj_s, ui_o, ui_k, uj_o, uj_k, ui_j, uj_i, z_zero_o, z_zero_j]; exact R.st), (by simp (disch := first | decide | omega) only [↓ui_s, ↓uj_s, ↓ui_o, ↓ui_k, ↓uj_o, ↓uj_k, ↓ui_j, ↓uj_i, ↓z_zero_o, ↓z_zero_j, ui_s, uj_s, ui_o, ui_k, uj_o, uj_k, ui_j, uj_i, z_zero_o, z_zero_j]; exact R.bt), (by simp (disch := first | decide | omega) only [↓ui_s, ↓uj_s, ↓ui_o, ↓ui_k, ↓uj_o, ↓uj_k, ↓ui_j, ↓uj_i, ↓z_zero_o, ↓z_zero_j, ui_s, uj_s, ui_o, ui_k, uj_o, uj_k, ui_j, uj_i, z_zero_o, z_zero_j]; exact R.en), (by simp (disch := first | decide | omega) only [↓ui_s, ↓uj_s, ↓ui_o, ↓ui_k, ↓uj_o, ↓uj_k, ↓ui_j, ↓uj_i, ↓z_zero_o, ↓z_zero_j, ui_s, uj_s, ui_o, ui_k, uj_o, uj_k, ui_j, uj_i, z_zero_o, z_zero_j]; exact R.he), (by simp (disch := first | decide | omega) only [↓ui_s, ↓uj_s, ↓ui_o, ↓ui_k, ↓uj_o, ↓uj_k, ↓ui_j, ↓uj_i, ↓z_zero_o, ↓z_zero_j, ui_s, uj_s, ui_o, ui_k, uj_o, uj_k, ui_j, uj_i, z_zero_o, z_zero_j]; exact R.wc), (by simp (disch := first | decide | omega) only [↓ui_s, ↓uj_s, ↓ui_o, ↓ui_k, ↓uj_o, ↓uj_k, ↓ui_j, ↓uj_i, ↓z_zero_o, ↓z_zero_j, ui_s, uj_s, ui_o, ui_k, uj_o, uj_k, ui_j, uj_i, z_zero_o, z_zero_j]; exact R.sd), (by simp (disch := first | decide | omega) only [↓ui_s, ↓uj_s, ↓ui_o, ↓ui_k, ↓uj_o, ↓uj_k, ↓ui_j, ↓uj_i, ↓z_zero_o, ↓z_zero_j, ui_s, uj_s, ui_o, ui_k, uj_o, uj_k, ui_j, uj_i, z_zero_o, z_zero_j]; exact R.nx), fun i h0 => by simp (disch := first | decide | omega) only [↓ui_s, ↓uj_s, ↓ui_o, ↓ui_k, ↓uj_o, ↓uj_k, ↓ui_j, ↓uj_i, ↓z_zero_o, ↓z_zero_j, ui_s, uj_s, ui_o, ui_k, uj_o, uj_k, ui_j, uj_i, z_zero_o, z_zero_j]; exact R.wl i h0, (fun s h0 => by
      obtain rfl | rfl | rfl | rfl : s = 0 ∨ s = 1 ∨ s = 2 ∨ s = 3 := by omega
      · show (z_ui (z_ui (z_ui (z_ui x 18 4 ((x.1 18 4) + 1500)) 26 4 ((x.1 26 4) + 1500)) 34 4 ((x.1 34 4) + (-1500))) 42 4 ((x.1 42 4) + (-1500))).1 18 4 = _; simp (disch := first | decide | omega) only [↓ui_s, ↓uj_s, ↓ui_o, ↓ui_k, ↓uj_o, ↓uj_k, ↓ui_j, ↓uj_i, ↓z_zero_o, ↓z_zero_j, ui_s, uj_s, ui_o, ui_k, uj_o, uj_k, ui_j, uj_i, z_zero_o, z_zero_j]; rw [e0]
      · show (z_ui (z_ui (z_ui (z_ui x 18 4 ((x.1 18 4) + 1500)) 26 4 ((x.1 26 4) + 1500)) 34 4 ((x.1 34 4) + (-1500))) 42 4 ((x.1 42 4) + (-1500))).1 26 4 = _; simp (disch := first | decide | omega) only [↓ui_s, ↓uj_s, ↓ui_o, ↓ui_k, ↓uj_o, ↓uj_k, ↓ui_j, ↓uj_i, ↓z_zero_o, ↓z_zero_j, ui_s, uj_s, ui_o, ui_k, uj_o, uj_k, ui_j, uj_i, z_zero_o, z_zero_j]; rw [e1]
      · show (z_ui (z_ui (z_ui (z_ui x 18 4 ((x.1 18 4) + 1500)) 26 4 ((x.1 26 4) + 1500)) 34 4 ((x.1 34 4) + (-1500))) 42 4 ((x.1 42 4) + (-1500))).1 34 4 = _; simp (disch := first | decide | omega) only [↓ui_s, ↓uj_s, ↓ui_o, ↓ui_k, ↓uj_o, ↓uj_k, ↓ui_j, ↓uj_i, ↓z_zero_o, ↓z_zero_j, ui_s, uj_s, ui_o, ui_k, uj_o, uj_k, ui_j, uj_i, z_zero_o, z_zero_j]; rw [e2]
      · show (z_ui (z_ui (z_ui (z_ui x 18 4 ((x.1 18 4) + 1500)) 26 4 ((x.1 26 4) + 1500)) 34 4 ((x.1 34 4) + (-1500))) 42 4 ((x.1 42 4) + (-1500))).1 42 4 = _; simp (disch := first | decide | omega) only [↓ui_s, ↓uj_s, ↓ui_o, ↓ui_k, ↓uj_o, ↓uj_k, ↓ui_j, ↓uj_i, ↓z_zero_o, ↓z_zero_j, ui_s, uj_s, ui_o, ui_k, uj_o, uj_k, ui_j, uj_i, z_zero_o, z_zero_j]; rw [e3]), fun s h0 => by simp (disch := first | decide | omega) only [↓ui_s, ↓uj_s, ↓ui_o, ↓ui_k, ↓uj_o, ↓uj_k, ↓ui_j, ↓uj_i, ↓z_zero_o, ↓z_zero_j, ui_s, uj_s, ui_o, ui_k, uj_o, uj_k, ui_j, uj_i, z_zero_o, z_zero_j]; exact R.be s h0, fun s h0 => by simp (disch := first | decide | omega) only [↓ui_s, ↓uj_s, ↓ui_o, ↓ui_k, ↓uj_o, ↓uj_k, ↓ui_j, ↓uj_i, ↓z_zero_o, ↓z_zero_j, ui_s, uj_s, ui_o, ui_k, uj_o, uj_k, ui_j, uj_i, z_zero_o, z_zero_j]; exact R.ao s h0, fun s h0 => by simp (disch := first | decide | omega) only [↓ui_s, ↓uj_s, ↓ui_o, ↓ui_k, ↓uj_o, ↓uj_k, ↓ui_j, ↓uj_i, ↓z_zero_o, ↓z_zero_j, ui_s, uj_s, ui_o, ui_k, uj_o, uj_k, ui_j, uj_i, z_zero_o, z_zero_j]; exact R.lg s h0, fun s h0 => by simp (disch := first | decide | omega) only [↓ui_s, ↓uj_s, ↓ui_o, ↓ui_k, ↓uj_o, ↓uj_k, ↓ui_j, ↓uj_i, ↓z_zero_o, ↓z_zero_j, ui_s, uj_s, ui_o, ui_k, uj_o, uj_k, ui_j, uj_i, z_zero_o, z_zero_j]; exact R.sy s h0, fun s h0 => by simp (disch := first | decide | omega) only [↓ui_s, ↓uj_s, ↓ui_o, ↓ui_k, ↓uj_o, ↓uj_k, ↓ui_j, ↓uj_i, ↓z_zero_o, ↓z_zero_j, ui_s, uj_s, ui_o, ui_k, uj_o, uj_k, ui_j, uj_i, z_zero_o, z_zero_j]; exact R.ds s h0, fun s h0 => by simp (disch := first | decide | omega) only [↓ui_s, ↓uj_s, ↓ui_o, ↓ui_k, ↓uj_o, ↓uj_k, ↓ui_j, ↓uj_i, ↓z_zero_o, ↓z_zero_j, ui_s, uj_s, ui_o, ui_k, uj_o, uj_k, ui_j, uj_i, z_zero_o, z_zero_j]; exact R.lm s h0, fun s k h0 h1 => by simp (disch := first | decide | omega) only [↓ui_s, ↓uj_s, ↓ui_o, ↓ui_k, ↓uj_o, ↓uj_k, ↓ui_j, ↓uj_i, ↓z_zero_o, ↓z_zero_j, ui_s, uj_s, ui_o, ui_k, uj_o, uj_k, ui_j, uj_i, z_zero_o, z_zero_j]; exact R.hd s k h0 h1, fun s i h0 h1 => by simp (disch := first | decide | omega) only [↓ui_s, ↓uj_s, ↓ui_o, ↓ui_k, ↓uj_o, ↓uj_k, ↓ui_j, ↓uj_i, ↓z_zero_o, ↓z_zero_j, ui_s, uj_s, ui_o, ui_k, uj_o, uj_k, ui_j, uj_i, z_zero_o, z_zero_j]; exact R.so s i h0 h1, fun s i h0 h1 => by simp (disch := first | decide | omega) only [↓ui_s, ↓uj_s, ↓ui_o, ↓ui_k, ↓uj_o, ↓uj_k, ↓ui_j, ↓uj_i, ↓z_zero_o, ↓z_zero_j, ui_s, uj_s, ui_o, ui_k, uj_o, uj_k, ui_j, uj_i, z_zero_o, z_zero_j]; exact R.lo s i h0 h1, fun s i h0 h1 => by simp (disch := first | decide | omega) only [↓ui_s, ↓uj_s, ↓ui_o, ↓ui_k, ↓uj_o, ↓uj_k, ↓ui_j, ↓uj_i, ↓z_zero_o, ↓z_zero_j, ui_s, uj_s, ui_o, ui_k, uj_o, uj_k, ui_j, uj_i, z_zero_o, z_zero_j]; exact R.rv s i h0 h1, fun i f h0 h1 h2 => by simp (disch := first | decide | omega) only [↓ui_s, ↓uj_s, ↓ui_o, ↓ui_k, ↓uj_o, ↓uj_k, ↓ui_j, ↓uj_i, ↓z_zero_o, ↓z_zero_j, ui_s, uj_s, ui_o, ui_k, uj_o, uj_k, ui_j, uj_i, z_zero_o, z_zero_j]; exact R.wi i f h0 h1 h2, fun i h0 => by simp (disch := first | decide | omega) only [↓ui_s, ↓uj_s, ↓ui_o, ↓ui_k, ↓uj_o, ↓uj_k, ↓ui_j, ↓uj_i, ↓z_zero_o, ↓z_zero_j, ui_s, uj_s, ui_o, ui_k, uj_o, uj_k, ui_j, uj_i, z_zero_o, z_zero_j]; exact R.wf i h0, fun s k2 h0 h1 => by simp (disch := first | decide | omega) only [↓ui_s, ↓uj_s, ↓ui_o, ↓ui_k, ↓uj_o, ↓uj_k, ↓ui_j, ↓uj_i, ↓z_zero_o, ↓z_zero_j, ui_s, uj_s, ui_o, ui_k, uj_o, uj_k, ui_j, uj_i, z_zero_o, z_zero_j]; exact R.al s k2 h0 h1, fun s h0 => by simp (disch := first | decide | omega) only [↓ui_s, ↓uj_s, ↓ui_o, ↓ui_k, ↓uj_o, ↓uj_k, ↓ui_j, ↓uj_i, ↓z_zero_o, ↓z_zero_j, ui_s, uj_s, ui_o, ui_k, uj_o, uj_k, ui_j, uj_i, z_zero_o, z_zero_j]; exact R.lz s h0, fun s i h0 h1 => by simp (disch := first | decide | omega) only [↓ui_s, ↓uj_s, ↓ui_o, ↓ui_k, ↓uj_o, ↓uj_k, ↓ui_j, ↓uj_i, ↓z_zero_o, ↓z_zero_j, ui_s, uj_s, ui_o, ui_k, uj_o, uj_k, ui_j, uj_i, z_zero_o, z_zero_j] at h1 ⊢; exact R.sv s i h0 h1, fun s h0 => by simp (disch := first | decide | omega) only [↓ui_s, ↓uj_s, ↓ui_o, ↓ui_k, ↓uj_o, ↓uj_k, ↓ui_j, ↓uj_i, ↓z_zero_o, ↓z_zero_j, ui_s, uj_s, ui_o, ui_k, uj_o, uj_k, ui_j, uj_i, z_zero_o, z_zero_j]; rw [R.tk s h0]; exact congrArg (fun f => kb f 34) (tkM_cg (R.rb s h0) (fun i hi => by simp (disch := first | decide | omega) only [↓ui_s, ↓uj_s, ↓ui_o, ↓ui_k, ↓uj_o, ↓uj_k, ↓ui_j, ↓uj_i, ↓z_zero_o, ↓z_zero_j, ui_s, uj_s, ui_o, ui_k, uj_o, uj_k, ui_j, uj_i, z_zero_o, z_zero_j]) (by simp (disch := first | decide | omega) only [↓ui_s, ↓uj_s, ↓ui_o, ↓ui_k, ↓uj_o, ↓uj_k, ↓ui_j, ↓uj_i, ↓z_zero_o, ↓z_zero_j, ui_s, uj_s, ui_o, ui_k, uj_o, uj_k, ui_j, uj_i, z_zero_o, z_zero_j])), fun s h0 => by simp (disch := first | decide | omega) only [↓ui_s, ↓uj_s, ↓ui_o, ↓ui_k, ↓uj_o, ↓uj_k, ↓ui_j, ↓uj_i, ↓z_zero_o, ↓z_zero_j, ui_s, uj_s, ui_o, ui_k, uj_o, uj_k, ui_j, uj_i, z_zero_o, z_zero_j]; exact R.rb s h0, fun s i h0 h1 => by simp (disch := first | decide | omega) only [↓ui_s, ↓uj_s, ↓ui_o, ↓ui_k, ↓uj_o, ↓uj_k, ↓ui_j, ↓uj_i, ↓z_zero_o, ↓z_zero_j, ui_s, uj_s, ui_o, ui_k, uj_o, uj_k, ui_j, uj_i, z_zero_o, z_zero_j] at h1 ⊢; exact R.rk s i h0 h1, (by simp (disch := first | decide | omega) only [↓ui_s, ↓uj_s, ↓ui_o, ↓ui_k, ↓uj_o, ↓uj_k, ↓ui_j, ↓uj_i, ↓z_zero_o, ↓z_zero_j, ui_s, uj_s, ui_o, ui_k, uj_o, uj_k, ui_j, uj_i, z_zero_o, z_zero_j]; exact R.rd), fun s h0 => by simp (disch := first | decide | omega) only [↓ui_s, ↓uj_s, ↓ui_o, ↓ui_k, ↓uj_o, ↓uj_k, ↓ui_j, ↓uj_i, ↓z_zero_o, ↓z_zero_j, ui_s, uj_s, ui_o, ui_k, uj_o, uj_k, ui_j, uj_i, z_zero_o, z_zero_j]; exact R.bb s h0, fun z => by simp (disch := first | decide | omega) only [↓ui_s, ↓uj_s, ↓ui_o, ↓ui_k, ↓uj_o, ↓uj_k, ↓ui_j, ↓uj_i, ↓z_zero_o, ↓z_zero_j, ui_s, uj_s, ui_o, ui_k, uj_o, uj_k, ui_j, uj_i, z_zero_o, z_zero_j] at z ⊢; exact R.wp z⟩
theorem rc_nob1101 {x m : zM} (R : RCl x m) : RCl (z_ui (z_ui (z_ui (z_ui x 18 4 ((x.1 18 4) + 1000)) 26 4 ((x.1 26 4) + 1000)) 34 4 ((x.1 34 4) + (-3000))) 42 4 ((x.1 42 4) + 1000)) (nM1101 m) := by
  have e0 : x.1 18 4 = m.1 61 0 := R.pt 0 (by decide)
  have e1 : x.1 26 4 = m.1 61 1 := R.pt 1 (by decide)
  have e2 : x.1 34 4 = m.1 61 2 := R.pt 2 (by decide)
  have e3 : x.1 42 4 = m.1 61 3 := R.pt 3 (by decide)
  unfold nM1101
  exact ⟨(by simp (disch := first | decide | omega) only [↓ui_s, ↓uj_s, ↓ui_o, ↓ui_k, ↓uj_o, ↓uj_k, ↓ui_j, ↓uj_i, ↓z_zero_o, ↓z_zero_j, ui_s, uj_s, ui_o, ui_k, uj_o, uj_k, ui_j, uj_i, z_zero_o, z_zero_j]; exact R.dl), (by simp (disch := first | decide | omega) only [↓ui_s, ↓uj_s, ↓ui_o, ↓ui_k, ↓uj_o, ↓uj_k, ↓ui_j, ↓uj_i, ↓z_zero_o, ↓z_zero_j, ui_s, uj_s, ui_o, ui_k, uj_o, uj_k, ui_j, uj_i, z_zero_o, z_zero_j]; exact R.rn), (by simp (disch := first | decide | omega) only [↓ui_s, ↓uj_s, ↓ui_o, ↓ui_k, ↓uj_o, ↓uj_k, ↓ui_j, ↓uj_i, ↓z_zero_o, ↓z_zero_j, ui_s, uj_s, ui_o, ui_k, uj_o, uj_k, ui_j, uj_i, z_zero_o, z_zero_j]; exact R.st), (by simp (disch := first | decide | omega) only [↓ui_s, ↓uj_s, ↓ui_o, ↓ui_k, ↓uj_o, ↓uj_k, ↓ui_j, ↓uj_i, ↓z_zero_o, ↓z_zero_j, ui_s, uj_s, ui_o, ui_k, uj_o, uj_k, ui_j, uj_i, z_zero_o, z_zero_j]; exact R.bt), (by simp (disch := first | decide | omega) only [↓ui_s, ↓uj_s, ↓ui_o, ↓ui_k, ↓uj_o, ↓uj_k, ↓ui_j, ↓uj_i, ↓z_zero_o, ↓z_zero_j, ui_s, uj_s, ui_o, ui_k, uj_o, uj_k, ui_j, uj_i, z_zero_o, z_zero_j]; exact R.en), (by simp (disch := first | decide | omega) only [↓ui_s, ↓uj_s, ↓ui_o, ↓ui_k, ↓uj_o, ↓uj_k, ↓ui_j, ↓uj_i, ↓z_zero_o, ↓z_zero_j, ui_s, uj_s, ui_o, ui_k, uj_o, uj_k, ui_j, uj_i, z_zero_o, z_zero_j]; exact R.he), (by simp (disch := first | decide | omega) only [↓ui_s, ↓uj_s, ↓ui_o, ↓ui_k, ↓uj_o, ↓uj_k, ↓ui_j, ↓uj_i, ↓z_zero_o, ↓z_zero_j, ui_s, uj_s, ui_o, ui_k, uj_o, uj_k, ui_j, uj_i, z_zero_o, z_zero_j]; exact R.wc), (by simp (disch := first | decide | omega) only [↓ui_s, ↓uj_s, ↓ui_o, ↓ui_k, ↓uj_o, ↓uj_k, ↓ui_j, ↓uj_i, ↓z_zero_o, ↓z_zero_j, ui_s, uj_s, ui_o, ui_k, uj_o, uj_k, ui_j, uj_i, z_zero_o, z_zero_j]; exact R.sd), (by simp (disch := first | decide | omega) only [↓ui_s, ↓uj_s, ↓ui_o, ↓ui_k, ↓uj_o, ↓uj_k, ↓ui_j, ↓uj_i, ↓z_zero_o, ↓z_zero_j, ui_s, uj_s, ui_o, ui_k, uj_o, uj_k, ui_j, uj_i, z_zero_o, z_zero_j]; exact R.nx), fun i h0 => by simp (disch := first | decide | omega) only [↓ui_s, ↓uj_s, ↓ui_o, ↓ui_k, ↓uj_o, ↓uj_k, ↓ui_j, ↓uj_i, ↓z_zero_o, ↓z_zero_j, ui_s, uj_s, ui_o, ui_k, uj_o, uj_k, ui_j, uj_i, z_zero_o, z_zero_j]; exact R.wl i h0, (fun s h0 => by
      obtain rfl | rfl | rfl | rfl : s = 0 ∨ s = 1 ∨ s = 2 ∨ s = 3 := by omega
      · show (z_ui (z_ui (z_ui (z_ui x 18 4 ((x.1 18 4) + 1000)) 26 4 ((x.1 26 4) + 1000)) 34 4 ((x.1 34 4) + (-3000))) 42 4 ((x.1 42 4) + 1000)).1 18 4 = _; simp (disch := first | decide | omega) only [↓ui_s, ↓uj_s, ↓ui_o, ↓ui_k, ↓uj_o, ↓uj_k, ↓ui_j, ↓uj_i, ↓z_zero_o, ↓z_zero_j, ui_s, uj_s, ui_o, ui_k, uj_o, uj_k, ui_j, uj_i, z_zero_o, z_zero_j]; rw [e0]
      · show (z_ui (z_ui (z_ui (z_ui x 18 4 ((x.1 18 4) + 1000)) 26 4 ((x.1 26 4) + 1000)) 34 4 ((x.1 34 4) + (-3000))) 42 4 ((x.1 42 4) + 1000)).1 26 4 = _; simp (disch := first | decide | omega) only [↓ui_s, ↓uj_s, ↓ui_o, ↓ui_k, ↓uj_o, ↓uj_k, ↓ui_j, ↓uj_i, ↓z_zero_o, ↓z_zero_j, ui_s, uj_s, ui_o, ui_k, uj_o, uj_k, ui_j, uj_i, z_zero_o, z_zero_j]; rw [e1]
      · show (z_ui (z_ui (z_ui (z_ui x 18 4 ((x.1 18 4) + 1000)) 26 4 ((x.1 26 4) + 1000)) 34 4 ((x.1 34 4) + (-3000))) 42 4 ((x.1 42 4) + 1000)).1 34 4 = _; simp (disch := first | decide | omega) only [↓ui_s, ↓uj_s, ↓ui_o, ↓ui_k, ↓uj_o, ↓uj_k, ↓ui_j, ↓uj_i, ↓z_zero_o, ↓z_zero_j, ui_s, uj_s, ui_o, ui_k, uj_o, uj_k, ui_j, uj_i, z_zero_o, z_zero_j]; rw [e2]
      · show (z_ui (z_ui (z_ui (z_ui x 18 4 ((x.1 18 4) + 1000)) 26 4 ((x.1 26 4) + 1000)) 34 4 ((x.1 34 4) + (-3000))) 42 4 ((x.1 42 4) + 1000)).1 42 4 = _; simp (disch := first | decide | omega) only [↓ui_s, ↓uj_s, ↓ui_o, ↓ui_k, ↓uj_o, ↓uj_k, ↓ui_j, ↓uj_i, ↓z_zero_o, ↓z_zero_j, ui_s, uj_s, ui_o, ui_k, uj_o, uj_k, ui_j, uj_i, z_zero_o, z_zero_j]; rw [e3]), fun s h0 => by simp (disch := first | decide | omega) only [↓ui_s, ↓uj_s, ↓ui_o, ↓ui_k, ↓uj_o, ↓uj_k, ↓ui_j, ↓uj_i, ↓z_zero_o, ↓z_zero_j, ui_s, uj_s, ui_o, ui_k, uj_o, uj_k, ui_j, uj_i, z_zero_o, z_zero_j]; exact R.be s h0, fun s h0 => by simp (disch := first | decide | omega) only [↓ui_s, ↓uj_s, ↓ui_o, ↓ui_k, ↓uj_o, ↓uj_k, ↓ui_j, ↓uj_i, ↓z_zero_o, ↓z_zero_j, ui_s, uj_s, ui_o, ui_k, uj_o, uj_k, ui_j, uj_i, z_zero_o, z_zero_j]; exact R.ao s h0, fun s h0 => by simp (disch := first | decide | omega) only [↓ui_s, ↓uj_s, ↓ui_o, ↓ui_k, ↓uj_o, ↓uj_k, ↓ui_j, ↓uj_i, ↓z_zero_o, ↓z_zero_j, ui_s, uj_s, ui_o, ui_k, uj_o, uj_k, ui_j, uj_i, z_zero_o, z_zero_j]; exact R.lg s h0, fun s h0 => by simp (disch := first | decide | omega) only [↓ui_s, ↓uj_s, ↓ui_o, ↓ui_k, ↓uj_o, ↓uj_k, ↓ui_j, ↓uj_i, ↓z_zero_o, ↓z_zero_j, ui_s, uj_s, ui_o, ui_k, uj_o, uj_k, ui_j, uj_i, z_zero_o, z_zero_j]; exact R.sy s h0, fun s h0 => by simp (disch := first | decide | omega) only [↓ui_s, ↓uj_s, ↓ui_o, ↓ui_k, ↓uj_o, ↓uj_k, ↓ui_j, ↓uj_i, ↓z_zero_o, ↓z_zero_j, ui_s, uj_s, ui_o, ui_k, uj_o, uj_k, ui_j, uj_i, z_zero_o, z_zero_j]; exact R.ds s h0, fun s h0 => by simp (disch := first | decide | omega) only [↓ui_s, ↓uj_s, ↓ui_o, ↓ui_k, ↓uj_o, ↓uj_k, ↓ui_j, ↓uj_i, ↓z_zero_o, ↓z_zero_j, ui_s, uj_s, ui_o, ui_k, uj_o, uj_k, ui_j, uj_i, z_zero_o, z_zero_j]; exact R.lm s h0, fun s k h0 h1 => by simp (disch := first | decide | omega) only [↓ui_s, ↓uj_s, ↓ui_o, ↓ui_k, ↓uj_o, ↓uj_k, ↓ui_j, ↓uj_i, ↓z_zero_o, ↓z_zero_j, ui_s, uj_s, ui_o, ui_k, uj_o, uj_k, ui_j, uj_i, z_zero_o, z_zero_j]; exact R.hd s k h0 h1, fun s i h0 h1 => by simp (disch := first | decide | omega) only [↓ui_s, ↓uj_s, ↓ui_o, ↓ui_k, ↓uj_o, ↓uj_k, ↓ui_j, ↓uj_i, ↓z_zero_o, ↓z_zero_j, ui_s, uj_s, ui_o, ui_k, uj_o, uj_k, ui_j, uj_i, z_zero_o, z_zero_j]; exact R.so s i h0 h1, fun s i h0 h1 => by simp (disch := first | decide | omega) only [↓ui_s, ↓uj_s, ↓ui_o, ↓ui_k, ↓uj_o, ↓uj_k, ↓ui_j, ↓uj_i, ↓z_zero_o, ↓z_zero_j, ui_s, uj_s, ui_o, ui_k, uj_o, uj_k, ui_j, uj_i, z_zero_o, z_zero_j]; exact R.lo s i h0 h1, fun s i h0 h1 => by simp (disch := first | decide | omega) only [↓ui_s, ↓uj_s, ↓ui_o, ↓ui_k, ↓uj_o, ↓uj_k, ↓ui_j, ↓uj_i, ↓z_zero_o, ↓z_zero_j, ui_s, uj_s, ui_o, ui_k, uj_o, uj_k, ui_j, uj_i, z_zero_o, z_zero_j]; exact R.rv s i h0 h1, fun i f h0 h1 h2 => by simp (disch := first | decide | omega) only [↓ui_s, ↓uj_s, ↓ui_o, ↓ui_k, ↓uj_o, ↓uj_k, ↓ui_j, ↓uj_i, ↓z_zero_o, ↓z_zero_j, ui_s, uj_s, ui_o, ui_k, uj_o, uj_k, ui_j, uj_i, z_zero_o, z_zero_j]; exact R.wi i f h0 h1 h2, fun i h0 => by simp (disch := first | decide | omega) only [↓ui_s, ↓uj_s, ↓ui_o, ↓ui_k, ↓uj_o, ↓uj_k, ↓ui_j, ↓uj_i, ↓z_zero_o, ↓z_zero_j, ui_s, uj_s, ui_o, ui_k, uj_o, uj_k, ui_j, uj_i, z_zero_o, z_zero_j]; exact R.wf i h0, fun s k2 h0 h1 => by simp (disch := first | decide | omega) only [↓ui_s, ↓uj_s, ↓ui_o, ↓ui_k, ↓uj_o, ↓uj_k, ↓ui_j, ↓uj_i, ↓z_zero_o, ↓z_zero_j, ui_s, uj_s, ui_o, ui_k, uj_o, uj_k, ui_j, uj_i, z_zero_o, z_zero_j]; exact R.al s k2 h0 h1, fun s h0 => by simp (disch := first | decide | omega) only [↓ui_s, ↓uj_s, ↓ui_o, ↓ui_k, ↓uj_o, ↓uj_k, ↓ui_j, ↓uj_i, ↓z_zero_o, ↓z_zero_j, ui_s, uj_s, ui_o, ui_k, uj_o, uj_k, ui_j, uj_i, z_zero_o, z_zero_j]; exact R.lz s h0, fun s i h0 h1 => by simp (disch := first | decide | omega) only [↓ui_s, ↓uj_s, ↓ui_o, ↓ui_k, ↓uj_o, ↓uj_k, ↓ui_j, ↓uj_i, ↓z_zero_o, ↓z_zero_j, ui_s, uj_s, ui_o, ui_k, uj_o, uj_k, ui_j, uj_i, z_zero_o, z_zero_j] at h1 ⊢; exact R.sv s i h0 h1, fun s h0 => by simp (disch := first | decide | omega) only [↓ui_s, ↓uj_s, ↓ui_o, ↓ui_k, ↓uj_o, ↓uj_k, ↓ui_j, ↓uj_i, ↓z_zero_o, ↓z_zero_j, ui_s, uj_s, ui_o, ui_k, uj_o, uj_k, ui_j, uj_i, z_zero_o, z_zero_j]; rw [R.tk s h0]; exact congrArg (fun f => kb f 34) (tkM_cg (R.rb s h0) (fun i hi => by simp (disch := first | decide | omega) only [↓ui_s, ↓uj_s, ↓ui_o, ↓ui_k, ↓uj_o, ↓uj_k, ↓ui_j, ↓uj_i, ↓z_zero_o, ↓z_zero_j, ui_s, uj_s, ui_o, ui_k, uj_o, uj_k, ui_j, uj_i, z_zero_o, z_zero_j]) (by simp (disch := first | decide | omega) only [↓ui_s, ↓uj_s, ↓ui_o, ↓ui_k, ↓uj_o, ↓uj_k, ↓ui_j, ↓uj_i, ↓z_zero_o, ↓z_zero_j, ui_s, uj_s, ui_o, ui_k, uj_o, uj_k, ui_j, uj_i, z_zero_o, z_zero_j])), fun s h0 => by simp (disch := first | decide | omega) only [↓ui_s, ↓uj_s, ↓ui_o, ↓ui_k, ↓uj_o, ↓uj_k, ↓ui_j, ↓uj_i, ↓z_zero_o, ↓z_zero_j, ui_s, uj_s, ui_o, ui_k, uj_o, uj_k, ui_j, uj_i, z_zero_o, z_zero_j]; exact R.rb s h0, fun s i h0 h1 => by simp (disch := first | decide | omega) only [↓ui_s, ↓uj_s, ↓ui_o, ↓ui_k, ↓uj_o, ↓uj_k, ↓ui_j, ↓uj_i, ↓z_zero_o, ↓z_zero_j, ui_s, uj_s, ui_o, ui_k, uj_o, uj_k, ui_j, uj_i, z_zero_o, z_zero_j] at h1 ⊢; exact R.rk s i h0 h1, (by simp (disch := first | decide | omega) only [↓ui_s, ↓uj_s, ↓ui_o, ↓ui_k, ↓uj_o, ↓uj_k, ↓ui_j, ↓uj_i, ↓z_zero_o, ↓z_zero_j, ui_s, uj_s, ui_o, ui_k, uj_o, uj_k, ui_j, uj_i, z_zero_o, z_zero_j]; exact R.rd), fun s h0 => by simp (disch := first | decide | omega) only [↓ui_s, ↓uj_s, ↓ui_o, ↓ui_k, ↓uj_o, ↓uj_k, ↓ui_j, ↓uj_i, ↓z_zero_o, ↓z_zero_j, ui_s, uj_s, ui_o, ui_k, uj_o, uj_k, ui_j, uj_i, z_zero_o, z_zero_j]; exact R.bb s h0, fun z => by simp (disch := first | decide | omega) only [↓ui_s, ↓uj_s, ↓ui_o, ↓ui_k, ↓uj_o, ↓uj_k, ↓ui_j, ↓uj_i, ↓z_zero_o, ↓z_zero_j, ui_s, uj_s, ui_o, ui_k, uj_o, uj_k, ui_j, uj_i, z_zero_o, z_zero_j] at z ⊢; exact R.wp z⟩
theorem rc_nob1110 {x m : zM} (R : RCl x m) : RCl (z_ui (z_ui (z_ui (z_ui x 18 4 ((x.1 18 4) + 1000)) 26 4 ((x.1 26 4) + 1000)) 34 4 ((x.1 34 4) + 1000)) 42 4 ((x.1 42 4) + (-3000))) (nM1110 m) := by
  have e0 : x.1 18 4 = m.1 61 0 := R.pt 0 (by decide)
  have e1 : x.1 26 4 = m.1 61 1 := R.pt 1 (by decide)
  have e2 : x.1 34 4 = m.1 61 2 := R.pt 2 (by decide)
  have e3 : x.1 42 4 = m.1 61 3 := R.pt 3 (by decide)
  unfold nM1110
  exact ⟨(by simp (disch := first | decide | omega) only [↓ui_s, ↓uj_s, ↓ui_o, ↓ui_k, ↓uj_o, ↓uj_k, ↓ui_j, ↓uj_i, ↓z_zero_o, ↓z_zero_j, ui_s, uj_s, ui_o, ui_k, uj_o, uj_k, ui_j, uj_i, z_zero_o, z_zero_j]; exact R.dl), (by simp (disch := first | decide | omega) only [↓ui_s, ↓uj_s, ↓ui_o, ↓ui_k, ↓uj_o, ↓uj_k, ↓ui_j, ↓uj_i, ↓z_zero_o, ↓z_zero_j, ui_s, uj_s, ui_o, ui_k, uj_o, uj_k, ui_j, uj_i, z_zero_o, z_zero_j]; exact R.rn), (by simp (disch := first | decide | omega) only [↓ui_s, ↓uj_s, ↓ui_o, ↓ui_k, ↓uj_o, ↓uj_k, ↓ui_j, ↓uj_i, ↓z_zero_o, ↓z_zero_j, ui_s, uj_s, ui_o, ui_k, uj_o, uj_k, ui_j, uj_i, z_zero_o, z_zero_j]; exact R.st), (by simp (disch := first | decide | omega) only [↓ui_s, ↓uj_s, ↓ui_o, ↓ui_k, ↓uj_o, ↓uj_k, ↓ui_j, ↓uj_i, ↓z_zero_o, ↓z_zero_j, ui_s, uj_s, ui_o, ui_k, uj_o, uj_k, ui_j, uj_i, z_zero_o, z_zero_j]; exact R.bt), (by simp (disch := first | decide | omega) only [↓ui_s, ↓uj_s, ↓ui_o, ↓ui_k, ↓uj_o, ↓uj_k, ↓ui_j, ↓uj_i, ↓z_zero_o, ↓z_zero_j, ui_s, uj_s, ui_o, ui_k, uj_o, uj_k, ui_j, uj_i, z_zero_o, z_zero_j]; exact R.en), (by simp (disch := first | decide | omega) only [↓ui_s, ↓uj_s, ↓ui_o, ↓ui_k, ↓uj_o, ↓uj_k, ↓ui_j, ↓uj_i, ↓z_zero_o, ↓z_zero_j, ui_s, uj_s, ui_o, ui_k, uj_o, uj_k, ui_j, uj_i, z_zero_o, z_zero_j]; exact R.he), (by simp (disch := first | decide | omega) only [↓ui_s, ↓uj_s, ↓ui_o, ↓ui_k, ↓uj_o, ↓uj_k, ↓ui_j, ↓uj_i, ↓z_zero_o, ↓z_zero_j, ui_s, uj_s, ui_o, ui_k, uj_o, uj_k, ui_j, uj_i, z_zero_o, z_zero_j]; exact R.wc), (by simp (disch := first | decide | omega) only [↓ui_s, ↓uj_s, ↓ui_o, ↓ui_k, ↓uj_o, ↓uj_k, ↓ui_j, ↓uj_i, ↓z_zero_o, ↓z_zero_j, ui_s, uj_s, ui_o, ui_k, uj_o, uj_k, ui_j, uj_i, z_zero_o, z_zero_j]; exact R.sd), (by simp (disch := first | decide | omega) only [↓ui_s, ↓uj_s, ↓ui_o, ↓ui_k, ↓uj_o, ↓uj_k, ↓ui_j, ↓uj_i, ↓z_zero_o, ↓z_zero_j, ui_s, uj_s, ui_o, ui_k, uj_o, uj_k, ui_j, uj_i, z_zero_o, z_zero_j]; exact R.nx), fun i h0 => by simp (disch := first | decide | omega) only [↓ui_s, ↓uj_s, ↓ui_o, ↓ui_k, ↓uj_o, ↓uj_k, ↓ui_j, ↓uj_i, ↓z_zero_o, ↓z_zero_j, ui_s, uj_s, ui_o, ui_k, uj_o, uj_k, ui_j, uj_i, z_zero_o, z_zero_j]; exact R.wl i h0, (fun s h0 => by
      obtain rfl | rfl | rfl | rfl : s = 0 ∨ s = 1 ∨ s = 2 ∨ s = 3 := by omega
      · show (z_ui (z_ui (z_ui (z_ui x 18 4 ((x.1 18 4) + 1000)) 26 4 ((x.1 26 4) + 1000)) 34 4 ((x.1 34 4) + 1000)) 42 4 ((x.1 42 4) + (-3000))).1 18 4 = _; simp (disch := first | decide | omega) only [↓ui_s, ↓uj_s, ↓ui_o, ↓ui_k, ↓uj_o, ↓uj_k, ↓ui_j, ↓uj_i, ↓z_zero_o, ↓z_zero_j, ui_s, uj_s, ui_o, ui_k, uj_o, uj_k, ui_j, uj_i, z_zero_o, z_zero_j]; rw [e0]
      · show (z_ui (z_ui (z_ui (z_ui x 18 4 ((x.1 18 4) + 1000)) 26 4 ((x.1 26 4) + 1000)) 34 4 ((x.1 34 4) + 1000)) 42 4 ((x.1 42 4) + (-3000))).1 26 4 = _; simp (disch := first | decide | omega) only [↓ui_s, ↓uj_s, ↓ui_o, ↓ui_k, ↓uj_o, ↓uj_k, ↓ui_j, ↓uj_i, ↓z_zero_o, ↓z_zero_j, ui_s, uj_s, ui_o, ui_k, uj_o, uj_k, ui_j, uj_i, z_zero_o, z_zero_j]; rw [e1]
      · show (z_ui (z_ui (z_ui (z_ui x 18 4 ((x.1 18 4) + 1000)) 26 4 ((x.1 26 4) + 1000)) 34 4 ((x.1 34 4) + 1000)) 42 4 ((x.1 42 4) + (-3000))).1 34 4 = _; simp (disch := first | decide | omega) only [↓ui_s, ↓uj_s, ↓ui_o, ↓ui_k, ↓uj_o, ↓uj_k, ↓ui_j, ↓uj_i, ↓z_zero_o, ↓z_zero_j, ui_s, uj_s, ui_o, ui_k, uj_o, uj_k, ui_j, uj_i, z_zero_o, z_zero_j]; rw [e2]
      · show (z_ui (z_ui (z_ui (z_ui x 18 4 ((x.1 18 4) + 1000)) 26 4 ((x.1 26 4) + 1000)) 34 4 ((x.1 34 4) + 1000)) 42 4 ((x.1 42 4) + (-3000))).1 42 4 = _; simp (disch := first | decide | omega) only [↓ui_s, ↓uj_s, ↓ui_o, ↓ui_k, ↓uj_o, ↓uj_k, ↓ui_j, ↓uj_i, ↓z_zero_o, ↓z_zero_j, ui_s, uj_s, ui_o, ui_k, uj_o, uj_k, ui_j, uj_i, z_zero_o, z_zero_j]; rw [e3]), fun s h0 => by simp (disch := first | decide | omega) only [↓ui_s, ↓uj_s, ↓ui_o, ↓ui_k, ↓uj_o, ↓uj_k, ↓ui_j, ↓uj_i, ↓z_zero_o, ↓z_zero_j, ui_s, uj_s, ui_o, ui_k, uj_o, uj_k, ui_j, uj_i, z_zero_o, z_zero_j]; exact R.be s h0, fun s h0 => by simp (disch := first | decide | omega) only [↓ui_s, ↓uj_s, ↓ui_o, ↓ui_k, ↓uj_o, ↓uj_k, ↓ui_j, ↓uj_i, ↓z_zero_o, ↓z_zero_j, ui_s, uj_s, ui_o, ui_k, uj_o, uj_k, ui_j, uj_i, z_zero_o, z_zero_j]; exact R.ao s h0, fun s h0 => by simp (disch := first | decide | omega) only [↓ui_s, ↓uj_s, ↓ui_o, ↓ui_k, ↓uj_o, ↓uj_k, ↓ui_j, ↓uj_i, ↓z_zero_o, ↓z_zero_j, ui_s, uj_s, ui_o, ui_k, uj_o, uj_k, ui_j, uj_i, z_zero_o, z_zero_j]; exact R.lg s h0, fun s h0 => by simp (disch := first | decide | omega) only [↓ui_s, ↓uj_s, ↓ui_o, ↓ui_k, ↓uj_o, ↓uj_k, ↓ui_j, ↓uj_i, ↓z_zero_o, ↓z_zero_j, ui_s, uj_s, ui_o, ui_k, uj_o, uj_k, ui_j, uj_i, z_zero_o, z_zero_j]; exact R.sy s h0, fun s h0 => by simp (disch := first | decide | omega) only [↓ui_s, ↓uj_s, ↓ui_o, ↓ui_k, ↓uj_o, ↓uj_k, ↓ui_j, ↓uj_i, ↓z_zero_o, ↓z_zero_j, ui_s, uj_s, ui_o, ui_k, uj_o, uj_k, ui_j, uj_i, z_zero_o, z_zero_j]; exact R.ds s h0, fun s h0 => by simp (disch := first | decide | omega) only [↓ui_s, ↓uj_s, ↓ui_o, ↓ui_k, ↓uj_o, ↓uj_k, ↓ui_j, ↓uj_i, ↓z_zero_o, ↓z_zero_j, ui_s, uj_s, ui_o, ui_k, uj_o, uj_k, ui_j, uj_i, z_zero_o, z_zero_j]; exact R.lm s h0, fun s k h0 h1 => by simp (disch := first | decide | omega) only [↓ui_s, ↓uj_s, ↓ui_o, ↓ui_k, ↓uj_o, ↓uj_k, ↓ui_j, ↓uj_i, ↓z_zero_o, ↓z_zero_j, ui_s, uj_s, ui_o, ui_k, uj_o, uj_k, ui_j, uj_i, z_zero_o, z_zero_j]; exact R.hd s k h0 h1, fun s i h0 h1 => by simp (disch := first | decide | omega) only [↓ui_s, ↓uj_s, ↓ui_o, ↓ui_k, ↓uj_o, ↓uj_k, ↓ui_j, ↓uj_i, ↓z_zero_o, ↓z_zero_j, ui_s, uj_s, ui_o, ui_k, uj_o, uj_k, ui_j, uj_i, z_zero_o, z_zero_j]; exact R.so s i h0 h1, fun s i h0 h1 => by simp (disch := first | decide | omega) only [↓ui_s, ↓uj_s, ↓ui_o, ↓ui_k, ↓uj_o, ↓uj_k, ↓ui_j, ↓uj_i, ↓z_zero_o, ↓z_zero_j, ui_s, uj_s, ui_o, ui_k, uj_o, uj_k, ui_j, uj_i, z_zero_o, z_zero_j]; exact R.lo s i h0 h1, fun s i h0 h1 => by simp (disch := first | decide | omega) only [↓ui_s, ↓uj_s, ↓ui_o, ↓ui_k, ↓uj_o, ↓uj_k, ↓ui_j, ↓uj_i, ↓z_zero_o, ↓z_zero_j, ui_s, uj_s, ui_o, ui_k, uj_o, uj_k, ui_j, uj_i, z_zero_o, z_zero_j]; exact R.rv s i h0 h1, fun i f h0 h1 h2 => by simp (disch := first | decide | omega) only [↓ui_s, ↓uj_s, ↓ui_o, ↓ui_k, ↓uj_o, ↓uj_k, ↓ui_j, ↓uj_i, ↓z_zero_o, ↓z_zero_j, ui_s, uj_s, ui_o, ui_k, uj_o, uj_k, ui_j, uj_i, z_zero_o, z_zero_j]; exact R.wi i f h0 h1 h2, fun i h0 => by simp (disch := first | decide | omega) only [↓ui_s, ↓uj_s, ↓ui_o, ↓ui_k, ↓uj_o, ↓uj_k, ↓ui_j, ↓uj_i, ↓z_zero_o, ↓z_zero_j, ui_s, uj_s, ui_o, ui_k, uj_o, uj_k, ui_j, uj_i, z_zero_o, z_zero_j]; exact R.wf i h0, fun s k2 h0 h1 => by simp (disch := first | decide | omega) only [↓ui_s, ↓uj_s, ↓ui_o, ↓ui_k, ↓uj_o, ↓uj_k, ↓ui_j, ↓uj_i, ↓z_zero_o, ↓z_zero_j, ui_s, uj_s, ui_o, ui_k, uj_o, uj_k, ui_j, uj_i, z_zero_o, z_zero_j]; exact R.al s k2 h0 h1, fun s h0 => by simp (disch := first | decide | omega) only [↓ui_s, ↓uj_s, ↓ui_o, ↓ui_k, ↓uj_o, ↓uj_k, ↓ui_j, ↓uj_i, ↓z_zero_o, ↓z_zero_j, ui_s, uj_s, ui_o, ui_k, uj_o, uj_k, ui_j, uj_i, z_zero_o, z_zero_j]; exact R.lz s h0, fun s i h0 h1 => by simp (disch := first | decide | omega) only [↓ui_s, ↓uj_s, ↓ui_o, ↓ui_k, ↓uj_o, ↓uj_k, ↓ui_j, ↓uj_i, ↓z_zero_o, ↓z_zero_j, ui_s, uj_s, ui_o, ui_k, uj_o, uj_k, ui_j, uj_i, z_zero_o, z_zero_j] at h1 ⊢; exact R.sv s i h0 h1, fun s h0 => by simp (disch := first | decide | omega) only [↓ui_s, ↓uj_s, ↓ui_o, ↓ui_k, ↓uj_o, ↓uj_k, ↓ui_j, ↓uj_i, ↓z_zero_o, ↓z_zero_j, ui_s, uj_s, ui_o, ui_k, uj_o, uj_k, ui_j, uj_i, z_zero_o, z_zero_j]; rw [R.tk s h0]; exact congrArg (fun f => kb f 34) (tkM_cg (R.rb s h0) (fun i hi => by simp (disch := first | decide | omega) only [↓ui_s, ↓uj_s, ↓ui_o, ↓ui_k, ↓uj_o, ↓uj_k, ↓ui_j, ↓uj_i, ↓z_zero_o, ↓z_zero_j, ui_s, uj_s, ui_o, ui_k, uj_o, uj_k, ui_j, uj_i, z_zero_o, z_zero_j]) (by simp (disch := first | decide | omega) only [↓ui_s, ↓uj_s, ↓ui_o, ↓ui_k, ↓uj_o, ↓uj_k, ↓ui_j, ↓uj_i, ↓z_zero_o, ↓z_zero_j, ui_s, uj_s, ui_o, ui_k, uj_o, uj_k, ui_j, uj_i, z_zero_o, z_zero_j])), fun s h0 => by simp (disch := first | decide | omega) only [↓ui_s, ↓uj_s, ↓ui_o, ↓ui_k, ↓uj_o, ↓uj_k, ↓ui_j, ↓uj_i, ↓z_zero_o, ↓z_zero_j, ui_s, uj_s, ui_o, ui_k, uj_o, uj_k, ui_j, uj_i, z_zero_o, z_zero_j]; exact R.rb s h0, fun s i h0 h1 => by simp (disch := first | decide | omega) only [↓ui_s, ↓uj_s, ↓ui_o, ↓ui_k, ↓uj_o, ↓uj_k, ↓ui_j, ↓uj_i, ↓z_zero_o, ↓z_zero_j, ui_s, uj_s, ui_o, ui_k, uj_o, uj_k, ui_j, uj_i, z_zero_o, z_zero_j] at h1 ⊢; exact R.rk s i h0 h1, (by simp (disch := first | decide | omega) only [↓ui_s, ↓uj_s, ↓ui_o, ↓ui_k, ↓uj_o, ↓uj_k, ↓ui_j, ↓uj_i, ↓z_zero_o, ↓z_zero_j, ui_s, uj_s, ui_o, ui_k, uj_o, uj_k, ui_j, uj_i, z_zero_o, z_zero_j]; exact R.rd), fun s h0 => by simp (disch := first | decide | omega) only [↓ui_s, ↓uj_s, ↓ui_o, ↓ui_k, ↓uj_o, ↓uj_k, ↓ui_j, ↓uj_i, ↓z_zero_o, ↓z_zero_j, ui_s, uj_s, ui_o, ui_k, uj_o, uj_k, ui_j, uj_i, z_zero_o, z_zero_j]; exact R.bb s h0, fun z => by simp (disch := first | decide | omega) only [↓ui_s, ↓uj_s, ↓ui_o, ↓ui_k, ↓uj_o, ↓uj_k, ↓ui_j, ↓uj_i, ↓z_zero_o, ↓z_zero_j, ui_s, uj_s, ui_o, ui_k, uj_o, uj_k, ui_j, uj_i, z_zero_o, z_zero_j] at z ⊢; exact R.wp z⟩
theorem rc_nob1111 {x m : zM} (R : RCl x m) : RCl (x) (nM1111 m) := by
  have ne : ∀ r k, gM2 r k → r ≠ 79 := fun r k h => by unfold gM2 at h; omega
  exact RCl.cg2 (x := x) (x' := x) (m := m) (m' := nM1111 m) (q2_x _) (fun r k h => ⟨by unfold nM1111; rw [ui_o (ne r k h), ui_o (ne r k h), ui_o (ne r k h), ui_o (ne r k h), z_zero_o (ne r k h)], rfl⟩) R
/-! the relation holds behind a deal -/
set_option maxRecDepth 8000
noncomputable def dlN (μ3 : zM) : zM := z_ui (z_ui (z_ui (z_ui (z_ui (z_ui (z_ui (z_ui (z_ui (z_ui (z_ui (z_ui (z_ui (z_ui (z_ui (z_ui (z_ui (z_ui (z_ui (z_ui (z_ui (z_ui (z_ui (z_ui (z_ui (z_ui (z_ui (z_ui (z_ui (z_ui (z_ui (z_ui (z_ui (z_ui (z_ui μ3 64 0 0) 66 0 0) 67 0 0) 68 0 0) 69 0 0) 70 0 0) 71 0 0) 64 1 0) 66 1 0) 67 1 0) 68 1 0) 69 1 0) 70 1 0) 71 1 0) 64 2 0) 66 2 0) 67 2 0) 68 2 0) 69 2 0) 70 2 0) 71 2 0) 64 3 0) 66 3 0) 67 3 0) 68 3 0) 69 3 0) 70 3 0) 71 3 0) 50 46 52) 50 47 0) 50 48 0) 50 53 0) 50 56 1) 50 59 0) 50 55 1
theorem dlM_n (m : zM) (dl : Nat) (sd : Int64) : dlM m dl sd = dM0 (dlN m) dl 52 (wlN sd 52) := rfl
theorem cW_spl {f : Nat → Int32} {a k n : Nat} : ∀ j, cW f a k (n + j) = cW f a k n + cW f (a + n) k j
  | 0 => rfl
  | j + 1 => by
    show cW f a k (n + j) + (if f (a + (n + j)) = nI k then 1 else 0) = cW f a k n + (cW f (a + n) k j + (if f (a + n + j) = nI k then 1 else 0))
    rw [cW_spl j, Nat.add_assoc a n j, Nat.add_assoc]
theorem cW_52 {f : Nat → Int32} {k : Nat} : cW f 0 k 52 = cW f (13 * 0) k 13 + cW f (13 * 1) k 13 + cW f (13 * 2) k 13 + cW f (13 * 3) k 13 := by
  have e1 : cW f 0 k 52 = cW f 0 k 39 + cW f (0 + 39) k 13 := cW_spl (n := 39) 13
  have e2 : cW f 0 k 39 = cW f 0 k 26 + cW f (0 + 26) k 13 := cW_spl (n := 26) 13
  have e3 : cW f 0 k 26 = cW f 0 k 13 + cW f (0 + 13) k 13 := cW_spl (n := 13) 13
  rw [e1, e2, e3]
theorem cW_sum {sd : Int64} {a : Nat} : ∀ n, a + n ≤ 136 → sm (fun k => nI (cW (wlF sd) a k n)) 34 = nI n
  | 0, _ => by
    rw [show (fun k => nI (cW (wlF sd) a k 0)) = (fun _ => 0) from funext fun k => rfl, sm_z9]; rfl
  | n + 1, h => by
    have w := wlN_e sd (k := a + n) (by omega)
    rw [sm_up9 (g := fun k => nI (cW (wlF sd) a k n)) (d := 1) w.2 (fun j hj e => by rw [cW_s w.2 hj w.1, if_neg e, Nat.add_zero]) (by rw [cW_s w.2 w.2 w.1, if_pos rfl, nI_s1]), cW_sum n (by omega), nI_s1]
/-- a SEAT's place behind the dealer -/
theorem seat_p {dl s : Nat} (hd : dl < 4) (hs : s < 4) : ∃ p, p < 4 ∧ (dl + p) % 4 = s := ⟨(s + 4 - dl) % 4, Nat.mod_lt _ (by decide), by omega⟩
noncomputable def DLR (x m : zM) (dl : Nat) (sd : Int64) (x3 m3 : zM) : Prop := (DLX dl sd x x3) ∧ (DLM dl sd (z_ui m 50 0 0) m3)
theorem DLR.hx {x m : zM} {dl : Nat} {sd : Int64} {x3 m3 : zM} (h : DLR x m dl sd x3 m3) : DLX dl sd x x3 := h.1
theorem DLR.hm {x m : zM} {dl : Nat} {sd : Int64} {x3 m3 : zM} (h : DLR x m dl sd x3 m3) : DLM dl sd (z_ui m 50 0 0) m3 := h.2
theorem rc_dealt {x m x3 m3 : zM} {dl : Nat} {sd : Int64} (R : RCl x m) (D : DLR x m dl sd x3 m3) (hdl : dl < 4) : RCl (z_ui (z_ui x3 0 6 0) 0 17 0) (dlN m3) := by
  obtain ⟨μb, hC, b3, b21, b22, b23, bf, bj⟩ := D.hx
  obtain ⟨m1, m2, m3f, m4⟩ := D.hm
  have X : ∀ r k, (r < 18 ∨ r % 8 = 6 ∨ r % 8 = 7 ∨ r % 8 = 0 ∨ r % 8 = 1 ∨ (r % 8 = 2 ∧ k = 4)) → r ≠ 3 → r ≠ 2 → x3.1 r k = x.1 r k := fun r k h h1 h2 => (hC.2.1 r k (by omega)).trans (bf r k h1 (Or.inl h2))
  have Y : ∀ r k, (r < 18 ∨ k ≠ 3) → x3.2.1 r k = x.2.1 r k := fun r k h => by rw [hC.2.2 r k (by omega), bj]
  have M : ∀ r k, r ≠ 59 → r ≠ 60 → (r ≠ 50 ∨ k ≠ 0) → m3.1 r k = m.1 r k := fun r k h1 h2 h3 => by
    rw [m3f r k h1 h2]
    rcases h3 with h3 | h3
    · exact ui_o h3
    · exact ui_k h3
  have N : ∀ r k, m3.2.1 r k = m.2.1 r k := fun r k => by rw [m4]; rfl
  have SD : ∀ s, s < 4 → ∃ p, p < 4 ∧ (dl + p) % 4 = s ∧ SDx (wlF sd) x3 s p := fun s hs => by
    obtain ⟨p, h1, h2⟩ := seat_p hdl hs
    exact ⟨p, h1, h2, h2 ▸ hC.1 p h1⟩
  have z64 : ∀ s, s < 4 → (dlN m3).1 64 s = 0 := fun s hs => by
    unfold dlN
    obtain rfl | rfl | rfl | rfl : s = 0 ∨ s = 1 ∨ s = 2 ∨ s = 3 := by omega
    all_goals (simp (disch := first | decide | omega) only [↓ui_s, ↓uj_s, ↓ui_o, ↓ui_k, ↓uj_o, ↓uj_k, ↓ui_j, ↓uj_i, ui_s, uj_s, ui_o, ui_k, uj_o, uj_k, ui_j, uj_i])
  have z66 : ∀ s, s < 4 → (dlN m3).1 66 s = 0 := fun s hs => by
    unfold dlN
    obtain rfl | rfl | rfl | rfl : s = 0 ∨ s = 1 ∨ s = 2 ∨ s = 3 := by omega
    all_goals (simp (disch := first | decide | omega) only [↓ui_s, ↓uj_s, ↓ui_o, ↓ui_k, ↓uj_o, ↓uj_k, ↓ui_j, ↓uj_i, ui_s, uj_s, ui_o, ui_k, uj_o, uj_k, ui_j, uj_i])
  have z67 : ∀ s, s < 4 → (dlN m3).1 67 s = 0 := fun s hs => by
    unfold dlN
    obtain rfl | rfl | rfl | rfl : s = 0 ∨ s = 1 ∨ s = 2 ∨ s = 3 := by omega
    all_goals (simp (disch := first | decide | omega) only [↓ui_s, ↓uj_s, ↓ui_o, ↓ui_k, ↓uj_o, ↓uj_k, ↓ui_j, ↓uj_i, ui_s, uj_s, ui_o, ui_k, uj_o, uj_k, ui_j, uj_i])
  have z69 : ∀ s, s < 4 → (dlN m3).1 69 s = 0 := fun s hs => by
    unfold dlN
    obtain rfl | rfl | rfl | rfl : s = 0 ∨ s = 1 ∨ s = 2 ∨ s = 3 := by omega
    all_goals (simp (disch := first | decide | omega) only [↓ui_s, ↓uj_s, ↓ui_o, ↓ui_k, ↓uj_o, ↓uj_k, ↓ui_j, ↓uj_i, ui_s, uj_s, ui_o, ui_k, uj_o, uj_k, ui_j, uj_i])
  have z70 : ∀ s, s < 4 → (dlN m3).1 70 s = 0 := fun s hs => by
    unfold dlN
    obtain rfl | rfl | rfl | rfl : s = 0 ∨ s = 1 ∨ s = 2 ∨ s = 3 := by omega
    all_goals (simp (disch := first | decide | omega) only [↓ui_s, ↓uj_s, ↓ui_o, ↓ui_k, ↓uj_o, ↓uj_k, ↓ui_j, ↓uj_i, ui_s, uj_s, ui_o, ui_k, uj_o, uj_k, ui_j, uj_i])
  have z71 : ∀ s, s < 4 → (dlN m3).1 71 s = 0 := fun s hs => by
    unfold dlN
    obtain rfl | rfl | rfl | rfl : s = 0 ∨ s = 1 ∨ s = 2 ∨ s = 3 := by omega
    all_goals (simp (disch := first | decide | omega) only [↓ui_s, ↓uj_s, ↓ui_o, ↓ui_k, ↓uj_o, ↓uj_k, ↓ui_j, ↓uj_i, ui_s, uj_s, ui_o, ui_k, uj_o, uj_k, ui_j, uj_i])
  have z60 : ∀ s k, s < 4 → k < 34 → (dlN m3).1 60 (34 * s + k) = nI (mC dl (wlF sd) s k 52) := fun s k hs hk => by unfold dlN; simp (disch := first | decide | omega) only [↓ui_s, ↓uj_s, ↓ui_o, ↓ui_k, ↓uj_o, ↓uj_k, ↓ui_j, ↓uj_i, ui_s, uj_s, ui_o, ui_k, uj_o, uj_k, ui_j, uj_i]; exact m2 s k hs hk
  have z59 : ∀ i, i < 136 → (dlN m3).1 59 i = wlF sd i := fun i hi => by unfold dlN; simp (disch := first | decide | omega) only [↓ui_s, ↓uj_s, ↓ui_o, ↓ui_k, ↓uj_o, ↓uj_k, ↓ui_j, ↓uj_i, ui_s, uj_s, ui_o, ui_k, uj_o, uj_k, ui_j, uj_i]; exact m1 i hi
  have zf : ∀ r k, r ≠ 59 → r ≠ 60 → r ≠ 64 → r ≠ 66 → r ≠ 67 → r ≠ 68 → r ≠ 69 → r ≠ 70 → r ≠ 71 → (r ≠ 50 ∨ (40 ≤ k ∧ k ≤ 43) ∨ k = 52 ∨ k = 54) → (dlN m3).1 r k = m.1 r k := fun r k h1 h2 h3 h4 h5 h6 h7 h8 h9 h0 => by
    refine Eq.trans ?_ (M r k h1 h2 (by omega))
    unfold dlN
    by_cases e : r = 50
    · subst e; simp (disch := first | decide | omega) only [↓ui_s, ↓uj_s, ↓ui_o, ↓ui_k, ↓uj_o, ↓uj_k, ↓ui_j, ↓uj_i, ui_s, uj_s, ui_o, ui_k, uj_o, uj_k, ui_j, uj_i]
    · simp (disch := first | decide | omega) only [↓ui_s, ↓uj_s, ↓ui_o, ↓ui_k, ↓uj_o, ↓uj_k, ↓ui_j, ↓uj_i, ui_s, uj_s, ui_o, ui_k, uj_o, uj_k, ui_j, uj_i]
  have zj : ∀ r k, (dlN m3).2.1 r k = m.2.1 r k := fun r k => by unfold dlN; simp (disch := first | decide | omega) only [↓ui_s, ↓uj_s, ↓ui_o, ↓ui_k, ↓uj_o, ↓uj_k, ↓ui_j, ↓uj_i, ui_s, uj_s, ui_o, ui_k, uj_o, uj_k, ui_j, uj_i]; exact N r k
  have zM : ∀ k, k = 53 ∨ k = 55 ∨ k = 46 → (dlN m3).1 50 k = (if k = 53 then 0 else if k = 55 then 1 else 52) := fun k hk => by
    unfold dlN
    obtain rfl | rfl | rfl := hk
    all_goals (simp (disch := first | decide | omega) only [↓ui_s, ↓uj_s, ↓ui_o, ↓ui_k, ↓uj_o, ↓uj_k, ↓ui_j, ↓uj_i, ui_s, uj_s, ui_o, ui_k, uj_o, uj_k, ui_j, uj_i]; rfl)
  exact ⟨(by simp (disch := first | decide | omega) only [↓ui_s, ↓uj_s, ↓ui_o, ↓ui_k, ↓uj_o, ↓uj_k, ↓ui_j, ↓uj_i, ui_s, uj_s, ui_o, ui_k, uj_o, uj_k, ui_j, uj_i]; rw [X 0 9 (by omega) (by omega) (by omega), zf 50 40 (by omega) (by omega) (by omega) (by omega) (by omega) (by omega) (by omega) (by omega) (by omega) (by omega)]; exact R.dl), (by simp (disch := first | decide | omega) only [↓ui_s, ↓uj_s, ↓ui_o, ↓ui_k, ↓uj_o, ↓uj_k, ↓ui_j, ↓uj_i, ui_s, uj_s, ui_o, ui_k, uj_o, uj_k, ui_j, uj_i]; rw [X 0 10 (by omega) (by omega) (by omega), zf 50 41 (by omega) (by omega) (by omega) (by omega) (by omega) (by omega) (by omega) (by omega) (by omega) (by omega)]; exact R.rn), (by simp (disch := first | decide | omega) only [↓ui_s, ↓uj_s, ↓ui_o, ↓ui_k, ↓uj_o, ↓uj_k, ↓ui_j, ↓uj_i, ui_s, uj_s, ui_o, ui_k, uj_o, uj_k, ui_j, uj_i]; rw [X 0 11 (by omega) (by omega) (by omega), zf 50 42 (by omega) (by omega) (by omega) (by omega) (by omega) (by omega) (by omega) (by omega) (by omega) (by omega)]; exact R.st), (by simp (disch := first | decide | omega) only [↓ui_s, ↓uj_s, ↓ui_o, ↓ui_k, ↓uj_o, ↓uj_k, ↓ui_j, ↓uj_i, ui_s, uj_s, ui_o, ui_k, uj_o, uj_k, ui_j, uj_i]; rw [X 0 12 (by omega) (by omega) (by omega), zf 50 43 (by omega) (by omega) (by omega) (by omega) (by omega) (by omega) (by omega) (by omega) (by omega) (by omega)]; exact R.bt), (by simp (disch := first | decide | omega) only [↓ui_s, ↓uj_s, ↓ui_o, ↓ui_k, ↓uj_o, ↓uj_k, ↓ui_j, ↓uj_i, ui_s, uj_s, ui_o, ui_k, uj_o, uj_k, ui_j, uj_i]; rw [X 0 13 (by omega) (by omega) (by omega), zf 50 54 (by omega) (by omega) (by omega) (by omega) (by omega) (by omega) (by omega) (by omega) (by omega) (by omega)]; exact R.en), (by simp (disch := first | decide | omega) only [↓ui_s, ↓uj_s, ↓ui_o, ↓ui_k, ↓uj_o, ↓uj_k, ↓ui_j, ↓uj_i, ui_s, uj_s, ui_o, ui_k, uj_o, uj_k, ui_j, uj_i]; rw [X 0 14 (by omega) (by omega) (by omega), zf 50 52 (by omega) (by omega) (by omega) (by omega) (by omega) (by omega) (by omega) (by omega) (by omega) (by omega)]; exact R.he), (by simp (disch := first | decide | omega) only [↓ui_s, ↓uj_s, ↓ui_o, ↓ui_k, ↓uj_o, ↓uj_k, ↓ui_j, ↓uj_i, ui_s, uj_s, ui_o, ui_k, uj_o, uj_k, ui_j, uj_i]; rw [zM 53 (by omega)]; rfl), (by simp (disch := first | decide | omega) only [↓ui_s, ↓uj_s, ↓ui_o, ↓ui_k, ↓uj_o, ↓uj_k, ↓ui_j, ↓uj_i, ui_s, uj_s, ui_o, ui_k, uj_o, uj_k, ui_j, uj_i]; rw [hC.2.1 2 1 (by omega), b21, zM 55 (by omega)]; rfl), (by simp (disch := first | decide | omega) only [↓ui_s, ↓uj_s, ↓ui_o, ↓ui_k, ↓uj_o, ↓uj_k, ↓ui_j, ↓uj_i, ui_s, uj_s, ui_o, ui_k, uj_o, uj_k, ui_j, uj_i]; rw [hC.2.1 2 2 (by omega), b22, zM 46 (by omega)]; rfl), fun i h0 => by simp (disch := first | decide | omega) only [↓ui_s, ↓uj_s, ↓ui_o, ↓ui_k, ↓uj_o, ↓uj_k, ↓ui_j, ↓uj_i, ui_s, uj_s, ui_o, ui_k, uj_o, uj_k, ui_j, uj_i]; rw [hC.2.1 3 i (by omega), b3 i h0, z59 i h0], fun s h0 => by simp (disch := first | decide | omega) only [↓ui_s, ↓uj_s, ↓ui_o, ↓ui_k, ↓uj_o, ↓uj_k, ↓ui_j, ↓uj_i, ui_s, uj_s, ui_o, ui_k, uj_o, uj_k, ui_j, uj_i]; rw [X _ 4 (by omega) (by omega) (by omega), zf 61 s (by omega) (by omega) (by omega) (by omega) (by omega) (by omega) (by omega) (by omega) (by omega) (by omega)]; exact R.pt s h0, fun s h0 => by obtain ⟨p, _, _, z⟩ := SD s h0; simp (disch := first | decide | omega) only [↓ui_s, ↓uj_s, ↓ui_o, ↓ui_k, ↓uj_o, ↓uj_k, ↓ui_j, ↓uj_i, ui_s, uj_s, ui_o, ui_k, uj_o, uj_k, ui_j, uj_i]; rw [z67 s h0]; exact z.2.2.2.2.1, fun s h0 => by obtain ⟨p, _, _, z⟩ := SD s h0; simp (disch := first | decide | omega) only [↓ui_s, ↓uj_s, ↓ui_o, ↓ui_k, ↓uj_o, ↓uj_k, ↓ui_j, ↓uj_i, ui_s, uj_s, ui_o, ui_k, uj_o, uj_k, ui_j, uj_i]; rw [z69 s h0]; exact z.2.2.2.2.2.2.1, fun s h0 => by obtain ⟨p, _, _, z⟩ := SD s h0; simp (disch := first | decide | omega) only [↓ui_s, ↓uj_s, ↓ui_o, ↓ui_k, ↓uj_o, ↓uj_k, ↓ui_j, ↓uj_i, ui_s, uj_s, ui_o, ui_k, uj_o, uj_k, ui_j, uj_i]; rw [z70 s h0]; exact z.2.2.2.2.2.2.2.1, fun s h0 => by obtain ⟨p, _, _, z⟩ := SD s h0; simp (disch := first | decide | omega) only [↓ui_s, ↓uj_s, ↓ui_o, ↓ui_k, ↓uj_o, ↓uj_k, ↓ui_j, ↓uj_i, ui_s, uj_s, ui_o, ui_k, uj_o, uj_k, ui_j, uj_i]; rw [z71 s h0]; exact z.2.2.2.2.2.2.2.2.1, fun s h0 => by obtain ⟨p, _, _, z⟩ := SD s h0; simp (disch := first | decide | omega) only [↓ui_s, ↓uj_s, ↓ui_o, ↓ui_k, ↓uj_o, ↓uj_k, ↓ui_j, ↓uj_i, ui_s, uj_s, ui_o, ui_k, uj_o, uj_k, ui_j, uj_i]; rw [z66 s h0]; exact z.2.2.2.1, fun s h0 => by obtain ⟨p, _, _, z⟩ := SD s h0; simp (disch := first | decide | omega) only [↓ui_s, ↓uj_s, ↓ui_o, ↓ui_k, ↓uj_o, ↓uj_k, ↓ui_j, ↓uj_i, ui_s, uj_s, ui_o, ui_k, uj_o, uj_k, ui_j, uj_i]; rw [z64 s h0]; exact z.2.1, fun s k h0 h1 => by obtain ⟨p, hp, e, z⟩ := SD s h0; simp (disch := first | decide | omega) only [↓ui_s, ↓uj_s, ↓ui_o, ↓ui_k, ↓uj_o, ↓uj_k, ↓ui_j, ↓uj_i, ui_s, uj_s, ui_o, ui_k, uj_o, uj_k, ui_j, uj_i]; rw [z60 s k h0 h1, mC_52 hdl hp e]; exact (z.1 k h1).1, fun s i h0 h1 => by simp (disch := first | decide | omega) only [↓ui_s, ↓uj_s, ↓ui_o, ↓ui_k, ↓uj_o, ↓uj_k, ↓ui_j, ↓uj_i, ui_s, uj_s, ui_o, ui_k, uj_o, uj_k, ui_j, uj_i]; rw [X _ i (by omega) (by omega) (by omega), zf 62 _ (by omega) (by omega) (by omega) (by omega) (by omega) (by omega) (by omega) (by omega) (by omega) (by omega)]; exact R.so s i h0 h1, fun s i h0 h1 => by simp (disch := first | decide | omega) only [↓ui_s, ↓uj_s, ↓ui_o, ↓ui_k, ↓uj_o, ↓uj_k, ↓ui_j, ↓uj_i, ui_s, uj_s, ui_o, ui_k, uj_o, uj_k, ui_j, uj_i]; rw [X _ i (by omega) (by omega) (by omega), zf 63 _ (by omega) (by omega) (by omega) (by omega) (by omega) (by omega) (by omega) (by omega) (by omega) (by omega)]; exact R.lo s i h0 h1, fun s i h0 h1 => by simp (disch := first | decide | omega) only [↓ui_s, ↓uj_s, ↓ui_o, ↓ui_k, ↓uj_o, ↓uj_k, ↓ui_j, ↓uj_i, ui_s, uj_s, ui_o, ui_k, uj_o, uj_k, ui_j, uj_i]; rw [X _ i (by omega) (by omega) (by omega), zf 65 _ (by omega) (by omega) (by omega) (by omega) (by omega) (by omega) (by omega) (by omega) (by omega) (by omega)]; exact R.rv s i h0 h1, fun i f h0 h1 h2 => by simp (disch := first | decide | omega) only [↓ui_s, ↓uj_s, ↓ui_o, ↓ui_k, ↓uj_o, ↓uj_k, ↓ui_j, ↓uj_i, ui_s, uj_s, ui_o, ui_k, uj_o, uj_k, ui_j, uj_i]; rw [X _ f (by omega) (by omega) (by omega), zf 72 _ (by omega) (by omega) (by omega) (by omega) (by omega) (by omega) (by omega) (by omega) (by omega) (by omega)]; exact R.wi i f h0 h1 h2, fun i h0 => by simp (disch := first | decide | omega) only [↓ui_s, ↓uj_s, ↓ui_o, ↓ui_k, ↓uj_o, ↓uj_k, ↓ui_j, ↓uj_i, ui_s, uj_s, ui_o, ui_k, uj_o, uj_k, ui_j, uj_i]; rw [Y _ 7 (by omega), zj]; exact R.wf i h0, (fun s k h0 h1 => by
      obtain ⟨p, hp, e, z⟩ := SD s h0
      simp (disch := first | decide | omega) only [↓ui_s, ↓uj_s, ↓ui_o, ↓ui_k, ↓uj_o, ↓uj_k, ↓ui_j, ↓uj_i, ui_s, uj_s, ui_o, ui_k, uj_o, uj_k, ui_j, uj_i]
      rw [z64 s h0, z60 s k h0 h1, mC_52 hdl hp e]
      exact (z.1 k h1).2), (fun s h0 => by
      obtain ⟨p, hp, e, z⟩ := SD s h0
      simp (disch := first | decide | omega) only [↓ui_s, ↓uj_s, ↓ui_o, ↓ui_k, ↓uj_o, ↓uj_k, ↓ui_j, ↓uj_i, ui_s, uj_s, ui_o, ui_k, uj_o, uj_k, ui_j, uj_i]
      rw [z.2.2.1, ← cW_sum (sd := sd) (a := 13 * p) 13 (by omega)]
      exact sm_cg (fun k hk => by rw [z60 s k h0 hk, mC_52 hdl hp e])), fun s i h0 h1 => by rw [z64 s h0] at h1; exact absurd (show i < 0 from h1) (Nat.not_lt_zero _), (fun s h0 => by
      obtain ⟨p, hp, e, z⟩ := SD s h0
      simp (disch := first | decide | omega) only [↓ui_s, ↓uj_s, ↓ui_o, ↓ui_k, ↓uj_o, ↓uj_k, ↓ui_j, ↓uj_i, ui_s, uj_s, ui_o, ui_k, uj_o, uj_k, ui_j, uj_i]
      rw [z.2.2.2.2.2.2.2.2.2]
      exact (kb_0 34 (fun b _ => by unfold tkM; rw [z66 s h0]; rfl)).symm), fun s h0 => by rw [z66 s h0]; decide, fun s i h0 h1 => by rw [z66 s h0, show (0 : Int32).toNatClampNeg = 0 from by decide] at h1; exact absurd h1 (by omega), (by rw [zf 50 41 (by omega) (by omega) (by omega) (by omega) (by omega) (by omega) (by omega) (by omega) (by omega) (by omega)]; exact R.rd), fun s h0 => Or.inl (z67 s h0), fun _ => ⟨sd, z59⟩⟩
/-! the first draw of a hand -/
set_option maxRecDepth 8000
theorem rp_first {x m : zM} (R : RCl x m) {t k : Nat} (ht : t < 4) (hk : k < 34) (hbr : x.1 0 17 = 0) (h56 : m.1 50 56 = 1) (hus : ∀ s, s < 4 → m.1 64 s = 0) (how : ∀ s, s < 4 → x.1 (18 + 8 * s) 6 = 0) (ho1 : m.1 50 59 = 0) (his : m.1 50 55 = 1) (hs1 : ∀ s, s < 4 → m.1 71 s = 0) (hw0 : m.1 50 53 = 0) (h68 : ∀ s, s < 4 → m.1 68 s = 0) (h66 : ∀ s, s < 4 → m.1 66 s = 0) (h46 : m.1 50 46 = nI 52) (h48 : m.1 50 48 = nI 0) (h40 : m.1 50 40 = nI t) (htc : TC x m (fun _ => 0)) (hfo : x.1 2 3 = m.1 50 47) (hw : m.1 59 52 = nI k) (hh : ¬ m.1 60 (34 * t + k) = -1) : RPh (dT0 x t 52 k) (dM0 m t 52 k) 1 t k := by
  have e5 := R.be t ht
  have hne : ¬ k = 34 := by omega
  have hnI1 : (nI (52 + 1)).toInt = 53 := by decide
  have h48I : (nI 0).toInt = 0 := by decide
  unfold dT0 dM0 pS z_giv
  rw [e5]
  cases hb : decide (m.1 67 t = 0) with
  | true =>
    rw [cond_true, cond_true]
    exact ⟨(by simp (disch := first | decide | omega) only [↓ui_s, ↓uj_s, ↓ui_o, ↓ui_k, ↓uj_o, ↓uj_k, ↓ui_j, ↓uj_i, ui_s, uj_s, ui_o, ui_k, uj_o, uj_k, ui_j, uj_i]; exact hfo), (by simp (disch := first | decide | omega) only [↓ui_s, ↓uj_s, ↓ui_o, ↓ui_k, ↓uj_o, ↓uj_k, ↓ui_j, ↓uj_i, ui_s, uj_s, ui_o, ui_k, uj_o, uj_k, ui_j, uj_i]; rfl), (by simp (disch := first | decide | omega) only [↓ui_s, ↓uj_s, ↓ui_o, ↓ui_k, ↓uj_o, ↓uj_k, ↓ui_j, ↓uj_i, ui_s, uj_s, ui_o, ui_k, uj_o, uj_k, ui_j, uj_i]; rfl), (by simp (disch := first | decide | omega) only [↓ui_s, ↓uj_s, ↓ui_o, ↓ui_k, ↓uj_o, ↓uj_k, ↓ui_j, ↓uj_i, ui_s, uj_s, ui_o, ui_k, uj_o, uj_k, ui_j, uj_i]), (by simp (disch := first | decide | omega) only [↓ui_s, ↓uj_s, ↓ui_o, ↓ui_k, ↓uj_o, ↓uj_k, ↓ui_j, ↓uj_i, ui_s, uj_s, ui_o, ui_k, uj_o, uj_k, ui_j, uj_i]), ht, Or.inl rfl, (by simp (disch := first | decide | omega) only [↓ui_s, ↓uj_s, ↓ui_o, ↓ui_k, ↓uj_o, ↓uj_k, ↓ui_j, ↓uj_i, ui_s, uj_s, ui_o, ui_k, uj_o, uj_k, ui_j, uj_i]; rw [if_neg hne]), (by simp (disch := first | decide | omega) only [↓ui_s, ↓uj_s, ↓ui_o, ↓ui_k, ↓uj_o, ↓uj_k, ↓ui_j, ↓uj_i, ui_s, uj_s, ui_o, ui_k, uj_o, uj_k, ui_j, uj_i]; rw [if_neg hne]), Or.inl hk, fun _ => by simp (disch := first | decide | omega) only [↓ui_s, ↓uj_s, ↓ui_o, ↓ui_k, ↓uj_o, ↓uj_k, ↓ui_j, ↓uj_i, ui_s, uj_s, ui_o, ui_k, uj_o, uj_k, ui_j, uj_i]; rw [if_neg hne], (by simp (disch := first | decide | omega) only [↓ui_s, ↓uj_s, ↓ui_o, ↓ui_k, ↓uj_o, ↓uj_k, ↓ui_j, ↓uj_i, ui_s, uj_s, ui_o, ui_k, uj_o, uj_k, ui_j, uj_i]; rw [hbr, h56]; rfl), fun _ s h0 => by simp (disch := first | decide | omega) only [↓ui_s, ↓uj_s, ↓ui_o, ↓ui_k, ↓uj_o, ↓uj_k, ↓ui_j, ↓uj_i, ui_s, uj_s, ui_o, ui_k, uj_o, uj_k, ui_j, uj_i]; exact hus s h0, fun _ _ => by simp (disch := first | decide | omega) only [↓ui_s, ↓uj_s, ↓ui_o, ↓ui_k, ↓uj_o, ↓uj_k, ↓ui_j, ↓uj_i, ui_s, uj_s, ui_o, ui_k, uj_o, uj_k, ui_j, uj_i], fun _ => by unfold barM; simp (disch := first | decide | omega) only [↓ui_s, ↓uj_s, ↓ui_o, ↓ui_k, ↓uj_o, ↓uj_k, ↓ui_j, ↓uj_i, ui_s, uj_s, ui_o, ui_k, uj_o, uj_k, ui_j, uj_i]; rfl, fun _ e => absurd e (by omega), fun _ _ => by simp (disch := first | decide | omega) only [↓ui_s, ↓uj_s, ↓ui_o, ↓ui_k, ↓uj_o, ↓uj_k, ↓ui_j, ↓uj_i, ui_s, uj_s, ui_o, ui_k, uj_o, uj_k, ui_j, uj_i]; exact v1_ne hh, fun z => absurd z (by decide), fun s h0 => by simp (disch := first | decide | omega) only [↓ui_s, ↓uj_s, ↓ui_o, ↓ui_k, ↓uj_o, ↓uj_k, ↓ui_j, ↓uj_i, ui_s, uj_s, ui_o, ui_k, uj_o, uj_k, ui_j, uj_i]; rw [how s h0, ho1]; split <;> rfl, fun _ => by simp (disch := first | decide | omega) only [↓ui_s, ↓uj_s, ↓ui_o, ↓ui_k, ↓uj_o, ↓uj_k, ↓ui_j, ↓uj_i, ui_s, uj_s, ui_o, ui_k, uj_o, uj_k, ui_j, uj_i]; exact ho1, (by simp (disch := first | decide | omega) only [↓ui_s, ↓uj_s, ↓ui_o, ↓ui_k, ↓uj_o, ↓uj_k, ↓ui_j, ↓uj_i, ui_s, uj_s, ui_o, ui_k, uj_o, uj_k, ui_j, uj_i]; exact his), (by simp (disch := first | decide | omega) only [↓ui_s, ↓uj_s, ↓ui_o, ↓ui_k, ↓uj_o, ↓uj_k, ↓ui_j, ↓uj_i, ui_s, uj_s, ui_o, ui_k, uj_o, uj_k, ui_j, uj_i]; exact hs1 t ht), fun _ s h0 => by simp (disch := first | decide | omega) only [↓ui_s, ↓uj_s, ↓ui_o, ↓ui_k, ↓uj_o, ↓uj_k, ↓ui_j, ↓uj_i, ui_s, uj_s, ui_o, ui_k, uj_o, uj_k, ui_j, uj_i]; exact hs1 s h0, (by simp (disch := first | decide | omega) only [↓ui_s, ↓uj_s, ↓ui_o, ↓ui_k, ↓uj_o, ↓uj_k, ↓ui_j, ↓uj_i, ui_s, uj_s, ui_o, ui_k, uj_o, uj_k, ui_j, uj_i]; exact hw0), (fun s h0 => by
        by_cases e : s = t
        · subst e
          refine ⟨1, ?_, ?_, fun _ => Nat.le_refl _⟩
          · simp (disch := first | decide | omega) only [↓ui_s, ↓uj_s, ↓ui_o, ↓ui_k, ↓uj_o, ↓uj_k, ↓ui_j, ↓uj_i, ui_s, uj_s, ui_o, ui_k, uj_o, uj_k, ui_j, uj_i]; rw [h68 s h0]; rfl
          · simp (disch := first | decide | omega) only [↓ui_s, ↓uj_s, ↓ui_o, ↓ui_k, ↓uj_o, ↓uj_k, ↓ui_j, ↓uj_i, ui_s, uj_s, ui_o, ui_k, uj_o, uj_k, ui_j, uj_i]; rw [hnI1, h48, h48I]; decide
        · refine ⟨0, ?_, ?_, ?_⟩
          · simp (disch := first | decide | omega) only [↓ui_s, ↓uj_s, ↓ui_o, ↓ui_k, ↓uj_o, ↓uj_k, ↓ui_j, ↓uj_i, ui_s, uj_s, ui_o, ui_k, uj_o, uj_k, ui_j, uj_i]; rw [h68 s h0]; rfl
          · simp (disch := first | decide | omega) only [↓ui_s, ↓uj_s, ↓ui_o, ↓ui_k, ↓uj_o, ↓uj_k, ↓ui_j, ↓uj_i, ui_s, uj_s, ui_o, ui_k, uj_o, uj_k, ui_j, uj_i]; rw [hnI1, h48, h48I]; decide
          · simp (disch := first | decide | omega) only [↓ui_s, ↓uj_s, ↓ui_o, ↓ui_k, ↓uj_o, ↓uj_k, ↓ui_j, ↓uj_i, ui_s, uj_s, ui_o, ui_k, uj_o, uj_k, ui_j, uj_i]; intro z; exact absurd ((nI_eq (a := t) (b := s) (by omega) (by omega)).mp (h40.symm.trans z)).symm e), (fun z s h0 => by
        by_cases e : s = t
        · subst e
          rw [if_pos ⟨rfl, rfl⟩]
          simp (disch := first | decide | omega) only [↓ui_s, ↓uj_s, ↓ui_o, ↓ui_k, ↓uj_o, ↓uj_k, ↓ui_j, ↓uj_i, ui_s, uj_s, ui_o, ui_k, uj_o, uj_k, ui_j, uj_i]
          rw [h68 s h0, h66 s h0]
        · rw [if_neg (fun z => e z.2)]
          simp (disch := first | decide | omega) only [↓ui_s, ↓uj_s, ↓ui_o, ↓ui_k, ↓uj_o, ↓uj_k, ↓ui_j, ↓uj_i, ui_s, uj_s, ui_o, ui_k, uj_o, uj_k, ui_j, uj_i]
          rw [h68 s h0, h66 s h0]), fun z => absurd (show m.1 50 56 = 0 from by simp (disch := first | decide | omega) only [↓ui_s, ↓uj_s, ↓ui_o, ↓ui_k, ↓uj_o, ↓uj_k, ↓ui_j, ↓uj_i, ui_s, uj_s, ui_o, ui_k, uj_o, uj_k, ui_j, uj_i] at z; exact z) (by rw [h56]; decide), (htc.elim fun a z => by
        refine ⟨fun s k2 => if s = t ∧ k2 = k then a s k2 + 1 else a s k2, fun s k2 h0 h2 => ?_, fun k2 h2 => ?_⟩
        · by_cases e : s = t
          · subst e
            by_cases e2 : k2 = k
            · subst e2; simp (disch := first | decide | omega) only [↓ui_s, ↓uj_s, ↓ui_o, ↓ui_k, ↓uj_o, ↓uj_k, ↓ui_j, ↓uj_i, ui_s, uj_s, ui_o, ui_k, uj_o, uj_k, ui_j, uj_i]; rw [z.1 s k2 h0 h2]; simp only [and_self, if_true]; exact nI_s1 _
            · simp (disch := first | decide | omega) only [↓ui_s, ↓uj_s, ↓ui_o, ↓ui_k, ↓uj_o, ↓uj_k, ↓ui_j, ↓uj_i, ui_s, uj_s, ui_o, ui_k, uj_o, uj_k, ui_j, uj_i]; rw [if_neg (by omega)]; exact z.1 s k2 h0 h2
          · simp (disch := first | decide | omega) only [↓ui_s, ↓uj_s, ↓ui_o, ↓ui_k, ↓uj_o, ↓uj_k, ↓ui_j, ↓uj_i, ui_s, uj_s, ui_o, ui_k, uj_o, uj_k, ui_j, uj_i]; rw [if_neg (by omega)]; exact z.1 s k2 h0 h2
        · have y := z.2 k2 h2
          rw [if_neg (by omega), fW_cg (m := m) (fun i => by simp (disch := first | decide | omega) only [↓ui_s, ↓uj_s, ↓ui_o, ↓ui_k, ↓uj_o, ↓uj_k, ↓ui_j, ↓uj_i, ui_s, uj_s, ui_o, ui_k, uj_o, uj_k, ui_j, uj_i])]
          simp (disch := first | decide | omega) only [↓ui_s, ↓uj_s, ↓ui_o, ↓ui_k, ↓uj_o, ↓uj_k, ↓ui_j, ↓uj_i, ui_s, uj_s, ui_o, ui_k, uj_o, uj_k, ui_j, uj_i]
          rw [h46, nI_clamp (by omega)] at y
          rw [nI_clamp (by omega), cW_up (f := fW m) (a := 0) (v := k) hk h2 (by rw [Nat.zero_add]; exact hw)]
          have w := sum4 (a := fun s => a s k2) (b := fun s => if s = t ∧ k2 = k then a s k2 + 1 else a s k2) ht (fun s _ e => by rw [if_neg (by omega)])
          by_cases e : k2 = k
          · subst e
            simp only [and_true, if_true] at w ⊢
            omega
          · simp only [e, and_false, if_false] at w ⊢
            omega)⟩
  | false =>
    rw [cond_false, cond_false]
    exact ⟨(by simp (disch := first | decide | omega) only [↓ui_s, ↓uj_s, ↓ui_o, ↓ui_k, ↓uj_o, ↓uj_k, ↓ui_j, ↓uj_i, ui_s, uj_s, ui_o, ui_k, uj_o, uj_k, ui_j, uj_i]; exact hfo), (by simp (disch := first | decide | omega) only [↓ui_s, ↓uj_s, ↓ui_o, ↓ui_k, ↓uj_o, ↓uj_k, ↓ui_j, ↓uj_i, ui_s, uj_s, ui_o, ui_k, uj_o, uj_k, ui_j, uj_i]; rfl), (by simp (disch := first | decide | omega) only [↓ui_s, ↓uj_s, ↓ui_o, ↓ui_k, ↓uj_o, ↓uj_k, ↓ui_j, ↓uj_i, ui_s, uj_s, ui_o, ui_k, uj_o, uj_k, ui_j, uj_i]; rfl), (by simp (disch := first | decide | omega) only [↓ui_s, ↓uj_s, ↓ui_o, ↓ui_k, ↓uj_o, ↓uj_k, ↓ui_j, ↓uj_i, ui_s, uj_s, ui_o, ui_k, uj_o, uj_k, ui_j, uj_i]), (by simp (disch := first | decide | omega) only [↓ui_s, ↓uj_s, ↓ui_o, ↓ui_k, ↓uj_o, ↓uj_k, ↓ui_j, ↓uj_i, ui_s, uj_s, ui_o, ui_k, uj_o, uj_k, ui_j, uj_i]), ht, Or.inl rfl, (by simp (disch := first | decide | omega) only [↓ui_s, ↓uj_s, ↓ui_o, ↓ui_k, ↓uj_o, ↓uj_k, ↓ui_j, ↓uj_i, ui_s, uj_s, ui_o, ui_k, uj_o, uj_k, ui_j, uj_i]; rw [if_neg hne]), (by simp (disch := first | decide | omega) only [↓ui_s, ↓uj_s, ↓ui_o, ↓ui_k, ↓uj_o, ↓uj_k, ↓ui_j, ↓uj_i, ui_s, uj_s, ui_o, ui_k, uj_o, uj_k, ui_j, uj_i]; rw [if_neg hne]), Or.inl hk, fun _ => by simp (disch := first | decide | omega) only [↓ui_s, ↓uj_s, ↓ui_o, ↓ui_k, ↓uj_o, ↓uj_k, ↓ui_j, ↓uj_i, ui_s, uj_s, ui_o, ui_k, uj_o, uj_k, ui_j, uj_i]; rw [if_neg hne], (by simp (disch := first | decide | omega) only [↓ui_s, ↓uj_s, ↓ui_o, ↓ui_k, ↓uj_o, ↓uj_k, ↓ui_j, ↓uj_i, ui_s, uj_s, ui_o, ui_k, uj_o, uj_k, ui_j, uj_i]; rw [hbr, h56]; rfl), fun _ s h0 => by simp (disch := first | decide | omega) only [↓ui_s, ↓uj_s, ↓ui_o, ↓ui_k, ↓uj_o, ↓uj_k, ↓ui_j, ↓uj_i, ui_s, uj_s, ui_o, ui_k, uj_o, uj_k, ui_j, uj_i]; exact hus s h0, fun _ _ => by simp (disch := first | decide | omega) only [↓ui_s, ↓uj_s, ↓ui_o, ↓ui_k, ↓uj_o, ↓uj_k, ↓ui_j, ↓uj_i, ui_s, uj_s, ui_o, ui_k, uj_o, uj_k, ui_j, uj_i], fun _ => by unfold barM; simp (disch := first | decide | omega) only [↓ui_s, ↓uj_s, ↓ui_o, ↓ui_k, ↓uj_o, ↓uj_k, ↓ui_j, ↓uj_i, ui_s, uj_s, ui_o, ui_k, uj_o, uj_k, ui_j, uj_i]; rfl, fun _ e => absurd e (by omega), fun _ _ => by simp (disch := first | decide | omega) only [↓ui_s, ↓uj_s, ↓ui_o, ↓ui_k, ↓uj_o, ↓uj_k, ↓ui_j, ↓uj_i, ui_s, uj_s, ui_o, ui_k, uj_o, uj_k, ui_j, uj_i]; exact v1_ne hh, fun z => absurd z (by decide), fun s h0 => by simp (disch := first | decide | omega) only [↓ui_s, ↓uj_s, ↓ui_o, ↓ui_k, ↓uj_o, ↓uj_k, ↓ui_j, ↓uj_i, ui_s, uj_s, ui_o, ui_k, uj_o, uj_k, ui_j, uj_i]; rw [how s h0, ho1]; split <;> rfl, fun _ => by simp (disch := first | decide | omega) only [↓ui_s, ↓uj_s, ↓ui_o, ↓ui_k, ↓uj_o, ↓uj_k, ↓ui_j, ↓uj_i, ui_s, uj_s, ui_o, ui_k, uj_o, uj_k, ui_j, uj_i]; exact ho1, (by simp (disch := first | decide | omega) only [↓ui_s, ↓uj_s, ↓ui_o, ↓ui_k, ↓uj_o, ↓uj_k, ↓ui_j, ↓uj_i, ui_s, uj_s, ui_o, ui_k, uj_o, uj_k, ui_j, uj_i]; exact his), (by simp (disch := first | decide | omega) only [↓ui_s, ↓uj_s, ↓ui_o, ↓ui_k, ↓uj_o, ↓uj_k, ↓ui_j, ↓uj_i, ui_s, uj_s, ui_o, ui_k, uj_o, uj_k, ui_j, uj_i]; exact hs1 t ht), fun _ s h0 => by simp (disch := first | decide | omega) only [↓ui_s, ↓uj_s, ↓ui_o, ↓ui_k, ↓uj_o, ↓uj_k, ↓ui_j, ↓uj_i, ui_s, uj_s, ui_o, ui_k, uj_o, uj_k, ui_j, uj_i]; exact hs1 s h0, (by simp (disch := first | decide | omega) only [↓ui_s, ↓uj_s, ↓ui_o, ↓ui_k, ↓uj_o, ↓uj_k, ↓ui_j, ↓uj_i, ui_s, uj_s, ui_o, ui_k, uj_o, uj_k, ui_j, uj_i]; exact hw0), (fun s h0 => by
        by_cases e : s = t
        · subst e
          refine ⟨1, ?_, ?_, fun _ => Nat.le_refl _⟩
          · simp (disch := first | decide | omega) only [↓ui_s, ↓uj_s, ↓ui_o, ↓ui_k, ↓uj_o, ↓uj_k, ↓ui_j, ↓uj_i, ui_s, uj_s, ui_o, ui_k, uj_o, uj_k, ui_j, uj_i]; rw [h68 s h0]; rfl
          · simp (disch := first | decide | omega) only [↓ui_s, ↓uj_s, ↓ui_o, ↓ui_k, ↓uj_o, ↓uj_k, ↓ui_j, ↓uj_i, ui_s, uj_s, ui_o, ui_k, uj_o, uj_k, ui_j, uj_i]; rw [hnI1, h48, h48I]; decide
        · refine ⟨0, ?_, ?_, ?_⟩
          · simp (disch := first | decide | omega) only [↓ui_s, ↓uj_s, ↓ui_o, ↓ui_k, ↓uj_o, ↓uj_k, ↓ui_j, ↓uj_i, ui_s, uj_s, ui_o, ui_k, uj_o, uj_k, ui_j, uj_i]; rw [h68 s h0]; rfl
          · simp (disch := first | decide | omega) only [↓ui_s, ↓uj_s, ↓ui_o, ↓ui_k, ↓uj_o, ↓uj_k, ↓ui_j, ↓uj_i, ui_s, uj_s, ui_o, ui_k, uj_o, uj_k, ui_j, uj_i]; rw [hnI1, h48, h48I]; decide
          · simp (disch := first | decide | omega) only [↓ui_s, ↓uj_s, ↓ui_o, ↓ui_k, ↓uj_o, ↓uj_k, ↓ui_j, ↓uj_i, ui_s, uj_s, ui_o, ui_k, uj_o, uj_k, ui_j, uj_i]; intro z; exact absurd ((nI_eq (a := t) (b := s) (by omega) (by omega)).mp (h40.symm.trans z)).symm e), (fun z s h0 => by
        by_cases e : s = t
        · subst e
          rw [if_pos ⟨rfl, rfl⟩]
          simp (disch := first | decide | omega) only [↓ui_s, ↓uj_s, ↓ui_o, ↓ui_k, ↓uj_o, ↓uj_k, ↓ui_j, ↓uj_i, ui_s, uj_s, ui_o, ui_k, uj_o, uj_k, ui_j, uj_i]
          rw [h68 s h0, h66 s h0]
        · rw [if_neg (fun z => e z.2)]
          simp (disch := first | decide | omega) only [↓ui_s, ↓uj_s, ↓ui_o, ↓ui_k, ↓uj_o, ↓uj_k, ↓ui_j, ↓uj_i, ui_s, uj_s, ui_o, ui_k, uj_o, uj_k, ui_j, uj_i]
          rw [h68 s h0, h66 s h0]), fun z => absurd (show m.1 50 56 = 0 from by simp (disch := first | decide | omega) only [↓ui_s, ↓uj_s, ↓ui_o, ↓ui_k, ↓uj_o, ↓uj_k, ↓ui_j, ↓uj_i, ui_s, uj_s, ui_o, ui_k, uj_o, uj_k, ui_j, uj_i] at z; exact z) (by rw [h56]; decide), (htc.elim fun a z => by
        refine ⟨fun s k2 => if s = t ∧ k2 = k then a s k2 + 1 else a s k2, fun s k2 h0 h2 => ?_, fun k2 h2 => ?_⟩
        · by_cases e : s = t
          · subst e
            by_cases e2 : k2 = k
            · subst e2; simp (disch := first | decide | omega) only [↓ui_s, ↓uj_s, ↓ui_o, ↓ui_k, ↓uj_o, ↓uj_k, ↓ui_j, ↓uj_i, ui_s, uj_s, ui_o, ui_k, uj_o, uj_k, ui_j, uj_i]; rw [z.1 s k2 h0 h2]; simp only [and_self, if_true]; exact nI_s1 _
            · simp (disch := first | decide | omega) only [↓ui_s, ↓uj_s, ↓ui_o, ↓ui_k, ↓uj_o, ↓uj_k, ↓ui_j, ↓uj_i, ui_s, uj_s, ui_o, ui_k, uj_o, uj_k, ui_j, uj_i]; rw [if_neg (by omega)]; exact z.1 s k2 h0 h2
          · simp (disch := first | decide | omega) only [↓ui_s, ↓uj_s, ↓ui_o, ↓ui_k, ↓uj_o, ↓uj_k, ↓ui_j, ↓uj_i, ui_s, uj_s, ui_o, ui_k, uj_o, uj_k, ui_j, uj_i]; rw [if_neg (by omega)]; exact z.1 s k2 h0 h2
        · have y := z.2 k2 h2
          rw [if_neg (by omega), fW_cg (m := m) (fun i => by simp (disch := first | decide | omega) only [↓ui_s, ↓uj_s, ↓ui_o, ↓ui_k, ↓uj_o, ↓uj_k, ↓ui_j, ↓uj_i, ui_s, uj_s, ui_o, ui_k, uj_o, uj_k, ui_j, uj_i])]
          simp (disch := first | decide | omega) only [↓ui_s, ↓uj_s, ↓ui_o, ↓ui_k, ↓uj_o, ↓uj_k, ↓ui_j, ↓uj_i, ui_s, uj_s, ui_o, ui_k, uj_o, uj_k, ui_j, uj_i]
          rw [h46, nI_clamp (by omega)] at y
          rw [nI_clamp (by omega), cW_up (f := fW m) (a := 0) (v := k) hk h2 (by rw [Nat.zero_add]; exact hw)]
          have w := sum4 (a := fun s => a s k2) (b := fun s => if s = t ∧ k2 = k then a s k2 + 1 else a s k2) ht (fun s _ e => by rw [if_neg (by omega)])
          by_cases e : k2 = k
          · subst e
            simp only [and_true, if_true] at w ⊢
            omega
          · simp only [e, and_false, if_false] at w ⊢
            omega)⟩
theorem cW_c9 {f g : Nat → Int32} {a k : Nat} : ∀ n, (∀ i, i < n → f (a + i) = g (a + i)) → cW f a k n = cW g a k n
  | 0, _ => rfl
  | n + 1, h => by
    show cW f a k n + (if f (a + n) = nI k then 1 else 0) = cW g a k n + (if g (a + n) = nI k then 1 else 0)
    rw [cW_c9 n (fun i hi => h i (by omega)), h n (by omega)]
theorem rg_dealt {x m x3 m3 : zM} {dl : Nat} {sd : Int64} (R : RCl x m) (D : DLR x m dl sd x3 m3) (hdl : dl < 4) (hd : m.1 50 40 = nI dl) : RG (dT0 (z_ui (z_ui x3 0 6 0) 0 17 0) dl 52 (wlN sd 52)) (dlM m3 dl sd) := by
  have R1 := rc_dealt R D hdl
  have w52 := wlN_e sd (k := 52) (by decide)
  rw [dlM_n]
  obtain ⟨μb, hC, b3, b21, b22, b23, bf, bj⟩ := D.hx
  obtain ⟨m1, m2, m3f, m4⟩ := D.hm
  have SD : ∀ s, s < 4 → ∃ p, p < 4 ∧ (dl + p) % 4 = s ∧ SDx (wlF sd) x3 s p := fun s hs => by
    obtain ⟨p, h1, h2⟩ := seat_p hdl hs
    exact ⟨p, h1, h2, h2 ▸ hC.1 p h1⟩
  have z46 : (dlN m3).1 50 46 = nI 52 := by unfold dlN; simp (disch := first | decide | omega) only [↓ui_s, ↓uj_s, ↓ui_o, ↓ui_k, ↓uj_o, ↓uj_k, ↓ui_j, ↓uj_i, ui_s, uj_s, ui_o, ui_k, uj_o, uj_k, ui_j, uj_i]; rfl
  have z48 : (dlN m3).1 50 48 = nI 0 := by unfold dlN; simp (disch := first | decide | omega) only [↓ui_s, ↓uj_s, ↓ui_o, ↓ui_k, ↓uj_o, ↓uj_k, ↓ui_j, ↓uj_i, ui_s, uj_s, ui_o, ui_k, uj_o, uj_k, ui_j, uj_i]; rfl
  have z47 : (dlN m3).1 50 47 = 0 := by unfold dlN; simp (disch := first | decide | omega) only [↓ui_s, ↓uj_s, ↓ui_o, ↓ui_k, ↓uj_o, ↓uj_k, ↓ui_j, ↓uj_i, ui_s, uj_s, ui_o, ui_k, uj_o, uj_k, ui_j, uj_i]
  have z53 : (dlN m3).1 50 53 = 0 := by unfold dlN; simp (disch := first | decide | omega) only [↓ui_s, ↓uj_s, ↓ui_o, ↓ui_k, ↓uj_o, ↓uj_k, ↓ui_j, ↓uj_i, ui_s, uj_s, ui_o, ui_k, uj_o, uj_k, ui_j, uj_i]
  have z55 : (dlN m3).1 50 55 = 1 := by unfold dlN; simp (disch := first | decide | omega) only [↓ui_s, ↓uj_s, ↓ui_o, ↓ui_k, ↓uj_o, ↓uj_k, ↓ui_j, ↓uj_i, ui_s, uj_s, ui_o, ui_k, uj_o, uj_k, ui_j, uj_i]
  have z56 : (dlN m3).1 50 56 = 1 := by unfold dlN; simp (disch := first | decide | omega) only [↓ui_s, ↓uj_s, ↓ui_o, ↓ui_k, ↓uj_o, ↓uj_k, ↓ui_j, ↓uj_i, ui_s, uj_s, ui_o, ui_k, uj_o, uj_k, ui_j, uj_i]
  have z59 : (dlN m3).1 50 59 = 0 := by unfold dlN; simp (disch := first | decide | omega) only [↓ui_s, ↓uj_s, ↓ui_o, ↓ui_k, ↓uj_o, ↓uj_k, ↓ui_j, ↓uj_i, ui_s, uj_s, ui_o, ui_k, uj_o, uj_k, ui_j, uj_i]
  have z40 : (dlN m3).1 50 40 = nI dl := by unfold dlN; simp (disch := first | decide | omega) only [↓ui_s, ↓uj_s, ↓ui_o, ↓ui_k, ↓uj_o, ↓uj_k, ↓ui_j, ↓uj_i, ui_s, uj_s, ui_o, ui_k, uj_o, uj_k, ui_j, uj_i]; rw [m3f 50 40 (by decide) (by decide), ui_k (by decide)]; exact hd
  have zW : ∀ i, i < 136 → (dlN m3).1 59 i = wlF sd i := fun i hi => by unfold dlN; simp (disch := first | decide | omega) only [↓ui_s, ↓uj_s, ↓ui_o, ↓ui_k, ↓uj_o, ↓uj_k, ↓ui_j, ↓uj_i, ui_s, uj_s, ui_o, ui_k, uj_o, uj_k, ui_j, uj_i]; exact m1 i hi
  have z64 : ∀ s, s < 4 → (dlN m3).1 64 s = 0 := fun s hs => by
    unfold dlN
    obtain rfl | rfl | rfl | rfl : s = 0 ∨ s = 1 ∨ s = 2 ∨ s = 3 := by omega
    all_goals (simp (disch := first | decide | omega) only [↓ui_s, ↓uj_s, ↓ui_o, ↓ui_k, ↓uj_o, ↓uj_k, ↓ui_j, ↓uj_i, ui_s, uj_s, ui_o, ui_k, uj_o, uj_k, ui_j, uj_i])
  have z66 : ∀ s, s < 4 → (dlN m3).1 66 s = 0 := fun s hs => by
    unfold dlN
    obtain rfl | rfl | rfl | rfl : s = 0 ∨ s = 1 ∨ s = 2 ∨ s = 3 := by omega
    all_goals (simp (disch := first | decide | omega) only [↓ui_s, ↓uj_s, ↓ui_o, ↓ui_k, ↓uj_o, ↓uj_k, ↓ui_j, ↓uj_i, ui_s, uj_s, ui_o, ui_k, uj_o, uj_k, ui_j, uj_i])
  have z68 : ∀ s, s < 4 → (dlN m3).1 68 s = 0 := fun s hs => by
    unfold dlN
    obtain rfl | rfl | rfl | rfl : s = 0 ∨ s = 1 ∨ s = 2 ∨ s = 3 := by omega
    all_goals (simp (disch := first | decide | omega) only [↓ui_s, ↓uj_s, ↓ui_o, ↓ui_k, ↓uj_o, ↓uj_k, ↓ui_j, ↓uj_i, ui_s, uj_s, ui_o, ui_k, uj_o, uj_k, ui_j, uj_i])
  have z71 : ∀ s, s < 4 → (dlN m3).1 71 s = 0 := fun s hs => by
    unfold dlN
    obtain rfl | rfl | rfl | rfl : s = 0 ∨ s = 1 ∨ s = 2 ∨ s = 3 := by omega
    all_goals (simp (disch := first | decide | omega) only [↓ui_s, ↓uj_s, ↓ui_o, ↓ui_k, ↓uj_o, ↓uj_k, ↓ui_j, ↓uj_i, ui_s, uj_s, ui_o, ui_k, uj_o, uj_k, ui_j, uj_i])
  have zH : ¬ (dlN m3).1 60 (34 * dl + wlN sd 52) = -1 := by
    unfold dlN
    simp (disch := first | decide | omega) only [↓ui_s, ↓uj_s, ↓ui_o, ↓ui_k, ↓uj_o, ↓uj_k, ↓ui_j, ↓uj_i, ui_s, uj_s, ui_o, ui_k, uj_o, uj_k, ui_j, uj_i]
    rw [m2 dl (wlN sd 52) hdl w52.2]
    have := mC_le (dl := dl) (s := dl) (k := wlN sd 52) (f := wlF sd) 52
    exact of_decide_eq_false (kn_m1 (by omega))
  have hT : TC (z_ui (z_ui x3 0 6 0) 0 17 0) (dlN m3) (fun _ => 0) := by
    refine ⟨fun s k => cW (wlF sd) (13 * ((s + 4 - dl) % 4)) k 13, fun s k hs hk => ?_, fun k hk => ?_⟩
    · simp (disch := first | decide | omega) only [↓ui_s, ↓uj_s, ↓ui_o, ↓ui_k, ↓uj_o, ↓uj_k, ↓ui_j, ↓uj_i, ui_s, uj_s, ui_o, ui_k, uj_o, uj_k, ui_j, uj_i]
      have hp : (s + 4 - dl) % 4 < 4 := Nat.mod_lt _ (by decide)
      have z := hC.1 ((s + 4 - dl) % 4) hp
      rw [show (dl + (s + 4 - dl) % 4) % 4 = s from by omega] at z
      exact (z.1 k hk).2
    · rw [z46, z48, nI_clamp (by omega), nI_clamp (by omega), show cW (fW (dlN m3)) 0 k 52 = cW (wlF sd) 0 k 52 from cW_c9 52 (fun i hi => by rw [Nat.zero_add]; exact zW i (by omega)), cW_52]
      obtain rfl | rfl | rfl | rfl : dl = 0 ∨ dl = 1 ∨ dl = 2 ∨ dl = 3 := by omega
      all_goals (simp only [Nat.reduceAdd, Nat.reduceSub, Nat.reduceMod, Nat.reduceMul]; omega)
  refine ⟨rc_draw0 R1 hdl w52.2 z46, Or.inr ⟨1, dl, wlN sd 52, rp_first R1 hdl w52.2 ui_s z56 z64 (fun s hs => ?_) z59 z55 z71 z53 z68 z66 z46 z48 z40 hT ?_ ((zW 52 (by decide)).trans w52.1) zH⟩⟩
  · obtain ⟨p, _, _, z⟩ := SD s hs
    simp (disch := first | decide | omega) only [↓ui_s, ↓uj_s, ↓ui_o, ↓ui_k, ↓uj_o, ↓uj_k, ↓ui_j, ↓uj_i, ui_s, uj_s, ui_o, ui_k, uj_o, uj_k, ui_j, uj_i]
    exact z.2.2.2.2.2.1
  · rw [z47]; simp (disch := first | decide | omega) only [↓ui_s, ↓uj_s, ↓ui_o, ↓ui_k, ↓uj_o, ↓uj_k, ↓ui_j, ↓uj_i, ui_s, uj_s, ui_o, ui_k, uj_o, uj_k, ui_j, uj_i]; rw [hC.2.1 2 3 (by omega)]; exact b23
/-! each kind lies four times in the wall -/
set_option maxRecDepth 8000
noncomputable def cI (f : Nat → Int32) (k i : Nat) : Nat := if f i = nI k then 1 else 0
theorem cW_sn {f : Nat → Int32} {k : Nat} : ∀ n, cW f 0 k n = sn (cI f k) n
  | 0 => rfl
  | n + 1 => by
    show cW f 0 k n + (if f (0 + n) = nI k then 1 else 0) = sn (cI f k) n + cI f k n
    rw [cW_sn n, Nat.zero_add]; rfl
theorem sn_congr9 {g h : Nat → Nat} : ∀ n, (∀ i, i < n → g i = h i) → sn g n = sn h n
  | 0, _ => rfl
  | n + 1, e => by
    show sn g n + g n = sn h n + h n
    rw [sn_congr9 n (fun i hi => e i (by omega)), e n (by omega)]
theorem sn_one {g h : Nat → Nat} {a : Nat} : ∀ n, a < n → (∀ i, i < n → i ≠ a → g i = h i) → sn g n + h a = sn h n + g a
  | 0, ha, _ => absurd ha (Nat.not_lt_zero _)
  | n + 1, ha, e => by
    show sn g n + g n + h a = sn h n + h n + g a
    by_cases q : a = n
    · subst q
      have : sn g a = sn h a := sn_congr9 a (fun i hi => e i (by omega) (by omega))
      omega
    · have := sn_one n (by omega) (fun i hi => e i (by omega))
      have := e n (by omega) (fun z => q z.symm)
      omega
theorem sn_tw9 {g h : Nat → Nat} {a b : Nat} (hab : a ≠ b) : ∀ n, a < n → b < n → (∀ i, i < n → i ≠ a → i ≠ b → g i = h i) → sn g n + h a + h b = sn h n + g a + g b
  | 0, ha, _, _ => absurd ha (Nat.not_lt_zero _)
  | n + 1, ha, hb, e => by
    show sn g n + g n + h a + h b = sn h n + h n + g a + g b
    by_cases q : a = n
    · subst q
      have := sn_one (g := g) (h := h) (a := b) a (by omega) (fun i hi hn => e i (by omega) (by omega) hn)
      omega
    · by_cases q2 : b = n
      · subst q2
        have := sn_one (g := g) (h := h) (a := a) b (by omega) (fun i hi hn => e i (by omega) hn (by omega))
        omega
      · have := sn_tw9 hab n (by omega) (by omega) (fun i hi => e i (by omega))
        have := e n (by omega) (fun z => q z.symm) (fun z => q2 z.symm)
        omega
theorem cW_sw {f : Nat → Int32} {a b k : Nat} (ha : a < 136) (hb : b < 136) : cW (swW f a b) 0 k 136 = cW f 0 k 136 := by
  rw [cW_sn, cW_sn]
  by_cases e : a = b
  · subst e
    exact sn_congr9 136 (fun i _ => by
      unfold cI swW
      by_cases q : i = a
      · rw [if_pos q, q]
      · rw [if_neg q, if_neg q])
  · have z := sn_tw9 (g := cI (swW f a b) k) (h := cI f k) e 136 ha hb (fun i _ h1 h2 => by unfold cI swW; rw [if_neg h2, if_neg h1])
    have e1 : cI (swW f a b) k a = cI f k b := by unfold cI swW; rw [if_neg e, if_pos rfl]
    have e2 : cI (swW f a b) k b = cI f k a := by unfold cI swW; rw [if_pos rfl]
    omega
theorem cW_wsh {k : Nat} : ∀ i, i ≤ 135 → ∀ (x : Int64) (f : Nat → Int32), cW (wsh i x f) 0 k 136 = cW f 0 k 136
  | 0, _, _, _ => rfl
  | i + 1, hi, x, f => (cW_wsh i (by omega) (nxL x) _).trans (cW_sw (by omega) (jE_n (nxL x) i (by omega)).2.1)
theorem cW_0 : ∀ v, v < 34 → cW (fun i => nI (i / 4)) 0 v 136 = 4 := by decide +kernel
theorem cW_136 (sd : Int64) {k : Nat} (hk : k < 34) : cW (wlF sd) 0 k 136 = 4 := (cW_wsh 135 (by omega) sd _).trans (cW_0 k hk)
theorem cW_4 (sd : Int64) {f : Nat → Int32} (hf : ∀ i, i < 136 → f i = wlF sd i) {k n b : Nat} (hk : k < 34) (hn : n ≤ 122) (hb : b ≤ 14) : cW f 0 k n + cW f 122 k b ≤ 4 := by
  have e0 : cW f 0 k 136 = 4 := (cW_c9 136 (fun i hi => by rw [Nat.zero_add]; exact hf i hi)).trans (cW_136 sd hk)
  have e1 : cW f 0 k (122 + 14) = cW f 0 k 122 + cW f (0 + 122) k 14 := cW_spl 14
  have e2 : cW f 0 k (n + (122 - n)) = cW f 0 k n + cW f (0 + n) k (122 - n) := cW_spl (122 - n)
  have e3 : cW f 122 k (b + (14 - b)) = cW f 122 k b + cW f (122 + b) k (14 - b) := cW_spl (14 - b)
  rw [show n + (122 - n) = 122 from by omega] at e2
  rw [show b + (14 - b) = 14 from by omega] at e3
  rw [Nat.zero_add] at e1
  have e4 : cW f 0 k 136 = cW f 0 k 122 + cW f 122 k 14 := e1
  omega
/-! a SEAT's hand on both sides; the WAITS agree -/
set_option maxRecDepth 8000
theorem ct_nat (s l k : Int32) : ∃ c, c ≤ 4 ∧ ct s l k = nI c := by
  unfold ct
  split
  · split
    · exact ⟨1, by decide, rfl⟩
    · exact ⟨0, by decide, rfl⟩
  · split
    · split
      · exact ⟨3, by decide, rfl⟩
      · exact ⟨4, by decide, rfl⟩
    · exact ⟨0, by decide, rfl⟩
theorem ofv_nat {so lo : Nat → Int32} {k : Int32} {w : Nat} : ∀ n, ∃ c, c ≤ 4 * n ∧ ofv (nI w) so lo k n = nI (w + c)
  | 0 => ⟨0, by decide, rfl⟩
  | n + 1 => by
    obtain ⟨c, h1, h2⟩ := ofv_nat (so := so) (lo := lo) (k := k) (w := w) n
    obtain ⟨d, h3, h4⟩ := ct_nat (so n) (lo n) k
    refine ⟨c + d, by omega, ?_⟩
    show ofv (nI w) so lo k n + ct (so n) (lo n) k = _
    rw [h2, h4, nI_add, Nat.add_assoc]
noncomputable def HF (x m : zM) (s : Nat) (w aw : Nat → Nat) (q : Nat) (sL lL : Nat → Nat) : Prop := HM m s w q sL lL ∧ RW x (20 + 8 * s) w ∧ RW x (21 + 8 * s) aw ∧ x.1 (19 + 8 * s) 4 = nI q ∧ (q = 0 → ∀ k, k < 34 → aw k = w k) ∧ (∀ k, k < 34 → aw k ≤ 4) ∧ x.1 (19 + 8 * s) 5 = nI (sn w 34) ∧ (∀ k, k < 34 → nI (aw k) = ofv (nI (w k)) (fun i => m.1 62 (4 * s + i)) (fun i => m.1 63 (4 * s + i)) (nI k) q)
theorem i_nat {v : Int32} {n : Nat} (h0 : 0 ≤ v.toInt) (h1 : v.toInt ≤ n) (hn : n < 1000) : ∃ a, a ≤ n ∧ v = nI a := by
  obtain ⟨t, ht, e⟩ := a_nI (x := v) (n := n + 1) h0 (by omega) (by omega)
  exact ⟨t, by omega, e⟩
noncomputable abbrev hs9 (m : zM) (s : Nat) : Int := hs m s
theorem hf_of {x m : zM} {p t c : Nat} (R : RCl x m) (P : RPh x m p t c) (hA : a_H m) (hG : GP m) {s : Nat} (hs : s < 4) : ∃ w aw q sL lL, HF x m s w aw q sL lL := by
  have g14 : ∀ j, j < 4 → glim m j ≤ 14 := fun j _ => by unfold glim; split <;> decide
  obtain ⟨g1, g2, g3, -, -, -⟩ := hG
  have hmI : 0 ≤ mI m s := (hA 64 s).1
  have hsum : hs9 m s ≤ 14 := by
    have := g1.2 s hs
    have := g14 s hs
    show hs9 m s ≤ 14
    unfold hs9
    omega
  have hw : ∀ k, k < 34 → ∃ a, a ≤ 14 ∧ m.1 60 (34 * s + k) = nI a := fun k hk => i_nat (g1.1 _ (by omega)) (by have := g1.le hs hk; show hI m (34 * s + k) ≤ 14; unfold hs9 at hsum; omega) (by decide)
  obtain ⟨q, hq4, hq⟩ : ∃ q, q ≤ 4 ∧ m.1 64 s = nI q := i_nat (hA 64 s).1 (hA 64 s).2 (by decide)
  obtain ⟨a, ha1, ha2⟩ := P.tc
  obtain ⟨sd, hsd⟩ := R.wp P.is
  have hnx : (m.1 50 46).toNatClampNeg ≤ 122 := by
    obtain ⟨n, h1, h2⟩ := i_nat (v := m.1 50 46) (n := 122) (hA 50 46).1 (hA 50 46).2 (by decide)
    rw [h2, nI_clamp (by omega)]; exact h1
  have hbk : (m.1 50 48).toNatClampNeg ≤ 14 := by
    obtain ⟨n, h1, h2⟩ := i_nat (v := m.1 50 48) (n := 4) (hA 50 48).1 (hA 50 48).2 (by decide)
    rw [h2, nI_clamp (by omega)]; omega
  have ha4 : ∀ k, k < 34 → a s k ≤ 4 := fun k hk => by
    have h1 := ha2 k hk
    have h2 := cW_4 sd (f := fW m) hsd hk hnx hbk
    obtain rfl | rfl | rfl | rfl : s = 0 ∨ s = 1 ∨ s = 2 ∨ s = 3 := by omega
    all_goals omega
  let w : Nat → Nat := fun k => (m.1 60 (34 * s + k)).toNatClampNeg
  have hw9 : ∀ k, k < 34 → m.1 60 (34 * s + k) = nI (w k) ∧ w k ≤ 14 := fun k hk => by
    obtain ⟨b, h1, h2⟩ := hw k hk
    show m.1 60 (34 * s + k) = nI (m.1 60 (34 * s + k)).toNatClampNeg ∧ (m.1 60 (34 * s + k)).toNatClampNeg ≤ 14
    rw [h2, nI_clamp (by omega)]; exact ⟨rfl, h1⟩
  have hal : ∀ k, k < 34 → nI (a s k) = ofv (nI (w k)) (fun i => m.1 62 (4 * s + i)) (fun i => m.1 63 (4 * s + i)) (nI k) q := fun k hk => by
    rw [← ha1 s k hs hk, R.al s k hs hk, (hw9 k hk).1, hq, nI_clamp (by omega)]
  have hwa : ∀ k, k < 34 → w k ≤ a s k ∧ (q = 0 → a s k = w k) := fun k hk => by
    obtain ⟨d, h1, h2⟩ := ofv_nat (so := fun i => m.1 62 (4 * s + i)) (lo := fun i => m.1 63 (4 * s + i)) (k := nI k) (w := w k) q
    have h3 := (hal k hk).trans h2
    have h4 := ha4 k hk
    have h5 := (hw9 k hk).2
    have h6 := (nI_eq (a := a s k) (b := w k + d) (by omega) (by omega)).mp h3
    exact ⟨by omega, fun e => by omega⟩
  refine ⟨w, a s, q, fun i => (m.1 62 (4 * s + i)).toNatClampNeg, fun i => (m.1 63 (4 * s + i)).toNatClampNeg, ⟨fun k hk => ⟨(hw9 k hk).1, by have := (hwa k hk).1; have := ha4 k hk; omega⟩, hq, hq4, fun j hj => ?_⟩, fun k hk => ?_, fun k hk => ⟨ha1 s k hs hk, by have := ha4 k hk; omega⟩, (R.lm s hs).trans hq, fun e k hk => (hwa k hk).2 e, ha4, ?_, hal⟩
  · have z := R.sv s j hs (by rw [hq, nI_clamp (by omega)]; exact hj)
    obtain ⟨n1, h1, h2⟩ := i_nat (n := 3) z.1.1 z.1.2 (by decide)
    obtain ⟨n2, h3, h4⟩ := i_nat (n := 33) z.2.1.1 z.2.1.2 (by decide)
    have z3 := z.2.2
    rw [h2, h4] at z3
    show m.1 62 (4 * s + j) = nI (m.1 62 (4 * s + j)).toNatClampNeg ∧ (m.1 62 (4 * s + j)).toNatClampNeg ≤ 3 ∧ m.1 63 (4 * s + j) = nI (m.1 63 (4 * s + j)).toNatClampNeg ∧ (m.1 63 (4 * s + j)).toNatClampNeg < 34 ∧ ((m.1 62 (4 * s + j)).toNatClampNeg = 0 → rs (m.1 63 (4 * s + j)).toNatClampNeg)
    rw [h2, h4, nI_clamp (by omega), nI_clamp (by omega)]
    exact ⟨rfl, h1, rfl, by omega, fun e => (sr_rs n2 (by omega)).mp (z3 (by rw [e]; rfl))⟩
  · rw [R.hd s k hs hk]; exact ⟨(hw9 k hk).1, by have := (hwa k hk).1; have := ha4 k hk; omega⟩
  · rw [R.lz s hs]; exact sm_sn 34 (fun k hk => (hw9 k hk).1)
theorem wt_iff {x m : zM} {s : Nat} {w aw : Nat → Nat} {q : Nat} {sL lL : Nat → Nat} (H : HF x m s w aw q sL lL) (hs : s < 4) {c : Nat} (hc : c < 34) : WX (sMm s x) w q c ↔ WMs m s w q c := by
  obtain ⟨h1, -, h3, h4, -, -, h7, h8⟩ := H
  unfold WX WMs
  rw [sM9 hs, sM9 hs, sM11 hs, h4, h7, (h3 c hc).1, h8 c hc, size_nI]
  have hw4 : sn w 34 ≤ 4 * 34 := sn_ub 34 (fun k hk => (h1.1 k hk).2)
  have hq4 := h1.2.2.1
  have e : nI (sn w 34 + 3 * q) = 13 ↔ sn w 34 + 3 * q = 13 := by rw [show (13 : Int32) = nI 13 from rfl]; exact nI_eq (by omega) (by omega)
  constructor
  · rintro ⟨a, b, d⟩
    have a := e.mp a
    exact ⟨a, b, (FU_FM hq4 (by rw [sn_ad1 hc]; omega)).mp d⟩
  · rintro ⟨a, b, d⟩
    exact ⟨e.mpr a, b, (FU_FM hq4 (by rw [sn_ad1 hc]; omega)).mpr d⟩
theorem wt_kb {x m : zM} {s : Nat} {w aw : Nat → Nat} {q : Nat} {sL lL : Nat → Nat} (H : HF x m s w aw q sL lL) (hs : s < 4) : kb (wb (WX (sMm s x) w q)) 34 = kb (wb (WMs m s w q)) 34 := kb_congr (fun k hk => wb_iff (wt_iff H hs hk))
/-! one bit of the WAITS -/
set_option maxRecDepth 8000
theorem sb9 : ∀ c, c < 34 → (((nI c).toInt64 &&& 63).toBitVec.smod 64).toNat = c := by decide +kernel
theorem one_b : ∀ i, i < 64 → (1 : Int64).toBitVec.getLsbD i = decide (i = 0) := by decide +kernel
theorem zero_b : ∀ i, i < 64 → (0 : Int64).toBitVec.getLsbD i = false := by decide +kernel
theorem and1 {x : Int64} {b : Bool} (h : x.toBitVec.getLsbD 0 = b) : x &&& 1 = bif b then 1 else 0 := by
  apply Int64.toBitVec_inj.mp
  rw [Int64.toBitVec_and]
  apply BitVec.eq_of_getLsbD_eq
  intro i hi
  rw [BitVec.getLsbD_and, one_b i hi]
  by_cases e : i = 0
  · subst e
    rw [h]
    cases b
    · rw [cond_false, zero_b 0 (by decide)]; rfl
    · rw [cond_true, one_b 0 (by decide)]; rfl
  · rw [decide_eq_false e, Bool.and_false]
    cases b
    · rw [cond_false, zero_b i hi]
    · rw [cond_true, one_b i hi, decide_eq_false e]
theorem sh_bit (x : Int64) {c : Nat} (hc : c < 34) : ((x >>> ((nI c).toInt64 &&& 63)) &&& 1) = bif x.toBitVec.getLsbD c then 1 else 0 := by
  refine and1 ?_
  rw [Int64.toBitVec_shiftRight, BitVec.sshiftRight_eq', sb9 c hc, BitVec.getLsbD_sshiftRight]
  simp
  omega
theorem bw_kb (f : Nat → Bool) {c : Nat} (hc : c < 34) : bw (kb f 34) c = f c := by
  unfold bw
  rw [sh_bit _ hc, kb_bit f 34 (Nat.le_refl _) c hc, decide_eq_true hc, Bool.true_and]
  cases f c <;> decide
theorem bz_kb (f : Nat → Bool) {c : Nat} (hc : c < 34) : decide (lg_cmp ((kb f 34 >>> ((nI c).toInt64 &&& 63)) &&& 1) 0 = 0) = !f c := by
  rw [sh_bit _ hc, kb_bit f 34 (Nat.le_refl _) c hc, decide_eq_true hc, Bool.true_and]
  cases f c <;> decide
theorem su9 : ∀ c, c < 34 → ((((nI c).toInt64.toUInt64 &&& Int64.toUInt64 63)).toBitVec % 64).toNat = c := by decide +kernel
theorem shu_bit (x : Int64) {c : Nat} (hc : c < 34) : ((x.toUInt64 >>> ((nI c).toInt64.toUInt64 &&& Int64.toUInt64 63)).toInt64 &&& 1) = bif x.toBitVec.getLsbD c then 1 else 0 := by
  refine and1 ?_
  show (x.toUInt64 >>> ((nI c).toInt64.toUInt64 &&& Int64.toUInt64 63)).toBitVec.getLsbD 0 = _
  rw [UInt64.toBitVec_shiftRight, BitVec.ushiftRight_eq', su9 c hc, BitVec.getLsbD_ushiftRight, Nat.add_zero]
  rfl
theorem hd_kb (f : Nat → Bool) {c : Nat} (hc : c < 34) : xHd (kb f 34) (nI c) = f c := by
  unfold xHd
  rw [kn_l0 (by omega), kn_le (m := 34) rfl (by omega) hc, shu_bit _ hc, kb_bit f 34 (Nat.le_refl _) c hc, decide_eq_true hc, Bool.true_and]
  cases f c <;> decide
theorem HF.te {x m x' : zM} {s : Nat} {w aw : Nat → Nat} {q : Nat} {sL lL : Nat → Nat} (H : HF x m s w aw q sL lL) (hs : s < 4) (h : TE x x') : HF x' m s w aw q sL lL := by
  obtain ⟨h1, h2, h3, h4, h5, h6, h7, h8⟩ := H
  exact ⟨h1, fun k hk => by rw [h s hs 20 (by omega) (by omega)]; exact h2 k hk, fun k hk => by rw [h s hs 21 (by omega) (by omega)]; exact h3 k hk, by rw [h s hs 19 (by omega) (by omega)]; exact h4, h5, h6, by rw [h s hs 19 (by omega) (by omega)]; exact h7, h8⟩
/-- the WAITS of a hand -/
noncomputable def WV (m : zM) (s : Nat) (w : Nat → Nat) (q : Nat) : Int64 := kb (wb (WMs m s w q)) 34
theorem cw_wait {x m : zM} {s : Nat} {w aw : Nat → Nat} {q : Nat} {sL lL : Nat → Nat} (H : HF x m s w aw q sL lL) (hs : s < 4) : ∀ μ1, TE x μ1 → ∀ d, 7 ≤ d → z_C d mi_X3_waiting [.ref (19 + 8 * s)] μ1 (zR μ1 (.long (WV m s w q))) := fun μ1 ht d hd => by
  have H1 := H.te hs ht
  have e : WV m s w q = kb (wb (WX (sMm s μ1) w q)) 34 := (wt_kb H1 hs).symm
  rw [e]
  obtain ⟨h1, h2, h3, h4, h5, h6, h7, h8⟩ := H1
  exact gc_waiting d hd μ1 s hs w q h2 (fun k hk => (h1.1 k hk).2) h1.2.2.1 h4 (fun e k hk => by rw [← h5 e k hk]; exact h3 k hk)
theorem cw_for {x m : zM} {s : Nat} {w aw : Nat → Nat} {q : Nat} {sL lL : Nat → Nat} (H : HF x m s w aw q sL lL) (hs : s < 4) {c : Nat} (hc : c < 34) : ∀ μ1, TE x μ1 → ∀ d, 6 ≤ d → z_C d mi_X3_waitsFor [.ref (19 + 8 * s), .int (nI c)] μ1 (zR μ1 (.int (nB (bw (WV m s w q) c)))) := fun μ1 ht d hd => by
  have H1 := H.te hs ht
  have e := wt_iff H1 hs hc
  obtain ⟨h1, h2, h3, h4, h5, h6, h7, h8⟩ := H1
  refine z_C_mono (gc_waitsFor d hd μ1 s hs w q c h2 (fun k hk => (h1.1 k hk).2) h1.2.2.1 h4 (fun e k hk => by rw [← h5 e k hk]; exact h3 k hk) hc) (fun r m' z => ⟨z.1, ?_⟩)
  unfold WV
  rw [bw_kb _ hc]
  rcases z.2 with ⟨y, hy⟩ | ⟨y, hy⟩
  · rw [y, wb_t (e.mp hy)]; rfl
  · rw [y, wb_f (fun q => hy (e.mpr q))]; rfl
/-! refused calls -/
set_option maxRecDepth 8000
theorem gx_discP (d : Nat) (hd : 2 ≤ d) (μ : zM) (x b : Int32) (hp : decide (μ.1 0 7 = 1) = false) : z_C d mi_X6_discard [.ref 0, .int x, .int b] μ (fun r μ' => r = some (.int 0) ∧ μ' = μ) := by
  refine z_C_in (by decide) (by omega) (fun d' Z ed hc hr => ?_)
  have hH : zH mi_X6_discard zt_X6_discard 79 6 4 := hh_X6_discard
  refine z_rcs hc hH 1 (pc' := 1) (lv' := [(0, .ref 0), (1, .int x), (2, .int b)]) (st' := [.ref 0]) (μ' := μ) (by rfl) ?_
  refine zq_gfi hc hH (by rfl) (ci := 5) (f := 7) (by rfl) (by decide +kernel) (by rfl) ?_
  refine z_rcs hc hH 1 (pc' := 5) (lv' := [(0, .ref 0), (1, .int x), (2, .int b)]) (st' := [.int 1, .int (μ.1 0 7)]) (μ' := μ) (by rfl) ?_
  refine zq_ic hc hH (by rfl) (tg := 16) (by rfl) (fun h1 => ?_) (fun h1 => ?_)
  · have h1 : (decide ((μ.1 0 7) = 1)) = false := decide_eq_false (cm_ne.mp h1)
    refine z_rcs hc hH 1 (pc' := 17) (lv' := [(0, .ref 0), (1, .int x), (2, .int b)]) (st' := [.int 0]) (μ' := μ) (by rfl) ?_
    exact hr 0 17 _ _ _ (some (.int 0)) (by decide +kernel) (z_rx_ok hH (by rfl)) (⟨rfl, rfl⟩)
  · have h1 : (decide ((μ.1 0 7) = 1)) = true := decide_eq_true (cn_ne.mp h1)
    exact absurd (Eq.trans (Eq.symm (hp)) h1) (by decide)
theorem gx_discT (d : Nat) (hd : 4 ≤ d) (μ : zM) (x b : Int32) (hmt : ∀ d, 3 ≤ d → z_C d mi_X6_mayThrow [.ref 0, .int x] μ (zR μ (.int 0))) : z_C d mi_X6_discard [.ref 0, .int x, .int b] μ (fun r μ' => r = some (.int 0) ∧ μ' = μ) := by
  refine z_C_in (by decide) (by omega) (fun d' Z ed hc hr => ?_)
  have hH : zH mi_X6_discard zt_X6_discard 79 6 4 := hh_X6_discard
  refine z_rcs hc hH 1 (pc' := 1) (lv' := [(0, .ref 0), (1, .int x), (2, .int b)]) (st' := [.ref 0]) (μ' := μ) (by rfl) ?_
  refine zq_gfi hc hH (by rfl) (ci := 5) (f := 7) (by rfl) (by decide +kernel) (by rfl) ?_
  refine z_rcs hc hH 1 (pc' := 5) (lv' := [(0, .ref 0), (1, .int x), (2, .int b)]) (st' := [.int 1, .int (μ.1 0 7)]) (μ' := μ) (by rfl) ?_
  refine zq_ic hc hH (by rfl) (tg := 16) (by rfl) (fun h1 => ?_) (fun h1 => ?_)
  · have h1 : (decide ((μ.1 0 7) = 1)) = false := decide_eq_false (cm_ne.mp h1)
    refine z_rcs hc hH 1 (pc' := 17) (lv' := [(0, .ref 0), (1, .int x), (2, .int b)]) (st' := [.int 0]) (μ' := μ) (by rfl) ?_
    exact hr 0 17 _ _ _ (some (.int 0)) (by decide +kernel) (z_rx_ok hH (by rfl)) (⟨rfl, rfl⟩)
  · have h1 : (decide ((μ.1 0 7) = 1)) = true := decide_eq_true (cn_ne.mp h1)
    refine z_rcs hc hH 2 (pc' := 10) (lv' := [(0, .ref 0), (1, .int x), (2, .int b)]) (st' := [.int x, .ref 0]) (μ' := μ) (by rfl) ?_
    refine zq_call hc (z_cx_ok hH (by rfl)) (hmt d' (by omega)) (by decide +kernel) (fun r9 μ9 hq => ?_)
    obtain ⟨hμ9, rfl⟩ := hq
    rw [hμ9]
    clear hμ9 μ9
    show Z 0 13 [(0, .ref 0), (1, .int x), (2, .int b)] [.int 0] μ
    refine z_rcs hc hH 2 (pc' := 17) (lv' := [(0, .ref 0), (1, .int x), (2, .int b)]) (st' := [.int 0]) (μ' := μ) (by rfl) ?_
    exact hr 0 17 _ _ _ (some (.int 0)) (by decide +kernel) (z_rx_ok hH (by rfl)) (⟨rfl, rfl⟩)
theorem gx_pass (d : Nat) (hd : 2 ≤ d) (μ : zM) (h2 : decide (μ.1 0 7 = 2) = false) (h3 : decide (μ.1 0 7 = 3) = false) : z_C d mi_X6_pass [.ref 0] μ (fun r μ' => r = some (.int 0) ∧ μ' = μ) := by
  refine z_C_in (by decide) (by omega) (fun d' Z ed hc hr => ?_)
  have hH : zH mi_X6_pass zt_X6_pass 79 6 1 := hh_X6_pass
  refine z_rcs hc hH 1 (pc' := 1) (lv' := [(0, .ref 0)]) (st' := [.ref 0]) (μ' := μ) (by rfl) ?_
  refine zq_gfi hc hH (by rfl) (ci := 5) (f := 7) (by rfl) (by decide +kernel) (by rfl) ?_
  refine z_rcs hc hH 1 (pc' := 5) (lv' := [(0, .ref 0)]) (st' := [.int 2, .int (μ.1 0 7)]) (μ' := μ) (by rfl) ?_
  refine zq_ic hc hH (by rfl) (tg := 18) (by rfl) (fun h1 => ?_) (fun h1 => ?_)
  · have h1 : (decide ((μ.1 0 7) = 2)) = true := decide_eq_true (cm_eq9.mp h1)
    exact absurd (Eq.trans (Eq.symm (h2)) h1) (by decide)
  · have h1 : (decide ((μ.1 0 7) = 2)) = false := decide_eq_false (cn_eq.mp h1)
    refine z_rcs hc hH 1 (pc' := 9) (lv' := [(0, .ref 0)]) (st' := [.ref 0]) (μ' := μ) (by rfl) ?_
    refine zq_gfi hc hH (by rfl) (ci := 5) (f := 7) (by rfl) (by decide +kernel) (by rfl) ?_
    refine z_rcs hc hH 1 (pc' := 13) (lv' := [(0, .ref 0)]) (st' := [.int 3, .int (μ.1 0 7)]) (μ' := μ) (by rfl) ?_
    refine zq_ic hc hH (by rfl) (tg := 18) (by rfl) (fun h2 => ?_) (fun h2 => ?_)
    · have h2 : (decide ((μ.1 0 7) = 3)) = true := decide_eq_true (cm_eq9.mp h2)
      exact absurd (Eq.trans (Eq.symm (h3)) h2) (by decide)
    · have h2 : (decide ((μ.1 0 7) = 3)) = false := decide_eq_false (cn_eq.mp h2)
      refine z_rcs hc hH 1 (pc' := 17) (lv' := [(0, .ref 0)]) (st' := [.int 0]) (μ' := μ) (by rfl) ?_
      exact hr 0 17 _ _ _ (some (.int 0)) (by decide +kernel) (z_rx_ok hH (by rfl)) (⟨rfl, rfl⟩)
theorem gx_run (d : Nat) (hd : 4 ≤ d) (μ : zM) (y x : Int32) (hmc : ∀ d, 3 ≤ d → z_C d mi_X6_mayClaimSet [.ref 0, .int y] μ (zR μ (.int 0))) : z_C d mi_X6_run [.ref 0, .int y, .int x] μ (fun r μ' => r = some (.int 0) ∧ μ' = μ) := by
  refine z_C_in (by decide) (by omega) (fun d' Z ed hc hr => ?_)
  have hH : zH mi_X6_run zt_X6_run 79 6 6 := hh_X6_run
  refine z_rcs hc hH 2 (pc' := 2) (lv' := [(0, .ref 0), (1, .int y), (2, .int x)]) (st' := [.int y, .ref 0]) (μ' := μ) (by rfl) ?_
  refine zq_call hc (z_cx_ok hH (by rfl)) (hmc d' (by omega)) (by decide +kernel) (fun r9 μ9 hq => ?_)
  obtain ⟨hμ9, rfl⟩ := hq
  rw [hμ9]
  clear hμ9 μ9
  show Z 0 5 [(0, .ref 0), (1, .int y), (2, .int x)] [.int 0] μ
  refine z_rcs hc hH 2 (pc' := 28) (lv' := [(0, .ref 0), (1, .int y), (2, .int x)]) (st' := [.int 0]) (μ' := μ) (by rfl) ?_
  exact hr 0 28 _ _ _ (some (.int 0)) (by decide +kernel) (z_rx_ok hH (by rfl)) (⟨rfl, rfl⟩)
theorem gx_three (d : Nat) (hd : 4 ≤ d) (μ : zM) (y : Int32) (hmc : ∀ d, 3 ≤ d → z_C d mi_X6_mayClaimSet [.ref 0, .int y] μ (zR μ (.int 0))) : z_C d mi_X6_three [.ref 0, .int y] μ (fun r μ' => r = some (.int 0) ∧ μ' = μ) := by
  refine z_C_in (by decide) (by omega) (fun d' Z ed hc hr => ?_)
  have hH : zH mi_X6_three zt_X6_three 79 6 4 := hh_X6_three
  refine z_rcs hc hH 2 (pc' := 2) (lv' := [(0, .ref 0), (1, .int y)]) (st' := [.int y, .ref 0]) (μ' := μ) (by rfl) ?_
  refine zq_call hc (z_cx_ok hH (by rfl)) (hmc d' (by omega)) (by decide +kernel) (fun r9 μ9 hq => ?_)
  obtain ⟨hμ9, rfl⟩ := hq
  rw [hμ9]
  clear hμ9 μ9
  show Z 0 5 [(0, .ref 0), (1, .int y)] [.int 0] μ
  refine z_rcs hc hH 2 (pc' := 28) (lv' := [(0, .ref 0), (1, .int y)]) (st' := [.int 0]) (μ' := μ) (by rfl) ?_
  exact hr 0 28 _ _ _ (some (.int 0)) (by decide +kernel) (z_rx_ok hH (by rfl)) (⟨rfl, rfl⟩)
theorem gx_four (d : Nat) (hd : 4 ≤ d) (μ : zM) (y : Int32) (hmc : ∀ d, 3 ≤ d → z_C d mi_X6_mayClaimSet [.ref 0, .int y] μ (zR μ (.int 0))) : z_C d mi_X6_four [.ref 0, .int y] μ (fun r μ' => r = some (.int 0) ∧ μ' = μ) := by
  refine z_C_in (by decide) (by omega) (fun d' Z ed hc hr => ?_)
  have hH : zH mi_X6_four zt_X6_four 79 6 2 := hh_X6_four
  refine z_rcs hc hH 2 (pc' := 2) (lv' := [(0, .ref 0), (1, .int y)]) (st' := [.int y, .ref 0]) (μ' := μ) (by rfl) ?_
  refine zq_call hc (z_cx_ok hH (by rfl)) (hmc d' (by omega)) (by decide +kernel) (fun r9 μ9 hq => ?_)
  obtain ⟨hμ9, rfl⟩ := hq
  rw [hμ9]
  clear hμ9 μ9
  show Z 0 5 [(0, .ref 0), (1, .int y)] [.int 0] μ
  refine z_rcs hc hH 2 (pc' := 39) (lv' := [(0, .ref 0), (1, .int y)]) (st' := [.int 0]) (μ' := μ) (by rfl) ?_
  exact hr 0 39 _ _ _ (some (.int 0)) (by decide +kernel) (z_rx_ok hH (by rfl)) (⟨rfl, rfl⟩)
theorem gx_hide (d : Nat) (hd : 4 ≤ d) (μ : zM) (x : Int32) (hmm : ∀ d, 3 ≤ d → z_C d mi_X6_mayMakeFour [.ref 0] μ (zR μ (.int 0))) : z_C d mi_X6_hide [.ref 0, .int x] μ (fun r μ' => r = some (.int 0) ∧ μ' = μ) := by
  refine z_C_in (by decide) (by omega) (fun d' Z ed hc hr => ?_)
  have hH : zH mi_X6_hide zt_X6_hide 79 6 2 := hh_X6_hide
  refine z_rcs hc hH 1 (pc' := 1) (lv' := [(0, .ref 0), (1, .int x)]) (st' := [.ref 0]) (μ' := μ) (by rfl) ?_
  refine zq_call hc (z_cx_ok hH (by rfl)) (hmm d' (by omega)) (by decide +kernel) (fun r9 μ9 hq => ?_)
  obtain ⟨hμ9, rfl⟩ := hq
  rw [hμ9]
  clear hμ9 μ9
  show Z 0 4 [(0, .ref 0), (1, .int x)] [.int 0] μ
  refine z_rcs hc hH 2 (pc' := 27) (lv' := [(0, .ref 0), (1, .int x)]) (st' := [.int 0]) (μ' := μ) (by rfl) ?_
  exact hr 0 27 _ _ _ (some (.int 0)) (by decide +kernel) (z_rx_ok hH (by rfl)) (⟨rfl, rfl⟩)
theorem gx_add (d : Nat) (hd : 4 ≤ d) (μ : zM) (x : Int32) (hmm : ∀ d, 3 ≤ d → z_C d mi_X6_mayMakeFour [.ref 0] μ (zR μ (.int 0))) : z_C d mi_X6_add [.ref 0, .int x] μ (fun r μ' => r = some (.int 0) ∧ μ' = μ) := by
  refine z_C_in (by decide) (by omega) (fun d' Z ed hc hr => ?_)
  have hH : zH mi_X6_add zt_X6_add 79 6 2 := hh_X6_add
  refine z_rcs hc hH 1 (pc' := 1) (lv' := [(0, .ref 0), (1, .int x)]) (st' := [.ref 0]) (μ' := μ) (by rfl) ?_
  refine zq_call hc (z_cx_ok hH (by rfl)) (hmm d' (by omega)) (by decide +kernel) (fun r9 μ9 hq => ?_)
  obtain ⟨hμ9, rfl⟩ := hq
  rw [hμ9]
  clear hμ9 μ9
  show Z 0 4 [(0, .ref 0), (1, .int x)] [.int 0] μ
  refine z_rcs hc hH 2 (pc' := 26) (lv' := [(0, .ref 0), (1, .int x)]) (st' := [.int 0]) (μ' := μ) (by rfl) ?_
  exact hr 0 26 _ _ _ (some (.int 0)) (by decide +kernel) (z_rx_ok hH (by rfl)) (⟨rfl, rfl⟩)
theorem gx_hideF (d : Nat) (hd : 4 ≤ d) (μ : zM) (x : Int32) (t : Nat) (ht4 : t < 4) (ht : μ.1 0 8 = nI t) (hmm : ∀ d, 3 ≤ d → z_C d mi_X6_mayMakeFour [.ref 0] μ (zR μ (.int 1))) (hf : decide (4 ≤ fr μ (20 + 8 * t) x) = false) : z_C d mi_X6_hide [.ref 0, .int x] μ (fun r μ' => r = some (.int 0) ∧ μ' = μ) := by
  refine z_C_in (by decide) (by omega) (fun d' Z ed hc hr => ?_)
  have hH : zH mi_X6_hide zt_X6_hide 79 6 2 := hh_X6_hide
  refine z_rcs hc hH 1 (pc' := 1) (lv' := [(0, .ref 0), (1, .int x)]) (st' := [.ref 0]) (μ' := μ) (by rfl) ?_
  refine zq_call hc (z_cx_ok hH (by rfl)) (hmm d' (by omega)) (by decide +kernel) (fun r9 μ9 hq => ?_)
  obtain ⟨hμ9, rfl⟩ := hq
  rw [hμ9]
  clear hμ9 μ9
  show Z 0 4 [(0, .ref 0), (1, .int x)] [.int 1] μ
  refine z_rcs hc hH 3 (pc' := 9) (lv' := [(0, .ref 0), (1, .int x)]) (st' := [.ref 0, .ref 0]) (μ' := μ) (by rfl) ?_
  refine zq_gfi hc hH (by rfl) (ci := 5) (f := 8) (by rfl) (by decide +kernel) (by rfl) ?_
  rw [ht]
  refine zq_call hc (z_cx_ok hH (by rfl)) (gc_at4 d' (by omega) μ t ht4) (by decide +kernel) (fun r9 μ9 hq => ?_)
  obtain ⟨hμ9, rfl⟩ := hq
  rw [hμ9]
  clear hμ9 μ9
  show Z 0 15 [(0, .ref 0), (1, .int x)] [.ref (18 + 8 * t)] μ
  refine zq_gfr hc hH (by rfl) (ci := 1) (f := 0) (q := 19 + 8 * t) (by rfl) (sj (P := fun i => okf 79 1 0 (18 + 8 * i)) ht4 (by decide +kernel)) (by rfl) (sj (P := fun i => Nat.beq (z_gr (18 + 8 * i) 0) (19 + 8 * i)) ht4 (by decide +kernel)) ?_
  refine z_rcs hc hH 1 (pc' := 19) (lv' := [(0, .ref 0), (1, .int x)]) (st' := [.int x, .ref (19 + 8 * t)]) (μ' := μ) (by rfl) ?_
  refine zq_call hc (z_clv9 hH (by rfl) (by rfl) (by rfl) (by rfl) (sj (P := fun i => okr 79 2 (19 + 8 * i)) ht4 (by decide +kernel)) (by rfl) (by rfl)) (gc_free d' (by omega) μ t ht4 x) (by decide +kernel) (fun r9 μ9 hq => ?_)
  obtain ⟨hμ9, rfl⟩ := hq
  rw [hμ9]
  clear hμ9 μ9
  show Z 0 22 [(0, .ref 0), (1, .int x)] [.int (fr μ (20 + 8 * t) x)] μ
  refine z_rcs hc hH 1 (pc' := 23) (lv' := [(0, .ref 0), (1, .int x)]) (st' := [.int 4, .int (fr μ (20 + 8 * t) x)]) (μ' := μ) (by rfl) ?_
  refine zq_ic hc hH (by rfl) (tg := 28) (by rfl) (fun h1 => ?_) (fun h1 => ?_)
  · have h1 : (decide (4 ≤ (fr μ (20 + 8 * t) x))) = true := decide_eq_true (cm_ge.mp h1)
    exact absurd (Eq.trans (Eq.symm (hf)) h1) (by decide)
  · have h1 : (decide (4 ≤ (fr μ (20 + 8 * t) x))) = false := decide_eq_false (cn_ge.mp h1)
    refine z_rcs hc hH 1 (pc' := 27) (lv' := [(0, .ref 0), (1, .int x)]) (st' := [.int 0]) (μ' := μ) (by rfl) ?_
    exact hr 0 27 _ _ _ (some (.int 0)) (by decide +kernel) (z_rx_ok hH (by rfl)) (⟨rfl, rfl⟩)
theorem gx_winP (d : Nat) (hd : 2 ≤ d) (μ : zM) (hp : decide (μ.1 0 7 = 1) = false) : z_C d mi_X6_win [.ref 0] μ (fun r μ' => r = some (.int 0) ∧ μ' = μ) := by
  refine z_C_in (by decide) (by omega) (fun d' Z ed hc hr => ?_)
  have hH : zH mi_X6_win zt_X6_win 79 6 6 := hh_X6_win
  refine z_rcs hc hH 1 (pc' := 1) (lv' := [(0, .ref 0)]) (st' := [.ref 0]) (μ' := μ) (by rfl) ?_
  refine zq_gfi hc hH (by rfl) (ci := 5) (f := 7) (by rfl) (by decide +kernel) (by rfl) ?_
  refine z_rcs hc hH 1 (pc' := 5) (lv' := [(0, .ref 0)]) (st' := [.int 1, .int (μ.1 0 7)]) (μ' := μ) (by rfl) ?_
  refine zq_ic hc hH (by rfl) (tg := 28) (by rfl) (fun h1 => ?_) (fun h1 => ?_)
  · have h1 : (decide ((μ.1 0 7) = 1)) = false := decide_eq_false (cm_ne.mp h1)
    refine z_rcs hc hH 1 (pc' := 29) (lv' := [(0, .ref 0)]) (st' := [.int 0]) (μ' := μ) (by rfl) ?_
    exact hr 0 29 _ _ _ (some (.int 0)) (by decide +kernel) (z_rx_ok hH (by rfl)) (⟨rfl, rfl⟩)
  · have h1 : (decide ((μ.1 0 7) = 1)) = true := decide_eq_true (cn_ne.mp h1)
    exact absurd (Eq.trans (Eq.symm (hp)) h1) (by decide)
theorem gx_winT (d : Nat) (hd : 2 ≤ d) (μ : zM) (hp : decide (μ.1 0 7 = 1) = true) (h15 : decide (μ.1 0 15 = -1) = true) : z_C d mi_X6_win [.ref 0] μ (fun r μ' => r = some (.int 0) ∧ μ' = μ) := by
  refine z_C_in (by decide) (by omega) (fun d' Z ed hc hr => ?_)
  have hH : zH mi_X6_win zt_X6_win 79 6 6 := hh_X6_win
  refine z_rcs hc hH 1 (pc' := 1) (lv' := [(0, .ref 0)]) (st' := [.ref 0]) (μ' := μ) (by rfl) ?_
  refine zq_gfi hc hH (by rfl) (ci := 5) (f := 7) (by rfl) (by decide +kernel) (by rfl) ?_
  refine z_rcs hc hH 1 (pc' := 5) (lv' := [(0, .ref 0)]) (st' := [.int 1, .int (μ.1 0 7)]) (μ' := μ) (by rfl) ?_
  refine zq_ic hc hH (by rfl) (tg := 28) (by rfl) (fun h1 => ?_) (fun h1 => ?_)
  · have h1 : (decide ((μ.1 0 7) = 1)) = false := decide_eq_false (cm_ne.mp h1)
    exact absurd (Eq.trans (Eq.symm (hp)) h1) (by decide)
  · have h1 : (decide ((μ.1 0 7) = 1)) = true := decide_eq_true (cn_ne.mp h1)
    refine z_rcs hc hH 1 (pc' := 9) (lv' := [(0, .ref 0)]) (st' := [.ref 0]) (μ' := μ) (by rfl) ?_
    refine zq_gfi hc hH (by rfl) (ci := 5) (f := 15) (by rfl) (by decide +kernel) (by rfl) ?_
    refine z_rcs hc hH 1 (pc' := 13) (lv' := [(0, .ref 0)]) (st' := [.int (-1), .int (μ.1 0 15)]) (μ' := μ) (by rfl) ?_
    refine zq_ic hc hH (by rfl) (tg := 28) (by rfl) (fun h2 => ?_) (fun h2 => ?_)
    · have h2 : (decide ((μ.1 0 15) = (-1))) = true := decide_eq_true (cm_eq9.mp h2)
      refine z_rcs hc hH 1 (pc' := 29) (lv' := [(0, .ref 0)]) (st' := [.int 0]) (μ' := μ) (by rfl) ?_
      exact hr 0 29 _ _ _ (some (.int 0)) (by decide +kernel) (z_rx_ok hH (by rfl)) (⟨rfl, rfl⟩)
    · have h2 : (decide ((μ.1 0 15) = (-1))) = false := decide_eq_false (cn_eq.mp h2)
      exact absurd (Eq.trans (Eq.symm (h15)) h2) (by decide)
theorem gx_claimP (d : Nat) (hd : 2 ≤ d) (μ : zM) (y : Int32) (h2 : decide (μ.1 0 7 = 2) = false) (h3 : decide (μ.1 0 7 = 3) = false) : z_C d mi_X6_claim [.ref 0, .int y] μ (fun r μ' => r = some (.int 0) ∧ μ' = μ) := by
  refine z_C_in (by decide) (by omega) (fun d' Z ed hc hr => ?_)
  have hH : zH mi_X6_claim zt_X6_claim 79 6 5 := hh_X6_claim
  refine z_rcs hc hH 1 (pc' := 1) (lv' := [(0, .ref 0), (1, .int y)]) (st' := [.ref 0]) (μ' := μ) (by rfl) ?_
  refine zq_gfi hc hH (by rfl) (ci := 5) (f := 7) (by rfl) (by decide +kernel) (by rfl) ?_
  refine z_rcs hc hH 1 (pc' := 5) (lv' := [(0, .ref 0), (1, .int y)]) (st' := [.int 2, .int (μ.1 0 7)]) (μ' := μ) (by rfl) ?_
  refine zq_ic hc hH (by rfl) (tg := 16) (by rfl) (fun h1 => ?_) (fun h1 => ?_)
  · have h1 : (decide ((μ.1 0 7) = 2)) = true := decide_eq_true (cm_eq9.mp h1)
    exact absurd (Eq.trans (Eq.symm (h2)) h1) (by decide)
  · have h1 : (decide ((μ.1 0 7) = 2)) = false := decide_eq_false (cn_eq.mp h1)
    refine z_rcs hc hH 1 (pc' := 9) (lv' := [(0, .ref 0), (1, .int y)]) (st' := [.ref 0]) (μ' := μ) (by rfl) ?_
    refine zq_gfi hc hH (by rfl) (ci := 5) (f := 7) (by rfl) (by decide +kernel) (by rfl) ?_
    refine z_rcs hc hH 1 (pc' := 13) (lv' := [(0, .ref 0), (1, .int y)]) (st' := [.int 3, .int (μ.1 0 7)]) (μ' := μ) (by rfl) ?_
    refine zq_ic hc hH (by rfl) (tg := 31) (by rfl) (fun h2 => ?_) (fun h2 => ?_)
    · have h2 : (decide ((μ.1 0 7) = 3)) = false := decide_eq_false (cm_ne.mp h2)
      refine z_rcs hc hH 1 (pc' := 32) (lv' := [(0, .ref 0), (1, .int y)]) (st' := [.int 0]) (μ' := μ) (by rfl) ?_
      exact hr 0 32 _ _ _ (some (.int 0)) (by decide +kernel) (z_rx_ok hH (by rfl)) (⟨rfl, rfl⟩)
    · have h2 : (decide ((μ.1 0 7) = 3)) = true := decide_eq_true (cn_ne.mp h2)
      exact absurd (Eq.trans (Eq.symm (h3)) h2) (by decide)
theorem gx_claimS (d : Nat) (hd : 2 ≤ d) (μ : zM) (y : Int32) (hs : ∀ d, 1 ≤ d → z_C d mi_X6_isSeat [.int y] μ (zR μ (.int 0))) : z_C d mi_X6_claim [.ref 0, .int y] μ (fun r μ' => r = some (.int 0) ∧ μ' = μ) := by
  refine z_C_in (by decide) (by omega) (fun d' Z ed hc hr => ?_)
  have hH : zH mi_X6_claim zt_X6_claim 79 6 5 := hh_X6_claim
  refine z_rcs hc hH 1 (pc' := 1) (lv' := [(0, .ref 0), (1, .int y)]) (st' := [.ref 0]) (μ' := μ) (by rfl) ?_
  refine zq_gfi hc hH (by rfl) (ci := 5) (f := 7) (by rfl) (by decide +kernel) (by rfl) ?_
  refine z_rcs hc hH 1 (pc' := 5) (lv' := [(0, .ref 0), (1, .int y)]) (st' := [.int 2, .int (μ.1 0 7)]) (μ' := μ) (by rfl) ?_
  refine zq_ic hc hH (by rfl) (tg := 16) (by rfl) (fun h1 => ?_) (fun h1 => ?_)
  · have h1 : (decide ((μ.1 0 7) = 2)) = true := decide_eq_true (cm_eq9.mp h1)
    refine z_rcs hc hH 1 (pc' := 17) (lv' := [(0, .ref 0), (1, .int y)]) (st' := [.int y]) (μ' := μ) (by rfl) ?_
    refine zq_call hc (z_cx_ok hH (by rfl)) (hs d' (by omega)) (by decide +kernel) (fun r9 μ9 hq => ?_)
    obtain ⟨hμ9, rfl⟩ := hq
    rw [hμ9]
    clear hμ9 μ9
    show Z 0 20 [(0, .ref 0), (1, .int y)] [.int 0] μ
    refine z_rcs hc hH 2 (pc' := 32) (lv' := [(0, .ref 0), (1, .int y)]) (st' := [.int 0]) (μ' := μ) (by rfl) ?_
    exact hr 0 32 _ _ _ (some (.int 0)) (by decide +kernel) (z_rx_ok hH (by rfl)) (⟨rfl, rfl⟩)
  · have h1 : (decide ((μ.1 0 7) = 2)) = false := decide_eq_false (cn_eq.mp h1)
    refine z_rcs hc hH 1 (pc' := 9) (lv' := [(0, .ref 0), (1, .int y)]) (st' := [.ref 0]) (μ' := μ) (by rfl) ?_
    refine zq_gfi hc hH (by rfl) (ci := 5) (f := 7) (by rfl) (by decide +kernel) (by rfl) ?_
    refine z_rcs hc hH 1 (pc' := 13) (lv' := [(0, .ref 0), (1, .int y)]) (st' := [.int 3, .int (μ.1 0 7)]) (μ' := μ) (by rfl) ?_
    refine zq_ic hc hH (by rfl) (tg := 31) (by rfl) (fun h2 => ?_) (fun h2 => ?_)
    · have h2 : (decide ((μ.1 0 7) = 3)) = false := decide_eq_false (cm_ne.mp h2)
      refine z_rcs hc hH 1 (pc' := 32) (lv' := [(0, .ref 0), (1, .int y)]) (st' := [.int 0]) (μ' := μ) (by rfl) ?_
      exact hr 0 32 _ _ _ (some (.int 0)) (by decide +kernel) (z_rx_ok hH (by rfl)) (⟨rfl, rfl⟩)
    · have h2 : (decide ((μ.1 0 7) = 3)) = true := decide_eq_true (cn_ne.mp h2)
      refine z_rcs hc hH 1 (pc' := 17) (lv' := [(0, .ref 0), (1, .int y)]) (st' := [.int y]) (μ' := μ) (by rfl) ?_
      refine zq_call hc (z_cx_ok hH (by rfl)) (hs d' (by omega)) (by decide +kernel) (fun r9 μ9 hq => ?_)
      obtain ⟨hμ9, rfl⟩ := hq
      rw [hμ9]
      clear hμ9 μ9
      show Z 0 20 [(0, .ref 0), (1, .int y)] [.int 0] μ
      refine z_rcs hc hH 2 (pc' := 32) (lv' := [(0, .ref 0), (1, .int y)]) (st' := [.int 0]) (μ' := μ) (by rfl) ?_
      exact hr 0 32 _ _ _ (some (.int 0)) (by decide +kernel) (z_rx_ok hH (by rfl)) (⟨rfl, rfl⟩)
theorem gx_dealP (d : Nat) (hd : 2 ≤ d) (μ : zM) (sd : Int64) (hp : decide (μ.1 0 7 = 0) = false) : z_C d mi_X6_deal [.ref 0, .long sd] μ (fun r μ' => r = some (.int 0) ∧ μ' = μ) := by
  refine z_C_in (by decide) (by omega) (fun d' Z ed hc hr => ?_)
  have hH : zH mi_X6_deal zt_X6_deal 79 6 6 := hh_X6_deal
  refine z_rcs hc hH 1 (pc' := 1) (lv' := [(0, .ref 0), (1, .long sd)]) (st' := [.ref 0]) (μ' := μ) (by rfl) ?_
  refine zq_gfi hc hH (by rfl) (ci := 5) (f := 7) (by rfl) (by decide +kernel) (by rfl) ?_
  refine zq_if hc hH (by rfl) (tg := 14) (by rfl) (fun h1 => ?_) (fun h1 => ?_)
  · have h1 : (decide ((μ.1 0 7) = 0)) = false := decide_eq_false (cm_ne.mp h1)
    refine z_rcs hc hH 1 (pc' := 15) (lv' := [(0, .ref 0), (1, .long sd)]) (st' := [.int 0]) (μ' := μ) (by rfl) ?_
    exact hr 0 15 _ _ _ (some (.int 0)) (by decide +kernel) (z_rx_ok hH (by rfl)) (⟨rfl, rfl⟩)
  · have h1 : (decide ((μ.1 0 7) = 0)) = true := decide_eq_true (cn_ne.mp h1)
    exact absurd (Eq.trans (Eq.symm (hp)) h1) (by decide)
theorem gx_dealE (d : Nat) (hd : 2 ≤ d) (μ : zM) (sd : Int64) (hp : decide (μ.1 0 7 = 0) = true) (he : decide (μ.1 0 13 = 0) = false) : z_C d mi_X6_deal [.ref 0, .long sd] μ (fun r μ' => r = some (.int 0) ∧ μ' = μ) := by
  refine z_C_in (by decide) (by omega) (fun d' Z ed hc hr => ?_)
  have hH : zH mi_X6_deal zt_X6_deal 79 6 6 := hh_X6_deal
  refine z_rcs hc hH 1 (pc' := 1) (lv' := [(0, .ref 0), (1, .long sd)]) (st' := [.ref 0]) (μ' := μ) (by rfl) ?_
  refine zq_gfi hc hH (by rfl) (ci := 5) (f := 7) (by rfl) (by decide +kernel) (by rfl) ?_
  refine zq_if hc hH (by rfl) (tg := 14) (by rfl) (fun h1 => ?_) (fun h1 => ?_)
  · have h1 : (decide ((μ.1 0 7) = 0)) = false := decide_eq_false (cm_ne.mp h1)
    exact absurd (Eq.trans (Eq.symm (hp)) h1) (by decide)
  · have h1 : (decide ((μ.1 0 7) = 0)) = true := decide_eq_true (cn_ne.mp h1)
    refine z_rcs hc hH 1 (pc' := 8) (lv' := [(0, .ref 0), (1, .long sd)]) (st' := [.ref 0]) (μ' := μ) (by rfl) ?_
    refine zq_gfi hc hH (by rfl) (ci := 5) (f := 13) (by rfl) (by decide +kernel) (by rfl) ?_
    refine zq_if hc hH (by rfl) (tg := 16) (by rfl) (fun h2 => ?_) (fun h2 => ?_)
    · have h2 : (decide ((μ.1 0 13) = 0)) = true := decide_eq_true (cm_eq9.mp h2)
      exact absurd (Eq.trans (Eq.symm (he)) h2) (by decide)
    · have h2 : (decide ((μ.1 0 13) = 0)) = false := decide_eq_false (cn_eq.mp h2)
      refine z_rcs hc hH 1 (pc' := 15) (lv' := [(0, .ref 0), (1, .long sd)]) (st' := [.int 0]) (μ' := μ) (by rfl) ?_
      exact hr 0 15 _ _ _ (some (.int 0)) (by decide +kernel) (z_rx_ok hH (by rfl)) (⟨rfl, rfl⟩)
theorem mr_discP (d : Nat) (hd : 2 ≤ d) (μ : zM) (x b : Int32) (hp : decide (μ.1 50 44 = 1) = false) : z_C d mi_X7_discard [.ref 50, .int x, .int b] μ (fun r μ' => r = some (.int 0) ∧ μ' = z_ui μ 50 0 0) := by
  refine z_C_in (by decide) (by omega) (fun d' Z ed hc hr => ?_)
  have hH : zH mi_X7_discard zt_X7_discard 79 7 5 := hh_X7_discard
  refine z_rcs hc hH 2 (pc' := 2) (lv' := [(0, .ref 50), (1, .int x), (2, .int b)]) (st' := [.int 0, .ref 50]) (μ' := μ) (by rfl) ?_
  refine zq_pfi hc hH (by rfl) (ci := 6) (f := 0) (by rfl) (by decide +kernel) (by rfl) ?_
  show Z 0 5 [(0, .ref 50), (1, .int x), (2, .int b)] [] (z_ui μ 50 0 0)
  refine z_rcs hc hH 1 (pc' := 6) (lv' := [(0, .ref 50), (1, .int x), (2, .int b)]) (st' := [.ref 50]) (μ' := z_ui μ 50 0 0) (by rfl) ?_
  refine zq_gfi hc hH (by rfl) (ci := 6) (f := 44) (by rfl) (by decide +kernel) (by rfl) ?_
  refine zV1 (Z := Z) (ui_k (by first | decide | omega)) ?_
  refine z_rcs hc hH 1 (pc' := 10) (lv' := [(0, .ref 50), (1, .int x), (2, .int b)]) (st' := [.int 1, .int (μ.1 50 44)]) (μ' := z_ui μ 50 0 0) (by rfl) ?_
  refine zq_ic hc hH (by rfl) (tg := 32) (by rfl) (fun h1 => ?_) (fun h1 => ?_)
  · have h1 : (decide ((μ.1 50 44) = 1)) = false := decide_eq_false (cm_ne.mp h1)
    refine z_rcs hc hH 1 (pc' := 33) (lv' := [(0, .ref 50), (1, .int x), (2, .int b)]) (st' := [.int 0]) (μ' := z_ui μ 50 0 0) (by rfl) ?_
    exact hr 0 33 _ _ _ (some (.int 0)) (by decide +kernel) (z_rx_ok hH (by rfl)) (⟨rfl, rfl⟩)
  · have h1 : (decide ((μ.1 50 44) = 1)) = true := decide_eq_true (cn_ne.mp h1)
    exact absurd (Eq.trans (Eq.symm (hp)) h1) (by decide)
theorem mr_discK (d : Nat) (hd : 2 ≤ d) (μ : zM) (x b : Int32) (hk : ∀ d, 1 ≤ d → z_C d mi_X7_isKind [.int x] (z_ui μ 50 0 0) (zR (z_ui μ 50 0 0) (.int 0))) : z_C d mi_X7_discard [.ref 50, .int x, .int b] μ (fun r μ' => r = some (.int 0) ∧ μ' = z_ui μ 50 0 0) := by
  refine z_C_in (by decide) (by omega) (fun d' Z ed hc hr => ?_)
  have hH : zH mi_X7_discard zt_X7_discard 79 7 5 := hh_X7_discard
  refine z_rcs hc hH 2 (pc' := 2) (lv' := [(0, .ref 50), (1, .int x), (2, .int b)]) (st' := [.int 0, .ref 50]) (μ' := μ) (by rfl) ?_
  refine zq_pfi hc hH (by rfl) (ci := 6) (f := 0) (by rfl) (by decide +kernel) (by rfl) ?_
  show Z 0 5 [(0, .ref 50), (1, .int x), (2, .int b)] [] (z_ui μ 50 0 0)
  refine z_rcs hc hH 1 (pc' := 6) (lv' := [(0, .ref 50), (1, .int x), (2, .int b)]) (st' := [.ref 50]) (μ' := z_ui μ 50 0 0) (by rfl) ?_
  refine zq_gfi hc hH (by rfl) (ci := 6) (f := 44) (by rfl) (by decide +kernel) (by rfl) ?_
  refine zV1 (Z := Z) (ui_k (by first | decide | omega)) ?_
  refine z_rcs hc hH 1 (pc' := 10) (lv' := [(0, .ref 50), (1, .int x), (2, .int b)]) (st' := [.int 1, .int (μ.1 50 44)]) (μ' := z_ui μ 50 0 0) (by rfl) ?_
  refine zq_ic hc hH (by rfl) (tg := 32) (by rfl) (fun h1 => ?_) (fun h1 => ?_)
  · have h1 : (decide ((μ.1 50 44) = 1)) = false := decide_eq_false (cm_ne.mp h1)
    refine z_rcs hc hH 1 (pc' := 33) (lv' := [(0, .ref 50), (1, .int x), (2, .int b)]) (st' := [.int 0]) (μ' := z_ui μ 50 0 0) (by rfl) ?_
    exact hr 0 33 _ _ _ (some (.int 0)) (by decide +kernel) (z_rx_ok hH (by rfl)) (⟨rfl, rfl⟩)
  · have h1 : (decide ((μ.1 50 44) = 1)) = true := decide_eq_true (cn_ne.mp h1)
    refine z_rcs hc hH 1 (pc' := 14) (lv' := [(0, .ref 50), (1, .int x), (2, .int b)]) (st' := [.int x]) (μ' := z_ui μ 50 0 0) (by rfl) ?_
    refine zq_call hc (z_cx_ok hH (by rfl)) (hk d' (by omega)) (by decide +kernel) (fun r9 μ9 hq => ?_)
    obtain ⟨hμ9, rfl⟩ := hq
    rw [hμ9]
    clear hμ9 μ9
    show Z 0 17 [(0, .ref 50), (1, .int x), (2, .int b)] [.int 0] (z_ui μ 50 0 0)
    refine z_rcs hc hH 2 (pc' := 33) (lv' := [(0, .ref 50), (1, .int x), (2, .int b)]) (st' := [.int 0]) (μ' := z_ui μ 50 0 0) (by rfl) ?_
    exact hr 0 33 _ _ _ (some (.int 0)) (by decide +kernel) (z_rx_ok hH (by rfl)) (⟨rfl, rfl⟩)
theorem mr_pass (d : Nat) (hd : 2 ≤ d) (μ : zM) (hp : decide (2 ≤ μ.1 50 44) = false) : z_C d mi_X7_pass [.ref 50] μ (fun r μ' => r = some (.int 0) ∧ μ' = z_ui μ 50 0 0) := by
  refine z_C_in (by decide) (by omega) (fun d' Z ed hc hr => ?_)
  have hH : zH mi_X7_pass zt_X7_pass 79 7 2 := hh_X7_pass
  refine z_rcs hc hH 2 (pc' := 2) (lv' := [(0, .ref 50)]) (st' := [.int 0, .ref 50]) (μ' := μ) (by rfl) ?_
  refine zq_pfi hc hH (by rfl) (ci := 6) (f := 0) (by rfl) (by decide +kernel) (by rfl) ?_
  show Z 0 5 [(0, .ref 50)] [] (z_ui μ 50 0 0)
  refine z_rcs hc hH 1 (pc' := 6) (lv' := [(0, .ref 50)]) (st' := [.ref 50]) (μ' := z_ui μ 50 0 0) (by rfl) ?_
  refine zq_gfi hc hH (by rfl) (ci := 6) (f := 44) (by rfl) (by decide +kernel) (by rfl) ?_
  refine zV1 (Z := Z) (ui_k (by first | decide | omega)) ?_
  refine z_rcs hc hH 1 (pc' := 10) (lv' := [(0, .ref 50)]) (st' := [.int 2, .int (μ.1 50 44)]) (μ' := z_ui μ 50 0 0) (by rfl) ?_
  refine zq_ic hc hH (by rfl) (tg := 15) (by rfl) (fun h1 => ?_) (fun h1 => ?_)
  · have h1 : (decide (2 ≤ (μ.1 50 44))) = true := decide_eq_true (cm_ge.mp h1)
    exact absurd (Eq.trans (Eq.symm (hp)) h1) (by decide)
  · have h1 : (decide (2 ≤ (μ.1 50 44))) = false := decide_eq_false (cn_ge.mp h1)
    refine z_rcs hc hH 1 (pc' := 14) (lv' := [(0, .ref 50)]) (st' := [.int 0]) (μ' := z_ui μ 50 0 0) (by rfl) ?_
    exact hr 0 14 _ _ _ (some (.int 0)) (by decide +kernel) (z_rx_ok hH (by rfl)) (⟨rfl, rfl⟩)
theorem mr_run (d : Nat) (hd : 3 ≤ d) (μ : zM) (y x : Int32) (hmc : ∀ d, 2 ≤ d → z_C d mi_X7_mayClaim [.ref 50, .int y] (z_ui μ 50 0 0) (zR (z_ui μ 50 0 0) (.int 0))) : z_C d mi_X7_run [.ref 50, .int y, .int x] μ (fun r μ' => r = some (.int 0) ∧ μ' = z_ui μ 50 0 0) := by
  refine z_C_in (by decide) (by omega) (fun d' Z ed hc hr => ?_)
  have hH : zH mi_X7_run zt_X7_run 79 7 5 := hh_X7_run
  refine z_rcs hc hH 2 (pc' := 2) (lv' := [(0, .ref 50), (1, .int y), (2, .int x)]) (st' := [.int 0, .ref 50]) (μ' := μ) (by rfl) ?_
  refine zq_pfi hc hH (by rfl) (ci := 6) (f := 0) (by rfl) (by decide +kernel) (by rfl) ?_
  show Z 0 5 [(0, .ref 50), (1, .int y), (2, .int x)] [] (z_ui μ 50 0 0)
  refine z_rcs hc hH 2 (pc' := 7) (lv' := [(0, .ref 50), (1, .int y), (2, .int x)]) (st' := [.int y, .ref 50]) (μ' := z_ui μ 50 0 0) (by rfl) ?_
  refine zq_call hc (z_cx_ok hH (by rfl)) (hmc d' (by omega)) (by decide +kernel) (fun r9 μ9 hq => ?_)
  obtain ⟨hμ9, rfl⟩ := hq
  rw [hμ9]
  clear hμ9 μ9
  show Z 0 10 [(0, .ref 50), (1, .int y), (2, .int x)] [.int 0] (z_ui μ 50 0 0)
  refine z_rcs hc hH 2 (pc' := 51) (lv' := [(0, .ref 50), (1, .int y), (2, .int x)]) (st' := [.int 0]) (μ' := z_ui μ 50 0 0) (by rfl) ?_
  exact hr 0 51 _ _ _ (some (.int 0)) (by decide +kernel) (z_rx_ok hH (by rfl)) (⟨rfl, rfl⟩)
theorem mr_three (d : Nat) (hd : 3 ≤ d) (μ : zM) (y : Int32) (hmc : ∀ d, 2 ≤ d → z_C d mi_X7_mayClaim [.ref 50, .int y] (z_ui μ 50 0 0) (zR (z_ui μ 50 0 0) (.int 0))) : z_C d mi_X7_three [.ref 50, .int y] μ (fun r μ' => r = some (.int 0) ∧ μ' = z_ui μ 50 0 0) := by
  refine z_C_in (by decide) (by omega) (fun d' Z ed hc hr => ?_)
  have hH : zH mi_X7_three zt_X7_three 79 7 3 := hh_X7_three
  refine z_rcs hc hH 2 (pc' := 2) (lv' := [(0, .ref 50), (1, .int y)]) (st' := [.int 0, .ref 50]) (μ' := μ) (by rfl) ?_
  refine zq_pfi hc hH (by rfl) (ci := 6) (f := 0) (by rfl) (by decide +kernel) (by rfl) ?_
  show Z 0 5 [(0, .ref 50), (1, .int y)] [] (z_ui μ 50 0 0)
  refine z_rcs hc hH 2 (pc' := 7) (lv' := [(0, .ref 50), (1, .int y)]) (st' := [.int y, .ref 50]) (μ' := z_ui μ 50 0 0) (by rfl) ?_
  refine zq_call hc (z_cx_ok hH (by rfl)) (hmc d' (by omega)) (by decide +kernel) (fun r9 μ9 hq => ?_)
  obtain ⟨hμ9, rfl⟩ := hq
  rw [hμ9]
  clear hμ9 μ9
  show Z 0 10 [(0, .ref 50), (1, .int y)] [.int 0] (z_ui μ 50 0 0)
  refine z_rcs hc hH 2 (pc' := 27) (lv' := [(0, .ref 50), (1, .int y)]) (st' := [.int 0]) (μ' := z_ui μ 50 0 0) (by rfl) ?_
  exact hr 0 27 _ _ _ (some (.int 0)) (by decide +kernel) (z_rx_ok hH (by rfl)) (⟨rfl, rfl⟩)
theorem mr_four (d : Nat) (hd : 3 ≤ d) (μ : zM) (y : Int32) (hmc : ∀ d, 2 ≤ d → z_C d mi_X7_mayClaim [.ref 50, .int y] (z_ui μ 50 0 0) (zR (z_ui μ 50 0 0) (.int 0))) : z_C d mi_X7_four [.ref 50, .int y] μ (fun r μ' => r = some (.int 0) ∧ μ' = z_ui μ 50 0 0) := by
  refine z_C_in (by decide) (by omega) (fun d' Z ed hc hr => ?_)
  have hH : zH mi_X7_four zt_X7_four 79 7 2 := hh_X7_four
  refine z_rcs hc hH 2 (pc' := 2) (lv' := [(0, .ref 50), (1, .int y)]) (st' := [.int 0, .ref 50]) (μ' := μ) (by rfl) ?_
  refine zq_pfi hc hH (by rfl) (ci := 6) (f := 0) (by rfl) (by decide +kernel) (by rfl) ?_
  show Z 0 5 [(0, .ref 50), (1, .int y)] [] (z_ui μ 50 0 0)
  refine z_rcs hc hH 2 (pc' := 7) (lv' := [(0, .ref 50), (1, .int y)]) (st' := [.int y, .ref 50]) (μ' := z_ui μ 50 0 0) (by rfl) ?_
  refine zq_call hc (z_cx_ok hH (by rfl)) (hmc d' (by omega)) (by decide +kernel) (fun r9 μ9 hq => ?_)
  obtain ⟨hμ9, rfl⟩ := hq
  rw [hμ9]
  clear hμ9 μ9
  show Z 0 10 [(0, .ref 50), (1, .int y)] [.int 0] (z_ui μ 50 0 0)
  refine z_rcs hc hH 2 (pc' := 35) (lv' := [(0, .ref 50), (1, .int y)]) (st' := [.int 0]) (μ' := z_ui μ 50 0 0) (by rfl) ?_
  exact hr 0 35 _ _ _ (some (.int 0)) (by decide +kernel) (z_rx_ok hH (by rfl)) (⟨rfl, rfl⟩)
theorem mr_hide (d : Nat) (hd : 3 ≤ d) (μ : zM) (x : Int32) (hmm : ∀ d, 2 ≤ d → z_C d mi_X7_mayMake [.ref 50] (z_ui μ 50 0 0) (zR (z_ui μ 50 0 0) (.int 0))) : z_C d mi_X7_hide [.ref 50, .int x] μ (fun r μ' => r = some (.int 0) ∧ μ' = z_ui μ 50 0 0) := by
  refine z_C_in (by decide) (by omega) (fun d' Z ed hc hr => ?_)
  have hH : zH mi_X7_hide zt_X7_hide 79 7 2 := hh_X7_hide
  refine z_rcs hc hH 2 (pc' := 2) (lv' := [(0, .ref 50), (1, .int x)]) (st' := [.int 0, .ref 50]) (μ' := μ) (by rfl) ?_
  refine zq_pfi hc hH (by rfl) (ci := 6) (f := 0) (by rfl) (by decide +kernel) (by rfl) ?_
  show Z 0 5 [(0, .ref 50), (1, .int x)] [] (z_ui μ 50 0 0)
  refine z_rcs hc hH 1 (pc' := 6) (lv' := [(0, .ref 50), (1, .int x)]) (st' := [.ref 50]) (μ' := z_ui μ 50 0 0) (by rfl) ?_
  refine zq_call hc (z_cx_ok hH (by rfl)) (hmm d' (by omega)) (by decide +kernel) (fun r9 μ9 hq => ?_)
  obtain ⟨hμ9, rfl⟩ := hq
  rw [hμ9]
  clear hμ9 μ9
  show Z 0 9 [(0, .ref 50), (1, .int x)] [.int 0] (z_ui μ 50 0 0)
  refine z_rcs hc hH 2 (pc' := 33) (lv' := [(0, .ref 50), (1, .int x)]) (st' := [.int 0]) (μ' := z_ui μ 50 0 0) (by rfl) ?_
  exact hr 0 33 _ _ _ (some (.int 0)) (by decide +kernel) (z_rx_ok hH (by rfl)) (⟨rfl, rfl⟩)
theorem mr_hideK (d : Nat) (hd : 3 ≤ d) (μ : zM) (x : Int32) (hmm : ∀ d, 2 ≤ d → z_C d mi_X7_mayMake [.ref 50] (z_ui μ 50 0 0) (zR (z_ui μ 50 0 0) (.int 1))) (hk : ∀ d, 1 ≤ d → z_C d mi_X7_isKind [.int x] (z_ui μ 50 0 0) (zR (z_ui μ 50 0 0) (.int 0))) : z_C d mi_X7_hide [.ref 50, .int x] μ (fun r μ' => r = some (.int 0) ∧ μ' = z_ui μ 50 0 0) := by
  refine z_C_in (by decide) (by omega) (fun d' Z ed hc hr => ?_)
  have hH : zH mi_X7_hide zt_X7_hide 79 7 2 := hh_X7_hide
  refine z_rcs hc hH 2 (pc' := 2) (lv' := [(0, .ref 50), (1, .int x)]) (st' := [.int 0, .ref 50]) (μ' := μ) (by rfl) ?_
  refine zq_pfi hc hH (by rfl) (ci := 6) (f := 0) (by rfl) (by decide +kernel) (by rfl) ?_
  show Z 0 5 [(0, .ref 50), (1, .int x)] [] (z_ui μ 50 0 0)
  refine z_rcs hc hH 1 (pc' := 6) (lv' := [(0, .ref 50), (1, .int x)]) (st' := [.ref 50]) (μ' := z_ui μ 50 0 0) (by rfl) ?_
  refine zq_call hc (z_cx_ok hH (by rfl)) (hmm d' (by omega)) (by decide +kernel) (fun r9 μ9 hq => ?_)
  obtain ⟨hμ9, rfl⟩ := hq
  rw [hμ9]
  clear hμ9 μ9
  show Z 0 9 [(0, .ref 50), (1, .int x)] [.int 1] (z_ui μ 50 0 0)
  refine z_rcs hc hH 2 (pc' := 13) (lv' := [(0, .ref 50), (1, .int x)]) (st' := [.int x]) (μ' := z_ui μ 50 0 0) (by rfl) ?_
  refine zq_call hc (z_cx_ok hH (by rfl)) (hk d' (by omega)) (by decide +kernel) (fun r9 μ9 hq => ?_)
  obtain ⟨hμ9, rfl⟩ := hq
  rw [hμ9]
  clear hμ9 μ9
  show Z 0 16 [(0, .ref 50), (1, .int x)] [.int 0] (z_ui μ 50 0 0)
  refine z_rcs hc hH 2 (pc' := 33) (lv' := [(0, .ref 50), (1, .int x)]) (st' := [.int 0]) (μ' := z_ui μ 50 0 0) (by rfl) ?_
  exact hr 0 33 _ _ _ (some (.int 0)) (by decide +kernel) (z_rx_ok hH (by rfl)) (⟨rfl, rfl⟩)
theorem mr_add (d : Nat) (hd : 3 ≤ d) (μ : zM) (x : Int32) (hmm : ∀ d, 2 ≤ d → z_C d mi_X7_mayMake [.ref 50] (z_ui μ 50 0 0) (zR (z_ui μ 50 0 0) (.int 0))) : z_C d mi_X7_add [.ref 50, .int x] μ (fun r μ' => r = some (.int 0) ∧ μ' = z_ui μ 50 0 0) := by
  refine z_C_in (by decide) (by omega) (fun d' Z ed hc hr => ?_)
  have hH : zH mi_X7_add zt_X7_add 79 7 3 := hh_X7_add
  refine z_rcs hc hH 2 (pc' := 2) (lv' := [(0, .ref 50), (1, .int x)]) (st' := [.int 0, .ref 50]) (μ' := μ) (by rfl) ?_
  refine zq_pfi hc hH (by rfl) (ci := 6) (f := 0) (by rfl) (by decide +kernel) (by rfl) ?_
  show Z 0 5 [(0, .ref 50), (1, .int x)] [] (z_ui μ 50 0 0)
  refine z_rcs hc hH 1 (pc' := 6) (lv' := [(0, .ref 50), (1, .int x)]) (st' := [.ref 50]) (μ' := z_ui μ 50 0 0) (by rfl) ?_
  refine zq_call hc (z_cx_ok hH (by rfl)) (hmm d' (by omega)) (by decide +kernel) (fun r9 μ9 hq => ?_)
  obtain ⟨hμ9, rfl⟩ := hq
  rw [hμ9]
  clear hμ9 μ9
  show Z 0 9 [(0, .ref 50), (1, .int x)] [.int 0] (z_ui μ 50 0 0)
  refine z_rcs hc hH 2 (pc' := 32) (lv' := [(0, .ref 50), (1, .int x)]) (st' := [.int 0]) (μ' := z_ui μ 50 0 0) (by rfl) ?_
  exact hr 0 32 _ _ _ (some (.int 0)) (by decide +kernel) (z_rx_ok hH (by rfl)) (⟨rfl, rfl⟩)
theorem mr_addK (d : Nat) (hd : 3 ≤ d) (μ : zM) (x : Int32) (hmm : ∀ d, 2 ≤ d → z_C d mi_X7_mayMake [.ref 50] (z_ui μ 50 0 0) (zR (z_ui μ 50 0 0) (.int 1))) (hk : ∀ d, 1 ≤ d → z_C d mi_X7_isKind [.int x] (z_ui μ 50 0 0) (zR (z_ui μ 50 0 0) (.int 0))) : z_C d mi_X7_add [.ref 50, .int x] μ (fun r μ' => r = some (.int 0) ∧ μ' = z_ui μ 50 0 0) := by
  refine z_C_in (by decide) (by omega) (fun d' Z ed hc hr => ?_)
  have hH : zH mi_X7_add zt_X7_add 79 7 3 := hh_X7_add
  refine z_rcs hc hH 2 (pc' := 2) (lv' := [(0, .ref 50), (1, .int x)]) (st' := [.int 0, .ref 50]) (μ' := μ) (by rfl) ?_
  refine zq_pfi hc hH (by rfl) (ci := 6) (f := 0) (by rfl) (by decide +kernel) (by rfl) ?_
  show Z 0 5 [(0, .ref 50), (1, .int x)] [] (z_ui μ 50 0 0)
  refine z_rcs hc hH 1 (pc' := 6) (lv' := [(0, .ref 50), (1, .int x)]) (st' := [.ref 50]) (μ' := z_ui μ 50 0 0) (by rfl) ?_
  refine zq_call hc (z_cx_ok hH (by rfl)) (hmm d' (by omega)) (by decide +kernel) (fun r9 μ9 hq => ?_)
  obtain ⟨hμ9, rfl⟩ := hq
  rw [hμ9]
  clear hμ9 μ9
  show Z 0 9 [(0, .ref 50), (1, .int x)] [.int 1] (z_ui μ 50 0 0)
  refine z_rcs hc hH 2 (pc' := 13) (lv' := [(0, .ref 50), (1, .int x)]) (st' := [.int x]) (μ' := z_ui μ 50 0 0) (by rfl) ?_
  refine zq_call hc (z_cx_ok hH (by rfl)) (hk d' (by omega)) (by decide +kernel) (fun r9 μ9 hq => ?_)
  obtain ⟨hμ9, rfl⟩ := hq
  rw [hμ9]
  clear hμ9 μ9
  show Z 0 16 [(0, .ref 50), (1, .int x)] [.int 0] (z_ui μ 50 0 0)
  refine z_rcs hc hH 2 (pc' := 32) (lv' := [(0, .ref 50), (1, .int x)]) (st' := [.int 0]) (μ' := z_ui μ 50 0 0) (by rfl) ?_
  exact hr 0 32 _ _ _ (some (.int 0)) (by decide +kernel) (z_rx_ok hH (by rfl)) (⟨rfl, rfl⟩)
theorem mr_winP (d : Nat) (hd : 2 ≤ d) (μ : zM) (hp : decide (μ.1 50 44 = 1) = false) : z_C d mi_X7_win [.ref 50] μ (fun r μ' => r = some (.int 0) ∧ μ' = z_ui μ 50 0 0) := by
  refine z_C_in (by decide) (by omega) (fun d' Z ed hc hr => ?_)
  have hH : zH mi_X7_win zt_X7_win 79 7 4 := hh_X7_win
  refine z_rcs hc hH 2 (pc' := 2) (lv' := [(0, .ref 50)]) (st' := [.int 0, .ref 50]) (μ' := μ) (by rfl) ?_
  refine zq_pfi hc hH (by rfl) (ci := 6) (f := 0) (by rfl) (by decide +kernel) (by rfl) ?_
  show Z 0 5 [(0, .ref 50)] [] (z_ui μ 50 0 0)
  refine z_rcs hc hH 1 (pc' := 6) (lv' := [(0, .ref 50)]) (st' := [.ref 50]) (μ' := z_ui μ 50 0 0) (by rfl) ?_
  refine zq_gfi hc hH (by rfl) (ci := 6) (f := 44) (by rfl) (by decide +kernel) (by rfl) ?_
  refine zV1 (Z := Z) (ui_k (by first | decide | omega)) ?_
  refine z_rcs hc hH 1 (pc' := 10) (lv' := [(0, .ref 50)]) (st' := [.int 1, .int (μ.1 50 44)]) (μ' := z_ui μ 50 0 0) (by rfl) ?_
  refine zq_ic hc hH (by rfl) (tg := 20) (by rfl) (fun h1 => ?_) (fun h1 => ?_)
  · have h1 : (decide ((μ.1 50 44) = 1)) = false := decide_eq_false (cm_ne.mp h1)
    refine z_rcs hc hH 1 (pc' := 21) (lv' := [(0, .ref 50)]) (st' := [.int 0]) (μ' := z_ui μ 50 0 0) (by rfl) ?_
    exact hr 0 21 _ _ _ (some (.int 0)) (by decide +kernel) (z_rx_ok hH (by rfl)) (⟨rfl, rfl⟩)
  · have h1 : (decide ((μ.1 50 44) = 1)) = true := decide_eq_true (cn_ne.mp h1)
    exact absurd (Eq.trans (Eq.symm (hp)) h1) (by decide)
theorem mr_winT (d : Nat) (hd : 2 ≤ d) (μ : zM) (hp : decide (μ.1 50 44 = 1) = true) (hj : decide (μ.1 50 57 = 0) = false) : z_C d mi_X7_win [.ref 50] μ (fun r μ' => r = some (.int 0) ∧ μ' = z_ui μ 50 0 0) := by
  refine z_C_in (by decide) (by omega) (fun d' Z ed hc hr => ?_)
  have hH : zH mi_X7_win zt_X7_win 79 7 4 := hh_X7_win
  refine z_rcs hc hH 2 (pc' := 2) (lv' := [(0, .ref 50)]) (st' := [.int 0, .ref 50]) (μ' := μ) (by rfl) ?_
  refine zq_pfi hc hH (by rfl) (ci := 6) (f := 0) (by rfl) (by decide +kernel) (by rfl) ?_
  show Z 0 5 [(0, .ref 50)] [] (z_ui μ 50 0 0)
  refine z_rcs hc hH 1 (pc' := 6) (lv' := [(0, .ref 50)]) (st' := [.ref 50]) (μ' := z_ui μ 50 0 0) (by rfl) ?_
  refine zq_gfi hc hH (by rfl) (ci := 6) (f := 44) (by rfl) (by decide +kernel) (by rfl) ?_
  refine zV1 (Z := Z) (ui_k (by first | decide | omega)) ?_
  refine z_rcs hc hH 1 (pc' := 10) (lv' := [(0, .ref 50)]) (st' := [.int 1, .int (μ.1 50 44)]) (μ' := z_ui μ 50 0 0) (by rfl) ?_
  refine zq_ic hc hH (by rfl) (tg := 20) (by rfl) (fun h1 => ?_) (fun h1 => ?_)
  · have h1 : (decide ((μ.1 50 44) = 1)) = false := decide_eq_false (cm_ne.mp h1)
    exact absurd (Eq.trans (Eq.symm (hp)) h1) (by decide)
  · have h1 : (decide ((μ.1 50 44) = 1)) = true := decide_eq_true (cn_ne.mp h1)
    refine z_rcs hc hH 1 (pc' := 14) (lv' := [(0, .ref 50)]) (st' := [.ref 50]) (μ' := z_ui μ 50 0 0) (by rfl) ?_
    refine zq_gfi hc hH (by rfl) (ci := 6) (f := 57) (by rfl) (by decide +kernel) (by rfl) ?_
    refine zV1 (Z := Z) (ui_k (by first | decide | omega)) ?_
    refine zq_if hc hH (by rfl) (tg := 22) (by rfl) (fun h2 => ?_) (fun h2 => ?_)
    · have h2 : (decide ((μ.1 50 57) = 0)) = true := decide_eq_true (cm_eq9.mp h2)
      exact absurd (Eq.trans (Eq.symm (hj)) h2) (by decide)
    · have h2 : (decide ((μ.1 50 57) = 0)) = false := decide_eq_false (cn_eq.mp h2)
      refine z_rcs hc hH 1 (pc' := 21) (lv' := [(0, .ref 50)]) (st' := [.int 0]) (μ' := z_ui μ 50 0 0) (by rfl) ?_
      exact hr 0 21 _ _ _ (some (.int 0)) (by decide +kernel) (z_rx_ok hH (by rfl)) (⟨rfl, rfl⟩)
theorem mr_claimP (d : Nat) (hd : 2 ≤ d) (μ : zM) (y : Int32) (hp : decide (μ.1 50 44 < 2) = true) : z_C d mi_X7_claim [.ref 50, .int y] μ (fun r μ' => r = some (.int 0) ∧ μ' = z_ui μ 50 0 0) := by
  refine z_C_in (by decide) (by omega) (fun d' Z ed hc hr => ?_)
  have hH : zH mi_X7_claim zt_X7_claim 79 7 5 := hh_X7_claim
  refine z_rcs hc hH 2 (pc' := 2) (lv' := [(0, .ref 50), (1, .int y)]) (st' := [.int 0, .ref 50]) (μ' := μ) (by rfl) ?_
  refine zq_pfi hc hH (by rfl) (ci := 6) (f := 0) (by rfl) (by decide +kernel) (by rfl) ?_
  show Z 0 5 [(0, .ref 50), (1, .int y)] [] (z_ui μ 50 0 0)
  refine z_rcs hc hH 1 (pc' := 6) (lv' := [(0, .ref 50), (1, .int y)]) (st' := [.ref 50]) (μ' := z_ui μ 50 0 0) (by rfl) ?_
  refine zq_gfi hc hH (by rfl) (ci := 6) (f := 44) (by rfl) (by decide +kernel) (by rfl) ?_
  refine zV1 (Z := Z) (ui_k (by first | decide | omega)) ?_
  refine z_rcs hc hH 1 (pc' := 10) (lv' := [(0, .ref 50), (1, .int y)]) (st' := [.int 2, .int (μ.1 50 44)]) (μ' := z_ui μ 50 0 0) (by rfl) ?_
  refine zq_ic hc hH (by rfl) (tg := 46) (by rfl) (fun h1 => ?_) (fun h1 => ?_)
  · have h1 : (decide ((μ.1 50 44) < 2)) = true := decide_eq_true (cm_lt.mp h1)
    refine z_rcs hc hH 1 (pc' := 47) (lv' := [(0, .ref 50), (1, .int y)]) (st' := [.int 0]) (μ' := z_ui μ 50 0 0) (by rfl) ?_
    exact hr 0 47 _ _ _ (some (.int 0)) (by decide +kernel) (z_rx_ok hH (by rfl)) (⟨rfl, rfl⟩)
  · have h1 : (decide ((μ.1 50 44) < 2)) = false := decide_eq_false (cn_lt.mp h1)
    exact absurd (Eq.trans (Eq.symm (hp)) h1) (by decide)
theorem mr_claimS (d : Nat) (hd : 2 ≤ d) (μ : zM) (y : Int32) (hs : ∀ d, 1 ≤ d → z_C d mi_X7_isSeat [.int y] (z_ui μ 50 0 0) (zR (z_ui μ 50 0 0) (.int 0))) : z_C d mi_X7_claim [.ref 50, .int y] μ (fun r μ' => r = some (.int 0) ∧ μ' = z_ui μ 50 0 0) := by
  refine z_C_in (by decide) (by omega) (fun d' Z ed hc hr => ?_)
  have hH : zH mi_X7_claim zt_X7_claim 79 7 5 := hh_X7_claim
  refine z_rcs hc hH 2 (pc' := 2) (lv' := [(0, .ref 50), (1, .int y)]) (st' := [.int 0, .ref 50]) (μ' := μ) (by rfl) ?_
  refine zq_pfi hc hH (by rfl) (ci := 6) (f := 0) (by rfl) (by decide +kernel) (by rfl) ?_
  show Z 0 5 [(0, .ref 50), (1, .int y)] [] (z_ui μ 50 0 0)
  refine z_rcs hc hH 1 (pc' := 6) (lv' := [(0, .ref 50), (1, .int y)]) (st' := [.ref 50]) (μ' := z_ui μ 50 0 0) (by rfl) ?_
  refine zq_gfi hc hH (by rfl) (ci := 6) (f := 44) (by rfl) (by decide +kernel) (by rfl) ?_
  refine zV1 (Z := Z) (ui_k (by first | decide | omega)) ?_
  refine z_rcs hc hH 1 (pc' := 10) (lv' := [(0, .ref 50), (1, .int y)]) (st' := [.int 2, .int (μ.1 50 44)]) (μ' := z_ui μ 50 0 0) (by rfl) ?_
  refine zq_ic hc hH (by rfl) (tg := 46) (by rfl) (fun h1 => ?_) (fun h1 => ?_)
  · have h1 : (decide ((μ.1 50 44) < 2)) = true := decide_eq_true (cm_lt.mp h1)
    refine z_rcs hc hH 1 (pc' := 47) (lv' := [(0, .ref 50), (1, .int y)]) (st' := [.int 0]) (μ' := z_ui μ 50 0 0) (by rfl) ?_
    exact hr 0 47 _ _ _ (some (.int 0)) (by decide +kernel) (z_rx_ok hH (by rfl)) (⟨rfl, rfl⟩)
  · have h1 : (decide ((μ.1 50 44) < 2)) = false := decide_eq_false (cn_lt.mp h1)
    refine z_rcs hc hH 1 (pc' := 14) (lv' := [(0, .ref 50), (1, .int y)]) (st' := [.int y]) (μ' := z_ui μ 50 0 0) (by rfl) ?_
    refine zq_call hc (z_cx_ok hH (by rfl)) (hs d' (by omega)) (by decide +kernel) (fun r9 μ9 hq => ?_)
    obtain ⟨hμ9, rfl⟩ := hq
    rw [hμ9]
    clear hμ9 μ9
    show Z 0 17 [(0, .ref 50), (1, .int y)] [.int 0] (z_ui μ 50 0 0)
    refine z_rcs hc hH 2 (pc' := 47) (lv' := [(0, .ref 50), (1, .int y)]) (st' := [.int 0]) (μ' := z_ui μ 50 0 0) (by rfl) ?_
    exact hr 0 47 _ _ _ (some (.int 0)) (by decide +kernel) (z_rx_ok hH (by rfl)) (⟨rfl, rfl⟩)
theorem mr_dealP (d : Nat) (hd : 2 ≤ d) (μ : zM) (sd : Int64) (hp : decide (μ.1 50 44 = 0) = false) : z_C d mi_X7_deal [.ref 50, .long sd] μ (fun r μ' => r = some (.int 0) ∧ μ' = z_ui μ 50 0 0) := by
  refine z_C_in (by decide) (by omega) (fun d' Z ed hc hr => ?_)
  have hH : zH mi_X7_deal zt_X7_deal 79 7 8 := hh_X7_deal
  refine z_rcs hc hH 2 (pc' := 2) (lv' := [(0, .ref 50), (1, .long sd)]) (st' := [.int 0, .ref 50]) (μ' := μ) (by rfl) ?_
  refine zq_pfi hc hH (by rfl) (ci := 6) (f := 0) (by rfl) (by decide +kernel) (by rfl) ?_
  show Z 0 5 [(0, .ref 50), (1, .long sd)] [] (z_ui μ 50 0 0)
  refine z_rcs hc hH 1 (pc' := 6) (lv' := [(0, .ref 50), (1, .long sd)]) (st' := [.ref 50]) (μ' := z_ui μ 50 0 0) (by rfl) ?_
  refine zq_gfi hc hH (by rfl) (ci := 6) (f := 44) (by rfl) (by decide +kernel) (by rfl) ?_
  refine zV1 (Z := Z) (ui_k (by first | decide | omega)) ?_
  refine zq_if hc hH (by rfl) (tg := 19) (by rfl) (fun h1 => ?_) (fun h1 => ?_)
  · have h1 : (decide ((μ.1 50 44) = 0)) = false := decide_eq_false (cm_ne.mp h1)
    refine z_rcs hc hH 1 (pc' := 20) (lv' := [(0, .ref 50), (1, .long sd)]) (st' := [.int 0]) (μ' := z_ui μ 50 0 0) (by rfl) ?_
    exact hr 0 20 _ _ _ (some (.int 0)) (by decide +kernel) (z_rx_ok hH (by rfl)) (⟨rfl, rfl⟩)
  · have h1 : (decide ((μ.1 50 44) = 0)) = true := decide_eq_true (cn_ne.mp h1)
    exact absurd (Eq.trans (Eq.symm (hp)) h1) (by decide)
theorem mr_dealE (d : Nat) (hd : 2 ≤ d) (μ : zM) (sd : Int64) (hp : decide (μ.1 50 44 = 0) = true) (he : decide (μ.1 50 54 = 0) = false) : z_C d mi_X7_deal [.ref 50, .long sd] μ (fun r μ' => r = some (.int 0) ∧ μ' = z_ui μ 50 0 0) := by
  refine z_C_in (by decide) (by omega) (fun d' Z ed hc hr => ?_)
  have hH : zH mi_X7_deal zt_X7_deal 79 7 8 := hh_X7_deal
  refine z_rcs hc hH 2 (pc' := 2) (lv' := [(0, .ref 50), (1, .long sd)]) (st' := [.int 0, .ref 50]) (μ' := μ) (by rfl) ?_
  refine zq_pfi hc hH (by rfl) (ci := 6) (f := 0) (by rfl) (by decide +kernel) (by rfl) ?_
  show Z 0 5 [(0, .ref 50), (1, .long sd)] [] (z_ui μ 50 0 0)
  refine z_rcs hc hH 1 (pc' := 6) (lv' := [(0, .ref 50), (1, .long sd)]) (st' := [.ref 50]) (μ' := z_ui μ 50 0 0) (by rfl) ?_
  refine zq_gfi hc hH (by rfl) (ci := 6) (f := 44) (by rfl) (by decide +kernel) (by rfl) ?_
  refine zV1 (Z := Z) (ui_k (by first | decide | omega)) ?_
  refine zq_if hc hH (by rfl) (tg := 19) (by rfl) (fun h1 => ?_) (fun h1 => ?_)
  · have h1 : (decide ((μ.1 50 44) = 0)) = false := decide_eq_false (cm_ne.mp h1)
    exact absurd (Eq.trans (Eq.symm (hp)) h1) (by decide)
  · have h1 : (decide ((μ.1 50 44) = 0)) = true := decide_eq_true (cn_ne.mp h1)
    refine z_rcs hc hH 1 (pc' := 13) (lv' := [(0, .ref 50), (1, .long sd)]) (st' := [.ref 50]) (μ' := z_ui μ 50 0 0) (by rfl) ?_
    refine zq_gfi hc hH (by rfl) (ci := 6) (f := 54) (by rfl) (by decide +kernel) (by rfl) ?_
    refine zV1 (Z := Z) (ui_k (by first | decide | omega)) ?_
    refine zq_if hc hH (by rfl) (tg := 21) (by rfl) (fun h2 => ?_) (fun h2 => ?_)
    · have h2 : (decide ((μ.1 50 54) = 0)) = true := decide_eq_true (cm_eq9.mp h2)
      exact absurd (Eq.trans (Eq.symm (he)) h2) (by decide)
    · have h2 : (decide ((μ.1 50 54) = 0)) = false := decide_eq_false (cn_eq.mp h2)
      refine z_rcs hc hH 1 (pc' := 20) (lv' := [(0, .ref 50), (1, .long sd)]) (st' := [.int 0]) (μ' := z_ui μ 50 0 0) (by rfl) ?_
      exact hr 0 20 _ _ _ (some (.int 0)) (by decide +kernel) (z_rx_ok hH (by rfl)) (⟨rfl, rfl⟩)
/-! between calls: both games -/
set_option maxRecDepth 8000
noncomputable def LGm (μ : zM) : Prop := LJ μ ∧ RG μ μ
noncomputable def md_x (md : List (Nat × Nat)) : Bool := md.all (fun q => Nat.blt q.1 50)
noncomputable def md_m (md : List (Nat × Nat)) : Bool := md.all (fun q => Nat.ble 50 q.1)
theorem fz_out {md : List (Nat × Nat)} {r k : Nat} (h : ∀ q ∈ md, q.1 ≠ r) : a_md md r k = false := by
  unfold a_md
  rw [List.any_eq_false]
  intro q hq hb
  exact h q hq (z_beq (z_and hb).1)
theorem fz_EqM {md : List (Nat × Nat)} {μ μ1 : zM} (h : a_Fz md μ μ1) (hx : md_x md = true) : EqM μ μ1 := fun r k g => h.1 r k (fz_out (fun q hq e => by
  have := Nat.blt_eq.mp (List.all_eq_true.mp hx q hq)
  unfold gMc at g
  omega))
theorem fz_EqX {md : List (Nat × Nat)} {μ μ1 : zM} (h : a_Fz md μ μ1) (hx : md_m md = true) : EqX μ μ1 := fun r k g => h.1 r k (fz_out (fun q hq e => by
  have := Nat.le_of_ble_eq_true (List.all_eq_true.mp hx q hq)
  unfold gXc at g
  omega))
theorem eqX_rf (μ : zM) : EqX μ μ := fun _ _ _ => ⟨rfl, rfl⟩
theorem eqM_rf (μ : zM) : EqM μ μ := fun _ _ _ => ⟨rfl, rfl⟩
theorem sm_EqM {a b : zM} (h : SMj a b) : EqM a b := fun r k g => h r k (by unfold gMc at g; omega)
theorem t0_EqM (μ : zM) (v : Int32) : EqM μ (z_ui μ 50 0 v) := fun r k g => ⟨by
  unfold gMc at g
  by_cases e : r = 50
  · exact ui_k (by first | decide | omega)
  · exact ui_o e, rfl⟩
theorem t0_EqX (μ : zM) (v : Int32) : EqX μ (z_ui μ 50 0 v) := fun r k g => ⟨by
  unfold gXc at g
  exact ui_o (by first | decide | omega), rfl⟩
/-- a call of the class by its old contract: what holds between calls, and the reference's cells as they were -/
theorem lg_k {d i : Nat} {K : aQ} (hk : (a_Ks.take 139)[i]? = some K) (hd : 695 ≤ d) (h1 : md_ok K.2.2.2.1 = true) (h2 : (md_rd K.2.2.2.1 && md_r3 K.2.2.2.1) = true) (h3 : K.2.2.1 = []) (hx : md_x K.2.2.2.1 = true) (As : List Value) (μ : zM) (h : LJ μ) (ha : aArg K.2.1 As) : z_C d K.1 As μ (fun _ μ' => LJ μ' ∧ EqM μ μ') := z_C_mono (a_use hk hd As μ (aArg_pre ha h3) h.1.1) (fun _ μ' q => ⟨h.keep q.1 q.2.1 h1 h2, fz_EqM q.2.1 hx⟩)
theorem md_G_m : md_m md_G = true := by decide +kernel
/-- a call of the reference's game by its old contract -/
theorem lg_g {d j : Nat} {As : List Value} {μ : zM} (h : LJ μ) (hc : z_C d j As μ (zPG μ)) : z_C d j As μ (fun _ μ' => LJ μ' ∧ EqX μ μ') := z_C_mono hc (fun _ μ' q => ⟨⟨q.2.1, h.2.elim fun n hn => ⟨n, hn.1.fz q.2.2 (by decide), hn.2.fz q.2.2 (by decide)⟩⟩, fz_EqX q.2.2 md_G_m⟩)
/-- refused by both -/
theorem lg_no {μ μ2 : zM} (hR : RG μ μ) (e : μ2 = z_ui μ 50 0 0) (hL : LJ μ2) : LGm μ2 := ⟨hL, by rw [e]; exact hR.cg (t0_EqX _ _) (t0_EqM _ _)⟩
theorem lg_deal {d : Nat} (hd : 704 ≤ d) {μ : zM} (h : LGm μ) (sd : Int64) : z_C d mi_X6_deal [.ref 0, .long sd] μ (fun r μ1 => LJ μ1 ∧ ∃ y, r = some (.int y) ∧ z_C d mi_X7_deal [.ref 50, .long sd] μ1 (fun r2 μ2 => LGm μ2 ∧ r2 = some (.int y))) := by
  obtain ⟨hJ, hR⟩ := h
  have kx : z_C d mi_X6_deal [.ref 0, .long sd] μ (fun _ μ' => LJ μ' ∧ EqM μ μ') := lg_k (i := 58) (K := ak_58) rfl (by omega) (by decide) (by decide) rfl (by decide) [.ref 0, .long sd] μ hJ ⟨⟨0, by decide, rfl⟩, ⟨_, rfl, a_topj _⟩, trivial⟩
  have km : ∀ μ1, LJ μ1 → z_C d mi_X7_deal [.ref 50, .long sd] μ1 (fun _ μ' => LJ μ' ∧ EqX μ1 μ') := fun μ1 h1 => lg_g h1 (fc_X7_deal d (by omega) μ1 sd h1.1)
  have no : z_C d mi_X6_deal [.ref 0, .long sd] μ (fun r μ' => r = some (.int 0) ∧ μ' = μ) → z_C d mi_X7_deal [.ref 50, .long sd] μ (fun r μ' => r = some (.int 0) ∧ μ' = z_ui μ 50 0 0) → z_C d mi_X6_deal [.ref 0, .long sd] μ (fun r μ1 => LJ μ1 ∧ ∃ y, r = some (.int y) ∧ z_C d mi_X7_deal [.ref 50, .long sd] μ1 (fun r2 μ2 => LGm μ2 ∧ r2 = some (.int y))) := fun c1 c2 => z_C_mono (zC_and d kx c1) (fun r μ1 q => by
    obtain ⟨⟨q1, _⟩, q2, rfl⟩ := q
    exact ⟨q1, 0, q2, z_C_mono (zC_and d (km _ q1) c2) (fun r2 μ2 z => ⟨lg_no hR z.2.2 z.1.1, z.2.1⟩)⟩)
  rcases hR.2 with ⟨p1, p2, p3, p4, p5⟩ | ⟨p, t, c, P⟩
  · by_cases e : μ.1 0 13 = 0
    · obtain ⟨dl, hdl4, hdl⟩ := dealer_nI hJ.1.1
      refine z_C_mono (zC_and d kx (gc_deal d (by omega) μ sd dl (hR.1.dl.trans hdl) hdl4 (decide_eq_true p1) (decide_eq_true e))) (fun r μ1 q => ?_)
      obtain ⟨⟨q1, qM⟩, q2, x3, hX, q3⟩ := q
      refine ⟨q1, 1, q2, ?_⟩
      have m40 : μ1.1 50 40 = nI dl := ((qM 50 40 (Or.inr ⟨rfl, by decide, by decide⟩)).1).trans hdl
      refine z_C_mono (zC_and d (km μ1 q1) (gm_deal d (by omega) μ1 sd dl m40 hdl4 (decide_eq_true (((qM 50 44 (Or.inr ⟨rfl, by decide, by decide⟩)).1).trans p2)) (decide_eq_true (((qM 50 54 (Or.inr ⟨rfl, by decide, by decide⟩)).1).trans (hR.1.en.symm.trans e))))) (fun r2 μ2 z => ?_)
      obtain ⟨⟨z1, zX⟩, z2, m3, hM, z3⟩ := z
      refine ⟨⟨z1, ?_⟩, z2⟩
      have g := rg_dealt (x := μ) (m := μ1) ((hR.cg (eqX_rf _) qM).1) ⟨hX, hM⟩ hdl4 m40
      rw [← q3, ← z3] at g
      exact g.cg zX (eqM_rf _)
    · exact no (gx_dealE d (by omega) μ sd (decide_eq_true p1) (decide_eq_false e)) (mr_dealE d (by omega) μ sd (decide_eq_true p2) (decide_eq_false (fun q => e (hR.1.en.trans q))))
  · have hp : ∀ v : Int32, v = nI p → ¬ v = 0 := fun v hv => by
      rcases P.p3 with q | q | q <;> (rw [hv, q]; decide)
    exact no (gx_dealP d (by omega) μ sd (decide_eq_false (hp _ P.px))) (mr_dealP d (by omega) μ sd (decide_eq_false (hp _ P.pm)))
