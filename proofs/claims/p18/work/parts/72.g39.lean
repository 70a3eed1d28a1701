/-! the relation is kept: all that said so win -/
set_option maxRecDepth 8000
noncomputable def wa001 (W3 : zM) (t dl u1 u2 u3 : Nat) (v3 : Q4) (μ : zM) : zM := z_ui (rcW (z_ui (z_ui W3 (18 + 8 * t) 4 ((μ.1 (18 + 8 * t) 4) - ((hnd (v3.1 * (bif decide ((nI u3) = (nI dl)) then (6 : Int32) else 4))) + (300 * (μ.1 0 11))))) (18 + 8 * u3) 4 ((μ.1 (18 + 8 * u3) 4) + (((hnd (v3.1 * (bif decide ((nI u3) = (nI dl)) then (6 : Int32) else 4))) + (300 * (μ.1 0 11))) + ((μ.1 0 12) * 1000)))) 0 (nI u3) (nI t) (((hnd (v3.1 * (bif decide ((nI u3) = (nI dl)) then (6 : Int32) else 4))) + (300 * (μ.1 0 11))) + ((μ.1 0 12) * 1000))) 0 12 0
theorem wA001_p (W : zM) (t dl e u1 u2 u3 : Nat) (v3 : Q4) (x : zM) : wA001 W t dl e u1 u2 u3 v3 x = eHB (wa001 W t dl u1 u2 u3 v3 x) (decide ((nI u3) = (nI dl))) (!(decide ((nI u3) = (nI dl)))) (xBk (wa001 W t dl u1 u2 u3 v3 x)) dl e (rcM (wa001 W t dl u1 u2 u3 v3 x)) := rfl
noncomputable def aq001 (μ N3 : zM) (t dl c u1 u2 u3 : Nat) : zM := z_ui (z_ui (z_ui (z_ui (z_ui (z_ui (z_ui (z_uj (z_ui (z_ui (z_ui (z_ui (z_ui (z_ui (z_ui (z_ui μ 50 53 0) 72 0 (nI u3)) 72 1 (nI t)) 72 2 (N3.1 50 13)) 72 3 (N3.1 50 14)) 72 4 (N3.1 50 15)) 72 5 0) 72 6 (nI c)) 73 0 (N3.2.1 50 17)) 61 t ((μ.1 61 t) - ((hnd ((N3.1 50 13) * (bif decide ((nI u3) = (nI dl)) then (6 : Int32) else 4))) + (300 * (μ.1 50 42))))) 61 u3 ((μ.1 61 u3) + ((hnd ((N3.1 50 13) * (bif decide ((nI u3) = (nI dl)) then (6 : Int32) else 4))) + (300 * (μ.1 50 42))))) 72 5 (0 + ((hnd ((N3.1 50 13) * (bif decide ((nI u3) = (nI dl)) then (6 : Int32) else 4))) + (300 * (μ.1 50 42))))) 50 53 1) 61 u3 (((μ.1 61 u3) + ((hnd ((N3.1 50 13) * (bif decide ((nI u3) = (nI dl)) then (6 : Int32) else 4))) + (300 * (μ.1 50 42)))) + (1000 * (μ.1 50 43)))) 72 5 ((0 + ((hnd ((N3.1 50 13) * (bif decide ((nI u3) = (nI dl)) then (6 : Int32) else 4))) + (300 * (μ.1 50 42)))) + (1000 * (μ.1 50 43)))) 50 43 0
theorem aM001_p (m N3 : zM) (t dl e c u1 u2 u3 : Nat) : aM001 m N3 t dl e c u1 u2 u3 = eMB (aq001 m N3 t dl c u1 u2 u3) (decide ((nI u3) = (nI dl))) (decide ((nI u3) = (nI dl))) dl e := rfl
theorem rc_aw001 {x m W3 N3 : zM} {v3 : Q4} (R : RCl x m) {t dl c u1 u2 u3 : Nat} (ht : t < 4) (hu1 : (t + 1) % 4 = u1) (hu2 : (t + 2) % 4 = u2) (hu3 : (t + 3) % 4 = u3) (hc : x.1 0 15 = nI c) (hO3 : WOj (x) W3) (hv3 : bqJ W3 = v3) (hb3 : v3.1 = N3.1 50 13) (hh3 : v3.2.1 = N3.1 50 14) (hf3 : v3.2.2.2 = N3.2.1 50 17) (hq3 : v3.2.2.1 = N3.1 50 15) : RCl (wa001 W3 t dl u1 u2 u3 v3 x) (aq001 m N3 t dl c u1 u2 u3) := by
  have o3 := fun r k h => (hO3 r k h).1
  have j3 := fun r k h => (hO3 r k h).2
  have a3 : W3.1 4 0 = N3.1 50 13 := (congrArg (fun q => q.1) hv3).trans hb3
  have b3 : W3.1 4 1 = N3.1 50 14 := (congrArg (fun q => q.2.1) hv3).trans hh3
  have d3 : W3.2.1 4 3 = N3.2.1 50 17 := (congrArg (fun q => q.2.2.2) hv3).trans hf3
  have p3 : W3.1 4 2 = N3.1 50 15 := (congrArg (fun q => q.2.2.1) hv3).trans hq3
  clear hO3
  have h1 : u1 < 4 := by omega
  have h2 : u2 < 4 := by omega
  have h3 : u3 < 4 := by omega
  have et := R.pt t ht
  have eu1 := R.pt u1 h1
  have eu2 := R.pt u2 h2
  have eu3 := R.pt u3 h3
  have est := R.st
  have ebt := R.bt
  unfold wa001 aq001
  unfold rcW at *
  exact ⟨(by simp (disch := first | decide | exact ad_ne (by decide) | exact ad_m (by decide) | exact ad_l (by decide) | exact ad_g (by decide) | exact ad_lt (by decide) | exact ad_o (by decide) | omega) only [↓ui_s, ↓uj_s, ↓ui_o, ↓ui_k, ↓uj_o, ↓uj_k, ↓ui_j, ↓uj_i, ↓o3, ↓j3, ui_s, uj_s, ui_o, ui_k, uj_o, uj_k, ui_j, uj_i, o3, j3]; exact R.dl), (by simp (disch := first | decide | exact ad_ne (by decide) | exact ad_m (by decide) | exact ad_l (by decide) | exact ad_g (by decide) | exact ad_lt (by decide) | exact ad_o (by decide) | omega) only [↓ui_s, ↓uj_s, ↓ui_o, ↓ui_k, ↓uj_o, ↓uj_k, ↓ui_j, ↓uj_i, ↓o3, ↓j3, ui_s, uj_s, ui_o, ui_k, uj_o, uj_k, ui_j, uj_i, o3, j3]; exact R.rn), (by simp (disch := first | decide | exact ad_ne (by decide) | exact ad_m (by decide) | exact ad_l (by decide) | exact ad_g (by decide) | exact ad_lt (by decide) | exact ad_o (by decide) | omega) only [↓ui_s, ↓uj_s, ↓ui_o, ↓ui_k, ↓uj_o, ↓uj_k, ↓ui_j, ↓uj_i, ↓o3, ↓j3, ui_s, uj_s, ui_o, ui_k, uj_o, uj_k, ui_j, uj_i, o3, j3]; exact R.st), (by simp (disch := first | decide | exact ad_ne (by decide) | exact ad_m (by decide) | exact ad_l (by decide) | exact ad_g (by decide) | exact ad_lt (by decide) | exact ad_o (by decide) | omega) only [↓ui_s, ↓uj_s, ↓ui_o, ↓ui_k, ↓uj_o, ↓uj_k, ↓ui_j, ↓uj_i, ↓o3, ↓j3, ui_s, uj_s, ui_o, ui_k, uj_o, uj_k, ui_j, uj_i, o3, j3]), (by simp (disch := first | decide | exact ad_ne (by decide) | exact ad_m (by decide) | exact ad_l (by decide) | exact ad_g (by decide) | exact ad_lt (by decide) | exact ad_o (by decide) | omega) only [↓ui_s, ↓uj_s, ↓ui_o, ↓ui_k, ↓uj_o, ↓uj_k, ↓ui_j, ↓uj_i, ↓o3, ↓j3, ui_s, uj_s, ui_o, ui_k, uj_o, uj_k, ui_j, uj_i, o3, j3]; exact R.en), (by simp (disch := first | decide | exact ad_ne (by decide) | exact ad_m (by decide) | exact ad_l (by decide) | exact ad_g (by decide) | exact ad_lt (by decide) | exact ad_o (by decide) | omega) only [↓ui_s, ↓uj_s, ↓ui_o, ↓ui_k, ↓uj_o, ↓uj_k, ↓ui_j, ↓uj_i, ↓o3, ↓j3, ui_s, uj_s, ui_o, ui_k, uj_o, uj_k, ui_j, uj_i, o3, j3]; exact R.he), (by simp (disch := first | decide | exact ad_ne (by decide) | exact ad_m (by decide) | exact ad_l (by decide) | exact ad_g (by decide) | exact ad_lt (by decide) | exact ad_o (by decide) | omega) only [↓ui_s, ↓uj_s, ↓ui_o, ↓ui_k, ↓uj_o, ↓uj_k, ↓ui_j, ↓uj_i, ↓o3, ↓j3, ui_s, uj_s, ui_o, ui_k, uj_o, uj_k, ui_j, uj_i, o3, j3]; rfl), (by simp (disch := first | decide | exact ad_ne (by decide) | exact ad_m (by decide) | exact ad_l (by decide) | exact ad_g (by decide) | exact ad_lt (by decide) | exact ad_o (by decide) | omega) only [↓ui_s, ↓uj_s, ↓ui_o, ↓ui_k, ↓uj_o, ↓uj_k, ↓ui_j, ↓uj_i, ↓o3, ↓j3, ui_s, uj_s, ui_o, ui_k, uj_o, uj_k, ui_j, uj_i, o3, j3]; exact R.sd), (by simp (disch := first | decide | exact ad_ne (by decide) | exact ad_m (by decide) | exact ad_l (by decide) | exact ad_g (by decide) | exact ad_lt (by decide) | exact ad_o (by decide) | omega) only [↓ui_s, ↓uj_s, ↓ui_o, ↓ui_k, ↓uj_o, ↓uj_k, ↓ui_j, ↓uj_i, ↓o3, ↓j3, ui_s, uj_s, ui_o, ui_k, uj_o, uj_k, ui_j, uj_i, o3, j3]; exact R.nx), fun i h0 => by simp (disch := first | decide | exact ad_ne (by decide) | exact ad_m (by decide) | exact ad_l (by decide) | exact ad_g (by decide) | exact ad_lt (by decide) | exact ad_o (by decide) | omega) only [↓ui_s, ↓uj_s, ↓ui_o, ↓ui_k, ↓uj_o, ↓uj_k, ↓ui_j, ↓uj_i, ↓o3, ↓j3, ui_s, uj_s, ui_o, ui_k, uj_o, uj_k, ui_j, uj_i, o3, j3]; exact R.wl i h0, (fun s g0 => by
      obtain e | e | e | e : s = t ∨ s = u1 ∨ s = u2 ∨ s = u3 := by omega
      all_goals (rw [e]; simp (disch := first | decide | exact ad_ne (by decide) | exact ad_m (by decide) | exact ad_l (by decide) | exact ad_g (by decide) | exact ad_lt (by decide) | exact ad_o (by decide) | omega) only [↓ui_s, ↓uj_s, ↓ui_o, ↓ui_k, ↓uj_o, ↓uj_k, ↓ui_j, ↓uj_i, ↓o3, ↓j3, ui_s, uj_s, ui_o, ui_k, uj_o, uj_k, ui_j, uj_i, o3, j3]; first | done | with_reducible rfl | (simp only [et, eu1, eu2, eu3, hb3, hh3, hf3, hq3, a3, b3, d3, p3, hc, est, ebt, Int32.zero_add, Int32.add_zero, Int32.zero_mul, Int32.mul_zero]; first | done | with_reducible rfl | (rw [Int32.mul_comm (m.1 50 43)]; first | done | ac_rfl)) | rfl)), fun s h0 => by simp (disch := first | decide | exact ad_ne (by decide) | exact ad_m (by decide) | exact ad_l (by decide) | exact ad_g (by decide) | exact ad_lt (by decide) | exact ad_o (by decide) | omega) only [↓ui_s, ↓uj_s, ↓ui_o, ↓ui_k, ↓uj_o, ↓uj_k, ↓ui_j, ↓uj_i, ↓o3, ↓j3, ui_s, uj_s, ui_o, ui_k, uj_o, uj_k, ui_j, uj_i, o3, j3]; exact R.be s h0, fun s h0 => by simp (disch := first | decide | exact ad_ne (by decide) | exact ad_m (by decide) | exact ad_l (by decide) | exact ad_g (by decide) | exact ad_lt (by decide) | exact ad_o (by decide) | omega) only [↓ui_s, ↓uj_s, ↓ui_o, ↓ui_k, ↓uj_o, ↓uj_k, ↓ui_j, ↓uj_i, ↓o3, ↓j3, ui_s, uj_s, ui_o, ui_k, uj_o, uj_k, ui_j, uj_i, o3, j3]; exact R.ao s h0, fun s h0 => by simp (disch := first | decide | exact ad_ne (by decide) | exact ad_m (by decide) | exact ad_l (by decide) | exact ad_g (by decide) | exact ad_lt (by decide) | exact ad_o (by decide) | omega) only [↓ui_s, ↓uj_s, ↓ui_o, ↓ui_k, ↓uj_o, ↓uj_k, ↓ui_j, ↓uj_i, ↓o3, ↓j3, ui_s, uj_s, ui_o, ui_k, uj_o, uj_k, ui_j, uj_i, o3, j3]; exact R.lg s h0, fun s h0 => by simp (disch := first | decide | exact ad_ne (by decide) | exact ad_m (by decide) | exact ad_l (by decide) | exact ad_g (by decide) | exact ad_lt (by decide) | exact ad_o (by decide) | omega) only [↓ui_s, ↓uj_s, ↓ui_o, ↓ui_k, ↓uj_o, ↓uj_k, ↓ui_j, ↓uj_i, ↓o3, ↓j3, ui_s, uj_s, ui_o, ui_k, uj_o, uj_k, ui_j, uj_i, o3, j3]; exact R.sy s h0, fun s h0 => by simp (disch := first | decide | exact ad_ne (by decide) | exact ad_m (by decide) | exact ad_l (by decide) | exact ad_g (by decide) | exact ad_lt (by decide) | exact ad_o (by decide) | omega) only [↓ui_s, ↓uj_s, ↓ui_o, ↓ui_k, ↓uj_o, ↓uj_k, ↓ui_j, ↓uj_i, ↓o3, ↓j3, ui_s, uj_s, ui_o, ui_k, uj_o, uj_k, ui_j, uj_i, o3, j3]; exact R.ds s h0, fun s h0 => by simp (disch := first | decide | exact ad_ne (by decide) | exact ad_m (by decide) | exact ad_l (by decide) | exact ad_g (by decide) | exact ad_lt (by decide) | exact ad_o (by decide) | omega) only [↓ui_s, ↓uj_s, ↓ui_o, ↓ui_k, ↓uj_o, ↓uj_k, ↓ui_j, ↓uj_i, ↓o3, ↓j3, ui_s, uj_s, ui_o, ui_k, uj_o, uj_k, ui_j, uj_i, o3, j3]; exact R.lm s h0, fun s k h0 h1 => by simp (disch := first | decide | exact ad_ne (by decide) | exact ad_m (by decide) | exact ad_l (by decide) | exact ad_g (by decide) | exact ad_lt (by decide) | exact ad_o (by decide) | omega) only [↓ui_s, ↓uj_s, ↓ui_o, ↓ui_k, ↓uj_o, ↓uj_k, ↓ui_j, ↓uj_i, ↓o3, ↓j3, ui_s, uj_s, ui_o, ui_k, uj_o, uj_k, ui_j, uj_i, o3, j3]; exact R.hd s k h0 h1, fun s i h0 h1 => by simp (disch := first | decide | exact ad_ne (by decide) | exact ad_m (by decide) | exact ad_l (by decide) | exact ad_g (by decide) | exact ad_lt (by decide) | exact ad_o (by decide) | omega) only [↓ui_s, ↓uj_s, ↓ui_o, ↓ui_k, ↓uj_o, ↓uj_k, ↓ui_j, ↓uj_i, ↓o3, ↓j3, ui_s, uj_s, ui_o, ui_k, uj_o, uj_k, ui_j, uj_i, o3, j3]; exact R.so s i h0 h1, fun s i h0 h1 => by simp (disch := first | decide | exact ad_ne (by decide) | exact ad_m (by decide) | exact ad_l (by decide) | exact ad_g (by decide) | exact ad_lt (by decide) | exact ad_o (by decide) | omega) only [↓ui_s, ↓uj_s, ↓ui_o, ↓ui_k, ↓uj_o, ↓uj_k, ↓ui_j, ↓uj_i, ↓o3, ↓j3, ui_s, uj_s, ui_o, ui_k, uj_o, uj_k, ui_j, uj_i, o3, j3]; exact R.lo s i h0 h1, fun s i h0 h1 => by simp (disch := first | decide | exact ad_ne (by decide) | exact ad_m (by decide) | exact ad_l (by decide) | exact ad_g (by decide) | exact ad_lt (by decide) | exact ad_o (by decide) | omega) only [↓ui_s, ↓uj_s, ↓ui_o, ↓ui_k, ↓uj_o, ↓uj_k, ↓ui_j, ↓uj_i, ↓o3, ↓j3, ui_s, uj_s, ui_o, ui_k, uj_o, uj_k, ui_j, uj_i, o3, j3]; exact R.rv s i h0 h1, (fun i f g0 g1 g2 => by
      obtain rfl | rfl | rfl | e : i = 0 ∨ i = 1 ∨ i = 2 ∨ i = 3 := by omega
      · obtain rfl | rfl | rfl | rfl | rfl | rfl | rfl : f = 0 ∨ f = 1 ∨ f = 2 ∨ f = 3 ∨ f = 4 ∨ f = 5 ∨ f = 6 := by omega
        all_goals (simp (disch := first | decide | exact ad_ne (by decide) | exact ad_m (by decide) | exact ad_l (by decide) | exact ad_g (by decide) | exact ad_lt (by decide) | exact ad_o (by decide) | omega) only [↓ui_s, ↓uj_s, ↓ui_o, ↓ui_k, ↓uj_o, ↓uj_k, ↓ui_j, ↓uj_i, ↓o3, ↓j3, ui_s, uj_s, ui_o, ui_k, uj_o, uj_k, ui_j, uj_i, o3, j3]; first | done | with_reducible rfl | (simp only [et, eu1, eu2, eu3, hb3, hh3, hf3, hq3, a3, b3, d3, p3, hc, est, ebt, Int32.zero_add, Int32.add_zero, Int32.zero_mul, Int32.mul_zero]; first | done | with_reducible rfl | (rw [Int32.mul_comm (m.1 50 43)]; first | done | ac_rfl)) | rfl)
      · simp (disch := first | decide | exact ad_ne (by decide) | exact ad_m (by decide) | exact ad_l (by decide) | exact ad_g (by decide) | exact ad_lt (by decide) | exact ad_o (by decide) | omega) only [↓ui_s, ↓uj_s, ↓ui_o, ↓ui_k, ↓uj_o, ↓uj_k, ↓ui_j, ↓uj_i, ↓o3, ↓j3, ui_s, uj_s, ui_o, ui_k, uj_o, uj_k, ui_j, uj_i, o3, j3]; exact R.wi _ f g0 g1 g2
      · simp (disch := first | decide | exact ad_ne (by decide) | exact ad_m (by decide) | exact ad_l (by decide) | exact ad_g (by decide) | exact ad_lt (by decide) | exact ad_o (by decide) | omega) only [↓ui_s, ↓uj_s, ↓ui_o, ↓ui_k, ↓uj_o, ↓uj_k, ↓ui_j, ↓uj_i, ↓o3, ↓j3, ui_s, uj_s, ui_o, ui_k, uj_o, uj_k, ui_j, uj_i, o3, j3]; exact R.wi _ f g0 g1 g2
      · subst e; simp (disch := first | decide | exact ad_ne (by decide) | exact ad_m (by decide) | exact ad_l (by decide) | exact ad_g (by decide) | exact ad_lt (by decide) | exact ad_o (by decide) | omega) only [↓ui_s, ↓uj_s, ↓ui_o, ↓ui_k, ↓uj_o, ↓uj_k, ↓ui_j, ↓uj_i, ↓o3, ↓j3, ui_s, uj_s, ui_o, ui_k, uj_o, uj_k, ui_j, uj_i, o3, j3]; exact R.wi _ f g0 g1 g2), (fun i g0 => by
      obtain rfl | rfl | rfl | e : i = 0 ∨ i = 1 ∨ i = 2 ∨ i = 3 := by omega
      · simp (disch := first | decide | exact ad_ne (by decide) | exact ad_m (by decide) | exact ad_l (by decide) | exact ad_g (by decide) | exact ad_lt (by decide) | exact ad_o (by decide) | omega) only [↓ui_s, ↓uj_s, ↓ui_o, ↓ui_k, ↓uj_o, ↓uj_k, ↓ui_j, ↓uj_i, ↓o3, ↓j3, ui_s, uj_s, ui_o, ui_k, uj_o, uj_k, ui_j, uj_i, o3, j3]; exact d3
      · simp (disch := first | decide | exact ad_ne (by decide) | exact ad_m (by decide) | exact ad_l (by decide) | exact ad_g (by decide) | exact ad_lt (by decide) | exact ad_o (by decide) | omega) only [↓ui_s, ↓uj_s, ↓ui_o, ↓ui_k, ↓uj_o, ↓uj_k, ↓ui_j, ↓uj_i, ↓o3, ↓j3, ui_s, uj_s, ui_o, ui_k, uj_o, uj_k, ui_j, uj_i, o3, j3]; exact R.wf _ g0
      · simp (disch := first | decide | exact ad_ne (by decide) | exact ad_m (by decide) | exact ad_l (by decide) | exact ad_g (by decide) | exact ad_lt (by decide) | exact ad_o (by decide) | omega) only [↓ui_s, ↓uj_s, ↓ui_o, ↓ui_k, ↓uj_o, ↓uj_k, ↓ui_j, ↓uj_i, ↓o3, ↓j3, ui_s, uj_s, ui_o, ui_k, uj_o, uj_k, ui_j, uj_i, o3, j3]; exact R.wf _ g0
      · subst e; simp (disch := first | decide | exact ad_ne (by decide) | exact ad_m (by decide) | exact ad_l (by decide) | exact ad_g (by decide) | exact ad_lt (by decide) | exact ad_o (by decide) | omega) only [↓ui_s, ↓uj_s, ↓ui_o, ↓ui_k, ↓uj_o, ↓uj_k, ↓ui_j, ↓uj_i, ↓o3, ↓j3, ui_s, uj_s, ui_o, ui_k, uj_o, uj_k, ui_j, uj_i, o3, j3]; exact R.wf _ g0), fun s k2 h0 h1 => by simp (disch := first | decide | exact ad_ne (by decide) | exact ad_m (by decide) | exact ad_l (by decide) | exact ad_g (by decide) | exact ad_lt (by decide) | exact ad_o (by decide) | omega) only [↓ui_s, ↓uj_s, ↓ui_o, ↓ui_k, ↓uj_o, ↓uj_k, ↓ui_j, ↓uj_i, ↓o3, ↓j3, ui_s, uj_s, ui_o, ui_k, uj_o, uj_k, ui_j, uj_i, o3, j3]; exact R.al s k2 h0 h1, fun s h0 => by simp (disch := first | decide | exact ad_ne (by decide) | exact ad_m (by decide) | exact ad_l (by decide) | exact ad_g (by decide) | exact ad_lt (by decide) | exact ad_o (by decide) | omega) only [↓ui_s, ↓uj_s, ↓ui_o, ↓ui_k, ↓uj_o, ↓uj_k, ↓ui_j, ↓uj_i, ↓o3, ↓j3, ui_s, uj_s, ui_o, ui_k, uj_o, uj_k, ui_j, uj_i, o3, j3]; exact R.lz s h0, fun s i h0 h1 => by simp (disch := first | decide | exact ad_ne (by decide) | exact ad_m (by decide) | exact ad_l (by decide) | exact ad_g (by decide) | exact ad_lt (by decide) | exact ad_o (by decide) | omega) only [↓ui_s, ↓uj_s, ↓ui_o, ↓ui_k, ↓uj_o, ↓uj_k, ↓ui_j, ↓uj_i, ↓o3, ↓j3, ui_s, uj_s, ui_o, ui_k, uj_o, uj_k, ui_j, uj_i, o3, j3] at h1 ⊢; exact R.sv s i h0 h1, fun s h0 => by simp (disch := first | decide | exact ad_ne (by decide) | exact ad_m (by decide) | exact ad_l (by decide) | exact ad_g (by decide) | exact ad_lt (by decide) | exact ad_o (by decide) | omega) only [↓ui_s, ↓uj_s, ↓ui_o, ↓ui_k, ↓uj_o, ↓uj_k, ↓ui_j, ↓uj_i, ↓o3, ↓j3, ui_s, uj_s, ui_o, ui_k, uj_o, uj_k, ui_j, uj_i, o3, j3]; rw [R.tk s h0]; exact congrArg (fun f => kb f 34) (tkM_cg (R.rb s h0) (fun i hi => by simp (disch := first | decide | exact ad_ne (by decide) | exact ad_m (by decide) | exact ad_l (by decide) | exact ad_g (by decide) | exact ad_lt (by decide) | exact ad_o (by decide) | omega) only [↓ui_s, ↓uj_s, ↓ui_o, ↓ui_k, ↓uj_o, ↓uj_k, ↓ui_j, ↓uj_i, ↓o3, ↓j3, ui_s, uj_s, ui_o, ui_k, uj_o, uj_k, ui_j, uj_i, o3, j3]) (by simp (disch := first | decide | exact ad_ne (by decide) | exact ad_m (by decide) | exact ad_l (by decide) | exact ad_g (by decide) | exact ad_lt (by decide) | exact ad_o (by decide) | omega) only [↓ui_s, ↓uj_s, ↓ui_o, ↓ui_k, ↓uj_o, ↓uj_k, ↓ui_j, ↓uj_i, ↓o3, ↓j3, ui_s, uj_s, ui_o, ui_k, uj_o, uj_k, ui_j, uj_i, o3, j3])), fun s h0 => by simp (disch := first | decide | exact ad_ne (by decide) | exact ad_m (by decide) | exact ad_l (by decide) | exact ad_g (by decide) | exact ad_lt (by decide) | exact ad_o (by decide) | omega) only [↓ui_s, ↓uj_s, ↓ui_o, ↓ui_k, ↓uj_o, ↓uj_k, ↓ui_j, ↓uj_i, ↓o3, ↓j3, ui_s, uj_s, ui_o, ui_k, uj_o, uj_k, ui_j, uj_i, o3, j3]; exact R.rb s h0, fun s i h0 h1 => by simp (disch := first | decide | exact ad_ne (by decide) | exact ad_m (by decide) | exact ad_l (by decide) | exact ad_g (by decide) | exact ad_lt (by decide) | exact ad_o (by decide) | omega) only [↓ui_s, ↓uj_s, ↓ui_o, ↓ui_k, ↓uj_o, ↓uj_k, ↓ui_j, ↓uj_i, ↓o3, ↓j3, ui_s, uj_s, ui_o, ui_k, uj_o, uj_k, ui_j, uj_i, o3, j3] at h1 ⊢; exact R.rk s i h0 h1, (by simp (disch := first | decide | exact ad_ne (by decide) | exact ad_m (by decide) | exact ad_l (by decide) | exact ad_g (by decide) | exact ad_lt (by decide) | exact ad_o (by decide) | omega) only [↓ui_s, ↓uj_s, ↓ui_o, ↓ui_k, ↓uj_o, ↓uj_k, ↓ui_j, ↓uj_i, ↓o3, ↓j3, ui_s, uj_s, ui_o, ui_k, uj_o, uj_k, ui_j, uj_i, o3, j3]; exact R.rd), fun s h0 => by simp (disch := first | decide | exact ad_ne (by decide) | exact ad_m (by decide) | exact ad_l (by decide) | exact ad_g (by decide) | exact ad_lt (by decide) | exact ad_o (by decide) | omega) only [↓ui_s, ↓uj_s, ↓ui_o, ↓ui_k, ↓uj_o, ↓uj_k, ↓ui_j, ↓uj_i, ↓o3, ↓j3, ui_s, uj_s, ui_o, ui_k, uj_o, uj_k, ui_j, uj_i, o3, j3]; exact R.bb s h0, fun z => by simp (disch := first | decide | exact ad_ne (by decide) | exact ad_m (by decide) | exact ad_l (by decide) | exact ad_g (by decide) | exact ad_lt (by decide) | exact ad_o (by decide) | omega) only [↓ui_s, ↓uj_s, ↓ui_o, ↓ui_k, ↓uj_o, ↓uj_k, ↓ui_j, ↓uj_i, ↓o3, ↓j3, ui_s, uj_s, ui_o, ui_k, uj_o, uj_k, ui_j, uj_i, o3, j3] at z ⊢; exact R.wp z⟩
noncomputable def wa010 (W2 : zM) (t dl u1 u2 u3 : Nat) (v2 : Q4) (μ : zM) : zM := z_ui (rcW (z_ui (z_ui W2 (18 + 8 * t) 4 ((μ.1 (18 + 8 * t) 4) - ((hnd (v2.1 * (bif decide ((nI u2) = (nI dl)) then (6 : Int32) else 4))) + (300 * (μ.1 0 11))))) (18 + 8 * u2) 4 ((μ.1 (18 + 8 * u2) 4) + (((hnd (v2.1 * (bif decide ((nI u2) = (nI dl)) then (6 : Int32) else 4))) + (300 * (μ.1 0 11))) + ((μ.1 0 12) * 1000)))) 0 (nI u2) (nI t) (((hnd (v2.1 * (bif decide ((nI u2) = (nI dl)) then (6 : Int32) else 4))) + (300 * (μ.1 0 11))) + ((μ.1 0 12) * 1000))) 0 12 0
theorem wA010_p (W : zM) (t dl e u1 u2 u3 : Nat) (v2 : Q4) (x : zM) : wA010 W t dl e u1 u2 u3 v2 x = eHB (wa010 W t dl u1 u2 u3 v2 x) (decide ((nI u2) = (nI dl))) (!(decide ((nI u2) = (nI dl)))) (xBk (wa010 W t dl u1 u2 u3 v2 x)) dl e (rcM (wa010 W t dl u1 u2 u3 v2 x)) := rfl
noncomputable def aq010 (μ N2 : zM) (t dl c u1 u2 u3 : Nat) : zM := z_ui (z_ui (z_ui (z_ui (z_ui (z_ui (z_ui (z_uj (z_ui (z_ui (z_ui (z_ui (z_ui (z_ui (z_ui (z_ui μ 50 53 0) 72 0 (nI u2)) 72 1 (nI t)) 72 2 (N2.1 50 13)) 72 3 (N2.1 50 14)) 72 4 (N2.1 50 15)) 72 5 0) 72 6 (nI c)) 73 0 (N2.2.1 50 17)) 61 t ((μ.1 61 t) - ((hnd ((N2.1 50 13) * (bif decide ((nI u2) = (nI dl)) then (6 : Int32) else 4))) + (300 * (μ.1 50 42))))) 61 u2 ((μ.1 61 u2) + ((hnd ((N2.1 50 13) * (bif decide ((nI u2) = (nI dl)) then (6 : Int32) else 4))) + (300 * (μ.1 50 42))))) 72 5 (0 + ((hnd ((N2.1 50 13) * (bif decide ((nI u2) = (nI dl)) then (6 : Int32) else 4))) + (300 * (μ.1 50 42))))) 50 53 1) 61 u2 (((μ.1 61 u2) + ((hnd ((N2.1 50 13) * (bif decide ((nI u2) = (nI dl)) then (6 : Int32) else 4))) + (300 * (μ.1 50 42)))) + (1000 * (μ.1 50 43)))) 72 5 ((0 + ((hnd ((N2.1 50 13) * (bif decide ((nI u2) = (nI dl)) then (6 : Int32) else 4))) + (300 * (μ.1 50 42)))) + (1000 * (μ.1 50 43)))) 50 43 0
theorem aM010_p (m N2 : zM) (t dl e c u1 u2 u3 : Nat) : aM010 m N2 t dl e c u1 u2 u3 = eMB (aq010 m N2 t dl c u1 u2 u3) (decide ((nI u2) = (nI dl))) (decide ((nI u2) = (nI dl))) dl e := rfl
theorem rc_aw010 {x m W2 N2 : zM} {v2 : Q4} (R : RCl x m) {t dl c u1 u2 u3 : Nat} (ht : t < 4) (hu1 : (t + 1) % 4 = u1) (hu2 : (t + 2) % 4 = u2) (hu3 : (t + 3) % 4 = u3) (hc : x.1 0 15 = nI c) (hO2 : WOj (x) W2) (hv2 : bqJ W2 = v2) (hb2 : v2.1 = N2.1 50 13) (hh2 : v2.2.1 = N2.1 50 14) (hf2 : v2.2.2.2 = N2.2.1 50 17) (hq2 : v2.2.2.1 = N2.1 50 15) : RCl (wa010 W2 t dl u1 u2 u3 v2 x) (aq010 m N2 t dl c u1 u2 u3) := by
  have o2 := fun r k h => (hO2 r k h).1
  have j2 := fun r k h => (hO2 r k h).2
  have a2 : W2.1 4 0 = N2.1 50 13 := (congrArg (fun q => q.1) hv2).trans hb2
  have b2 : W2.1 4 1 = N2.1 50 14 := (congrArg (fun q => q.2.1) hv2).trans hh2
  have d2 : W2.2.1 4 3 = N2.2.1 50 17 := (congrArg (fun q => q.2.2.2) hv2).trans hf2
  have p2 : W2.1 4 2 = N2.1 50 15 := (congrArg (fun q => q.2.2.1) hv2).trans hq2
  clear hO2
  have h1 : u1 < 4 := by omega
  have h2 : u2 < 4 := by omega
  have h3 : u3 < 4 := by omega
  have et := R.pt t ht
  have eu1 := R.pt u1 h1
  have eu2 := R.pt u2 h2
  have eu3 := R.pt u3 h3
  have est := R.st
  have ebt := R.bt
  unfold wa010 aq010
  unfold rcW at *
  exact ⟨(by simp (disch := first | decide | exact ad_ne (by decide) | exact ad_m (by decide) | exact ad_l (by decide) | exact ad_g (by decide) | exact ad_lt (by decide) | exact ad_o (by decide) | omega) only [↓ui_s, ↓uj_s, ↓ui_o, ↓ui_k, ↓uj_o, ↓uj_k, ↓ui_j, ↓uj_i, ↓o2, ↓j2, ui_s, uj_s, ui_o, ui_k, uj_o, uj_k, ui_j, uj_i, o2, j2]; exact R.dl), (by simp (disch := first | decide | exact ad_ne (by decide) | exact ad_m (by decide) | exact ad_l (by decide) | exact ad_g (by decide) | exact ad_lt (by decide) | exact ad_o (by decide) | omega) only [↓ui_s, ↓uj_s, ↓ui_o, ↓ui_k, ↓uj_o, ↓uj_k, ↓ui_j, ↓uj_i, ↓o2, ↓j2, ui_s, uj_s, ui_o, ui_k, uj_o, uj_k, ui_j, uj_i, o2, j2]; exact R.rn), (by simp (disch := first | decide | exact ad_ne (by decide) | exact ad_m (by decide) | exact ad_l (by decide) | exact ad_g (by decide) | exact ad_lt (by decide) | exact ad_o (by decide) | omega) only [↓ui_s, ↓uj_s, ↓ui_o, ↓ui_k, ↓uj_o, ↓uj_k, ↓ui_j, ↓uj_i, ↓o2, ↓j2, ui_s, uj_s, ui_o, ui_k, uj_o, uj_k, ui_j, uj_i, o2, j2]; exact R.st), (by simp (disch := first | decide | exact ad_ne (by decide) | exact ad_m (by decide) | exact ad_l (by decide) | exact ad_g (by decide) | exact ad_lt (by decide) | exact ad_o (by decide) | omega) only [↓ui_s, ↓uj_s, ↓ui_o, ↓ui_k, ↓uj_o, ↓uj_k, ↓ui_j, ↓uj_i, ↓o2, ↓j2, ui_s, uj_s, ui_o, ui_k, uj_o, uj_k, ui_j, uj_i, o2, j2]), (by simp (disch := first | decide | exact ad_ne (by decide) | exact ad_m (by decide) | exact ad_l (by decide) | exact ad_g (by decide) | exact ad_lt (by decide) | exact ad_o (by decide) | omega) only [↓ui_s, ↓uj_s, ↓ui_o, ↓ui_k, ↓uj_o, ↓uj_k, ↓ui_j, ↓uj_i, ↓o2, ↓j2, ui_s, uj_s, ui_o, ui_k, uj_o, uj_k, ui_j, uj_i, o2, j2]; exact R.en), (by simp (disch := first | decide | exact ad_ne (by decide) | exact ad_m (by decide) | exact ad_l (by decide) | exact ad_g (by decide) | exact ad_lt (by decide) | exact ad_o (by decide) | omega) only [↓ui_s, ↓uj_s, ↓ui_o, ↓ui_k, ↓uj_o, ↓uj_k, ↓ui_j, ↓uj_i, ↓o2, ↓j2, ui_s, uj_s, ui_o, ui_k, uj_o, uj_k, ui_j, uj_i, o2, j2]; exact R.he), (by simp (disch := first | decide | exact ad_ne (by decide) | exact ad_m (by decide) | exact ad_l (by decide) | exact ad_g (by decide) | exact ad_lt (by decide) | exact ad_o (by decide) | omega) only [↓ui_s, ↓uj_s, ↓ui_o, ↓ui_k, ↓uj_o, ↓uj_k, ↓ui_j, ↓uj_i, ↓o2, ↓j2, ui_s, uj_s, ui_o, ui_k, uj_o, uj_k, ui_j, uj_i, o2, j2]; rfl), (by simp (disch := first | decide | exact ad_ne (by decide) | exact ad_m (by decide) | exact ad_l (by decide) | exact ad_g (by decide) | exact ad_lt (by decide) | exact ad_o (by decide) | omega) only [↓ui_s, ↓uj_s, ↓ui_o, ↓ui_k, ↓uj_o, ↓uj_k, ↓ui_j, ↓uj_i, ↓o2, ↓j2, ui_s, uj_s, ui_o, ui_k, uj_o, uj_k, ui_j, uj_i, o2, j2]; exact R.sd), (by simp (disch := first | decide | exact ad_ne (by decide) | exact ad_m (by decide) | exact ad_l (by decide) | exact ad_g (by decide) | exact ad_lt (by decide) | exact ad_o (by decide) | omega) only [↓ui_s, ↓uj_s, ↓ui_o, ↓ui_k, ↓uj_o, ↓uj_k, ↓ui_j, ↓uj_i, ↓o2, ↓j2, ui_s, uj_s, ui_o, ui_k, uj_o, uj_k, ui_j, uj_i, o2, j2]; exact R.nx), fun i h0 => by simp (disch := first | decide | exact ad_ne (by decide) | exact ad_m (by decide) | exact ad_l (by decide) | exact ad_g (by decide) | exact ad_lt (by decide) | exact ad_o (by decide) | omega) only [↓ui_s, ↓uj_s, ↓ui_o, ↓ui_k, ↓uj_o, ↓uj_k, ↓ui_j, ↓uj_i, ↓o2, ↓j2, ui_s, uj_s, ui_o, ui_k, uj_o, uj_k, ui_j, uj_i, o2, j2]; exact R.wl i h0, (fun s g0 => by
      obtain e | e | e | e : s = t ∨ s = u1 ∨ s = u2 ∨ s = u3 := by omega
      all_goals (rw [e]; simp (disch := first | decide | exact ad_ne (by decide) | exact ad_m (by decide) | exact ad_l (by decide) | exact ad_g (by decide) | exact ad_lt (by decide) | exact ad_o (by decide) | omega) only [↓ui_s, ↓uj_s, ↓ui_o, ↓ui_k, ↓uj_o, ↓uj_k, ↓ui_j, ↓uj_i, ↓o2, ↓j2, ui_s, uj_s, ui_o, ui_k, uj_o, uj_k, ui_j, uj_i, o2, j2]; first | done | with_reducible rfl | (simp only [et, eu1, eu2, eu3, hb2, hh2, hf2, hq2, a2, b2, d2, p2, hc, est, ebt, Int32.zero_add, Int32.add_zero, Int32.zero_mul, Int32.mul_zero]; first | done | with_reducible rfl | (rw [Int32.mul_comm (m.1 50 43)]; first | done | ac_rfl)) | rfl)), fun s h0 => by simp (disch := first | decide | exact ad_ne (by decide) | exact ad_m (by decide) | exact ad_l (by decide) | exact ad_g (by decide) | exact ad_lt (by decide) | exact ad_o (by decide) | omega) only [↓ui_s, ↓uj_s, ↓ui_o, ↓ui_k, ↓uj_o, ↓uj_k, ↓ui_j, ↓uj_i, ↓o2, ↓j2, ui_s, uj_s, ui_o, ui_k, uj_o, uj_k, ui_j, uj_i, o2, j2]; exact R.be s h0, fun s h0 => by simp (disch := first | decide | exact ad_ne (by decide) | exact ad_m (by decide) | exact ad_l (by decide) | exact ad_g (by decide) | exact ad_lt (by decide) | exact ad_o (by decide) | omega) only [↓ui_s, ↓uj_s, ↓ui_o, ↓ui_k, ↓uj_o, ↓uj_k, ↓ui_j, ↓uj_i, ↓o2, ↓j2, ui_s, uj_s, ui_o, ui_k, uj_o, uj_k, ui_j, uj_i, o2, j2]; exact R.ao s h0, fun s h0 => by simp (disch := first | decide | exact ad_ne (by decide) | exact ad_m (by decide) | exact ad_l (by decide) | exact ad_g (by decide) | exact ad_lt (by decide) | exact ad_o (by decide) | omega) only [↓ui_s, ↓uj_s, ↓ui_o, ↓ui_k, ↓uj_o, ↓uj_k, ↓ui_j, ↓uj_i, ↓o2, ↓j2, ui_s, uj_s, ui_o, ui_k, uj_o, uj_k, ui_j, uj_i, o2, j2]; exact R.lg s h0, fun s h0 => by simp (disch := first | decide | exact ad_ne (by decide) | exact ad_m (by decide) | exact ad_l (by decide) | exact ad_g (by decide) | exact ad_lt (by decide) | exact ad_o (by decide) | omega) only [↓ui_s, ↓uj_s, ↓ui_o, ↓ui_k, ↓uj_o, ↓uj_k, ↓ui_j, ↓uj_i, ↓o2, ↓j2, ui_s, uj_s, ui_o, ui_k, uj_o, uj_k, ui_j, uj_i, o2, j2]; exact R.sy s h0, fun s h0 => by simp (disch := first | decide | exact ad_ne (by decide) | exact ad_m (by decide) | exact ad_l (by decide) | exact ad_g (by decide) | exact ad_lt (by decide) | exact ad_o (by decide) | omega) only [↓ui_s, ↓uj_s, ↓ui_o, ↓ui_k, ↓uj_o, ↓uj_k, ↓ui_j, ↓uj_i, ↓o2, ↓j2, ui_s, uj_s, ui_o, ui_k, uj_o, uj_k, ui_j, uj_i, o2, j2]; exact R.ds s h0, fun s h0 => by simp (disch := first | decide | exact ad_ne (by decide) | exact ad_m (by decide) | exact ad_l (by decide) | exact ad_g (by decide) | exact ad_lt (by decide) | exact ad_o (by decide) | omega) only [↓ui_s, ↓uj_s, ↓ui_o, ↓ui_k, ↓uj_o, ↓uj_k, ↓ui_j, ↓uj_i, ↓o2, ↓j2, ui_s, uj_s, ui_o, ui_k, uj_o, uj_k, ui_j, uj_i, o2, j2]; exact R.lm s h0, fun s k h0 h1 => by simp (disch := first | decide | exact ad_ne (by decide) | exact ad_m (by decide) | exact ad_l (by decide) | exact ad_g (by decide) | exact ad_lt (by decide) | exact ad_o (by decide) | omega) only [↓ui_s, ↓uj_s, ↓ui_o, ↓ui_k, ↓uj_o, ↓uj_k, ↓ui_j, ↓uj_i, ↓o2, ↓j2, ui_s, uj_s, ui_o, ui_k, uj_o, uj_k, ui_j, uj_i, o2, j2]; exact R.hd s k h0 h1, fun s i h0 h1 => by simp (disch := first | decide | exact ad_ne (by decide) | exact ad_m (by decide) | exact ad_l (by decide) | exact ad_g (by decide) | exact ad_lt (by decide) | exact ad_o (by decide) | omega) only [↓ui_s, ↓uj_s, ↓ui_o, ↓ui_k, ↓uj_o, ↓uj_k, ↓ui_j, ↓uj_i, ↓o2, ↓j2, ui_s, uj_s, ui_o, ui_k, uj_o, uj_k, ui_j, uj_i, o2, j2]; exact R.so s i h0 h1, fun s i h0 h1 => by simp (disch := first | decide | exact ad_ne (by decide) | exact ad_m (by decide) | exact ad_l (by decide) | exact ad_g (by decide) | exact ad_lt (by decide) | exact ad_o (by decide) | omega) only [↓ui_s, ↓uj_s, ↓ui_o, ↓ui_k, ↓uj_o, ↓uj_k, ↓ui_j, ↓uj_i, ↓o2, ↓j2, ui_s, uj_s, ui_o, ui_k, uj_o, uj_k, ui_j, uj_i, o2, j2]; exact R.lo s i h0 h1, fun s i h0 h1 => by simp (disch := first | decide | exact ad_ne (by decide) | exact ad_m (by decide) | exact ad_l (by decide) | exact ad_g (by decide) | exact ad_lt (by decide) | exact ad_o (by decide) | omega) only [↓ui_s, ↓uj_s, ↓ui_o, ↓ui_k, ↓uj_o, ↓uj_k, ↓ui_j, ↓uj_i, ↓o2, ↓j2, ui_s, uj_s, ui_o, ui_k, uj_o, uj_k, ui_j, uj_i, o2, j2]; exact R.rv s i h0 h1, (fun i f g0 g1 g2 => by
      obtain rfl | rfl | rfl | e : i = 0 ∨ i = 1 ∨ i = 2 ∨ i = 3 := by omega
      · obtain rfl | rfl | rfl | rfl | rfl | rfl | rfl : f = 0 ∨ f = 1 ∨ f = 2 ∨ f = 3 ∨ f = 4 ∨ f = 5 ∨ f = 6 := by omega
        all_goals (simp (disch := first | decide | exact ad_ne (by decide) | exact ad_m (by decide) | exact ad_l (by decide) | exact ad_g (by decide) | exact ad_lt (by decide) | exact ad_o (by decide) | omega) only [↓ui_s, ↓uj_s, ↓ui_o, ↓ui_k, ↓uj_o, ↓uj_k, ↓ui_j, ↓uj_i, ↓o2, ↓j2, ui_s, uj_s, ui_o, ui_k, uj_o, uj_k, ui_j, uj_i, o2, j2]; first | done | with_reducible rfl | (simp only [et, eu1, eu2, eu3, hb2, hh2, hf2, hq2, a2, b2, d2, p2, hc, est, ebt, Int32.zero_add, Int32.add_zero, Int32.zero_mul, Int32.mul_zero]; first | done | with_reducible rfl | (rw [Int32.mul_comm (m.1 50 43)]; first | done | ac_rfl)) | rfl)
      · simp (disch := first | decide | exact ad_ne (by decide) | exact ad_m (by decide) | exact ad_l (by decide) | exact ad_g (by decide) | exact ad_lt (by decide) | exact ad_o (by decide) | omega) only [↓ui_s, ↓uj_s, ↓ui_o, ↓ui_k, ↓uj_o, ↓uj_k, ↓ui_j, ↓uj_i, ↓o2, ↓j2, ui_s, uj_s, ui_o, ui_k, uj_o, uj_k, ui_j, uj_i, o2, j2]; exact R.wi _ f g0 g1 g2
      · simp (disch := first | decide | exact ad_ne (by decide) | exact ad_m (by decide) | exact ad_l (by decide) | exact ad_g (by decide) | exact ad_lt (by decide) | exact ad_o (by decide) | omega) only [↓ui_s, ↓uj_s, ↓ui_o, ↓ui_k, ↓uj_o, ↓uj_k, ↓ui_j, ↓uj_i, ↓o2, ↓j2, ui_s, uj_s, ui_o, ui_k, uj_o, uj_k, ui_j, uj_i, o2, j2]; exact R.wi _ f g0 g1 g2
      · subst e; simp (disch := first | decide | exact ad_ne (by decide) | exact ad_m (by decide) | exact ad_l (by decide) | exact ad_g (by decide) | exact ad_lt (by decide) | exact ad_o (by decide) | omega) only [↓ui_s, ↓uj_s, ↓ui_o, ↓ui_k, ↓uj_o, ↓uj_k, ↓ui_j, ↓uj_i, ↓o2, ↓j2, ui_s, uj_s, ui_o, ui_k, uj_o, uj_k, ui_j, uj_i, o2, j2]; exact R.wi _ f g0 g1 g2), (fun i g0 => by
      obtain rfl | rfl | rfl | e : i = 0 ∨ i = 1 ∨ i = 2 ∨ i = 3 := by omega
      · simp (disch := first | decide | exact ad_ne (by decide) | exact ad_m (by decide) | exact ad_l (by decide) | exact ad_g (by decide) | exact ad_lt (by decide) | exact ad_o (by decide) | omega) only [↓ui_s, ↓uj_s, ↓ui_o, ↓ui_k, ↓uj_o, ↓uj_k, ↓ui_j, ↓uj_i, ↓o2, ↓j2, ui_s, uj_s, ui_o, ui_k, uj_o, uj_k, ui_j, uj_i, o2, j2]; exact d2
      · simp (disch := first | decide | exact ad_ne (by decide) | exact ad_m (by decide) | exact ad_l (by decide) | exact ad_g (by decide) | exact ad_lt (by decide) | exact ad_o (by decide) | omega) only [↓ui_s, ↓uj_s, ↓ui_o, ↓ui_k, ↓uj_o, ↓uj_k, ↓ui_j, ↓uj_i, ↓o2, ↓j2, ui_s, uj_s, ui_o, ui_k, uj_o, uj_k, ui_j, uj_i, o2, j2]; exact R.wf _ g0
      · simp (disch := first | decide | exact ad_ne (by decide) | exact ad_m (by decide) | exact ad_l (by decide) | exact ad_g (by decide) | exact ad_lt (by decide) | exact ad_o (by decide) | omega) only [↓ui_s, ↓uj_s, ↓ui_o, ↓ui_k, ↓uj_o, ↓uj_k, ↓ui_j, ↓uj_i, ↓o2, ↓j2, ui_s, uj_s, ui_o, ui_k, uj_o, uj_k, ui_j, uj_i, o2, j2]; exact R.wf _ g0
      · subst e; simp (disch := first | decide | exact ad_ne (by decide) | exact ad_m (by decide) | exact ad_l (by decide) | exact ad_g (by decide) | exact ad_lt (by decide) | exact ad_o (by decide) | omega) only [↓ui_s, ↓uj_s, ↓ui_o, ↓ui_k, ↓uj_o, ↓uj_k, ↓ui_j, ↓uj_i, ↓o2, ↓j2, ui_s, uj_s, ui_o, ui_k, uj_o, uj_k, ui_j, uj_i, o2, j2]; exact R.wf _ g0), fun s k2 h0 h1 => by simp (disch := first | decide | exact ad_ne (by decide) | exact ad_m (by decide) | exact ad_l (by decide) | exact ad_g (by decide) | exact ad_lt (by decide) | exact ad_o (by decide) | omega) only [↓ui_s, ↓uj_s, ↓ui_o, ↓ui_k, ↓uj_o, ↓uj_k, ↓ui_j, ↓uj_i, ↓o2, ↓j2, ui_s, uj_s, ui_o, ui_k, uj_o, uj_k, ui_j, uj_i, o2, j2]; exact R.al s k2 h0 h1, fun s h0 => by simp (disch := first | decide | exact ad_ne (by decide) | exact ad_m (by decide) | exact ad_l (by decide) | exact ad_g (by decide) | exact ad_lt (by decide) | exact ad_o (by decide) | omega) only [↓ui_s, ↓uj_s, ↓ui_o, ↓ui_k, ↓uj_o, ↓uj_k, ↓ui_j, ↓uj_i, ↓o2, ↓j2, ui_s, uj_s, ui_o, ui_k, uj_o, uj_k, ui_j, uj_i, o2, j2]; exact R.lz s h0, fun s i h0 h1 => by simp (disch := first | decide | exact ad_ne (by decide) | exact ad_m (by decide) | exact ad_l (by decide) | exact ad_g (by decide) | exact ad_lt (by decide) | exact ad_o (by decide) | omega) only [↓ui_s, ↓uj_s, ↓ui_o, ↓ui_k, ↓uj_o, ↓uj_k, ↓ui_j, ↓uj_i, ↓o2, ↓j2, ui_s, uj_s, ui_o, ui_k, uj_o, uj_k, ui_j, uj_i, o2, j2] at h1 ⊢; exact R.sv s i h0 h1, fun s h0 => by simp (disch := first | decide | exact ad_ne (by decide) | exact ad_m (by decide) | exact ad_l (by decide) | exact ad_g (by decide) | exact ad_lt (by decide) | exact ad_o (by decide) | omega) only [↓ui_s, ↓uj_s, ↓ui_o, ↓ui_k, ↓uj_o, ↓uj_k, ↓ui_j, ↓uj_i, ↓o2, ↓j2, ui_s, uj_s, ui_o, ui_k, uj_o, uj_k, ui_j, uj_i, o2, j2]; rw [R.tk s h0]; exact congrArg (fun f => kb f 34) (tkM_cg (R.rb s h0) (fun i hi => by simp (disch := first | decide | exact ad_ne (by decide) | exact ad_m (by decide) | exact ad_l (by decide) | exact ad_g (by decide) | exact ad_lt (by decide) | exact ad_o (by decide) | omega) only [↓ui_s, ↓uj_s, ↓ui_o, ↓ui_k, ↓uj_o, ↓uj_k, ↓ui_j, ↓uj_i, ↓o2, ↓j2, ui_s, uj_s, ui_o, ui_k, uj_o, uj_k, ui_j, uj_i, o2, j2]) (by simp (disch := first | decide | exact ad_ne (by decide) | exact ad_m (by decide) | exact ad_l (by decide) | exact ad_g (by decide) | exact ad_lt (by decide) | exact ad_o (by decide) | omega) only [↓ui_s, ↓uj_s, ↓ui_o, ↓ui_k, ↓uj_o, ↓uj_k, ↓ui_j, ↓uj_i, ↓o2, ↓j2, ui_s, uj_s, ui_o, ui_k, uj_o, uj_k, ui_j, uj_i, o2, j2])), fun s h0 => by simp (disch := first | decide | exact ad_ne (by decide) | exact ad_m (by decide) | exact ad_l (by decide) | exact ad_g (by decide) | exact ad_lt (by decide) | exact ad_o (by decide) | omega) only [↓ui_s, ↓uj_s, ↓ui_o, ↓ui_k, ↓uj_o, ↓uj_k, ↓ui_j, ↓uj_i, ↓o2, ↓j2, ui_s, uj_s, ui_o, ui_k, uj_o, uj_k, ui_j, uj_i, o2, j2]; exact R.rb s h0, fun s i h0 h1 => by simp (disch := first | decide | exact ad_ne (by decide) | exact ad_m (by decide) | exact ad_l (by decide) | exact ad_g (by decide) | exact ad_lt (by decide) | exact ad_o (by decide) | omega) only [↓ui_s, ↓uj_s, ↓ui_o, ↓ui_k, ↓uj_o, ↓uj_k, ↓ui_j, ↓uj_i, ↓o2, ↓j2, ui_s, uj_s, ui_o, ui_k, uj_o, uj_k, ui_j, uj_i, o2, j2] at h1 ⊢; exact R.rk s i h0 h1, (by simp (disch := first | decide | exact ad_ne (by decide) | exact ad_m (by decide) | exact ad_l (by decide) | exact ad_g (by decide) | exact ad_lt (by decide) | exact ad_o (by decide) | omega) only [↓ui_s, ↓uj_s, ↓ui_o, ↓ui_k, ↓uj_o, ↓uj_k, ↓ui_j, ↓uj_i, ↓o2, ↓j2, ui_s, uj_s, ui_o, ui_k, uj_o, uj_k, ui_j, uj_i, o2, j2]; exact R.rd), fun s h0 => by simp (disch := first | decide | exact ad_ne (by decide) | exact ad_m (by decide) | exact ad_l (by decide) | exact ad_g (by decide) | exact ad_lt (by decide) | exact ad_o (by decide) | omega) only [↓ui_s, ↓uj_s, ↓ui_o, ↓ui_k, ↓uj_o, ↓uj_k, ↓ui_j, ↓uj_i, ↓o2, ↓j2, ui_s, uj_s, ui_o, ui_k, uj_o, uj_k, ui_j, uj_i, o2, j2]; exact R.bb s h0, fun z => by simp (disch := first | decide | exact ad_ne (by decide) | exact ad_m (by decide) | exact ad_l (by decide) | exact ad_g (by decide) | exact ad_lt (by decide) | exact ad_o (by decide) | omega) only [↓ui_s, ↓uj_s, ↓ui_o, ↓ui_k, ↓uj_o, ↓uj_k, ↓ui_j, ↓uj_i, ↓o2, ↓j2, ui_s, uj_s, ui_o, ui_k, uj_o, uj_k, ui_j, uj_i, o2, j2] at z ⊢; exact R.wp z⟩
noncomputable def wa011 (W3 : zM) (t dl u1 u2 u3 : Nat) (v2 v3 : Q4) (μ : zM) : zM := z_ui (rcW (z_ui (z_ui W3 (18 + 8 * t) 4 (((μ.1 (18 + 8 * t) 4) - ((hnd (v2.1 * (bif decide ((nI u2) = (nI dl)) then (6 : Int32) else 4))) + (300 * (μ.1 0 11)))) - ((hnd (v3.1 * (bif decide ((nI u3) = (nI dl)) then (6 : Int32) else 4))) + 0))) (18 + 8 * u3) 4 ((μ.1 (18 + 8 * u3) 4) + (((hnd (v3.1 * (bif decide ((nI u3) = (nI dl)) then (6 : Int32) else 4))) + 0) + 0))) 1 (nI u3) (nI t) (((hnd (v3.1 * (bif decide ((nI u3) = (nI dl)) then (6 : Int32) else 4))) + 0) + 0)) 0 12 0
theorem wA011_p (W : zM) (t dl e u1 u2 u3 : Nat) (v2 v3 : Q4) (x : zM) : wA011 W t dl e u1 u2 u3 v2 v3 x = eHB (wa011 W t dl u1 u2 u3 v2 v3 x) ((decide ((nI u2) = (nI dl))) || (decide ((nI u3) = (nI dl)))) (!((decide ((nI u2) = (nI dl))) || (decide ((nI u3) = (nI dl))))) (xBk (wa011 W t dl u1 u2 u3 v2 v3 x)) dl e (rcM (wa011 W t dl u1 u2 u3 v2 v3 x)) := rfl
noncomputable def aq011 (μ N2 N3 : zM) (t dl c u1 u2 u3 : Nat) : zM := z_ui (z_ui (z_ui (z_ui (z_ui (z_ui (z_ui (z_uj (z_ui (z_ui (z_ui (z_ui (z_ui (z_ui (z_ui (z_ui (z_ui (z_ui (z_ui (z_uj (z_ui (z_ui (z_ui (z_ui (z_ui (z_ui (z_ui (z_ui μ 50 53 0) 72 0 (nI u2)) 72 1 (nI t)) 72 2 (N2.1 50 13)) 72 3 (N2.1 50 14)) 72 4 (N2.1 50 15)) 72 5 0) 72 6 (nI c)) 73 0 (N2.2.1 50 17)) 61 t ((μ.1 61 t) - ((hnd ((N2.1 50 13) * (bif decide ((nI u2) = (nI dl)) then (6 : Int32) else 4))) + (300 * (μ.1 50 42))))) 61 u2 ((μ.1 61 u2) + ((hnd ((N2.1 50 13) * (bif decide ((nI u2) = (nI dl)) then (6 : Int32) else 4))) + (300 * (μ.1 50 42))))) 72 5 (0 + ((hnd ((N2.1 50 13) * (bif decide ((nI u2) = (nI dl)) then (6 : Int32) else 4))) + (300 * (μ.1 50 42))))) 50 53 1) 72 7 (nI u3)) 72 8 (nI t)) 72 9 (N3.1 50 13)) 72 10 (N3.1 50 14)) 72 11 (N3.1 50 15)) 72 12 0) 72 13 (nI c)) 73 1 (N3.2.1 50 17)) 61 t (((μ.1 61 t) - ((hnd ((N2.1 50 13) * (bif decide ((nI u2) = (nI dl)) then (6 : Int32) else 4))) + (300 * (μ.1 50 42)))) - ((hnd ((N3.1 50 13) * (bif decide ((nI u3) = (nI dl)) then (6 : Int32) else 4))) + 0))) 61 u3 ((μ.1 61 u3) + ((hnd ((N3.1 50 13) * (bif decide ((nI u3) = (nI dl)) then (6 : Int32) else 4))) + 0))) 72 12 (0 + ((hnd ((N3.1 50 13) * (bif decide ((nI u3) = (nI dl)) then (6 : Int32) else 4))) + 0))) 50 53 2) 61 u2 (((μ.1 61 u2) + ((hnd ((N2.1 50 13) * (bif decide ((nI u2) = (nI dl)) then (6 : Int32) else 4))) + (300 * (μ.1 50 42)))) + (1000 * (μ.1 50 43)))) 72 5 ((0 + ((hnd ((N2.1 50 13) * (bif decide ((nI u2) = (nI dl)) then (6 : Int32) else 4))) + (300 * (μ.1 50 42)))) + (1000 * (μ.1 50 43)))) 50 43 0
theorem aM011_p (m N2 N3 : zM) (t dl e c u1 u2 u3 : Nat) : aM011 m N2 N3 t dl e c u1 u2 u3 = eMB (aq011 m N2 N3 t dl c u1 u2 u3) ((decide ((nI u2) = (nI dl))) || (decide ((nI u3) = (nI dl)))) ((decide ((nI u2) = (nI dl))) || (decide ((nI u3) = (nI dl)))) dl e := rfl
theorem rc_aw011 {x m W2 W3 N2 N3 : zM} {v2 v3 : Q4} (R : RCl x m) {t dl c u1 u2 u3 : Nat} (ht : t < 4) (hu1 : (t + 1) % 4 = u1) (hu2 : (t + 2) % 4 = u2) (hu3 : (t + 3) % 4 = u3) (hc : x.1 0 15 = nI c) (hO2 : WOj (x) W2) (hv2 : bqJ W2 = v2) (hb2 : v2.1 = N2.1 50 13) (hh2 : v2.2.1 = N2.1 50 14) (hf2 : v2.2.2.2 = N2.2.1 50 17) (hq2 : v2.2.2.1 = N2.1 50 15) (hO3 : WOj (z_ui (rcW (z_ui (z_ui W2 (18 + 8 * t) 4 ((x.1 (18 + 8 * t) 4) - ((hnd (v2.1 * (bif decide ((nI u2) = (nI dl)) then (6 : Int32) else 4))) + (300 * (x.1 0 11))))) (18 + 8 * u2) 4 ((x.1 (18 + 8 * u2) 4) + (((hnd (v2.1 * (bif decide ((nI u2) = (nI dl)) then (6 : Int32) else 4))) + (300 * (x.1 0 11))) + ((x.1 0 12) * 1000)))) 0 (nI u2) (nI t) (((hnd (v2.1 * (bif decide ((nI u2) = (nI dl)) then (6 : Int32) else 4))) + (300 * (x.1 0 11))) + ((x.1 0 12) * 1000))) 0 12 0) W3) (hv3 : bqJ W3 = v3) (hb3 : v3.1 = N3.1 50 13) (hh3 : v3.2.1 = N3.1 50 14) (hf3 : v3.2.2.2 = N3.2.1 50 17) (hq3 : v3.2.2.1 = N3.1 50 15) : RCl (wa011 W3 t dl u1 u2 u3 v2 v3 x) (aq011 m N2 N3 t dl c u1 u2 u3) := by
  have o2 := fun r k h => (hO2 r k h).1
  have j2 := fun r k h => (hO2 r k h).2
  have a2 : W2.1 4 0 = N2.1 50 13 := (congrArg (fun q => q.1) hv2).trans hb2
  have b2 : W2.1 4 1 = N2.1 50 14 := (congrArg (fun q => q.2.1) hv2).trans hh2
  have d2 : W2.2.1 4 3 = N2.2.1 50 17 := (congrArg (fun q => q.2.2.2) hv2).trans hf2
  have p2 : W2.1 4 2 = N2.1 50 15 := (congrArg (fun q => q.2.2.1) hv2).trans hq2
  clear hO2
  have o3 := fun r k h => (hO3 r k h).1
  have j3 := fun r k h => (hO3 r k h).2
  have a3 : W3.1 4 0 = N3.1 50 13 := (congrArg (fun q => q.1) hv3).trans hb3
  have b3 : W3.1 4 1 = N3.1 50 14 := (congrArg (fun q => q.2.1) hv3).trans hh3
  have d3 : W3.2.1 4 3 = N3.2.1 50 17 := (congrArg (fun q => q.2.2.2) hv3).trans hf3
  have p3 : W3.1 4 2 = N3.1 50 15 := (congrArg (fun q => q.2.2.1) hv3).trans hq3
  clear hO3
  have h1 : u1 < 4 := by omega
  have h2 : u2 < 4 := by omega
  have h3 : u3 < 4 := by omega
  have et := R.pt t ht
  have eu1 := R.pt u1 h1
  have eu2 := R.pt u2 h2
  have eu3 := R.pt u3 h3
  have est := R.st
  have ebt := R.bt
  unfold wa011 aq011
  unfold rcW at *
  exact ⟨(by simp (disch := first | decide | exact ad_ne (by decide) | exact ad_m (by decide) | exact ad_l (by decide) | exact ad_g (by decide) | exact ad_lt (by decide) | exact ad_o (by decide) | omega) only [↓ui_s, ↓uj_s, ↓ui_o, ↓ui_k, ↓uj_o, ↓uj_k, ↓ui_j, ↓uj_i, ↓o2, ↓j2, ↓o3, ↓j3, ui_s, uj_s, ui_o, ui_k, uj_o, uj_k, ui_j, uj_i, o2, j2, o3, j3]; exact R.dl), (by simp (disch := first | decide | exact ad_ne (by decide) | exact ad_m (by decide) | exact ad_l (by decide) | exact ad_g (by decide) | exact ad_lt (by decide) | exact ad_o (by decide) | omega) only [↓ui_s, ↓uj_s, ↓ui_o, ↓ui_k, ↓uj_o, ↓uj_k, ↓ui_j, ↓uj_i, ↓o2, ↓j2, ↓o3, ↓j3, ui_s, uj_s, ui_o, ui_k, uj_o, uj_k, ui_j, uj_i, o2, j2, o3, j3]; exact R.rn), (by simp (disch := first | decide | exact ad_ne (by decide) | exact ad_m (by decide) | exact ad_l (by decide) | exact ad_g (by decide) | exact ad_lt (by decide) | exact ad_o (by decide) | omega) only [↓ui_s, ↓uj_s, ↓ui_o, ↓ui_k, ↓uj_o, ↓uj_k, ↓ui_j, ↓uj_i, ↓o2, ↓j2, ↓o3, ↓j3, ui_s, uj_s, ui_o, ui_k, uj_o, uj_k, ui_j, uj_i, o2, j2, o3, j3]; exact R.st), (by simp (disch := first | decide | exact ad_ne (by decide) | exact ad_m (by decide) | exact ad_l (by decide) | exact ad_g (by decide) | exact ad_lt (by decide) | exact ad_o (by decide) | omega) only [↓ui_s, ↓uj_s, ↓ui_o, ↓ui_k, ↓uj_o, ↓uj_k, ↓ui_j, ↓uj_i, ↓o2, ↓j2, ↓o3, ↓j3, ui_s, uj_s, ui_o, ui_k, uj_o, uj_k, ui_j, uj_i, o2, j2, o3, j3]), (by simp (disch := first | decide | exact ad_ne (by decide) | exact ad_m (by decide) | exact ad_l (by decide) | exact ad_g (by decide) | exact ad_lt (by decide) | exact ad_o (by decide) | omega) only [↓ui_s, ↓uj_s, ↓ui_o, ↓ui_k, ↓uj_o, ↓uj_k, ↓ui_j, ↓uj_i, ↓o2, ↓j2, ↓o3, ↓j3, ui_s, uj_s, ui_o, ui_k, uj_o, uj_k, ui_j, uj_i, o2, j2, o3, j3]; exact R.en), (by simp (disch := first | decide | exact ad_ne (by decide) | exact ad_m (by decide) | exact ad_l (by decide) | exact ad_g (by decide) | exact ad_lt (by decide) | exact ad_o (by decide) | omega) only [↓ui_s, ↓uj_s, ↓ui_o, ↓ui_k, ↓uj_o, ↓uj_k, ↓ui_j, ↓uj_i, ↓o2, ↓j2, ↓o3, ↓j3, ui_s, uj_s, ui_o, ui_k, uj_o, uj_k, ui_j, uj_i, o2, j2, o3, j3]; exact R.he), (by simp (disch := first | decide | exact ad_ne (by decide) | exact ad_m (by decide) | exact ad_l (by decide) | exact ad_g (by decide) | exact ad_lt (by decide) | exact ad_o (by decide) | omega) only [↓ui_s, ↓uj_s, ↓ui_o, ↓ui_k, ↓uj_o, ↓uj_k, ↓ui_j, ↓uj_i, ↓o2, ↓j2, ↓o3, ↓j3, ui_s, uj_s, ui_o, ui_k, uj_o, uj_k, ui_j, uj_i, o2, j2, o3, j3]; rfl), (by simp (disch := first | decide | exact ad_ne (by decide) | exact ad_m (by decide) | exact ad_l (by decide) | exact ad_g (by decide) | exact ad_lt (by decide) | exact ad_o (by decide) | omega) only [↓ui_s, ↓uj_s, ↓ui_o, ↓ui_k, ↓uj_o, ↓uj_k, ↓ui_j, ↓uj_i, ↓o2, ↓j2, ↓o3, ↓j3, ui_s, uj_s, ui_o, ui_k, uj_o, uj_k, ui_j, uj_i, o2, j2, o3, j3]; exact R.sd), (by simp (disch := first | decide | exact ad_ne (by decide) | exact ad_m (by decide) | exact ad_l (by decide) | exact ad_g (by decide) | exact ad_lt (by decide) | exact ad_o (by decide) | omega) only [↓ui_s, ↓uj_s, ↓ui_o, ↓ui_k, ↓uj_o, ↓uj_k, ↓ui_j, ↓uj_i, ↓o2, ↓j2, ↓o3, ↓j3, ui_s, uj_s, ui_o, ui_k, uj_o, uj_k, ui_j, uj_i, o2, j2, o3, j3]; exact R.nx), fun i h0 => by simp (disch := first | decide | exact ad_ne (by decide) | exact ad_m (by decide) | exact ad_l (by decide) | exact ad_g (by decide) | exact ad_lt (by decide) | exact ad_o (by decide) | omega) only [↓ui_s, ↓uj_s, ↓ui_o, ↓ui_k, ↓uj_o, ↓uj_k, ↓ui_j, ↓uj_i, ↓o2, ↓j2, ↓o3, ↓j3, ui_s, uj_s, ui_o, ui_k, uj_o, uj_k, ui_j, uj_i, o2, j2, o3, j3]; exact R.wl i h0, (fun s g0 => by
      obtain e | e | e | e : s = t ∨ s = u1 ∨ s = u2 ∨ s = u3 := by omega
      all_goals (rw [e]; simp (disch := first | decide | exact ad_ne (by decide) | exact ad_m (by decide) | exact ad_l (by decide) | exact ad_g (by decide) | exact ad_lt (by decide) | exact ad_o (by decide) | omega) only [↓ui_s, ↓uj_s, ↓ui_o, ↓ui_k, ↓uj_o, ↓uj_k, ↓ui_j, ↓uj_i, ↓o2, ↓j2, ↓o3, ↓j3, ui_s, uj_s, ui_o, ui_k, uj_o, uj_k, ui_j, uj_i, o2, j2, o3, j3]; first | done | with_reducible rfl | (simp only [et, eu1, eu2, eu3, hb2, hh2, hf2, hq2, a2, b2, d2, p2, hb3, hh3, hf3, hq3, a3, b3, d3, p3, hc, est, ebt, Int32.zero_add, Int32.add_zero, Int32.zero_mul, Int32.mul_zero]; first | done | with_reducible rfl | (rw [Int32.mul_comm (m.1 50 43)]; first | done | ac_rfl)) | rfl)), fun s h0 => by simp (disch := first | decide | exact ad_ne (by decide) | exact ad_m (by decide) | exact ad_l (by decide) | exact ad_g (by decide) | exact ad_lt (by decide) | exact ad_o (by decide) | omega) only [↓ui_s, ↓uj_s, ↓ui_o, ↓ui_k, ↓uj_o, ↓uj_k, ↓ui_j, ↓uj_i, ↓o2, ↓j2, ↓o3, ↓j3, ui_s, uj_s, ui_o, ui_k, uj_o, uj_k, ui_j, uj_i, o2, j2, o3, j3]; exact R.be s h0, fun s h0 => by simp (disch := first | decide | exact ad_ne (by decide) | exact ad_m (by decide) | exact ad_l (by decide) | exact ad_g (by decide) | exact ad_lt (by decide) | exact ad_o (by decide) | omega) only [↓ui_s, ↓uj_s, ↓ui_o, ↓ui_k, ↓uj_o, ↓uj_k, ↓ui_j, ↓uj_i, ↓o2, ↓j2, ↓o3, ↓j3, ui_s, uj_s, ui_o, ui_k, uj_o, uj_k, ui_j, uj_i, o2, j2, o3, j3]; exact R.ao s h0, fun s h0 => by simp (disch := first | decide | exact ad_ne (by decide) | exact ad_m (by decide) | exact ad_l (by decide) | exact ad_g (by decide) | exact ad_lt (by decide) | exact ad_o (by decide) | omega) only [↓ui_s, ↓uj_s, ↓ui_o, ↓ui_k, ↓uj_o, ↓uj_k, ↓ui_j, ↓uj_i, ↓o2, ↓j2, ↓o3, ↓j3, ui_s, uj_s, ui_o, ui_k, uj_o, uj_k, ui_j, uj_i, o2, j2, o3, j3]; exact R.lg s h0, fun s h0 => by simp (disch := first | decide | exact ad_ne (by decide) | exact ad_m (by decide) | exact ad_l (by decide) | exact ad_g (by decide) | exact ad_lt (by decide) | exact ad_o (by decide) | omega) only [↓ui_s, ↓uj_s, ↓ui_o, ↓ui_k, ↓uj_o, ↓uj_k, ↓ui_j, ↓uj_i, ↓o2, ↓j2, ↓o3, ↓j3, ui_s, uj_s, ui_o, ui_k, uj_o, uj_k, ui_j, uj_i, o2, j2, o3, j3]; exact R.sy s h0, fun s h0 => by simp (disch := first | decide | exact ad_ne (by decide) | exact ad_m (by decide) | exact ad_l (by decide) | exact ad_g (by decide) | exact ad_lt (by decide) | exact ad_o (by decide) | omega) only [↓ui_s, ↓uj_s, ↓ui_o, ↓ui_k, ↓uj_o, ↓uj_k, ↓ui_j, ↓uj_i, ↓o2, ↓j2, ↓o3, ↓j3, ui_s, uj_s, ui_o, ui_k, uj_o, uj_k, ui_j, uj_i, o2, j2, o3, j3]; exact R.ds s h0, fun s h0 => by simp (disch := first | decide | exact ad_ne (by decide) | exact ad_m (by decide) | exact ad_l (by decide) | exact ad_g (by decide) | exact ad_lt (by decide) | exact ad_o (by decide) | omega) only [↓ui_s, ↓uj_s, ↓ui_o, ↓ui_k, ↓uj_o, ↓uj_k, ↓ui_j, ↓uj_i, ↓o2, ↓j2, ↓o3, ↓j3, ui_s, uj_s, ui_o, ui_k, uj_o, uj_k, ui_j, uj_i, o2, j2, o3, j3]; exact R.lm s h0, fun s k h0 h1 => by simp (disch := first | decide | exact ad_ne (by decide) | exact ad_m (by decide) | exact ad_l (by decide) | exact ad_g (by decide) | exact ad_lt (by decide) | exact ad_o (by decide) | omega) only [↓ui_s, ↓uj_s, ↓ui_o, ↓ui_k, ↓uj_o, ↓uj_k, ↓ui_j, ↓uj_i, ↓o2, ↓j2, ↓o3, ↓j3, ui_s, uj_s, ui_o, ui_k, uj_o, uj_k, ui_j, uj_i, o2, j2, o3, j3]; exact R.hd s k h0 h1, fun s i h0 h1 => by simp (disch := first | decide | exact ad_ne (by decide) | exact ad_m (by decide) | exact ad_l (by decide) | exact ad_g (by decide) | exact ad_lt (by decide) | exact ad_o (by decide) | omega) only [↓ui_s, ↓uj_s, ↓ui_o, ↓ui_k, ↓uj_o, ↓uj_k, ↓ui_j, ↓uj_i, ↓o2, ↓j2, ↓o3, ↓j3, ui_s, uj_s, ui_o, ui_k, uj_o, uj_k, ui_j, uj_i, o2, j2, o3, j3]; exact R.so s i h0 h1, fun s i h0 h1 => by simp (disch := first | decide | exact ad_ne (by decide) | exact ad_m (by decide) | exact ad_l (by decide) | exact ad_g (by decide) | exact ad_lt (by decide) | exact ad_o (by decide) | omega) only [↓ui_s, ↓uj_s, ↓ui_o, ↓ui_k, ↓uj_o, ↓uj_k, ↓ui_j, ↓uj_i, ↓o2, ↓j2, ↓o3, ↓j3, ui_s, uj_s, ui_o, ui_k, uj_o, uj_k, ui_j, uj_i, o2, j2, o3, j3]; exact R.lo s i h0 h1, fun s i h0 h1 => by simp (disch := first | decide | exact ad_ne (by decide) | exact ad_m (by decide) | exact ad_l (by decide) | exact ad_g (by decide) | exact ad_lt (by decide) | exact ad_o (by decide) | omega) only [↓ui_s, ↓uj_s, ↓ui_o, ↓ui_k, ↓uj_o, ↓uj_k, ↓ui_j, ↓uj_i, ↓o2, ↓j2, ↓o3, ↓j3, ui_s, uj_s, ui_o, ui_k, uj_o, uj_k, ui_j, uj_i, o2, j2, o3, j3]; exact R.rv s i h0 h1, (fun i f g0 g1 g2 => by
      obtain rfl | rfl | rfl | e : i = 0 ∨ i = 1 ∨ i = 2 ∨ i = 3 := by omega
      · obtain rfl | rfl | rfl | rfl | rfl | rfl | rfl : f = 0 ∨ f = 1 ∨ f = 2 ∨ f = 3 ∨ f = 4 ∨ f = 5 ∨ f = 6 := by omega
        all_goals (simp (disch := first | decide | exact ad_ne (by decide) | exact ad_m (by decide) | exact ad_l (by decide) | exact ad_g (by decide) | exact ad_lt (by decide) | exact ad_o (by decide) | omega) only [↓ui_s, ↓uj_s, ↓ui_o, ↓ui_k, ↓uj_o, ↓uj_k, ↓ui_j, ↓uj_i, ↓o2, ↓j2, ↓o3, ↓j3, ui_s, uj_s, ui_o, ui_k, uj_o, uj_k, ui_j, uj_i, o2, j2, o3, j3]; first | done | with_reducible rfl | (simp only [et, eu1, eu2, eu3, hb2, hh2, hf2, hq2, a2, b2, d2, p2, hb3, hh3, hf3, hq3, a3, b3, d3, p3, hc, est, ebt, Int32.zero_add, Int32.add_zero, Int32.zero_mul, Int32.mul_zero]; first | done | with_reducible rfl | (rw [Int32.mul_comm (m.1 50 43)]; first | done | ac_rfl)) | rfl)
      · obtain rfl | rfl | rfl | rfl | rfl | rfl | rfl : f = 0 ∨ f = 1 ∨ f = 2 ∨ f = 3 ∨ f = 4 ∨ f = 5 ∨ f = 6 := by omega
        all_goals (simp (disch := first | decide | exact ad_ne (by decide) | exact ad_m (by decide) | exact ad_l (by decide) | exact ad_g (by decide) | exact ad_lt (by decide) | exact ad_o (by decide) | omega) only [↓ui_s, ↓uj_s, ↓ui_o, ↓ui_k, ↓uj_o, ↓uj_k, ↓ui_j, ↓uj_i, ↓o2, ↓j2, ↓o3, ↓j3, ui_s, uj_s, ui_o, ui_k, uj_o, uj_k, ui_j, uj_i, o2, j2, o3, j3]; first | done | with_reducible rfl | (simp only [et, eu1, eu2, eu3, hb2, hh2, hf2, hq2, a2, b2, d2, p2, hb3, hh3, hf3, hq3, a3, b3, d3, p3, hc, est, ebt, Int32.zero_add, Int32.add_zero, Int32.zero_mul, Int32.mul_zero]; first | done | with_reducible rfl | (rw [Int32.mul_comm (m.1 50 43)]; first | done | ac_rfl)) | rfl)
      · simp (disch := first | decide | exact ad_ne (by decide) | exact ad_m (by decide) | exact ad_l (by decide) | exact ad_g (by decide) | exact ad_lt (by decide) | exact ad_o (by decide) | omega) only [↓ui_s, ↓uj_s, ↓ui_o, ↓ui_k, ↓uj_o, ↓uj_k, ↓ui_j, ↓uj_i, ↓o2, ↓j2, ↓o3, ↓j3, ui_s, uj_s, ui_o, ui_k, uj_o, uj_k, ui_j, uj_i, o2, j2, o3, j3]; exact R.wi _ f g0 g1 g2
      · subst e; simp (disch := first | decide | exact ad_ne (by decide) | exact ad_m (by decide) | exact ad_l (by decide) | exact ad_g (by decide) | exact ad_lt (by decide) | exact ad_o (by decide) | omega) only [↓ui_s, ↓uj_s, ↓ui_o, ↓ui_k, ↓uj_o, ↓uj_k, ↓ui_j, ↓uj_i, ↓o2, ↓j2, ↓o3, ↓j3, ui_s, uj_s, ui_o, ui_k, uj_o, uj_k, ui_j, uj_i, o2, j2, o3, j3]; exact R.wi _ f g0 g1 g2), (fun i g0 => by
      obtain rfl | rfl | rfl | e : i = 0 ∨ i = 1 ∨ i = 2 ∨ i = 3 := by omega
      · simp (disch := first | decide | exact ad_ne (by decide) | exact ad_m (by decide) | exact ad_l (by decide) | exact ad_g (by decide) | exact ad_lt (by decide) | exact ad_o (by decide) | omega) only [↓ui_s, ↓uj_s, ↓ui_o, ↓ui_k, ↓uj_o, ↓uj_k, ↓ui_j, ↓uj_i, ↓o2, ↓j2, ↓o3, ↓j3, ui_s, uj_s, ui_o, ui_k, uj_o, uj_k, ui_j, uj_i, o2, j2, o3, j3]; exact d2
      · simp (disch := first | decide | exact ad_ne (by decide) | exact ad_m (by decide) | exact ad_l (by decide) | exact ad_g (by decide) | exact ad_lt (by decide) | exact ad_o (by decide) | omega) only [↓ui_s, ↓uj_s, ↓ui_o, ↓ui_k, ↓uj_o, ↓uj_k, ↓ui_j, ↓uj_i, ↓o2, ↓j2, ↓o3, ↓j3, ui_s, uj_s, ui_o, ui_k, uj_o, uj_k, ui_j, uj_i, o2, j2, o3, j3]; exact d3
      · simp (disch := first | decide | exact ad_ne (by decide) | exact ad_m (by decide) | exact ad_l (by decide) | exact ad_g (by decide) | exact ad_lt (by decide) | exact ad_o (by decide) | omega) only [↓ui_s, ↓uj_s, ↓ui_o, ↓ui_k, ↓uj_o, ↓uj_k, ↓ui_j, ↓uj_i, ↓o2, ↓j2, ↓o3, ↓j3, ui_s, uj_s, ui_o, ui_k, uj_o, uj_k, ui_j, uj_i, o2, j2, o3, j3]; exact R.wf _ g0
      · subst e; simp (disch := first | decide | exact ad_ne (by decide) | exact ad_m (by decide) | exact ad_l (by decide) | exact ad_g (by decide) | exact ad_lt (by decide) | exact ad_o (by decide) | omega) only [↓ui_s, ↓uj_s, ↓ui_o, ↓ui_k, ↓uj_o, ↓uj_k, ↓ui_j, ↓uj_i, ↓o2, ↓j2, ↓o3, ↓j3, ui_s, uj_s, ui_o, ui_k, uj_o, uj_k, ui_j, uj_i, o2, j2, o3, j3]; exact R.wf _ g0), fun s k2 h0 h1 => by simp (disch := first | decide | exact ad_ne (by decide) | exact ad_m (by decide) | exact ad_l (by decide) | exact ad_g (by decide) | exact ad_lt (by decide) | exact ad_o (by decide) | omega) only [↓ui_s, ↓uj_s, ↓ui_o, ↓ui_k, ↓uj_o, ↓uj_k, ↓ui_j, ↓uj_i, ↓o2, ↓j2, ↓o3, ↓j3, ui_s, uj_s, ui_o, ui_k, uj_o, uj_k, ui_j, uj_i, o2, j2, o3, j3]; exact R.al s k2 h0 h1, fun s h0 => by simp (disch := first | decide | exact ad_ne (by decide) | exact ad_m (by decide) | exact ad_l (by decide) | exact ad_g (by decide) | exact ad_lt (by decide) | exact ad_o (by decide) | omega) only [↓ui_s, ↓uj_s, ↓ui_o, ↓ui_k, ↓uj_o, ↓uj_k, ↓ui_j, ↓uj_i, ↓o2, ↓j2, ↓o3, ↓j3, ui_s, uj_s, ui_o, ui_k, uj_o, uj_k, ui_j, uj_i, o2, j2, o3, j3]; exact R.lz s h0, fun s i h0 h1 => by simp (disch := first | decide | exact ad_ne (by decide) | exact ad_m (by decide) | exact ad_l (by decide) | exact ad_g (by decide) | exact ad_lt (by decide) | exact ad_o (by decide) | omega) only [↓ui_s, ↓uj_s, ↓ui_o, ↓ui_k, ↓uj_o, ↓uj_k, ↓ui_j, ↓uj_i, ↓o2, ↓j2, ↓o3, ↓j3, ui_s, uj_s, ui_o, ui_k, uj_o, uj_k, ui_j, uj_i, o2, j2, o3, j3] at h1 ⊢; exact R.sv s i h0 h1, fun s h0 => by simp (disch := first | decide | exact ad_ne (by decide) | exact ad_m (by decide) | exact ad_l (by decide) | exact ad_g (by decide) | exact ad_lt (by decide) | exact ad_o (by decide) | omega) only [↓ui_s, ↓uj_s, ↓ui_o, ↓ui_k, ↓uj_o, ↓uj_k, ↓ui_j, ↓uj_i, ↓o2, ↓j2, ↓o3, ↓j3, ui_s, uj_s, ui_o, ui_k, uj_o, uj_k, ui_j, uj_i, o2, j2, o3, j3]; rw [R.tk s h0]; exact congrArg (fun f => kb f 34) (tkM_cg (R.rb s h0) (fun i hi => by simp (disch := first | decide | exact ad_ne (by decide) | exact ad_m (by decide) | exact ad_l (by decide) | exact ad_g (by decide) | exact ad_lt (by decide) | exact ad_o (by decide) | omega) only [↓ui_s, ↓uj_s, ↓ui_o, ↓ui_k, ↓uj_o, ↓uj_k, ↓ui_j, ↓uj_i, ↓o2, ↓j2, ↓o3, ↓j3, ui_s, uj_s, ui_o, ui_k, uj_o, uj_k, ui_j, uj_i, o2, j2, o3, j3]) (by simp (disch := first | decide | exact ad_ne (by decide) | exact ad_m (by decide) | exact ad_l (by decide) | exact ad_g (by decide) | exact ad_lt (by decide) | exact ad_o (by decide) | omega) only [↓ui_s, ↓uj_s, ↓ui_o, ↓ui_k, ↓uj_o, ↓uj_k, ↓ui_j, ↓uj_i, ↓o2, ↓j2, ↓o3, ↓j3, ui_s, uj_s, ui_o, ui_k, uj_o, uj_k, ui_j, uj_i, o2, j2, o3, j3])), fun s h0 => by simp (disch := first | decide | exact ad_ne (by decide) | exact ad_m (by decide) | exact ad_l (by decide) | exact ad_g (by decide) | exact ad_lt (by decide) | exact ad_o (by decide) | omega) only [↓ui_s, ↓uj_s, ↓ui_o, ↓ui_k, ↓uj_o, ↓uj_k, ↓ui_j, ↓uj_i, ↓o2, ↓j2, ↓o3, ↓j3, ui_s, uj_s, ui_o, ui_k, uj_o, uj_k, ui_j, uj_i, o2, j2, o3, j3]; exact R.rb s h0, fun s i h0 h1 => by simp (disch := first | decide | exact ad_ne (by decide) | exact ad_m (by decide) | exact ad_l (by decide) | exact ad_g (by decide) | exact ad_lt (by decide) | exact ad_o (by decide) | omega) only [↓ui_s, ↓uj_s, ↓ui_o, ↓ui_k, ↓uj_o, ↓uj_k, ↓ui_j, ↓uj_i, ↓o2, ↓j2, ↓o3, ↓j3, ui_s, uj_s, ui_o, ui_k, uj_o, uj_k, ui_j, uj_i, o2, j2, o3, j3] at h1 ⊢; exact R.rk s i h0 h1, (by simp (disch := first | decide | exact ad_ne (by decide) | exact ad_m (by decide) | exact ad_l (by decide) | exact ad_g (by decide) | exact ad_lt (by decide) | exact ad_o (by decide) | omega) only [↓ui_s, ↓uj_s, ↓ui_o, ↓ui_k, ↓uj_o, ↓uj_k, ↓ui_j, ↓uj_i, ↓o2, ↓j2, ↓o3, ↓j3, ui_s, uj_s, ui_o, ui_k, uj_o, uj_k, ui_j, uj_i, o2, j2, o3, j3]; exact R.rd), fun s h0 => by simp (disch := first | decide | exact ad_ne (by decide) | exact ad_m (by decide) | exact ad_l (by decide) | exact ad_g (by decide) | exact ad_lt (by decide) | exact ad_o (by decide) | omega) only [↓ui_s, ↓uj_s, ↓ui_o, ↓ui_k, ↓uj_o, ↓uj_k, ↓ui_j, ↓uj_i, ↓o2, ↓j2, ↓o3, ↓j3, ui_s, uj_s, ui_o, ui_k, uj_o, uj_k, ui_j, uj_i, o2, j2, o3, j3]; exact R.bb s h0, fun z => by simp (disch := first | decide | exact ad_ne (by decide) | exact ad_m (by decide) | exact ad_l (by decide) | exact ad_g (by decide) | exact ad_lt (by decide) | exact ad_o (by decide) | omega) only [↓ui_s, ↓uj_s, ↓ui_o, ↓ui_k, ↓uj_o, ↓uj_k, ↓ui_j, ↓uj_i, ↓o2, ↓j2, ↓o3, ↓j3, ui_s, uj_s, ui_o, ui_k, uj_o, uj_k, ui_j, uj_i, o2, j2, o3, j3] at z ⊢; exact R.wp z⟩
noncomputable def wa100 (W1 : zM) (t dl u1 u2 u3 : Nat) (v1 : Q4) (μ : zM) : zM := z_ui (rcW (z_ui (z_ui W1 (18 + 8 * t) 4 ((μ.1 (18 + 8 * t) 4) - ((hnd (v1.1 * (bif decide ((nI u1) = (nI dl)) then (6 : Int32) else 4))) + (300 * (μ.1 0 11))))) (18 + 8 * u1) 4 ((μ.1 (18 + 8 * u1) 4) + (((hnd (v1.1 * (bif decide ((nI u1) = (nI dl)) then (6 : Int32) else 4))) + (300 * (μ.1 0 11))) + ((μ.1 0 12) * 1000)))) 0 (nI u1) (nI t) (((hnd (v1.1 * (bif decide ((nI u1) = (nI dl)) then (6 : Int32) else 4))) + (300 * (μ.1 0 11))) + ((μ.1 0 12) * 1000))) 0 12 0
theorem wA100_p (W : zM) (t dl e u1 u2 u3 : Nat) (v1 : Q4) (x : zM) : wA100 W t dl e u1 u2 u3 v1 x = eHB (wa100 W t dl u1 u2 u3 v1 x) (decide ((nI u1) = (nI dl))) (!(decide ((nI u1) = (nI dl)))) (xBk (wa100 W t dl u1 u2 u3 v1 x)) dl e (rcM (wa100 W t dl u1 u2 u3 v1 x)) := rfl
noncomputable def aq100 (μ N1 : zM) (t dl c u1 u2 u3 : Nat) : zM := z_ui (z_ui (z_ui (z_ui (z_ui (z_ui (z_ui (z_uj (z_ui (z_ui (z_ui (z_ui (z_ui (z_ui (z_ui (z_ui μ 50 53 0) 72 0 (nI u1)) 72 1 (nI t)) 72 2 (N1.1 50 13)) 72 3 (N1.1 50 14)) 72 4 (N1.1 50 15)) 72 5 0) 72 6 (nI c)) 73 0 (N1.2.1 50 17)) 61 t ((μ.1 61 t) - ((hnd ((N1.1 50 13) * (bif decide ((nI u1) = (nI dl)) then (6 : Int32) else 4))) + (300 * (μ.1 50 42))))) 61 u1 ((μ.1 61 u1) + ((hnd ((N1.1 50 13) * (bif decide ((nI u1) = (nI dl)) then (6 : Int32) else 4))) + (300 * (μ.1 50 42))))) 72 5 (0 + ((hnd ((N1.1 50 13) * (bif decide ((nI u1) = (nI dl)) then (6 : Int32) else 4))) + (300 * (μ.1 50 42))))) 50 53 1) 61 u1 (((μ.1 61 u1) + ((hnd ((N1.1 50 13) * (bif decide ((nI u1) = (nI dl)) then (6 : Int32) else 4))) + (300 * (μ.1 50 42)))) + (1000 * (μ.1 50 43)))) 72 5 ((0 + ((hnd ((N1.1 50 13) * (bif decide ((nI u1) = (nI dl)) then (6 : Int32) else 4))) + (300 * (μ.1 50 42)))) + (1000 * (μ.1 50 43)))) 50 43 0
theorem aM100_p (m N1 : zM) (t dl e c u1 u2 u3 : Nat) : aM100 m N1 t dl e c u1 u2 u3 = eMB (aq100 m N1 t dl c u1 u2 u3) (decide ((nI u1) = (nI dl))) (decide ((nI u1) = (nI dl))) dl e := rfl
theorem rc_aw100 {x m W1 N1 : zM} {v1 : Q4} (R : RCl x m) {t dl c u1 u2 u3 : Nat} (ht : t < 4) (hu1 : (t + 1) % 4 = u1) (hu2 : (t + 2) % 4 = u2) (hu3 : (t + 3) % 4 = u3) (hc : x.1 0 15 = nI c) (hO1 : WOj (x) W1) (hv1 : bqJ W1 = v1) (hb1 : v1.1 = N1.1 50 13) (hh1 : v1.2.1 = N1.1 50 14) (hf1 : v1.2.2.2 = N1.2.1 50 17) (hq1 : v1.2.2.1 = N1.1 50 15) : RCl (wa100 W1 t dl u1 u2 u3 v1 x) (aq100 m N1 t dl c u1 u2 u3) := by
  have o1 := fun r k h => (hO1 r k h).1
  have j1 := fun r k h => (hO1 r k h).2
  have a1 : W1.1 4 0 = N1.1 50 13 := (congrArg (fun q => q.1) hv1).trans hb1
  have b1 : W1.1 4 1 = N1.1 50 14 := (congrArg (fun q => q.2.1) hv1).trans hh1
  have d1 : W1.2.1 4 3 = N1.2.1 50 17 := (congrArg (fun q => q.2.2.2) hv1).trans hf1
  have p1 : W1.1 4 2 = N1.1 50 15 := (congrArg (fun q => q.2.2.1) hv1).trans hq1
  clear hO1
  have h1 : u1 < 4 := by omega
  have h2 : u2 < 4 := by omega
  have h3 : u3 < 4 := by omega
  have et := R.pt t ht
  have eu1 := R.pt u1 h1
  have eu2 := R.pt u2 h2
  have eu3 := R.pt u3 h3
  have est := R.st
  have ebt := R.bt
  unfold wa100 aq100
  unfold rcW at *
  exact ⟨(by simp (disch := first | decide | exact ad_ne (by decide) | exact ad_m (by decide) | exact ad_l (by decide) | exact ad_g (by decide) | exact ad_lt (by decide) | exact ad_o (by decide) | omega) only [↓ui_s, ↓uj_s, ↓ui_o, ↓ui_k, ↓uj_o, ↓uj_k, ↓ui_j, ↓uj_i, ↓o1, ↓j1, ui_s, uj_s, ui_o, ui_k, uj_o, uj_k, ui_j, uj_i, o1, j1]; exact R.dl), (by simp (disch := first | decide | exact ad_ne (by decide) | exact ad_m (by decide) | exact ad_l (by decide) | exact ad_g (by decide) | exact ad_lt (by decide) | exact ad_o (by decide) | omega) only [↓ui_s, ↓uj_s, ↓ui_o, ↓ui_k, ↓uj_o, ↓uj_k, ↓ui_j, ↓uj_i, ↓o1, ↓j1, ui_s, uj_s, ui_o, ui_k, uj_o, uj_k, ui_j, uj_i, o1, j1]; exact R.rn), (by simp (disch := first | decide | exact ad_ne (by decide) | exact ad_m (by decide) | exact ad_l (by decide) | exact ad_g (by decide) | exact ad_lt (by decide) | exact ad_o (by decide) | omega) only [↓ui_s, ↓uj_s, ↓ui_o, ↓ui_k, ↓uj_o, ↓uj_k, ↓ui_j, ↓uj_i, ↓o1, ↓j1, ui_s, uj_s, ui_o, ui_k, uj_o, uj_k, ui_j, uj_i, o1, j1]; exact R.st), (by simp (disch := first | decide | exact ad_ne (by decide) | exact ad_m (by decide) | exact ad_l (by decide) | exact ad_g (by decide) | exact ad_lt (by decide) | exact ad_o (by decide) | omega) only [↓ui_s, ↓uj_s, ↓ui_o, ↓ui_k, ↓uj_o, ↓uj_k, ↓ui_j, ↓uj_i, ↓o1, ↓j1, ui_s, uj_s, ui_o, ui_k, uj_o, uj_k, ui_j, uj_i, o1, j1]), (by simp (disch := first | decide | exact ad_ne (by decide) | exact ad_m (by decide) | exact ad_l (by decide) | exact ad_g (by decide) | exact ad_lt (by decide) | exact ad_o (by decide) | omega) only [↓ui_s, ↓uj_s, ↓ui_o, ↓ui_k, ↓uj_o, ↓uj_k, ↓ui_j, ↓uj_i, ↓o1, ↓j1, ui_s, uj_s, ui_o, ui_k, uj_o, uj_k, ui_j, uj_i, o1, j1]; exact R.en), (by simp (disch := first | decide | exact ad_ne (by decide) | exact ad_m (by decide) | exact ad_l (by decide) | exact ad_g (by decide) | exact ad_lt (by decide) | exact ad_o (by decide) | omega) only [↓ui_s, ↓uj_s, ↓ui_o, ↓ui_k, ↓uj_o, ↓uj_k, ↓ui_j, ↓uj_i, ↓o1, ↓j1, ui_s, uj_s, ui_o, ui_k, uj_o, uj_k, ui_j, uj_i, o1, j1]; exact R.he), (by simp (disch := first | decide | exact ad_ne (by decide) | exact ad_m (by decide) | exact ad_l (by decide) | exact ad_g (by decide) | exact ad_lt (by decide) | exact ad_o (by decide) | omega) only [↓ui_s, ↓uj_s, ↓ui_o, ↓ui_k, ↓uj_o, ↓uj_k, ↓ui_j, ↓uj_i, ↓o1, ↓j1, ui_s, uj_s, ui_o, ui_k, uj_o, uj_k, ui_j, uj_i, o1, j1]; rfl), (by simp (disch := first | decide | exact ad_ne (by decide) | exact ad_m (by decide) | exact ad_l (by decide) | exact ad_g (by decide) | exact ad_lt (by decide) | exact ad_o (by decide) | omega) only [↓ui_s, ↓uj_s, ↓ui_o, ↓ui_k, ↓uj_o, ↓uj_k, ↓ui_j, ↓uj_i, ↓o1, ↓j1, ui_s, uj_s, ui_o, ui_k, uj_o, uj_k, ui_j, uj_i, o1, j1]; exact R.sd), (by simp (disch := first | decide | exact ad_ne (by decide) | exact ad_m (by decide) | exact ad_l (by decide) | exact ad_g (by decide) | exact ad_lt (by decide) | exact ad_o (by decide) | omega) only [↓ui_s, ↓uj_s, ↓ui_o, ↓ui_k, ↓uj_o, ↓uj_k, ↓ui_j, ↓uj_i, ↓o1, ↓j1, ui_s, uj_s, ui_o, ui_k, uj_o, uj_k, ui_j, uj_i, o1, j1]; exact R.nx), fun i h0 => by simp (disch := first | decide | exact ad_ne (by decide) | exact ad_m (by decide) | exact ad_l (by decide) | exact ad_g (by decide) | exact ad_lt (by decide) | exact ad_o (by decide) | omega) only [↓ui_s, ↓uj_s, ↓ui_o, ↓ui_k, ↓uj_o, ↓uj_k, ↓ui_j, ↓uj_i, ↓o1, ↓j1, ui_s, uj_s, ui_o, ui_k, uj_o, uj_k, ui_j, uj_i, o1, j1]; exact R.wl i h0, (fun s g0 => by
      obtain e | e | e | e : s = t ∨ s = u1 ∨ s = u2 ∨ s = u3 := by omega
      all_goals (rw [e]; simp (disch := first | decide | exact ad_ne (by decide) | exact ad_m (by decide) | exact ad_l (by decide) | exact ad_g (by decide) | exact ad_lt (by decide) | exact ad_o (by decide) | omega) only [↓ui_s, ↓uj_s, ↓ui_o, ↓ui_k, ↓uj_o, ↓uj_k, ↓ui_j, ↓uj_i, ↓o1, ↓j1, ui_s, uj_s, ui_o, ui_k, uj_o, uj_k, ui_j, uj_i, o1, j1]; first | done | with_reducible rfl | (simp only [et, eu1, eu2, eu3, hb1, hh1, hf1, hq1, a1, b1, d1, p1, hc, est, ebt, Int32.zero_add, Int32.add_zero, Int32.zero_mul, Int32.mul_zero]; first | done | with_reducible rfl | (rw [Int32.mul_comm (m.1 50 43)]; first | done | ac_rfl)) | rfl)), fun s h0 => by simp (disch := first | decide | exact ad_ne (by decide) | exact ad_m (by decide) | exact ad_l (by decide) | exact ad_g (by decide) | exact ad_lt (by decide) | exact ad_o (by decide) | omega) only [↓ui_s, ↓uj_s, ↓ui_o, ↓ui_k, ↓uj_o, ↓uj_k, ↓ui_j, ↓uj_i, ↓o1, ↓j1, ui_s, uj_s, ui_o, ui_k, uj_o, uj_k, ui_j, uj_i, o1, j1]; exact R.be s h0, fun s h0 => by simp (disch := first | decide | exact ad_ne (by decide) | exact ad_m (by decide) | exact ad_l (by decide) | exact ad_g (by decide) | exact ad_lt (by decide) | exact ad_o (by decide) | omega) only [↓ui_s, ↓uj_s, ↓ui_o, ↓ui_k, ↓uj_o, ↓uj_k, ↓ui_j, ↓uj_i, ↓o1, ↓j1, ui_s, uj_s, ui_o, ui_k, uj_o, uj_k, ui_j, uj_i, o1, j1]; exact R.ao s h0, fun s h0 => by simp (disch := first | decide | exact ad_ne (by decide) | exact ad_m (by decide) | exact ad_l (by decide) | exact ad_g (by decide) | exact ad_lt (by decide) | exact ad_o (by decide) | omega) only [↓ui_s, ↓uj_s, ↓ui_o, ↓ui_k, ↓uj_o, ↓uj_k, ↓ui_j, ↓uj_i, ↓o1, ↓j1, ui_s, uj_s, ui_o, ui_k, uj_o, uj_k, ui_j, uj_i, o1, j1]; exact R.lg s h0, fun s h0 => by simp (disch := first | decide | exact ad_ne (by decide) | exact ad_m (by decide) | exact ad_l (by decide) | exact ad_g (by decide) | exact ad_lt (by decide) | exact ad_o (by decide) | omega) only [↓ui_s, ↓uj_s, ↓ui_o, ↓ui_k, ↓uj_o, ↓uj_k, ↓ui_j, ↓uj_i, ↓o1, ↓j1, ui_s, uj_s, ui_o, ui_k, uj_o, uj_k, ui_j, uj_i, o1, j1]; exact R.sy s h0, fun s h0 => by simp (disch := first | decide | exact ad_ne (by decide) | exact ad_m (by decide) | exact ad_l (by decide) | exact ad_g (by decide) | exact ad_lt (by decide) | exact ad_o (by decide) | omega) only [↓ui_s, ↓uj_s, ↓ui_o, ↓ui_k, ↓uj_o, ↓uj_k, ↓ui_j, ↓uj_i, ↓o1, ↓j1, ui_s, uj_s, ui_o, ui_k, uj_o, uj_k, ui_j, uj_i, o1, j1]; exact R.ds s h0, fun s h0 => by simp (disch := first | decide | exact ad_ne (by decide) | exact ad_m (by decide) | exact ad_l (by decide) | exact ad_g (by decide) | exact ad_lt (by decide) | exact ad_o (by decide) | omega) only [↓ui_s, ↓uj_s, ↓ui_o, ↓ui_k, ↓uj_o, ↓uj_k, ↓ui_j, ↓uj_i, ↓o1, ↓j1, ui_s, uj_s, ui_o, ui_k, uj_o, uj_k, ui_j, uj_i, o1, j1]; exact R.lm s h0, fun s k h0 h1 => by simp (disch := first | decide | exact ad_ne (by decide) | exact ad_m (by decide) | exact ad_l (by decide) | exact ad_g (by decide) | exact ad_lt (by decide) | exact ad_o (by decide) | omega) only [↓ui_s, ↓uj_s, ↓ui_o, ↓ui_k, ↓uj_o, ↓uj_k, ↓ui_j, ↓uj_i, ↓o1, ↓j1, ui_s, uj_s, ui_o, ui_k, uj_o, uj_k, ui_j, uj_i, o1, j1]; exact R.hd s k h0 h1, fun s i h0 h1 => by simp (disch := first | decide | exact ad_ne (by decide) | exact ad_m (by decide) | exact ad_l (by decide) | exact ad_g (by decide) | exact ad_lt (by decide) | exact ad_o (by decide) | omega) only [↓ui_s, ↓uj_s, ↓ui_o, ↓ui_k, ↓uj_o, ↓uj_k, ↓ui_j, ↓uj_i, ↓o1, ↓j1, ui_s, uj_s, ui_o, ui_k, uj_o, uj_k, ui_j, uj_i, o1, j1]; exact R.so s i h0 h1, fun s i h0 h1 => by simp (disch := first | decide | exact ad_ne (by decide) | exact ad_m (by decide) | exact ad_l (by decide) | exact ad_g (by decide) | exact ad_lt (by decide) | exact ad_o (by decide) | omega) only [↓ui_s, ↓uj_s, ↓ui_o, ↓ui_k, ↓uj_o, ↓uj_k, ↓ui_j, ↓uj_i, ↓o1, ↓j1, ui_s, uj_s, ui_o, ui_k, uj_o, uj_k, ui_j, uj_i, o1, j1]; exact R.lo s i h0 h1, fun s i h0 h1 => by simp (disch := first | decide | exact ad_ne (by decide) | exact ad_m (by decide) | exact ad_l (by decide) | exact ad_g (by decide) | exact ad_lt (by decide) | exact ad_o (by decide) | omega) only [↓ui_s, ↓uj_s, ↓ui_o, ↓ui_k, ↓uj_o, ↓uj_k, ↓ui_j, ↓uj_i, ↓o1, ↓j1, ui_s, uj_s, ui_o, ui_k, uj_o, uj_k, ui_j, uj_i, o1, j1]; exact R.rv s i h0 h1, (fun i f g0 g1 g2 => by
      obtain rfl | rfl | rfl | e : i = 0 ∨ i = 1 ∨ i = 2 ∨ i = 3 := by omega
      · obtain rfl | rfl | rfl | rfl | rfl | rfl | rfl : f = 0 ∨ f = 1 ∨ f = 2 ∨ f = 3 ∨ f = 4 ∨ f = 5 ∨ f = 6 := by omega
        all_goals (simp (disch := first | decide | exact ad_ne (by decide) | exact ad_m (by decide) | exact ad_l (by decide) | exact ad_g (by decide) | exact ad_lt (by decide) | exact ad_o (by decide) | omega) only [↓ui_s, ↓uj_s, ↓ui_o, ↓ui_k, ↓uj_o, ↓uj_k, ↓ui_j, ↓uj_i, ↓o1, ↓j1, ui_s, uj_s, ui_o, ui_k, uj_o, uj_k, ui_j, uj_i, o1, j1]; first | done | with_reducible rfl | (simp only [et, eu1, eu2, eu3, hb1, hh1, hf1, hq1, a1, b1, d1, p1, hc, est, ebt, Int32.zero_add, Int32.add_zero, Int32.zero_mul, Int32.mul_zero]; first | done | with_reducible rfl | (rw [Int32.mul_comm (m.1 50 43)]; first | done | ac_rfl)) | rfl)
      · simp (disch := first | decide | exact ad_ne (by decide) | exact ad_m (by decide) | exact ad_l (by decide) | exact ad_g (by decide) | exact ad_lt (by decide) | exact ad_o (by decide) | omega) only [↓ui_s, ↓uj_s, ↓ui_o, ↓ui_k, ↓uj_o, ↓uj_k, ↓ui_j, ↓uj_i, ↓o1, ↓j1, ui_s, uj_s, ui_o, ui_k, uj_o, uj_k, ui_j, uj_i, o1, j1]; exact R.wi _ f g0 g1 g2
      · simp (disch := first | decide | exact ad_ne (by decide) | exact ad_m (by decide) | exact ad_l (by decide) | exact ad_g (by decide) | exact ad_lt (by decide) | exact ad_o (by decide) | omega) only [↓ui_s, ↓uj_s, ↓ui_o, ↓ui_k, ↓uj_o, ↓uj_k, ↓ui_j, ↓uj_i, ↓o1, ↓j1, ui_s, uj_s, ui_o, ui_k, uj_o, uj_k, ui_j, uj_i, o1, j1]; exact R.wi _ f g0 g1 g2
      · subst e; simp (disch := first | decide | exact ad_ne (by decide) | exact ad_m (by decide) | exact ad_l (by decide) | exact ad_g (by decide) | exact ad_lt (by decide) | exact ad_o (by decide) | omega) only [↓ui_s, ↓uj_s, ↓ui_o, ↓ui_k, ↓uj_o, ↓uj_k, ↓ui_j, ↓uj_i, ↓o1, ↓j1, ui_s, uj_s, ui_o, ui_k, uj_o, uj_k, ui_j, uj_i, o1, j1]; exact R.wi _ f g0 g1 g2), (fun i g0 => by
      obtain rfl | rfl | rfl | e : i = 0 ∨ i = 1 ∨ i = 2 ∨ i = 3 := by omega
      · simp (disch := first | decide | exact ad_ne (by decide) | exact ad_m (by decide) | exact ad_l (by decide) | exact ad_g (by decide) | exact ad_lt (by decide) | exact ad_o (by decide) | omega) only [↓ui_s, ↓uj_s, ↓ui_o, ↓ui_k, ↓uj_o, ↓uj_k, ↓ui_j, ↓uj_i, ↓o1, ↓j1, ui_s, uj_s, ui_o, ui_k, uj_o, uj_k, ui_j, uj_i, o1, j1]; exact d1
      · simp (disch := first | decide | exact ad_ne (by decide) | exact ad_m (by decide) | exact ad_l (by decide) | exact ad_g (by decide) | exact ad_lt (by decide) | exact ad_o (by decide) | omega) only [↓ui_s, ↓uj_s, ↓ui_o, ↓ui_k, ↓uj_o, ↓uj_k, ↓ui_j, ↓uj_i, ↓o1, ↓j1, ui_s, uj_s, ui_o, ui_k, uj_o, uj_k, ui_j, uj_i, o1, j1]; exact R.wf _ g0
      · simp (disch := first | decide | exact ad_ne (by decide) | exact ad_m (by decide) | exact ad_l (by decide) | exact ad_g (by decide) | exact ad_lt (by decide) | exact ad_o (by decide) | omega) only [↓ui_s, ↓uj_s, ↓ui_o, ↓ui_k, ↓uj_o, ↓uj_k, ↓ui_j, ↓uj_i, ↓o1, ↓j1, ui_s, uj_s, ui_o, ui_k, uj_o, uj_k, ui_j, uj_i, o1, j1]; exact R.wf _ g0
      · subst e; simp (disch := first | decide | exact ad_ne (by decide) | exact ad_m (by decide) | exact ad_l (by decide) | exact ad_g (by decide) | exact ad_lt (by decide) | exact ad_o (by decide) | omega) only [↓ui_s, ↓uj_s, ↓ui_o, ↓ui_k, ↓uj_o, ↓uj_k, ↓ui_j, ↓uj_i, ↓o1, ↓j1, ui_s, uj_s, ui_o, ui_k, uj_o, uj_k, ui_j, uj_i, o1, j1]; exact R.wf _ g0), fun s k2 h0 h1 => by simp (disch := first | decide | exact ad_ne (by decide) | exact ad_m (by decide) | exact ad_l (by decide) | exact ad_g (by decide) | exact ad_lt (by decide) | exact ad_o (by decide) | omega) only [↓ui_s, ↓uj_s, ↓ui_o, ↓ui_k, ↓uj_o, ↓uj_k, ↓ui_j, ↓uj_i, ↓o1, ↓j1, ui_s, uj_s, ui_o, ui_k, uj_o, uj_k, ui_j, uj_i, o1, j1]; exact R.al s k2 h0 h1, fun s h0 => by simp (disch := first | decide | exact ad_ne (by decide) | exact ad_m (by decide) | exact ad_l (by decide) | exact ad_g (by decide) | exact ad_lt (by decide) | exact ad_o (by decide) | omega) only [↓ui_s, ↓uj_s, ↓ui_o, ↓ui_k, ↓uj_o, ↓uj_k, ↓ui_j, ↓uj_i, ↓o1, ↓j1, ui_s, uj_s, ui_o, ui_k, uj_o, uj_k, ui_j, uj_i, o1, j1]; exact R.lz s h0, fun s i h0 h1 => by simp (disch := first | decide | exact ad_ne (by decide) | exact ad_m (by decide) | exact ad_l (by decide) | exact ad_g (by decide) | exact ad_lt (by decide) | exact ad_o (by decide) | omega) only [↓ui_s, ↓uj_s, ↓ui_o, ↓ui_k, ↓uj_o, ↓uj_k, ↓ui_j, ↓uj_i, ↓o1, ↓j1, ui_s, uj_s, ui_o, ui_k, uj_o, uj_k, ui_j, uj_i, o1, j1] at h1 ⊢; exact R.sv s i h0 h1, fun s h0 => by simp (disch := first | decide | exact ad_ne (by decide) | exact ad_m (by decide) | exact ad_l (by decide) | exact ad_g (by decide) | exact ad_lt (by decide) | exact ad_o (by decide) | omega) only [↓ui_s, ↓uj_s, ↓ui_o, ↓ui_k, ↓uj_o, ↓uj_k, ↓ui_j, ↓uj_i, ↓o1, ↓j1, ui_s, uj_s, ui_o, ui_k, uj_o, uj_k, ui_j, uj_i, o1, j1]; rw [R.tk s h0]; exact congrArg (fun f => kb f 34) (tkM_cg (R.rb s h0) (fun i hi => by simp (disch := first | decide | exact ad_ne (by decide) | exact ad_m (by decide) | exact ad_l (by decide) | exact ad_g (by decide) | exact ad_lt (by decide) | exact ad_o (by decide) | omega) only [↓ui_s, ↓uj_s, ↓ui_o, ↓ui_k, ↓uj_o, ↓uj_k, ↓ui_j, ↓uj_i, ↓o1, ↓j1, ui_s, uj_s, ui_o, ui_k, uj_o, uj_k, ui_j, uj_i, o1, j1]) (by simp (disch := first | decide | exact ad_ne (by decide) | exact ad_m (by decide) | exact ad_l (by decide) | exact ad_g (by decide) | exact ad_lt (by decide) | exact ad_o (by decide) | omega) only [↓ui_s, ↓uj_s, ↓ui_o, ↓ui_k, ↓uj_o, ↓uj_k, ↓ui_j, ↓uj_i, ↓o1, ↓j1, ui_s, uj_s, ui_o, ui_k, uj_o, uj_k, ui_j, uj_i, o1, j1])), fun s h0 => by simp (disch := first | decide | exact ad_ne (by decide) | exact ad_m (by decide) | exact ad_l (by decide) | exact ad_g (by decide) | exact ad_lt (by decide) | exact ad_o (by decide) | omega) only [↓ui_s, ↓uj_s, ↓ui_o, ↓ui_k, ↓uj_o, ↓uj_k, ↓ui_j, ↓uj_i, ↓o1, ↓j1, ui_s, uj_s, ui_o, ui_k, uj_o, uj_k, ui_j, uj_i, o1, j1]; exact R.rb s h0, fun s i h0 h1 => by simp (disch := first | decide | exact ad_ne (by decide) | exact ad_m (by decide) | exact ad_l (by decide) | exact ad_g (by decide) | exact ad_lt (by decide) | exact ad_o (by decide) | omega) only [↓ui_s, ↓uj_s, ↓ui_o, ↓ui_k, ↓uj_o, ↓uj_k, ↓ui_j, ↓uj_i, ↓o1, ↓j1, ui_s, uj_s, ui_o, ui_k, uj_o, uj_k, ui_j, uj_i, o1, j1] at h1 ⊢; exact R.rk s i h0 h1, (by simp (disch := first | decide | exact ad_ne (by decide) | exact ad_m (by decide) | exact ad_l (by decide) | exact ad_g (by decide) | exact ad_lt (by decide) | exact ad_o (by decide) | omega) only [↓ui_s, ↓uj_s, ↓ui_o, ↓ui_k, ↓uj_o, ↓uj_k, ↓ui_j, ↓uj_i, ↓o1, ↓j1, ui_s, uj_s, ui_o, ui_k, uj_o, uj_k, ui_j, uj_i, o1, j1]; exact R.rd), fun s h0 => by simp (disch := first | decide | exact ad_ne (by decide) | exact ad_m (by decide) | exact ad_l (by decide) | exact ad_g (by decide) | exact ad_lt (by decide) | exact ad_o (by decide) | omega) only [↓ui_s, ↓uj_s, ↓ui_o, ↓ui_k, ↓uj_o, ↓uj_k, ↓ui_j, ↓uj_i, ↓o1, ↓j1, ui_s, uj_s, ui_o, ui_k, uj_o, uj_k, ui_j, uj_i, o1, j1]; exact R.bb s h0, fun z => by simp (disch := first | decide | exact ad_ne (by decide) | exact ad_m (by decide) | exact ad_l (by decide) | exact ad_g (by decide) | exact ad_lt (by decide) | exact ad_o (by decide) | omega) only [↓ui_s, ↓uj_s, ↓ui_o, ↓ui_k, ↓uj_o, ↓uj_k, ↓ui_j, ↓uj_i, ↓o1, ↓j1, ui_s, uj_s, ui_o, ui_k, uj_o, uj_k, ui_j, uj_i, o1, j1] at z ⊢; exact R.wp z⟩
noncomputable def wa101 (W3 : zM) (t dl u1 u2 u3 : Nat) (v1 v3 : Q4) (μ : zM) : zM := z_ui (rcW (z_ui (z_ui W3 (18 + 8 * t) 4 (((μ.1 (18 + 8 * t) 4) - ((hnd (v1.1 * (bif decide ((nI u1) = (nI dl)) then (6 : Int32) else 4))) + (300 * (μ.1 0 11)))) - ((hnd (v3.1 * (bif decide ((nI u3) = (nI dl)) then (6 : Int32) else 4))) + 0))) (18 + 8 * u3) 4 ((μ.1 (18 + 8 * u3) 4) + (((hnd (v3.1 * (bif decide ((nI u3) = (nI dl)) then (6 : Int32) else 4))) + 0) + 0))) 1 (nI u3) (nI t) (((hnd (v3.1 * (bif decide ((nI u3) = (nI dl)) then (6 : Int32) else 4))) + 0) + 0)) 0 12 0
theorem wA101_p (W : zM) (t dl e u1 u2 u3 : Nat) (v1 v3 : Q4) (x : zM) : wA101 W t dl e u1 u2 u3 v1 v3 x = eHB (wa101 W t dl u1 u2 u3 v1 v3 x) ((decide ((nI u1) = (nI dl))) || (decide ((nI u3) = (nI dl)))) (!((decide ((nI u1) = (nI dl))) || (decide ((nI u3) = (nI dl))))) (xBk (wa101 W t dl u1 u2 u3 v1 v3 x)) dl e (rcM (wa101 W t dl u1 u2 u3 v1 v3 x)) := rfl
noncomputable def aq101 (μ N1 N3 : zM) (t dl c u1 u2 u3 : Nat) : zM := z_ui (z_ui (z_ui (z_ui (z_ui (z_ui (z_ui (z_uj (z_ui (z_ui (z_ui (z_ui (z_ui (z_ui (z_ui (z_ui (z_ui (z_ui (z_ui (z_uj (z_ui (z_ui (z_ui (z_ui (z_ui (z_ui (z_ui (z_ui μ 50 53 0) 72 0 (nI u1)) 72 1 (nI t)) 72 2 (N1.1 50 13)) 72 3 (N1.1 50 14)) 72 4 (N1.1 50 15)) 72 5 0) 72 6 (nI c)) 73 0 (N1.2.1 50 17)) 61 t ((μ.1 61 t) - ((hnd ((N1.1 50 13) * (bif decide ((nI u1) = (nI dl)) then (6 : Int32) else 4))) + (300 * (μ.1 50 42))))) 61 u1 ((μ.1 61 u1) + ((hnd ((N1.1 50 13) * (bif decide ((nI u1) = (nI dl)) then (6 : Int32) else 4))) + (300 * (μ.1 50 42))))) 72 5 (0 + ((hnd ((N1.1 50 13) * (bif decide ((nI u1) = (nI dl)) then (6 : Int32) else 4))) + (300 * (μ.1 50 42))))) 50 53 1) 72 7 (nI u3)) 72 8 (nI t)) 72 9 (N3.1 50 13)) 72 10 (N3.1 50 14)) 72 11 (N3.1 50 15)) 72 12 0) 72 13 (nI c)) 73 1 (N3.2.1 50 17)) 61 t (((μ.1 61 t) - ((hnd ((N1.1 50 13) * (bif decide ((nI u1) = (nI dl)) then (6 : Int32) else 4))) + (300 * (μ.1 50 42)))) - ((hnd ((N3.1 50 13) * (bif decide ((nI u3) = (nI dl)) then (6 : Int32) else 4))) + 0))) 61 u3 ((μ.1 61 u3) + ((hnd ((N3.1 50 13) * (bif decide ((nI u3) = (nI dl)) then (6 : Int32) else 4))) + 0))) 72 12 (0 + ((hnd ((N3.1 50 13) * (bif decide ((nI u3) = (nI dl)) then (6 : Int32) else 4))) + 0))) 50 53 2) 61 u1 (((μ.1 61 u1) + ((hnd ((N1.1 50 13) * (bif decide ((nI u1) = (nI dl)) then (6 : Int32) else 4))) + (300 * (μ.1 50 42)))) + (1000 * (μ.1 50 43)))) 72 5 ((0 + ((hnd ((N1.1 50 13) * (bif decide ((nI u1) = (nI dl)) then (6 : Int32) else 4))) + (300 * (μ.1 50 42)))) + (1000 * (μ.1 50 43)))) 50 43 0
theorem aM101_p (m N1 N3 : zM) (t dl e c u1 u2 u3 : Nat) : aM101 m N1 N3 t dl e c u1 u2 u3 = eMB (aq101 m N1 N3 t dl c u1 u2 u3) ((decide ((nI u1) = (nI dl))) || (decide ((nI u3) = (nI dl)))) ((decide ((nI u1) = (nI dl))) || (decide ((nI u3) = (nI dl)))) dl e := rfl
theorem rc_aw101 {x m W1 W3 N1 N3 : zM} {v1 v3 : Q4} (R : RCl x m) {t dl c u1 u2 u3 : Nat} (ht : t < 4) (hu1 : (t + 1) % 4 = u1) (hu2 : (t + 2) % 4 = u2) (hu3 : (t + 3) % 4 = u3) (hc : x.1 0 15 = nI c) (hO1 : WOj (x) W1) (hv1 : bqJ W1 = v1) (hb1 : v1.1 = N1.1 50 13) (hh1 : v1.2.1 = N1.1 50 14) (hf1 : v1.2.2.2 = N1.2.1 50 17) (hq1 : v1.2.2.1 = N1.1 50 15) (hO3 : WOj (z_ui (rcW (z_ui (z_ui W1 (18 + 8 * t) 4 ((x.1 (18 + 8 * t) 4) - ((hnd (v1.1 * (bif decide ((nI u1) = (nI dl)) then (6 : Int32) else 4))) + (300 * (x.1 0 11))))) (18 + 8 * u1) 4 ((x.1 (18 + 8 * u1) 4) + (((hnd (v1.1 * (bif decide ((nI u1) = (nI dl)) then (6 : Int32) else 4))) + (300 * (x.1 0 11))) + ((x.1 0 12) * 1000)))) 0 (nI u1) (nI t) (((hnd (v1.1 * (bif decide ((nI u1) = (nI dl)) then (6 : Int32) else 4))) + (300 * (x.1 0 11))) + ((x.1 0 12) * 1000))) 0 12 0) W3) (hv3 : bqJ W3 = v3) (hb3 : v3.1 = N3.1 50 13) (hh3 : v3.2.1 = N3.1 50 14) (hf3 : v3.2.2.2 = N3.2.1 50 17) (hq3 : v3.2.2.1 = N3.1 50 15) : RCl (wa101 W3 t dl u1 u2 u3 v1 v3 x) (aq101 m N1 N3 t dl c u1 u2 u3) := by
  have o1 := fun r k h => (hO1 r k h).1
  have j1 := fun r k h => (hO1 r k h).2
  have a1 : W1.1 4 0 = N1.1 50 13 := (congrArg (fun q => q.1) hv1).trans hb1
  have b1 : W1.1 4 1 = N1.1 50 14 := (congrArg (fun q => q.2.1) hv1).trans hh1
  have d1 : W1.2.1 4 3 = N1.2.1 50 17 := (congrArg (fun q => q.2.2.2) hv1).trans hf1
  have p1 : W1.1 4 2 = N1.1 50 15 := (congrArg (fun q => q.2.2.1) hv1).trans hq1
  clear hO1
  have o3 := fun r k h => (hO3 r k h).1
  have j3 := fun r k h => (hO3 r k h).2
  have a3 : W3.1 4 0 = N3.1 50 13 := (congrArg (fun q => q.1) hv3).trans hb3
  have b3 : W3.1 4 1 = N3.1 50 14 := (congrArg (fun q => q.2.1) hv3).trans hh3
  have d3 : W3.2.1 4 3 = N3.2.1 50 17 := (congrArg (fun q => q.2.2.2) hv3).trans hf3
  have p3 : W3.1 4 2 = N3.1 50 15 := (congrArg (fun q => q.2.2.1) hv3).trans hq3
  clear hO3
  have h1 : u1 < 4 := by omega
  have h2 : u2 < 4 := by omega
  have h3 : u3 < 4 := by omega
  have et := R.pt t ht
  have eu1 := R.pt u1 h1
  have eu2 := R.pt u2 h2
  have eu3 := R.pt u3 h3
  have est := R.st
  have ebt := R.bt
  unfold wa101 aq101
  unfold rcW at *
  exact ⟨(by simp (disch := first | decide | exact ad_ne (by decide) | exact ad_m (by decide) | exact ad_l (by decide) | exact ad_g (by decide) | exact ad_lt (by decide) | exact ad_o (by decide) | omega) only [↓ui_s, ↓uj_s, ↓ui_o, ↓ui_k, ↓uj_o, ↓uj_k, ↓ui_j, ↓uj_i, ↓o1, ↓j1, ↓o3, ↓j3, ui_s, uj_s, ui_o, ui_k, uj_o, uj_k, ui_j, uj_i, o1, j1, o3, j3]; exact R.dl), (by simp (disch := first | decide | exact ad_ne (by decide) | exact ad_m (by decide) | exact ad_l (by decide) | exact ad_g (by decide) | exact ad_lt (by decide) | exact ad_o (by decide) | omega) only [↓ui_s, ↓uj_s, ↓ui_o, ↓ui_k, ↓uj_o, ↓uj_k, ↓ui_j, ↓uj_i, ↓o1, ↓j1, ↓o3, ↓j3, ui_s, uj_s, ui_o, ui_k, uj_o, uj_k, ui_j, uj_i, o1, j1, o3, j3]; exact R.rn), (by simp (disch := first | decide | exact ad_ne (by decide) | exact ad_m (by decide) | exact ad_l (by decide) | exact ad_g (by decide) | exact ad_lt (by decide) | exact ad_o (by decide) | omega) only [↓ui_s, ↓uj_s, ↓ui_o, ↓ui_k, ↓uj_o, ↓uj_k, ↓ui_j, ↓uj_i, ↓o1, ↓j1, ↓o3, ↓j3, ui_s, uj_s, ui_o, ui_k, uj_o, uj_k, ui_j, uj_i, o1, j1, o3, j3]; exact R.st), (by simp (disch := first | decide | exact ad_ne (by decide) | exact ad_m (by decide) | exact ad_l (by decide) | exact ad_g (by decide) | exact ad_lt (by decide) | exact ad_o (by decide) | omega) only [↓ui_s, ↓uj_s, ↓ui_o, ↓ui_k, ↓uj_o, ↓uj_k, ↓ui_j, ↓uj_i, ↓o1, ↓j1, ↓o3, ↓j3, ui_s, uj_s, ui_o, ui_k, uj_o, uj_k, ui_j, uj_i, o1, j1, o3, j3]), (by simp (disch := first | decide | exact ad_ne (by decide) | exact ad_m (by decide) | exact ad_l (by decide) | exact ad_g (by decide) | exact ad_lt (by decide) | exact ad_o (by decide) | omega) only [↓ui_s, ↓uj_s, ↓ui_o, ↓ui_k, ↓uj_o, ↓uj_k, ↓ui_j, ↓uj_i, ↓o1, ↓j1, ↓o3, ↓j3, ui_s, uj_s, ui_o, ui_k, uj_o, uj_k, ui_j, uj_i, o1, j1, o3, j3]; exact R.en), (by simp (disch := first | decide | exact ad_ne (by decide) | exact ad_m (by decide) | exact ad_l (by decide) | exact ad_g (by decide) | exact ad_lt (by decide) | exact ad_o (by decide) | omega) only [↓ui_s, ↓uj_s, ↓ui_o, ↓ui_k, ↓uj_o, ↓uj_k, ↓ui_j, ↓uj_i, ↓o1, ↓j1, ↓o3, ↓j3, ui_s, uj_s, ui_o, ui_k, uj_o, uj_k, ui_j, uj_i, o1, j1, o3, j3]; exact R.he), (by simp (disch := first | decide | exact ad_ne (by decide) | exact ad_m (by decide) | exact ad_l (by decide) | exact ad_g (by decide) | exact ad_lt (by decide) | exact ad_o (by decide) | omega) only [↓ui_s, ↓uj_s, ↓ui_o, ↓ui_k, ↓uj_o, ↓uj_k, ↓ui_j, ↓uj_i, ↓o1, ↓j1, ↓o3, ↓j3, ui_s, uj_s, ui_o, ui_k, uj_o, uj_k, ui_j, uj_i, o1, j1, o3, j3]; rfl), (by simp (disch := first | decide | exact ad_ne (by decide) | exact ad_m (by decide) | exact ad_l (by decide) | exact ad_g (by decide) | exact ad_lt (by decide) | exact ad_o (by decide) | omega) only [↓ui_s, ↓uj_s, ↓ui_o, ↓ui_k, ↓uj_o, ↓uj_k, ↓ui_j, ↓uj_i, ↓o1, ↓j1, ↓o3, ↓j3, ui_s, uj_s, ui_o, ui_k, uj_o, uj_k, ui_j, uj_i, o1, j1, o3, j3]; exact R.sd), (by simp (disch := first | decide | exact ad_ne (by decide) | exact ad_m (by decide) | exact ad_l (by decide) | exact ad_g (by decide) | exact ad_lt (by decide) | exact ad_o (by decide) | omega) only [↓ui_s, ↓uj_s, ↓ui_o, ↓ui_k, ↓uj_o, ↓uj_k, ↓ui_j, ↓uj_i, ↓o1, ↓j1, ↓o3, ↓j3, ui_s, uj_s, ui_o, ui_k, uj_o, uj_k, ui_j, uj_i, o1, j1, o3, j3]; exact R.nx), fun i h0 => by simp (disch := first | decide | exact ad_ne (by decide) | exact ad_m (by decide) | exact ad_l (by decide) | exact ad_g (by decide) | exact ad_lt (by decide) | exact ad_o (by decide) | omega) only [↓ui_s, ↓uj_s, ↓ui_o, ↓ui_k, ↓uj_o, ↓uj_k, ↓ui_j, ↓uj_i, ↓o1, ↓j1, ↓o3, ↓j3, ui_s, uj_s, ui_o, ui_k, uj_o, uj_k, ui_j, uj_i, o1, j1, o3, j3]; exact R.wl i h0, (fun s g0 => by
      obtain e | e | e | e : s = t ∨ s = u1 ∨ s = u2 ∨ s = u3 := by omega
      all_goals (rw [e]; simp (disch := first | decide | exact ad_ne (by decide) | exact ad_m (by decide) | exact ad_l (by decide) | exact ad_g (by decide) | exact ad_lt (by decide) | exact ad_o (by decide) | omega) only [↓ui_s, ↓uj_s, ↓ui_o, ↓ui_k, ↓uj_o, ↓uj_k, ↓ui_j, ↓uj_i, ↓o1, ↓j1, ↓o3, ↓j3, ui_s, uj_s, ui_o, ui_k, uj_o, uj_k, ui_j, uj_i, o1, j1, o3, j3]; first | done | with_reducible rfl | (simp only [et, eu1, eu2, eu3, hb1, hh1, hf1, hq1, a1, b1, d1, p1, hb3, hh3, hf3, hq3, a3, b3, d3, p3, hc, est, ebt, Int32.zero_add, Int32.add_zero, Int32.zero_mul, Int32.mul_zero]; first | done | with_reducible rfl | (rw [Int32.mul_comm (m.1 50 43)]; first | done | ac_rfl)) | rfl)), fun s h0 => by simp (disch := first | decide | exact ad_ne (by decide) | exact ad_m (by decide) | exact ad_l (by decide) | exact ad_g (by decide) | exact ad_lt (by decide) | exact ad_o (by decide) | omega) only [↓ui_s, ↓uj_s, ↓ui_o, ↓ui_k, ↓uj_o, ↓uj_k, ↓ui_j, ↓uj_i, ↓o1, ↓j1, ↓o3, ↓j3, ui_s, uj_s, ui_o, ui_k, uj_o, uj_k, ui_j, uj_i, o1, j1, o3, j3]; exact R.be s h0, fun s h0 => by simp (disch := first | decide | exact ad_ne (by decide) | exact ad_m (by decide) | exact ad_l (by decide) | exact ad_g (by decide) | exact ad_lt (by decide) | exact ad_o (by decide) | omega) only [↓ui_s, ↓uj_s, ↓ui_o, ↓ui_k, ↓uj_o, ↓uj_k, ↓ui_j, ↓uj_i, ↓o1, ↓j1, ↓o3, ↓j3, ui_s, uj_s, ui_o, ui_k, uj_o, uj_k, ui_j, uj_i, o1, j1, o3, j3]; exact R.ao s h0, fun s h0 => by simp (disch := first | decide | exact ad_ne (by decide) | exact ad_m (by decide) | exact ad_l (by decide) | exact ad_g (by decide) | exact ad_lt (by decide) | exact ad_o (by decide) | omega) only [↓ui_s, ↓uj_s, ↓ui_o, ↓ui_k, ↓uj_o, ↓uj_k, ↓ui_j, ↓uj_i, ↓o1, ↓j1, ↓o3, ↓j3, ui_s, uj_s, ui_o, ui_k, uj_o, uj_k, ui_j, uj_i, o1, j1, o3, j3]; exact R.lg s h0, fun s h0 => by simp (disch := first | decide | exact ad_ne (by decide) | exact ad_m (by decide) | exact ad_l (by decide) | exact ad_g (by decide) | exact ad_lt (by decide) | exact ad_o (by decide) | omega) only [↓ui_s, ↓uj_s, ↓ui_o, ↓ui_k, ↓uj_o, ↓uj_k, ↓ui_j, ↓uj_i, ↓o1, ↓j1, ↓o3, ↓j3, ui_s, uj_s, ui_o, ui_k, uj_o, uj_k, ui_j, uj_i, o1, j1, o3, j3]; exact R.sy s h0, fun s h0 => by simp (disch := first | decide | exact ad_ne (by decide) | exact ad_m (by decide) | exact ad_l (by decide) | exact ad_g (by decide) | exact ad_lt (by decide) | exact ad_o (by decide) | omega) only [↓ui_s, ↓uj_s, ↓ui_o, ↓ui_k, ↓uj_o, ↓uj_k, ↓ui_j, ↓uj_i, ↓o1, ↓j1, ↓o3, ↓j3, ui_s, uj_s, ui_o, ui_k, uj_o, uj_k, ui_j, uj_i, o1, j1, o3, j3]; exact R.ds s h0, fun s h0 => by simp (disch := first | decide | exact ad_ne (by decide) | exact ad_m (by decide) | exact ad_l (by decide) | exact ad_g (by decide) | exact ad_lt (by decide) | exact ad_o (by decide) | omega) only [↓ui_s, ↓uj_s, ↓ui_o, ↓ui_k, ↓uj_o, ↓uj_k, ↓ui_j, ↓uj_i, ↓o1, ↓j1, ↓o3, ↓j3, ui_s, uj_s, ui_o, ui_k, uj_o, uj_k, ui_j, uj_i, o1, j1, o3, j3]; exact R.lm s h0, fun s k h0 h1 => by simp (disch := first | decide | exact ad_ne (by decide) | exact ad_m (by decide) | exact ad_l (by decide) | exact ad_g (by decide) | exact ad_lt (by decide) | exact ad_o (by decide) | omega) only [↓ui_s, ↓uj_s, ↓ui_o, ↓ui_k, ↓uj_o, ↓uj_k, ↓ui_j, ↓uj_i, ↓o1, ↓j1, ↓o3, ↓j3, ui_s, uj_s, ui_o, ui_k, uj_o, uj_k, ui_j, uj_i, o1, j1, o3, j3]; exact R.hd s k h0 h1, fun s i h0 h1 => by simp (disch := first | decide | exact ad_ne (by decide) | exact ad_m (by decide) | exact ad_l (by decide) | exact ad_g (by decide) | exact ad_lt (by decide) | exact ad_o (by decide) | omega) only [↓ui_s, ↓uj_s, ↓ui_o, ↓ui_k, ↓uj_o, ↓uj_k, ↓ui_j, ↓uj_i, ↓o1, ↓j1, ↓o3, ↓j3, ui_s, uj_s, ui_o, ui_k, uj_o, uj_k, ui_j, uj_i, o1, j1, o3, j3]; exact R.so s i h0 h1, fun s i h0 h1 => by simp (disch := first | decide | exact ad_ne (by decide) | exact ad_m (by decide) | exact ad_l (by decide) | exact ad_g (by decide) | exact ad_lt (by decide) | exact ad_o (by decide) | omega) only [↓ui_s, ↓uj_s, ↓ui_o, ↓ui_k, ↓uj_o, ↓uj_k, ↓ui_j, ↓uj_i, ↓o1, ↓j1, ↓o3, ↓j3, ui_s, uj_s, ui_o, ui_k, uj_o, uj_k, ui_j, uj_i, o1, j1, o3, j3]; exact R.lo s i h0 h1, fun s i h0 h1 => by simp (disch := first | decide | exact ad_ne (by decide) | exact ad_m (by decide) | exact ad_l (by decide) | exact ad_g (by decide) | exact ad_lt (by decide) | exact ad_o (by decide) | omega) only [↓ui_s, ↓uj_s, ↓ui_o, ↓ui_k, ↓uj_o, ↓uj_k, ↓ui_j, ↓uj_i, ↓o1, ↓j1, ↓o3, ↓j3, ui_s, uj_s, ui_o, ui_k, uj_o, uj_k, ui_j, uj_i, o1, j1, o3, j3]; exact R.rv s i h0 h1, (fun i f g0 g1 g2 => by
      obtain rfl | rfl | rfl | e : i = 0 ∨ i = 1 ∨ i = 2 ∨ i = 3 := by omega
      · obtain rfl | rfl | rfl | rfl | rfl | rfl | rfl : f = 0 ∨ f = 1 ∨ f = 2 ∨ f = 3 ∨ f = 4 ∨ f = 5 ∨ f = 6 := by omega
        all_goals (simp (disch := first | decide | exact ad_ne (by decide) | exact ad_m (by decide) | exact ad_l (by decide) | exact ad_g (by decide) | exact ad_lt (by decide) | exact ad_o (by decide) | omega) only [↓ui_s, ↓uj_s, ↓ui_o, ↓ui_k, ↓uj_o, ↓uj_k, ↓ui_j, ↓uj_i, ↓o1, ↓j1, ↓o3, ↓j3, ui_s, uj_s, ui_o, ui_k, uj_o, uj_k, ui_j, uj_i, o1, j1, o3, j3]; first | done | with_reducible rfl | (simp only [et, eu1, eu2, eu3, hb1, hh1, hf1, hq1, a1, b1, d1, p1, hb3, hh3, hf3, hq3, a3, b3, d3, p3, hc, est, ebt, Int32.zero_add, Int32.add_zero, Int32.zero_mul, Int32.mul_zero]; first | done | with_reducible rfl | (rw [Int32.mul_comm (m.1 50 43)]; first | done | ac_rfl)) | rfl)
      · obtain rfl | rfl | rfl | rfl | rfl | rfl | rfl : f = 0 ∨ f = 1 ∨ f = 2 ∨ f = 3 ∨ f = 4 ∨ f = 5 ∨ f = 6 := by omega
        all_goals (simp (disch := first | decide | exact ad_ne (by decide) | exact ad_m (by decide) | exact ad_l (by decide) | exact ad_g (by decide) | exact ad_lt (by decide) | exact ad_o (by decide) | omega) only [↓ui_s, ↓uj_s, ↓ui_o, ↓ui_k, ↓uj_o, ↓uj_k, ↓ui_j, ↓uj_i, ↓o1, ↓j1, ↓o3, ↓j3, ui_s, uj_s, ui_o, ui_k, uj_o, uj_k, ui_j, uj_i, o1, j1, o3, j3]; first | done | with_reducible rfl | (simp only [et, eu1, eu2, eu3, hb1, hh1, hf1, hq1, a1, b1, d1, p1, hb3, hh3, hf3, hq3, a3, b3, d3, p3, hc, est, ebt, Int32.zero_add, Int32.add_zero, Int32.zero_mul, Int32.mul_zero]; first | done | with_reducible rfl | (rw [Int32.mul_comm (m.1 50 43)]; first | done | ac_rfl)) | rfl)
      · simp (disch := first | decide | exact ad_ne (by decide) | exact ad_m (by decide) | exact ad_l (by decide) | exact ad_g (by decide) | exact ad_lt (by decide) | exact ad_o (by decide) | omega) only [↓ui_s, ↓uj_s, ↓ui_o, ↓ui_k, ↓uj_o, ↓uj_k, ↓ui_j, ↓uj_i, ↓o1, ↓j1, ↓o3, ↓j3, ui_s, uj_s, ui_o, ui_k, uj_o, uj_k, ui_j, uj_i, o1, j1, o3, j3]; exact R.wi _ f g0 g1 g2
      · subst e; simp (disch := first | decide | exact ad_ne (by decide) | exact ad_m (by decide) | exact ad_l (by decide) | exact ad_g (by decide) | exact ad_lt (by decide) | exact ad_o (by decide) | omega) only [↓ui_s, ↓uj_s, ↓ui_o, ↓ui_k, ↓uj_o, ↓uj_k, ↓ui_j, ↓uj_i, ↓o1, ↓j1, ↓o3, ↓j3, ui_s, uj_s, ui_o, ui_k, uj_o, uj_k, ui_j, uj_i, o1, j1, o3, j3]; exact R.wi _ f g0 g1 g2), (fun i g0 => by
      obtain rfl | rfl | rfl | e : i = 0 ∨ i = 1 ∨ i = 2 ∨ i = 3 := by omega
      · simp (disch := first | decide | exact ad_ne (by decide) | exact ad_m (by decide) | exact ad_l (by decide) | exact ad_g (by decide) | exact ad_lt (by decide) | exact ad_o (by decide) | omega) only [↓ui_s, ↓uj_s, ↓ui_o, ↓ui_k, ↓uj_o, ↓uj_k, ↓ui_j, ↓uj_i, ↓o1, ↓j1, ↓o3, ↓j3, ui_s, uj_s, ui_o, ui_k, uj_o, uj_k, ui_j, uj_i, o1, j1, o3, j3]; exact d1
      · simp (disch := first | decide | exact ad_ne (by decide) | exact ad_m (by decide) | exact ad_l (by decide) | exact ad_g (by decide) | exact ad_lt (by decide) | exact ad_o (by decide) | omega) only [↓ui_s, ↓uj_s, ↓ui_o, ↓ui_k, ↓uj_o, ↓uj_k, ↓ui_j, ↓uj_i, ↓o1, ↓j1, ↓o3, ↓j3, ui_s, uj_s, ui_o, ui_k, uj_o, uj_k, ui_j, uj_i, o1, j1, o3, j3]; exact d3
      · simp (disch := first | decide | exact ad_ne (by decide) | exact ad_m (by decide) | exact ad_l (by decide) | exact ad_g (by decide) | exact ad_lt (by decide) | exact ad_o (by decide) | omega) only [↓ui_s, ↓uj_s, ↓ui_o, ↓ui_k, ↓uj_o, ↓uj_k, ↓ui_j, ↓uj_i, ↓o1, ↓j1, ↓o3, ↓j3, ui_s, uj_s, ui_o, ui_k, uj_o, uj_k, ui_j, uj_i, o1, j1, o3, j3]; exact R.wf _ g0
      · subst e; simp (disch := first | decide | exact ad_ne (by decide) | exact ad_m (by decide) | exact ad_l (by decide) | exact ad_g (by decide) | exact ad_lt (by decide) | exact ad_o (by decide) | omega) only [↓ui_s, ↓uj_s, ↓ui_o, ↓ui_k, ↓uj_o, ↓uj_k, ↓ui_j, ↓uj_i, ↓o1, ↓j1, ↓o3, ↓j3, ui_s, uj_s, ui_o, ui_k, uj_o, uj_k, ui_j, uj_i, o1, j1, o3, j3]; exact R.wf _ g0), fun s k2 h0 h1 => by simp (disch := first | decide | exact ad_ne (by decide) | exact ad_m (by decide) | exact ad_l (by decide) | exact ad_g (by decide) | exact ad_lt (by decide) | exact ad_o (by decide) | omega) only [↓ui_s, ↓uj_s, ↓ui_o, ↓ui_k, ↓uj_o, ↓uj_k, ↓ui_j, ↓uj_i, ↓o1, ↓j1, ↓o3, ↓j3, ui_s, uj_s, ui_o, ui_k, uj_o, uj_k, ui_j, uj_i, o1, j1, o3, j3]; exact R.al s k2 h0 h1, fun s h0 => by simp (disch := first | decide | exact ad_ne (by decide) | exact ad_m (by decide) | exact ad_l (by decide) | exact ad_g (by decide) | exact ad_lt (by decide) | exact ad_o (by decide) | omega) only [↓ui_s, ↓uj_s, ↓ui_o, ↓ui_k, ↓uj_o, ↓uj_k, ↓ui_j, ↓uj_i, ↓o1, ↓j1, ↓o3, ↓j3, ui_s, uj_s, ui_o, ui_k, uj_o, uj_k, ui_j, uj_i, o1, j1, o3, j3]; exact R.lz s h0, fun s i h0 h1 => by simp (disch := first | decide | exact ad_ne (by decide) | exact ad_m (by decide) | exact ad_l (by decide) | exact ad_g (by decide) | exact ad_lt (by decide) | exact ad_o (by decide) | omega) only [↓ui_s, ↓uj_s, ↓ui_o, ↓ui_k, ↓uj_o, ↓uj_k, ↓ui_j, ↓uj_i, ↓o1, ↓j1, ↓o3, ↓j3, ui_s, uj_s, ui_o, ui_k, uj_o, uj_k, ui_j, uj_i, o1, j1, o3, j3] at h1 ⊢; exact R.sv s i h0 h1, fun s h0 => by simp (disch := first | decide | exact ad_ne (by decide) | exact ad_m (by decide) | exact ad_l (by decide) | exact ad_g (by decide) | exact ad_lt (by decide) | exact ad_o (by decide) | omega) only [↓ui_s, ↓uj_s, ↓ui_o, ↓ui_k, ↓uj_o, ↓uj_k, ↓ui_j, ↓uj_i, ↓o1, ↓j1, ↓o3, ↓j3, ui_s, uj_s, ui_o, ui_k, uj_o, uj_k, ui_j, uj_i, o1, j1, o3, j3]; rw [R.tk s h0]; exact congrArg (fun f => kb f 34) (tkM_cg (R.rb s h0) (fun i hi => by simp (disch := first | decide | exact ad_ne (by decide) | exact ad_m (by decide) | exact ad_l (by decide) | exact ad_g (by decide) | exact ad_lt (by decide) | exact ad_o (by decide) | omega) only [↓ui_s, ↓uj_s, ↓ui_o, ↓ui_k, ↓uj_o, ↓uj_k, ↓ui_j, ↓uj_i, ↓o1, ↓j1, ↓o3, ↓j3, ui_s, uj_s, ui_o, ui_k, uj_o, uj_k, ui_j, uj_i, o1, j1, o3, j3]) (by simp (disch := first | decide | exact ad_ne (by decide) | exact ad_m (by decide) | exact ad_l (by decide) | exact ad_g (by decide) | exact ad_lt (by decide) | exact ad_o (by decide) | omega) only [↓ui_s, ↓uj_s, ↓ui_o, ↓ui_k, ↓uj_o, ↓uj_k, ↓ui_j, ↓uj_i, ↓o1, ↓j1, ↓o3, ↓j3, ui_s, uj_s, ui_o, ui_k, uj_o, uj_k, ui_j, uj_i, o1, j1, o3, j3])), fun s h0 => by simp (disch := first | decide | exact ad_ne (by decide) | exact ad_m (by decide) | exact ad_l (by decide) | exact ad_g (by decide) | exact ad_lt (by decide) | exact ad_o (by decide) | omega) only [↓ui_s, ↓uj_s, ↓ui_o, ↓ui_k, ↓uj_o, ↓uj_k, ↓ui_j, ↓uj_i, ↓o1, ↓j1, ↓o3, ↓j3, ui_s, uj_s, ui_o, ui_k, uj_o, uj_k, ui_j, uj_i, o1, j1, o3, j3]; exact R.rb s h0, fun s i h0 h1 => by simp (disch := first | decide | exact ad_ne (by decide) | exact ad_m (by decide) | exact ad_l (by decide) | exact ad_g (by decide) | exact ad_lt (by decide) | exact ad_o (by decide) | omega) only [↓ui_s, ↓uj_s, ↓ui_o, ↓ui_k, ↓uj_o, ↓uj_k, ↓ui_j, ↓uj_i, ↓o1, ↓j1, ↓o3, ↓j3, ui_s, uj_s, ui_o, ui_k, uj_o, uj_k, ui_j, uj_i, o1, j1, o3, j3] at h1 ⊢; exact R.rk s i h0 h1, (by simp (disch := first | decide | exact ad_ne (by decide) | exact ad_m (by decide) | exact ad_l (by decide) | exact ad_g (by decide) | exact ad_lt (by decide) | exact ad_o (by decide) | omega) only [↓ui_s, ↓uj_s, ↓ui_o, ↓ui_k, ↓uj_o, ↓uj_k, ↓ui_j, ↓uj_i, ↓o1, ↓j1, ↓o3, ↓j3, ui_s, uj_s, ui_o, ui_k, uj_o, uj_k, ui_j, uj_i, o1, j1, o3, j3]; exact R.rd), fun s h0 => by simp (disch := first | decide | exact ad_ne (by decide) | exact ad_m (by decide) | exact ad_l (by decide) | exact ad_g (by decide) | exact ad_lt (by decide) | exact ad_o (by decide) | omega) only [↓ui_s, ↓uj_s, ↓ui_o, ↓ui_k, ↓uj_o, ↓uj_k, ↓ui_j, ↓uj_i, ↓o1, ↓j1, ↓o3, ↓j3, ui_s, uj_s, ui_o, ui_k, uj_o, uj_k, ui_j, uj_i, o1, j1, o3, j3]; exact R.bb s h0, fun z => by simp (disch := first | decide | exact ad_ne (by decide) | exact ad_m (by decide) | exact ad_l (by decide) | exact ad_g (by decide) | exact ad_lt (by decide) | exact ad_o (by decide) | omega) only [↓ui_s, ↓uj_s, ↓ui_o, ↓ui_k, ↓uj_o, ↓uj_k, ↓ui_j, ↓uj_i, ↓o1, ↓j1, ↓o3, ↓j3, ui_s, uj_s, ui_o, ui_k, uj_o, uj_k, ui_j, uj_i, o1, j1, o3, j3] at z ⊢; exact R.wp z⟩
noncomputable def wa110 (W2 : zM) (t dl u1 u2 u3 : Nat) (v1 v2 : Q4) (μ : zM) : zM := z_ui (rcW (z_ui (z_ui W2 (18 + 8 * t) 4 (((μ.1 (18 + 8 * t) 4) - ((hnd (v1.1 * (bif decide ((nI u1) = (nI dl)) then (6 : Int32) else 4))) + (300 * (μ.1 0 11)))) - ((hnd (v2.1 * (bif decide ((nI u2) = (nI dl)) then (6 : Int32) else 4))) + 0))) (18 + 8 * u2) 4 ((μ.1 (18 + 8 * u2) 4) + (((hnd (v2.1 * (bif decide ((nI u2) = (nI dl)) then (6 : Int32) else 4))) + 0) + 0))) 1 (nI u2) (nI t) (((hnd (v2.1 * (bif decide ((nI u2) = (nI dl)) then (6 : Int32) else 4))) + 0) + 0)) 0 12 0
theorem wA110_p (W : zM) (t dl e u1 u2 u3 : Nat) (v1 v2 : Q4) (x : zM) : wA110 W t dl e u1 u2 u3 v1 v2 x = eHB (wa110 W t dl u1 u2 u3 v1 v2 x) ((decide ((nI u1) = (nI dl))) || (decide ((nI u2) = (nI dl)))) (!((decide ((nI u1) = (nI dl))) || (decide ((nI u2) = (nI dl))))) (xBk (wa110 W t dl u1 u2 u3 v1 v2 x)) dl e (rcM (wa110 W t dl u1 u2 u3 v1 v2 x)) := rfl
noncomputable def aq110 (μ N1 N2 : zM) (t dl c u1 u2 u3 : Nat) : zM := z_ui (z_ui (z_ui (z_ui (z_ui (z_ui (z_ui (z_uj (z_ui (z_ui (z_ui (z_ui (z_ui (z_ui (z_ui (z_ui (z_ui (z_ui (z_ui (z_uj (z_ui (z_ui (z_ui (z_ui (z_ui (z_ui (z_ui (z_ui μ 50 53 0) 72 0 (nI u1)) 72 1 (nI t)) 72 2 (N1.1 50 13)) 72 3 (N1.1 50 14)) 72 4 (N1.1 50 15)) 72 5 0) 72 6 (nI c)) 73 0 (N1.2.1 50 17)) 61 t ((μ.1 61 t) - ((hnd ((N1.1 50 13) * (bif decide ((nI u1) = (nI dl)) then (6 : Int32) else 4))) + (300 * (μ.1 50 42))))) 61 u1 ((μ.1 61 u1) + ((hnd ((N1.1 50 13) * (bif decide ((nI u1) = (nI dl)) then (6 : Int32) else 4))) + (300 * (μ.1 50 42))))) 72 5 (0 + ((hnd ((N1.1 50 13) * (bif decide ((nI u1) = (nI dl)) then (6 : Int32) else 4))) + (300 * (μ.1 50 42))))) 50 53 1) 72 7 (nI u2)) 72 8 (nI t)) 72 9 (N2.1 50 13)) 72 10 (N2.1 50 14)) 72 11 (N2.1 50 15)) 72 12 0) 72 13 (nI c)) 73 1 (N2.2.1 50 17)) 61 t (((μ.1 61 t) - ((hnd ((N1.1 50 13) * (bif decide ((nI u1) = (nI dl)) then (6 : Int32) else 4))) + (300 * (μ.1 50 42)))) - ((hnd ((N2.1 50 13) * (bif decide ((nI u2) = (nI dl)) then (6 : Int32) else 4))) + 0))) 61 u2 ((μ.1 61 u2) + ((hnd ((N2.1 50 13) * (bif decide ((nI u2) = (nI dl)) then (6 : Int32) else 4))) + 0))) 72 12 (0 + ((hnd ((N2.1 50 13) * (bif decide ((nI u2) = (nI dl)) then (6 : Int32) else 4))) + 0))) 50 53 2) 61 u1 (((μ.1 61 u1) + ((hnd ((N1.1 50 13) * (bif decide ((nI u1) = (nI dl)) then (6 : Int32) else 4))) + (300 * (μ.1 50 42)))) + (1000 * (μ.1 50 43)))) 72 5 ((0 + ((hnd ((N1.1 50 13) * (bif decide ((nI u1) = (nI dl)) then (6 : Int32) else 4))) + (300 * (μ.1 50 42)))) + (1000 * (μ.1 50 43)))) 50 43 0
theorem aM110_p (m N1 N2 : zM) (t dl e c u1 u2 u3 : Nat) : aM110 m N1 N2 t dl e c u1 u2 u3 = eMB (aq110 m N1 N2 t dl c u1 u2 u3) ((decide ((nI u1) = (nI dl))) || (decide ((nI u2) = (nI dl)))) ((decide ((nI u1) = (nI dl))) || (decide ((nI u2) = (nI dl)))) dl e := rfl
theorem rc_aw110 {x m W1 W2 N1 N2 : zM} {v1 v2 : Q4} (R : RCl x m) {t dl c u1 u2 u3 : Nat} (ht : t < 4) (hu1 : (t + 1) % 4 = u1) (hu2 : (t + 2) % 4 = u2) (hu3 : (t + 3) % 4 = u3) (hc : x.1 0 15 = nI c) (hO1 : WOj (x) W1) (hv1 : bqJ W1 = v1) (hb1 : v1.1 = N1.1 50 13) (hh1 : v1.2.1 = N1.1 50 14) (hf1 : v1.2.2.2 = N1.2.1 50 17) (hq1 : v1.2.2.1 = N1.1 50 15) (hO2 : WOj (z_ui (rcW (z_ui (z_ui W1 (18 + 8 * t) 4 ((x.1 (18 + 8 * t) 4) - ((hnd (v1.1 * (bif decide ((nI u1) = (nI dl)) then (6 : Int32) else 4))) + (300 * (x.1 0 11))))) (18 + 8 * u1) 4 ((x.1 (18 + 8 * u1) 4) + (((hnd (v1.1 * (bif decide ((nI u1) = (nI dl)) then (6 : Int32) else 4))) + (300 * (x.1 0 11))) + ((x.1 0 12) * 1000)))) 0 (nI u1) (nI t) (((hnd (v1.1 * (bif decide ((nI u1) = (nI dl)) then (6 : Int32) else 4))) + (300 * (x.1 0 11))) + ((x.1 0 12) * 1000))) 0 12 0) W2) (hv2 : bqJ W2 = v2) (hb2 : v2.1 = N2.1 50 13) (hh2 : v2.2.1 = N2.1 50 14) (hf2 : v2.2.2.2 = N2.2.1 50 17) (hq2 : v2.2.2.1 = N2.1 50 15) : RCl (wa110 W2 t dl u1 u2 u3 v1 v2 x) (aq110 m N1 N2 t dl c u1 u2 u3) := by
  have o1 := fun r k h => (hO1 r k h).1
  have j1 := fun r k h => (hO1 r k h).2
  have a1 : W1.1 4 0 = N1.1 50 13 := (congrArg (fun q => q.1) hv1).trans hb1
  have b1 : W1.1 4 1 = N1.1 50 14 := (congrArg (fun q => q.2.1) hv1).trans hh1
  have d1 : W1.2.1 4 3 = N1.2.1 50 17 := (congrArg (fun q => q.2.2.2) hv1).trans hf1
  have p1 : W1.1 4 2 = N1.1 50 15 := (congrArg (fun q => q.2.2.1) hv1).trans hq1
  clear hO1
  have o2 := fun r k h => (hO2 r k h).1
  have j2 := fun r k h => (hO2 r k h).2
  have a2 : W2.1 4 0 = N2.1 50 13 := (congrArg (fun q => q.1) hv2).trans hb2
  have b2 : W2.1 4 1 = N2.1 50 14 := (congrArg (fun q => q.2.1) hv2).trans hh2
  have d2 : W2.2.1 4 3 = N2.2.1 50 17 := (congrArg (fun q => q.2.2.2) hv2).trans hf2
  have p2 : W2.1 4 2 = N2.1 50 15 := (congrArg (fun q => q.2.2.1) hv2).trans hq2
  clear hO2
  have h1 : u1 < 4 := by omega
  have h2 : u2 < 4 := by omega
  have h3 : u3 < 4 := by omega
  have et := R.pt t ht
  have eu1 := R.pt u1 h1
  have eu2 := R.pt u2 h2
  have eu3 := R.pt u3 h3
  have est := R.st
  have ebt := R.bt
  unfold wa110 aq110
  unfold rcW at *
  exact ⟨(by simp (disch := first | decide | exact ad_ne (by decide) | exact ad_m (by decide) | exact ad_l (by decide) | exact ad_g (by decide) | exact ad_lt (by decide) | exact ad_o (by decide) | omega) only [↓ui_s, ↓uj_s, ↓ui_o, ↓ui_k, ↓uj_o, ↓uj_k, ↓ui_j, ↓uj_i, ↓o1, ↓j1, ↓o2, ↓j2, ui_s, uj_s, ui_o, ui_k, uj_o, uj_k, ui_j, uj_i, o1, j1, o2, j2]; exact R.dl), (by simp (disch := first | decide | exact ad_ne (by decide) | exact ad_m (by decide) | exact ad_l (by decide) | exact ad_g (by decide) | exact ad_lt (by decide) | exact ad_o (by decide) | omega) only [↓ui_s, ↓uj_s, ↓ui_o, ↓ui_k, ↓uj_o, ↓uj_k, ↓ui_j, ↓uj_i, ↓o1, ↓j1, ↓o2, ↓j2, ui_s, uj_s, ui_o, ui_k, uj_o, uj_k, ui_j, uj_i, o1, j1, o2, j2]; exact R.rn), (by simp (disch := first | decide | exact ad_ne (by decide) | exact ad_m (by decide) | exact ad_l (by decide) | exact ad_g (by decide) | exact ad_lt (by decide) | exact ad_o (by decide) | omega) only [↓ui_s, ↓uj_s, ↓ui_o, ↓ui_k, ↓uj_o, ↓uj_k, ↓ui_j, ↓uj_i, ↓o1, ↓j1, ↓o2, ↓j2, ui_s, uj_s, ui_o, ui_k, uj_o, uj_k, ui_j, uj_i, o1, j1, o2, j2]; exact R.st), (by simp (disch := first | decide | exact ad_ne (by decide) | exact ad_m (by decide) | exact ad_l (by decide) | exact ad_g (by decide) | exact ad_lt (by decide) | exact ad_o (by decide) | omega) only [↓ui_s, ↓uj_s, ↓ui_o, ↓ui_k, ↓uj_o, ↓uj_k, ↓ui_j, ↓uj_i, ↓o1, ↓j1, ↓o2, ↓j2, ui_s, uj_s, ui_o, ui_k, uj_o, uj_k, ui_j, uj_i, o1, j1, o2, j2]), (by simp (disch := first | decide | exact ad_ne (by decide) | exact ad_m (by decide) | exact ad_l (by decide) | exact ad_g (by decide) | exact ad_lt (by decide) | exact ad_o (by decide) | omega) only [↓ui_s, ↓uj_s, ↓ui_o, ↓ui_k, ↓uj_o, ↓uj_k, ↓ui_j, ↓uj_i, ↓o1, ↓j1, ↓o2, ↓j2, ui_s, uj_s, ui_o, ui_k, uj_o, uj_k, ui_j, uj_i, o1, j1, o2, j2]; exact R.en), (by simp (disch := first | decide | exact ad_ne (by decide) | exact ad_m (by decide) | exact ad_l (by decide) | exact ad_g (by decide) | exact ad_lt (by decide) | exact ad_o (by decide) | omega) only [↓ui_s, ↓uj_s, ↓ui_o, ↓ui_k, ↓uj_o, ↓uj_k, ↓ui_j, ↓uj_i, ↓o1, ↓j1, ↓o2, ↓j2, ui_s, uj_s, ui_o, ui_k, uj_o, uj_k, ui_j, uj_i, o1, j1, o2, j2]; exact R.he), (by simp (disch := first | decide | exact ad_ne (by decide) | exact ad_m (by decide) | exact ad_l (by decide) | exact ad_g (by decide) | exact ad_lt (by decide) | exact ad_o (by decide) | omega) only [↓ui_s, ↓uj_s, ↓ui_o, ↓ui_k, ↓uj_o, ↓uj_k, ↓ui_j, ↓uj_i, ↓o1, ↓j1, ↓o2, ↓j2, ui_s, uj_s, ui_o, ui_k, uj_o, uj_k, ui_j, uj_i, o1, j1, o2, j2]; rfl), (by simp (disch := first | decide | exact ad_ne (by decide) | exact ad_m (by decide) | exact ad_l (by decide) | exact ad_g (by decide) | exact ad_lt (by decide) | exact ad_o (by decide) | omega) only [↓ui_s, ↓uj_s, ↓ui_o, ↓ui_k, ↓uj_o, ↓uj_k, ↓ui_j, ↓uj_i, ↓o1, ↓j1, ↓o2, ↓j2, ui_s, uj_s, ui_o, ui_k, uj_o, uj_k, ui_j, uj_i, o1, j1, o2, j2]; exact R.sd), (by simp (disch := first | decide | exact ad_ne (by decide) | exact ad_m (by decide) | exact ad_l (by decide) | exact ad_g (by decide) | exact ad_lt (by decide) | exact ad_o (by decide) | omega) only [↓ui_s, ↓uj_s, ↓ui_o, ↓ui_k, ↓uj_o, ↓uj_k, ↓ui_j, ↓uj_i, ↓o1, ↓j1, ↓o2, ↓j2, ui_s, uj_s, ui_o, ui_k, uj_o, uj_k, ui_j, uj_i, o1, j1, o2, j2]; exact R.nx), fun i h0 => by simp (disch := first | decide | exact ad_ne (by decide) | exact ad_m (by decide) | exact ad_l (by decide) | exact ad_g (by decide) | exact ad_lt (by decide) | exact ad_o (by decide) | omega) only [↓ui_s, ↓uj_s, ↓ui_o, ↓ui_k, ↓uj_o, ↓uj_k, ↓ui_j, ↓uj_i, ↓o1, ↓j1, ↓o2, ↓j2, ui_s, uj_s, ui_o, ui_k, uj_o, uj_k, ui_j, uj_i, o1, j1, o2, j2]; exact R.wl i h0, (fun s g0 => by
      obtain e | e | e | e : s = t ∨ s = u1 ∨ s = u2 ∨ s = u3 := by omega
      all_goals (rw [e]; simp (disch := first | decide | exact ad_ne (by decide) | exact ad_m (by decide) | exact ad_l (by decide) | exact ad_g (by decide) | exact ad_lt (by decide) | exact ad_o (by decide) | omega) only [↓ui_s, ↓uj_s, ↓ui_o, ↓ui_k, ↓uj_o, ↓uj_k, ↓ui_j, ↓uj_i, ↓o1, ↓j1, ↓o2, ↓j2, ui_s, uj_s, ui_o, ui_k, uj_o, uj_k, ui_j, uj_i, o1, j1, o2, j2]; first | done | with_reducible rfl | (simp only [et, eu1, eu2, eu3, hb1, hh1, hf1, hq1, a1, b1, d1, p1, hb2, hh2, hf2, hq2, a2, b2, d2, p2, hc, est, ebt, Int32.zero_add, Int32.add_zero, Int32.zero_mul, Int32.mul_zero]; first | done | with_reducible rfl | (rw [Int32.mul_comm (m.1 50 43)]; first | done | ac_rfl)) | rfl)), fun s h0 => by simp (disch := first | decide | exact ad_ne (by decide) | exact ad_m (by decide) | exact ad_l (by decide) | exact ad_g (by decide) | exact ad_lt (by decide) | exact ad_o (by decide) | omega) only [↓ui_s, ↓uj_s, ↓ui_o, ↓ui_k, ↓uj_o, ↓uj_k, ↓ui_j, ↓uj_i, ↓o1, ↓j1, ↓o2, ↓j2, ui_s, uj_s, ui_o, ui_k, uj_o, uj_k, ui_j, uj_i, o1, j1, o2, j2]; exact R.be s h0, fun s h0 => by simp (disch := first | decide | exact ad_ne (by decide) | exact ad_m (by decide) | exact ad_l (by decide) | exact ad_g (by decide) | exact ad_lt (by decide) | exact ad_o (by decide) | omega) only [↓ui_s, ↓uj_s, ↓ui_o, ↓ui_k, ↓uj_o, ↓uj_k, ↓ui_j, ↓uj_i, ↓o1, ↓j1, ↓o2, ↓j2, ui_s, uj_s, ui_o, ui_k, uj_o, uj_k, ui_j, uj_i, o1, j1, o2, j2]; exact R.ao s h0, fun s h0 => by simp (disch := first | decide | exact ad_ne (by decide) | exact ad_m (by decide) | exact ad_l (by decide) | exact ad_g (by decide) | exact ad_lt (by decide) | exact ad_o (by decide) | omega) only [↓ui_s, ↓uj_s, ↓ui_o, ↓ui_k, ↓uj_o, ↓uj_k, ↓ui_j, ↓uj_i, ↓o1, ↓j1, ↓o2, ↓j2, ui_s, uj_s, ui_o, ui_k, uj_o, uj_k, ui_j, uj_i, o1, j1, o2, j2]; exact R.lg s h0, fun s h0 => by simp (disch := first | decide | exact ad_ne (by decide) | exact ad_m (by decide) | exact ad_l (by decide) | exact ad_g (by decide) | exact ad_lt (by decide) | exact ad_o (by decide) | omega) only [↓ui_s, ↓uj_s, ↓ui_o, ↓ui_k, ↓uj_o, ↓uj_k, ↓ui_j, ↓uj_i, ↓o1, ↓j1, ↓o2, ↓j2, ui_s, uj_s, ui_o, ui_k, uj_o, uj_k, ui_j, uj_i, o1, j1, o2, j2]; exact R.sy s h0, fun s h0 => by simp (disch := first | decide | exact ad_ne (by decide) | exact ad_m (by decide) | exact ad_l (by decide) | exact ad_g (by decide) | exact ad_lt (by decide) | exact ad_o (by decide) | omega) only [↓ui_s, ↓uj_s, ↓ui_o, ↓ui_k, ↓uj_o, ↓uj_k, ↓ui_j, ↓uj_i, ↓o1, ↓j1, ↓o2, ↓j2, ui_s, uj_s, ui_o, ui_k, uj_o, uj_k, ui_j, uj_i, o1, j1, o2, j2]; exact R.ds s h0, fun s h0 => by simp (disch := first | decide | exact ad_ne (by decide) | exact ad_m (by decide) | exact ad_l (by decide) | exact ad_g (by decide) | exact ad_lt (by decide) | exact ad_o (by decide) | omega) only [↓ui_s, ↓uj_s, ↓ui_o, ↓ui_k, ↓uj_o, ↓uj_k, ↓ui_j, ↓uj_i, ↓o1, ↓j1, ↓o2, ↓j2, ui_s, uj_s, ui_o, ui_k, uj_o, uj_k, ui_j, uj_i, o1, j1, o2, j2]; exact R.lm s h0, fun s k h0 h1 => by simp (disch := first | decide | exact ad_ne (by decide) | exact ad_m (by decide) | exact ad_l (by decide) | exact ad_g (by decide) | exact ad_lt (by decide) | exact ad_o (by decide) | omega) only [↓ui_s, ↓uj_s, ↓ui_o, ↓ui_k, ↓uj_o, ↓uj_k, ↓ui_j, ↓uj_i, ↓o1, ↓j1, ↓o2, ↓j2, ui_s, uj_s, ui_o, ui_k, uj_o, uj_k, ui_j, uj_i, o1, j1, o2, j2]; exact R.hd s k h0 h1, fun s i h0 h1 => by simp (disch := first | decide | exact ad_ne (by decide) | exact ad_m (by decide) | exact ad_l (by decide) | exact ad_g (by decide) | exact ad_lt (by decide) | exact ad_o (by decide) | omega) only [↓ui_s, ↓uj_s, ↓ui_o, ↓ui_k, ↓uj_o, ↓uj_k, ↓ui_j, ↓uj_i, ↓o1, ↓j1, ↓o2, ↓j2, ui_s, uj_s, ui_o, ui_k, uj_o, uj_k, ui_j, uj_i, o1, j1, o2, j2]; exact R.so s i h0 h1, fun s i h0 h1 => by simp (disch := first | decide | exact ad_ne (by decide) | exact ad_m (by decide) | exact ad_l (by decide) | exact ad_g (by decide) | exact ad_lt (by decide) | exact ad_o (by decide) | omega) only [↓ui_s, ↓uj_s, ↓ui_o, ↓ui_k, ↓uj_o, ↓uj_k, ↓ui_j, ↓uj_i, ↓o1, ↓j1, ↓o2, ↓j2, ui_s, uj_s, ui_o, ui_k, uj_o, uj_k, ui_j, uj_i, o1, j1, o2, j2]; exact R.lo s i h0 h1, fun s i h0 h1 => by simp (disch := first | decide | exact ad_ne (by decide) | exact ad_m (by decide) | exact ad_l (by decide) | exact ad_g (by decide) | exact ad_lt (by decide) | exact ad_o (by decide) | omega) only [↓ui_s, ↓uj_s, ↓ui_o, ↓ui_k, ↓uj_o, ↓uj_k, ↓ui_j, ↓uj_i, ↓o1, ↓j1, ↓o2, ↓j2, ui_s, uj_s, ui_o, ui_k, uj_o, uj_k, ui_j, uj_i, o1, j1, o2, j2]; exact R.rv s i h0 h1, (fun i f g0 g1 g2 => by
      obtain rfl | rfl | rfl | e : i = 0 ∨ i = 1 ∨ i = 2 ∨ i = 3 := by omega
      · obtain rfl | rfl | rfl | rfl | rfl | rfl | rfl : f = 0 ∨ f = 1 ∨ f = 2 ∨ f = 3 ∨ f = 4 ∨ f = 5 ∨ f = 6 := by omega
        all_goals (simp (disch := first | decide | exact ad_ne (by decide) | exact ad_m (by decide) | exact ad_l (by decide) | exact ad_g (by decide) | exact ad_lt (by decide) | exact ad_o (by decide) | omega) only [↓ui_s, ↓uj_s, ↓ui_o, ↓ui_k, ↓uj_o, ↓uj_k, ↓ui_j, ↓uj_i, ↓o1, ↓j1, ↓o2, ↓j2, ui_s, uj_s, ui_o, ui_k, uj_o, uj_k, ui_j, uj_i, o1, j1, o2, j2]; first | done | with_reducible rfl | (simp only [et, eu1, eu2, eu3, hb1, hh1, hf1, hq1, a1, b1, d1, p1, hb2, hh2, hf2, hq2, a2, b2, d2, p2, hc, est, ebt, Int32.zero_add, Int32.add_zero, Int32.zero_mul, Int32.mul_zero]; first | done | with_reducible rfl | (rw [Int32.mul_comm (m.1 50 43)]; first | done | ac_rfl)) | rfl)
      · obtain rfl | rfl | rfl | rfl | rfl | rfl | rfl : f = 0 ∨ f = 1 ∨ f = 2 ∨ f = 3 ∨ f = 4 ∨ f = 5 ∨ f = 6 := by omega
        all_goals (simp (disch := first | decide | exact ad_ne (by decide) | exact ad_m (by decide) | exact ad_l (by decide) | exact ad_g (by decide) | exact ad_lt (by decide) | exact ad_o (by decide) | omega) only [↓ui_s, ↓uj_s, ↓ui_o, ↓ui_k, ↓uj_o, ↓uj_k, ↓ui_j, ↓uj_i, ↓o1, ↓j1, ↓o2, ↓j2, ui_s, uj_s, ui_o, ui_k, uj_o, uj_k, ui_j, uj_i, o1, j1, o2, j2]; first | done | with_reducible rfl | (simp only [et, eu1, eu2, eu3, hb1, hh1, hf1, hq1, a1, b1, d1, p1, hb2, hh2, hf2, hq2, a2, b2, d2, p2, hc, est, ebt, Int32.zero_add, Int32.add_zero, Int32.zero_mul, Int32.mul_zero]; first | done | with_reducible rfl | (rw [Int32.mul_comm (m.1 50 43)]; first | done | ac_rfl)) | rfl)
      · simp (disch := first | decide | exact ad_ne (by decide) | exact ad_m (by decide) | exact ad_l (by decide) | exact ad_g (by decide) | exact ad_lt (by decide) | exact ad_o (by decide) | omega) only [↓ui_s, ↓uj_s, ↓ui_o, ↓ui_k, ↓uj_o, ↓uj_k, ↓ui_j, ↓uj_i, ↓o1, ↓j1, ↓o2, ↓j2, ui_s, uj_s, ui_o, ui_k, uj_o, uj_k, ui_j, uj_i, o1, j1, o2, j2]; exact R.wi _ f g0 g1 g2
      · subst e; simp (disch := first | decide | exact ad_ne (by decide) | exact ad_m (by decide) | exact ad_l (by decide) | exact ad_g (by decide) | exact ad_lt (by decide) | exact ad_o (by decide) | omega) only [↓ui_s, ↓uj_s, ↓ui_o, ↓ui_k, ↓uj_o, ↓uj_k, ↓ui_j, ↓uj_i, ↓o1, ↓j1, ↓o2, ↓j2, ui_s, uj_s, ui_o, ui_k, uj_o, uj_k, ui_j, uj_i, o1, j1, o2, j2]; exact R.wi _ f g0 g1 g2), (fun i g0 => by
      obtain rfl | rfl | rfl | e : i = 0 ∨ i = 1 ∨ i = 2 ∨ i = 3 := by omega
      · simp (disch := first | decide | exact ad_ne (by decide) | exact ad_m (by decide) | exact ad_l (by decide) | exact ad_g (by decide) | exact ad_lt (by decide) | exact ad_o (by decide) | omega) only [↓ui_s, ↓uj_s, ↓ui_o, ↓ui_k, ↓uj_o, ↓uj_k, ↓ui_j, ↓uj_i, ↓o1, ↓j1, ↓o2, ↓j2, ui_s, uj_s, ui_o, ui_k, uj_o, uj_k, ui_j, uj_i, o1, j1, o2, j2]; exact d1
      · simp (disch := first | decide | exact ad_ne (by decide) | exact ad_m (by decide) | exact ad_l (by decide) | exact ad_g (by decide) | exact ad_lt (by decide) | exact ad_o (by decide) | omega) only [↓ui_s, ↓uj_s, ↓ui_o, ↓ui_k, ↓uj_o, ↓uj_k, ↓ui_j, ↓uj_i, ↓o1, ↓j1, ↓o2, ↓j2, ui_s, uj_s, ui_o, ui_k, uj_o, uj_k, ui_j, uj_i, o1, j1, o2, j2]; exact d2
      · simp (disch := first | decide | exact ad_ne (by decide) | exact ad_m (by decide) | exact ad_l (by decide) | exact ad_g (by decide) | exact ad_lt (by decide) | exact ad_o (by decide) | omega) only [↓ui_s, ↓uj_s, ↓ui_o, ↓ui_k, ↓uj_o, ↓uj_k, ↓ui_j, ↓uj_i, ↓o1, ↓j1, ↓o2, ↓j2, ui_s, uj_s, ui_o, ui_k, uj_o, uj_k, ui_j, uj_i, o1, j1, o2, j2]; exact R.wf _ g0
      · subst e; simp (disch := first | decide | exact ad_ne (by decide) | exact ad_m (by decide) | exact ad_l (by decide) | exact ad_g (by decide) | exact ad_lt (by decide) | exact ad_o (by decide) | omega) only [↓ui_s, ↓uj_s, ↓ui_o, ↓ui_k, ↓uj_o, ↓uj_k, ↓ui_j, ↓uj_i, ↓o1, ↓j1, ↓o2, ↓j2, ui_s, uj_s, ui_o, ui_k, uj_o, uj_k, ui_j, uj_i, o1, j1, o2, j2]; exact R.wf _ g0), fun s k2 h0 h1 => by simp (disch := first | decide | exact ad_ne (by decide) | exact ad_m (by decide) | exact ad_l (by decide) | exact ad_g (by decide) | exact ad_lt (by decide) | exact ad_o (by decide) | omega) only [↓ui_s, ↓uj_s, ↓ui_o, ↓ui_k, ↓uj_o, ↓uj_k, ↓ui_j, ↓uj_i, ↓o1, ↓j1, ↓o2, ↓j2, ui_s, uj_s, ui_o, ui_k, uj_o, uj_k, ui_j, uj_i, o1, j1, o2, j2]; exact R.al s k2 h0 h1, fun s h0 => by simp (disch := first | decide | exact ad_ne (by decide) | exact ad_m (by decide) | exact ad_l (by decide) | exact ad_g (by decide) | exact ad_lt (by decide) | exact ad_o (by decide) | omega) only [↓ui_s, ↓uj_s, ↓ui_o, ↓ui_k, ↓uj_o, ↓uj_k, ↓ui_j, ↓uj_i, ↓o1, ↓j1, ↓o2, ↓j2, ui_s, uj_s, ui_o, ui_k, uj_o, uj_k, ui_j, uj_i, o1, j1, o2, j2]; exact R.lz s h0, fun s i h0 h1 => by simp (disch := first | decide | exact ad_ne (by decide) | exact ad_m (by decide) | exact ad_l (by decide) | exact ad_g (by decide) | exact ad_lt (by decide) | exact ad_o (by decide) | omega) only [↓ui_s, ↓uj_s, ↓ui_o, ↓ui_k, ↓uj_o, ↓uj_k, ↓ui_j, ↓uj_i, ↓o1, ↓j1, ↓o2, ↓j2, ui_s, uj_s, ui_o, ui_k, uj_o, uj_k, ui_j, uj_i, o1, j1, o2, j2] at h1 ⊢; exact R.sv s i h0 h1, fun s h0 => by simp (disch := first | decide | exact ad_ne (by decide) | exact ad_m (by decide) | exact ad_l (by decide) | exact ad_g (by decide) | exact ad_lt (by decide) | exact ad_o (by decide) | omega) only [↓ui_s, ↓uj_s, ↓ui_o, ↓ui_k, ↓uj_o, ↓uj_k, ↓ui_j, ↓uj_i, ↓o1, ↓j1, ↓o2, ↓j2, ui_s, uj_s, ui_o, ui_k, uj_o, uj_k, ui_j, uj_i, o1, j1, o2, j2]; rw [R.tk s h0]; exact congrArg (fun f => kb f 34) (tkM_cg (R.rb s h0) (fun i hi => by simp (disch := first | decide | exact ad_ne (by decide) | exact ad_m (by decide) | exact ad_l (by decide) | exact ad_g (by decide) | exact ad_lt (by decide) | exact ad_o (by decide) | omega) only [↓ui_s, ↓uj_s, ↓ui_o, ↓ui_k, ↓uj_o, ↓uj_k, ↓ui_j, ↓uj_i, ↓o1, ↓j1, ↓o2, ↓j2, ui_s, uj_s, ui_o, ui_k, uj_o, uj_k, ui_j, uj_i, o1, j1, o2, j2]) (by simp (disch := first | decide | exact ad_ne (by decide) | exact ad_m (by decide) | exact ad_l (by decide) | exact ad_g (by decide) | exact ad_lt (by decide) | exact ad_o (by decide) | omega) only [↓ui_s, ↓uj_s, ↓ui_o, ↓ui_k, ↓uj_o, ↓uj_k, ↓ui_j, ↓uj_i, ↓o1, ↓j1, ↓o2, ↓j2, ui_s, uj_s, ui_o, ui_k, uj_o, uj_k, ui_j, uj_i, o1, j1, o2, j2])), fun s h0 => by simp (disch := first | decide | exact ad_ne (by decide) | exact ad_m (by decide) | exact ad_l (by decide) | exact ad_g (by decide) | exact ad_lt (by decide) | exact ad_o (by decide) | omega) only [↓ui_s, ↓uj_s, ↓ui_o, ↓ui_k, ↓uj_o, ↓uj_k, ↓ui_j, ↓uj_i, ↓o1, ↓j1, ↓o2, ↓j2, ui_s, uj_s, ui_o, ui_k, uj_o, uj_k, ui_j, uj_i, o1, j1, o2, j2]; exact R.rb s h0, fun s i h0 h1 => by simp (disch := first | decide | exact ad_ne (by decide) | exact ad_m (by decide) | exact ad_l (by decide) | exact ad_g (by decide) | exact ad_lt (by decide) | exact ad_o (by decide) | omega) only [↓ui_s, ↓uj_s, ↓ui_o, ↓ui_k, ↓uj_o, ↓uj_k, ↓ui_j, ↓uj_i, ↓o1, ↓j1, ↓o2, ↓j2, ui_s, uj_s, ui_o, ui_k, uj_o, uj_k, ui_j, uj_i, o1, j1, o2, j2] at h1 ⊢; exact R.rk s i h0 h1, (by simp (disch := first | decide | exact ad_ne (by decide) | exact ad_m (by decide) | exact ad_l (by decide) | exact ad_g (by decide) | exact ad_lt (by decide) | exact ad_o (by decide) | omega) only [↓ui_s, ↓uj_s, ↓ui_o, ↓ui_k, ↓uj_o, ↓uj_k, ↓ui_j, ↓uj_i, ↓o1, ↓j1, ↓o2, ↓j2, ui_s, uj_s, ui_o, ui_k, uj_o, uj_k, ui_j, uj_i, o1, j1, o2, j2]; exact R.rd), fun s h0 => by simp (disch := first | decide | exact ad_ne (by decide) | exact ad_m (by decide) | exact ad_l (by decide) | exact ad_g (by decide) | exact ad_lt (by decide) | exact ad_o (by decide) | omega) only [↓ui_s, ↓uj_s, ↓ui_o, ↓ui_k, ↓uj_o, ↓uj_k, ↓ui_j, ↓uj_i, ↓o1, ↓j1, ↓o2, ↓j2, ui_s, uj_s, ui_o, ui_k, uj_o, uj_k, ui_j, uj_i, o1, j1, o2, j2]; exact R.bb s h0, fun z => by simp (disch := first | decide | exact ad_ne (by decide) | exact ad_m (by decide) | exact ad_l (by decide) | exact ad_g (by decide) | exact ad_lt (by decide) | exact ad_o (by decide) | omega) only [↓ui_s, ↓uj_s, ↓ui_o, ↓ui_k, ↓uj_o, ↓uj_k, ↓ui_j, ↓uj_i, ↓o1, ↓j1, ↓o2, ↓j2, ui_s, uj_s, ui_o, ui_k, uj_o, uj_k, ui_j, uj_i, o1, j1, o2, j2] at z ⊢; exact R.wp z⟩
/-! the relation is kept: all that said so win -/
set_option maxRecDepth 8000
noncomputable def wa111 (W3 : zM) (t dl u1 u2 u3 : Nat) (v1 v2 v3 : Q4) (μ : zM) : zM := z_ui (rcW (z_ui (z_ui W3 (18 + 8 * t) 4 ((((μ.1 (18 + 8 * t) 4) - ((hnd (v1.1 * (bif decide ((nI u1) = (nI dl)) then (6 : Int32) else 4))) + (300 * (μ.1 0 11)))) - ((hnd (v2.1 * (bif decide ((nI u2) = (nI dl)) then (6 : Int32) else 4))) + 0)) - ((hnd (v3.1 * (bif decide ((nI u3) = (nI dl)) then (6 : Int32) else 4))) + 0))) (18 + 8 * u3) 4 ((μ.1 (18 + 8 * u3) 4) + (((hnd (v3.1 * (bif decide ((nI u3) = (nI dl)) then (6 : Int32) else 4))) + 0) + 0))) 2 (nI u3) (nI t) (((hnd (v3.1 * (bif decide ((nI u3) = (nI dl)) then (6 : Int32) else 4))) + 0) + 0)) 0 12 0
theorem wA111_p (W : zM) (t dl e u1 u2 u3 : Nat) (v1 v2 v3 : Q4) (x : zM) : wA111 W t dl e u1 u2 u3 v1 v2 v3 x = eHB (wa111 W t dl u1 u2 u3 v1 v2 v3 x) (((decide ((nI u1) = (nI dl))) || (decide ((nI u2) = (nI dl)))) || (decide ((nI u3) = (nI dl)))) (!(((decide ((nI u1) = (nI dl))) || (decide ((nI u2) = (nI dl)))) || (decide ((nI u3) = (nI dl))))) (xBk (wa111 W t dl u1 u2 u3 v1 v2 v3 x)) dl e (rcM (wa111 W t dl u1 u2 u3 v1 v2 v3 x)) := rfl
noncomputable def aq111 (μ N1 N2 N3 : zM) (t dl c u1 u2 u3 : Nat) : zM := z_ui (z_ui (z_ui (z_ui (z_ui (z_ui (z_ui (z_uj (z_ui (z_ui (z_ui (z_ui (z_ui (z_ui (z_ui (z_ui (z_ui (z_ui (z_ui (z_uj (z_ui (z_ui (z_ui (z_ui (z_ui (z_ui (z_ui (z_ui (z_ui (z_ui (z_ui (z_uj (z_ui (z_ui (z_ui (z_ui (z_ui (z_ui (z_ui (z_ui μ 50 53 0) 72 0 (nI u1)) 72 1 (nI t)) 72 2 (N1.1 50 13)) 72 3 (N1.1 50 14)) 72 4 (N1.1 50 15)) 72 5 0) 72 6 (nI c)) 73 0 (N1.2.1 50 17)) 61 t ((μ.1 61 t) - ((hnd ((N1.1 50 13) * (bif decide ((nI u1) = (nI dl)) then (6 : Int32) else 4))) + (300 * (μ.1 50 42))))) 61 u1 ((μ.1 61 u1) + ((hnd ((N1.1 50 13) * (bif decide ((nI u1) = (nI dl)) then (6 : Int32) else 4))) + (300 * (μ.1 50 42))))) 72 5 (0 + ((hnd ((N1.1 50 13) * (bif decide ((nI u1) = (nI dl)) then (6 : Int32) else 4))) + (300 * (μ.1 50 42))))) 50 53 1) 72 7 (nI u2)) 72 8 (nI t)) 72 9 (N2.1 50 13)) 72 10 (N2.1 50 14)) 72 11 (N2.1 50 15)) 72 12 0) 72 13 (nI c)) 73 1 (N2.2.1 50 17)) 61 t (((μ.1 61 t) - ((hnd ((N1.1 50 13) * (bif decide ((nI u1) = (nI dl)) then (6 : Int32) else 4))) + (300 * (μ.1 50 42)))) - ((hnd ((N2.1 50 13) * (bif decide ((nI u2) = (nI dl)) then (6 : Int32) else 4))) + 0))) 61 u2 ((μ.1 61 u2) + ((hnd ((N2.1 50 13) * (bif decide ((nI u2) = (nI dl)) then (6 : Int32) else 4))) + 0))) 72 12 (0 + ((hnd ((N2.1 50 13) * (bif decide ((nI u2) = (nI dl)) then (6 : Int32) else 4))) + 0))) 50 53 2) 72 14 (nI u3)) 72 15 (nI t)) 72 16 (N3.1 50 13)) 72 17 (N3.1 50 14)) 72 18 (N3.1 50 15)) 72 19 0) 72 20 (nI c)) 73 2 (N3.2.1 50 17)) 61 t ((((μ.1 61 t) - ((hnd ((N1.1 50 13) * (bif decide ((nI u1) = (nI dl)) then (6 : Int32) else 4))) + (300 * (μ.1 50 42)))) - ((hnd ((N2.1 50 13) * (bif decide ((nI u2) = (nI dl)) then (6 : Int32) else 4))) + 0)) - ((hnd ((N3.1 50 13) * (bif decide ((nI u3) = (nI dl)) then (6 : Int32) else 4))) + 0))) 61 u3 ((μ.1 61 u3) + ((hnd ((N3.1 50 13) * (bif decide ((nI u3) = (nI dl)) then (6 : Int32) else 4))) + 0))) 72 19 (0 + ((hnd ((N3.1 50 13) * (bif decide ((nI u3) = (nI dl)) then (6 : Int32) else 4))) + 0))) 50 53 3) 61 u1 (((μ.1 61 u1) + ((hnd ((N1.1 50 13) * (bif decide ((nI u1) = (nI dl)) then (6 : Int32) else 4))) + (300 * (μ.1 50 42)))) + (1000 * (μ.1 50 43)))) 72 5 ((0 + ((hnd ((N1.1 50 13) * (bif decide ((nI u1) = (nI dl)) then (6 : Int32) else 4))) + (300 * (μ.1 50 42)))) + (1000 * (μ.1 50 43)))) 50 43 0
theorem aM111_p (m N1 N2 N3 : zM) (t dl e c u1 u2 u3 : Nat) : aM111 m N1 N2 N3 t dl e c u1 u2 u3 = eMB (aq111 m N1 N2 N3 t dl c u1 u2 u3) (((decide ((nI u1) = (nI dl))) || (decide ((nI u2) = (nI dl)))) || (decide ((nI u3) = (nI dl)))) (((decide ((nI u1) = (nI dl))) || (decide ((nI u2) = (nI dl)))) || (decide ((nI u3) = (nI dl)))) dl e := rfl
theorem rc_aw111_pt0 {x m W1 W2 W3 N1 N2 N3 : zM} {v1 v2 v3 : Q4} (R : RCl x m) {t dl c u1 u2 u3 : Nat} (ht : t < 4) (hu1 : (t + 1) % 4 = u1) (hu2 : (t + 2) % 4 = u2) (hu3 : (t + 3) % 4 = u3) (hc : x.1 0 15 = nI c) (hO1 : WOj (x) W1) (hv1 : bqJ W1 = v1) (hb1 : v1.1 = N1.1 50 13) (hh1 : v1.2.1 = N1.1 50 14) (hf1 : v1.2.2.2 = N1.2.1 50 17) (hq1 : v1.2.2.1 = N1.1 50 15) (hO2 : WOj (z_ui (rcW (z_ui (z_ui W1 (18 + 8 * t) 4 ((x.1 (18 + 8 * t) 4) - ((hnd (v1.1 * (bif decide ((nI u1) = (nI dl)) then (6 : Int32) else 4))) + (300 * (x.1 0 11))))) (18 + 8 * u1) 4 ((x.1 (18 + 8 * u1) 4) + (((hnd (v1.1 * (bif decide ((nI u1) = (nI dl)) then (6 : Int32) else 4))) + (300 * (x.1 0 11))) + ((x.1 0 12) * 1000)))) 0 (nI u1) (nI t) (((hnd (v1.1 * (bif decide ((nI u1) = (nI dl)) then (6 : Int32) else 4))) + (300 * (x.1 0 11))) + ((x.1 0 12) * 1000))) 0 12 0) W2) (hv2 : bqJ W2 = v2) (hb2 : v2.1 = N2.1 50 13) (hh2 : v2.2.1 = N2.1 50 14) (hf2 : v2.2.2.2 = N2.2.1 50 17) (hq2 : v2.2.2.1 = N2.1 50 15) (hO3 : WOj (z_ui (rcW (z_ui (z_ui W2 (18 + 8 * t) 4 (((x.1 (18 + 8 * t) 4) - ((hnd (v1.1 * (bif decide ((nI u1) = (nI dl)) then (6 : Int32) else 4))) + (300 * (x.1 0 11)))) - ((hnd (v2.1 * (bif decide ((nI u2) = (nI dl)) then (6 : Int32) else 4))) + 0))) (18 + 8 * u2) 4 ((x.1 (18 + 8 * u2) 4) + (((hnd (v2.1 * (bif decide ((nI u2) = (nI dl)) then (6 : Int32) else 4))) + 0) + 0))) 1 (nI u2) (nI t) (((hnd (v2.1 * (bif decide ((nI u2) = (nI dl)) then (6 : Int32) else 4))) + 0) + 0)) 0 12 0) W3) (hv3 : bqJ W3 = v3) (hb3 : v3.1 = N3.1 50 13) (hh3 : v3.2.1 = N3.1 50 14) (hf3 : v3.2.2.2 = N3.2.1 50 17) (hq3 : v3.2.2.1 = N3.1 50 15) : (wa111 W3 t dl u1 u2 u3 v1 v2 v3 x).1 (18 + 8 * t) 4 = (aq111 m N1 N2 N3 t dl c u1 u2 u3).1 61 t := by
  have o1 := fun r k h => (hO1 r k h).1
  have j1 := fun r k h => (hO1 r k h).2
  have a1 : W1.1 4 0 = N1.1 50 13 := (congrArg (fun q => q.1) hv1).trans hb1
  have b1 : W1.1 4 1 = N1.1 50 14 := (congrArg (fun q => q.2.1) hv1).trans hh1
  have d1 : W1.2.1 4 3 = N1.2.1 50 17 := (congrArg (fun q => q.2.2.2) hv1).trans hf1
  have p1 : W1.1 4 2 = N1.1 50 15 := (congrArg (fun q => q.2.2.1) hv1).trans hq1
  clear hO1
  have o2 := fun r k h => (hO2 r k h).1
  have j2 := fun r k h => (hO2 r k h).2
  have a2 : W2.1 4 0 = N2.1 50 13 := (congrArg (fun q => q.1) hv2).trans hb2
  have b2 : W2.1 4 1 = N2.1 50 14 := (congrArg (fun q => q.2.1) hv2).trans hh2
  have d2 : W2.2.1 4 3 = N2.2.1 50 17 := (congrArg (fun q => q.2.2.2) hv2).trans hf2
  have p2 : W2.1 4 2 = N2.1 50 15 := (congrArg (fun q => q.2.2.1) hv2).trans hq2
  clear hO2
  have o3 := fun r k h => (hO3 r k h).1
  have j3 := fun r k h => (hO3 r k h).2
  have a3 : W3.1 4 0 = N3.1 50 13 := (congrArg (fun q => q.1) hv3).trans hb3
  have b3 : W3.1 4 1 = N3.1 50 14 := (congrArg (fun q => q.2.1) hv3).trans hh3
  have d3 : W3.2.1 4 3 = N3.2.1 50 17 := (congrArg (fun q => q.2.2.2) hv3).trans hf3
  have p3 : W3.1 4 2 = N3.1 50 15 := (congrArg (fun q => q.2.2.1) hv3).trans hq3
  clear hO3
  have h1 : u1 < 4 := by omega
  have h2 : u2 < 4 := by omega
  have h3 : u3 < 4 := by omega
  have et := R.pt t ht
  have eu1 := R.pt u1 h1
  have eu2 := R.pt u2 h2
  have eu3 := R.pt u3 h3
  have est := R.st
  have ebt := R.bt
  unfold wa111 aq111
  unfold rcW at *
  simp (disch := first | decide | exact ad_ne (by decide) | exact ad_m (by decide) | exact ad_l (by decide) | exact ad_g (by decide) | exact ad_lt (by decide) | exact ad_o (by decide) | omega) only [↓ui_s, ↓uj_s, ↓ui_o, ↓ui_k, ↓uj_o, ↓uj_k, ↓ui_j, ↓uj_i, ↓o1, ↓j1, ↓o2, ↓j2, ↓o3, ↓j3, ui_s, uj_s, ui_o, ui_k, uj_o, uj_k, ui_j, uj_i, o1, j1, o2, j2, o3, j3]
  first | done | with_reducible rfl | (simp only [et, eu1, eu2, eu3, hb1, hh1, hf1, hq1, a1, b1, d1, p1, hb2, hh2, hf2, hq2, a2, b2, d2, p2, hb3, hh3, hf3, hq3, a3, b3, d3, p3, hc, est, ebt, Int32.zero_add, Int32.add_zero, Int32.zero_mul, Int32.mul_zero]; first | done | with_reducible rfl | (rw [Int32.mul_comm (m.1 50 43)]; first | done | ac_rfl)) | rfl
theorem rc_aw111_pt1 {x m W1 W2 W3 N1 N2 N3 : zM} {v1 v2 v3 : Q4} (R : RCl x m) {t dl c u1 u2 u3 : Nat} (ht : t < 4) (hu1 : (t + 1) % 4 = u1) (hu2 : (t + 2) % 4 = u2) (hu3 : (t + 3) % 4 = u3) (hc : x.1 0 15 = nI c) (hO1 : WOj (x) W1) (hv1 : bqJ W1 = v1) (hb1 : v1.1 = N1.1 50 13) (hh1 : v1.2.1 = N1.1 50 14) (hf1 : v1.2.2.2 = N1.2.1 50 17) (hq1 : v1.2.2.1 = N1.1 50 15) (hO2 : WOj (z_ui (rcW (z_ui (z_ui W1 (18 + 8 * t) 4 ((x.1 (18 + 8 * t) 4) - ((hnd (v1.1 * (bif decide ((nI u1) = (nI dl)) then (6 : Int32) else 4))) + (300 * (x.1 0 11))))) (18 + 8 * u1) 4 ((x.1 (18 + 8 * u1) 4) + (((hnd (v1.1 * (bif decide ((nI u1) = (nI dl)) then (6 : Int32) else 4))) + (300 * (x.1 0 11))) + ((x.1 0 12) * 1000)))) 0 (nI u1) (nI t) (((hnd (v1.1 * (bif decide ((nI u1) = (nI dl)) then (6 : Int32) else 4))) + (300 * (x.1 0 11))) + ((x.1 0 12) * 1000))) 0 12 0) W2) (hv2 : bqJ W2 = v2) (hb2 : v2.1 = N2.1 50 13) (hh2 : v2.2.1 = N2.1 50 14) (hf2 : v2.2.2.2 = N2.2.1 50 17) (hq2 : v2.2.2.1 = N2.1 50 15) (hO3 : WOj (z_ui (rcW (z_ui (z_ui W2 (18 + 8 * t) 4 (((x.1 (18 + 8 * t) 4) - ((hnd (v1.1 * (bif decide ((nI u1) = (nI dl)) then (6 : Int32) else 4))) + (300 * (x.1 0 11)))) - ((hnd (v2.1 * (bif decide ((nI u2) = (nI dl)) then (6 : Int32) else 4))) + 0))) (18 + 8 * u2) 4 ((x.1 (18 + 8 * u2) 4) + (((hnd (v2.1 * (bif decide ((nI u2) = (nI dl)) then (6 : Int32) else 4))) + 0) + 0))) 1 (nI u2) (nI t) (((hnd (v2.1 * (bif decide ((nI u2) = (nI dl)) then (6 : Int32) else 4))) + 0) + 0)) 0 12 0) W3) (hv3 : bqJ W3 = v3) (hb3 : v3.1 = N3.1 50 13) (hh3 : v3.2.1 = N3.1 50 14) (hf3 : v3.2.2.2 = N3.2.1 50 17) (hq3 : v3.2.2.1 = N3.1 50 15) : (wa111 W3 t dl u1 u2 u3 v1 v2 v3 x).1 (18 + 8 * u1) 4 = (aq111 m N1 N2 N3 t dl c u1 u2 u3).1 61 u1 := by
  have o1 := fun r k h => (hO1 r k h).1
  have j1 := fun r k h => (hO1 r k h).2
  have a1 : W1.1 4 0 = N1.1 50 13 := (congrArg (fun q => q.1) hv1).trans hb1
  have b1 : W1.1 4 1 = N1.1 50 14 := (congrArg (fun q => q.2.1) hv1).trans hh1
  have d1 : W1.2.1 4 3 = N1.2.1 50 17 := (congrArg (fun q => q.2.2.2) hv1).trans hf1
  have p1 : W1.1 4 2 = N1.1 50 15 := (congrArg (fun q => q.2.2.1) hv1).trans hq1
  clear hO1
  have o2 := fun r k h => (hO2 r k h).1
  have j2 := fun r k h => (hO2 r k h).2
  have a2 : W2.1 4 0 = N2.1 50 13 := (congrArg (fun q => q.1) hv2).trans hb2
  have b2 : W2.1 4 1 = N2.1 50 14 := (congrArg (fun q => q.2.1) hv2).trans hh2
  have d2 : W2.2.1 4 3 = N2.2.1 50 17 := (congrArg (fun q => q.2.2.2) hv2).trans hf2
  have p2 : W2.1 4 2 = N2.1 50 15 := (congrArg (fun q => q.2.2.1) hv2).trans hq2
  clear hO2
  have o3 := fun r k h => (hO3 r k h).1
  have j3 := fun r k h => (hO3 r k h).2
  have a3 : W3.1 4 0 = N3.1 50 13 := (congrArg (fun q => q.1) hv3).trans hb3
  have b3 : W3.1 4 1 = N3.1 50 14 := (congrArg (fun q => q.2.1) hv3).trans hh3
  have d3 : W3.2.1 4 3 = N3.2.1 50 17 := (congrArg (fun q => q.2.2.2) hv3).trans hf3
  have p3 : W3.1 4 2 = N3.1 50 15 := (congrArg (fun q => q.2.2.1) hv3).trans hq3
  clear hO3
  have h1 : u1 < 4 := by omega
  have h2 : u2 < 4 := by omega
  have h3 : u3 < 4 := by omega
  have et := R.pt t ht
  have eu1 := R.pt u1 h1
  have eu2 := R.pt u2 h2
  have eu3 := R.pt u3 h3
  have est := R.st
  have ebt := R.bt
  unfold wa111 aq111
  unfold rcW at *
  simp (disch := first | decide | exact ad_ne (by decide) | exact ad_m (by decide) | exact ad_l (by decide) | exact ad_g (by decide) | exact ad_lt (by decide) | exact ad_o (by decide) | omega) only [↓ui_s, ↓uj_s, ↓ui_o, ↓ui_k, ↓uj_o, ↓uj_k, ↓ui_j, ↓uj_i, ↓o1, ↓j1, ↓o2, ↓j2, ↓o3, ↓j3, ui_s, uj_s, ui_o, ui_k, uj_o, uj_k, ui_j, uj_i, o1, j1, o2, j2, o3, j3]
  first | done | with_reducible rfl | (simp only [et, eu1, eu2, eu3, hb1, hh1, hf1, hq1, a1, b1, d1, p1, hb2, hh2, hf2, hq2, a2, b2, d2, p2, hb3, hh3, hf3, hq3, a3, b3, d3, p3, hc, est, ebt, Int32.zero_add, Int32.add_zero, Int32.zero_mul, Int32.mul_zero]; first | done | with_reducible rfl | (rw [Int32.mul_comm (m.1 50 43)]; first | done | ac_rfl)) | rfl
theorem rc_aw111_pt2 {x m W1 W2 W3 N1 N2 N3 : zM} {v1 v2 v3 : Q4} (R : RCl x m) {t dl c u1 u2 u3 : Nat} (ht : t < 4) (hu1 : (t + 1) % 4 = u1) (hu2 : (t + 2) % 4 = u2) (hu3 : (t + 3) % 4 = u3) (hc : x.1 0 15 = nI c) (hO1 : WOj (x) W1) (hv1 : bqJ W1 = v1) (hb1 : v1.1 = N1.1 50 13) (hh1 : v1.2.1 = N1.1 50 14) (hf1 : v1.2.2.2 = N1.2.1 50 17) (hq1 : v1.2.2.1 = N1.1 50 15) (hO2 : WOj (z_ui (rcW (z_ui (z_ui W1 (18 + 8 * t) 4 ((x.1 (18 + 8 * t) 4) - ((hnd (v1.1 * (bif decide ((nI u1) = (nI dl)) then (6 : Int32) else 4))) + (300 * (x.1 0 11))))) (18 + 8 * u1) 4 ((x.1 (18 + 8 * u1) 4) + (((hnd (v1.1 * (bif decide ((nI u1) = (nI dl)) then (6 : Int32) else 4))) + (300 * (x.1 0 11))) + ((x.1 0 12) * 1000)))) 0 (nI u1) (nI t) (((hnd (v1.1 * (bif decide ((nI u1) = (nI dl)) then (6 : Int32) else 4))) + (300 * (x.1 0 11))) + ((x.1 0 12) * 1000))) 0 12 0) W2) (hv2 : bqJ W2 = v2) (hb2 : v2.1 = N2.1 50 13) (hh2 : v2.2.1 = N2.1 50 14) (hf2 : v2.2.2.2 = N2.2.1 50 17) (hq2 : v2.2.2.1 = N2.1 50 15) (hO3 : WOj (z_ui (rcW (z_ui (z_ui W2 (18 + 8 * t) 4 (((x.1 (18 + 8 * t) 4) - ((hnd (v1.1 * (bif decide ((nI u1) = (nI dl)) then (6 : Int32) else 4))) + (300 * (x.1 0 11)))) - ((hnd (v2.1 * (bif decide ((nI u2) = (nI dl)) then (6 : Int32) else 4))) + 0))) (18 + 8 * u2) 4 ((x.1 (18 + 8 * u2) 4) + (((hnd (v2.1 * (bif decide ((nI u2) = (nI dl)) then (6 : Int32) else 4))) + 0) + 0))) 1 (nI u2) (nI t) (((hnd (v2.1 * (bif decide ((nI u2) = (nI dl)) then (6 : Int32) else 4))) + 0) + 0)) 0 12 0) W3) (hv3 : bqJ W3 = v3) (hb3 : v3.1 = N3.1 50 13) (hh3 : v3.2.1 = N3.1 50 14) (hf3 : v3.2.2.2 = N3.2.1 50 17) (hq3 : v3.2.2.1 = N3.1 50 15) : (wa111 W3 t dl u1 u2 u3 v1 v2 v3 x).1 (18 + 8 * u2) 4 = (aq111 m N1 N2 N3 t dl c u1 u2 u3).1 61 u2 := by
  have o1 := fun r k h => (hO1 r k h).1
  have j1 := fun r k h => (hO1 r k h).2
  have a1 : W1.1 4 0 = N1.1 50 13 := (congrArg (fun q => q.1) hv1).trans hb1
  have b1 : W1.1 4 1 = N1.1 50 14 := (congrArg (fun q => q.2.1) hv1).trans hh1
  have d1 : W1.2.1 4 3 = N1.2.1 50 17 := (congrArg (fun q => q.2.2.2) hv1).trans hf1
  have p1 : W1.1 4 2 = N1.1 50 15 := (congrArg (fun q => q.2.2.1) hv1).trans hq1
  clear hO1
  have o2 := fun r k h => (hO2 r k h).1
  have j2 := fun r k h => (hO2 r k h).2
  have a2 : W2.1 4 0 = N2.1 50 13 := (congrArg (fun q => q.1) hv2).trans hb2
  have b2 : W2.1 4 1 = N2.1 50 14 := (congrArg (fun q => q.2.1) hv2).trans hh2
  have d2 : W2.2.1 4 3 = N2.2.1 50 17 := (congrArg (fun q => q.2.2.2) hv2).trans hf2
  have p2 : W2.1 4 2 = N2.1 50 15 := (congrArg (fun q => q.2.2.1) hv2).trans hq2
  clear hO2
  have o3 := fun r k h => (hO3 r k h).1
  have j3 := fun r k h => (hO3 r k h).2
  have a3 : W3.1 4 0 = N3.1 50 13 := (congrArg (fun q => q.1) hv3).trans hb3
  have b3 : W3.1 4 1 = N3.1 50 14 := (congrArg (fun q => q.2.1) hv3).trans hh3
  have d3 : W3.2.1 4 3 = N3.2.1 50 17 := (congrArg (fun q => q.2.2.2) hv3).trans hf3
  have p3 : W3.1 4 2 = N3.1 50 15 := (congrArg (fun q => q.2.2.1) hv3).trans hq3
  clear hO3
  have h1 : u1 < 4 := by omega
  have h2 : u2 < 4 := by omega
  have h3 : u3 < 4 := by omega
  have et := R.pt t ht
  have eu1 := R.pt u1 h1
  have eu2 := R.pt u2 h2
  have eu3 := R.pt u3 h3
  have est := R.st
  have ebt := R.bt
  unfold wa111 aq111
  unfold rcW at *
  simp (disch := first | decide | exact ad_ne (by decide) | exact ad_m (by decide) | exact ad_l (by decide) | exact ad_g (by decide) | exact ad_lt (by decide) | exact ad_o (by decide) | omega) only [↓ui_s, ↓uj_s, ↓ui_o, ↓ui_k, ↓uj_o, ↓uj_k, ↓ui_j, ↓uj_i, ↓o1, ↓j1, ↓o2, ↓j2, ↓o3, ↓j3, ui_s, uj_s, ui_o, ui_k, uj_o, uj_k, ui_j, uj_i, o1, j1, o2, j2, o3, j3]
  first | done | with_reducible rfl | (simp only [et, eu1, eu2, eu3, hb1, hh1, hf1, hq1, a1, b1, d1, p1, hb2, hh2, hf2, hq2, a2, b2, d2, p2, hb3, hh3, hf3, hq3, a3, b3, d3, p3, hc, est, ebt, Int32.zero_add, Int32.add_zero, Int32.zero_mul, Int32.mul_zero]; first | done | with_reducible rfl | (rw [Int32.mul_comm (m.1 50 43)]; first | done | ac_rfl)) | rfl
theorem rc_aw111_pt3 {x m W1 W2 W3 N1 N2 N3 : zM} {v1 v2 v3 : Q4} (R : RCl x m) {t dl c u1 u2 u3 : Nat} (ht : t < 4) (hu1 : (t + 1) % 4 = u1) (hu2 : (t + 2) % 4 = u2) (hu3 : (t + 3) % 4 = u3) (hc : x.1 0 15 = nI c) (hO1 : WOj (x) W1) (hv1 : bqJ W1 = v1) (hb1 : v1.1 = N1.1 50 13) (hh1 : v1.2.1 = N1.1 50 14) (hf1 : v1.2.2.2 = N1.2.1 50 17) (hq1 : v1.2.2.1 = N1.1 50 15) (hO2 : WOj (z_ui (rcW (z_ui (z_ui W1 (18 + 8 * t) 4 ((x.1 (18 + 8 * t) 4) - ((hnd (v1.1 * (bif decide ((nI u1) = (nI dl)) then (6 : Int32) else 4))) + (300 * (x.1 0 11))))) (18 + 8 * u1) 4 ((x.1 (18 + 8 * u1) 4) + (((hnd (v1.1 * (bif decide ((nI u1) = (nI dl)) then (6 : Int32) else 4))) + (300 * (x.1 0 11))) + ((x.1 0 12) * 1000)))) 0 (nI u1) (nI t) (((hnd (v1.1 * (bif decide ((nI u1) = (nI dl)) then (6 : Int32) else 4))) + (300 * (x.1 0 11))) + ((x.1 0 12) * 1000))) 0 12 0) W2) (hv2 : bqJ W2 = v2) (hb2 : v2.1 = N2.1 50 13) (hh2 : v2.2.1 = N2.1 50 14) (hf2 : v2.2.2.2 = N2.2.1 50 17) (hq2 : v2.2.2.1 = N2.1 50 15) (hO3 : WOj (z_ui (rcW (z_ui (z_ui W2 (18 + 8 * t) 4 (((x.1 (18 + 8 * t) 4) - ((hnd (v1.1 * (bif decide ((nI u1) = (nI dl)) then (6 : Int32) else 4))) + (300 * (x.1 0 11)))) - ((hnd (v2.1 * (bif decide ((nI u2) = (nI dl)) then (6 : Int32) else 4))) + 0))) (18 + 8 * u2) 4 ((x.1 (18 + 8 * u2) 4) + (((hnd (v2.1 * (bif decide ((nI u2) = (nI dl)) then (6 : Int32) else 4))) + 0) + 0))) 1 (nI u2) (nI t) (((hnd (v2.1 * (bif decide ((nI u2) = (nI dl)) then (6 : Int32) else 4))) + 0) + 0)) 0 12 0) W3) (hv3 : bqJ W3 = v3) (hb3 : v3.1 = N3.1 50 13) (hh3 : v3.2.1 = N3.1 50 14) (hf3 : v3.2.2.2 = N3.2.1 50 17) (hq3 : v3.2.2.1 = N3.1 50 15) : (wa111 W3 t dl u1 u2 u3 v1 v2 v3 x).1 (18 + 8 * u3) 4 = (aq111 m N1 N2 N3 t dl c u1 u2 u3).1 61 u3 := by
  have o1 := fun r k h => (hO1 r k h).1
  have j1 := fun r k h => (hO1 r k h).2
  have a1 : W1.1 4 0 = N1.1 50 13 := (congrArg (fun q => q.1) hv1).trans hb1
  have b1 : W1.1 4 1 = N1.1 50 14 := (congrArg (fun q => q.2.1) hv1).trans hh1
  have d1 : W1.2.1 4 3 = N1.2.1 50 17 := (congrArg (fun q => q.2.2.2) hv1).trans hf1
  have p1 : W1.1 4 2 = N1.1 50 15 := (congrArg (fun q => q.2.2.1) hv1).trans hq1
  clear hO1
  have o2 := fun r k h => (hO2 r k h).1
  have j2 := fun r k h => (hO2 r k h).2
  have a2 : W2.1 4 0 = N2.1 50 13 := (congrArg (fun q => q.1) hv2).trans hb2
  have b2 : W2.1 4 1 = N2.1 50 14 := (congrArg (fun q => q.2.1) hv2).trans hh2
  have d2 : W2.2.1 4 3 = N2.2.1 50 17 := (congrArg (fun q => q.2.2.2) hv2).trans hf2
  have p2 : W2.1 4 2 = N2.1 50 15 := (congrArg (fun q => q.2.2.1) hv2).trans hq2
  clear hO2
  have o3 := fun r k h => (hO3 r k h).1
  have j3 := fun r k h => (hO3 r k h).2
  have a3 : W3.1 4 0 = N3.1 50 13 := (congrArg (fun q => q.1) hv3).trans hb3
  have b3 : W3.1 4 1 = N3.1 50 14 := (congrArg (fun q => q.2.1) hv3).trans hh3
  have d3 : W3.2.1 4 3 = N3.2.1 50 17 := (congrArg (fun q => q.2.2.2) hv3).trans hf3
  have p3 : W3.1 4 2 = N3.1 50 15 := (congrArg (fun q => q.2.2.1) hv3).trans hq3
  clear hO3
  have h1 : u1 < 4 := by omega
  have h2 : u2 < 4 := by omega
  have h3 : u3 < 4 := by omega
  have et := R.pt t ht
  have eu1 := R.pt u1 h1
  have eu2 := R.pt u2 h2
  have eu3 := R.pt u3 h3
  have est := R.st
  have ebt := R.bt
  unfold wa111 aq111
  unfold rcW at *
  simp (disch := first | decide | exact ad_ne (by decide) | exact ad_m (by decide) | exact ad_l (by decide) | exact ad_g (by decide) | exact ad_lt (by decide) | exact ad_o (by decide) | omega) only [↓ui_s, ↓uj_s, ↓ui_o, ↓ui_k, ↓uj_o, ↓uj_k, ↓ui_j, ↓uj_i, ↓o1, ↓j1, ↓o2, ↓j2, ↓o3, ↓j3, ui_s, uj_s, ui_o, ui_k, uj_o, uj_k, ui_j, uj_i, o1, j1, o2, j2, o3, j3]
  first | done | with_reducible rfl | (simp only [et, eu1, eu2, eu3, hb1, hh1, hf1, hq1, a1, b1, d1, p1, hb2, hh2, hf2, hq2, a2, b2, d2, p2, hb3, hh3, hf3, hq3, a3, b3, d3, p3, hc, est, ebt, Int32.zero_add, Int32.add_zero, Int32.zero_mul, Int32.mul_zero]; first | done | with_reducible rfl | (rw [Int32.mul_comm (m.1 50 43)]; first | done | ac_rfl)) | rfl
theorem rc_aw111_wi00 {x m W1 W2 W3 N1 N2 N3 : zM} {v1 v2 v3 : Q4} (R : RCl x m) {t dl c u1 u2 u3 : Nat} (ht : t < 4) (hu1 : (t + 1) % 4 = u1) (hu2 : (t + 2) % 4 = u2) (hu3 : (t + 3) % 4 = u3) (hc : x.1 0 15 = nI c) (hO1 : WOj (x) W1) (hv1 : bqJ W1 = v1) (hb1 : v1.1 = N1.1 50 13) (hh1 : v1.2.1 = N1.1 50 14) (hf1 : v1.2.2.2 = N1.2.1 50 17) (hq1 : v1.2.2.1 = N1.1 50 15) (hO2 : WOj (z_ui (rcW (z_ui (z_ui W1 (18 + 8 * t) 4 ((x.1 (18 + 8 * t) 4) - ((hnd (v1.1 * (bif decide ((nI u1) = (nI dl)) then (6 : Int32) else 4))) + (300 * (x.1 0 11))))) (18 + 8 * u1) 4 ((x.1 (18 + 8 * u1) 4) + (((hnd (v1.1 * (bif decide ((nI u1) = (nI dl)) then (6 : Int32) else 4))) + (300 * (x.1 0 11))) + ((x.1 0 12) * 1000)))) 0 (nI u1) (nI t) (((hnd (v1.1 * (bif decide ((nI u1) = (nI dl)) then (6 : Int32) else 4))) + (300 * (x.1 0 11))) + ((x.1 0 12) * 1000))) 0 12 0) W2) (hv2 : bqJ W2 = v2) (hb2 : v2.1 = N2.1 50 13) (hh2 : v2.2.1 = N2.1 50 14) (hf2 : v2.2.2.2 = N2.2.1 50 17) (hq2 : v2.2.2.1 = N2.1 50 15) (hO3 : WOj (z_ui (rcW (z_ui (z_ui W2 (18 + 8 * t) 4 (((x.1 (18 + 8 * t) 4) - ((hnd (v1.1 * (bif decide ((nI u1) = (nI dl)) then (6 : Int32) else 4))) + (300 * (x.1 0 11)))) - ((hnd (v2.1 * (bif decide ((nI u2) = (nI dl)) then (6 : Int32) else 4))) + 0))) (18 + 8 * u2) 4 ((x.1 (18 + 8 * u2) 4) + (((hnd (v2.1 * (bif decide ((nI u2) = (nI dl)) then (6 : Int32) else 4))) + 0) + 0))) 1 (nI u2) (nI t) (((hnd (v2.1 * (bif decide ((nI u2) = (nI dl)) then (6 : Int32) else 4))) + 0) + 0)) 0 12 0) W3) (hv3 : bqJ W3 = v3) (hb3 : v3.1 = N3.1 50 13) (hh3 : v3.2.1 = N3.1 50 14) (hf3 : v3.2.2.2 = N3.2.1 50 17) (hq3 : v3.2.2.1 = N3.1 50 15) : (wa111 W3 t dl u1 u2 u3 v1 v2 v3 x).1 (25 + 8 * 0) 0 = (aq111 m N1 N2 N3 t dl c u1 u2 u3).1 72 (7 * 0 + 0) := by
  have o1 := fun r k h => (hO1 r k h).1
  have j1 := fun r k h => (hO1 r k h).2
  have a1 : W1.1 4 0 = N1.1 50 13 := (congrArg (fun q => q.1) hv1).trans hb1
  have b1 : W1.1 4 1 = N1.1 50 14 := (congrArg (fun q => q.2.1) hv1).trans hh1
  have d1 : W1.2.1 4 3 = N1.2.1 50 17 := (congrArg (fun q => q.2.2.2) hv1).trans hf1
  have p1 : W1.1 4 2 = N1.1 50 15 := (congrArg (fun q => q.2.2.1) hv1).trans hq1
  clear hO1
  have o2 := fun r k h => (hO2 r k h).1
  have j2 := fun r k h => (hO2 r k h).2
  have a2 : W2.1 4 0 = N2.1 50 13 := (congrArg (fun q => q.1) hv2).trans hb2
  have b2 : W2.1 4 1 = N2.1 50 14 := (congrArg (fun q => q.2.1) hv2).trans hh2
  have d2 : W2.2.1 4 3 = N2.2.1 50 17 := (congrArg (fun q => q.2.2.2) hv2).trans hf2
  have p2 : W2.1 4 2 = N2.1 50 15 := (congrArg (fun q => q.2.2.1) hv2).trans hq2
  clear hO2
  have o3 := fun r k h => (hO3 r k h).1
  have j3 := fun r k h => (hO3 r k h).2
  have a3 : W3.1 4 0 = N3.1 50 13 := (congrArg (fun q => q.1) hv3).trans hb3
  have b3 : W3.1 4 1 = N3.1 50 14 := (congrArg (fun q => q.2.1) hv3).trans hh3
  have d3 : W3.2.1 4 3 = N3.2.1 50 17 := (congrArg (fun q => q.2.2.2) hv3).trans hf3
  have p3 : W3.1 4 2 = N3.1 50 15 := (congrArg (fun q => q.2.2.1) hv3).trans hq3
  clear hO3
  have h1 : u1 < 4 := by omega
  have h2 : u2 < 4 := by omega
  have h3 : u3 < 4 := by omega
  have et := R.pt t ht
  have eu1 := R.pt u1 h1
  have eu2 := R.pt u2 h2
  have eu3 := R.pt u3 h3
  have est := R.st
  have ebt := R.bt
  unfold wa111 aq111
  unfold rcW at *
  simp (disch := first | decide | exact ad_ne (by decide) | exact ad_m (by decide) | exact ad_l (by decide) | exact ad_g (by decide) | exact ad_lt (by decide) | exact ad_o (by decide) | omega) only [↓ui_s, ↓uj_s, ↓ui_o, ↓ui_k, ↓uj_o, ↓uj_k, ↓ui_j, ↓uj_i, ↓o1, ↓j1, ↓o2, ↓j2, ↓o3, ↓j3, ui_s, uj_s, ui_o, ui_k, uj_o, uj_k, ui_j, uj_i, o1, j1, o2, j2, o3, j3]
  first | done | with_reducible rfl | (simp only [et, eu1, eu2, eu3, hb1, hh1, hf1, hq1, a1, b1, d1, p1, hb2, hh2, hf2, hq2, a2, b2, d2, p2, hb3, hh3, hf3, hq3, a3, b3, d3, p3, hc, est, ebt, Int32.zero_add, Int32.add_zero, Int32.zero_mul, Int32.mul_zero]; first | done | with_reducible rfl | (rw [Int32.mul_comm (m.1 50 43)]; first | done | ac_rfl)) | rfl
theorem rc_aw111_wi01 {x m W1 W2 W3 N1 N2 N3 : zM} {v1 v2 v3 : Q4} (R : RCl x m) {t dl c u1 u2 u3 : Nat} (ht : t < 4) (hu1 : (t + 1) % 4 = u1) (hu2 : (t + 2) % 4 = u2) (hu3 : (t + 3) % 4 = u3) (hc : x.1 0 15 = nI c) (hO1 : WOj (x) W1) (hv1 : bqJ W1 = v1) (hb1 : v1.1 = N1.1 50 13) (hh1 : v1.2.1 = N1.1 50 14) (hf1 : v1.2.2.2 = N1.2.1 50 17) (hq1 : v1.2.2.1 = N1.1 50 15) (hO2 : WOj (z_ui (rcW (z_ui (z_ui W1 (18 + 8 * t) 4 ((x.1 (18 + 8 * t) 4) - ((hnd (v1.1 * (bif decide ((nI u1) = (nI dl)) then (6 : Int32) else 4))) + (300 * (x.1 0 11))))) (18 + 8 * u1) 4 ((x.1 (18 + 8 * u1) 4) + (((hnd (v1.1 * (bif decide ((nI u1) = (nI dl)) then (6 : Int32) else 4))) + (300 * (x.1 0 11))) + ((x.1 0 12) * 1000)))) 0 (nI u1) (nI t) (((hnd (v1.1 * (bif decide ((nI u1) = (nI dl)) then (6 : Int32) else 4))) + (300 * (x.1 0 11))) + ((x.1 0 12) * 1000))) 0 12 0) W2) (hv2 : bqJ W2 = v2) (hb2 : v2.1 = N2.1 50 13) (hh2 : v2.2.1 = N2.1 50 14) (hf2 : v2.2.2.2 = N2.2.1 50 17) (hq2 : v2.2.2.1 = N2.1 50 15) (hO3 : WOj (z_ui (rcW (z_ui (z_ui W2 (18 + 8 * t) 4 (((x.1 (18 + 8 * t) 4) - ((hnd (v1.1 * (bif decide ((nI u1) = (nI dl)) then (6 : Int32) else 4))) + (300 * (x.1 0 11)))) - ((hnd (v2.1 * (bif decide ((nI u2) = (nI dl)) then (6 : Int32) else 4))) + 0))) (18 + 8 * u2) 4 ((x.1 (18 + 8 * u2) 4) + (((hnd (v2.1 * (bif decide ((nI u2) = (nI dl)) then (6 : Int32) else 4))) + 0) + 0))) 1 (nI u2) (nI t) (((hnd (v2.1 * (bif decide ((nI u2) = (nI dl)) then (6 : Int32) else 4))) + 0) + 0)) 0 12 0) W3) (hv3 : bqJ W3 = v3) (hb3 : v3.1 = N3.1 50 13) (hh3 : v3.2.1 = N3.1 50 14) (hf3 : v3.2.2.2 = N3.2.1 50 17) (hq3 : v3.2.2.1 = N3.1 50 15) : (wa111 W3 t dl u1 u2 u3 v1 v2 v3 x).1 (25 + 8 * 0) 1 = (aq111 m N1 N2 N3 t dl c u1 u2 u3).1 72 (7 * 0 + 1) := by
  have o1 := fun r k h => (hO1 r k h).1
  have j1 := fun r k h => (hO1 r k h).2
  have a1 : W1.1 4 0 = N1.1 50 13 := (congrArg (fun q => q.1) hv1).trans hb1
  have b1 : W1.1 4 1 = N1.1 50 14 := (congrArg (fun q => q.2.1) hv1).trans hh1
  have d1 : W1.2.1 4 3 = N1.2.1 50 17 := (congrArg (fun q => q.2.2.2) hv1).trans hf1
  have p1 : W1.1 4 2 = N1.1 50 15 := (congrArg (fun q => q.2.2.1) hv1).trans hq1
  clear hO1
  have o2 := fun r k h => (hO2 r k h).1
  have j2 := fun r k h => (hO2 r k h).2
  have a2 : W2.1 4 0 = N2.1 50 13 := (congrArg (fun q => q.1) hv2).trans hb2
  have b2 : W2.1 4 1 = N2.1 50 14 := (congrArg (fun q => q.2.1) hv2).trans hh2
  have d2 : W2.2.1 4 3 = N2.2.1 50 17 := (congrArg (fun q => q.2.2.2) hv2).trans hf2
  have p2 : W2.1 4 2 = N2.1 50 15 := (congrArg (fun q => q.2.2.1) hv2).trans hq2
  clear hO2
  have o3 := fun r k h => (hO3 r k h).1
  have j3 := fun r k h => (hO3 r k h).2
  have a3 : W3.1 4 0 = N3.1 50 13 := (congrArg (fun q => q.1) hv3).trans hb3
  have b3 : W3.1 4 1 = N3.1 50 14 := (congrArg (fun q => q.2.1) hv3).trans hh3
  have d3 : W3.2.1 4 3 = N3.2.1 50 17 := (congrArg (fun q => q.2.2.2) hv3).trans hf3
  have p3 : W3.1 4 2 = N3.1 50 15 := (congrArg (fun q => q.2.2.1) hv3).trans hq3
  clear hO3
  have h1 : u1 < 4 := by omega
  have h2 : u2 < 4 := by omega
  have h3 : u3 < 4 := by omega
  have et := R.pt t ht
  have eu1 := R.pt u1 h1
  have eu2 := R.pt u2 h2
  have eu3 := R.pt u3 h3
  have est := R.st
  have ebt := R.bt
  unfold wa111 aq111
  unfold rcW at *
  simp (disch := first | decide | exact ad_ne (by decide) | exact ad_m (by decide) | exact ad_l (by decide) | exact ad_g (by decide) | exact ad_lt (by decide) | exact ad_o (by decide) | omega) only [↓ui_s, ↓uj_s, ↓ui_o, ↓ui_k, ↓uj_o, ↓uj_k, ↓ui_j, ↓uj_i, ↓o1, ↓j1, ↓o2, ↓j2, ↓o3, ↓j3, ui_s, uj_s, ui_o, ui_k, uj_o, uj_k, ui_j, uj_i, o1, j1, o2, j2, o3, j3]
  first | done | with_reducible rfl | (simp only [et, eu1, eu2, eu3, hb1, hh1, hf1, hq1, a1, b1, d1, p1, hb2, hh2, hf2, hq2, a2, b2, d2, p2, hb3, hh3, hf3, hq3, a3, b3, d3, p3, hc, est, ebt, Int32.zero_add, Int32.add_zero, Int32.zero_mul, Int32.mul_zero]; first | done | with_reducible rfl | (rw [Int32.mul_comm (m.1 50 43)]; first | done | ac_rfl)) | rfl
theorem rc_aw111_wi02 {x m W1 W2 W3 N1 N2 N3 : zM} {v1 v2 v3 : Q4} (R : RCl x m) {t dl c u1 u2 u3 : Nat} (ht : t < 4) (hu1 : (t + 1) % 4 = u1) (hu2 : (t + 2) % 4 = u2) (hu3 : (t + 3) % 4 = u3) (hc : x.1 0 15 = nI c) (hO1 : WOj (x) W1) (hv1 : bqJ W1 = v1) (hb1 : v1.1 = N1.1 50 13) (hh1 : v1.2.1 = N1.1 50 14) (hf1 : v1.2.2.2 = N1.2.1 50 17) (hq1 : v1.2.2.1 = N1.1 50 15) (hO2 : WOj (z_ui (rcW (z_ui (z_ui W1 (18 + 8 * t) 4 ((x.1 (18 + 8 * t) 4) - ((hnd (v1.1 * (bif decide ((nI u1) = (nI dl)) then (6 : Int32) else 4))) + (300 * (x.1 0 11))))) (18 + 8 * u1) 4 ((x.1 (18 + 8 * u1) 4) + (((hnd (v1.1 * (bif decide ((nI u1) = (nI dl)) then (6 : Int32) else 4))) + (300 * (x.1 0 11))) + ((x.1 0 12) * 1000)))) 0 (nI u1) (nI t) (((hnd (v1.1 * (bif decide ((nI u1) = (nI dl)) then (6 : Int32) else 4))) + (300 * (x.1 0 11))) + ((x.1 0 12) * 1000))) 0 12 0) W2) (hv2 : bqJ W2 = v2) (hb2 : v2.1 = N2.1 50 13) (hh2 : v2.2.1 = N2.1 50 14) (hf2 : v2.2.2.2 = N2.2.1 50 17) (hq2 : v2.2.2.1 = N2.1 50 15) (hO3 : WOj (z_ui (rcW (z_ui (z_ui W2 (18 + 8 * t) 4 (((x.1 (18 + 8 * t) 4) - ((hnd (v1.1 * (bif decide ((nI u1) = (nI dl)) then (6 : Int32) else 4))) + (300 * (x.1 0 11)))) - ((hnd (v2.1 * (bif decide ((nI u2) = (nI dl)) then (6 : Int32) else 4))) + 0))) (18 + 8 * u2) 4 ((x.1 (18 + 8 * u2) 4) + (((hnd (v2.1 * (bif decide ((nI u2) = (nI dl)) then (6 : Int32) else 4))) + 0) + 0))) 1 (nI u2) (nI t) (((hnd (v2.1 * (bif decide ((nI u2) = (nI dl)) then (6 : Int32) else 4))) + 0) + 0)) 0 12 0) W3) (hv3 : bqJ W3 = v3) (hb3 : v3.1 = N3.1 50 13) (hh3 : v3.2.1 = N3.1 50 14) (hf3 : v3.2.2.2 = N3.2.1 50 17) (hq3 : v3.2.2.1 = N3.1 50 15) : (wa111 W3 t dl u1 u2 u3 v1 v2 v3 x).1 (25 + 8 * 0) 2 = (aq111 m N1 N2 N3 t dl c u1 u2 u3).1 72 (7 * 0 + 2) := by
  have o1 := fun r k h => (hO1 r k h).1
  have j1 := fun r k h => (hO1 r k h).2
  have a1 : W1.1 4 0 = N1.1 50 13 := (congrArg (fun q => q.1) hv1).trans hb1
  have b1 : W1.1 4 1 = N1.1 50 14 := (congrArg (fun q => q.2.1) hv1).trans hh1
  have d1 : W1.2.1 4 3 = N1.2.1 50 17 := (congrArg (fun q => q.2.2.2) hv1).trans hf1
  have p1 : W1.1 4 2 = N1.1 50 15 := (congrArg (fun q => q.2.2.1) hv1).trans hq1
  clear hO1
  have o2 := fun r k h => (hO2 r k h).1
  have j2 := fun r k h => (hO2 r k h).2
  have a2 : W2.1 4 0 = N2.1 50 13 := (congrArg (fun q => q.1) hv2).trans hb2
  have b2 : W2.1 4 1 = N2.1 50 14 := (congrArg (fun q => q.2.1) hv2).trans hh2
  have d2 : W2.2.1 4 3 = N2.2.1 50 17 := (congrArg (fun q => q.2.2.2) hv2).trans hf2
  have p2 : W2.1 4 2 = N2.1 50 15 := (congrArg (fun q => q.2.2.1) hv2).trans hq2
  clear hO2
  have o3 := fun r k h => (hO3 r k h).1
  have j3 := fun r k h => (hO3 r k h).2
  have a3 : W3.1 4 0 = N3.1 50 13 := (congrArg (fun q => q.1) hv3).trans hb3
  have b3 : W3.1 4 1 = N3.1 50 14 := (congrArg (fun q => q.2.1) hv3).trans hh3
  have d3 : W3.2.1 4 3 = N3.2.1 50 17 := (congrArg (fun q => q.2.2.2) hv3).trans hf3
  have p3 : W3.1 4 2 = N3.1 50 15 := (congrArg (fun q => q.2.2.1) hv3).trans hq3
  clear hO3
  have h1 : u1 < 4 := by omega
  have h2 : u2 < 4 := by omega
  have h3 : u3 < 4 := by omega
  have et := R.pt t ht
  have eu1 := R.pt u1 h1
  have eu2 := R.pt u2 h2
  have eu3 := R.pt u3 h3
  have est := R.st
  have ebt := R.bt
  unfold wa111 aq111
  unfold rcW at *
  simp (disch := first | decide | exact ad_ne (by decide) | exact ad_m (by decide) | exact ad_l (by decide) | exact ad_g (by decide) | exact ad_lt (by decide) | exact ad_o (by decide) | omega) only [↓ui_s, ↓uj_s, ↓ui_o, ↓ui_k, ↓uj_o, ↓uj_k, ↓ui_j, ↓uj_i, ↓o1, ↓j1, ↓o2, ↓j2, ↓o3, ↓j3, ui_s, uj_s, ui_o, ui_k, uj_o, uj_k, ui_j, uj_i, o1, j1, o2, j2, o3, j3]
  first | done | with_reducible rfl | (simp only [et, eu1, eu2, eu3, hb1, hh1, hf1, hq1, a1, b1, d1, p1, hb2, hh2, hf2, hq2, a2, b2, d2, p2, hb3, hh3, hf3, hq3, a3, b3, d3, p3, hc, est, ebt, Int32.zero_add, Int32.add_zero, Int32.zero_mul, Int32.mul_zero]; first | done | with_reducible rfl | (rw [Int32.mul_comm (m.1 50 43)]; first | done | ac_rfl)) | rfl
theorem rc_aw111_wi03 {x m W1 W2 W3 N1 N2 N3 : zM} {v1 v2 v3 : Q4} (R : RCl x m) {t dl c u1 u2 u3 : Nat} (ht : t < 4) (hu1 : (t + 1) % 4 = u1) (hu2 : (t + 2) % 4 = u2) (hu3 : (t + 3) % 4 = u3) (hc : x.1 0 15 = nI c) (hO1 : WOj (x) W1) (hv1 : bqJ W1 = v1) (hb1 : v1.1 = N1.1 50 13) (hh1 : v1.2.1 = N1.1 50 14) (hf1 : v1.2.2.2 = N1.2.1 50 17) (hq1 : v1.2.2.1 = N1.1 50 15) (hO2 : WOj (z_ui (rcW (z_ui (z_ui W1 (18 + 8 * t) 4 ((x.1 (18 + 8 * t) 4) - ((hnd (v1.1 * (bif decide ((nI u1) = (nI dl)) then (6 : Int32) else 4))) + (300 * (x.1 0 11))))) (18 + 8 * u1) 4 ((x.1 (18 + 8 * u1) 4) + (((hnd (v1.1 * (bif decide ((nI u1) = (nI dl)) then (6 : Int32) else 4))) + (300 * (x.1 0 11))) + ((x.1 0 12) * 1000)))) 0 (nI u1) (nI t) (((hnd (v1.1 * (bif decide ((nI u1) = (nI dl)) then (6 : Int32) else 4))) + (300 * (x.1 0 11))) + ((x.1 0 12) * 1000))) 0 12 0) W2) (hv2 : bqJ W2 = v2) (hb2 : v2.1 = N2.1 50 13) (hh2 : v2.2.1 = N2.1 50 14) (hf2 : v2.2.2.2 = N2.2.1 50 17) (hq2 : v2.2.2.1 = N2.1 50 15) (hO3 : WOj (z_ui (rcW (z_ui (z_ui W2 (18 + 8 * t) 4 (((x.1 (18 + 8 * t) 4) - ((hnd (v1.1 * (bif decide ((nI u1) = (nI dl)) then (6 : Int32) else 4))) + (300 * (x.1 0 11)))) - ((hnd (v2.1 * (bif decide ((nI u2) = (nI dl)) then (6 : Int32) else 4))) + 0))) (18 + 8 * u2) 4 ((x.1 (18 + 8 * u2) 4) + (((hnd (v2.1 * (bif decide ((nI u2) = (nI dl)) then (6 : Int32) else 4))) + 0) + 0))) 1 (nI u2) (nI t) (((hnd (v2.1 * (bif decide ((nI u2) = (nI dl)) then (6 : Int32) else 4))) + 0) + 0)) 0 12 0) W3) (hv3 : bqJ W3 = v3) (hb3 : v3.1 = N3.1 50 13) (hh3 : v3.2.1 = N3.1 50 14) (hf3 : v3.2.2.2 = N3.2.1 50 17) (hq3 : v3.2.2.1 = N3.1 50 15) : (wa111 W3 t dl u1 u2 u3 v1 v2 v3 x).1 (25 + 8 * 0) 3 = (aq111 m N1 N2 N3 t dl c u1 u2 u3).1 72 (7 * 0 + 3) := by
  have o1 := fun r k h => (hO1 r k h).1
  have j1 := fun r k h => (hO1 r k h).2
  have a1 : W1.1 4 0 = N1.1 50 13 := (congrArg (fun q => q.1) hv1).trans hb1
  have b1 : W1.1 4 1 = N1.1 50 14 := (congrArg (fun q => q.2.1) hv1).trans hh1
  have d1 : W1.2.1 4 3 = N1.2.1 50 17 := (congrArg (fun q => q.2.2.2) hv1).trans hf1
  have p1 : W1.1 4 2 = N1.1 50 15 := (congrArg (fun q => q.2.2.1) hv1).trans hq1
  clear hO1
  have o2 := fun r k h => (hO2 r k h).1
  have j2 := fun r k h => (hO2 r k h).2
  have a2 : W2.1 4 0 = N2.1 50 13 := (congrArg (fun q => q.1) hv2).trans hb2
  have b2 : W2.1 4 1 = N2.1 50 14 := (congrArg (fun q => q.2.1) hv2).trans hh2
  have d2 : W2.2.1 4 3 = N2.2.1 50 17 := (congrArg (fun q => q.2.2.2) hv2).trans hf2
  have p2 : W2.1 4 2 = N2.1 50 15 := (congrArg (fun q => q.2.2.1) hv2).trans hq2
  clear hO2
  have o3 := fun r k h => (hO3 r k h).1
  have j3 := fun r k h => (hO3 r k h).2
  have a3 : W3.1 4 0 = N3.1 50 13 := (congrArg (fun q => q.1) hv3).trans hb3
  have b3 : W3.1 4 1 = N3.1 50 14 := (congrArg (fun q => q.2.1) hv3).trans hh3
  have d3 : W3.2.1 4 3 = N3.2.1 50 17 := (congrArg (fun q => q.2.2.2) hv3).trans hf3
  have p3 : W3.1 4 2 = N3.1 50 15 := (congrArg (fun q => q.2.2.1) hv3).trans hq3
  clear hO3
  have h1 : u1 < 4 := by omega
  have h2 : u2 < 4 := by omega
  have h3 : u3 < 4 := by omega
  have et := R.pt t ht
  have eu1 := R.pt u1 h1
  have eu2 := R.pt u2 h2
  have eu3 := R.pt u3 h3
  have est := R.st
  have ebt := R.bt
  unfold wa111 aq111
  unfold rcW at *
  simp (disch := first | decide | exact ad_ne (by decide) | exact ad_m (by decide) | exact ad_l (by decide) | exact ad_g (by decide) | exact ad_lt (by decide) | exact ad_o (by decide) | omega) only [↓ui_s, ↓uj_s, ↓ui_o, ↓ui_k, ↓uj_o, ↓uj_k, ↓ui_j, ↓uj_i, ↓o1, ↓j1, ↓o2, ↓j2, ↓o3, ↓j3, ui_s, uj_s, ui_o, ui_k, uj_o, uj_k, ui_j, uj_i, o1, j1, o2, j2, o3, j3]
  first | done | with_reducible rfl | (simp only [et, eu1, eu2, eu3, hb1, hh1, hf1, hq1, a1, b1, d1, p1, hb2, hh2, hf2, hq2, a2, b2, d2, p2, hb3, hh3, hf3, hq3, a3, b3, d3, p3, hc, est, ebt, Int32.zero_add, Int32.add_zero, Int32.zero_mul, Int32.mul_zero]; first | done | with_reducible rfl | (rw [Int32.mul_comm (m.1 50 43)]; first | done | ac_rfl)) | rfl
theorem rc_aw111_wi04 {x m W1 W2 W3 N1 N2 N3 : zM} {v1 v2 v3 : Q4} (R : RCl x m) {t dl c u1 u2 u3 : Nat} (ht : t < 4) (hu1 : (t + 1) % 4 = u1) (hu2 : (t + 2) % 4 = u2) (hu3 : (t + 3) % 4 = u3) (hc : x.1 0 15 = nI c) (hO1 : WOj (x) W1) (hv1 : bqJ W1 = v1) (hb1 : v1.1 = N1.1 50 13) (hh1 : v1.2.1 = N1.1 50 14) (hf1 : v1.2.2.2 = N1.2.1 50 17) (hq1 : v1.2.2.1 = N1.1 50 15) (hO2 : WOj (z_ui (rcW (z_ui (z_ui W1 (18 + 8 * t) 4 ((x.1 (18 + 8 * t) 4) - ((hnd (v1.1 * (bif decide ((nI u1) = (nI dl)) then (6 : Int32) else 4))) + (300 * (x.1 0 11))))) (18 + 8 * u1) 4 ((x.1 (18 + 8 * u1) 4) + (((hnd (v1.1 * (bif decide ((nI u1) = (nI dl)) then (6 : Int32) else 4))) + (300 * (x.1 0 11))) + ((x.1 0 12) * 1000)))) 0 (nI u1) (nI t) (((hnd (v1.1 * (bif decide ((nI u1) = (nI dl)) then (6 : Int32) else 4))) + (300 * (x.1 0 11))) + ((x.1 0 12) * 1000))) 0 12 0) W2) (hv2 : bqJ W2 = v2) (hb2 : v2.1 = N2.1 50 13) (hh2 : v2.2.1 = N2.1 50 14) (hf2 : v2.2.2.2 = N2.2.1 50 17) (hq2 : v2.2.2.1 = N2.1 50 15) (hO3 : WOj (z_ui (rcW (z_ui (z_ui W2 (18 + 8 * t) 4 (((x.1 (18 + 8 * t) 4) - ((hnd (v1.1 * (bif decide ((nI u1) = (nI dl)) then (6 : Int32) else 4))) + (300 * (x.1 0 11)))) - ((hnd (v2.1 * (bif decide ((nI u2) = (nI dl)) then (6 : Int32) else 4))) + 0))) (18 + 8 * u2) 4 ((x.1 (18 + 8 * u2) 4) + (((hnd (v2.1 * (bif decide ((nI u2) = (nI dl)) then (6 : Int32) else 4))) + 0) + 0))) 1 (nI u2) (nI t) (((hnd (v2.1 * (bif decide ((nI u2) = (nI dl)) then (6 : Int32) else 4))) + 0) + 0)) 0 12 0) W3) (hv3 : bqJ W3 = v3) (hb3 : v3.1 = N3.1 50 13) (hh3 : v3.2.1 = N3.1 50 14) (hf3 : v3.2.2.2 = N3.2.1 50 17) (hq3 : v3.2.2.1 = N3.1 50 15) : (wa111 W3 t dl u1 u2 u3 v1 v2 v3 x).1 (25 + 8 * 0) 4 = (aq111 m N1 N2 N3 t dl c u1 u2 u3).1 72 (7 * 0 + 4) := by
  have o1 := fun r k h => (hO1 r k h).1
  have j1 := fun r k h => (hO1 r k h).2
  have a1 : W1.1 4 0 = N1.1 50 13 := (congrArg (fun q => q.1) hv1).trans hb1
  have b1 : W1.1 4 1 = N1.1 50 14 := (congrArg (fun q => q.2.1) hv1).trans hh1
  have d1 : W1.2.1 4 3 = N1.2.1 50 17 := (congrArg (fun q => q.2.2.2) hv1).trans hf1
  have p1 : W1.1 4 2 = N1.1 50 15 := (congrArg (fun q => q.2.2.1) hv1).trans hq1
  clear hO1
  have o2 := fun r k h => (hO2 r k h).1
  have j2 := fun r k h => (hO2 r k h).2
  have a2 : W2.1 4 0 = N2.1 50 13 := (congrArg (fun q => q.1) hv2).trans hb2
  have b2 : W2.1 4 1 = N2.1 50 14 := (congrArg (fun q => q.2.1) hv2).trans hh2
  have d2 : W2.2.1 4 3 = N2.2.1 50 17 := (congrArg (fun q => q.2.2.2) hv2).trans hf2
  have p2 : W2.1 4 2 = N2.1 50 15 := (congrArg (fun q => q.2.2.1) hv2).trans hq2
  clear hO2
  have o3 := fun r k h => (hO3 r k h).1
  have j3 := fun r k h => (hO3 r k h).2
  have a3 : W3.1 4 0 = N3.1 50 13 := (congrArg (fun q => q.1) hv3).trans hb3
  have b3 : W3.1 4 1 = N3.1 50 14 := (congrArg (fun q => q.2.1) hv3).trans hh3
  have d3 : W3.2.1 4 3 = N3.2.1 50 17 := (congrArg (fun q => q.2.2.2) hv3).trans hf3
  have p3 : W3.1 4 2 = N3.1 50 15 := (congrArg (fun q => q.2.2.1) hv3).trans hq3
  clear hO3
  have h1 : u1 < 4 := by omega
  have h2 : u2 < 4 := by omega
  have h3 : u3 < 4 := by omega
  have et := R.pt t ht
  have eu1 := R.pt u1 h1
  have eu2 := R.pt u2 h2
  have eu3 := R.pt u3 h3
  have est := R.st
  have ebt := R.bt
  unfold wa111 aq111
  unfold rcW at *
  simp (disch := first | decide | exact ad_ne (by decide) | exact ad_m (by decide) | exact ad_l (by decide) | exact ad_g (by decide) | exact ad_lt (by decide) | exact ad_o (by decide) | omega) only [↓ui_s, ↓uj_s, ↓ui_o, ↓ui_k, ↓uj_o, ↓uj_k, ↓ui_j, ↓uj_i, ↓o1, ↓j1, ↓o2, ↓j2, ↓o3, ↓j3, ui_s, uj_s, ui_o, ui_k, uj_o, uj_k, ui_j, uj_i, o1, j1, o2, j2, o3, j3]
  first | done | with_reducible rfl | (simp only [et, eu1, eu2, eu3, hb1, hh1, hf1, hq1, a1, b1, d1, p1, hb2, hh2, hf2, hq2, a2, b2, d2, p2, hb3, hh3, hf3, hq3, a3, b3, d3, p3, hc, est, ebt, Int32.zero_add, Int32.add_zero, Int32.zero_mul, Int32.mul_zero]; first | done | with_reducible rfl | (rw [Int32.mul_comm (m.1 50 43)]; first | done | ac_rfl)) | rfl
theorem rc_aw111_wi05 {x m W1 W2 W3 N1 N2 N3 : zM} {v1 v2 v3 : Q4} (R : RCl x m) {t dl c u1 u2 u3 : Nat} (ht : t < 4) (hu1 : (t + 1) % 4 = u1) (hu2 : (t + 2) % 4 = u2) (hu3 : (t + 3) % 4 = u3) (hc : x.1 0 15 = nI c) (hO1 : WOj (x) W1) (hv1 : bqJ W1 = v1) (hb1 : v1.1 = N1.1 50 13) (hh1 : v1.2.1 = N1.1 50 14) (hf1 : v1.2.2.2 = N1.2.1 50 17) (hq1 : v1.2.2.1 = N1.1 50 15) (hO2 : WOj (z_ui (rcW (z_ui (z_ui W1 (18 + 8 * t) 4 ((x.1 (18 + 8 * t) 4) - ((hnd (v1.1 * (bif decide ((nI u1) = (nI dl)) then (6 : Int32) else 4))) + (300 * (x.1 0 11))))) (18 + 8 * u1) 4 ((x.1 (18 + 8 * u1) 4) + (((hnd (v1.1 * (bif decide ((nI u1) = (nI dl)) then (6 : Int32) else 4))) + (300 * (x.1 0 11))) + ((x.1 0 12) * 1000)))) 0 (nI u1) (nI t) (((hnd (v1.1 * (bif decide ((nI u1) = (nI dl)) then (6 : Int32) else 4))) + (300 * (x.1 0 11))) + ((x.1 0 12) * 1000))) 0 12 0) W2) (hv2 : bqJ W2 = v2) (hb2 : v2.1 = N2.1 50 13) (hh2 : v2.2.1 = N2.1 50 14) (hf2 : v2.2.2.2 = N2.2.1 50 17) (hq2 : v2.2.2.1 = N2.1 50 15) (hO3 : WOj (z_ui (rcW (z_ui (z_ui W2 (18 + 8 * t) 4 (((x.1 (18 + 8 * t) 4) - ((hnd (v1.1 * (bif decide ((nI u1) = (nI dl)) then (6 : Int32) else 4))) + (300 * (x.1 0 11)))) - ((hnd (v2.1 * (bif decide ((nI u2) = (nI dl)) then (6 : Int32) else 4))) + 0))) (18 + 8 * u2) 4 ((x.1 (18 + 8 * u2) 4) + (((hnd (v2.1 * (bif decide ((nI u2) = (nI dl)) then (6 : Int32) else 4))) + 0) + 0))) 1 (nI u2) (nI t) (((hnd (v2.1 * (bif decide ((nI u2) = (nI dl)) then (6 : Int32) else 4))) + 0) + 0)) 0 12 0) W3) (hv3 : bqJ W3 = v3) (hb3 : v3.1 = N3.1 50 13) (hh3 : v3.2.1 = N3.1 50 14) (hf3 : v3.2.2.2 = N3.2.1 50 17) (hq3 : v3.2.2.1 = N3.1 50 15) : (wa111 W3 t dl u1 u2 u3 v1 v2 v3 x).1 (25 + 8 * 0) 5 = (aq111 m N1 N2 N3 t dl c u1 u2 u3).1 72 (7 * 0 + 5) := by
  have o1 := fun r k h => (hO1 r k h).1
  have j1 := fun r k h => (hO1 r k h).2
  have a1 : W1.1 4 0 = N1.1 50 13 := (congrArg (fun q => q.1) hv1).trans hb1
  have b1 : W1.1 4 1 = N1.1 50 14 := (congrArg (fun q => q.2.1) hv1).trans hh1
  have d1 : W1.2.1 4 3 = N1.2.1 50 17 := (congrArg (fun q => q.2.2.2) hv1).trans hf1
  have p1 : W1.1 4 2 = N1.1 50 15 := (congrArg (fun q => q.2.2.1) hv1).trans hq1
  clear hO1
  have o2 := fun r k h => (hO2 r k h).1
  have j2 := fun r k h => (hO2 r k h).2
  have a2 : W2.1 4 0 = N2.1 50 13 := (congrArg (fun q => q.1) hv2).trans hb2
  have b2 : W2.1 4 1 = N2.1 50 14 := (congrArg (fun q => q.2.1) hv2).trans hh2
  have d2 : W2.2.1 4 3 = N2.2.1 50 17 := (congrArg (fun q => q.2.2.2) hv2).trans hf2
  have p2 : W2.1 4 2 = N2.1 50 15 := (congrArg (fun q => q.2.2.1) hv2).trans hq2
  clear hO2
  have o3 := fun r k h => (hO3 r k h).1
  have j3 := fun r k h => (hO3 r k h).2
  have a3 : W3.1 4 0 = N3.1 50 13 := (congrArg (fun q => q.1) hv3).trans hb3
  have b3 : W3.1 4 1 = N3.1 50 14 := (congrArg (fun q => q.2.1) hv3).trans hh3
  have d3 : W3.2.1 4 3 = N3.2.1 50 17 := (congrArg (fun q => q.2.2.2) hv3).trans hf3
  have p3 : W3.1 4 2 = N3.1 50 15 := (congrArg (fun q => q.2.2.1) hv3).trans hq3
  clear hO3
  have h1 : u1 < 4 := by omega
  have h2 : u2 < 4 := by omega
  have h3 : u3 < 4 := by omega
  have et := R.pt t ht
  have eu1 := R.pt u1 h1
  have eu2 := R.pt u2 h2
  have eu3 := R.pt u3 h3
  have est := R.st
  have ebt := R.bt
  unfold wa111 aq111
  unfold rcW at *
  simp (disch := first | decide | exact ad_ne (by decide) | exact ad_m (by decide) | exact ad_l (by decide) | exact ad_g (by decide) | exact ad_lt (by decide) | exact ad_o (by decide) | omega) only [↓ui_s, ↓uj_s, ↓ui_o, ↓ui_k, ↓uj_o, ↓uj_k, ↓ui_j, ↓uj_i, ↓o1, ↓j1, ↓o2, ↓j2, ↓o3, ↓j3, ui_s, uj_s, ui_o, ui_k, uj_o, uj_k, ui_j, uj_i, o1, j1, o2, j2, o3, j3]
  first | done | with_reducible rfl | (simp only [et, eu1, eu2, eu3, hb1, hh1, hf1, hq1, a1, b1, d1, p1, hb2, hh2, hf2, hq2, a2, b2, d2, p2, hb3, hh3, hf3, hq3, a3, b3, d3, p3, hc, est, ebt, Int32.zero_add, Int32.add_zero, Int32.zero_mul, Int32.mul_zero]; first | done | with_reducible rfl | (rw [Int32.mul_comm (m.1 50 43)]; first | done | ac_rfl)) | rfl
theorem rc_aw111_wi06 {x m W1 W2 W3 N1 N2 N3 : zM} {v1 v2 v3 : Q4} (R : RCl x m) {t dl c u1 u2 u3 : Nat} (ht : t < 4) (hu1 : (t + 1) % 4 = u1) (hu2 : (t + 2) % 4 = u2) (hu3 : (t + 3) % 4 = u3) (hc : x.1 0 15 = nI c) (hO1 : WOj (x) W1) (hv1 : bqJ W1 = v1) (hb1 : v1.1 = N1.1 50 13) (hh1 : v1.2.1 = N1.1 50 14) (hf1 : v1.2.2.2 = N1.2.1 50 17) (hq1 : v1.2.2.1 = N1.1 50 15) (hO2 : WOj (z_ui (rcW (z_ui (z_ui W1 (18 + 8 * t) 4 ((x.1 (18 + 8 * t) 4) - ((hnd (v1.1 * (bif decide ((nI u1) = (nI dl)) then (6 : Int32) else 4))) + (300 * (x.1 0 11))))) (18 + 8 * u1) 4 ((x.1 (18 + 8 * u1) 4) + (((hnd (v1.1 * (bif decide ((nI u1) = (nI dl)) then (6 : Int32) else 4))) + (300 * (x.1 0 11))) + ((x.1 0 12) * 1000)))) 0 (nI u1) (nI t) (((hnd (v1.1 * (bif decide ((nI u1) = (nI dl)) then (6 : Int32) else 4))) + (300 * (x.1 0 11))) + ((x.1 0 12) * 1000))) 0 12 0) W2) (hv2 : bqJ W2 = v2) (hb2 : v2.1 = N2.1 50 13) (hh2 : v2.2.1 = N2.1 50 14) (hf2 : v2.2.2.2 = N2.2.1 50 17) (hq2 : v2.2.2.1 = N2.1 50 15) (hO3 : WOj (z_ui (rcW (z_ui (z_ui W2 (18 + 8 * t) 4 (((x.1 (18 + 8 * t) 4) - ((hnd (v1.1 * (bif decide ((nI u1) = (nI dl)) then (6 : Int32) else 4))) + (300 * (x.1 0 11)))) - ((hnd (v2.1 * (bif decide ((nI u2) = (nI dl)) then (6 : Int32) else 4))) + 0))) (18 + 8 * u2) 4 ((x.1 (18 + 8 * u2) 4) + (((hnd (v2.1 * (bif decide ((nI u2) = (nI dl)) then (6 : Int32) else 4))) + 0) + 0))) 1 (nI u2) (nI t) (((hnd (v2.1 * (bif decide ((nI u2) = (nI dl)) then (6 : Int32) else 4))) + 0) + 0)) 0 12 0) W3) (hv3 : bqJ W3 = v3) (hb3 : v3.1 = N3.1 50 13) (hh3 : v3.2.1 = N3.1 50 14) (hf3 : v3.2.2.2 = N3.2.1 50 17) (hq3 : v3.2.2.1 = N3.1 50 15) : (wa111 W3 t dl u1 u2 u3 v1 v2 v3 x).1 (25 + 8 * 0) 6 = (aq111 m N1 N2 N3 t dl c u1 u2 u3).1 72 (7 * 0 + 6) := by
  have o1 := fun r k h => (hO1 r k h).1
  have j1 := fun r k h => (hO1 r k h).2
  have a1 : W1.1 4 0 = N1.1 50 13 := (congrArg (fun q => q.1) hv1).trans hb1
  have b1 : W1.1 4 1 = N1.1 50 14 := (congrArg (fun q => q.2.1) hv1).trans hh1
  have d1 : W1.2.1 4 3 = N1.2.1 50 17 := (congrArg (fun q => q.2.2.2) hv1).trans hf1
  have p1 : W1.1 4 2 = N1.1 50 15 := (congrArg (fun q => q.2.2.1) hv1).trans hq1
  clear hO1
  have o2 := fun r k h => (hO2 r k h).1
  have j2 := fun r k h => (hO2 r k h).2
  have a2 : W2.1 4 0 = N2.1 50 13 := (congrArg (fun q => q.1) hv2).trans hb2
  have b2 : W2.1 4 1 = N2.1 50 14 := (congrArg (fun q => q.2.1) hv2).trans hh2
  have d2 : W2.2.1 4 3 = N2.2.1 50 17 := (congrArg (fun q => q.2.2.2) hv2).trans hf2
  have p2 : W2.1 4 2 = N2.1 50 15 := (congrArg (fun q => q.2.2.1) hv2).trans hq2
  clear hO2
  have o3 := fun r k h => (hO3 r k h).1
  have j3 := fun r k h => (hO3 r k h).2
  have a3 : W3.1 4 0 = N3.1 50 13 := (congrArg (fun q => q.1) hv3).trans hb3
  have b3 : W3.1 4 1 = N3.1 50 14 := (congrArg (fun q => q.2.1) hv3).trans hh3
  have d3 : W3.2.1 4 3 = N3.2.1 50 17 := (congrArg (fun q => q.2.2.2) hv3).trans hf3
  have p3 : W3.1 4 2 = N3.1 50 15 := (congrArg (fun q => q.2.2.1) hv3).trans hq3
  clear hO3
  have h1 : u1 < 4 := by omega
  have h2 : u2 < 4 := by omega
  have h3 : u3 < 4 := by omega
  have et := R.pt t ht
  have eu1 := R.pt u1 h1
  have eu2 := R.pt u2 h2
  have eu3 := R.pt u3 h3
  have est := R.st
  have ebt := R.bt
  unfold wa111 aq111
  unfold rcW at *
  simp (disch := first | decide | exact ad_ne (by decide) | exact ad_m (by decide) | exact ad_l (by decide) | exact ad_g (by decide) | exact ad_lt (by decide) | exact ad_o (by decide) | omega) only [↓ui_s, ↓uj_s, ↓ui_o, ↓ui_k, ↓uj_o, ↓uj_k, ↓ui_j, ↓uj_i, ↓o1, ↓j1, ↓o2, ↓j2, ↓o3, ↓j3, ui_s, uj_s, ui_o, ui_k, uj_o, uj_k, ui_j, uj_i, o1, j1, o2, j2, o3, j3]
  first | done | with_reducible rfl | (simp only [et, eu1, eu2, eu3, hb1, hh1, hf1, hq1, a1, b1, d1, p1, hb2, hh2, hf2, hq2, a2, b2, d2, p2, hb3, hh3, hf3, hq3, a3, b3, d3, p3, hc, est, ebt, Int32.zero_add, Int32.add_zero, Int32.zero_mul, Int32.mul_zero]; first | done | with_reducible rfl | (rw [Int32.mul_comm (m.1 50 43)]; first | done | ac_rfl)) | rfl
theorem rc_aw111_wf0 {x m W1 W2 W3 N1 N2 N3 : zM} {v1 v2 v3 : Q4} (R : RCl x m) {t dl c u1 u2 u3 : Nat} (ht : t < 4) (hu1 : (t + 1) % 4 = u1) (hu2 : (t + 2) % 4 = u2) (hu3 : (t + 3) % 4 = u3) (hc : x.1 0 15 = nI c) (hO1 : WOj (x) W1) (hv1 : bqJ W1 = v1) (hb1 : v1.1 = N1.1 50 13) (hh1 : v1.2.1 = N1.1 50 14) (hf1 : v1.2.2.2 = N1.2.1 50 17) (hq1 : v1.2.2.1 = N1.1 50 15) (hO2 : WOj (z_ui (rcW (z_ui (z_ui W1 (18 + 8 * t) 4 ((x.1 (18 + 8 * t) 4) - ((hnd (v1.1 * (bif decide ((nI u1) = (nI dl)) then (6 : Int32) else 4))) + (300 * (x.1 0 11))))) (18 + 8 * u1) 4 ((x.1 (18 + 8 * u1) 4) + (((hnd (v1.1 * (bif decide ((nI u1) = (nI dl)) then (6 : Int32) else 4))) + (300 * (x.1 0 11))) + ((x.1 0 12) * 1000)))) 0 (nI u1) (nI t) (((hnd (v1.1 * (bif decide ((nI u1) = (nI dl)) then (6 : Int32) else 4))) + (300 * (x.1 0 11))) + ((x.1 0 12) * 1000))) 0 12 0) W2) (hv2 : bqJ W2 = v2) (hb2 : v2.1 = N2.1 50 13) (hh2 : v2.2.1 = N2.1 50 14) (hf2 : v2.2.2.2 = N2.2.1 50 17) (hq2 : v2.2.2.1 = N2.1 50 15) (hO3 : WOj (z_ui (rcW (z_ui (z_ui W2 (18 + 8 * t) 4 (((x.1 (18 + 8 * t) 4) - ((hnd (v1.1 * (bif decide ((nI u1) = (nI dl)) then (6 : Int32) else 4))) + (300 * (x.1 0 11)))) - ((hnd (v2.1 * (bif decide ((nI u2) = (nI dl)) then (6 : Int32) else 4))) + 0))) (18 + 8 * u2) 4 ((x.1 (18 + 8 * u2) 4) + (((hnd (v2.1 * (bif decide ((nI u2) = (nI dl)) then (6 : Int32) else 4))) + 0) + 0))) 1 (nI u2) (nI t) (((hnd (v2.1 * (bif decide ((nI u2) = (nI dl)) then (6 : Int32) else 4))) + 0) + 0)) 0 12 0) W3) (hv3 : bqJ W3 = v3) (hb3 : v3.1 = N3.1 50 13) (hh3 : v3.2.1 = N3.1 50 14) (hf3 : v3.2.2.2 = N3.2.1 50 17) (hq3 : v3.2.2.1 = N3.1 50 15) : (wa111 W3 t dl u1 u2 u3 v1 v2 v3 x).2.1 (25 + 8 * 0) 7 = (aq111 m N1 N2 N3 t dl c u1 u2 u3).2.1 73 0 := by
  have o1 := fun r k h => (hO1 r k h).1
  have j1 := fun r k h => (hO1 r k h).2
  have a1 : W1.1 4 0 = N1.1 50 13 := (congrArg (fun q => q.1) hv1).trans hb1
  have b1 : W1.1 4 1 = N1.1 50 14 := (congrArg (fun q => q.2.1) hv1).trans hh1
  have d1 : W1.2.1 4 3 = N1.2.1 50 17 := (congrArg (fun q => q.2.2.2) hv1).trans hf1
  have p1 : W1.1 4 2 = N1.1 50 15 := (congrArg (fun q => q.2.2.1) hv1).trans hq1
  clear hO1
  have o2 := fun r k h => (hO2 r k h).1
  have j2 := fun r k h => (hO2 r k h).2
  have a2 : W2.1 4 0 = N2.1 50 13 := (congrArg (fun q => q.1) hv2).trans hb2
  have b2 : W2.1 4 1 = N2.1 50 14 := (congrArg (fun q => q.2.1) hv2).trans hh2
  have d2 : W2.2.1 4 3 = N2.2.1 50 17 := (congrArg (fun q => q.2.2.2) hv2).trans hf2
  have p2 : W2.1 4 2 = N2.1 50 15 := (congrArg (fun q => q.2.2.1) hv2).trans hq2
  clear hO2
  have o3 := fun r k h => (hO3 r k h).1
  have j3 := fun r k h => (hO3 r k h).2
  have a3 : W3.1 4 0 = N3.1 50 13 := (congrArg (fun q => q.1) hv3).trans hb3
  have b3 : W3.1 4 1 = N3.1 50 14 := (congrArg (fun q => q.2.1) hv3).trans hh3
  have d3 : W3.2.1 4 3 = N3.2.1 50 17 := (congrArg (fun q => q.2.2.2) hv3).trans hf3
  have p3 : W3.1 4 2 = N3.1 50 15 := (congrArg (fun q => q.2.2.1) hv3).trans hq3
  clear hO3
  have h1 : u1 < 4 := by omega
  have h2 : u2 < 4 := by omega
  have h3 : u3 < 4 := by omega
  have et := R.pt t ht
  have eu1 := R.pt u1 h1
  have eu2 := R.pt u2 h2
  have eu3 := R.pt u3 h3
  have est := R.st
  have ebt := R.bt
  unfold wa111 aq111
  unfold rcW at *
  simp (disch := first | decide | exact ad_ne (by decide) | exact ad_m (by decide) | exact ad_l (by decide) | exact ad_g (by decide) | exact ad_lt (by decide) | exact ad_o (by decide) | omega) only [↓ui_s, ↓uj_s, ↓ui_o, ↓ui_k, ↓uj_o, ↓uj_k, ↓ui_j, ↓uj_i, ↓o1, ↓j1, ↓o2, ↓j2, ↓o3, ↓j3, ui_s, uj_s, ui_o, ui_k, uj_o, uj_k, ui_j, uj_i, o1, j1, o2, j2, o3, j3]
  exact d1
theorem rc_aw111_wi10 {x m W1 W2 W3 N1 N2 N3 : zM} {v1 v2 v3 : Q4} (R : RCl x m) {t dl c u1 u2 u3 : Nat} (ht : t < 4) (hu1 : (t + 1) % 4 = u1) (hu2 : (t + 2) % 4 = u2) (hu3 : (t + 3) % 4 = u3) (hc : x.1 0 15 = nI c) (hO1 : WOj (x) W1) (hv1 : bqJ W1 = v1) (hb1 : v1.1 = N1.1 50 13) (hh1 : v1.2.1 = N1.1 50 14) (hf1 : v1.2.2.2 = N1.2.1 50 17) (hq1 : v1.2.2.1 = N1.1 50 15) (hO2 : WOj (z_ui (rcW (z_ui (z_ui W1 (18 + 8 * t) 4 ((x.1 (18 + 8 * t) 4) - ((hnd (v1.1 * (bif decide ((nI u1) = (nI dl)) then (6 : Int32) else 4))) + (300 * (x.1 0 11))))) (18 + 8 * u1) 4 ((x.1 (18 + 8 * u1) 4) + (((hnd (v1.1 * (bif decide ((nI u1) = (nI dl)) then (6 : Int32) else 4))) + (300 * (x.1 0 11))) + ((x.1 0 12) * 1000)))) 0 (nI u1) (nI t) (((hnd (v1.1 * (bif decide ((nI u1) = (nI dl)) then (6 : Int32) else 4))) + (300 * (x.1 0 11))) + ((x.1 0 12) * 1000))) 0 12 0) W2) (hv2 : bqJ W2 = v2) (hb2 : v2.1 = N2.1 50 13) (hh2 : v2.2.1 = N2.1 50 14) (hf2 : v2.2.2.2 = N2.2.1 50 17) (hq2 : v2.2.2.1 = N2.1 50 15) (hO3 : WOj (z_ui (rcW (z_ui (z_ui W2 (18 + 8 * t) 4 (((x.1 (18 + 8 * t) 4) - ((hnd (v1.1 * (bif decide ((nI u1) = (nI dl)) then (6 : Int32) else 4))) + (300 * (x.1 0 11)))) - ((hnd (v2.1 * (bif decide ((nI u2) = (nI dl)) then (6 : Int32) else 4))) + 0))) (18 + 8 * u2) 4 ((x.1 (18 + 8 * u2) 4) + (((hnd (v2.1 * (bif decide ((nI u2) = (nI dl)) then (6 : Int32) else 4))) + 0) + 0))) 1 (nI u2) (nI t) (((hnd (v2.1 * (bif decide ((nI u2) = (nI dl)) then (6 : Int32) else 4))) + 0) + 0)) 0 12 0) W3) (hv3 : bqJ W3 = v3) (hb3 : v3.1 = N3.1 50 13) (hh3 : v3.2.1 = N3.1 50 14) (hf3 : v3.2.2.2 = N3.2.1 50 17) (hq3 : v3.2.2.1 = N3.1 50 15) : (wa111 W3 t dl u1 u2 u3 v1 v2 v3 x).1 (25 + 8 * 1) 0 = (aq111 m N1 N2 N3 t dl c u1 u2 u3).1 72 (7 * 1 + 0) := by
  have o1 := fun r k h => (hO1 r k h).1
  have j1 := fun r k h => (hO1 r k h).2
  have a1 : W1.1 4 0 = N1.1 50 13 := (congrArg (fun q => q.1) hv1).trans hb1
  have b1 : W1.1 4 1 = N1.1 50 14 := (congrArg (fun q => q.2.1) hv1).trans hh1
  have d1 : W1.2.1 4 3 = N1.2.1 50 17 := (congrArg (fun q => q.2.2.2) hv1).trans hf1
  have p1 : W1.1 4 2 = N1.1 50 15 := (congrArg (fun q => q.2.2.1) hv1).trans hq1
  clear hO1
  have o2 := fun r k h => (hO2 r k h).1
  have j2 := fun r k h => (hO2 r k h).2
  have a2 : W2.1 4 0 = N2.1 50 13 := (congrArg (fun q => q.1) hv2).trans hb2
  have b2 : W2.1 4 1 = N2.1 50 14 := (congrArg (fun q => q.2.1) hv2).trans hh2
  have d2 : W2.2.1 4 3 = N2.2.1 50 17 := (congrArg (fun q => q.2.2.2) hv2).trans hf2
  have p2 : W2.1 4 2 = N2.1 50 15 := (congrArg (fun q => q.2.2.1) hv2).trans hq2
  clear hO2
  have o3 := fun r k h => (hO3 r k h).1
  have j3 := fun r k h => (hO3 r k h).2
  have a3 : W3.1 4 0 = N3.1 50 13 := (congrArg (fun q => q.1) hv3).trans hb3
  have b3 : W3.1 4 1 = N3.1 50 14 := (congrArg (fun q => q.2.1) hv3).trans hh3
  have d3 : W3.2.1 4 3 = N3.2.1 50 17 := (congrArg (fun q => q.2.2.2) hv3).trans hf3
  have p3 : W3.1 4 2 = N3.1 50 15 := (congrArg (fun q => q.2.2.1) hv3).trans hq3
  clear hO3
  have h1 : u1 < 4 := by omega
  have h2 : u2 < 4 := by omega
  have h3 : u3 < 4 := by omega
  have et := R.pt t ht
  have eu1 := R.pt u1 h1
  have eu2 := R.pt u2 h2
  have eu3 := R.pt u3 h3
  have est := R.st
  have ebt := R.bt
  unfold wa111 aq111
  unfold rcW at *
  simp (disch := first | decide | exact ad_ne (by decide) | exact ad_m (by decide) | exact ad_l (by decide) | exact ad_g (by decide) | exact ad_lt (by decide) | exact ad_o (by decide) | omega) only [↓ui_s, ↓uj_s, ↓ui_o, ↓ui_k, ↓uj_o, ↓uj_k, ↓ui_j, ↓uj_i, ↓o1, ↓j1, ↓o2, ↓j2, ↓o3, ↓j3, ui_s, uj_s, ui_o, ui_k, uj_o, uj_k, ui_j, uj_i, o1, j1, o2, j2, o3, j3]
  first | done | with_reducible rfl | (simp only [et, eu1, eu2, eu3, hb1, hh1, hf1, hq1, a1, b1, d1, p1, hb2, hh2, hf2, hq2, a2, b2, d2, p2, hb3, hh3, hf3, hq3, a3, b3, d3, p3, hc, est, ebt, Int32.zero_add, Int32.add_zero, Int32.zero_mul, Int32.mul_zero]; first | done | with_reducible rfl | (rw [Int32.mul_comm (m.1 50 43)]; first | done | ac_rfl)) | rfl
theorem rc_aw111_wi11 {x m W1 W2 W3 N1 N2 N3 : zM} {v1 v2 v3 : Q4} (R : RCl x m) {t dl c u1 u2 u3 : Nat} (ht : t < 4) (hu1 : (t + 1) % 4 = u1) (hu2 : (t + 2) % 4 = u2) (hu3 : (t + 3) % 4 = u3) (hc : x.1 0 15 = nI c) (hO1 : WOj (x) W1) (hv1 : bqJ W1 = v1) (hb1 : v1.1 = N1.1 50 13) (hh1 : v1.2.1 = N1.1 50 14) (hf1 : v1.2.2.2 = N1.2.1 50 17) (hq1 : v1.2.2.1 = N1.1 50 15) (hO2 : WOj (z_ui (rcW (z_ui (z_ui W1 (18 + 8 * t) 4 ((x.1 (18 + 8 * t) 4) - ((hnd (v1.1 * (bif decide ((nI u1) = (nI dl)) then (6 : Int32) else 4))) + (300 * (x.1 0 11))))) (18 + 8 * u1) 4 ((x.1 (18 + 8 * u1) 4) + (((hnd (v1.1 * (bif decide ((nI u1) = (nI dl)) then (6 : Int32) else 4))) + (300 * (x.1 0 11))) + ((x.1 0 12) * 1000)))) 0 (nI u1) (nI t) (((hnd (v1.1 * (bif decide ((nI u1) = (nI dl)) then (6 : Int32) else 4))) + (300 * (x.1 0 11))) + ((x.1 0 12) * 1000))) 0 12 0) W2) (hv2 : bqJ W2 = v2) (hb2 : v2.1 = N2.1 50 13) (hh2 : v2.2.1 = N2.1 50 14) (hf2 : v2.2.2.2 = N2.2.1 50 17) (hq2 : v2.2.2.1 = N2.1 50 15) (hO3 : WOj (z_ui (rcW (z_ui (z_ui W2 (18 + 8 * t) 4 (((x.1 (18 + 8 * t) 4) - ((hnd (v1.1 * (bif decide ((nI u1) = (nI dl)) then (6 : Int32) else 4))) + (300 * (x.1 0 11)))) - ((hnd (v2.1 * (bif decide ((nI u2) = (nI dl)) then (6 : Int32) else 4))) + 0))) (18 + 8 * u2) 4 ((x.1 (18 + 8 * u2) 4) + (((hnd (v2.1 * (bif decide ((nI u2) = (nI dl)) then (6 : Int32) else 4))) + 0) + 0))) 1 (nI u2) (nI t) (((hnd (v2.1 * (bif decide ((nI u2) = (nI dl)) then (6 : Int32) else 4))) + 0) + 0)) 0 12 0) W3) (hv3 : bqJ W3 = v3) (hb3 : v3.1 = N3.1 50 13) (hh3 : v3.2.1 = N3.1 50 14) (hf3 : v3.2.2.2 = N3.2.1 50 17) (hq3 : v3.2.2.1 = N3.1 50 15) : (wa111 W3 t dl u1 u2 u3 v1 v2 v3 x).1 (25 + 8 * 1) 1 = (aq111 m N1 N2 N3 t dl c u1 u2 u3).1 72 (7 * 1 + 1) := by
  have o1 := fun r k h => (hO1 r k h).1
  have j1 := fun r k h => (hO1 r k h).2
  have a1 : W1.1 4 0 = N1.1 50 13 := (congrArg (fun q => q.1) hv1).trans hb1
  have b1 : W1.1 4 1 = N1.1 50 14 := (congrArg (fun q => q.2.1) hv1).trans hh1
  have d1 : W1.2.1 4 3 = N1.2.1 50 17 := (congrArg (fun q => q.2.2.2) hv1).trans hf1
  have p1 : W1.1 4 2 = N1.1 50 15 := (congrArg (fun q => q.2.2.1) hv1).trans hq1
  clear hO1
  have o2 := fun r k h => (hO2 r k h).1
  have j2 := fun r k h => (hO2 r k h).2
  have a2 : W2.1 4 0 = N2.1 50 13 := (congrArg (fun q => q.1) hv2).trans hb2
  have b2 : W2.1 4 1 = N2.1 50 14 := (congrArg (fun q => q.2.1) hv2).trans hh2
  have d2 : W2.2.1 4 3 = N2.2.1 50 17 := (congrArg (fun q => q.2.2.2) hv2).trans hf2
  have p2 : W2.1 4 2 = N2.1 50 15 := (congrArg (fun q => q.2.2.1) hv2).trans hq2
  clear hO2
  have o3 := fun r k h => (hO3 r k h).1
  have j3 := fun r k h => (hO3 r k h).2
  have a3 : W3.1 4 0 = N3.1 50 13 := (congrArg (fun q => q.1) hv3).trans hb3
  have b3 : W3.1 4 1 = N3.1 50 14 := (congrArg (fun q => q.2.1) hv3).trans hh3
  have d3 : W3.2.1 4 3 = N3.2.1 50 17 := (congrArg (fun q => q.2.2.2) hv3).trans hf3
  have p3 : W3.1 4 2 = N3.1 50 15 := (congrArg (fun q => q.2.2.1) hv3).trans hq3
  clear hO3
  have h1 : u1 < 4 := by omega
  have h2 : u2 < 4 := by omega
  have h3 : u3 < 4 := by omega
  have et := R.pt t ht
  have eu1 := R.pt u1 h1
  have eu2 := R.pt u2 h2
  have eu3 := R.pt u3 h3
  have est := R.st
  have ebt := R.bt
  unfold wa111 aq111
  unfold rcW at *
  simp (disch := first | decide | exact ad_ne (by decide) | exact ad_m (by decide) | exact ad_l (by decide) | exact ad_g (by decide) | exact ad_lt (by decide) | exact ad_o (by decide) | omega) only [↓ui_s, ↓uj_s, ↓ui_o, ↓ui_k, ↓uj_o, ↓uj_k, ↓ui_j, ↓uj_i, ↓o1, ↓j1, ↓o2, ↓j2, ↓o3, ↓j3, ui_s, uj_s, ui_o, ui_k, uj_o, uj_k, ui_j, uj_i, o1, j1, o2, j2, o3, j3]
  first | done | with_reducible rfl | (simp only [et, eu1, eu2, eu3, hb1, hh1, hf1, hq1, a1, b1, d1, p1, hb2, hh2, hf2, hq2, a2, b2, d2, p2, hb3, hh3, hf3, hq3, a3, b3, d3, p3, hc, est, ebt, Int32.zero_add, Int32.add_zero, Int32.zero_mul, Int32.mul_zero]; first | done | with_reducible rfl | (rw [Int32.mul_comm (m.1 50 43)]; first | done | ac_rfl)) | rfl
theorem rc_aw111_wi12 {x m W1 W2 W3 N1 N2 N3 : zM} {v1 v2 v3 : Q4} (R : RCl x m) {t dl c u1 u2 u3 : Nat} (ht : t < 4) (hu1 : (t + 1) % 4 = u1) (hu2 : (t + 2) % 4 = u2) (hu3 : (t + 3) % 4 = u3) (hc : x.1 0 15 = nI c) (hO1 : WOj (x) W1) (hv1 : bqJ W1 = v1) (hb1 : v1.1 = N1.1 50 13) (hh1 : v1.2.1 = N1.1 50 14) (hf1 : v1.2.2.2 = N1.2.1 50 17) (hq1 : v1.2.2.1 = N1.1 50 15) (hO2 : WOj (z_ui (rcW (z_ui (z_ui W1 (18 + 8 * t) 4 ((x.1 (18 + 8 * t) 4) - ((hnd (v1.1 * (bif decide ((nI u1) = (nI dl)) then (6 : Int32) else 4))) + (300 * (x.1 0 11))))) (18 + 8 * u1) 4 ((x.1 (18 + 8 * u1) 4) + (((hnd (v1.1 * (bif decide ((nI u1) = (nI dl)) then (6 : Int32) else 4))) + (300 * (x.1 0 11))) + ((x.1 0 12) * 1000)))) 0 (nI u1) (nI t) (((hnd (v1.1 * (bif decide ((nI u1) = (nI dl)) then (6 : Int32) else 4))) + (300 * (x.1 0 11))) + ((x.1 0 12) * 1000))) 0 12 0) W2) (hv2 : bqJ W2 = v2) (hb2 : v2.1 = N2.1 50 13) (hh2 : v2.2.1 = N2.1 50 14) (hf2 : v2.2.2.2 = N2.2.1 50 17) (hq2 : v2.2.2.1 = N2.1 50 15) (hO3 : WOj (z_ui (rcW (z_ui (z_ui W2 (18 + 8 * t) 4 (((x.1 (18 + 8 * t) 4) - ((hnd (v1.1 * (bif decide ((nI u1) = (nI dl)) then (6 : Int32) else 4))) + (300 * (x.1 0 11)))) - ((hnd (v2.1 * (bif decide ((nI u2) = (nI dl)) then (6 : Int32) else 4))) + 0))) (18 + 8 * u2) 4 ((x.1 (18 + 8 * u2) 4) + (((hnd (v2.1 * (bif decide ((nI u2) = (nI dl)) then (6 : Int32) else 4))) + 0) + 0))) 1 (nI u2) (nI t) (((hnd (v2.1 * (bif decide ((nI u2) = (nI dl)) then (6 : Int32) else 4))) + 0) + 0)) 0 12 0) W3) (hv3 : bqJ W3 = v3) (hb3 : v3.1 = N3.1 50 13) (hh3 : v3.2.1 = N3.1 50 14) (hf3 : v3.2.2.2 = N3.2.1 50 17) (hq3 : v3.2.2.1 = N3.1 50 15) : (wa111 W3 t dl u1 u2 u3 v1 v2 v3 x).1 (25 + 8 * 1) 2 = (aq111 m N1 N2 N3 t dl c u1 u2 u3).1 72 (7 * 1 + 2) := by
  have o1 := fun r k h => (hO1 r k h).1
  have j1 := fun r k h => (hO1 r k h).2
  have a1 : W1.1 4 0 = N1.1 50 13 := (congrArg (fun q => q.1) hv1).trans hb1
  have b1 : W1.1 4 1 = N1.1 50 14 := (congrArg (fun q => q.2.1) hv1).trans hh1
  have d1 : W1.2.1 4 3 = N1.2.1 50 17 := (congrArg (fun q => q.2.2.2) hv1).trans hf1
  have p1 : W1.1 4 2 = N1.1 50 15 := (congrArg (fun q => q.2.2.1) hv1).trans hq1
  clear hO1
  have o2 := fun r k h => (hO2 r k h).1
  have j2 := fun r k h => (hO2 r k h).2
  have a2 : W2.1 4 0 = N2.1 50 13 := (congrArg (fun q => q.1) hv2).trans hb2
  have b2 : W2.1 4 1 = N2.1 50 14 := (congrArg (fun q => q.2.1) hv2).trans hh2
  have d2 : W2.2.1 4 3 = N2.2.1 50 17 := (congrArg (fun q => q.2.2.2) hv2).trans hf2
  have p2 : W2.1 4 2 = N2.1 50 15 := (congrArg (fun q => q.2.2.1) hv2).trans hq2
  clear hO2
  have o3 := fun r k h => (hO3 r k h).1
  have j3 := fun r k h => (hO3 r k h).2
  have a3 : W3.1 4 0 = N3.1 50 13 := (congrArg (fun q => q.1) hv3).trans hb3
  have b3 : W3.1 4 1 = N3.1 50 14 := (congrArg (fun q => q.2.1) hv3).trans hh3
  have d3 : W3.2.1 4 3 = N3.2.1 50 17 := (congrArg (fun q => q.2.2.2) hv3).trans hf3
  have p3 : W3.1 4 2 = N3.1 50 15 := (congrArg (fun q => q.2.2.1) hv3).trans hq3
  clear hO3
  have h1 : u1 < 4 := by omega
  have h2 : u2 < 4 := by omega
  have h3 : u3 < 4 := by omega
  have et := R.pt t ht
  have eu1 := R.pt u1 h1
  have eu2 := R.pt u2 h2
  have eu3 := R.pt u3 h3
  have est := R.st
  have ebt := R.bt
  unfold wa111 aq111
  unfold rcW at *
  simp (disch := first | decide | exact ad_ne (by decide) | exact ad_m (by decide) | exact ad_l (by decide) | exact ad_g (by decide) | exact ad_lt (by decide) | exact ad_o (by decide) | omega) only [↓ui_s, ↓uj_s, ↓ui_o, ↓ui_k, ↓uj_o, ↓uj_k, ↓ui_j, ↓uj_i, ↓o1, ↓j1, ↓o2, ↓j2, ↓o3, ↓j3, ui_s, uj_s, ui_o, ui_k, uj_o, uj_k, ui_j, uj_i, o1, j1, o2, j2, o3, j3]
  first | done | with_reducible rfl | (simp only [et, eu1, eu2, eu3, hb1, hh1, hf1, hq1, a1, b1, d1, p1, hb2, hh2, hf2, hq2, a2, b2, d2, p2, hb3, hh3, hf3, hq3, a3, b3, d3, p3, hc, est, ebt, Int32.zero_add, Int32.add_zero, Int32.zero_mul, Int32.mul_zero]; first | done | with_reducible rfl | (rw [Int32.mul_comm (m.1 50 43)]; first | done | ac_rfl)) | rfl
theorem rc_aw111_wi13 {x m W1 W2 W3 N1 N2 N3 : zM} {v1 v2 v3 : Q4} (R : RCl x m) {t dl c u1 u2 u3 : Nat} (ht : t < 4) (hu1 : (t + 1) % 4 = u1) (hu2 : (t + 2) % 4 = u2) (hu3 : (t + 3) % 4 = u3) (hc : x.1 0 15 = nI c) (hO1 : WOj (x) W1) (hv1 : bqJ W1 = v1) (hb1 : v1.1 = N1.1 50 13) (hh1 : v1.2.1 = N1.1 50 14) (hf1 : v1.2.2.2 = N1.2.1 50 17) (hq1 : v1.2.2.1 = N1.1 50 15) (hO2 : WOj (z_ui (rcW (z_ui (z_ui W1 (18 + 8 * t) 4 ((x.1 (18 + 8 * t) 4) - ((hnd (v1.1 * (bif decide ((nI u1) = (nI dl)) then (6 : Int32) else 4))) + (300 * (x.1 0 11))))) (18 + 8 * u1) 4 ((x.1 (18 + 8 * u1) 4) + (((hnd (v1.1 * (bif decide ((nI u1) = (nI dl)) then (6 : Int32) else 4))) + (300 * (x.1 0 11))) + ((x.1 0 12) * 1000)))) 0 (nI u1) (nI t) (((hnd (v1.1 * (bif decide ((nI u1) = (nI dl)) then (6 : Int32) else 4))) + (300 * (x.1 0 11))) + ((x.1 0 12) * 1000))) 0 12 0) W2) (hv2 : bqJ W2 = v2) (hb2 : v2.1 = N2.1 50 13) (hh2 : v2.2.1 = N2.1 50 14) (hf2 : v2.2.2.2 = N2.2.1 50 17) (hq2 : v2.2.2.1 = N2.1 50 15) (hO3 : WOj (z_ui (rcW (z_ui (z_ui W2 (18 + 8 * t) 4 (((x.1 (18 + 8 * t) 4) - ((hnd (v1.1 * (bif decide ((nI u1) = (nI dl)) then (6 : Int32) else 4))) + (300 * (x.1 0 11)))) - ((hnd (v2.1 * (bif decide ((nI u2) = (nI dl)) then (6 : Int32) else 4))) + 0))) (18 + 8 * u2) 4 ((x.1 (18 + 8 * u2) 4) + (((hnd (v2.1 * (bif decide ((nI u2) = (nI dl)) then (6 : Int32) else 4))) + 0) + 0))) 1 (nI u2) (nI t) (((hnd (v2.1 * (bif decide ((nI u2) = (nI dl)) then (6 : Int32) else 4))) + 0) + 0)) 0 12 0) W3) (hv3 : bqJ W3 = v3) (hb3 : v3.1 = N3.1 50 13) (hh3 : v3.2.1 = N3.1 50 14) (hf3 : v3.2.2.2 = N3.2.1 50 17) (hq3 : v3.2.2.1 = N3.1 50 15) : (wa111 W3 t dl u1 u2 u3 v1 v2 v3 x).1 (25 + 8 * 1) 3 = (aq111 m N1 N2 N3 t dl c u1 u2 u3).1 72 (7 * 1 + 3) := by
  have o1 := fun r k h => (hO1 r k h).1
  have j1 := fun r k h => (hO1 r k h).2
  have a1 : W1.1 4 0 = N1.1 50 13 := (congrArg (fun q => q.1) hv1).trans hb1
  have b1 : W1.1 4 1 = N1.1 50 14 := (congrArg (fun q => q.2.1) hv1).trans hh1
  have d1 : W1.2.1 4 3 = N1.2.1 50 17 := (congrArg (fun q => q.2.2.2) hv1).trans hf1
  have p1 : W1.1 4 2 = N1.1 50 15 := (congrArg (fun q => q.2.2.1) hv1).trans hq1
  clear hO1
  have o2 := fun r k h => (hO2 r k h).1
  have j2 := fun r k h => (hO2 r k h).2
  have a2 : W2.1 4 0 = N2.1 50 13 := (congrArg (fun q => q.1) hv2).trans hb2
  have b2 : W2.1 4 1 = N2.1 50 14 := (congrArg (fun q => q.2.1) hv2).trans hh2
  have d2 : W2.2.1 4 3 = N2.2.1 50 17 := (congrArg (fun q => q.2.2.2) hv2).trans hf2
  have p2 : W2.1 4 2 = N2.1 50 15 := (congrArg (fun q => q.2.2.1) hv2).trans hq2
  clear hO2
  have o3 := fun r k h => (hO3 r k h).1
  have j3 := fun r k h => (hO3 r k h).2
  have a3 : W3.1 4 0 = N3.1 50 13 := (congrArg (fun q => q.1) hv3).trans hb3
  have b3 : W3.1 4 1 = N3.1 50 14 := (congrArg (fun q => q.2.1) hv3).trans hh3
  have d3 : W3.2.1 4 3 = N3.2.1 50 17 := (congrArg (fun q => q.2.2.2) hv3).trans hf3
  have p3 : W3.1 4 2 = N3.1 50 15 := (congrArg (fun q => q.2.2.1) hv3).trans hq3
  clear hO3
  have h1 : u1 < 4 := by omega
  have h2 : u2 < 4 := by omega
  have h3 : u3 < 4 := by omega
  have et := R.pt t ht
  have eu1 := R.pt u1 h1
  have eu2 := R.pt u2 h2
  have eu3 := R.pt u3 h3
  have est := R.st
  have ebt := R.bt
  unfold wa111 aq111
  unfold rcW at *
  simp (disch := first | decide | exact ad_ne (by decide) | exact ad_m (by decide) | exact ad_l (by decide) | exact ad_g (by decide) | exact ad_lt (by decide) | exact ad_o (by decide) | omega) only [↓ui_s, ↓uj_s, ↓ui_o, ↓ui_k, ↓uj_o, ↓uj_k, ↓ui_j, ↓uj_i, ↓o1, ↓j1, ↓o2, ↓j2, ↓o3, ↓j3, ui_s, uj_s, ui_o, ui_k, uj_o, uj_k, ui_j, uj_i, o1, j1, o2, j2, o3, j3]
  first | done | with_reducible rfl | (simp only [et, eu1, eu2, eu3, hb1, hh1, hf1, hq1, a1, b1, d1, p1, hb2, hh2, hf2, hq2, a2, b2, d2, p2, hb3, hh3, hf3, hq3, a3, b3, d3, p3, hc, est, ebt, Int32.zero_add, Int32.add_zero, Int32.zero_mul, Int32.mul_zero]; first | done | with_reducible rfl | (rw [Int32.mul_comm (m.1 50 43)]; first | done | ac_rfl)) | rfl
theorem rc_aw111_wi14 {x m W1 W2 W3 N1 N2 N3 : zM} {v1 v2 v3 : Q4} (R : RCl x m) {t dl c u1 u2 u3 : Nat} (ht : t < 4) (hu1 : (t + 1) % 4 = u1) (hu2 : (t + 2) % 4 = u2) (hu3 : (t + 3) % 4 = u3) (hc : x.1 0 15 = nI c) (hO1 : WOj (x) W1) (hv1 : bqJ W1 = v1) (hb1 : v1.1 = N1.1 50 13) (hh1 : v1.2.1 = N1.1 50 14) (hf1 : v1.2.2.2 = N1.2.1 50 17) (hq1 : v1.2.2.1 = N1.1 50 15) (hO2 : WOj (z_ui (rcW (z_ui (z_ui W1 (18 + 8 * t) 4 ((x.1 (18 + 8 * t) 4) - ((hnd (v1.1 * (bif decide ((nI u1) = (nI dl)) then (6 : Int32) else 4))) + (300 * (x.1 0 11))))) (18 + 8 * u1) 4 ((x.1 (18 + 8 * u1) 4) + (((hnd (v1.1 * (bif decide ((nI u1) = (nI dl)) then (6 : Int32) else 4))) + (300 * (x.1 0 11))) + ((x.1 0 12) * 1000)))) 0 (nI u1) (nI t) (((hnd (v1.1 * (bif decide ((nI u1) = (nI dl)) then (6 : Int32) else 4))) + (300 * (x.1 0 11))) + ((x.1 0 12) * 1000))) 0 12 0) W2) (hv2 : bqJ W2 = v2) (hb2 : v2.1 = N2.1 50 13) (hh2 : v2.2.1 = N2.1 50 14) (hf2 : v2.2.2.2 = N2.2.1 50 17) (hq2 : v2.2.2.1 = N2.1 50 15) (hO3 : WOj (z_ui (rcW (z_ui (z_ui W2 (18 + 8 * t) 4 (((x.1 (18 + 8 * t) 4) - ((hnd (v1.1 * (bif decide ((nI u1) = (nI dl)) then (6 : Int32) else 4))) + (300 * (x.1 0 11)))) - ((hnd (v2.1 * (bif decide ((nI u2) = (nI dl)) then (6 : Int32) else 4))) + 0))) (18 + 8 * u2) 4 ((x.1 (18 + 8 * u2) 4) + (((hnd (v2.1 * (bif decide ((nI u2) = (nI dl)) then (6 : Int32) else 4))) + 0) + 0))) 1 (nI u2) (nI t) (((hnd (v2.1 * (bif decide ((nI u2) = (nI dl)) then (6 : Int32) else 4))) + 0) + 0)) 0 12 0) W3) (hv3 : bqJ W3 = v3) (hb3 : v3.1 = N3.1 50 13) (hh3 : v3.2.1 = N3.1 50 14) (hf3 : v3.2.2.2 = N3.2.1 50 17) (hq3 : v3.2.2.1 = N3.1 50 15) : (wa111 W3 t dl u1 u2 u3 v1 v2 v3 x).1 (25 + 8 * 1) 4 = (aq111 m N1 N2 N3 t dl c u1 u2 u3).1 72 (7 * 1 + 4) := by
  have o1 := fun r k h => (hO1 r k h).1
  have j1 := fun r k h => (hO1 r k h).2
  have a1 : W1.1 4 0 = N1.1 50 13 := (congrArg (fun q => q.1) hv1).trans hb1
  have b1 : W1.1 4 1 = N1.1 50 14 := (congrArg (fun q => q.2.1) hv1).trans hh1
  have d1 : W1.2.1 4 3 = N1.2.1 50 17 := (congrArg (fun q => q.2.2.2) hv1).trans hf1
  have p1 : W1.1 4 2 = N1.1 50 15 := (congrArg (fun q => q.2.2.1) hv1).trans hq1
  clear hO1
  have o2 := fun r k h => (hO2 r k h).1
  have j2 := fun r k h => (hO2 r k h).2
  have a2 : W2.1 4 0 = N2.1 50 13 := (congrArg (fun q => q.1) hv2).trans hb2
  have b2 : W2.1 4 1 = N2.1 50 14 := (congrArg (fun q => q.2.1) hv2).trans hh2
  have d2 : W2.2.1 4 3 = N2.2.1 50 17 := (congrArg (fun q => q.2.2.2) hv2).trans hf2
  have p2 : W2.1 4 2 = N2.1 50 15 := (congrArg (fun q => q.2.2.1) hv2).trans hq2
  clear hO2
  have o3 := fun r k h => (hO3 r k h).1
  have j3 := fun r k h => (hO3 r k h).2
  have a3 : W3.1 4 0 = N3.1 50 13 := (congrArg (fun q => q.1) hv3).trans hb3
  have b3 : W3.1 4 1 = N3.1 50 14 := (congrArg (fun q => q.2.1) hv3).trans hh3
  have d3 : W3.2.1 4 3 = N3.2.1 50 17 := (congrArg (fun q => q.2.2.2) hv3).trans hf3
  have p3 : W3.1 4 2 = N3.1 50 15 := (congrArg (fun q => q.2.2.1) hv3).trans hq3
  clear hO3
  have h1 : u1 < 4 := by omega
  have h2 : u2 < 4 := by omega
  have h3 : u3 < 4 := by omega
  have et := R.pt t ht
  have eu1 := R.pt u1 h1
  have eu2 := R.pt u2 h2
  have eu3 := R.pt u3 h3
  have est := R.st
  have ebt := R.bt
  unfold wa111 aq111
  unfold rcW at *
  simp (disch := first | decide | exact ad_ne (by decide) | exact ad_m (by decide) | exact ad_l (by decide) | exact ad_g (by decide) | exact ad_lt (by decide) | exact ad_o (by decide) | omega) only [↓ui_s, ↓uj_s, ↓ui_o, ↓ui_k, ↓uj_o, ↓uj_k, ↓ui_j, ↓uj_i, ↓o1, ↓j1, ↓o2, ↓j2, ↓o3, ↓j3, ui_s, uj_s, ui_o, ui_k, uj_o, uj_k, ui_j, uj_i, o1, j1, o2, j2, o3, j3]
  first | done | with_reducible rfl | (simp only [et, eu1, eu2, eu3, hb1, hh1, hf1, hq1, a1, b1, d1, p1, hb2, hh2, hf2, hq2, a2, b2, d2, p2, hb3, hh3, hf3, hq3, a3, b3, d3, p3, hc, est, ebt, Int32.zero_add, Int32.add_zero, Int32.zero_mul, Int32.mul_zero]; first | done | with_reducible rfl | (rw [Int32.mul_comm (m.1 50 43)]; first | done | ac_rfl)) | rfl
theorem rc_aw111_wi15 {x m W1 W2 W3 N1 N2 N3 : zM} {v1 v2 v3 : Q4} (R : RCl x m) {t dl c u1 u2 u3 : Nat} (ht : t < 4) (hu1 : (t + 1) % 4 = u1) (hu2 : (t + 2) % 4 = u2) (hu3 : (t + 3) % 4 = u3) (hc : x.1 0 15 = nI c) (hO1 : WOj (x) W1) (hv1 : bqJ W1 = v1) (hb1 : v1.1 = N1.1 50 13) (hh1 : v1.2.1 = N1.1 50 14) (hf1 : v1.2.2.2 = N1.2.1 50 17) (hq1 : v1.2.2.1 = N1.1 50 15) (hO2 : WOj (z_ui (rcW (z_ui (z_ui W1 (18 + 8 * t) 4 ((x.1 (18 + 8 * t) 4) - ((hnd (v1.1 * (bif decide ((nI u1) = (nI dl)) then (6 : Int32) else 4))) + (300 * (x.1 0 11))))) (18 + 8 * u1) 4 ((x.1 (18 + 8 * u1) 4) + (((hnd (v1.1 * (bif decide ((nI u1) = (nI dl)) then (6 : Int32) else 4))) + (300 * (x.1 0 11))) + ((x.1 0 12) * 1000)))) 0 (nI u1) (nI t) (((hnd (v1.1 * (bif decide ((nI u1) = (nI dl)) then (6 : Int32) else 4))) + (300 * (x.1 0 11))) + ((x.1 0 12) * 1000))) 0 12 0) W2) (hv2 : bqJ W2 = v2) (hb2 : v2.1 = N2.1 50 13) (hh2 : v2.2.1 = N2.1 50 14) (hf2 : v2.2.2.2 = N2.2.1 50 17) (hq2 : v2.2.2.1 = N2.1 50 15) (hO3 : WOj (z_ui (rcW (z_ui (z_ui W2 (18 + 8 * t) 4 (((x.1 (18 + 8 * t) 4) - ((hnd (v1.1 * (bif decide ((nI u1) = (nI dl)) then (6 : Int32) else 4))) + (300 * (x.1 0 11)))) - ((hnd (v2.1 * (bif decide ((nI u2) = (nI dl)) then (6 : Int32) else 4))) + 0))) (18 + 8 * u2) 4 ((x.1 (18 + 8 * u2) 4) + (((hnd (v2.1 * (bif decide ((nI u2) = (nI dl)) then (6 : Int32) else 4))) + 0) + 0))) 1 (nI u2) (nI t) (((hnd (v2.1 * (bif decide ((nI u2) = (nI dl)) then (6 : Int32) else 4))) + 0) + 0)) 0 12 0) W3) (hv3 : bqJ W3 = v3) (hb3 : v3.1 = N3.1 50 13) (hh3 : v3.2.1 = N3.1 50 14) (hf3 : v3.2.2.2 = N3.2.1 50 17) (hq3 : v3.2.2.1 = N3.1 50 15) : (wa111 W3 t dl u1 u2 u3 v1 v2 v3 x).1 (25 + 8 * 1) 5 = (aq111 m N1 N2 N3 t dl c u1 u2 u3).1 72 (7 * 1 + 5) := by
  have o1 := fun r k h => (hO1 r k h).1
  have j1 := fun r k h => (hO1 r k h).2
  have a1 : W1.1 4 0 = N1.1 50 13 := (congrArg (fun q => q.1) hv1).trans hb1
  have b1 : W1.1 4 1 = N1.1 50 14 := (congrArg (fun q => q.2.1) hv1).trans hh1
  have d1 : W1.2.1 4 3 = N1.2.1 50 17 := (congrArg (fun q => q.2.2.2) hv1).trans hf1
  have p1 : W1.1 4 2 = N1.1 50 15 := (congrArg (fun q => q.2.2.1) hv1).trans hq1
  clear hO1
  have o2 := fun r k h => (hO2 r k h).1
  have j2 := fun r k h => (hO2 r k h).2
  have a2 : W2.1 4 0 = N2.1 50 13 := (congrArg (fun q => q.1) hv2).trans hb2
  have b2 : W2.1 4 1 = N2.1 50 14 := (congrArg (fun q => q.2.1) hv2).trans hh2
  have d2 : W2.2.1 4 3 = N2.2.1 50 17 := (congrArg (fun q => q.2.2.2) hv2).trans hf2
  have p2 : W2.1 4 2 = N2.1 50 15 := (congrArg (fun q => q.2.2.1) hv2).trans hq2
  clear hO2
  have o3 := fun r k h => (hO3 r k h).1
  have j3 := fun r k h => (hO3 r k h).2
  have a3 : W3.1 4 0 = N3.1 50 13 := (congrArg (fun q => q.1) hv3).trans hb3
  have b3 : W3.1 4 1 = N3.1 50 14 := (congrArg (fun q => q.2.1) hv3).trans hh3
  have d3 : W3.2.1 4 3 = N3.2.1 50 17 := (congrArg (fun q => q.2.2.2) hv3).trans hf3
  have p3 : W3.1 4 2 = N3.1 50 15 := (congrArg (fun q => q.2.2.1) hv3).trans hq3
  clear hO3
  have h1 : u1 < 4 := by omega
  have h2 : u2 < 4 := by omega
  have h3 : u3 < 4 := by omega
  have et := R.pt t ht
  have eu1 := R.pt u1 h1
  have eu2 := R.pt u2 h2
  have eu3 := R.pt u3 h3
  have est := R.st
  have ebt := R.bt
  unfold wa111 aq111
  unfold rcW at *
  simp (disch := first | decide | exact ad_ne (by decide) | exact ad_m (by decide) | exact ad_l (by decide) | exact ad_g (by decide) | exact ad_lt (by decide) | exact ad_o (by decide) | omega) only [↓ui_s, ↓uj_s, ↓ui_o, ↓ui_k, ↓uj_o, ↓uj_k, ↓ui_j, ↓uj_i, ↓o1, ↓j1, ↓o2, ↓j2, ↓o3, ↓j3, ui_s, uj_s, ui_o, ui_k, uj_o, uj_k, ui_j, uj_i, o1, j1, o2, j2, o3, j3]
  first | done | with_reducible rfl | (simp only [et, eu1, eu2, eu3, hb1, hh1, hf1, hq1, a1, b1, d1, p1, hb2, hh2, hf2, hq2, a2, b2, d2, p2, hb3, hh3, hf3, hq3, a3, b3, d3, p3, hc, est, ebt, Int32.zero_add, Int32.add_zero, Int32.zero_mul, Int32.mul_zero]; first | done | with_reducible rfl | (rw [Int32.mul_comm (m.1 50 43)]; first | done | ac_rfl)) | rfl
theorem rc_aw111_wi16 {x m W1 W2 W3 N1 N2 N3 : zM} {v1 v2 v3 : Q4} (R : RCl x m) {t dl c u1 u2 u3 : Nat} (ht : t < 4) (hu1 : (t + 1) % 4 = u1) (hu2 : (t + 2) % 4 = u2) (hu3 : (t + 3) % 4 = u3) (hc : x.1 0 15 = nI c) (hO1 : WOj (x) W1) (hv1 : bqJ W1 = v1) (hb1 : v1.1 = N1.1 50 13) (hh1 : v1.2.1 = N1.1 50 14) (hf1 : v1.2.2.2 = N1.2.1 50 17) (hq1 : v1.2.2.1 = N1.1 50 15) (hO2 : WOj (z_ui (rcW (z_ui (z_ui W1 (18 + 8 * t) 4 ((x.1 (18 + 8 * t) 4) - ((hnd (v1.1 * (bif decide ((nI u1) = (nI dl)) then (6 : Int32) else 4))) + (300 * (x.1 0 11))))) (18 + 8 * u1) 4 ((x.1 (18 + 8 * u1) 4) + (((hnd (v1.1 * (bif decide ((nI u1) = (nI dl)) then (6 : Int32) else 4))) + (300 * (x.1 0 11))) + ((x.1 0 12) * 1000)))) 0 (nI u1) (nI t) (((hnd (v1.1 * (bif decide ((nI u1) = (nI dl)) then (6 : Int32) else 4))) + (300 * (x.1 0 11))) + ((x.1 0 12) * 1000))) 0 12 0) W2) (hv2 : bqJ W2 = v2) (hb2 : v2.1 = N2.1 50 13) (hh2 : v2.2.1 = N2.1 50 14) (hf2 : v2.2.2.2 = N2.2.1 50 17) (hq2 : v2.2.2.1 = N2.1 50 15) (hO3 : WOj (z_ui (rcW (z_ui (z_ui W2 (18 + 8 * t) 4 (((x.1 (18 + 8 * t) 4) - ((hnd (v1.1 * (bif decide ((nI u1) = (nI dl)) then (6 : Int32) else 4))) + (300 * (x.1 0 11)))) - ((hnd (v2.1 * (bif decide ((nI u2) = (nI dl)) then (6 : Int32) else 4))) + 0))) (18 + 8 * u2) 4 ((x.1 (18 + 8 * u2) 4) + (((hnd (v2.1 * (bif decide ((nI u2) = (nI dl)) then (6 : Int32) else 4))) + 0) + 0))) 1 (nI u2) (nI t) (((hnd (v2.1 * (bif decide ((nI u2) = (nI dl)) then (6 : Int32) else 4))) + 0) + 0)) 0 12 0) W3) (hv3 : bqJ W3 = v3) (hb3 : v3.1 = N3.1 50 13) (hh3 : v3.2.1 = N3.1 50 14) (hf3 : v3.2.2.2 = N3.2.1 50 17) (hq3 : v3.2.2.1 = N3.1 50 15) : (wa111 W3 t dl u1 u2 u3 v1 v2 v3 x).1 (25 + 8 * 1) 6 = (aq111 m N1 N2 N3 t dl c u1 u2 u3).1 72 (7 * 1 + 6) := by
  have o1 := fun r k h => (hO1 r k h).1
  have j1 := fun r k h => (hO1 r k h).2
  have a1 : W1.1 4 0 = N1.1 50 13 := (congrArg (fun q => q.1) hv1).trans hb1
  have b1 : W1.1 4 1 = N1.1 50 14 := (congrArg (fun q => q.2.1) hv1).trans hh1
  have d1 : W1.2.1 4 3 = N1.2.1 50 17 := (congrArg (fun q => q.2.2.2) hv1).trans hf1
  have p1 : W1.1 4 2 = N1.1 50 15 := (congrArg (fun q => q.2.2.1) hv1).trans hq1
  clear hO1
  have o2 := fun r k h => (hO2 r k h).1
  have j2 := fun r k h => (hO2 r k h).2
  have a2 : W2.1 4 0 = N2.1 50 13 := (congrArg (fun q => q.1) hv2).trans hb2
  have b2 : W2.1 4 1 = N2.1 50 14 := (congrArg (fun q => q.2.1) hv2).trans hh2
  have d2 : W2.2.1 4 3 = N2.2.1 50 17 := (congrArg (fun q => q.2.2.2) hv2).trans hf2
  have p2 : W2.1 4 2 = N2.1 50 15 := (congrArg (fun q => q.2.2.1) hv2).trans hq2
  clear hO2
  have o3 := fun r k h => (hO3 r k h).1
  have j3 := fun r k h => (hO3 r k h).2
  have a3 : W3.1 4 0 = N3.1 50 13 := (congrArg (fun q => q.1) hv3).trans hb3
  have b3 : W3.1 4 1 = N3.1 50 14 := (congrArg (fun q => q.2.1) hv3).trans hh3
  have d3 : W3.2.1 4 3 = N3.2.1 50 17 := (congrArg (fun q => q.2.2.2) hv3).trans hf3
  have p3 : W3.1 4 2 = N3.1 50 15 := (congrArg (fun q => q.2.2.1) hv3).trans hq3
  clear hO3
  have h1 : u1 < 4 := by omega
  have h2 : u2 < 4 := by omega
  have h3 : u3 < 4 := by omega
  have et := R.pt t ht
  have eu1 := R.pt u1 h1
  have eu2 := R.pt u2 h2
  have eu3 := R.pt u3 h3
  have est := R.st
  have ebt := R.bt
  unfold wa111 aq111
  unfold rcW at *
  simp (disch := first | decide | exact ad_ne (by decide) | exact ad_m (by decide) | exact ad_l (by decide) | exact ad_g (by decide) | exact ad_lt (by decide) | exact ad_o (by decide) | omega) only [↓ui_s, ↓uj_s, ↓ui_o, ↓ui_k, ↓uj_o, ↓uj_k, ↓ui_j, ↓uj_i, ↓o1, ↓j1, ↓o2, ↓j2, ↓o3, ↓j3, ui_s, uj_s, ui_o, ui_k, uj_o, uj_k, ui_j, uj_i, o1, j1, o2, j2, o3, j3]
  first | done | with_reducible rfl | (simp only [et, eu1, eu2, eu3, hb1, hh1, hf1, hq1, a1, b1, d1, p1, hb2, hh2, hf2, hq2, a2, b2, d2, p2, hb3, hh3, hf3, hq3, a3, b3, d3, p3, hc, est, ebt, Int32.zero_add, Int32.add_zero, Int32.zero_mul, Int32.mul_zero]; first | done | with_reducible rfl | (rw [Int32.mul_comm (m.1 50 43)]; first | done | ac_rfl)) | rfl
theorem rc_aw111_wf1 {x m W1 W2 W3 N1 N2 N3 : zM} {v1 v2 v3 : Q4} (R : RCl x m) {t dl c u1 u2 u3 : Nat} (ht : t < 4) (hu1 : (t + 1) % 4 = u1) (hu2 : (t + 2) % 4 = u2) (hu3 : (t + 3) % 4 = u3) (hc : x.1 0 15 = nI c) (hO1 : WOj (x) W1) (hv1 : bqJ W1 = v1) (hb1 : v1.1 = N1.1 50 13) (hh1 : v1.2.1 = N1.1 50 14) (hf1 : v1.2.2.2 = N1.2.1 50 17) (hq1 : v1.2.2.1 = N1.1 50 15) (hO2 : WOj (z_ui (rcW (z_ui (z_ui W1 (18 + 8 * t) 4 ((x.1 (18 + 8 * t) 4) - ((hnd (v1.1 * (bif decide ((nI u1) = (nI dl)) then (6 : Int32) else 4))) + (300 * (x.1 0 11))))) (18 + 8 * u1) 4 ((x.1 (18 + 8 * u1) 4) + (((hnd (v1.1 * (bif decide ((nI u1) = (nI dl)) then (6 : Int32) else 4))) + (300 * (x.1 0 11))) + ((x.1 0 12) * 1000)))) 0 (nI u1) (nI t) (((hnd (v1.1 * (bif decide ((nI u1) = (nI dl)) then (6 : Int32) else 4))) + (300 * (x.1 0 11))) + ((x.1 0 12) * 1000))) 0 12 0) W2) (hv2 : bqJ W2 = v2) (hb2 : v2.1 = N2.1 50 13) (hh2 : v2.2.1 = N2.1 50 14) (hf2 : v2.2.2.2 = N2.2.1 50 17) (hq2 : v2.2.2.1 = N2.1 50 15) (hO3 : WOj (z_ui (rcW (z_ui (z_ui W2 (18 + 8 * t) 4 (((x.1 (18 + 8 * t) 4) - ((hnd (v1.1 * (bif decide ((nI u1) = (nI dl)) then (6 : Int32) else 4))) + (300 * (x.1 0 11)))) - ((hnd (v2.1 * (bif decide ((nI u2) = (nI dl)) then (6 : Int32) else 4))) + 0))) (18 + 8 * u2) 4 ((x.1 (18 + 8 * u2) 4) + (((hnd (v2.1 * (bif decide ((nI u2) = (nI dl)) then (6 : Int32) else 4))) + 0) + 0))) 1 (nI u2) (nI t) (((hnd (v2.1 * (bif decide ((nI u2) = (nI dl)) then (6 : Int32) else 4))) + 0) + 0)) 0 12 0) W3) (hv3 : bqJ W3 = v3) (hb3 : v3.1 = N3.1 50 13) (hh3 : v3.2.1 = N3.1 50 14) (hf3 : v3.2.2.2 = N3.2.1 50 17) (hq3 : v3.2.2.1 = N3.1 50 15) : (wa111 W3 t dl u1 u2 u3 v1 v2 v3 x).2.1 (25 + 8 * 1) 7 = (aq111 m N1 N2 N3 t dl c u1 u2 u3).2.1 73 1 := by
  have o1 := fun r k h => (hO1 r k h).1
  have j1 := fun r k h => (hO1 r k h).2
  have a1 : W1.1 4 0 = N1.1 50 13 := (congrArg (fun q => q.1) hv1).trans hb1
  have b1 : W1.1 4 1 = N1.1 50 14 := (congrArg (fun q => q.2.1) hv1).trans hh1
  have d1 : W1.2.1 4 3 = N1.2.1 50 17 := (congrArg (fun q => q.2.2.2) hv1).trans hf1
  have p1 : W1.1 4 2 = N1.1 50 15 := (congrArg (fun q => q.2.2.1) hv1).trans hq1
  clear hO1
  have o2 := fun r k h => (hO2 r k h).1
  have j2 := fun r k h => (hO2 r k h).2
  have a2 : W2.1 4 0 = N2.1 50 13 := (congrArg (fun q => q.1) hv2).trans hb2
  have b2 : W2.1 4 1 = N2.1 50 14 := (congrArg (fun q => q.2.1) hv2).trans hh2
  have d2 : W2.2.1 4 3 = N2.2.1 50 17 := (congrArg (fun q => q.2.2.2) hv2).trans hf2
  have p2 : W2.1 4 2 = N2.1 50 15 := (congrArg (fun q => q.2.2.1) hv2).trans hq2
  clear hO2
  have o3 := fun r k h => (hO3 r k h).1
  have j3 := fun r k h => (hO3 r k h).2
  have a3 : W3.1 4 0 = N3.1 50 13 := (congrArg (fun q => q.1) hv3).trans hb3
  have b3 : W3.1 4 1 = N3.1 50 14 := (congrArg (fun q => q.2.1) hv3).trans hh3
  have d3 : W3.2.1 4 3 = N3.2.1 50 17 := (congrArg (fun q => q.2.2.2) hv3).trans hf3
  have p3 : W3.1 4 2 = N3.1 50 15 := (congrArg (fun q => q.2.2.1) hv3).trans hq3
  clear hO3
  have h1 : u1 < 4 := by omega
  have h2 : u2 < 4 := by omega
  have h3 : u3 < 4 := by omega
  have et := R.pt t ht
  have eu1 := R.pt u1 h1
  have eu2 := R.pt u2 h2
  have eu3 := R.pt u3 h3
  have est := R.st
  have ebt := R.bt
  unfold wa111 aq111
  unfold rcW at *
  simp (disch := first | decide | exact ad_ne (by decide) | exact ad_m (by decide) | exact ad_l (by decide) | exact ad_g (by decide) | exact ad_lt (by decide) | exact ad_o (by decide) | omega) only [↓ui_s, ↓uj_s, ↓ui_o, ↓ui_k, ↓uj_o, ↓uj_k, ↓ui_j, ↓uj_i, ↓o1, ↓j1, ↓o2, ↓j2, ↓o3, ↓j3, ui_s, uj_s, ui_o, ui_k, uj_o, uj_k, ui_j, uj_i, o1, j1, o2, j2, o3, j3]
  exact d2
theorem rc_aw111_wi20 {x m W1 W2 W3 N1 N2 N3 : zM} {v1 v2 v3 : Q4} (R : RCl x m) {t dl c u1 u2 u3 : Nat} (ht : t < 4) (hu1 : (t + 1) % 4 = u1) (hu2 : (t + 2) % 4 = u2) (hu3 : (t + 3) % 4 = u3) (hc : x.1 0 15 = nI c) (hO1 : WOj (x) W1) (hv1 : bqJ W1 = v1) (hb1 : v1.1 = N1.1 50 13) (hh1 : v1.2.1 = N1.1 50 14) (hf1 : v1.2.2.2 = N1.2.1 50 17) (hq1 : v1.2.2.1 = N1.1 50 15) (hO2 : WOj (z_ui (rcW (z_ui (z_ui W1 (18 + 8 * t) 4 ((x.1 (18 + 8 * t) 4) - ((hnd (v1.1 * (bif decide ((nI u1) = (nI dl)) then (6 : Int32) else 4))) + (300 * (x.1 0 11))))) (18 + 8 * u1) 4 ((x.1 (18 + 8 * u1) 4) + (((hnd (v1.1 * (bif decide ((nI u1) = (nI dl)) then (6 : Int32) else 4))) + (300 * (x.1 0 11))) + ((x.1 0 12) * 1000)))) 0 (nI u1) (nI t) (((hnd (v1.1 * (bif decide ((nI u1) = (nI dl)) then (6 : Int32) else 4))) + (300 * (x.1 0 11))) + ((x.1 0 12) * 1000))) 0 12 0) W2) (hv2 : bqJ W2 = v2) (hb2 : v2.1 = N2.1 50 13) (hh2 : v2.2.1 = N2.1 50 14) (hf2 : v2.2.2.2 = N2.2.1 50 17) (hq2 : v2.2.2.1 = N2.1 50 15) (hO3 : WOj (z_ui (rcW (z_ui (z_ui W2 (18 + 8 * t) 4 (((x.1 (18 + 8 * t) 4) - ((hnd (v1.1 * (bif decide ((nI u1) = (nI dl)) then (6 : Int32) else 4))) + (300 * (x.1 0 11)))) - ((hnd (v2.1 * (bif decide ((nI u2) = (nI dl)) then (6 : Int32) else 4))) + 0))) (18 + 8 * u2) 4 ((x.1 (18 + 8 * u2) 4) + (((hnd (v2.1 * (bif decide ((nI u2) = (nI dl)) then (6 : Int32) else 4))) + 0) + 0))) 1 (nI u2) (nI t) (((hnd (v2.1 * (bif decide ((nI u2) = (nI dl)) then (6 : Int32) else 4))) + 0) + 0)) 0 12 0) W3) (hv3 : bqJ W3 = v3) (hb3 : v3.1 = N3.1 50 13) (hh3 : v3.2.1 = N3.1 50 14) (hf3 : v3.2.2.2 = N3.2.1 50 17) (hq3 : v3.2.2.1 = N3.1 50 15) : (wa111 W3 t dl u1 u2 u3 v1 v2 v3 x).1 (25 + 8 * 2) 0 = (aq111 m N1 N2 N3 t dl c u1 u2 u3).1 72 (7 * 2 + 0) := by
  have o1 := fun r k h => (hO1 r k h).1
  have j1 := fun r k h => (hO1 r k h).2
  have a1 : W1.1 4 0 = N1.1 50 13 := (congrArg (fun q => q.1) hv1).trans hb1
  have b1 : W1.1 4 1 = N1.1 50 14 := (congrArg (fun q => q.2.1) hv1).trans hh1
  have d1 : W1.2.1 4 3 = N1.2.1 50 17 := (congrArg (fun q => q.2.2.2) hv1).trans hf1
  have p1 : W1.1 4 2 = N1.1 50 15 := (congrArg (fun q => q.2.2.1) hv1).trans hq1
  clear hO1
  have o2 := fun r k h => (hO2 r k h).1
  have j2 := fun r k h => (hO2 r k h).2
  have a2 : W2.1 4 0 = N2.1 50 13 := (congrArg (fun q => q.1) hv2).trans hb2
  have b2 : W2.1 4 1 = N2.1 50 14 := (congrArg (fun q => q.2.1) hv2).trans hh2
  have d2 : W2.2.1 4 3 = N2.2.1 50 17 := (congrArg (fun q => q.2.2.2) hv2).trans hf2
  have p2 : W2.1 4 2 = N2.1 50 15 := (congrArg (fun q => q.2.2.1) hv2).trans hq2
  clear hO2
  have o3 := fun r k h => (hO3 r k h).1
  have j3 := fun r k h => (hO3 r k h).2
  have a3 : W3.1 4 0 = N3.1 50 13 := (congrArg (fun q => q.1) hv3).trans hb3
  have b3 : W3.1 4 1 = N3.1 50 14 := (congrArg (fun q => q.2.1) hv3).trans hh3
  have d3 : W3.2.1 4 3 = N3.2.1 50 17 := (congrArg (fun q => q.2.2.2) hv3).trans hf3
  have p3 : W3.1 4 2 = N3.1 50 15 := (congrArg (fun q => q.2.2.1) hv3).trans hq3
  clear hO3
  have h1 : u1 < 4 := by omega
  have h2 : u2 < 4 := by omega
  have h3 : u3 < 4 := by omega
  have et := R.pt t ht
  have eu1 := R.pt u1 h1
  have eu2 := R.pt u2 h2
  have eu3 := R.pt u3 h3
  have est := R.st
  have ebt := R.bt
  unfold wa111 aq111
  unfold rcW at *
  simp (disch := first | decide | exact ad_ne (by decide) | exact ad_m (by decide) | exact ad_l (by decide) | exact ad_g (by decide) | exact ad_lt (by decide) | exact ad_o (by decide) | omega) only [↓ui_s, ↓uj_s, ↓ui_o, ↓ui_k, ↓uj_o, ↓uj_k, ↓ui_j, ↓uj_i, ↓o1, ↓j1, ↓o2, ↓j2, ↓o3, ↓j3, ui_s, uj_s, ui_o, ui_k, uj_o, uj_k, ui_j, uj_i, o1, j1, o2, j2, o3, j3]
  first | done | with_reducible rfl | (simp only [et, eu1, eu2, eu3, hb1, hh1, hf1, hq1, a1, b1, d1, p1, hb2, hh2, hf2, hq2, a2, b2, d2, p2, hb3, hh3, hf3, hq3, a3, b3, d3, p3, hc, est, ebt, Int32.zero_add, Int32.add_zero, Int32.zero_mul, Int32.mul_zero]; first | done | with_reducible rfl | (rw [Int32.mul_comm (m.1 50 43)]; first | done | ac_rfl)) | rfl
theorem rc_aw111_wi21 {x m W1 W2 W3 N1 N2 N3 : zM} {v1 v2 v3 : Q4} (R : RCl x m) {t dl c u1 u2 u3 : Nat} (ht : t < 4) (hu1 : (t + 1) % 4 = u1) (hu2 : (t + 2) % 4 = u2) (hu3 : (t + 3) % 4 = u3) (hc : x.1 0 15 = nI c) (hO1 : WOj (x) W1) (hv1 : bqJ W1 = v1) (hb1 : v1.1 = N1.1 50 13) (hh1 : v1.2.1 = N1.1 50 14) (hf1 : v1.2.2.2 = N1.2.1 50 17) (hq1 : v1.2.2.1 = N1.1 50 15) (hO2 : WOj (z_ui (rcW (z_ui (z_ui W1 (18 + 8 * t) 4 ((x.1 (18 + 8 * t) 4) - ((hnd (v1.1 * (bif decide ((nI u1) = (nI dl)) then (6 : Int32) else 4))) + (300 * (x.1 0 11))))) (18 + 8 * u1) 4 ((x.1 (18 + 8 * u1) 4) + (((hnd (v1.1 * (bif decide ((nI u1) = (nI dl)) then (6 : Int32) else 4))) + (300 * (x.1 0 11))) + ((x.1 0 12) * 1000)))) 0 (nI u1) (nI t) (((hnd (v1.1 * (bif decide ((nI u1) = (nI dl)) then (6 : Int32) else 4))) + (300 * (x.1 0 11))) + ((x.1 0 12) * 1000))) 0 12 0) W2) (hv2 : bqJ W2 = v2) (hb2 : v2.1 = N2.1 50 13) (hh2 : v2.2.1 = N2.1 50 14) (hf2 : v2.2.2.2 = N2.2.1 50 17) (hq2 : v2.2.2.1 = N2.1 50 15) (hO3 : WOj (z_ui (rcW (z_ui (z_ui W2 (18 + 8 * t) 4 (((x.1 (18 + 8 * t) 4) - ((hnd (v1.1 * (bif decide ((nI u1) = (nI dl)) then (6 : Int32) else 4))) + (300 * (x.1 0 11)))) - ((hnd (v2.1 * (bif decide ((nI u2) = (nI dl)) then (6 : Int32) else 4))) + 0))) (18 + 8 * u2) 4 ((x.1 (18 + 8 * u2) 4) + (((hnd (v2.1 * (bif decide ((nI u2) = (nI dl)) then (6 : Int32) else 4))) + 0) + 0))) 1 (nI u2) (nI t) (((hnd (v2.1 * (bif decide ((nI u2) = (nI dl)) then (6 : Int32) else 4))) + 0) + 0)) 0 12 0) W3) (hv3 : bqJ W3 = v3) (hb3 : v3.1 = N3.1 50 13) (hh3 : v3.2.1 = N3.1 50 14) (hf3 : v3.2.2.2 = N3.2.1 50 17) (hq3 : v3.2.2.1 = N3.1 50 15) : (wa111 W3 t dl u1 u2 u3 v1 v2 v3 x).1 (25 + 8 * 2) 1 = (aq111 m N1 N2 N3 t dl c u1 u2 u3).1 72 (7 * 2 + 1) := by
  have o1 := fun r k h => (hO1 r k h).1
  have j1 := fun r k h => (hO1 r k h).2
  have a1 : W1.1 4 0 = N1.1 50 13 := (congrArg (fun q => q.1) hv1).trans hb1
  have b1 : W1.1 4 1 = N1.1 50 14 := (congrArg (fun q => q.2.1) hv1).trans hh1
  have d1 : W1.2.1 4 3 = N1.2.1 50 17 := (congrArg (fun q => q.2.2.2) hv1).trans hf1
  have p1 : W1.1 4 2 = N1.1 50 15 := (congrArg (fun q => q.2.2.1) hv1).trans hq1
  clear hO1
  have o2 := fun r k h => (hO2 r k h).1
  have j2 := fun r k h => (hO2 r k h).2
  have a2 : W2.1 4 0 = N2.1 50 13 := (congrArg (fun q => q.1) hv2).trans hb2
  have b2 : W2.1 4 1 = N2.1 50 14 := (congrArg (fun q => q.2.1) hv2).trans hh2
  have d2 : W2.2.1 4 3 = N2.2.1 50 17 := (congrArg (fun q => q.2.2.2) hv2).trans hf2
  have p2 : W2.1 4 2 = N2.1 50 15 := (congrArg (fun q => q.2.2.1) hv2).trans hq2
  clear hO2
  have o3 := fun r k h => (hO3 r k h).1
  have j3 := fun r k h => (hO3 r k h).2
  have a3 : W3.1 4 0 = N3.1 50 13 := (congrArg (fun q => q.1) hv3).trans hb3
  have b3 : W3.1 4 1 = N3.1 50 14 := (congrArg (fun q => q.2.1) hv3).trans hh3
  have d3 : W3.2.1 4 3 = N3.2.1 50 17 := (congrArg (fun q => q.2.2.2) hv3).trans hf3
  have p3 : W3.1 4 2 = N3.1 50 15 := (congrArg (fun q => q.2.2.1) hv3).trans hq3
  clear hO3
  have h1 : u1 < 4 := by omega
  have h2 : u2 < 4 := by omega
  have h3 : u3 < 4 := by omega
  have et := R.pt t ht
  have eu1 := R.pt u1 h1
  have eu2 := R.pt u2 h2
  have eu3 := R.pt u3 h3
  have est := R.st
  have ebt := R.bt
  unfold wa111 aq111
  unfold rcW at *
  simp (disch := first | decide | exact ad_ne (by decide) | exact ad_m (by decide) | exact ad_l (by decide) | exact ad_g (by decide) | exact ad_lt (by decide) | exact ad_o (by decide) | omega) only [↓ui_s, ↓uj_s, ↓ui_o, ↓ui_k, ↓uj_o, ↓uj_k, ↓ui_j, ↓uj_i, ↓o1, ↓j1, ↓o2, ↓j2, ↓o3, ↓j3, ui_s, uj_s, ui_o, ui_k, uj_o, uj_k, ui_j, uj_i, o1, j1, o2, j2, o3, j3]
  first | done | with_reducible rfl | (simp only [et, eu1, eu2, eu3, hb1, hh1, hf1, hq1, a1, b1, d1, p1, hb2, hh2, hf2, hq2, a2, b2, d2, p2, hb3, hh3, hf3, hq3, a3, b3, d3, p3, hc, est, ebt, Int32.zero_add, Int32.add_zero, Int32.zero_mul, Int32.mul_zero]; first | done | with_reducible rfl | (rw [Int32.mul_comm (m.1 50 43)]; first | done | ac_rfl)) | rfl
theorem rc_aw111_wi22 {x m W1 W2 W3 N1 N2 N3 : zM} {v1 v2 v3 : Q4} (R : RCl x m) {t dl c u1 u2 u3 : Nat} (ht : t < 4) (hu1 : (t + 1) % 4 = u1) (hu2 : (t + 2) % 4 = u2) (hu3 : (t + 3) % 4 = u3) (hc : x.1 0 15 = nI c) (hO1 : WOj (x) W1) (hv1 : bqJ W1 = v1) (hb1 : v1.1 = N1.1 50 13) (hh1 : v1.2.1 = N1.1 50 14) (hf1 : v1.2.2.2 = N1.2.1 50 17) (hq1 : v1.2.2.1 = N1.1 50 15) (hO2 : WOj (z_ui (rcW (z_ui (z_ui W1 (18 + 8 * t) 4 ((x.1 (18 + 8 * t) 4) - ((hnd (v1.1 * (bif decide ((nI u1) = (nI dl)) then (6 : Int32) else 4))) + (300 * (x.1 0 11))))) (18 + 8 * u1) 4 ((x.1 (18 + 8 * u1) 4) + (((hnd (v1.1 * (bif decide ((nI u1) = (nI dl)) then (6 : Int32) else 4))) + (300 * (x.1 0 11))) + ((x.1 0 12) * 1000)))) 0 (nI u1) (nI t) (((hnd (v1.1 * (bif decide ((nI u1) = (nI dl)) then (6 : Int32) else 4))) + (300 * (x.1 0 11))) + ((x.1 0 12) * 1000))) 0 12 0) W2) (hv2 : bqJ W2 = v2) (hb2 : v2.1 = N2.1 50 13) (hh2 : v2.2.1 = N2.1 50 14) (hf2 : v2.2.2.2 = N2.2.1 50 17) (hq2 : v2.2.2.1 = N2.1 50 15) (hO3 : WOj (z_ui (rcW (z_ui (z_ui W2 (18 + 8 * t) 4 (((x.1 (18 + 8 * t) 4) - ((hnd (v1.1 * (bif decide ((nI u1) = (nI dl)) then (6 : Int32) else 4))) + (300 * (x.1 0 11)))) - ((hnd (v2.1 * (bif decide ((nI u2) = (nI dl)) then (6 : Int32) else 4))) + 0))) (18 + 8 * u2) 4 ((x.1 (18 + 8 * u2) 4) + (((hnd (v2.1 * (bif decide ((nI u2) = (nI dl)) then (6 : Int32) else 4))) + 0) + 0))) 1 (nI u2) (nI t) (((hnd (v2.1 * (bif decide ((nI u2) = (nI dl)) then (6 : Int32) else 4))) + 0) + 0)) 0 12 0) W3) (hv3 : bqJ W3 = v3) (hb3 : v3.1 = N3.1 50 13) (hh3 : v3.2.1 = N3.1 50 14) (hf3 : v3.2.2.2 = N3.2.1 50 17) (hq3 : v3.2.2.1 = N3.1 50 15) : (wa111 W3 t dl u1 u2 u3 v1 v2 v3 x).1 (25 + 8 * 2) 2 = (aq111 m N1 N2 N3 t dl c u1 u2 u3).1 72 (7 * 2 + 2) := by
  have o1 := fun r k h => (hO1 r k h).1
  have j1 := fun r k h => (hO1 r k h).2
  have a1 : W1.1 4 0 = N1.1 50 13 := (congrArg (fun q => q.1) hv1).trans hb1
  have b1 : W1.1 4 1 = N1.1 50 14 := (congrArg (fun q => q.2.1) hv1).trans hh1
  have d1 : W1.2.1 4 3 = N1.2.1 50 17 := (congrArg (fun q => q.2.2.2) hv1).trans hf1
  have p1 : W1.1 4 2 = N1.1 50 15 := (congrArg (fun q => q.2.2.1) hv1).trans hq1
  clear hO1
  have o2 := fun r k h => (hO2 r k h).1
  have j2 := fun r k h => (hO2 r k h).2
  have a2 : W2.1 4 0 = N2.1 50 13 := (congrArg (fun q => q.1) hv2).trans hb2
  have b2 : W2.1 4 1 = N2.1 50 14 := (congrArg (fun q => q.2.1) hv2).trans hh2
  have d2 : W2.2.1 4 3 = N2.2.1 50 17 := (congrArg (fun q => q.2.2.2) hv2).trans hf2
  have p2 : W2.1 4 2 = N2.1 50 15 := (congrArg (fun q => q.2.2.1) hv2).trans hq2
  clear hO2
  have o3 := fun r k h => (hO3 r k h).1
  have j3 := fun r k h => (hO3 r k h).2
  have a3 : W3.1 4 0 = N3.1 50 13 := (congrArg (fun q => q.1) hv3).trans hb3
  have b3 : W3.1 4 1 = N3.1 50 14 := (congrArg (fun q => q.2.1) hv3).trans hh3
  have d3 : W3.2.1 4 3 = N3.2.1 50 17 := (congrArg (fun q => q.2.2.2) hv3).trans hf3
  have p3 : W3.1 4 2 = N3.1 50 15 := (congrArg (fun q => q.2.2.1) hv3).trans hq3
  clear hO3
  have h1 : u1 < 4 := by omega
  have h2 : u2 < 4 := by omega
  have h3 : u3 < 4 := by omega
  have et := R.pt t ht
  have eu1 := R.pt u1 h1
  have eu2 := R.pt u2 h2
  have eu3 := R.pt u3 h3
  have est := R.st
  have ebt := R.bt
  unfold wa111 aq111
  unfold rcW at *
  simp (disch := first | decide | exact ad_ne (by decide) | exact ad_m (by decide) | exact ad_l (by decide) | exact ad_g (by decide) | exact ad_lt (by decide) | exact ad_o (by decide) | omega) only [↓ui_s, ↓uj_s, ↓ui_o, ↓ui_k, ↓uj_o, ↓uj_k, ↓ui_j, ↓uj_i, ↓o1, ↓j1, ↓o2, ↓j2, ↓o3, ↓j3, ui_s, uj_s, ui_o, ui_k, uj_o, uj_k, ui_j, uj_i, o1, j1, o2, j2, o3, j3]
  first | done | with_reducible rfl | (simp only [et, eu1, eu2, eu3, hb1, hh1, hf1, hq1, a1, b1, d1, p1, hb2, hh2, hf2, hq2, a2, b2, d2, p2, hb3, hh3, hf3, hq3, a3, b3, d3, p3, hc, est, ebt, Int32.zero_add, Int32.add_zero, Int32.zero_mul, Int32.mul_zero]; first | done | with_reducible rfl | (rw [Int32.mul_comm (m.1 50 43)]; first | done | ac_rfl)) | rfl
theorem rc_aw111_wi23 {x m W1 W2 W3 N1 N2 N3 : zM} {v1 v2 v3 : Q4} (R : RCl x m) {t dl c u1 u2 u3 : Nat} (ht : t < 4) (hu1 : (t + 1) % 4 = u1) (hu2 : (t + 2) % 4 = u2) (hu3 : (t + 3) % 4 = u3) (hc : x.1 0 15 = nI c) (hO1 : WOj (x) W1) (hv1 : bqJ W1 = v1) (hb1 : v1.1 = N1.1 50 13) (hh1 : v1.2.1 = N1.1 50 14) (hf1 : v1.2.2.2 = N1.2.1 50 17) (hq1 : v1.2.2.1 = N1.1 50 15) (hO2 : WOj (z_ui (rcW (z_ui (z_ui W1 (18 + 8 * t) 4 ((x.1 (18 + 8 * t) 4) - ((hnd (v1.1 * (bif decide ((nI u1) = (nI dl)) then (6 : Int32) else 4))) + (300 * (x.1 0 11))))) (18 + 8 * u1) 4 ((x.1 (18 + 8 * u1) 4) + (((hnd (v1.1 * (bif decide ((nI u1) = (nI dl)) then (6 : Int32) else 4))) + (300 * (x.1 0 11))) + ((x.1 0 12) * 1000)))) 0 (nI u1) (nI t) (((hnd (v1.1 * (bif decide ((nI u1) = (nI dl)) then (6 : Int32) else 4))) + (300 * (x.1 0 11))) + ((x.1 0 12) * 1000))) 0 12 0) W2) (hv2 : bqJ W2 = v2) (hb2 : v2.1 = N2.1 50 13) (hh2 : v2.2.1 = N2.1 50 14) (hf2 : v2.2.2.2 = N2.2.1 50 17) (hq2 : v2.2.2.1 = N2.1 50 15) (hO3 : WOj (z_ui (rcW (z_ui (z_ui W2 (18 + 8 * t) 4 (((x.1 (18 + 8 * t) 4) - ((hnd (v1.1 * (bif decide ((nI u1) = (nI dl)) then (6 : Int32) else 4))) + (300 * (x.1 0 11)))) - ((hnd (v2.1 * (bif decide ((nI u2) = (nI dl)) then (6 : Int32) else 4))) + 0))) (18 + 8 * u2) 4 ((x.1 (18 + 8 * u2) 4) + (((hnd (v2.1 * (bif decide ((nI u2) = (nI dl)) then (6 : Int32) else 4))) + 0) + 0))) 1 (nI u2) (nI t) (((hnd (v2.1 * (bif decide ((nI u2) = (nI dl)) then (6 : Int32) else 4))) + 0) + 0)) 0 12 0) W3) (hv3 : bqJ W3 = v3) (hb3 : v3.1 = N3.1 50 13) (hh3 : v3.2.1 = N3.1 50 14) (hf3 : v3.2.2.2 = N3.2.1 50 17) (hq3 : v3.2.2.1 = N3.1 50 15) : (wa111 W3 t dl u1 u2 u3 v1 v2 v3 x).1 (25 + 8 * 2) 3 = (aq111 m N1 N2 N3 t dl c u1 u2 u3).1 72 (7 * 2 + 3) := by
  have o1 := fun r k h => (hO1 r k h).1
  have j1 := fun r k h => (hO1 r k h).2
  have a1 : W1.1 4 0 = N1.1 50 13 := (congrArg (fun q => q.1) hv1).trans hb1
  have b1 : W1.1 4 1 = N1.1 50 14 := (congrArg (fun q => q.2.1) hv1).trans hh1
  have d1 : W1.2.1 4 3 = N1.2.1 50 17 := (congrArg (fun q => q.2.2.2) hv1).trans hf1
  have p1 : W1.1 4 2 = N1.1 50 15 := (congrArg (fun q => q.2.2.1) hv1).trans hq1
  clear hO1
  have o2 := fun r k h => (hO2 r k h).1
  have j2 := fun r k h => (hO2 r k h).2
  have a2 : W2.1 4 0 = N2.1 50 13 := (congrArg (fun q => q.1) hv2).trans hb2
  have b2 : W2.1 4 1 = N2.1 50 14 := (congrArg (fun q => q.2.1) hv2).trans hh2
  have d2 : W2.2.1 4 3 = N2.2.1 50 17 := (congrArg (fun q => q.2.2.2) hv2).trans hf2
  have p2 : W2.1 4 2 = N2.1 50 15 := (congrArg (fun q => q.2.2.1) hv2).trans hq2
  clear hO2
  have o3 := fun r k h => (hO3 r k h).1
  have j3 := fun r k h => (hO3 r k h).2
  have a3 : W3.1 4 0 = N3.1 50 13 := (congrArg (fun q => q.1) hv3).trans hb3
  have b3 : W3.1 4 1 = N3.1 50 14 := (congrArg (fun q => q.2.1) hv3).trans hh3
  have d3 : W3.2.1 4 3 = N3.2.1 50 17 := (congrArg (fun q => q.2.2.2) hv3).trans hf3
  have p3 : W3.1 4 2 = N3.1 50 15 := (congrArg (fun q => q.2.2.1) hv3).trans hq3
  clear hO3
  have h1 : u1 < 4 := by omega
  have h2 : u2 < 4 := by omega
  have h3 : u3 < 4 := by omega
  have et := R.pt t ht
  have eu1 := R.pt u1 h1
  have eu2 := R.pt u2 h2
  have eu3 := R.pt u3 h3
  have est := R.st
  have ebt := R.bt
  unfold wa111 aq111
  unfold rcW at *
  simp (disch := first | decide | exact ad_ne (by decide) | exact ad_m (by decide) | exact ad_l (by decide) | exact ad_g (by decide) | exact ad_lt (by decide) | exact ad_o (by decide) | omega) only [↓ui_s, ↓uj_s, ↓ui_o, ↓ui_k, ↓uj_o, ↓uj_k, ↓ui_j, ↓uj_i, ↓o1, ↓j1, ↓o2, ↓j2, ↓o3, ↓j3, ui_s, uj_s, ui_o, ui_k, uj_o, uj_k, ui_j, uj_i, o1, j1, o2, j2, o3, j3]
  first | done | with_reducible rfl | (simp only [et, eu1, eu2, eu3, hb1, hh1, hf1, hq1, a1, b1, d1, p1, hb2, hh2, hf2, hq2, a2, b2, d2, p2, hb3, hh3, hf3, hq3, a3, b3, d3, p3, hc, est, ebt, Int32.zero_add, Int32.add_zero, Int32.zero_mul, Int32.mul_zero]; first | done | with_reducible rfl | (rw [Int32.mul_comm (m.1 50 43)]; first | done | ac_rfl)) | rfl
theorem rc_aw111_wi24 {x m W1 W2 W3 N1 N2 N3 : zM} {v1 v2 v3 : Q4} (R : RCl x m) {t dl c u1 u2 u3 : Nat} (ht : t < 4) (hu1 : (t + 1) % 4 = u1) (hu2 : (t + 2) % 4 = u2) (hu3 : (t + 3) % 4 = u3) (hc : x.1 0 15 = nI c) (hO1 : WOj (x) W1) (hv1 : bqJ W1 = v1) (hb1 : v1.1 = N1.1 50 13) (hh1 : v1.2.1 = N1.1 50 14) (hf1 : v1.2.2.2 = N1.2.1 50 17) (hq1 : v1.2.2.1 = N1.1 50 15) (hO2 : WOj (z_ui (rcW (z_ui (z_ui W1 (18 + 8 * t) 4 ((x.1 (18 + 8 * t) 4) - ((hnd (v1.1 * (bif decide ((nI u1) = (nI dl)) then (6 : Int32) else 4))) + (300 * (x.1 0 11))))) (18 + 8 * u1) 4 ((x.1 (18 + 8 * u1) 4) + (((hnd (v1.1 * (bif decide ((nI u1) = (nI dl)) then (6 : Int32) else 4))) + (300 * (x.1 0 11))) + ((x.1 0 12) * 1000)))) 0 (nI u1) (nI t) (((hnd (v1.1 * (bif decide ((nI u1) = (nI dl)) then (6 : Int32) else 4))) + (300 * (x.1 0 11))) + ((x.1 0 12) * 1000))) 0 12 0) W2) (hv2 : bqJ W2 = v2) (hb2 : v2.1 = N2.1 50 13) (hh2 : v2.2.1 = N2.1 50 14) (hf2 : v2.2.2.2 = N2.2.1 50 17) (hq2 : v2.2.2.1 = N2.1 50 15) (hO3 : WOj (z_ui (rcW (z_ui (z_ui W2 (18 + 8 * t) 4 (((x.1 (18 + 8 * t) 4) - ((hnd (v1.1 * (bif decide ((nI u1) = (nI dl)) then (6 : Int32) else 4))) + (300 * (x.1 0 11)))) - ((hnd (v2.1 * (bif decide ((nI u2) = (nI dl)) then (6 : Int32) else 4))) + 0))) (18 + 8 * u2) 4 ((x.1 (18 + 8 * u2) 4) + (((hnd (v2.1 * (bif decide ((nI u2) = (nI dl)) then (6 : Int32) else 4))) + 0) + 0))) 1 (nI u2) (nI t) (((hnd (v2.1 * (bif decide ((nI u2) = (nI dl)) then (6 : Int32) else 4))) + 0) + 0)) 0 12 0) W3) (hv3 : bqJ W3 = v3) (hb3 : v3.1 = N3.1 50 13) (hh3 : v3.2.1 = N3.1 50 14) (hf3 : v3.2.2.2 = N3.2.1 50 17) (hq3 : v3.2.2.1 = N3.1 50 15) : (wa111 W3 t dl u1 u2 u3 v1 v2 v3 x).1 (25 + 8 * 2) 4 = (aq111 m N1 N2 N3 t dl c u1 u2 u3).1 72 (7 * 2 + 4) := by
  have o1 := fun r k h => (hO1 r k h).1
  have j1 := fun r k h => (hO1 r k h).2
  have a1 : W1.1 4 0 = N1.1 50 13 := (congrArg (fun q => q.1) hv1).trans hb1
  have b1 : W1.1 4 1 = N1.1 50 14 := (congrArg (fun q => q.2.1) hv1).trans hh1
  have d1 : W1.2.1 4 3 = N1.2.1 50 17 := (congrArg (fun q => q.2.2.2) hv1).trans hf1
  have p1 : W1.1 4 2 = N1.1 50 15 := (congrArg (fun q => q.2.2.1) hv1).trans hq1
  clear hO1
  have o2 := fun r k h => (hO2 r k h).1
  have j2 := fun r k h => (hO2 r k h).2
  have a2 : W2.1 4 0 = N2.1 50 13 := (congrArg (fun q => q.1) hv2).trans hb2
  have b2 : W2.1 4 1 = N2.1 50 14 := (congrArg (fun q => q.2.1) hv2).trans hh2
  have d2 : W2.2.1 4 3 = N2.2.1 50 17 := (congrArg (fun q => q.2.2.2) hv2).trans hf2
  have p2 : W2.1 4 2 = N2.1 50 15 := (congrArg (fun q => q.2.2.1) hv2).trans hq2
  clear hO2
  have o3 := fun r k h => (hO3 r k h).1
  have j3 := fun r k h => (hO3 r k h).2
  have a3 : W3.1 4 0 = N3.1 50 13 := (congrArg (fun q => q.1) hv3).trans hb3
  have b3 : W3.1 4 1 = N3.1 50 14 := (congrArg (fun q => q.2.1) hv3).trans hh3
  have d3 : W3.2.1 4 3 = N3.2.1 50 17 := (congrArg (fun q => q.2.2.2) hv3).trans hf3
  have p3 : W3.1 4 2 = N3.1 50 15 := (congrArg (fun q => q.2.2.1) hv3).trans hq3
  clear hO3
  have h1 : u1 < 4 := by omega
  have h2 : u2 < 4 := by omega
  have h3 : u3 < 4 := by omega
  have et := R.pt t ht
  have eu1 := R.pt u1 h1
  have eu2 := R.pt u2 h2
  have eu3 := R.pt u3 h3
  have est := R.st
  have ebt := R.bt
  unfold wa111 aq111
  unfold rcW at *
  simp (disch := first | decide | exact ad_ne (by decide) | exact ad_m (by decide) | exact ad_l (by decide) | exact ad_g (by decide) | exact ad_lt (by decide) | exact ad_o (by decide) | omega) only [↓ui_s, ↓uj_s, ↓ui_o, ↓ui_k, ↓uj_o, ↓uj_k, ↓ui_j, ↓uj_i, ↓o1, ↓j1, ↓o2, ↓j2, ↓o3, ↓j3, ui_s, uj_s, ui_o, ui_k, uj_o, uj_k, ui_j, uj_i, o1, j1, o2, j2, o3, j3]
  first | done | with_reducible rfl | (simp only [et, eu1, eu2, eu3, hb1, hh1, hf1, hq1, a1, b1, d1, p1, hb2, hh2, hf2, hq2, a2, b2, d2, p2, hb3, hh3, hf3, hq3, a3, b3, d3, p3, hc, est, ebt, Int32.zero_add, Int32.add_zero, Int32.zero_mul, Int32.mul_zero]; first | done | with_reducible rfl | (rw [Int32.mul_comm (m.1 50 43)]; first | done | ac_rfl)) | rfl
theorem rc_aw111_wi25 {x m W1 W2 W3 N1 N2 N3 : zM} {v1 v2 v3 : Q4} (R : RCl x m) {t dl c u1 u2 u3 : Nat} (ht : t < 4) (hu1 : (t + 1) % 4 = u1) (hu2 : (t + 2) % 4 = u2) (hu3 : (t + 3) % 4 = u3) (hc : x.1 0 15 = nI c) (hO1 : WOj (x) W1) (hv1 : bqJ W1 = v1) (hb1 : v1.1 = N1.1 50 13) (hh1 : v1.2.1 = N1.1 50 14) (hf1 : v1.2.2.2 = N1.2.1 50 17) (hq1 : v1.2.2.1 = N1.1 50 15) (hO2 : WOj (z_ui (rcW (z_ui (z_ui W1 (18 + 8 * t) 4 ((x.1 (18 + 8 * t) 4) - ((hnd (v1.1 * (bif decide ((nI u1) = (nI dl)) then (6 : Int32) else 4))) + (300 * (x.1 0 11))))) (18 + 8 * u1) 4 ((x.1 (18 + 8 * u1) 4) + (((hnd (v1.1 * (bif decide ((nI u1) = (nI dl)) then (6 : Int32) else 4))) + (300 * (x.1 0 11))) + ((x.1 0 12) * 1000)))) 0 (nI u1) (nI t) (((hnd (v1.1 * (bif decide ((nI u1) = (nI dl)) then (6 : Int32) else 4))) + (300 * (x.1 0 11))) + ((x.1 0 12) * 1000))) 0 12 0) W2) (hv2 : bqJ W2 = v2) (hb2 : v2.1 = N2.1 50 13) (hh2 : v2.2.1 = N2.1 50 14) (hf2 : v2.2.2.2 = N2.2.1 50 17) (hq2 : v2.2.2.1 = N2.1 50 15) (hO3 : WOj (z_ui (rcW (z_ui (z_ui W2 (18 + 8 * t) 4 (((x.1 (18 + 8 * t) 4) - ((hnd (v1.1 * (bif decide ((nI u1) = (nI dl)) then (6 : Int32) else 4))) + (300 * (x.1 0 11)))) - ((hnd (v2.1 * (bif decide ((nI u2) = (nI dl)) then (6 : Int32) else 4))) + 0))) (18 + 8 * u2) 4 ((x.1 (18 + 8 * u2) 4) + (((hnd (v2.1 * (bif decide ((nI u2) = (nI dl)) then (6 : Int32) else 4))) + 0) + 0))) 1 (nI u2) (nI t) (((hnd (v2.1 * (bif decide ((nI u2) = (nI dl)) then (6 : Int32) else 4))) + 0) + 0)) 0 12 0) W3) (hv3 : bqJ W3 = v3) (hb3 : v3.1 = N3.1 50 13) (hh3 : v3.2.1 = N3.1 50 14) (hf3 : v3.2.2.2 = N3.2.1 50 17) (hq3 : v3.2.2.1 = N3.1 50 15) : (wa111 W3 t dl u1 u2 u3 v1 v2 v3 x).1 (25 + 8 * 2) 5 = (aq111 m N1 N2 N3 t dl c u1 u2 u3).1 72 (7 * 2 + 5) := by
  have o1 := fun r k h => (hO1 r k h).1
  have j1 := fun r k h => (hO1 r k h).2
  have a1 : W1.1 4 0 = N1.1 50 13 := (congrArg (fun q => q.1) hv1).trans hb1
  have b1 : W1.1 4 1 = N1.1 50 14 := (congrArg (fun q => q.2.1) hv1).trans hh1
  have d1 : W1.2.1 4 3 = N1.2.1 50 17 := (congrArg (fun q => q.2.2.2) hv1).trans hf1
  have p1 : W1.1 4 2 = N1.1 50 15 := (congrArg (fun q => q.2.2.1) hv1).trans hq1
  clear hO1
  have o2 := fun r k h => (hO2 r k h).1
  have j2 := fun r k h => (hO2 r k h).2
  have a2 : W2.1 4 0 = N2.1 50 13 := (congrArg (fun q => q.1) hv2).trans hb2
  have b2 : W2.1 4 1 = N2.1 50 14 := (congrArg (fun q => q.2.1) hv2).trans hh2
  have d2 : W2.2.1 4 3 = N2.2.1 50 17 := (congrArg (fun q => q.2.2.2) hv2).trans hf2
  have p2 : W2.1 4 2 = N2.1 50 15 := (congrArg (fun q => q.2.2.1) hv2).trans hq2
  clear hO2
  have o3 := fun r k h => (hO3 r k h).1
  have j3 := fun r k h => (hO3 r k h).2
  have a3 : W3.1 4 0 = N3.1 50 13 := (congrArg (fun q => q.1) hv3).trans hb3
  have b3 : W3.1 4 1 = N3.1 50 14 := (congrArg (fun q => q.2.1) hv3).trans hh3
  have d3 : W3.2.1 4 3 = N3.2.1 50 17 := (congrArg (fun q => q.2.2.2) hv3).trans hf3
  have p3 : W3.1 4 2 = N3.1 50 15 := (congrArg (fun q => q.2.2.1) hv3).trans hq3
  clear hO3
  have h1 : u1 < 4 := by omega
  have h2 : u2 < 4 := by omega
  have h3 : u3 < 4 := by omega
  have et := R.pt t ht
  have eu1 := R.pt u1 h1
  have eu2 := R.pt u2 h2
  have eu3 := R.pt u3 h3
  have est := R.st
  have ebt := R.bt
  unfold wa111 aq111
  unfold rcW at *
  simp (disch := first | decide | exact ad_ne (by decide) | exact ad_m (by decide) | exact ad_l (by decide) | exact ad_g (by decide) | exact ad_lt (by decide) | exact ad_o (by decide) | omega) only [↓ui_s, ↓uj_s, ↓ui_o, ↓ui_k, ↓uj_o, ↓uj_k, ↓ui_j, ↓uj_i, ↓o1, ↓j1, ↓o2, ↓j2, ↓o3, ↓j3, ui_s, uj_s, ui_o, ui_k, uj_o, uj_k, ui_j, uj_i, o1, j1, o2, j2, o3, j3]
  first | done | with_reducible rfl | (simp only [et, eu1, eu2, eu3, hb1, hh1, hf1, hq1, a1, b1, d1, p1, hb2, hh2, hf2, hq2, a2, b2, d2, p2, hb3, hh3, hf3, hq3, a3, b3, d3, p3, hc, est, ebt, Int32.zero_add, Int32.add_zero, Int32.zero_mul, Int32.mul_zero]; first | done | with_reducible rfl | (rw [Int32.mul_comm (m.1 50 43)]; first | done | ac_rfl)) | rfl
theorem rc_aw111_wi26 {x m W1 W2 W3 N1 N2 N3 : zM} {v1 v2 v3 : Q4} (R : RCl x m) {t dl c u1 u2 u3 : Nat} (ht : t < 4) (hu1 : (t + 1) % 4 = u1) (hu2 : (t + 2) % 4 = u2) (hu3 : (t + 3) % 4 = u3) (hc : x.1 0 15 = nI c) (hO1 : WOj (x) W1) (hv1 : bqJ W1 = v1) (hb1 : v1.1 = N1.1 50 13) (hh1 : v1.2.1 = N1.1 50 14) (hf1 : v1.2.2.2 = N1.2.1 50 17) (hq1 : v1.2.2.1 = N1.1 50 15) (hO2 : WOj (z_ui (rcW (z_ui (z_ui W1 (18 + 8 * t) 4 ((x.1 (18 + 8 * t) 4) - ((hnd (v1.1 * (bif decide ((nI u1) = (nI dl)) then (6 : Int32) else 4))) + (300 * (x.1 0 11))))) (18 + 8 * u1) 4 ((x.1 (18 + 8 * u1) 4) + (((hnd (v1.1 * (bif decide ((nI u1) = (nI dl)) then (6 : Int32) else 4))) + (300 * (x.1 0 11))) + ((x.1 0 12) * 1000)))) 0 (nI u1) (nI t) (((hnd (v1.1 * (bif decide ((nI u1) = (nI dl)) then (6 : Int32) else 4))) + (300 * (x.1 0 11))) + ((x.1 0 12) * 1000))) 0 12 0) W2) (hv2 : bqJ W2 = v2) (hb2 : v2.1 = N2.1 50 13) (hh2 : v2.2.1 = N2.1 50 14) (hf2 : v2.2.2.2 = N2.2.1 50 17) (hq2 : v2.2.2.1 = N2.1 50 15) (hO3 : WOj (z_ui (rcW (z_ui (z_ui W2 (18 + 8 * t) 4 (((x.1 (18 + 8 * t) 4) - ((hnd (v1.1 * (bif decide ((nI u1) = (nI dl)) then (6 : Int32) else 4))) + (300 * (x.1 0 11)))) - ((hnd (v2.1 * (bif decide ((nI u2) = (nI dl)) then (6 : Int32) else 4))) + 0))) (18 + 8 * u2) 4 ((x.1 (18 + 8 * u2) 4) + (((hnd (v2.1 * (bif decide ((nI u2) = (nI dl)) then (6 : Int32) else 4))) + 0) + 0))) 1 (nI u2) (nI t) (((hnd (v2.1 * (bif decide ((nI u2) = (nI dl)) then (6 : Int32) else 4))) + 0) + 0)) 0 12 0) W3) (hv3 : bqJ W3 = v3) (hb3 : v3.1 = N3.1 50 13) (hh3 : v3.2.1 = N3.1 50 14) (hf3 : v3.2.2.2 = N3.2.1 50 17) (hq3 : v3.2.2.1 = N3.1 50 15) : (wa111 W3 t dl u1 u2 u3 v1 v2 v3 x).1 (25 + 8 * 2) 6 = (aq111 m N1 N2 N3 t dl c u1 u2 u3).1 72 (7 * 2 + 6) := by
  have o1 := fun r k h => (hO1 r k h).1
  have j1 := fun r k h => (hO1 r k h).2
  have a1 : W1.1 4 0 = N1.1 50 13 := (congrArg (fun q => q.1) hv1).trans hb1
  have b1 : W1.1 4 1 = N1.1 50 14 := (congrArg (fun q => q.2.1) hv1).trans hh1
  have d1 : W1.2.1 4 3 = N1.2.1 50 17 := (congrArg (fun q => q.2.2.2) hv1).trans hf1
  have p1 : W1.1 4 2 = N1.1 50 15 := (congrArg (fun q => q.2.2.1) hv1).trans hq1
  clear hO1
  have o2 := fun r k h => (hO2 r k h).1
  have j2 := fun r k h => (hO2 r k h).2
  have a2 : W2.1 4 0 = N2.1 50 13 := (congrArg (fun q => q.1) hv2).trans hb2
  have b2 : W2.1 4 1 = N2.1 50 14 := (congrArg (fun q => q.2.1) hv2).trans hh2
  have d2 : W2.2.1 4 3 = N2.2.1 50 17 := (congrArg (fun q => q.2.2.2) hv2).trans hf2
  have p2 : W2.1 4 2 = N2.1 50 15 := (congrArg (fun q => q.2.2.1) hv2).trans hq2
  clear hO2
  have o3 := fun r k h => (hO3 r k h).1
  have j3 := fun r k h => (hO3 r k h).2
  have a3 : W3.1 4 0 = N3.1 50 13 := (congrArg (fun q => q.1) hv3).trans hb3
  have b3 : W3.1 4 1 = N3.1 50 14 := (congrArg (fun q => q.2.1) hv3).trans hh3
  have d3 : W3.2.1 4 3 = N3.2.1 50 17 := (congrArg (fun q => q.2.2.2) hv3).trans hf3
  have p3 : W3.1 4 2 = N3.1 50 15 := (congrArg (fun q => q.2.2.1) hv3).trans hq3
  clear hO3
  have h1 : u1 < 4 := by omega
  have h2 : u2 < 4 := by omega
  have h3 : u3 < 4 := by omega
  have et := R.pt t ht
  have eu1 := R.pt u1 h1
  have eu2 := R.pt u2 h2
  have eu3 := R.pt u3 h3
  have est := R.st
  have ebt := R.bt
  unfold wa111 aq111
  unfold rcW at *
  simp (disch := first | decide | exact ad_ne (by decide) | exact ad_m (by decide) | exact ad_l (by decide) | exact ad_g (by decide) | exact ad_lt (by decide) | exact ad_o (by decide) | omega) only [↓ui_s, ↓uj_s, ↓ui_o, ↓ui_k, ↓uj_o, ↓uj_k, ↓ui_j, ↓uj_i, ↓o1, ↓j1, ↓o2, ↓j2, ↓o3, ↓j3, ui_s, uj_s, ui_o, ui_k, uj_o, uj_k, ui_j, uj_i, o1, j1, o2, j2, o3, j3]
  first | done | with_reducible rfl | (simp only [et, eu1, eu2, eu3, hb1, hh1, hf1, hq1, a1, b1, d1, p1, hb2, hh2, hf2, hq2, a2, b2, d2, p2, hb3, hh3, hf3, hq3, a3, b3, d3, p3, hc, est, ebt, Int32.zero_add, Int32.add_zero, Int32.zero_mul, Int32.mul_zero]; first | done | with_reducible rfl | (rw [Int32.mul_comm (m.1 50 43)]; first | done | ac_rfl)) | rfl
theorem rc_aw111_wf2 {x m W1 W2 W3 N1 N2 N3 : zM} {v1 v2 v3 : Q4} (R : RCl x m) {t dl c u1 u2 u3 : Nat} (ht : t < 4) (hu1 : (t + 1) % 4 = u1) (hu2 : (t + 2) % 4 = u2) (hu3 : (t + 3) % 4 = u3) (hc : x.1 0 15 = nI c) (hO1 : WOj (x) W1) (hv1 : bqJ W1 = v1) (hb1 : v1.1 = N1.1 50 13) (hh1 : v1.2.1 = N1.1 50 14) (hf1 : v1.2.2.2 = N1.2.1 50 17) (hq1 : v1.2.2.1 = N1.1 50 15) (hO2 : WOj (z_ui (rcW (z_ui (z_ui W1 (18 + 8 * t) 4 ((x.1 (18 + 8 * t) 4) - ((hnd (v1.1 * (bif decide ((nI u1) = (nI dl)) then (6 : Int32) else 4))) + (300 * (x.1 0 11))))) (18 + 8 * u1) 4 ((x.1 (18 + 8 * u1) 4) + (((hnd (v1.1 * (bif decide ((nI u1) = (nI dl)) then (6 : Int32) else 4))) + (300 * (x.1 0 11))) + ((x.1 0 12) * 1000)))) 0 (nI u1) (nI t) (((hnd (v1.1 * (bif decide ((nI u1) = (nI dl)) then (6 : Int32) else 4))) + (300 * (x.1 0 11))) + ((x.1 0 12) * 1000))) 0 12 0) W2) (hv2 : bqJ W2 = v2) (hb2 : v2.1 = N2.1 50 13) (hh2 : v2.2.1 = N2.1 50 14) (hf2 : v2.2.2.2 = N2.2.1 50 17) (hq2 : v2.2.2.1 = N2.1 50 15) (hO3 : WOj (z_ui (rcW (z_ui (z_ui W2 (18 + 8 * t) 4 (((x.1 (18 + 8 * t) 4) - ((hnd (v1.1 * (bif decide ((nI u1) = (nI dl)) then (6 : Int32) else 4))) + (300 * (x.1 0 11)))) - ((hnd (v2.1 * (bif decide ((nI u2) = (nI dl)) then (6 : Int32) else 4))) + 0))) (18 + 8 * u2) 4 ((x.1 (18 + 8 * u2) 4) + (((hnd (v2.1 * (bif decide ((nI u2) = (nI dl)) then (6 : Int32) else 4))) + 0) + 0))) 1 (nI u2) (nI t) (((hnd (v2.1 * (bif decide ((nI u2) = (nI dl)) then (6 : Int32) else 4))) + 0) + 0)) 0 12 0) W3) (hv3 : bqJ W3 = v3) (hb3 : v3.1 = N3.1 50 13) (hh3 : v3.2.1 = N3.1 50 14) (hf3 : v3.2.2.2 = N3.2.1 50 17) (hq3 : v3.2.2.1 = N3.1 50 15) : (wa111 W3 t dl u1 u2 u3 v1 v2 v3 x).2.1 (25 + 8 * 2) 7 = (aq111 m N1 N2 N3 t dl c u1 u2 u3).2.1 73 2 := by
  have o1 := fun r k h => (hO1 r k h).1
  have j1 := fun r k h => (hO1 r k h).2
  have a1 : W1.1 4 0 = N1.1 50 13 := (congrArg (fun q => q.1) hv1).trans hb1
  have b1 : W1.1 4 1 = N1.1 50 14 := (congrArg (fun q => q.2.1) hv1).trans hh1
  have d1 : W1.2.1 4 3 = N1.2.1 50 17 := (congrArg (fun q => q.2.2.2) hv1).trans hf1
  have p1 : W1.1 4 2 = N1.1 50 15 := (congrArg (fun q => q.2.2.1) hv1).trans hq1
  clear hO1
  have o2 := fun r k h => (hO2 r k h).1
  have j2 := fun r k h => (hO2 r k h).2
  have a2 : W2.1 4 0 = N2.1 50 13 := (congrArg (fun q => q.1) hv2).trans hb2
  have b2 : W2.1 4 1 = N2.1 50 14 := (congrArg (fun q => q.2.1) hv2).trans hh2
  have d2 : W2.2.1 4 3 = N2.2.1 50 17 := (congrArg (fun q => q.2.2.2) hv2).trans hf2
  have p2 : W2.1 4 2 = N2.1 50 15 := (congrArg (fun q => q.2.2.1) hv2).trans hq2
  clear hO2
  have o3 := fun r k h => (hO3 r k h).1
  have j3 := fun r k h => (hO3 r k h).2
  have a3 : W3.1 4 0 = N3.1 50 13 := (congrArg (fun q => q.1) hv3).trans hb3
  have b3 : W3.1 4 1 = N3.1 50 14 := (congrArg (fun q => q.2.1) hv3).trans hh3
  have d3 : W3.2.1 4 3 = N3.2.1 50 17 := (congrArg (fun q => q.2.2.2) hv3).trans hf3
  have p3 : W3.1 4 2 = N3.1 50 15 := (congrArg (fun q => q.2.2.1) hv3).trans hq3
  clear hO3
  have h1 : u1 < 4 := by omega
  have h2 : u2 < 4 := by omega
  have h3 : u3 < 4 := by omega
  have et := R.pt t ht
  have eu1 := R.pt u1 h1
  have eu2 := R.pt u2 h2
  have eu3 := R.pt u3 h3
  have est := R.st
  have ebt := R.bt
  unfold wa111 aq111
  unfold rcW at *
  simp (disch := first | decide | exact ad_ne (by decide) | exact ad_m (by decide) | exact ad_l (by decide) | exact ad_g (by decide) | exact ad_lt (by decide) | exact ad_o (by decide) | omega) only [↓ui_s, ↓uj_s, ↓ui_o, ↓ui_k, ↓uj_o, ↓uj_k, ↓ui_j, ↓uj_i, ↓o1, ↓j1, ↓o2, ↓j2, ↓o3, ↓j3, ui_s, uj_s, ui_o, ui_k, uj_o, uj_k, ui_j, uj_i, o1, j1, o2, j2, o3, j3]
  exact d3
theorem rc_aw111 {x m W1 W2 W3 N1 N2 N3 : zM} {v1 v2 v3 : Q4} (R : RCl x m) {t dl c u1 u2 u3 : Nat} (ht : t < 4) (hu1 : (t + 1) % 4 = u1) (hu2 : (t + 2) % 4 = u2) (hu3 : (t + 3) % 4 = u3) (hc : x.1 0 15 = nI c) (hO1 : WOj (x) W1) (hv1 : bqJ W1 = v1) (hb1 : v1.1 = N1.1 50 13) (hh1 : v1.2.1 = N1.1 50 14) (hf1 : v1.2.2.2 = N1.2.1 50 17) (hq1 : v1.2.2.1 = N1.1 50 15) (hO2 : WOj (z_ui (rcW (z_ui (z_ui W1 (18 + 8 * t) 4 ((x.1 (18 + 8 * t) 4) - ((hnd (v1.1 * (bif decide ((nI u1) = (nI dl)) then (6 : Int32) else 4))) + (300 * (x.1 0 11))))) (18 + 8 * u1) 4 ((x.1 (18 + 8 * u1) 4) + (((hnd (v1.1 * (bif decide ((nI u1) = (nI dl)) then (6 : Int32) else 4))) + (300 * (x.1 0 11))) + ((x.1 0 12) * 1000)))) 0 (nI u1) (nI t) (((hnd (v1.1 * (bif decide ((nI u1) = (nI dl)) then (6 : Int32) else 4))) + (300 * (x.1 0 11))) + ((x.1 0 12) * 1000))) 0 12 0) W2) (hv2 : bqJ W2 = v2) (hb2 : v2.1 = N2.1 50 13) (hh2 : v2.2.1 = N2.1 50 14) (hf2 : v2.2.2.2 = N2.2.1 50 17) (hq2 : v2.2.2.1 = N2.1 50 15) (hO3 : WOj (z_ui (rcW (z_ui (z_ui W2 (18 + 8 * t) 4 (((x.1 (18 + 8 * t) 4) - ((hnd (v1.1 * (bif decide ((nI u1) = (nI dl)) then (6 : Int32) else 4))) + (300 * (x.1 0 11)))) - ((hnd (v2.1 * (bif decide ((nI u2) = (nI dl)) then (6 : Int32) else 4))) + 0))) (18 + 8 * u2) 4 ((x.1 (18 + 8 * u2) 4) + (((hnd (v2.1 * (bif decide ((nI u2) = (nI dl)) then (6 : Int32) else 4))) + 0) + 0))) 1 (nI u2) (nI t) (((hnd (v2.1 * (bif decide ((nI u2) = (nI dl)) then (6 : Int32) else 4))) + 0) + 0)) 0 12 0) W3) (hv3 : bqJ W3 = v3) (hb3 : v3.1 = N3.1 50 13) (hh3 : v3.2.1 = N3.1 50 14) (hf3 : v3.2.2.2 = N3.2.1 50 17) (hq3 : v3.2.2.1 = N3.1 50 15) : RCl (wa111 W3 t dl u1 u2 u3 v1 v2 v3 x) (aq111 m N1 N2 N3 t dl c u1 u2 u3) := by
  have P0 := rc_aw111_pt0 R ht hu1 hu2 hu3 hc hO1 hv1 hb1 hh1 hf1 hq1 hO2 hv2 hb2 hh2 hf2 hq2 hO3 hv3 hb3 hh3 hf3 hq3
  have P1 := rc_aw111_pt1 R ht hu1 hu2 hu3 hc hO1 hv1 hb1 hh1 hf1 hq1 hO2 hv2 hb2 hh2 hf2 hq2 hO3 hv3 hb3 hh3 hf3 hq3
  have P2 := rc_aw111_pt2 R ht hu1 hu2 hu3 hc hO1 hv1 hb1 hh1 hf1 hq1 hO2 hv2 hb2 hh2 hf2 hq2 hO3 hv3 hb3 hh3 hf3 hq3
  have P3 := rc_aw111_pt3 R ht hu1 hu2 hu3 hc hO1 hv1 hb1 hh1 hf1 hq1 hO2 hv2 hb2 hh2 hf2 hq2 hO3 hv3 hb3 hh3 hf3 hq3
  have I00 := rc_aw111_wi00 R ht hu1 hu2 hu3 hc hO1 hv1 hb1 hh1 hf1 hq1 hO2 hv2 hb2 hh2 hf2 hq2 hO3 hv3 hb3 hh3 hf3 hq3
  have I01 := rc_aw111_wi01 R ht hu1 hu2 hu3 hc hO1 hv1 hb1 hh1 hf1 hq1 hO2 hv2 hb2 hh2 hf2 hq2 hO3 hv3 hb3 hh3 hf3 hq3
  have I02 := rc_aw111_wi02 R ht hu1 hu2 hu3 hc hO1 hv1 hb1 hh1 hf1 hq1 hO2 hv2 hb2 hh2 hf2 hq2 hO3 hv3 hb3 hh3 hf3 hq3
  have I03 := rc_aw111_wi03 R ht hu1 hu2 hu3 hc hO1 hv1 hb1 hh1 hf1 hq1 hO2 hv2 hb2 hh2 hf2 hq2 hO3 hv3 hb3 hh3 hf3 hq3
  have I04 := rc_aw111_wi04 R ht hu1 hu2 hu3 hc hO1 hv1 hb1 hh1 hf1 hq1 hO2 hv2 hb2 hh2 hf2 hq2 hO3 hv3 hb3 hh3 hf3 hq3
  have I05 := rc_aw111_wi05 R ht hu1 hu2 hu3 hc hO1 hv1 hb1 hh1 hf1 hq1 hO2 hv2 hb2 hh2 hf2 hq2 hO3 hv3 hb3 hh3 hf3 hq3
  have I06 := rc_aw111_wi06 R ht hu1 hu2 hu3 hc hO1 hv1 hb1 hh1 hf1 hq1 hO2 hv2 hb2 hh2 hf2 hq2 hO3 hv3 hb3 hh3 hf3 hq3
  have F0 := rc_aw111_wf0 R ht hu1 hu2 hu3 hc hO1 hv1 hb1 hh1 hf1 hq1 hO2 hv2 hb2 hh2 hf2 hq2 hO3 hv3 hb3 hh3 hf3 hq3
  have I10 := rc_aw111_wi10 R ht hu1 hu2 hu3 hc hO1 hv1 hb1 hh1 hf1 hq1 hO2 hv2 hb2 hh2 hf2 hq2 hO3 hv3 hb3 hh3 hf3 hq3
  have I11 := rc_aw111_wi11 R ht hu1 hu2 hu3 hc hO1 hv1 hb1 hh1 hf1 hq1 hO2 hv2 hb2 hh2 hf2 hq2 hO3 hv3 hb3 hh3 hf3 hq3
  have I12 := rc_aw111_wi12 R ht hu1 hu2 hu3 hc hO1 hv1 hb1 hh1 hf1 hq1 hO2 hv2 hb2 hh2 hf2 hq2 hO3 hv3 hb3 hh3 hf3 hq3
  have I13 := rc_aw111_wi13 R ht hu1 hu2 hu3 hc hO1 hv1 hb1 hh1 hf1 hq1 hO2 hv2 hb2 hh2 hf2 hq2 hO3 hv3 hb3 hh3 hf3 hq3
  have I14 := rc_aw111_wi14 R ht hu1 hu2 hu3 hc hO1 hv1 hb1 hh1 hf1 hq1 hO2 hv2 hb2 hh2 hf2 hq2 hO3 hv3 hb3 hh3 hf3 hq3
  have I15 := rc_aw111_wi15 R ht hu1 hu2 hu3 hc hO1 hv1 hb1 hh1 hf1 hq1 hO2 hv2 hb2 hh2 hf2 hq2 hO3 hv3 hb3 hh3 hf3 hq3
  have I16 := rc_aw111_wi16 R ht hu1 hu2 hu3 hc hO1 hv1 hb1 hh1 hf1 hq1 hO2 hv2 hb2 hh2 hf2 hq2 hO3 hv3 hb3 hh3 hf3 hq3
  have F1 := rc_aw111_wf1 R ht hu1 hu2 hu3 hc hO1 hv1 hb1 hh1 hf1 hq1 hO2 hv2 hb2 hh2 hf2 hq2 hO3 hv3 hb3 hh3 hf3 hq3
  have I20 := rc_aw111_wi20 R ht hu1 hu2 hu3 hc hO1 hv1 hb1 hh1 hf1 hq1 hO2 hv2 hb2 hh2 hf2 hq2 hO3 hv3 hb3 hh3 hf3 hq3
  have I21 := rc_aw111_wi21 R ht hu1 hu2 hu3 hc hO1 hv1 hb1 hh1 hf1 hq1 hO2 hv2 hb2 hh2 hf2 hq2 hO3 hv3 hb3 hh3 hf3 hq3
  have I22 := rc_aw111_wi22 R ht hu1 hu2 hu3 hc hO1 hv1 hb1 hh1 hf1 hq1 hO2 hv2 hb2 hh2 hf2 hq2 hO3 hv3 hb3 hh3 hf3 hq3
  have I23 := rc_aw111_wi23 R ht hu1 hu2 hu3 hc hO1 hv1 hb1 hh1 hf1 hq1 hO2 hv2 hb2 hh2 hf2 hq2 hO3 hv3 hb3 hh3 hf3 hq3
  have I24 := rc_aw111_wi24 R ht hu1 hu2 hu3 hc hO1 hv1 hb1 hh1 hf1 hq1 hO2 hv2 hb2 hh2 hf2 hq2 hO3 hv3 hb3 hh3 hf3 hq3
  have I25 := rc_aw111_wi25 R ht hu1 hu2 hu3 hc hO1 hv1 hb1 hh1 hf1 hq1 hO2 hv2 hb2 hh2 hf2 hq2 hO3 hv3 hb3 hh3 hf3 hq3
  have I26 := rc_aw111_wi26 R ht hu1 hu2 hu3 hc hO1 hv1 hb1 hh1 hf1 hq1 hO2 hv2 hb2 hh2 hf2 hq2 hO3 hv3 hb3 hh3 hf3 hq3
  have F2 := rc_aw111_wf2 R ht hu1 hu2 hu3 hc hO1 hv1 hb1 hh1 hf1 hq1 hO2 hv2 hb2 hh2 hf2 hq2 hO3 hv3 hb3 hh3 hf3 hq3
  have o1 := fun r k h => (hO1 r k h).1
  have j1 := fun r k h => (hO1 r k h).2
  have a1 : W1.1 4 0 = N1.1 50 13 := (congrArg (fun q => q.1) hv1).trans hb1
  have b1 : W1.1 4 1 = N1.1 50 14 := (congrArg (fun q => q.2.1) hv1).trans hh1
  have d1 : W1.2.1 4 3 = N1.2.1 50 17 := (congrArg (fun q => q.2.2.2) hv1).trans hf1
  have p1 : W1.1 4 2 = N1.1 50 15 := (congrArg (fun q => q.2.2.1) hv1).trans hq1
  clear hO1
  have o2 := fun r k h => (hO2 r k h).1
  have j2 := fun r k h => (hO2 r k h).2
  have a2 : W2.1 4 0 = N2.1 50 13 := (congrArg (fun q => q.1) hv2).trans hb2
  have b2 : W2.1 4 1 = N2.1 50 14 := (congrArg (fun q => q.2.1) hv2).trans hh2
  have d2 : W2.2.1 4 3 = N2.2.1 50 17 := (congrArg (fun q => q.2.2.2) hv2).trans hf2
  have p2 : W2.1 4 2 = N2.1 50 15 := (congrArg (fun q => q.2.2.1) hv2).trans hq2
  clear hO2
  have o3 := fun r k h => (hO3 r k h).1
  have j3 := fun r k h => (hO3 r k h).2
  have a3 : W3.1 4 0 = N3.1 50 13 := (congrArg (fun q => q.1) hv3).trans hb3
  have b3 : W3.1 4 1 = N3.1 50 14 := (congrArg (fun q => q.2.1) hv3).trans hh3
  have d3 : W3.2.1 4 3 = N3.2.1 50 17 := (congrArg (fun q => q.2.2.2) hv3).trans hf3
  have p3 : W3.1 4 2 = N3.1 50 15 := (congrArg (fun q => q.2.2.1) hv3).trans hq3
  clear hO3
  have h1 : u1 < 4 := by omega
  have h2 : u2 < 4 := by omega
  have h3 : u3 < 4 := by omega
  have et := R.pt t ht
  have eu1 := R.pt u1 h1
  have eu2 := R.pt u2 h2
  have eu3 := R.pt u3 h3
  have est := R.st
  have ebt := R.bt
  unfold rcW at o2 j2 o3 j3
  unfold wa111 aq111
  unfold rcW
  exact ⟨(by simp (disch := first | decide | exact ad_ne (by decide) | exact ad_m (by decide) | exact ad_l (by decide) | exact ad_g (by decide) | exact ad_lt (by decide) | exact ad_o (by decide) | omega) only [↓ui_s, ↓uj_s, ↓ui_o, ↓ui_k, ↓uj_o, ↓uj_k, ↓ui_j, ↓uj_i, ↓o1, ↓j1, ↓o2, ↓j2, ↓o3, ↓j3, ui_s, uj_s, ui_o, ui_k, uj_o, uj_k, ui_j, uj_i, o1, j1, o2, j2, o3, j3]; exact R.dl), (by simp (disch := first | decide | exact ad_ne (by decide) | exact ad_m (by decide) | exact ad_l (by decide) | exact ad_g (by decide) | exact ad_lt (by decide) | exact ad_o (by decide) | omega) only [↓ui_s, ↓uj_s, ↓ui_o, ↓ui_k, ↓uj_o, ↓uj_k, ↓ui_j, ↓uj_i, ↓o1, ↓j1, ↓o2, ↓j2, ↓o3, ↓j3, ui_s, uj_s, ui_o, ui_k, uj_o, uj_k, ui_j, uj_i, o1, j1, o2, j2, o3, j3]; exact R.rn), (by simp (disch := first | decide | exact ad_ne (by decide) | exact ad_m (by decide) | exact ad_l (by decide) | exact ad_g (by decide) | exact ad_lt (by decide) | exact ad_o (by decide) | omega) only [↓ui_s, ↓uj_s, ↓ui_o, ↓ui_k, ↓uj_o, ↓uj_k, ↓ui_j, ↓uj_i, ↓o1, ↓j1, ↓o2, ↓j2, ↓o3, ↓j3, ui_s, uj_s, ui_o, ui_k, uj_o, uj_k, ui_j, uj_i, o1, j1, o2, j2, o3, j3]; exact R.st), (by simp (disch := first | decide | exact ad_ne (by decide) | exact ad_m (by decide) | exact ad_l (by decide) | exact ad_g (by decide) | exact ad_lt (by decide) | exact ad_o (by decide) | omega) only [↓ui_s, ↓uj_s, ↓ui_o, ↓ui_k, ↓uj_o, ↓uj_k, ↓ui_j, ↓uj_i, ↓o1, ↓j1, ↓o2, ↓j2, ↓o3, ↓j3, ui_s, uj_s, ui_o, ui_k, uj_o, uj_k, ui_j, uj_i, o1, j1, o2, j2, o3, j3]), (by simp (disch := first | decide | exact ad_ne (by decide) | exact ad_m (by decide) | exact ad_l (by decide) | exact ad_g (by decide) | exact ad_lt (by decide) | exact ad_o (by decide) | omega) only [↓ui_s, ↓uj_s, ↓ui_o, ↓ui_k, ↓uj_o, ↓uj_k, ↓ui_j, ↓uj_i, ↓o1, ↓j1, ↓o2, ↓j2, ↓o3, ↓j3, ui_s, uj_s, ui_o, ui_k, uj_o, uj_k, ui_j, uj_i, o1, j1, o2, j2, o3, j3]; exact R.en), (by simp (disch := first | decide | exact ad_ne (by decide) | exact ad_m (by decide) | exact ad_l (by decide) | exact ad_g (by decide) | exact ad_lt (by decide) | exact ad_o (by decide) | omega) only [↓ui_s, ↓uj_s, ↓ui_o, ↓ui_k, ↓uj_o, ↓uj_k, ↓ui_j, ↓uj_i, ↓o1, ↓j1, ↓o2, ↓j2, ↓o3, ↓j3, ui_s, uj_s, ui_o, ui_k, uj_o, uj_k, ui_j, uj_i, o1, j1, o2, j2, o3, j3]; exact R.he), (by simp (disch := first | decide | exact ad_ne (by decide) | exact ad_m (by decide) | exact ad_l (by decide) | exact ad_g (by decide) | exact ad_lt (by decide) | exact ad_o (by decide) | omega) only [↓ui_s, ↓uj_s, ↓ui_o, ↓ui_k, ↓uj_o, ↓uj_k, ↓ui_j, ↓uj_i, ↓o1, ↓j1, ↓o2, ↓j2, ↓o3, ↓j3, ui_s, uj_s, ui_o, ui_k, uj_o, uj_k, ui_j, uj_i, o1, j1, o2, j2, o3, j3]; rfl), (by simp (disch := first | decide | exact ad_ne (by decide) | exact ad_m (by decide) | exact ad_l (by decide) | exact ad_g (by decide) | exact ad_lt (by decide) | exact ad_o (by decide) | omega) only [↓ui_s, ↓uj_s, ↓ui_o, ↓ui_k, ↓uj_o, ↓uj_k, ↓ui_j, ↓uj_i, ↓o1, ↓j1, ↓o2, ↓j2, ↓o3, ↓j3, ui_s, uj_s, ui_o, ui_k, uj_o, uj_k, ui_j, uj_i, o1, j1, o2, j2, o3, j3]; exact R.sd), (by simp (disch := first | decide | exact ad_ne (by decide) | exact ad_m (by decide) | exact ad_l (by decide) | exact ad_g (by decide) | exact ad_lt (by decide) | exact ad_o (by decide) | omega) only [↓ui_s, ↓uj_s, ↓ui_o, ↓ui_k, ↓uj_o, ↓uj_k, ↓ui_j, ↓uj_i, ↓o1, ↓j1, ↓o2, ↓j2, ↓o3, ↓j3, ui_s, uj_s, ui_o, ui_k, uj_o, uj_k, ui_j, uj_i, o1, j1, o2, j2, o3, j3]; exact R.nx), fun i h0 => by simp (disch := first | decide | exact ad_ne (by decide) | exact ad_m (by decide) | exact ad_l (by decide) | exact ad_g (by decide) | exact ad_lt (by decide) | exact ad_o (by decide) | omega) only [↓ui_s, ↓uj_s, ↓ui_o, ↓ui_k, ↓uj_o, ↓uj_k, ↓ui_j, ↓uj_i, ↓o1, ↓j1, ↓o2, ↓j2, ↓o3, ↓j3, ui_s, uj_s, ui_o, ui_k, uj_o, uj_k, ui_j, uj_i, o1, j1, o2, j2, o3, j3]; exact R.wl i h0, (fun s g0 => by
      obtain e | e | e | e : s = t ∨ s = u1 ∨ s = u2 ∨ s = u3 := by omega
      · rw [e]; exact P0
      · rw [e]; exact P1
      · rw [e]; exact P2
      · rw [e]; exact P3), fun s h0 => by simp (disch := first | decide | exact ad_ne (by decide) | exact ad_m (by decide) | exact ad_l (by decide) | exact ad_g (by decide) | exact ad_lt (by decide) | exact ad_o (by decide) | omega) only [↓ui_s, ↓uj_s, ↓ui_o, ↓ui_k, ↓uj_o, ↓uj_k, ↓ui_j, ↓uj_i, ↓o1, ↓j1, ↓o2, ↓j2, ↓o3, ↓j3, ui_s, uj_s, ui_o, ui_k, uj_o, uj_k, ui_j, uj_i, o1, j1, o2, j2, o3, j3]; exact R.be s h0, fun s h0 => by simp (disch := first | decide | exact ad_ne (by decide) | exact ad_m (by decide) | exact ad_l (by decide) | exact ad_g (by decide) | exact ad_lt (by decide) | exact ad_o (by decide) | omega) only [↓ui_s, ↓uj_s, ↓ui_o, ↓ui_k, ↓uj_o, ↓uj_k, ↓ui_j, ↓uj_i, ↓o1, ↓j1, ↓o2, ↓j2, ↓o3, ↓j3, ui_s, uj_s, ui_o, ui_k, uj_o, uj_k, ui_j, uj_i, o1, j1, o2, j2, o3, j3]; exact R.ao s h0, fun s h0 => by simp (disch := first | decide | exact ad_ne (by decide) | exact ad_m (by decide) | exact ad_l (by decide) | exact ad_g (by decide) | exact ad_lt (by decide) | exact ad_o (by decide) | omega) only [↓ui_s, ↓uj_s, ↓ui_o, ↓ui_k, ↓uj_o, ↓uj_k, ↓ui_j, ↓uj_i, ↓o1, ↓j1, ↓o2, ↓j2, ↓o3, ↓j3, ui_s, uj_s, ui_o, ui_k, uj_o, uj_k, ui_j, uj_i, o1, j1, o2, j2, o3, j3]; exact R.lg s h0, fun s h0 => by simp (disch := first | decide | exact ad_ne (by decide) | exact ad_m (by decide) | exact ad_l (by decide) | exact ad_g (by decide) | exact ad_lt (by decide) | exact ad_o (by decide) | omega) only [↓ui_s, ↓uj_s, ↓ui_o, ↓ui_k, ↓uj_o, ↓uj_k, ↓ui_j, ↓uj_i, ↓o1, ↓j1, ↓o2, ↓j2, ↓o3, ↓j3, ui_s, uj_s, ui_o, ui_k, uj_o, uj_k, ui_j, uj_i, o1, j1, o2, j2, o3, j3]; exact R.sy s h0, fun s h0 => by simp (disch := first | decide | exact ad_ne (by decide) | exact ad_m (by decide) | exact ad_l (by decide) | exact ad_g (by decide) | exact ad_lt (by decide) | exact ad_o (by decide) | omega) only [↓ui_s, ↓uj_s, ↓ui_o, ↓ui_k, ↓uj_o, ↓uj_k, ↓ui_j, ↓uj_i, ↓o1, ↓j1, ↓o2, ↓j2, ↓o3, ↓j3, ui_s, uj_s, ui_o, ui_k, uj_o, uj_k, ui_j, uj_i, o1, j1, o2, j2, o3, j3]; exact R.ds s h0, fun s h0 => by simp (disch := first | decide | exact ad_ne (by decide) | exact ad_m (by decide) | exact ad_l (by decide) | exact ad_g (by decide) | exact ad_lt (by decide) | exact ad_o (by decide) | omega) only [↓ui_s, ↓uj_s, ↓ui_o, ↓ui_k, ↓uj_o, ↓uj_k, ↓ui_j, ↓uj_i, ↓o1, ↓j1, ↓o2, ↓j2, ↓o3, ↓j3, ui_s, uj_s, ui_o, ui_k, uj_o, uj_k, ui_j, uj_i, o1, j1, o2, j2, o3, j3]; exact R.lm s h0, fun s k h0 h1 => by simp (disch := first | decide | exact ad_ne (by decide) | exact ad_m (by decide) | exact ad_l (by decide) | exact ad_g (by decide) | exact ad_lt (by decide) | exact ad_o (by decide) | omega) only [↓ui_s, ↓uj_s, ↓ui_o, ↓ui_k, ↓uj_o, ↓uj_k, ↓ui_j, ↓uj_i, ↓o1, ↓j1, ↓o2, ↓j2, ↓o3, ↓j3, ui_s, uj_s, ui_o, ui_k, uj_o, uj_k, ui_j, uj_i, o1, j1, o2, j2, o3, j3]; exact R.hd s k h0 h1, fun s i h0 h1 => by simp (disch := first | decide | exact ad_ne (by decide) | exact ad_m (by decide) | exact ad_l (by decide) | exact ad_g (by decide) | exact ad_lt (by decide) | exact ad_o (by decide) | omega) only [↓ui_s, ↓uj_s, ↓ui_o, ↓ui_k, ↓uj_o, ↓uj_k, ↓ui_j, ↓uj_i, ↓o1, ↓j1, ↓o2, ↓j2, ↓o3, ↓j3, ui_s, uj_s, ui_o, ui_k, uj_o, uj_k, ui_j, uj_i, o1, j1, o2, j2, o3, j3]; exact R.so s i h0 h1, fun s i h0 h1 => by simp (disch := first | decide | exact ad_ne (by decide) | exact ad_m (by decide) | exact ad_l (by decide) | exact ad_g (by decide) | exact ad_lt (by decide) | exact ad_o (by decide) | omega) only [↓ui_s, ↓uj_s, ↓ui_o, ↓ui_k, ↓uj_o, ↓uj_k, ↓ui_j, ↓uj_i, ↓o1, ↓j1, ↓o2, ↓j2, ↓o3, ↓j3, ui_s, uj_s, ui_o, ui_k, uj_o, uj_k, ui_j, uj_i, o1, j1, o2, j2, o3, j3]; exact R.lo s i h0 h1, fun s i h0 h1 => by simp (disch := first | decide | exact ad_ne (by decide) | exact ad_m (by decide) | exact ad_l (by decide) | exact ad_g (by decide) | exact ad_lt (by decide) | exact ad_o (by decide) | omega) only [↓ui_s, ↓uj_s, ↓ui_o, ↓ui_k, ↓uj_o, ↓uj_k, ↓ui_j, ↓uj_i, ↓o1, ↓j1, ↓o2, ↓j2, ↓o3, ↓j3, ui_s, uj_s, ui_o, ui_k, uj_o, uj_k, ui_j, uj_i, o1, j1, o2, j2, o3, j3]; exact R.rv s i h0 h1, (fun i f g0 g1 g2 => by
      obtain rfl | rfl | rfl | e : i = 0 ∨ i = 1 ∨ i = 2 ∨ i = 3 := by omega
      · obtain rfl | rfl | rfl | rfl | rfl | rfl | rfl : f = 0 ∨ f = 1 ∨ f = 2 ∨ f = 3 ∨ f = 4 ∨ f = 5 ∨ f = 6 := by omega
        · exact I00
        · exact I01
        · exact I02
        · exact I03
        · exact I04
        · exact I05
        · exact I06
      · obtain rfl | rfl | rfl | rfl | rfl | rfl | rfl : f = 0 ∨ f = 1 ∨ f = 2 ∨ f = 3 ∨ f = 4 ∨ f = 5 ∨ f = 6 := by omega
        · exact I10
        · exact I11
        · exact I12
        · exact I13
        · exact I14
        · exact I15
        · exact I16
      · obtain rfl | rfl | rfl | rfl | rfl | rfl | rfl : f = 0 ∨ f = 1 ∨ f = 2 ∨ f = 3 ∨ f = 4 ∨ f = 5 ∨ f = 6 := by omega
        · exact I20
        · exact I21
        · exact I22
        · exact I23
        · exact I24
        · exact I25
        · exact I26
      · subst e; simp (disch := first | decide | exact ad_ne (by decide) | exact ad_m (by decide) | exact ad_l (by decide) | exact ad_g (by decide) | exact ad_lt (by decide) | exact ad_o (by decide) | omega) only [↓ui_s, ↓uj_s, ↓ui_o, ↓ui_k, ↓uj_o, ↓uj_k, ↓ui_j, ↓uj_i, ↓o1, ↓j1, ↓o2, ↓j2, ↓o3, ↓j3, ui_s, uj_s, ui_o, ui_k, uj_o, uj_k, ui_j, uj_i, o1, j1, o2, j2, o3, j3]; exact R.wi _ f g0 g1 g2), (fun i g0 => by
      obtain rfl | rfl | rfl | e : i = 0 ∨ i = 1 ∨ i = 2 ∨ i = 3 := by omega
      · exact F0
      · exact F1
      · exact F2
      · subst e; simp (disch := first | decide | exact ad_ne (by decide) | exact ad_m (by decide) | exact ad_l (by decide) | exact ad_g (by decide) | exact ad_lt (by decide) | exact ad_o (by decide) | omega) only [↓ui_s, ↓uj_s, ↓ui_o, ↓ui_k, ↓uj_o, ↓uj_k, ↓ui_j, ↓uj_i, ↓o1, ↓j1, ↓o2, ↓j2, ↓o3, ↓j3, ui_s, uj_s, ui_o, ui_k, uj_o, uj_k, ui_j, uj_i, o1, j1, o2, j2, o3, j3]; exact R.wf _ g0), fun s k2 h0 h1 => by simp (disch := first | decide | exact ad_ne (by decide) | exact ad_m (by decide) | exact ad_l (by decide) | exact ad_g (by decide) | exact ad_lt (by decide) | exact ad_o (by decide) | omega) only [↓ui_s, ↓uj_s, ↓ui_o, ↓ui_k, ↓uj_o, ↓uj_k, ↓ui_j, ↓uj_i, ↓o1, ↓j1, ↓o2, ↓j2, ↓o3, ↓j3, ui_s, uj_s, ui_o, ui_k, uj_o, uj_k, ui_j, uj_i, o1, j1, o2, j2, o3, j3]; exact R.al s k2 h0 h1, fun s h0 => by simp (disch := first | decide | exact ad_ne (by decide) | exact ad_m (by decide) | exact ad_l (by decide) | exact ad_g (by decide) | exact ad_lt (by decide) | exact ad_o (by decide) | omega) only [↓ui_s, ↓uj_s, ↓ui_o, ↓ui_k, ↓uj_o, ↓uj_k, ↓ui_j, ↓uj_i, ↓o1, ↓j1, ↓o2, ↓j2, ↓o3, ↓j3, ui_s, uj_s, ui_o, ui_k, uj_o, uj_k, ui_j, uj_i, o1, j1, o2, j2, o3, j3]; exact R.lz s h0, fun s i h0 h1 => by simp (disch := first | decide | exact ad_ne (by decide) | exact ad_m (by decide) | exact ad_l (by decide) | exact ad_g (by decide) | exact ad_lt (by decide) | exact ad_o (by decide) | omega) only [↓ui_s, ↓uj_s, ↓ui_o, ↓ui_k, ↓uj_o, ↓uj_k, ↓ui_j, ↓uj_i, ↓o1, ↓j1, ↓o2, ↓j2, ↓o3, ↓j3, ui_s, uj_s, ui_o, ui_k, uj_o, uj_k, ui_j, uj_i, o1, j1, o2, j2, o3, j3] at h1 ⊢; exact R.sv s i h0 h1, fun s h0 => by simp (disch := first | decide | exact ad_ne (by decide) | exact ad_m (by decide) | exact ad_l (by decide) | exact ad_g (by decide) | exact ad_lt (by decide) | exact ad_o (by decide) | omega) only [↓ui_s, ↓uj_s, ↓ui_o, ↓ui_k, ↓uj_o, ↓uj_k, ↓ui_j, ↓uj_i, ↓o1, ↓j1, ↓o2, ↓j2, ↓o3, ↓j3, ui_s, uj_s, ui_o, ui_k, uj_o, uj_k, ui_j, uj_i, o1, j1, o2, j2, o3, j3]; rw [R.tk s h0]; exact congrArg (fun f => kb f 34) (tkM_cg (R.rb s h0) (fun i hi => by simp (disch := first | decide | exact ad_ne (by decide) | exact ad_m (by decide) | exact ad_l (by decide) | exact ad_g (by decide) | exact ad_lt (by decide) | exact ad_o (by decide) | omega) only [↓ui_s, ↓uj_s, ↓ui_o, ↓ui_k, ↓uj_o, ↓uj_k, ↓ui_j, ↓uj_i, ↓o1, ↓j1, ↓o2, ↓j2, ↓o3, ↓j3, ui_s, uj_s, ui_o, ui_k, uj_o, uj_k, ui_j, uj_i, o1, j1, o2, j2, o3, j3]) (by simp (disch := first | decide | exact ad_ne (by decide) | exact ad_m (by decide) | exact ad_l (by decide) | exact ad_g (by decide) | exact ad_lt (by decide) | exact ad_o (by decide) | omega) only [↓ui_s, ↓uj_s, ↓ui_o, ↓ui_k, ↓uj_o, ↓uj_k, ↓ui_j, ↓uj_i, ↓o1, ↓j1, ↓o2, ↓j2, ↓o3, ↓j3, ui_s, uj_s, ui_o, ui_k, uj_o, uj_k, ui_j, uj_i, o1, j1, o2, j2, o3, j3])), fun s h0 => by simp (disch := first | decide | exact ad_ne (by decide) | exact ad_m (by decide) | exact ad_l (by decide) | exact ad_g (by decide) | exact ad_lt (by decide) | exact ad_o (by decide) | omega) only [↓ui_s, ↓uj_s, ↓ui_o, ↓ui_k, ↓uj_o, ↓uj_k, ↓ui_j, ↓uj_i, ↓o1, ↓j1, ↓o2, ↓j2, ↓o3, ↓j3, ui_s, uj_s, ui_o, ui_k, uj_o, uj_k, ui_j, uj_i, o1, j1, o2, j2, o3, j3]; exact R.rb s h0, fun s i h0 h1 => by simp (disch := first | decide | exact ad_ne (by decide) | exact ad_m (by decide) | exact ad_l (by decide) | exact ad_g (by decide) | exact ad_lt (by decide) | exact ad_o (by decide) | omega) only [↓ui_s, ↓uj_s, ↓ui_o, ↓ui_k, ↓uj_o, ↓uj_k, ↓ui_j, ↓uj_i, ↓o1, ↓j1, ↓o2, ↓j2, ↓o3, ↓j3, ui_s, uj_s, ui_o, ui_k, uj_o, uj_k, ui_j, uj_i, o1, j1, o2, j2, o3, j3] at h1 ⊢; exact R.rk s i h0 h1, (by simp (disch := first | decide | exact ad_ne (by decide) | exact ad_m (by decide) | exact ad_l (by decide) | exact ad_g (by decide) | exact ad_lt (by decide) | exact ad_o (by decide) | omega) only [↓ui_s, ↓uj_s, ↓ui_o, ↓ui_k, ↓uj_o, ↓uj_k, ↓ui_j, ↓uj_i, ↓o1, ↓j1, ↓o2, ↓j2, ↓o3, ↓j3, ui_s, uj_s, ui_o, ui_k, uj_o, uj_k, ui_j, uj_i, o1, j1, o2, j2, o3, j3]; exact R.rd), fun s h0 => by simp (disch := first | decide | exact ad_ne (by decide) | exact ad_m (by decide) | exact ad_l (by decide) | exact ad_g (by decide) | exact ad_lt (by decide) | exact ad_o (by decide) | omega) only [↓ui_s, ↓uj_s, ↓ui_o, ↓ui_k, ↓uj_o, ↓uj_k, ↓ui_j, ↓uj_i, ↓o1, ↓j1, ↓o2, ↓j2, ↓o3, ↓j3, ui_s, uj_s, ui_o, ui_k, uj_o, uj_k, ui_j, uj_i, o1, j1, o2, j2, o3, j3]; exact R.bb s h0, fun z => by simp (disch := first | decide | exact ad_ne (by decide) | exact ad_m (by decide) | exact ad_l (by decide) | exact ad_g (by decide) | exact ad_lt (by decide) | exact ad_o (by decide) | omega) only [↓ui_s, ↓uj_s, ↓ui_o, ↓ui_k, ↓uj_o, ↓uj_k, ↓ui_j, ↓uj_i, ↓o1, ↓j1, ↓o2, ↓j2, ↓o3, ↓j3, ui_s, uj_s, ui_o, ui_k, uj_o, uj_k, ui_j, uj_i, o1, j1, o2, j2, o3, j3] at z ⊢; exact R.wp z⟩
