/-! the relation is kept: the end of a hand -/
set_option maxRecDepth 8000
def fX (x : zM) (b : Nat) : zM := z_ui (z_ui (z_ui (z_ui (z_ui x 0 7 0) 0 14 ((x.1 0 14) + 1)) 0 13 1) (18 + 8 * b) 4 ((x.1 (18 + 8 * b) 4) + ((x.1 0 12) * 1000))) 0 12 0
def fM (m : zM) (b : Nat) : zM := z_ui (z_ui (z_ui (z_ui (z_ui (z_ui m 50 44 0) 50 49 (-1)) 50 52 ((m.1 50 52) + 1)) 50 54 1) 61 b ((m.1 61 b) + (1000 * (m.1 50 43)))) 50 43 0
def gX (x : zM) (d r s : Int32) : zM := z_ui (z_ui (z_ui (z_ui (z_ui x 0 7 0) 0 14 ((x.1 0 14) + 1)) 0 9 d) 0 10 r) 0 11 s
def brM (m : zM) : Bool := (((!(decide (0 ≤ (m.1 61 0)))) || (!(decide (0 ≤ (m.1 61 1))))) || (!(decide (0 ≤ (m.1 61 2))))) || (!(decide (0 ≤ (m.1 61 3))))
theorem tree_fM (m : zM) : (bif decide ((m.1 61 1) ≤ (m.1 61 0)) then (bif decide ((m.1 61 2) ≤ (m.1 61 0)) then (bif decide ((m.1 61 3) ≤ (m.1 61 0)) then z_ui (z_ui (z_ui (z_ui (z_ui (z_ui m 50 44 0) 50 49 (-1)) 50 52 ((m.1 50 52) + 1)) 50 54 1) 61 0 ((m.1 61 0) + (1000 * (m.1 50 43)))) 50 43 0 else z_ui (z_ui (z_ui (z_ui (z_ui (z_ui m 50 44 0) 50 49 (-1)) 50 52 ((m.1 50 52) + 1)) 50 54 1) 61 3 ((m.1 61 3) + (1000 * (m.1 50 43)))) 50 43 0) else (bif decide ((m.1 61 3) ≤ (m.1 61 2)) then z_ui (z_ui (z_ui (z_ui (z_ui (z_ui m 50 44 0) 50 49 (-1)) 50 52 ((m.1 50 52) + 1)) 50 54 1) 61 2 ((m.1 61 2) + (1000 * (m.1 50 43)))) 50 43 0 else z_ui (z_ui (z_ui (z_ui (z_ui (z_ui m 50 44 0) 50 49 (-1)) 50 52 ((m.1 50 52) + 1)) 50 54 1) 61 3 ((m.1 61 3) + (1000 * (m.1 50 43)))) 50 43 0)) else (bif decide ((m.1 61 2) ≤ (m.1 61 1)) then (bif decide ((m.1 61 3) ≤ (m.1 61 1)) then z_ui (z_ui (z_ui (z_ui (z_ui (z_ui m 50 44 0) 50 49 (-1)) 50 52 ((m.1 50 52) + 1)) 50 54 1) 61 1 ((m.1 61 1) + (1000 * (m.1 50 43)))) 50 43 0 else z_ui (z_ui (z_ui (z_ui (z_ui (z_ui m 50 44 0) 50 49 (-1)) 50 52 ((m.1 50 52) + 1)) 50 54 1) 61 3 ((m.1 61 3) + (1000 * (m.1 50 43)))) 50 43 0) else (bif decide ((m.1 61 3) ≤ (m.1 61 2)) then z_ui (z_ui (z_ui (z_ui (z_ui (z_ui m 50 44 0) 50 49 (-1)) 50 52 ((m.1 50 52) + 1)) 50 54 1) 61 2 ((m.1 61 2) + (1000 * (m.1 50 43)))) 50 43 0 else z_ui (z_ui (z_ui (z_ui (z_ui (z_ui m 50 44 0) 50 49 (-1)) 50 52 ((m.1 50 52) + 1)) 50 54 1) 61 3 ((m.1 61 3) + (1000 * (m.1 50 43)))) 50 43 0))) = fM m (rcB (m.1 61 0) (m.1 61 1) (m.1 61 2) (m.1 61 3)) := by
  unfold rcB
  generalize decide ((m.1 61 1) ≤ (m.1 61 0)) = b0
  generalize decide ((m.1 61 2) ≤ (m.1 61 0)) = b1
  generalize decide ((m.1 61 3) ≤ (m.1 61 0)) = b2
  generalize decide ((m.1 61 3) ≤ (m.1 61 2)) = b3
  generalize decide ((m.1 61 2) ≤ (m.1 61 1)) = b4
  generalize decide ((m.1 61 3) ≤ (m.1 61 1)) = b5
  cases b0
  · cases b4
    · cases b3 <;> rfl
    · cases b5 <;> rfl
  · cases b1
    · cases b3 <;> rfl
    · cases b2 <;> rfl
theorem rc_fin {x m : zM} (R : RCl x m) {b : Nat} (hb : b < 4) : RCl (fX x b) (fM m b) := by
  unfold fX fM
  exact ⟨(by simp (disch := omega) only [ui_s, uj_s, ui_o, ui_k, uj_o, uj_k, ui_j, uj_i]; exact R.dl), (by simp (disch := omega) only [ui_s, uj_s, ui_o, ui_k, uj_o, uj_k, ui_j, uj_i]; exact R.rn), (by simp (disch := omega) only [ui_s, uj_s, ui_o, ui_k, uj_o, uj_k, ui_j, uj_i]; exact R.st), (by simp (disch := omega) only [ui_s, uj_s, ui_o, ui_k, uj_o, uj_k, ui_j, uj_i]), (by simp (disch := omega) only [ui_s, uj_s, ui_o, ui_k, uj_o, uj_k, ui_j, uj_i]), (by simp (disch := omega) only [ui_s, uj_s, ui_o, ui_k, uj_o, uj_k, ui_j, uj_i]; rw [R.he]), (by simp (disch := omega) only [ui_s, uj_s, ui_o, ui_k, uj_o, uj_k, ui_j, uj_i]; exact R.wc), (by simp (disch := omega) only [ui_s, uj_s, ui_o, ui_k, uj_o, uj_k, ui_j, uj_i]; exact R.sd), (by simp (disch := omega) only [ui_s, uj_s, ui_o, ui_k, uj_o, uj_k, ui_j, uj_i]; exact R.nx), fun i h0 => by simp (disch := omega) only [ui_s, uj_s, ui_o, ui_k, uj_o, uj_k, ui_j, uj_i]; exact R.wl i h0, (fun s h0 => by
      by_cases e : s = b
      · subst e; simp (disch := omega) only [ui_s, uj_s, ui_o, ui_k, uj_o, uj_k, ui_j, uj_i]; rw [R.pt s h0, R.bt, Int32.mul_comm]
      · simp (disch := omega) only [ui_s, uj_s, ui_o, ui_k, uj_o, uj_k, ui_j, uj_i]; exact R.pt s h0), fun s h0 => by simp (disch := omega) only [ui_s, uj_s, ui_o, ui_k, uj_o, uj_k, ui_j, uj_i]; exact R.be s h0, fun s h0 => by simp (disch := omega) only [ui_s, uj_s, ui_o, ui_k, uj_o, uj_k, ui_j, uj_i]; exact R.ao s h0, fun s h0 => by simp (disch := omega) only [ui_s, uj_s, ui_o, ui_k, uj_o, uj_k, ui_j, uj_i]; exact R.lg s h0, fun s h0 => by simp (disch := omega) only [ui_s, uj_s, ui_o, ui_k, uj_o, uj_k, ui_j, uj_i]; exact R.sy s h0, fun s h0 => by simp (disch := omega) only [ui_s, uj_s, ui_o, ui_k, uj_o, uj_k, ui_j, uj_i]; exact R.ds s h0, fun s h0 => by simp (disch := omega) only [ui_s, uj_s, ui_o, ui_k, uj_o, uj_k, ui_j, uj_i]; exact R.lm s h0, fun s k h0 h1 => by simp (disch := omega) only [ui_s, uj_s, ui_o, ui_k, uj_o, uj_k, ui_j, uj_i]; exact R.hd s k h0 h1, fun s i h0 h1 => by simp (disch := omega) only [ui_s, uj_s, ui_o, ui_k, uj_o, uj_k, ui_j, uj_i]; exact R.so s i h0 h1, fun s i h0 h1 => by simp (disch := omega) only [ui_s, uj_s, ui_o, ui_k, uj_o, uj_k, ui_j, uj_i]; exact R.lo s i h0 h1, fun s i h0 h1 => by simp (disch := omega) only [ui_s, uj_s, ui_o, ui_k, uj_o, uj_k, ui_j, uj_i]; exact R.rv s i h0 h1, fun i f h0 h1 h2 => by simp (disch := omega) only [ui_s, uj_s, ui_o, ui_k, uj_o, uj_k, ui_j, uj_i]; exact R.wi i f h0 h1 h2, fun i h0 => by simp (disch := omega) only [ui_s, uj_s, ui_o, ui_k, uj_o, uj_k, ui_j, uj_i]; exact R.wf i h0, fun s k2 h0 h1 => by simp (disch := omega) only [ui_s, uj_s, ui_o, ui_k, uj_o, uj_k, ui_j, uj_i]; exact R.al s k2 h0 h1, fun s h0 => by simp (disch := omega) only [ui_s, uj_s, ui_o, ui_k, uj_o, uj_k, ui_j, uj_i]; exact R.lz s h0, fun s i h0 h1 => by simp (disch := omega) only [ui_s, uj_s, ui_o, ui_k, uj_o, uj_k, ui_j, uj_i] at h1 ⊢; exact R.sv s i h0 h1, fun s h0 => by simp (disch := omega) only [ui_s, uj_s, ui_o, ui_k, uj_o, uj_k, ui_j, uj_i]; rw [R.tk s h0]; exact congrArg (fun f => kb f 34) (tkM_cg (R.rb s h0) (fun i hi => by simp (disch := omega) only [ui_s, uj_s, ui_o, ui_k, uj_o, uj_k, ui_j, uj_i]) (by simp (disch := omega) only [ui_s, uj_s, ui_o, ui_k, uj_o, uj_k, ui_j, uj_i])), fun s h0 => by simp (disch := omega) only [ui_s, uj_s, ui_o, ui_k, uj_o, uj_k, ui_j, uj_i]; exact R.rb s h0, fun s i h0 h1 => by simp (disch := omega) only [ui_s, uj_s, ui_o, ui_k, uj_o, uj_k, ui_j, uj_i] at h1 ⊢; exact R.rk s i h0 h1, (by simp (disch := omega) only [ui_s, uj_s, ui_o, ui_k, uj_o, uj_k, ui_j, uj_i]; exact R.rd), fun s h0 => by simp (disch := omega) only [ui_s, uj_s, ui_o, ui_k, uj_o, uj_k, ui_j, uj_i]; exact R.bb s h0, fun z => by simp (disch := omega) only [ui_s, uj_s, ui_o, ui_k, uj_o, uj_k, ui_j, uj_i] at z ⊢; exact R.wp z⟩
theorem rc_nxt0 {x m : zM} (R : RCl x m) {e : Nat} {r s s' : Int32} (hr : r = 0 ∨ r = 1) (hs : s = s') : RCl (gX x (nI e) r s) (z_ui (z_ui (z_ui (z_ui (z_ui (z_ui m 50 44 0) 50 49 (-1)) 50 52 ((m.1 50 52) + 1)) 50 41 r) 50 40 (nI e)) 50 42 s') := by
  unfold gX
  exact ⟨(by simp (disch := omega) only [ui_s, uj_s, ui_o, ui_k, uj_o, uj_k, ui_j, uj_i]), (by simp (disch := omega) only [ui_s, uj_s, ui_o, ui_k, uj_o, uj_k, ui_j, uj_i]), (by simp (disch := omega) only [ui_s, uj_s, ui_o, ui_k, uj_o, uj_k, ui_j, uj_i]; exact hs), (by simp (disch := omega) only [ui_s, uj_s, ui_o, ui_k, uj_o, uj_k, ui_j, uj_i]; exact R.bt), (by simp (disch := omega) only [ui_s, uj_s, ui_o, ui_k, uj_o, uj_k, ui_j, uj_i]; exact R.en), (by simp (disch := omega) only [ui_s, uj_s, ui_o, ui_k, uj_o, uj_k, ui_j, uj_i]; rw [R.he]), (by simp (disch := omega) only [ui_s, uj_s, ui_o, ui_k, uj_o, uj_k, ui_j, uj_i]; exact R.wc), (by simp (disch := omega) only [ui_s, uj_s, ui_o, ui_k, uj_o, uj_k, ui_j, uj_i]; exact R.sd), (by simp (disch := omega) only [ui_s, uj_s, ui_o, ui_k, uj_o, uj_k, ui_j, uj_i]; exact R.nx), fun i h0 => by simp (disch := omega) only [ui_s, uj_s, ui_o, ui_k, uj_o, uj_k, ui_j, uj_i]; exact R.wl i h0, fun s h0 => by simp (disch := omega) only [ui_s, uj_s, ui_o, ui_k, uj_o, uj_k, ui_j, uj_i]; exact R.pt s h0, fun s h0 => by simp (disch := omega) only [ui_s, uj_s, ui_o, ui_k, uj_o, uj_k, ui_j, uj_i]; exact R.be s h0, fun s h0 => by simp (disch := omega) only [ui_s, uj_s, ui_o, ui_k, uj_o, uj_k, ui_j, uj_i]; exact R.ao s h0, fun s h0 => by simp (disch := omega) only [ui_s, uj_s, ui_o, ui_k, uj_o, uj_k, ui_j, uj_i]; exact R.lg s h0, fun s h0 => by simp (disch := omega) only [ui_s, uj_s, ui_o, ui_k, uj_o, uj_k, ui_j, uj_i]; exact R.sy s h0, fun s h0 => by simp (disch := omega) only [ui_s, uj_s, ui_o, ui_k, uj_o, uj_k, ui_j, uj_i]; exact R.ds s h0, fun s h0 => by simp (disch := omega) only [ui_s, uj_s, ui_o, ui_k, uj_o, uj_k, ui_j, uj_i]; exact R.lm s h0, fun s k h0 h1 => by simp (disch := omega) only [ui_s, uj_s, ui_o, ui_k, uj_o, uj_k, ui_j, uj_i]; exact R.hd s k h0 h1, fun s i h0 h1 => by simp (disch := omega) only [ui_s, uj_s, ui_o, ui_k, uj_o, uj_k, ui_j, uj_i]; exact R.so s i h0 h1, fun s i h0 h1 => by simp (disch := omega) only [ui_s, uj_s, ui_o, ui_k, uj_o, uj_k, ui_j, uj_i]; exact R.lo s i h0 h1, fun s i h0 h1 => by simp (disch := omega) only [ui_s, uj_s, ui_o, ui_k, uj_o, uj_k, ui_j, uj_i]; exact R.rv s i h0 h1, fun i f h0 h1 h2 => by simp (disch := omega) only [ui_s, uj_s, ui_o, ui_k, uj_o, uj_k, ui_j, uj_i]; exact R.wi i f h0 h1 h2, fun i h0 => by simp (disch := omega) only [ui_s, uj_s, ui_o, ui_k, uj_o, uj_k, ui_j, uj_i]; exact R.wf i h0, fun s k2 h0 h1 => by simp (disch := omega) only [ui_s, uj_s, ui_o, ui_k, uj_o, uj_k, ui_j, uj_i]; exact R.al s k2 h0 h1, fun s h0 => by simp (disch := omega) only [ui_s, uj_s, ui_o, ui_k, uj_o, uj_k, ui_j, uj_i]; exact R.lz s h0, fun s i h0 h1 => by simp (disch := omega) only [ui_s, uj_s, ui_o, ui_k, uj_o, uj_k, ui_j, uj_i] at h1 ⊢; exact R.sv s i h0 h1, fun s h0 => by simp (disch := omega) only [ui_s, uj_s, ui_o, ui_k, uj_o, uj_k, ui_j, uj_i]; rw [R.tk s h0]; exact congrArg (fun f => kb f 34) (tkM_cg (R.rb s h0) (fun i hi => by simp (disch := omega) only [ui_s, uj_s, ui_o, ui_k, uj_o, uj_k, ui_j, uj_i]) (by simp (disch := omega) only [ui_s, uj_s, ui_o, ui_k, uj_o, uj_k, ui_j, uj_i])), fun s h0 => by simp (disch := omega) only [ui_s, uj_s, ui_o, ui_k, uj_o, uj_k, ui_j, uj_i]; exact R.rb s h0, fun s i h0 h1 => by simp (disch := omega) only [ui_s, uj_s, ui_o, ui_k, uj_o, uj_k, ui_j, uj_i] at h1 ⊢; exact R.rk s i h0 h1, (by simp (disch := omega) only [ui_s, uj_s, ui_o, ui_k, uj_o, uj_k, ui_j, uj_i]; exact hr), fun s h0 => by simp (disch := omega) only [ui_s, uj_s, ui_o, ui_k, uj_o, uj_k, ui_j, uj_i]; exact R.bb s h0, fun z => by simp (disch := omega) only [ui_s, uj_s, ui_o, ui_k, uj_o, uj_k, ui_j, uj_i] at z ⊢; exact R.wp z⟩
theorem rc_nxt1 {x m : zM} (R : RCl x m) {s s' : Int32} (hs : s = s') : RCl (gX x (x.1 0 9) (x.1 0 10) s) (z_ui (z_ui (z_ui (z_ui m 50 44 0) 50 49 (-1)) 50 52 ((m.1 50 52) + 1)) 50 42 s') := by
  unfold gX
  exact ⟨(by simp (disch := omega) only [ui_s, uj_s, ui_o, ui_k, uj_o, uj_k, ui_j, uj_i]; exact R.dl), (by simp (disch := omega) only [ui_s, uj_s, ui_o, ui_k, uj_o, uj_k, ui_j, uj_i]; exact R.rn), (by simp (disch := omega) only [ui_s, uj_s, ui_o, ui_k, uj_o, uj_k, ui_j, uj_i]; exact hs), (by simp (disch := omega) only [ui_s, uj_s, ui_o, ui_k, uj_o, uj_k, ui_j, uj_i]; exact R.bt), (by simp (disch := omega) only [ui_s, uj_s, ui_o, ui_k, uj_o, uj_k, ui_j, uj_i]; exact R.en), (by simp (disch := omega) only [ui_s, uj_s, ui_o, ui_k, uj_o, uj_k, ui_j, uj_i]; rw [R.he]), (by simp (disch := omega) only [ui_s, uj_s, ui_o, ui_k, uj_o, uj_k, ui_j, uj_i]; exact R.wc), (by simp (disch := omega) only [ui_s, uj_s, ui_o, ui_k, uj_o, uj_k, ui_j, uj_i]; exact R.sd), (by simp (disch := omega) only [ui_s, uj_s, ui_o, ui_k, uj_o, uj_k, ui_j, uj_i]; exact R.nx), fun i h0 => by simp (disch := omega) only [ui_s, uj_s, ui_o, ui_k, uj_o, uj_k, ui_j, uj_i]; exact R.wl i h0, fun s h0 => by simp (disch := omega) only [ui_s, uj_s, ui_o, ui_k, uj_o, uj_k, ui_j, uj_i]; exact R.pt s h0, fun s h0 => by simp (disch := omega) only [ui_s, uj_s, ui_o, ui_k, uj_o, uj_k, ui_j, uj_i]; exact R.be s h0, fun s h0 => by simp (disch := omega) only [ui_s, uj_s, ui_o, ui_k, uj_o, uj_k, ui_j, uj_i]; exact R.ao s h0, fun s h0 => by simp (disch := omega) only [ui_s, uj_s, ui_o, ui_k, uj_o, uj_k, ui_j, uj_i]; exact R.lg s h0, fun s h0 => by simp (disch := omega) only [ui_s, uj_s, ui_o, ui_k, uj_o, uj_k, ui_j, uj_i]; exact R.sy s h0, fun s h0 => by simp (disch := omega) only [ui_s, uj_s, ui_o, ui_k, uj_o, uj_k, ui_j, uj_i]; exact R.ds s h0, fun s h0 => by simp (disch := omega) only [ui_s, uj_s, ui_o, ui_k, uj_o, uj_k, ui_j, uj_i]; exact R.lm s h0, fun s k h0 h1 => by simp (disch := omega) only [ui_s, uj_s, ui_o, ui_k, uj_o, uj_k, ui_j, uj_i]; exact R.hd s k h0 h1, fun s i h0 h1 => by simp (disch := omega) only [ui_s, uj_s, ui_o, ui_k, uj_o, uj_k, ui_j, uj_i]; exact R.so s i h0 h1, fun s i h0 h1 => by simp (disch := omega) only [ui_s, uj_s, ui_o, ui_k, uj_o, uj_k, ui_j, uj_i]; exact R.lo s i h0 h1, fun s i h0 h1 => by simp (disch := omega) only [ui_s, uj_s, ui_o, ui_k, uj_o, uj_k, ui_j, uj_i]; exact R.rv s i h0 h1, fun i f h0 h1 h2 => by simp (disch := omega) only [ui_s, uj_s, ui_o, ui_k, uj_o, uj_k, ui_j, uj_i]; exact R.wi i f h0 h1 h2, fun i h0 => by simp (disch := omega) only [ui_s, uj_s, ui_o, ui_k, uj_o, uj_k, ui_j, uj_i]; exact R.wf i h0, fun s k2 h0 h1 => by simp (disch := omega) only [ui_s, uj_s, ui_o, ui_k, uj_o, uj_k, ui_j, uj_i]; exact R.al s k2 h0 h1, fun s h0 => by simp (disch := omega) only [ui_s, uj_s, ui_o, ui_k, uj_o, uj_k, ui_j, uj_i]; exact R.lz s h0, fun s i h0 h1 => by simp (disch := omega) only [ui_s, uj_s, ui_o, ui_k, uj_o, uj_k, ui_j, uj_i] at h1 ⊢; exact R.sv s i h0 h1, fun s h0 => by simp (disch := omega) only [ui_s, uj_s, ui_o, ui_k, uj_o, uj_k, ui_j, uj_i]; rw [R.tk s h0]; exact congrArg (fun f => kb f 34) (tkM_cg (R.rb s h0) (fun i hi => by simp (disch := omega) only [ui_s, uj_s, ui_o, ui_k, uj_o, uj_k, ui_j, uj_i]) (by simp (disch := omega) only [ui_s, uj_s, ui_o, ui_k, uj_o, uj_k, ui_j, uj_i])), fun s h0 => by simp (disch := omega) only [ui_s, uj_s, ui_o, ui_k, uj_o, uj_k, ui_j, uj_i]; exact R.rb s h0, fun s i h0 h1 => by simp (disch := omega) only [ui_s, uj_s, ui_o, ui_k, uj_o, uj_k, ui_j, uj_i] at h1 ⊢; exact R.rk s i h0 h1, (by simp (disch := omega) only [ui_s, uj_s, ui_o, ui_k, uj_o, uj_k, ui_j, uj_i]; exact R.rd), fun s h0 => by simp (disch := omega) only [ui_s, uj_s, ui_o, ui_k, uj_o, uj_k, ui_j, uj_i]; exact R.bb s h0, fun z => by simp (disch := omega) only [ui_s, uj_s, ui_o, ui_k, uj_o, uj_k, ui_j, uj_i] at z ⊢; exact R.wp z⟩
theorem xBk_brM {x m : zM} (R : RCl x m) : xBk x = brM m := by
  have p0 : x.1 18 4 = m.1 61 0 := R.pt 0 (by decide)
  have p1 : x.1 26 4 = m.1 61 1 := R.pt 1 (by decide)
  have p2 : x.1 34 4 = m.1 61 2 := R.pt 2 (by decide)
  have p3 : x.1 42 4 = m.1 61 3 := R.pt 3 (by decide)
  unfold xBk brM
  simp only [p0, p1, p2, p3, Bool.or_assoc]
theorem rcM_m {x m : zM} (R : RCl x m) : rcM x = rcB (m.1 61 0) (m.1 61 1) (m.1 61 2) (m.1 61 3) := by
  have p0 : x.1 18 4 = m.1 61 0 := R.pt 0 (by decide)
  have p1 : x.1 26 4 = m.1 61 1 := R.pt 1 (by decide)
  have p2 : x.1 34 4 = m.1 61 2 := R.pt 2 (by decide)
  have p3 : x.1 42 4 = m.1 61 3 := R.pt 3 (by decide)
  unfold rcM
  rw [p0, p1, p2, p3]
/-- phase 0 -/
def PH0 (x m X M : zM) : Prop := X.1 0 7 = 0 ∧ M.1 50 44 = 0 ∧ M.1 50 49 = -1 ∧ X.1 2 3 = x.1 2 3 ∧ M.1 50 47 = m.1 50 47 ∧ X.1 0 8 = x.1 0 8 ∧ M.1 50 45 = m.1 50 45
theorem ph_fin (x m : zM) (b : Nat) : PH0 x m (fX x b) (fM m b) := by
  unfold PH0 fX fM
  refine ⟨?_, ?_, ?_, ?_, ?_, ?_, ?_⟩ <;> (simp (disch := omega) only [ui_s, uj_s, ui_o, ui_k, uj_o, uj_k, ui_j, uj_i])
theorem ph_nx0 (x m : zM) (d r s r' s' : Int32) (e : Nat) : PH0 x m (gX x d r s) (z_ui (z_ui (z_ui (z_ui (z_ui (z_ui m 50 44 0) 50 49 (-1)) 50 52 ((m.1 50 52) + 1)) 50 41 r') 50 40 (nI e)) 50 42 s') := by
  unfold PH0 gX
  refine ⟨?_, ?_, ?_, ?_, ?_, ?_, ?_⟩ <;> (simp (disch := omega) only [ui_s, uj_s, ui_o, ui_k, uj_o, uj_k, ui_j, uj_i])
theorem ph_nx1 (x m : zM) (d r s s' : Int32) : PH0 x m (gX x d r s) (z_ui (z_ui (z_ui (z_ui m 50 44 0) 50 49 (-1)) 50 52 ((m.1 50 52) + 1)) 50 42 s') := by
  unfold PH0 gX
  refine ⟨?_, ?_, ?_, ?_, ?_, ?_, ?_⟩ <;> (simp (disch := omega) only [ui_s, uj_s, ui_o, ui_k, uj_o, uj_k, ui_j, uj_i])
theorem e0_3 : ∀ dl, dl < 4 → decide (nI ((dl + 1) % 4) = 0) = decide (nI dl = 3) := by decide +kernel
theorem rc_ends {x m : zM} (R : RCl x m) {dl e : Nat} (hdl : m.1 50 40 = nI dl) (hdl4 : dl < 4) (he : (dl + 1) % 4 = e) (ds ow : Bool) : RCl (eHB x ds ow (xBk x) dl e (rcM x)) (eMB m ds (!ow) dl e) ∧ PH0 x m (eHB x ds ow (xBk x) dl e (rcM x)) (eMB m ds (!ow) dl e) := by
  have hb4 : rcB (m.1 61 0) (m.1 61 1) (m.1 61 2) (m.1 61 3) < 4 := rcB_lt _ _ _ _
  have F : ∀ b, b < 4 → RCl (fX x b) (fM m b) ∧ PH0 x m (fX x b) (fM m b) := fun b hb => ⟨rc_fin R hb, ph_fin x m b⟩
  have es : x.1 0 11 = m.1 50 42 := R.st
  rw [xBk_brM R, rcM_m R]
  have hs : ∀ s, s = (bif ow then (0 : Int32) else x.1 0 11 + 1) → s = (bif !ow then m.1 50 42 + 1 else 0) := fun s q => by rw [q, es]; cases ow <;> rfl
  cases ds with
  | true =>
    show RCl (eH1 x ow (brM m) dl e _) (eM1 m (!ow) dl e) ∧ PH0 x m (eH1 x ow (brM m) dl e _) (eM1 m (!ow) dl e)
    have eM : eM1 m (!ow) dl e = (bif brM m then fM m (rcB (m.1 61 0) (m.1 61 1) (m.1 61 2) (m.1 61 3)) else z_ui (z_ui (z_ui (z_ui m 50 44 0) 50 49 (-1)) 50 52 ((m.1 50 52) + 1)) 50 42 (bif !ow then (m.1 50 42) + 1 else 0)) := by
      unfold eM1
      rw [tree_fM]
      rfl
    have eX : eH1 x ow (brM m) dl e (rcB (m.1 61 0) (m.1 61 1) (m.1 61 2) (m.1 61 3)) = (bif brM m then fX x (rcB (m.1 61 0) (m.1 61 1) (m.1 61 2) (m.1 61 3)) else gX x (x.1 0 9) (x.1 0 10) (bif ow then 0 else x.1 0 11 + 1)) := by
      unfold eH1
      rw [show decide (x.1 0 10 ≤ 1) = true from decide_eq_true (by rw [R.rn]; rcases R.rd with q | q <;> rw [q] <;> decide), cond_true, R.dl, hdl]
      cases brM m
      · rw [cond_false, cond_false]; cases ow <;> rfl
      · rfl
    rw [eM, eX]
    cases brM m
    · rw [cond_false, cond_false]; exact ⟨rc_nxt1 R (hs _ rfl), ph_nx1 _ _ _ _ _ _⟩
    · rw [cond_true, cond_true]; exact F _ hb4
  | false =>
    show RCl (eH0 x ow (brM m) dl e _) (eM0 m (!ow) dl e) ∧ PH0 x m (eH0 x ow (brM m) dl e _) (eM0 m (!ow) dl e)
    have eM : eM0 m (!ow) dl e = (bif brM m then fM m (rcB (m.1 61 0) (m.1 61 1) (m.1 61 2) (m.1 61 3)) else (bif (decide ((nI dl) = 3)) && (decide ((m.1 50 41) = 1)) then fM m (rcB (m.1 61 0) (m.1 61 1) (m.1 61 2) (m.1 61 3)) else z_ui (z_ui (z_ui (z_ui (z_ui (z_ui m 50 44 0) 50 49 (-1)) 50 52 ((m.1 50 52) + 1)) 50 41 ((m.1 50 41) + (nB (decide ((nI dl) = 3))))) 50 40 (nI e)) 50 42 (bif !ow then (m.1 50 42) + 1 else 0))) := by
      unfold eM0
      rw [tree_fM]
      rfl
    have e3 := e0_3 dl hdl4
    rw [he] at e3
    rw [eM]
    unfold eH0
    rw [e3, R.rn]
    cases brM m with
    | true => rw [cond_true, cond_true, cond_true, Bool.cond_self]; exact F _ hb4
    | false =>
      rw [cond_false, cond_false, cond_false]
      cases h3 : decide (nI dl = 3) with
      | true =>
        rw [cond_true, Bool.true_and]
        rcases R.rd with q | q
        · rw [q, show decide ((0 : Int32) + 1 ≤ 1) = true from by decide, show decide ((0 : Int32) = 1) = false from by decide, cond_true, cond_false]
          have z := rc_nxt0 R (e := e) (r := 0 + 1) (Or.inr rfl) (hs _ rfl)
          have y := ph_nx0 x m (nI e) (0 + 1) (bif ow then (0 : Int32) else x.1 0 11 + 1) (0 + 1) (bif !ow then m.1 50 42 + 1 else 0) e
          cases ow
          · exact ⟨z, y⟩
          · exact ⟨z, y⟩
        · rw [q, show decide ((1 : Int32) + 1 ≤ 1) = false from by decide, show decide ((1 : Int32) = 1) = true from by decide, cond_false, cond_true]
          exact F _ hb4
      | false =>
        rw [cond_false, Bool.false_and, cond_false, show nB false = 0 from rfl, Int32.add_zero, show decide (m.1 50 41 ≤ 1) = true from decide_eq_true (by rcases R.rd with q | q <;> rw [q] <;> decide), cond_true]
        have z := rc_nxt0 R (e := e) (r := m.1 50 41) R.rd (hs _ rfl)
        have y := ph_nx0 x m (nI e) (m.1 50 41) (bif ow then (0 : Int32) else x.1 0 11 + 1) (m.1 50 41) (bif !ow then m.1 50 42 + 1 else 0) e
        cases ow
        · exact ⟨z, y⟩
        · exact ⟨z, y⟩
