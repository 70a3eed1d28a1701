/-! four, pass, add: both games behind them -/
set_option maxRecDepth 8000
theorem toM_tt (m : zM) : toM (toM m) = toM m := by
  refine Prod.ext (funext fun r => funext fun k => ?_) rfl
  by_cases e : r = 69
  · subst e
    by_cases e3 : k = 3
    · subst e3; unfold toM; rw [ui_s, ui_s]
    · by_cases e2 : k = 2
      · subst e2; unfold toM; simp (disch := omega) only [ui_s, ui_k]
      · by_cases e1 : k = 1
        · subst e1; unfold toM; simp (disch := omega) only [ui_s, ui_k]
        · by_cases e0 : k = 0
          · subst e0; unfold toM; simp (disch := omega) only [ui_s, ui_k]
          · unfold toM; simp (disch := omega) only [ui_s, ui_k, ui_o]
  · by_cases e5 : r = 50 ∧ k = 56
    · obtain ⟨rfl, rfl⟩ := e5
      rw [h56_t, h56_t]
    · exact toM_o ⟨e, by omega⟩
def tkW (y : zM) (s : Nat) : zM := z_ui (z_ui (z_ui y 0 8 (nI s)) 0 7 1) 0 15 (-1)
theorem rc_tkW {x m : zM} (R : RCl x m) (s : Nat) : RCl (tkW x s) m := RCl.cg2 (x := x) (x' := tkW x s) (m := m) (m' := m) (q2_xu (q2_xu (q2_xu (q2_x _) (by unfold gX2; omega)) (by unfold gX2; omega)) (by unfold gX2; omega)) (q2_m _) R
theorem rq_tkW {x m : zM} {lb : Nat} (Q : RQ x m lb) (s : Nat) : RQ (tkW x s) m lb ∧ (tkW x s).1 2 3 = x.1 2 3 := by
  unfold tkW
  refine ⟨⟨(by rw [ui_k (by decide), ui_k (by decide), ui_k (by decide)]; exact Q.br), Q.us, fun j h => by rw [ui_o (by omega), ui_o (by omega), ui_o (by omega)]; exact Q.ow j h, Q.o1, Q.is, Q.s1, Q.w0, Q.dn, Q.dr, Q.tc.cg (fun j k _ _ => by rw [ui_o (by omega), ui_o (by omega), ui_o (by omega)]) (fun _ => rfl) rfl rfl⟩, by rw [ui_o (by decide), ui_o (by decide), ui_o (by decide)]⟩
theorem rg_four {x m : zM} {s c q n k2 : Nat} (R : RCl x m) (Q : RQ x m c) (hs : s < 4) (hc : c < 34) (hq : q ≤ 3) (e64 : m.1 64 s = nI q) (hm4 : ∀ j, j < 4 → (m.1 64 j).toNatClampNeg ≤ 4) (hn : n < 4) (e47 : m.1 50 47 = nI n) (e48 : m.1 50 48 = nI n) (hk2 : k2 < 34) (hw : m.1 59 (122 + n) = nI k2) (hnx : bI 0 122 (m.1 50 46)) (hh : ¬ (z_giv m s c (-3)).1 60 (34 * s + k2) = -1) : RG (dT1 (bkH (tkW (ldS (pS (bkH x) s c 1) s 2 c q) s)) s n k2) (dM1 (z_ui (toM (z_lys (z_giv m s c (-3)) s q 2 (nI c))) 50 47 (m.1 50 47 + 1)) s n k2) := by
  rw [toM_lys, toM_giv]
  obtain ⟨Q1, f1, f2, f3⟩ := rq_brk Q
  have A := lay_four (x := bkH x) (m := toM m) (s := s) (c := c) (q := q) hs hc hq
  have R1 := rc_lay (rc_brk R) A hs hq ((t64_t m s).trans e64) (svd_n ⟨by decide, by decide⟩ (by decide) hc) (fun j hj => by rw [t64_t]; exact hm4 j hj)
  obtain ⟨Q2, g1, g2⟩ := rq_lay Q1 A hs f3 (fun j hj => by
    rw [ct_n9 (by decide) hc hj]
    show (if j = c then (-3 : Int32) else 0) + _ = _
    by_cases e : j = c
    · rw [if_pos e, if_pos e, if_pos e]; decide
    · rw [if_neg e, if_neg e, if_neg e]; decide)
  have R2 := rc_brk (rc_tkW R1 s)
  obtain ⟨Q3, -⟩ := rq_tkW Q2 s
  obtain ⟨Q4, -, -, -⟩ := rq_brk Q3
  have eT : toM (z_lys (z_giv (toM m) s c (-3)) s q 2 (nI c)) = z_lys (z_giv (toM m) s c (-3)) s q 2 (nI c) := by rw [toM_lys, toM_giv, toM_tt]
  rw [eT] at R2 Q4
  have R5 := rc_47 R2 (m.1 50 47 + 1)
  have Q5 := rq_47 Q4 (m.1 50 47 + 1)
  have g : ∀ r k', r ≠ 60 → r ≠ 62 → r ≠ 63 → r ≠ 64 → r ≠ 69 → (r ≠ 50 ∨ (k' ≠ 56 ∧ k' ≠ 47)) → (z_ui (z_lys (z_giv (toM m) s c (-3)) s q 2 (nI c)) 50 47 (m.1 50 47 + 1)).1 r k' = m.1 r k' := fun r k' h1 h2 h3 h4 h5 h6 => by
    have z : (z_lys (z_giv (toM m) s c (-3)) s q 2 (nI c)).1 r k' = m.1 r k' := by rw [lys_o ⟨h2, h3, h4⟩, giv_o h1, toM_o ⟨h5, by omega⟩]
    by_cases e : r = 50
    · rw [ui_k (by omega)]; exact z
    · rw [ui_o e]; exact z
  refine ⟨rc_draw1 R5 hs hk2, Or.inr ⟨1, s, k2, rp_draw1 R5 Q5 hs hk2 ?_ hn ?_ ?_ ?_ (by rw [ui_o (by decide), lys_o ⟨by decide, by decide, by decide⟩, ← toM_giv, toM_o ⟨by decide, Or.inl (by decide)⟩]; exact hh)⟩⟩
  · rw [g 50 48 (by omega) (by omega) (by omega) (by omega) (by omega) (by omega)]; exact e48
  · rw [g 50 46 (by omega) (by omega) (by omega) (by omega) (by omega) (by omega)]; exact hnx
  · rw [g 59 _ (by omega) (by omega) (by omega) (by omega) (by omega) (by omega)]; exact hw
  · rw [ui_s, e47, nI_s1]
/-- a FOUR by an added tile goes through -/
theorem rg_pass3 {x m : zM} {t n k2 : Nat} (R : RCl x m) (Q : RQ x m 34) (ht : t < 4) (hn : n < 4) (e47 : m.1 50 47 = nI n) (e48 : m.1 50 48 = nI n) (hk2 : k2 < 34) (hw : m.1 59 (122 + n) = nI k2) (hnx : bI 0 122 (m.1 50 46)) (hh : ¬ m.1 60 (34 * t + k2) = -1) : RG (dT1 (bkH x) t n k2) (dM1 (toM (z_ui m 50 47 (m.1 50 47 + 1))) t n k2) := by
  rw [toM_47]
  obtain ⟨Q1, -, -, -⟩ := rq_brk Q
  have R5 := rc_47 (rc_brk R) (m.1 50 47 + 1)
  have Q5 := rq_47 Q1 (m.1 50 47 + 1)
  have g : ∀ r k', r ≠ 69 → (r ≠ 50 ∨ (k' ≠ 56 ∧ k' ≠ 47)) → (z_ui (toM m) 50 47 (m.1 50 47 + 1)).1 r k' = m.1 r k' := fun r k' h5 h6 => by
    have z : (toM m).1 r k' = m.1 r k' := toM_o ⟨h5, by omega⟩
    by_cases e : r = 50
    · rw [ui_k (by omega)]; exact z
    · rw [ui_o e]; exact z
  refine ⟨rc_draw1 R5 ht hk2, Or.inr ⟨1, t, k2, rp_draw1 R5 Q5 ht hk2 ?_ hn ?_ ?_ ?_ (by rw [g 60 _ (by omega) (by omega)]; exact hh)⟩⟩
  · rw [g 50 48 (by omega) (by omega)]; exact e48
  · rw [g 50 46 (by omega) (by omega)]; exact hnx
  · rw [g 59 _ (by omega) (by omega)]; exact hw
  · rw [ui_s, e47, nI_s1]
/-- the next draws -/
theorem rg_pass2 {x m : zM} {u n k : Nat} (R : RCl x m) (Q : RQ x m 34) (hu : u < 4) (hk : k < 34) (hn : m.1 50 46 = nI n) (hn2 : n < 122) (hbk : bI 0 4 (m.1 50 48)) (hw : m.1 59 n = nI k) (hfo : x.1 2 3 = m.1 50 47) (hh : ¬ m.1 60 (34 * u + k) = -1) : RG (dT0 x u n k) (dM0 m u n k) := ⟨rc_draw0 R hu hk hn, Or.inr ⟨1, u, k, rp_draw0 R Q hu hk hn hn2 hbk hw hfo hh⟩⟩
/-- the tile that nobody wanted lies no more between -/
theorem rq_34 {x m : zM} {c : Nat} (Q : RQ x m c) : RQ x m 34 := ⟨Q.br, Q.us, Q.ow, Q.o1, Q.is, Q.s1, Q.w0, Q.dn, Q.dr, Q.tc.elim fun a z => ⟨a, z.1, fun k hk => by have y := z.2 k hk; simp only [show ¬ 34 = k by omega, if_false]; omega⟩⟩
