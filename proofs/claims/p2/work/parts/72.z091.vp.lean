/-! both calls together; the tile is let go, whoever's turn it is -/
set_option maxRecDepth 8000
abbrev GO (d j j' : Nat) (As As' : List Value) (μ : zM) : Prop := z_C d j As μ (fun r μ1 => LJ μ1 ∧ ∃ y, r = some (.int y) ∧ z_C d j' As' μ1 (fun r2 μ2 => LGm μ2 ∧ r2 = some (.int y)))
theorem eqX_tr {a b c : zM} (h : EqX a b) (g : EqX b c) : EqX a c := fun r k q => ⟨(g r k q).1.trans (h r k q).1, (g r k q).2.trans (h r k q).2⟩
theorem eqM_tr {a b c : zM} (h : EqM a b) (g : EqM b c) : EqM a c := fun r k q => ⟨(g r k q).1.trans (h r k q).1, (g r k q).2.trans (h r k q).2⟩
theorem go_no {d j j' : Nat} {As As' : List Value} {μ : zM} (hR : RG μ μ) (kx : z_C d j As μ (fun _ μ' => LJ μ' ∧ EqM μ μ')) (km : ∀ μ1, LJ μ1 → z_C d j' As' μ1 (fun _ μ' => LJ μ' ∧ EqX μ1 μ')) (c1 : z_C d j As μ (fun r μ' => r = some (.int 0) ∧ μ' = μ)) (c2 : z_C d j' As' μ (fun r μ' => r = some (.int 0) ∧ μ' = z_ui μ 50 0 0)) : GO d j j' As As' μ := z_C_mono (zC_and d kx c1) (fun r μ1 q => by
  obtain ⟨⟨q1, _⟩, q2, rfl⟩ := q
  exact ⟨q1, 0, q2, z_C_mono (zC_and d (km _ q1) c2) (fun r2 μ2 z => ⟨lg_no hR z.2.2 z.1.1, z.2.1⟩)⟩)
theorem go_yes {d j j' : Nat} {As As' : List Value} {μ : zM} {X : zM} {y : Int32} (kx : z_C d j As μ (fun _ μ' => LJ μ' ∧ EqM μ μ')) (km : ∀ μ1, LJ μ1 → z_C d j' As' μ1 (fun _ μ' => LJ μ' ∧ EqX μ1 μ')) (c1 : z_C d j As μ (fun r μ' => r = some (.int y) ∧ EqX X μ')) (c2 : ∀ μ1, LJ μ1 → EqM μ μ1 → z_C d j' As' μ1 (fun r μ' => r = some (.int y) ∧ RG X μ')) : GO d j j' As As' μ := z_C_mono (zC_and d kx c1) (fun r μ1 q => ⟨q.1.1, y, q.2.1, z_C_mono (zC_and d (km μ1 q.1.1) (c2 μ1 q.1.1 q.1.2)) (fun r2 μ2 z => ⟨⟨z.1.1, z.2.2.cg (eqX_tr q.2.2 z.1.2) (eqM_rf _)⟩, z.2.1⟩)⟩)
/-- the reference's cells of the game but for what may not be discarded -/
def EqB (m m' : zM) : Prop := ∀ r k, gMc r k → ¬ (r = 50 ∧ (k = 50 ∨ k = 51)) → m'.1 r k = m.1 r k ∧ m'.2.1 r k = m.2.1 r k
theorem RCl.cgB {x m m' : zM} (e : EqB m m') (h : RCl x m) : RCl x m' := RCl.cg2 (q2_x _) (fun r k g => e r k (by unfold gM2 at g; unfold gMc; omega) (by unfold gM2 at g; omega)) h
theorem RPh.cgB {x m m' : zM} (hm : EqB m m') {p t c : Nat} (hp : p ≠ 1) (h : RPh x m p t c) : RPh x m' p t c := by
  have M : ∀ r k, gMc r k → ¬ (r = 50 ∧ (k = 50 ∨ k = 51)) → m'.1 r k = m.1 r k := fun r k q z => (hm r k q z).1
  unfold gMc at M
  have m44 := M 50 44 (by omega) (by omega)
  have m45 := M 50 45 (by omega) (by omega)
  have m46 := M 50 46 (by omega) (by omega)
  have m47 := M 50 47 (by omega) (by omega)
  have m48 := M 50 48 (by omega) (by omega)
  have m49 := M 50 49 (by omega) (by omega)
  have m40 := M 50 40 (by omega) (by omega)
  have m53 := M 50 53 (by omega) (by omega)
  have m55 := M 50 55 (by omega) (by omega)
  have m56 := M 50 56 (by omega) (by omega)
  have m57 := M 50 57 (by omega) (by omega)
  have m58 := M 50 58 (by omega) (by omega)
  have m59 := M 50 59 (by omega) (by omega)
  have m64 : ∀ s, m'.1 64 s = m.1 64 s := fun s => M 64 s (by omega) (by omega)
  have m66 : ∀ s, m'.1 66 s = m.1 66 s := fun s => M 66 s (by omega) (by omega)
  have m68 : ∀ s, m'.1 68 s = m.1 68 s := fun s => M 68 s (by omega) (by omega)
  have m71 : ∀ s, m'.1 71 s = m.1 71 s := fun s => M 71 s (by omega) (by omega)
  have mW : fW m' = fW m := funext fun i => M 59 i (by omega) (by omega)
  exact ⟨(by rw [m47]; exact h.fo), (by exact h.px), (by rw [m44]; exact h.pm), (by exact h.tx), (by rw [m45]; exact h.tm), h.t4, h.p3, (by exact h.cx), (by rw [m49]; exact h.cm), h.c3, fun q => absurd q hp, (by rw [m56]; exact h.br), (by simp only [m56, m64]; exact h.us), (by rw [m58]; exact h.bf), fun q => absurd q hp, fun q => absurd q hp, fun q => absurd q hp, h.a3, fun s hs => by rw [m59]; exact h.ow s hs, (by rw [m59]; exact h.o1), (by rw [m55]; exact h.is), (by rw [m71]; exact h.s0), (by simp only [m71]; exact h.s1), (by rw [m53]; exact h.w0), (by simp only [m68, m46, m48, m40]; exact h.dn), (by simp only [m56, m68, m66]; exact h.dr), (by rw [m56, m40, m68]; exact h.d2), h.tc.elim fun a z => ⟨a, fun s k hs hk => by exact z.1 s k hs hk, by rw [mW, m46, m48]; exact z.2⟩⟩
theorem eB_M {m m' : zM} (h : EqM m m') : EqB m m' := fun r k g _ => h r k g
theorem eB_tr {a b c : zM} (h : EqB a b) (g : EqB b c) : EqB a c := fun r k q z => ⟨(g r k q z).1.trans (h r k q z).1, (g r k q z).2.trans (h r k q z).2⟩
theorem eB_0 (m : zM) (v : Int32) : EqB m (z_ui m 50 0 v) := eB_M (t0_EqM m v)
theorem eB_50 (m : zM) (v w : Int32) : EqB m (z_ui (z_ui m 50 50 v) 50 51 w) := fun r k g z => ⟨by
  by_cases e : r = 50
  · subst e
    rw [ui_k (by omega), ui_k (by omega)]
  · rw [ui_o e, ui_o e], rfl⟩
theorem gv_c {m : zM} {s c : Nat} {n n' : Int32} (h : n + n' = 0) (r k : Nat) : (z_giv (z_giv m s c n) s c n').1 r k = m.1 r k := by
  unfold z_giv
  by_cases e : r = 60
  · subst e
    by_cases e2 : k = 34 * s + c
    · subst e2; rw [ui_s, ui_s, Int32.add_assoc, h, Int32.add_zero]
    · rw [ui_k e2, ui_k e2]
  · rw [ui_o e, ui_o e]
theorem gv_c4 {m : zM} {s a b : Nat} {n n' : Int32} (hab : a ≠ b) (h : n + n' = 0) (r k : Nat) : (z_giv (z_giv (z_giv (z_giv m s a n) s b n) s a n') s b n').1 r k = m.1 r k := by
  unfold z_giv
  by_cases e : r = 60
  · subst e
    by_cases e2 : k = 34 * s + a
    · subst e2
      simp (disch := omega) only [ui_s, ui_k]
      rw [Int32.add_assoc, h, Int32.add_zero]
    · by_cases e3 : k = 34 * s + b
      · subst e3
        simp (disch := omega) only [ui_s, ui_k]
        rw [Int32.add_assoc, h, Int32.add_zero]
      · simp (disch := omega) only [ui_s, ui_k]
  · rw [ui_o e, ui_o e, ui_o e, ui_o e]
theorem eB_g {m : zM} {s c : Nat} {n n' : Int32} (h : n + n' = 0) : EqB m (z_giv (z_giv m s c n) s c n') := fun r k _ _ => ⟨gv_c h r k, rfl⟩
theorem eB_g4 {m : zM} {s a b : Nat} {n n' : Int32} (hab : a ≠ b) (h : n + n' = 0) : EqB m (z_giv (z_giv (z_giv (z_giv m s a n) s b n) s a n') s b n') := fun r k _ _ => ⟨gv_c4 hab h r k, rfl⟩
theorem eB_SE {m m' : zM} (h : EqB m m') : SE m m' := fun r k g => (h r k (Or.inl ⟨by omega, by omega⟩) (by omega)).1
theorem RG.cgB2 {x m m' : zM} {t c : Nat} (R : RCl x m) (P : RPh x m 2 t c) (e : EqB m m') : RG x m' := ⟨R.cgB e, Or.inr ⟨2, t, c, P.cgB e (by decide)⟩⟩
/-- the WAITS of all four, as both sides ask for them -/
def WW (x m : zM) (c : Nat) (W : Nat → Int64) : Prop := ∀ u, u < 4 → (∀ μ1, TE x μ1 → ∀ d, 6 ≤ d → z_C d mi_X3_waitsFor [.ref (19 + 8 * u), .int (nI c)] μ1 (zR μ1 (.int (nB (bw (W u) c))))) ∧ (∀ M, SE m M → a_H M → ∀ d, 699 ≤ d → z_C d mi_X7_waitsAt [.ref 50, .int (nI u)] M (fun r V => r = some (.long (W u)) ∧ SMj M V ∧ a_H V)) ∧ (∀ μ1, TE x μ1 → ∀ d, 7 ≤ d → z_C d mi_X3_waiting [.ref (19 + 8 * u)] μ1 (zR μ1 (.long (W u)))) ∧ (∃ f : Nat → Bool, W u = kb f 34)
theorem ww_of {x m : zM} {p t c : Nat} (R : RCl x m) (P : RPh x m p t c) (hA : a_H m) (hG : GP m) (hc : c < 34) : ∃ W, WW x m c W := by
  have H : ∀ u, ∃ v : Int64, u < 4 → (∀ μ1, TE x μ1 → ∀ d, 6 ≤ d → z_C d mi_X3_waitsFor [.ref (19 + 8 * u), .int (nI c)] μ1 (zR μ1 (.int (nB (bw v c))))) ∧ (∀ M, SE m M → a_H M → ∀ d, 699 ≤ d → z_C d mi_X7_waitsAt [.ref 50, .int (nI u)] M (fun r V => r = some (.long v) ∧ SMj M V ∧ a_H V)) ∧ (∀ μ1, TE x μ1 → ∀ d, 7 ≤ d → z_C d mi_X3_waiting [.ref (19 + 8 * u)] μ1 (zR μ1 (.long v))) ∧ (∃ f : Nat → Bool, v = kb f 34) := fun u => by
    by_cases hu : u < 4
    · obtain ⟨w, aw, q, sL, lL, H⟩ := hf_of R P hA hG hu
      exact ⟨WV m u w q, fun _ => ⟨cw_for H hu hc, mw_wait H.1 hu, cw_wait H hu, _, rfl⟩⟩
    · exact ⟨0, fun h => absurd h hu⟩
  exact ⟨fun u => Classical.choose (H u), fun u hu => Classical.choose_spec (H u) hu⟩
theorem WW.m {x m m' : zM} {c : Nat} {W : Nat → Int64} (h : WW x m c W) (e : SE m m') : WW x m' c W := fun u hu => ⟨(h u hu).1, fun M hM => (h u hu).2.1 M (fun r k g => (hM r k g).trans (e r k g)), (h u hu).2.2⟩
def ovF (m : zM) (t c : Nat) (W : Nat → Int64) : zM := match t with
  | 0 => ovM0 m c (W 1) (W 2) (W 3)
  | 1 => ovM1 m c (W 0) (W 2) (W 3)
  | 2 => ovM2 m c (W 0) (W 1) (W 3)
  | _ => ovM3 m c (W 0) (W 1) (W 2)
def lTf (x : zM) (t c : Nat) (W : Nat → Int64) : zM := lT x t ((t + 1) % 4) ((t + 2) % 4) ((t + 3) % 4) (bw (W ((t + 1) % 4)) c) (bw (W ((t + 2) % 4)) c) (bw (W ((t + 3) % 4)) c)
theorem t_four {t : Nat} (h : t < 4) : t = 0 ∨ t = 1 ∨ t = 2 ∨ t = 3 := by omega
theorem ov_go {x m : zM} {t c : Nat} {W : Nat → Int64} (hW : WW x m c W) (hA : a_H m) (ht4 : t < 4) (ht : m.1 50 45 = nI t) (hc : m.1 50 49 = nI c) : ∀ d, 701 ≤ d → z_C d mi_X7_over [.ref 50] m (fun r V => r = none ∧ SMj (ovF m t c W) V ∧ a_H V) := fun d hd => by
  have k : z_C d mi_X7_over [.ref 50] m (fun _ V => a_H V) := z_C_mono (a_use (i := 122) (K := ak_122) rfl (by omega) [.ref 50] m (aArg_pre ⟨⟨50, by decide, rfl⟩, trivial⟩ rfl) hA) (fun _ _ q => q.1)
  have g : z_C d mi_X7_over [.ref 50] m (fun r V => r = none ∧ SMj (ovF m t c W) V) := by
    obtain rfl | rfl | rfl | rfl := t_four ht4
    · exact gm_over0 d (by omega) m hA c hc ht _ (hW 1 (by decide)).2.1 _ (hW 2 (by decide)).2.1 _ (hW 3 (by decide)).2.1
    · exact gm_over1 d (by omega) m hA c hc ht _ (hW 0 (by decide)).2.1 _ (hW 2 (by decide)).2.1 _ (hW 3 (by decide)).2.1
    · exact gm_over2 d (by omega) m hA c hc ht _ (hW 0 (by decide)).2.1 _ (hW 1 (by decide)).2.1 _ (hW 3 (by decide)).2.1
    · exact gm_over3 d (by omega) m hA c hc ht _ (hW 0 (by decide)).2.1 _ (hW 1 (by decide)).2.1 _ (hW 2 (by decide)).2.1
  exact z_C_mono (zC_and d k g) (fun r V q => ⟨q.2.1, q.2.2, q.1⟩)
theorem ov_rq {x m : zM} {p t c : Nat} {W : Nat → Int64} (R : RCl x m) (P : RPh x m p t c) (hp : p = 2 ∨ p = 3) (hs : ∀ s, s < 4 → m.1 71 s = 0) : RCl (lTf x t c W) (ovF m t c W) ∧ RQ (lTf x t c W) (ovF m t c W) (if p = 2 then c else 34) ∧ (lTf x t c W).1 2 3 = (ovF m t c W).1 50 47 := by
  obtain rfl | rfl | rfl | rfl := t_four P.t4
  · exact ⟨rc_over0 R ((P.ow 0 (by decide)).trans (if_pos rfl)), rq_over0 P hp hs⟩
  · exact ⟨rc_over1 R ((P.ow 1 (by decide)).trans (if_pos rfl)), rq_over1 P hp hs⟩
  · exact ⟨rc_over2 R ((P.ow 2 (by decide)).trans (if_pos rfl)), rq_over2 P hp hs⟩
  · exact ⟨rc_over3 R ((P.ow 3 (by decide)).trans (if_pos rfl)), rq_over3 P hp hs⟩
theorem ovF_o {m : zM} {t c : Nat} {W : Nat → Int64} {r k : Nat} (h1 : r ≠ 70) (h2 : r ≠ 61) (h3 : r ≠ 50 ∨ (k ≠ 43 ∧ k ≠ 59)) : (ovF m t c W).1 r k = m.1 r k := by
  have U : ∀ (i : Nat) (a b e : Int32), (z_ui (z_ui (z_ui m 61 i a) 50 43 b) 50 59 e).1 r k = m.1 r k := fun i a b e => by
    by_cases q : r = 50
    · subst q; rw [ui_k (by omega), ui_k (by omega), ui_o h2]
    · rw [ui_o q, ui_o q, ui_o h2]
  unfold ovF
  split
  · unfold ovM0; cases decide (m.1 50 59 = 0)
    · rw [cond_false, lgM_o h1, lgM_o h1, lgM_o h1, U]
    · rw [cond_true, lgM_o h1, lgM_o h1, lgM_o h1]
  · unfold ovM1; cases decide (m.1 50 59 = 0)
    · rw [cond_false, lgM_o h1, lgM_o h1, lgM_o h1, U]
    · rw [cond_true, lgM_o h1, lgM_o h1, lgM_o h1]
  · unfold ovM2; cases decide (m.1 50 59 = 0)
    · rw [cond_false, lgM_o h1, lgM_o h1, lgM_o h1, U]
    · rw [cond_true, lgM_o h1, lgM_o h1, lgM_o h1]
  · unfold ovM3; cases decide (m.1 50 59 = 0)
    · rw [cond_false, lgM_o h1, lgM_o h1, lgM_o h1, U]
    · rw [cond_true, lgM_o h1, lgM_o h1, lgM_o h1]
/-- who may claim a SET: as the contracts ask -/
theorem mMC_0 {m : zM} {s : Nat} {v : Int32} : mMC (z_ui m 50 0 v) s = mMC m s := by
  unfold mMC anS
  simp (disch := omega) only [ui_o, ui_k]
theorem mMC_e {m m' : zM} {s : Nat} (h : EqM m m') : mMC m' s = mMC m s := by
  have e : ∀ k, 40 ≤ k → k ≤ 59 → m'.1 50 k = m.1 50 k := fun k h1 h2 => (h 50 k (Or.inr ⟨rfl, h1, h2⟩)).1
  have e7 : ∀ k, m'.1 71 k = m.1 71 k := fun k => (h 71 k (Or.inl ⟨by decide, by decide⟩)).1
  unfold mMC anS
  rw [e 44 (by decide) (by decide), e 45 (by decide) (by decide), e 47 (by decide) (by decide), e 46 (by decide) (by decide), (h 67 s (Or.inl ⟨by decide, by decide⟩)).1, e7 0, e7 1, e7 2, e7 3]
theorem mC_x {μ : zM} {s : Nat} (hs : s < 4) {b : Bool} (h : xMC μ s = b) : ∀ d, 3 ≤ d → z_C d mi_X6_mayClaimSet [.ref 0, .int (nI s)] μ (zR μ (.int (nB b))) := fun d hd => by
  rw [← h]; exact gc_mayClaimSet d hd μ s hs
theorem mC_m {μ : zM} {s : Nat} (hs : s < 4) {b : Bool} (h : mMC μ s = b) : ∀ d, 2 ≤ d → z_C d mi_X7_mayClaim [.ref 50, .int (nI s)] (z_ui μ 50 0 0) (zR (z_ui μ 50 0 0) (.int (nB b))) := fun d hd => by
  rw [← h, ← mMC_0 (m := μ) (v := 0)]
  exact gm_mayClaim d hd (z_ui μ 50 0 0) s hs
theorem or_ff {a b : Bool} (h : (a || b) = false) : a = false ∧ b = false := by cases a <;> cases b <;> first | exact ⟨rfl, rfl⟩ | cases h
theorem not_t {a : Bool} (h : (!a) = true) : a = false := by cases a; rfl; cases h
theorem not_f {a : Bool} (h : (!a) = false) : a = true := by cases a; cases h; rfl
theorem an_z {m : zM} (h : anS m = false) : ∀ s, s < 4 → m.1 71 s = 0 := by
  unfold anS at h
  obtain ⟨a, h⟩ := or_ff h
  obtain ⟨b, h⟩ := or_ff h
  obtain ⟨c, h⟩ := or_ff h
  intro s hs
  obtain rfl | rfl | rfl | rfl := t_four hs
  · exact of_decide_eq_true (not_f a)
  · exact of_decide_eq_true (not_f b)
  · exact of_decide_eq_true (not_f c)
  · exact of_decide_eq_true (not_f h)
theorem mc_in {x m : zM} {s : Nat} (hR : RG x m) (h : mMC m s = true) : ∃ t c, RPh x m 2 t c ∧ c < 34 ∧ (∀ j, j < 4 → m.1 71 j = 0) ∧ decide (122 - m.1 50 47 - m.1 50 46 ≤ 0) = false ∧ decide (nI s = m.1 50 45) = false := by
  unfold mMC at h
  obtain ⟨a, h⟩ := z_and h
  obtain ⟨b, h⟩ := z_and h
  obtain ⟨c, h⟩ := z_and h
  obtain ⟨e, h⟩ := z_and h
  have a := of_decide_eq_true a
  rcases hR.2 with ⟨p1, p2, -, -, -⟩ | ⟨p, t, k, P⟩
  · rw [p2] at a; exact absurd a (by decide)
  · have hp : p = 2 := by
      rw [P.pm] at a
      rcases P.p3 with q | q | q
      · rw [q] at a; exact absurd a (by decide)
      · exact q
      · rw [q] at a; exact absurd a (by decide)
    subst hp
    refine ⟨t, k, P, ?_, an_z (not_t b), not_t c, not_t e⟩
    rcases P.c3 with q | ⟨_, q⟩
    · exact q
    · exact absurd q (by decide)
/-- a hand of which two tiles go has fewer than four SETS -/
theorem q3_of {μ : zM} {s q : Nat} (hG : GP μ) (hs : s < 4) (hp : ¬ μ.1 50 44 = 1) (hq : μ.1 64 s = nI q) (hq4 : q ≤ 4) (h2 : 2 ≤ hs9 μ s) : q ≤ 3 := by
  have g1 := hG.1.2 s hs
  have g3 : glim μ s ≤ 13 := by unfold glim; rw [if_neg (by intro z; exact hp z.1)]; decide
  have g5 : mI μ s = q := by unfold mI; rw [hq]; exact nI_toInt (by omega)
  unfold hs9 at h2
  omega
