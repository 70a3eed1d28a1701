/-! what a hand is worth: the calls -/
set_option maxRecDepth 8000
abbrev wiN (s dl rd : Nat) : Int32 := ((nI s - nI dl) &&& 3) ||| (nI rd <<< ((2 : Int32) &&& (31 : Int32)) : Int32)
/-- the kinds in the wall -/
def Wm (m : zM) (p : Nat) : Nat := (m.1 59 p).toNatClampNeg
theorem Wm_e {m : zM} (hA : a_H m) (p : Nat) : m.1 59 p = nI (Wm m p) ∧ Wm m p < 34 := by
  obtain ⟨n, h1, h2⟩ := i_nat (v := m.1 59 p) (n := 33) (hA 59 p).1 (hA 59 p).2 (by decide)
  unfold Wm
  rw [h2, nI_clamp (by omega)]
  exact ⟨rfl, by omega⟩
/-- dear tiles -/
def deM (m : zM) (s : Nat) (w : Nat → Nat) (q f : Nat) : Int32 := deF (dAs m s w (Wm m) q) (!(decide ((m.1 67 s) ≤ 0))) (f + 1)
theorem dear_p {x m m0 : zM} {s : Nat} {w aw : Nat → Nat} {q : Nat} {sL lL : Nat → Nat} (H : HF x m s w aw q sL lL) (h62 : ∀ i, m.1 62 (4 * s + i) = m0.1 62 (4 * s + i)) (h63 : ∀ i, m.1 63 (4 * s + i) = m0.1 63 (4 * s + i)) {p : Nat} (hA : a_H m0) (h3 : x.1 3 p = m0.1 59 p) : fr x (21 + 8 * s) (bhd (x.1 3 p)) = dAs m0 s w (Wm m0) q p ∧ ∃ a, a ≤ 5 ∧ dAs m0 s w (Wm m0) q p = nI a := by
  obtain ⟨e1, e2⟩ := Wm_e hA p
  have hb := bhd_in (Wm m0 p) e2
  obtain ⟨v, hv, ev⟩ := vp_in_of hb (by decide)
  have z : fr x (21 + 8 * s) (bhd (x.1 3 p)) = dAs m0 s w (Wm m0) q p := by
    unfold dAs
    rw [h3, e1, ev, fr_yes hv, nI_clamp (by omega), (H.2.2.1 v hv).1, H.2.2.2.2.2.2.2 v hv, show (fun i => m.1 62 (4 * s + i)) = (fun i => m0.1 62 (4 * s + i)) from funext h62, show (fun i => m.1 63 (4 * s + i)) = (fun i => m0.1 63 (4 * s + i)) from funext h63]
  refine ⟨z, aw v, (H.2.2.1 v hv).2, ?_⟩
  rw [← z, h3, e1, ev, fr_yes hv]
  exact (H.2.2.1 v hv).1
theorem de_63 {x m m0 : zM} {s : Nat} {w aw : Nat → Nat} {q : Nat} {sL lL : Nat → Nat} (H : HF x m s w aw q sL lL) (h62 : ∀ i, m.1 62 (4 * s + i) = m0.1 62 (4 * s + i)) (h63 : ∀ i, m.1 63 (4 * s + i) = m0.1 63 (4 * s + i)) (hA : a_H m0) (h3 : ∀ p, p < 136 → x.1 3 p = m0.1 59 p) {f : Nat} (hf : f ≤ 4) : deM m0 s w q f &&& 63 = deM m0 s w q f := by
  obtain ⟨N, h1, h2⟩ := deF_nat (A := dAs m0 s w (Wm m0) q) (b := !(decide ((m0.1 67 s) ≤ 0))) (fun p h1 h2 => (dear_p H h62 h63 hA (h3 p h2)).2) (f + 1) (by omega)
  unfold deM
  rw [h2]
  exact and63 N (by omega)
theorem WE_TE {x M : zM} (h : WE x M) : TE x M := fun i hi a h1 h2 k => (h (a + 8 * i) k (Or.inr (by omega)) (Or.inr ⟨by omega, by omega, by omega, by omega⟩) (Or.inl (by omega)) ⟨by omega, by omega, by omega, by omega⟩).1
theorem bt_not {x m : zM} (R : RCl x m) {s : Nat} (hs : s < 4) : (!decide (x.1 (18 + 8 * s) 5 = 0)) = !(decide ((m.1 67 s) ≤ 0)) := by
  rw [R.be s hs, bet_le R hs]
/-- judging, of the class -/
theorem jd_x {M m : zM} {s : Nat} {w aw : Nat → Nat} {q c : Nat} {sL lL : Nat → Nat} (H : HF M m s w aw q sL lL) (hs : s < 4) (hA : a_H M) (hso : ∀ i, i < q → M.1 (22 + 8 * s) i = nI (sL i) ∧ M.1 (23 + 8 * s) i = nI (lL i)) (dr : Bool) (told : Int64) (wi de : Int32) : ∀ d, 8 ≤ d → z_C d mi_X1_judge [.ref 4, .ref (19 + 8 * s), .int (nI c), .int (nB dr), .long told, .int wi, .int de] M (fun r μ' => r = none ∧ (WOj M μ' ∧ a_H μ' ∧ BX w aw q c sL lL dr told wi de (bqJ μ'))) := fun d hd => by
  refine z_C_mono (gc_judge d hd M s hs w aw q H.1.2.2.1 sL lL (fun i hi => ⟨(H.1.2.2.2 i hi).2.1, (H.1.2.2.2 i hi).2.2.2.1⟩) (fun k hk => (H.1.1 k hk).2) H.2.1 H.2.2.1 H.2.2.2.2.1 H.2.2.2.1 H.2.2.2.2.2.2.1 hso hA (nI c) wi de dr told) (fun r μ' z => ?_)
  obtain ⟨z1, z2, z3, z4⟩ := z
  have eb : bqC (sMm s μ') = bqJ μ' := by
    unfold bqC bqJ
    rw [sM14 hs, sM14 hs, sM14 hs, sM14j hs]
  refine ⟨z1, wo_fz hs z3, ?_, ?_⟩
  · have y := a_H_sg hs z2
    rw [sM_sM hs] at y
    exact y
  · rw [← eb]
    rcases z4 with ⟨a, b⟩ | ⟨a, κ, b, e⟩
    · exact Or.inl ⟨a, b⟩
    · exact Or.inr ⟨a, κ, _, b, e, rfl⟩
theorem left_x {x m M : zM} {p t c : Nat} (R : RCl x m) (P : RPh x m p t c) (h1 : M.1 2 1 = x.1 2 1) (h2 : M.1 2 2 = x.1 2 2) (h3 : M.1 2 3 = x.1 2 3) : xLf M = 122 - m.1 50 47 - m.1 50 46 := by
  unfold xLf
  rw [h1, h2, h3, R.sd, P.is, P.fo, R.nx, show decide ((1 : Int32) = 0) = false from by decide, cond_false]
/-- weighing a hand with the tile of another, of the class -/
theorem wx0 {x m : zM} {p t c s : Nat} {w aw : Nat → Nat} {q : Nat} {sL lL : Nat → Nat} (R : RCl x m) (P : RPh x m p t c) (hs : s < 4) (H : HF x m s w aw q sL lL) (hA : a_H m) (hc : c < 34) (h3 : aw c ≤ 3) {f dl rd : Nat} (hf : f ≤ 4) (hf47 : m.1 50 47 = nI f) (hdl : m.1 50 40 = nI dl) (hrd : m.1 50 41 = nI rd) : ∀ M, WE x M → a_H M → ∀ d, 10 ≤ d → z_C d mi_X6_weighHand [.ref 0, .int (nI s), .int 0] M (fun r μ' => ∃ μj, (μj.1 0 15 = nI c ∧ WOj (pS M s c 1) μj ∧ a_H μj ∧ BX (ad1 w c) (ad1 aw c) q c sL lL false (tX false (m.1 67 s) (m.1 69 s) (122 - m.1 50 47 - m.1 50 46) (x.1 0 16) (m.1 50 44) ||| 0) (wiN s dl rd) (deM m s (ad1 w c) q f) (bqJ μj)) ∧ μ' = pS μj s c (-1) ∧ r = some (.int (μj.1 4 0))) := fun M hM hAM d hd => by
  have e0 : ∀ k, k ≠ 12 → k ≠ 6 → M.1 0 k = x.1 0 k := fun k h1 h2 => (hM 0 k (Or.inl (by decide)) (Or.inr ⟨by decide, by decide, by decide, by decide⟩) (Or.inr ⟨h1, h2⟩) ⟨by decide, by decide, by decide, by decide⟩).1
  have e18 : ∀ k, k ≠ 4 → M.1 (18 + 8 * s) k = x.1 (18 + 8 * s) k := fun k h1 => (hM _ k (Or.inr (by omega)) (Or.inl h1) (Or.inl (by omega)) ⟨by omega, by omega, by omega, by omega⟩).1
  have e2 : ∀ r k, r = 2 ∨ r = 3 → M.1 r k = x.1 r k := fun r k h1 => (hM r k (Or.inl (by omega)) (Or.inr ⟨by omega, by omega, by omega, by omega⟩) (Or.inl (by omega)) ⟨by omega, by omega, by omega, by omega⟩).1
  have HM := hf_put (H.te hs (WE_TE hM)) hs hc h3
  have pe : ∀ r k, (r < 19 + 8 * s ∨ 21 + 8 * s < r) → (pS M s c 1).1 r k = M.1 r k := fun r k h => by unfold pS; simp (disch := omega) only [ui_s, ui_o, ui_k]
  have hAp : a_H (pS M s c 1) := by
    unfold pS
    obtain rfl | rfl | rfl | rfl := t_four hs
    all_goals exact a_H_ui (a_H_ui (a_H_ui hAM (bI_top _)) (bI_top _)) (bI_top _)
  have w3 : ∀ p, p < 136 → (pS M s c 1).1 3 p = m.1 59 p := fun p hp => by rw [pe 3 p (by omega), e2 3 p (Or.inr rfl)]; exact R.wl p hp
  have h62 : ∀ i, (z_giv m s c 1).1 62 (4 * s + i) = m.1 62 (4 * s + i) := fun i => giv_o (by decide)
  have h63 : ∀ i, (z_giv m s c 1).1 63 (4 * s + i) = m.1 63 (4 * s + i) := fun i => giv_o (by decide)
  have c15 : M.1 0 15 = nI c := (e0 15 (by decide) (by decide)).trans (P.cx.trans (if_neg (by omega)))
  refine gc_weigh0 d hd M s c hs hc c15 (tX false (m.1 67 s) (m.1 69 s) (122 - m.1 50 47 - m.1 50 46) (x.1 0 16) (m.1 50 44)) 0 (deM m s (ad1 w c) q f) ((nI s - nI dl) &&& 3) (by rw [e0 9 (by decide) (by decide), R.dl, hdl]) (fun d hd => ?_) (fun d hd => gc_firstDraw d hd _ s hs false) (fun d hd => ?_) (fun μj => μj.1 0 15 = nI c ∧ WOj (pS M s c 1) μj ∧ a_H μj ∧ BX (ad1 w c) (ad1 aw c) q c sL lL false (tX false (m.1 67 s) (m.1 69 s) (122 - m.1 50 47 - m.1 50 46) (x.1 0 16) (m.1 50 44) ||| 0) (wiN s dl rd) (deM m s (ad1 w c) q f) (bqJ μj)) (fun μj z => z.1) (fun d hd => ?_)
  · have z := tX_c d hd (pS M s c 1) s hs false
    rw [pe _ 5 (by omega), pe _ 7 (by omega), pe 0 16 (by omega), pe 0 7 (by omega), e18 5 (by decide), e18 7 (by decide), e0 16 (by decide) (by decide), e0 7 (by decide) (by decide), R.be s hs, R.ao s hs, left_x R P ((pe 2 1 (by omega)).trans (e2 2 1 (Or.inl rfl))) ((pe 2 2 (by omega)).trans (e2 2 2 (Or.inl rfl))) ((pe 2 3 (by omega)).trans (e2 2 3 (Or.inl rfl))), P.px, ← P.pm] at z
    exact z
  · have z := gc_dear d hd (pS M s c 1) s hs (!decide (M.1 (18 + 8 * s) 5 = 0)) f hf (by rw [pe 2 1 (by omega), e2 2 1 (Or.inl rfl), R.sd, P.is]) (by rw [pe 2 3 (by omega), e2 2 3 (Or.inl rfl), P.fo]; exact hf47)
    rw [deF_cg (B := dAs m s (ad1 w c) (Wm m) q) (f + 1) (fun p h1 h2 => (dear_p HM h62 h63 hA (w3 p (by omega))).1), e18 5 (by decide), bt_not R hs] at z
    rw [e18 5 (by decide), bt_not R hs]
    exact z
  · have z := jd_x (c := c) HM hs hAp (fun i hi => ⟨by rw [pe _ i (by omega), WE_TE hM s hs 22 (by decide) (by decide), R.so s i hs (by have := H.1.2.2.1; omega)]; exact (H.1.2.2.2 i hi).1, by rw [pe _ i (by omega), WE_TE hM s hs 23 (by decide) (by decide), R.lo s i hs (by have := H.1.2.2.1; omega)]; exact (H.1.2.2.2 i hi).2.2.1⟩) false (tX false (m.1 67 s) (m.1 69 s) (122 - m.1 50 47 - m.1 50 46) (x.1 0 16) (m.1 50 44) ||| 0) (wiN s dl rd) (deM m s (ad1 w c) q f) d hd
    rw [e0 10 (by decide) (by decide), R.rn, hrd]
    exact z_C_mono z (fun r μ' y => ⟨y.1, (y.2.1 0 15 (Or.inl (by decide))).1.trans ((pe 0 15 (by omega)).trans c15), y.2⟩)
/-- weighing, of the reference -/
theorem wm0 {x m : zM} {s c : Nat} {w aw : Nat → Nat} {q : Nat} {sL lL : Nat → Nat} (hs : s < 4) (H : HF x m s w aw q sL lL) (hA : a_H m) (hc : c < 34) {f dl rd : Nat} (hf : f ≤ 4) (hf47 : m.1 50 47 = nI f) (hdl : m.1 50 40 = nI dl) (hrd : m.1 50 41 = nI rd) : ∀ M, SVl m M → a_H M → ∀ d, 699 ≤ d → z_C d mi_X7_value [.ref 50, .int (nI s), .int (nI c), .int 0] M (fun r W => r = none ∧ a_H W ∧ SMj M W ∧ BM (ad1 w c) q c sL lL false (tM0 (m.1 67 s) (m.1 69 s) (122 - m.1 50 47 - m.1 50 46) (m.1 50 44)) (wdM (nI dl) (nI s)) (nI rd) (deM m s (ad1 w c) q f) (bq W)) := fun M hM hAM d hd => by
  have e5 : ∀ k, (k = 40 ∨ k = 41 ∨ k = 44 ∨ k = 46 ∨ k = 47 ∨ k = 56 ∨ k = 58) → M.1 50 k = m.1 50 k := fun k h => hM 50 k (by omega)
  have e6 : ∀ r k, (r = 59 ∨ r = 60 ∨ r = 62 ∨ r = 63 ∨ r = 64 ∨ r = 67 ∨ r = 68 ∨ r = 69) → M.1 r k = m.1 r k := fun r k h => hM r k (by omega)
  have eW : ∀ p, Wm M p = Wm m p := fun p => by unfold Wm; rw [e6 59 p (by omega)]
  have z := gm_value0 d (by omega) M hAM s c hs hc w q sL lL (H.1.se (fun r k g => e6 r k (by omega))) f hf ((e5 47 (by omega)).trans hf47) (Wm M) (fun p _ _ => Wm_e hAM p)
  refine z_C_mono z (fun r W y => ⟨y.1, y.2.1, y.2.2.1, ?_⟩)
  obtain ⟨κ, k1, k2⟩ := y.2.2.2.2
  refine ⟨κ, ?_, k2⟩
  have ed : dAs M s (ad1 w c) (Wm M) q = dAs m s (ad1 w c) (Wm m) q := by
    funext p
    unfold dAs
    rw [eW p, show (fun i => M.1 62 (4 * s + i)) = (fun i => m.1 62 (4 * s + i)) from funext fun i => e6 62 _ (by omega), show (fun i => M.1 63 (4 * s + i)) = (fun i => m.1 63 (4 * s + i)) from funext fun i => e6 63 _ (by omega)]
  rw [ed, e6 67 s (by omega), e6 69 s (by omega), e5 44 (by omega), e5 40 (by omega), e5 41 (by omega), hdl, hrd] at k1
  unfold tM0 deM
  rw [← e5 47 (by omega), ← e5 46 (by omega)]
  exact k1
/-- both weigh alike -/
theorem wb0 {x m : zM} {p t c s : Nat} {w aw : Nat → Nat} {q : Nat} {sL lL : Nat → Nat} (R : RCl x m) (P : RPh x m p t c) (hs : s < 4) (H : HF x m s w aw q sL lL) (hA : a_H m) (hc : c < 34) (h3 : aw c ≤ 3) {f dl rd : Nat} (hf : f ≤ 4) (hdl4 : dl < 4) (hrd2 : rd < 2) {v b : Q4} (hX : BX (ad1 w c) (ad1 aw c) q c sL lL false (tX false (m.1 67 s) (m.1 69 s) (122 - m.1 50 47 - m.1 50 46) (x.1 0 16) (m.1 50 44) ||| 0) (wiN s dl rd) (deM m s (ad1 w c) q f) v) (hM : BM (ad1 w c) q c sL lL false (tM0 (m.1 67 s) (m.1 69 s) (122 - m.1 50 47 - m.1 50 46) (m.1 50 44)) (wdM (nI dl) (nI s)) (nI rd) (deM m s (ad1 w c) q f) b) : v.1 = b.1 ∧ v.2.1 = b.2.1 ∧ v.2.2.2 = b.2.2.2 := by
  have H' := hf_put H hs hc h3
  have w3 : ∀ p, p < 136 → (pS x s c 1).1 3 p = m.1 59 p := fun p hp => by unfold pS; simp (disch := omega) only [ui_s, ui_o, ui_k]; exact R.wl p hp
  exact wo_eq H' hc (by show 0 < ad1 w c c; unfold ad1; rw [if_pos rfl]; omega) (tX_0 _ _ _ _ _) (wi_3 s hs dl hdl4 rd hrd2).1 (wi_3 s hs dl hdl4 rd hrd2).2 (de_63 H' (fun i => giv_o (by decide)) (fun i => giv_o (by decide)) hA w3 hf) hX hM
