/-! discard answers alike -/
set_option maxRecDepth 8000
theorem hd_or (a b : Int64) {k : Nat} (hk : k < 34) : xHd (a ||| b) (nI k) = (xHd a (nI k) || xHd b (nI k)) := by
  unfold xHd
  rw [kn_l0 (by omega), kn_le (m := 34) rfl (by omega) hk, shu_bit _ hk, shu_bit _ hk, shu_bit _ hk, Int64.toBitVec_or, BitVec.getLsbD_or]
  cases a.toBitVec.getLsbD k <;> cases b.toBitVec.getLsbD k <;> decide
theorem bar_hd {m : zM} {k : Nat} (hk : k < 34) (h : m.1 50 57 = 0 ∨ (¬ m.1 50 57 = 0 ∧ BN m)) : xHd (barM m) (nI k) = (!decide (m.1 50 57 = 0) && (decide (nI k = m.1 50 50) || decide (nI k = m.1 50 51))) := by
  unfold barM
  rcases h with h | ⟨h, b, hb, e50, h51⟩
  · rw [decide_eq_true h, cond_true, hd_zero k hk]; rfl
  · rw [decide_eq_false h, cond_false, hd_or _ _ hk, e50, hd_one b hb k hk, nI_dec hk hb, Bool.not_false, Bool.true_and]
    rcases h51 with h51 | ⟨e, he, h51⟩
    · rw [h51, show decide ((-1 : Int32) = -1) = true from by decide, cond_true, hd_zero k hk, nI_m1n hk]
    · rw [h51, nI_m1n he, cond_false, hd_one e he k hk, nI_dec hk he]
theorem dc0_tree {α : Type} (A J B1 B2 Z T : Bool) (y n : α) : (bif A then n else (bif J then (bif Z then y else (bif T then y else n)) else (bif B1 then n else (bif B2 then n else (bif Z then y else (bif T then y else n)))))) = (bif (!A && (!(!J && (B1 || B2)) && (Z || T))) then y else n) := by
  cases A <;> cases J <;> cases B1 <;> cases B2 <;> cases Z <;> cases T <;> rfl
theorem dc1_tree (A J B1 B2 Z T r : Bool) : (!A && (bif J then (Z && r) else (!B1 && (!B2 && (Z && r))))) = ((!A && (!(!J && (B1 || B2)) && (Z || T))) && (Z && r)) := by
  cases A <;> cases J <;> cases B1 <;> cases B2 <;> cases Z <;> cases T <;> cases r <;> rfl
/-- may a tile be discarded: the reference's words -/
def dcT (m : zM) (t k : Nat) : Bool := !decide (m.1 60 (34 * t + k) = 0) && (!(!decide (m.1 50 57 = 0) && (decide (nI k = m.1 50 50) || decide (nI k = m.1 50 51))) && (decide (m.1 67 t ≤ 0) || decide (nI k = m.1 50 49)))
theorem bet_le {x m : zM} (R : RCl x m) {t : Nat} (ht : t < 4) : decide (m.1 67 t ≤ 0) = decide (m.1 67 t = 0) := by
  rcases R.bb t ht with e | e | e <;> (rw [e]; decide)
theorem mt_eq {x m : zM} {t c k : Nat} (R : RCl x m) (P : RPh x m 1 t c) (hk : k < 34) : (!(decide ((fr x (20 + 8 * t) (nI k)) = 0)) && (!(xHd (x.2.1 0 18) (nI k)) && ((decide ((x.1 (18 + 8 * t) 5) = 0)) || (decide ((nI k) = (x.1 0 15)))))) = dcT m t k := by
  have hb : m.1 50 57 = 0 ∨ (¬ m.1 50 57 = 0 ∧ BN m) := by
    rcases P.c3 with q | ⟨q, _⟩
    · left; rw [P.jc rfl, if_neg (by omega)]
    · right; exact ⟨by rw [P.jc rfl, if_pos q]; decide, (P.bn rfl q).1⟩
  unfold dcT
  rw [P.ba rfl, bar_hd hk hb, fr_yes hk, R.hd t k P.t4 hk, R.be t P.t4, P.cx.trans P.cm.symm, bet_le R P.t4]
theorem rv86 {μ : zM} {a : Nat} (hP : GP μ) (hH : a_H μ) (ha : a < 4) (y1 : μ.1 50 44 = 1) : ∃ rr, rr < 86 ∧ μ.1 66 a = nI rr := by
  have g6 := hP.2.2.2.2.2
  have g2 := hP.2.1
  have g3 : (μ.1 50 48).toInt = (μ.1 50 47).toInt := by rw [hP.2.2.1]
  rw [if_pos y1] at g6
  have m : ∀ s, mI μ s ≤ 4 := fun s => (hH 64 s).2
  have r : ∀ s, 0 ≤ rI μ s := fun s => (hH 66 s).1
  have m0 := m 0
  have m1 := m 1
  have m2 := m 2
  have m3 := m 3
  have r0 := r 0
  have r1 := r 1
  have r2 := r 2
  have r3 := r 3
  unfold sM sR at g6
  have hb : rI μ a < 86 := by
    rcases (show a = 0 ∨ a = 1 ∨ a = 2 ∨ a = 3 by omega) with rfl | rfl | rfl | rfl <;> omega
  exact a_nI (x := μ.1 66 a) (n := 86) (r a) hb (by decide)
theorem HF.aw {x m : zM} {s : Nat} {w aw : Nat → Nat} {q : Nat} {sL lL : Nat → Nat} (H : HF x m s w aw q sL lL) {k : Nat} (hk : k < 34) : ∃ e, aw k = w k + e := by
  obtain ⟨h1, h2, h3, h4, h5, h6, h7, h8⟩ := H
  obtain ⟨e, z1, z2⟩ := ofv_nat (so := fun i => m.1 62 (4 * s + i)) (lo := fun i => m.1 63 (4 * s + i)) (k := nI k) (w := w k) q
  have a := h6 k hk
  have b := (h1.1 k hk).2
  have c := h1.2.2.1
  exact ⟨e, (nI_eq (by omega) (by omega)).mp ((h8 k hk).trans z2)⟩
theorem all_ne {x m : zM} {s : Nat} {w aw : Nat → Nat} {q : Nat} {sL lL : Nat → Nat} (H : HF x m s w aw q sL lL) {k : Nat} (hk : k < 34) (h : 1 ≤ w k) : ¬ x.1 (21 + 8 * s) k = 0 := by
  obtain ⟨e, z⟩ := H.aw hk
  have a := H.2.2.1 k hk
  have b := H.2.2.2.2.2.1 k hk
  rw [a.1]
  intro y
  have := (nI_eq (a := aw k) (b := 0) (by omega) (by decide)).mp y
  omega
def tk1 (w : Nat → Nat) (k : Nat) : Nat → Nat := fun j => if j = k then w j - 1 else w j
theorem nI_p {n : Nat} (h : 1 ≤ n) : nI n + -1 = nI (n - 1) := by
  obtain ⟨v, rfl⟩ : ∃ v, n = v + 1 := ⟨n - 1, by omega⟩
  rw [← nI_s1, Int32.add_assoc, show (1 : Int32) + -1 = 0 from by decide, Int32.add_zero, Nat.add_sub_cancel]
theorem ofv_p {a b k : Int32} {so lo : Nat → Int32} : ∀ n, ofv (a + b) so lo k n = ofv a so lo k n + b
  | 0 => rfl
  | n + 1 => by
    show ofv (a + b) so lo k n + ct (so n) (lo n) k = ofv a so lo k n + ct (so n) (lo n) k + b
    rw [ofv_p n, Int32.add_assoc, Int32.add_comm b, ← Int32.add_assoc]
theorem tk1_s {w : Nat → Nat} {k : Nat} : tk1 w k k = w k - 1 := if_pos rfl
theorem tk1_o {w : Nat → Nat} {k j : Nat} (h : j ≠ k) : tk1 w k j = w j := if_neg h
theorem sn_tk1 {w : Nat → Nat} {k : Nat} (hk : k < 34) (h : 1 ≤ w k) : sn w 34 = sn (tk1 w k) 34 + 1 := by
  rw [← sn_ad1 (w := tk1 w k) hk]
  refine sn_congr9 34 (fun i _ => ?_)
  unfold ad1
  by_cases e : i = k
  · subst e; rw [if_pos rfl, tk1_s]; omega
  · rw [if_neg e, tk1_o e]
theorem hf_take {x m : zM} {s : Nat} {w aw : Nat → Nat} {q : Nat} {sL lL : Nat → Nat} (H : HF x m s w aw q sL lL) (hs : s < 4) {k : Nat} (hk : k < 34) (h1 : 1 ≤ w k) : HF (pS x s k (-1)) (z_giv m s k (-1)) s (tk1 w k) (tk1 aw k) q sL lL := by
  obtain ⟨e, he⟩ := H.aw hk
  obtain ⟨g1, g2, g3, g4, g5, g6, g7, g8⟩ := H
  refine ⟨⟨fun j hj => ?_, ?_, g1.2.2.1, fun j hj => ?_⟩, fun j hj => ?_, fun j hj => ?_, ?_, fun hq j hj => ?_, fun j hj => ?_, ?_, fun j hj => ?_⟩
  · rw [giv_60]
    by_cases e2 : j = k
    · subst e2; rw [if_pos rfl, (g1.1 j hj).1, nI_p h1, tk1_s]; exact ⟨rfl, by have := (g1.1 j hj).2; omega⟩
    · rw [if_neg (by omega), tk1_o e2]; exact g1.1 j hj
  · rw [giv_o (by decide)]; exact g1.2.1
  · rw [giv_o (by decide), giv_o (by decide)]; exact g1.2.2.2 j hj
  · unfold pS
    by_cases e2 : j = k
    · subst e2; simp (disch := omega) only [ui_s, ui_o, ui_k]; rw [(g2 j hj).1, nI_p h1, tk1_s]; exact ⟨rfl, by have := (g2 j hj).2; omega⟩
    · simp (disch := omega) only [ui_s, ui_o, ui_k]; rw [tk1_o e2]; exact g2 j hj
  · unfold pS
    by_cases e2 : j = k
    · subst e2; simp (disch := omega) only [ui_s, ui_o, ui_k]; rw [(g3 j hj).1, nI_p (by omega), tk1_s]; exact ⟨rfl, by have := (g3 j hj).2; omega⟩
    · simp (disch := omega) only [ui_s, ui_o, ui_k]; rw [tk1_o e2]; exact g3 j hj
  · unfold pS; simp (disch := omega) only [ui_s, ui_o, ui_k]; exact g4
  · unfold tk1; rw [g5 hq j hj]
  · by_cases e2 : j = k
    · subst e2; rw [tk1_s]; have := g6 j hj; omega
    · rw [tk1_o e2]; exact g6 j hj
  · unfold pS; rw [ui_s, g7, sn_tk1 hk h1, nI_p (by omega), Nat.add_sub_cancel]
  · rw [show (fun i => (z_giv m s k (-1)).1 62 (4 * s + i)) = (fun i => m.1 62 (4 * s + i)) from funext fun i => giv_o (by decide), show (fun i => (z_giv m s k (-1)).1 63 (4 * s + i)) = (fun i => m.1 63 (4 * s + i)) from funext fun i => giv_o (by decide)]
    by_cases e2 : j = k
    · subst e2; rw [tk1_s, tk1_s, ← nI_p h1, ofv_p, ← g8 j hj, nI_p (by omega)]
    · rw [tk1_o e2, tk1_o e2]; exact g8 j hj
theorem pS_back {x : zM} {s k : Nat} (hs : s < 4) : EqX x (pS (pS x s k (-1)) s k 1) := fun r k' _ => ⟨by
  have z : ∀ v : Int32, v + -1 + 1 = v := fun v => by rw [Int32.add_assoc, show (-1 : Int32) + 1 = 0 from by decide, Int32.add_zero]
  unfold pS
  by_cases e1 : r = 20 + 8 * s
  · subst e1
    by_cases e2 : k' = k
    · subst e2; simp (disch := omega) only [ui_s, ui_o, ui_k]; exact z _
    · simp (disch := omega) only [ui_s, ui_o, ui_k]
  · by_cases e1 : r = 21 + 8 * s
    · subst e1
      by_cases e2 : k' = k
      · subst e2; simp (disch := omega) only [ui_s, ui_o, ui_k]; exact z _
      · simp (disch := omega) only [ui_s, ui_o, ui_k]
    · by_cases e1 : r = 19 + 8 * s
      · subst e1
        by_cases e2 : k' = 5
        · subst e2; simp (disch := omega) only [ui_s, ui_o, ui_k]; exact z _
        · simp (disch := omega) only [ui_s, ui_o, ui_k]
      · simp (disch := omega) only [ui_s, ui_o, ui_k], rfl⟩
/-- may the hand bet: the reference's words -/
def mbF (m : zM) (t qs : Nat) (wt : Int64) : Bool := decide (m.1 67 t ≤ 0) && (!kA (ioF m t) qs && (!decide (m.1 61 t < 1000) && (decide (4 ≤ 122 - m.1 50 47 - m.1 50 46) && !decide (lg_cmp wt 0 = 0))))
theorem lt_nle (a b : Int32) : (!decide (a < b)) = decide (b ≤ a) := by
  by_cases h : a < b
  · rw [decide_eq_true h, decide_eq_false (fun e => absurd (Int32.lt_iff_toInt_lt.mp h) (by have := Int32.le_iff_toInt_le.mp e; omega))]; rfl
  · rw [decide_eq_false h, decide_eq_true (Int32.le_iff_toInt_le.mpr (by have z : ¬ a.toInt < b.toInt := fun q => h (Int32.lt_iff_toInt_lt.mpr q); omega))]; rfl
theorem mb_x {x m : zM} {t c k : Nat} {w aw : Nat → Nat} {qs : Nat} {sL lL : Nat → Nat} (R : RCl x m) (P : RPh x m 1 t c) (H : HF x m t w aw qs sL lL) (hk : k < 34) (h1 : 1 ≤ w k) {wt : Int64} (hwt : ∀ μ1, TE (pS x t k (-1)) μ1 → ∀ d, 7 ≤ d → z_C d mi_X3_waiting [.ref (19 + 8 * t)] μ1 (zR μ1 (.long wt))) : ∀ d, 8 ≤ d → z_C d mi_X6_mayBet [.ref 0, .ref (18 + 8 * t)] (pS x t k (-1)) (zR (pS x t k (-1)) (.int (nB (mbF m t qs wt)))) := fun d hd => by
  have ht := P.t4
  have z := gc_mayBet d hd (pS x t k (-1)) t ht qs H.1.2.2.1 (by unfold pS; simp (disch := omega) only [ui_s, ui_o, ui_k]; exact H.2.2.2.1) wt (fun d hd => hwt _ (fun _ _ _ _ _ _ => rfl) d hd)
  have e5 : (pS x t k (-1)).1 (18 + 8 * t) 5 = m.1 67 t := by unfold pS; simp (disch := omega) only [ui_s, ui_o, ui_k]; exact R.be t ht
  have e4 : (pS x t k (-1)).1 (18 + 8 * t) 4 = m.1 61 t := by unfold pS; simp (disch := omega) only [ui_s, ui_o, ui_k]; exact R.pt t ht
  have eo : (pS x t k (-1)).1 (22 + 8 * t) = x.1 (22 + 8 * t) := by
    funext i; unfold pS; simp (disch := omega) only [ui_s, ui_o, ui_k]
  have el : xLf (pS x t k (-1)) = 122 - m.1 50 47 - m.1 50 46 := by
    unfold xLf pS
    simp (disch := omega) only [ui_s, ui_o, ui_k]
    rw [R.sd, P.is, P.fo, R.nx, show decide ((1 : Int32) = 0) = false from by decide, cond_false]
  rw [e5, e4, eo, el, open_eq R ht qs H.1.2.2.1, lt_nle _ 4, ← bet_le R ht] at z
  exact z
theorem lg_disc0 {d : Nat} (hd : 705 ≤ d) {μ : zM} (h : LGm μ) (x : Int32) : GO d mi_X6_discard mi_X7_discard [.ref 0, .int x, .int 0] [.ref 50, .int x, .int 0] μ := by
  obtain ⟨hJ, hR⟩ := h
  have kx : z_C d mi_X6_discard [.ref 0, .int x, .int 0] μ (fun _ μ' => LJ μ' ∧ EqM μ μ') := lg_k (i := 59) (K := ak_59) rfl (by omega) (by decide) (by decide) rfl (by decide) [.ref 0, .int x, .int 0] μ hJ ⟨⟨0, by decide, rfl⟩, ⟨_, rfl, bI_top _⟩, ⟨_, rfl, by decide, by decide⟩, trivial⟩
  have km : ∀ μ1, LJ μ1 → z_C d mi_X7_discard [.ref 50, .int x, .int 0] μ1 (fun _ μ' => LJ μ' ∧ EqX μ1 μ') := fun μ1 h1 => lg_g h1 (fc_X7_discard d (by omega) μ1 x 0 ⟨by decide, by decide⟩ h1.1)
  have hA := hJ.1.1
  rcases hR.2 with ⟨p1, p2, -, -, -⟩ | ⟨p, t, c, P⟩
  · exact go_no hR kx km (gx_discP d (by omega) μ x 0 (by rw [p1]; decide)) (mr_discP d (by omega) μ x 0 (by rw [p2]; decide))
  · by_cases hp : p = 1
    · subst hp
      have R := hR.1
      have ht4 := P.t4
      have hp1 : μ.1 50 44 = 1 := P.pm
      have G := hJ.1.2.2 (by rw [hp1]; decide)
      by_cases hv : vp_in x 34
      · obtain ⟨k, hk, rfl⟩ := vp_in_of hv (by decide)
        obtain ⟨q, hq, e66⟩ := rv86 G hA ht4 hp1
        obtain ⟨w, aw, qs, sL, lL, H⟩ := hf_of R P hA G ht4
        have hmt : ∀ d, 3 ≤ d → z_C d mi_X6_mayThrow [.ref 0, .int (nI k)] μ (zR μ (.int (nB (dcT μ t k)))) := fun d hd => by
          rw [← mt_eq R P hk]; exact gc_mayThrow d hd μ t ht4 P.tx (nI k)
        have E : ∀ μ1, EqM μ μ1 → ∀ r k', gMc r k' → μ1.1 r k' = μ.1 r k' := fun μ1 qM r k' g => (qM r k' g).1
        have dE : ∀ μ1, EqM μ μ1 → dcT μ1 t k = dcT μ t k := fun μ1 qM => by
          unfold dcT
          rw [E μ1 qM 60 _ (Or.inl ⟨by decide, by decide⟩), E μ1 qM 67 t (Or.inl ⟨by decide, by decide⟩), E μ1 qM 50 57 (Or.inr ⟨rfl, by decide, by decide⟩), E μ1 qM 50 50 (Or.inr ⟨rfl, by decide, by decide⟩), E μ1 qM 50 51 (Or.inr ⟨rfl, by decide, by decide⟩), E μ1 qM 50 49 (Or.inr ⟨rfl, by decide, by decide⟩)]
        have cm : ∀ μ1, EqM μ μ1 → z_C d mi_X7_discard [.ref 50, .int (nI k), .int 0] μ1 (fun r μ' => r = some (bif dcT μ t k then .int 1 else .int 0) ∧ μ' = (bif dcT μ t k then dY0 (z_ui μ1 50 0 0) t k q else z_ui μ1 50 0 0)) := fun μ1 qM => by
          have z := gm_discard0 d (by omega) μ1 t ht4 ((E μ1 qM 50 45 (Or.inr ⟨rfl, by decide, by decide⟩)).trans P.tm) k q hk (by omega) ((E μ1 qM 66 t (Or.inl ⟨by decide, by decide⟩)).trans e66)
          rw [E μ1 qM 50 44 (Or.inr ⟨rfl, by decide, by decide⟩), hp1, show decide ((1 : Int32) = 1) = true from by decide] at z
          simp only [cond_true] at z
          rw [dc0_tree, dc0_tree] at z
          rw [← dE μ1 qM]
          exact z
        cases hT : dcT μ t k with
        | true =>
          have hw1 : 1 ≤ w k := by
            rcases Nat.eq_zero_or_pos (w k) with e | e
            · exfalso
              unfold dcT at hT
              rw [(H.1.1 k hk).1, e, show decide (nI 0 = 0) = true from by decide] at hT
              cases hT
            · exact e
          have H' := hf_take H ht4 hk hw1
          have hwx := cw_wait H' ht4
          have hmb := mb_x R P H hk hw1 hwx
          have hal := all_ne H hk hw1
          have cc := gc_discard d (by omega) μ t ht4 P.tx k q hk hq ((R.ds t ht4).trans e66) false (dcT μ t k) hmt _ hmb
          rw [hT, P.px, show decide (nI 1 = 1) = true from by decide, show nB false = 0 from rfl] at cc
          simp only [cond_true, cond_false] at cc
          refine go_yes (X := dX0 μ t k q) (y := 1) kx km (z_C_mono cc (fun r μ' z => ⟨z.1, by rw [z.2]; exact eqX_rf _⟩)) (fun μ1 h1 qM => ?_)
          have z := cm μ1 qM
          rw [hT] at z
          simp only [cond_true, cond_false] at z
          refine z_C_mono z (fun r μ' z => ⟨z.1, ?_⟩)
          rw [z.2]
          have eM : EqM μ (z_ui μ1 50 0 0) := eqM_tr qM (t0_EqM μ1 0)
          have e6 : (z_ui μ1 50 0 0).1 66 t = nI q := (eM 66 t (Or.inl ⟨by decide, by decide⟩)).1.trans e66
          exact ⟨rc_discard0 (R.cg (eqX_rf _) eM) ht4 hk hq e6, Or.inr ⟨2, t, k, rp_discard0 (P.cg (eqX_rf _) eM) hk hq e6 hal⟩⟩
        | false =>
          have z := cm μ (eqM_rf _)
          rw [hT] at z
          simp only [cond_true, cond_false] at z
          exact go_no hR kx km (gx_discT d (by omega) μ (nI k) 0 (fun d hd => by have y := hmt d hd; rw [hT] at y; exact y)) z
      · exact go_no hR kx km (gx_discT d (by omega) μ x 0 (fun d hd => by
          have z := gc_mayThrow d (by omega) μ t ht4 P.tx x
          rw [fr_no hv] at z
          exact z)) (mr_discK d (by omega) μ x 0 (isK_no hv))
    · have e : ∀ v : Int32, v = nI p → decide (v = 1) = false := fun v hv => by
        rcases P.p3 with q | q | q
        · exact absurd q hp
        · rw [hv, q]; decide
        · rw [hv, q]; decide
      exact go_no hR kx km (gx_discP d (by omega) μ x 0 (e _ P.px)) (mr_discP d (by omega) μ x 0 (e _ P.pm))
theorem lg_disc1 {d : Nat} (hd : 705 ≤ d) {μ : zM} (h : LGm μ) (x : Int32) : GO d mi_X6_discard mi_X7_discard [.ref 0, .int x, .int 1] [.ref 50, .int x, .int 1] μ := by
  obtain ⟨hJ, hR⟩ := h
  have kx : z_C d mi_X6_discard [.ref 0, .int x, .int 1] μ (fun _ μ' => LJ μ' ∧ EqM μ μ') := lg_k (i := 59) (K := ak_59) rfl (by omega) (by decide) (by decide) rfl (by decide) [.ref 0, .int x, .int 1] μ hJ ⟨⟨0, by decide, rfl⟩, ⟨_, rfl, bI_top _⟩, ⟨_, rfl, by decide, by decide⟩, trivial⟩
  have km : ∀ μ1, LJ μ1 → z_C d mi_X7_discard [.ref 50, .int x, .int 1] μ1 (fun _ μ' => LJ μ' ∧ EqX μ1 μ') := fun μ1 h1 => lg_g h1 (fc_X7_discard d (by omega) μ1 x 1 ⟨by decide, by decide⟩ h1.1)
  have hA := hJ.1.1
  rcases hR.2 with ⟨p1, p2, -, -, -⟩ | ⟨p, t, c, P⟩
  · exact go_no hR kx km (gx_discP d (by omega) μ x 1 (by rw [p1]; decide)) (mr_discP d (by omega) μ x 1 (by rw [p2]; decide))
  · by_cases hp : p = 1
    · subst hp
      have R := hR.1
      have ht4 := P.t4
      have hp1 : μ.1 50 44 = 1 := P.pm
      have G := hJ.1.2.2 (by rw [hp1]; decide)
      by_cases hv : vp_in x 34
      · obtain ⟨k, hk, rfl⟩ := vp_in_of hv (by decide)
        obtain ⟨q, hq, e66⟩ := rv86 G hA ht4 hp1
        obtain ⟨w, aw, qs, sL, lL, H⟩ := hf_of R P hA G ht4
        have hmt : ∀ d, 3 ≤ d → z_C d mi_X6_mayThrow [.ref 0, .int (nI k)] μ (zR μ (.int (nB (dcT μ t k)))) := fun d hd => by
          rw [← mt_eq R P hk]; exact gc_mayThrow d hd μ t ht4 P.tx (nI k)
        have E : ∀ μ1, EqM μ μ1 → ∀ r k', gMc r k' → μ1.1 r k' = μ.1 r k' := fun μ1 qM r k' g => (qM r k' g).1
        have dE : ∀ μ1, EqM μ μ1 → dcT μ1 t k = dcT μ t k := fun μ1 qM => by
          unfold dcT
          rw [E μ1 qM 60 _ (Or.inl ⟨by decide, by decide⟩), E μ1 qM 67 t (Or.inl ⟨by decide, by decide⟩), E μ1 qM 50 57 (Or.inr ⟨rfl, by decide, by decide⟩), E μ1 qM 50 50 (Or.inr ⟨rfl, by decide, by decide⟩), E μ1 qM 50 51 (Or.inr ⟨rfl, by decide, by decide⟩), E μ1 qM 50 49 (Or.inr ⟨rfl, by decide, by decide⟩)]
        by_cases hw0 : w k = 0
        · have hz : decide (μ.1 60 (34 * t + k) = 0) = true := by rw [(H.1.1 k hk).1, hw0]; decide
          exact go_no hR kx km (gx_discT d (by omega) μ (nI k) 1 (fun d hd => by
            have y := hmt d hd
            rw [show dcT μ t k = false from by unfold dcT; rw [hz]; rfl] at y
            exact y)) (mr_discH d (by omega) μ t k ht4 P.tm hk 1 (by rw [hp1]; decide) hz)
        have hw1 : 1 ≤ w k := by omega
        have H' := hf_take H ht4 hk hw1
        have hwx := cw_wait H' ht4
        have hmb := mb_x R P H hk hw1 hwx
        have hal := all_ne H hk hw1
        have cm : ∀ μ1, LJ μ1 → EqM μ μ1 → z_C d mi_X7_discard [.ref 50, .int (nI k), .int 1] μ1 (fun r μ' => (dsC μ1 t k (kA (ioF μ t) qs) (WV (z_giv μ t k (-1)) t (tk1 w k) qs) = true ∧ r = some (.int 1) ∧ SMj (dsM μ1 t k q) μ') ∨ (dsC μ1 t k (kA (ioF μ t) qs) (WV (z_giv μ t k (-1)) t (tk1 w k) qs) = false ∧ r = some (.int 0) ∧ (SMj (z_ui μ1 50 0 0) μ' ∨ SMj (z_giv (z_giv (z_ui μ1 50 0 0) t k (-1)) t k 1) μ'))) := fun μ1 h1 qM => by
          have eM : EqM μ (z_ui μ1 50 0 0) := eqM_tr qM (t0_EqM μ1 0)
          refine gm_discard1 d (by omega) μ1 t ht4 ((E μ1 qM 50 45 (Or.inr ⟨rfl, by decide, by decide⟩)).trans P.tm) k q hk (by omega) ((E μ1 qM 66 t (Or.inl ⟨by decide, by decide⟩)).trans e66) (by rw [E μ1 qM 50 44 (Or.inr ⟨rfl, by decide, by decide⟩), hp1]; decide) _ (fun d hd => ?_) _ (fun d hd => mw_wait H'.1 ht4 (z_giv (z_ui μ1 50 0 0) t k (-1)) (fun r k' g => ?_) (show a_H (z_giv (z_ui μ1 50 0 0) t k (-1)) from a_H_ui (a_H_ui h1.1.1 (bI_top _)) (bI_top _)) d hd)
          · have z := gm_isOpenS d (by omega) (z_ui μ1 50 0 0) t qs ht4 H.1.2.2.1 ((eM 64 t (Or.inl ⟨by decide, by decide⟩)).1.trans H.1.2.1)
            rw [show ioF (z_ui μ1 50 0 0) t = ioF μ t from funext fun i => by unfold ioF; rw [(eM 62 _ (Or.inl ⟨by decide, by decide⟩)).1]] at z
            exact z
          · by_cases e : r = 60
            · subst e; rw [giv_60, giv_60, (eM 60 _ (Or.inl ⟨by decide, by decide⟩)).1]
            · rw [giv_o e, giv_o e, (eM r k' (Or.inl ⟨by omega, by omega⟩)).1]
        have dS : ∀ μ1, EqM μ μ1 → dsC μ1 t k (kA (ioF μ t) qs) (WV (z_giv μ t k (-1)) t (tk1 w k) qs) = (dcT μ t k && mbF μ t qs (WV (z_giv μ t k (-1)) t (tk1 w k) qs)) := fun μ1 qM => by
          have y := dE μ1 qM
          unfold dcT at y
          unfold dsC
          rw [dc1_tree _ _ _ _ _ (decide (nI k = μ1.1 50 49)), y]
          unfold mbF dcT
          rw [E μ1 qM 67 t (Or.inl ⟨by decide, by decide⟩), E μ1 qM 61 t (Or.inl ⟨by decide, by decide⟩), E μ1 qM 50 47 (Or.inr ⟨rfl, by decide, by decide⟩), E μ1 qM 50 46 (Or.inr ⟨rfl, by decide, by decide⟩)]
        cases hT : dcT μ t k with
        | true =>
          have cc := gc_discard d (by omega) μ t ht4 P.tx k q hk hq ((R.ds t ht4).trans e66) true (dcT μ t k) hmt _ hmb
          rw [hT, P.px, show decide (nI 1 = 1) = true from by decide, show nB true = 1 from rfl] at cc
          simp only [cond_true, cond_false] at cc
          cases hB : mbF μ t qs (WV (z_giv μ t k (-1)) t (tk1 w k) qs) with
          | true =>
            rw [hB] at cc
            simp only [cond_true, cond_false] at cc
            refine go_yes (X := dX1 μ t k q (bif decide ((μ.1 (18 + 8 * t) 2) = 0) then bif decide ((μ.1 0 17) = 0) then (2 : Int32) else 1 else 1)) (y := 1) kx km (z_C_mono cc (fun r μ' z => ⟨z.1, by rw [z.2]; exact eqX_rf _⟩)) (fun μ1 h1 qM => z_C_mono (cm μ1 h1 qM) (fun r μ' z => ?_))
            rcases z with ⟨-, z2, z3⟩ | ⟨z1, -, -⟩
            · refine ⟨z2, ?_⟩
              have eM : EqM μ (z_giv (z_giv (z_ui μ1 50 0 0) t k (-1)) t k 1) := eqM_tr (eqM_tr qM (t0_EqM μ1 0)) (fun r k' _ => ⟨gv_c (by decide) r k', rfl⟩)
              have e6 : (z_giv (z_giv (z_ui μ1 50 0 0) t k (-1)) t k 1).1 66 t = nI q := (eM 66 t (Or.inl ⟨by decide, by decide⟩)).1.trans e66
              have bv : (bif decide ((μ.1 (18 + 8 * t) 2) = 0) then bif decide ((μ.1 0 17) = 0) then (2 : Int32) else 1 else 1) = (bif decide ((nI q) = 0) then bif decide ((μ1.1 50 56) = 0) then (1 : Int32) else 2 else 1) := by
                rw [R.ds t ht4, e66, P.br, E μ1 qM 50 56 (Or.inr ⟨rfl, by decide, by decide⟩)]
                cases decide (nI q = 0) <;> cases decide (μ.1 50 56 = 0) <;> rfl
              rw [bv]
              have g : RG (dX1 μ t k q (bif decide ((nI q) = 0) then bif decide ((μ1.1 50 56) = 0) then (1 : Int32) else 2 else 1)) (dY1 (z_giv (z_giv (z_ui μ1 50 0 0) t k (-1)) t k 1) t k q (bif decide ((nI q) = 0) then bif decide ((μ1.1 50 56) = 0) then (1 : Int32) else 2 else 1)) := ⟨rc_discard1 (R.cg (eqX_rf _) eM) ht4 hk hq e6 (by cases decide (nI q = 0) <;> cases decide (μ1.1 50 56 = 0) <;> first | exact Or.inl rfl | exact Or.inr rfl), Or.inr ⟨2, t, k, rp_discard1 (P.cg (eqX_rf _) eM) hk hq e6 hal⟩⟩
              have ed : dsM μ1 t k q = dY1 (z_giv (z_giv (z_ui μ1 50 0 0) t k (-1)) t k 1) t k q (bif decide ((nI q) = 0) then bif decide ((μ1.1 50 56) = 0) then (1 : Int32) else 2 else 1) := by
                unfold dsM dY1
                generalize (bif decide ((nI q) = 0) then bif decide ((μ1.1 50 56) = 0) then (1 : Int32) else 2 else 1) = v
                generalize z_giv (z_giv (z_ui μ1 50 0 0) t k (-1)) t k 1 = M
                rw [show z_giv (z_ui M 67 t v) t k (-1) = z_ui (z_giv M t k (-1)) 67 t v from by unfold z_giv; rw [ui_o (by decide), z_ui_cm (by decide)]]
              rw [ed] at z3
              exact RG.cg (eqX_rf _) (sm_EqM z3) g
            · exfalso
              rw [dS μ1 qM, hT, hB] at z1
              cases z1
          | false =>
            rw [hB] at cc
            simp only [cond_true, cond_false] at cc
            refine go_yes (X := μ) (y := 0) kx km (z_C_mono cc (fun r μ' z => ⟨z.1, by rw [z.2]; exact pS_back ht4⟩)) (fun μ1 h1 qM => z_C_mono (cm μ1 h1 qM) (fun r μ' z => ?_))
            rcases z with ⟨z1, -, -⟩ | ⟨-, z2, z3⟩
            · exfalso
              rw [dS μ1 qM, hT, hB] at z1
              cases z1
            · refine ⟨z2, hR.cg (eqX_rf _) ?_⟩
              rcases z3 with z3 | z3
              · exact eqM_tr (eqM_tr qM (t0_EqM μ1 0)) (sm_EqM z3)
              · exact eqM_tr (eqM_tr (eqM_tr qM (t0_EqM μ1 0)) (fun r k' _ => ⟨gv_c (by decide) r k', rfl⟩)) (sm_EqM z3)
        | false =>
          exact go_yes (X := μ) (y := 0) kx km (z_C_mono (gx_discT d (by omega) μ (nI k) 1 (fun d hd => by have y := hmt d hd; rw [hT] at y; exact y)) (fun r μ' z => ⟨z.1, by rw [z.2]; exact eqX_rf _⟩)) (fun μ1 h1 qM => z_C_mono (cm μ1 h1 qM) (fun r μ' z => by
            rcases z with ⟨z1, -, -⟩ | ⟨-, z2, z3⟩
            · exfalso
              rw [dS μ1 qM, hT, Bool.false_and] at z1
              cases z1
            · refine ⟨z2, hR.cg (eqX_rf _) ?_⟩
              rcases z3 with z3 | z3
              · exact eqM_tr (eqM_tr qM (t0_EqM μ1 0)) (sm_EqM z3)
              · exact eqM_tr (eqM_tr (eqM_tr qM (t0_EqM μ1 0)) (fun r k' _ => ⟨gv_c (by decide) r k', rfl⟩)) (sm_EqM z3)))
      · exact go_no hR kx km (gx_discT d (by omega) μ x 1 (fun d hd => by
          have z := gc_mayThrow d (by omega) μ t ht4 P.tx x
          rw [fr_no hv] at z
          exact z)) (mr_discK d (by omega) μ x 1 (isK_no hv))
    · have e : ∀ v : Int32, v = nI p → decide (v = 1) = false := fun v hv => by
        rcases P.p3 with q | q | q
        · exact absurd q hp
        · rw [hv, q]; decide
        · rw [hv, q]; decide
      exact go_no hR kx km (gx_discP d (by omega) μ x 1 (e _ P.px)) (mr_discP d (by omega) μ x 1 (e _ P.pm))
