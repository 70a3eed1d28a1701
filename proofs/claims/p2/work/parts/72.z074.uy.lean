/-! between calls: both games -/
set_option maxRecDepth 8000
def LGm (μ : zM) : Prop := LJ μ ∧ RG μ μ
def md_x (md : List (Nat × Nat)) : Bool := md.all (fun q => Nat.blt q.1 50)
def md_m (md : List (Nat × Nat)) : Bool := md.all (fun q => Nat.ble 50 q.1)
theorem fz_out {md : List (Nat × Nat)} {r k : Nat} (h : ∀ q ∈ md, q.1 ≠ r) : a_md md r k = false := by
  unfold a_md
  rw [List.any_eq_false]
  intro q hq hb
  exact h q hq (z_beq (z_and hb).1)
theorem fz_EqM {md : List (Nat × Nat)} {μ μ1 : zM} (h : a_Fz md μ μ1) (hx : md_x md = true) : EqM μ μ1 := fun r k g => h.1 r k (fz_out (fun q hq e => by
  have := Nat.blt_eq.mp (List.all_eq_true.mp hx q hq)
  unfold gMc at g
  omega))
theorem fz_EqX {md : List (Nat × Nat)} {μ μ1 : zM} (h : a_Fz md μ μ1) (hx : md_m md = true) : EqX μ μ1 := fun r k g => h.1 r k (fz_out (fun q hq e => by
  have := Nat.le_of_ble_eq_true (List.all_eq_true.mp hx q hq)
  unfold gXc at g
  omega))
theorem eqX_rf (μ : zM) : EqX μ μ := fun _ _ _ => ⟨rfl, rfl⟩
theorem eqM_rf (μ : zM) : EqM μ μ := fun _ _ _ => ⟨rfl, rfl⟩
theorem sm_EqM {a b : zM} (h : SMj a b) : EqM a b := fun r k g => h r k (by unfold gMc at g; omega)
theorem t0_EqM (μ : zM) (v : Int32) : EqM μ (z_ui μ 50 0 v) := fun r k g => ⟨by
  unfold gMc at g
  by_cases e : r = 50
  · exact ui_k (by omega)
  · exact ui_o e, rfl⟩
theorem t0_EqX (μ : zM) (v : Int32) : EqX μ (z_ui μ 50 0 v) := fun r k g => ⟨by
  unfold gXc at g
  exact ui_o (by omega), rfl⟩
/-- a call of the class by its old contract: what holds between calls, and the reference's cells as they were -/
theorem lg_k {d i : Nat} {K : aQ} (hk : (a_Ks.take 139)[i]? = some K) (hd : 695 ≤ d) (h1 : md_ok K.2.2.2.1 = true) (h2 : (md_rd K.2.2.2.1 && md_r3 K.2.2.2.1) = true) (h3 : K.2.2.1 = []) (hx : md_x K.2.2.2.1 = true) (As : List Value) (μ : zM) (h : LJ μ) (ha : aArg K.2.1 As) : z_C d K.1 As μ (fun _ μ' => LJ μ' ∧ EqM μ μ') := z_C_mono (a_use hk hd As μ (aArg_pre ha h3) h.1.1) (fun _ μ' q => ⟨h.keep q.1 q.2.1 h1 h2, fz_EqM q.2.1 hx⟩)
theorem md_G_m : md_m md_G = true := by decide +kernel
/-- a call of the reference's game by its old contract -/
theorem lg_g {d j : Nat} {As : List Value} {μ : zM} (h : LJ μ) (hc : z_C d j As μ (zPG μ)) : z_C d j As μ (fun _ μ' => LJ μ' ∧ EqX μ μ') := z_C_mono hc (fun _ μ' q => ⟨⟨q.2.1, h.2.elim fun n hn => ⟨n, hn.1.fz q.2.2 (by decide), hn.2.fz q.2.2 (by decide)⟩⟩, fz_EqX q.2.2 md_G_m⟩)
/-- refused by both -/
theorem lg_no {μ μ2 : zM} (hR : RG μ μ) (e : μ2 = z_ui μ 50 0 0) (hL : LJ μ2) : LGm μ2 := ⟨hL, by rw [e]; exact hR.cg (t0_EqX _ _) (t0_EqM _ _)⟩
theorem lg_deal {d : Nat} (hd : 704 ≤ d) {μ : zM} (h : LGm μ) (sd : Int64) : z_C d mi_X6_deal [.ref 0, .long sd] μ (fun r μ1 => LJ μ1 ∧ ∃ y, r = some (.int y) ∧ z_C d mi_X7_deal [.ref 50, .long sd] μ1 (fun r2 μ2 => LGm μ2 ∧ r2 = some (.int y))) := by
  obtain ⟨hJ, hR⟩ := h
  have kx : z_C d mi_X6_deal [.ref 0, .long sd] μ (fun _ μ' => LJ μ' ∧ EqM μ μ') := lg_k (i := 58) (K := ak_58) rfl (by omega) (by decide) (by decide) rfl (by decide) [.ref 0, .long sd] μ hJ ⟨⟨0, by decide, rfl⟩, ⟨_, rfl, a_topj _⟩, trivial⟩
  have km : ∀ μ1, LJ μ1 → z_C d mi_X7_deal [.ref 50, .long sd] μ1 (fun _ μ' => LJ μ' ∧ EqX μ1 μ') := fun μ1 h1 => lg_g h1 (fc_X7_deal d (by omega) μ1 sd h1.1)
  have no : z_C d mi_X6_deal [.ref 0, .long sd] μ (fun r μ' => r = some (.int 0) ∧ μ' = μ) → z_C d mi_X7_deal [.ref 50, .long sd] μ (fun r μ' => r = some (.int 0) ∧ μ' = z_ui μ 50 0 0) → z_C d mi_X6_deal [.ref 0, .long sd] μ (fun r μ1 => LJ μ1 ∧ ∃ y, r = some (.int y) ∧ z_C d mi_X7_deal [.ref 50, .long sd] μ1 (fun r2 μ2 => LGm μ2 ∧ r2 = some (.int y))) := fun c1 c2 => z_C_mono (zC_and d kx c1) (fun r μ1 q => by
    obtain ⟨⟨q1, _⟩, q2, rfl⟩ := q
    exact ⟨q1, 0, q2, z_C_mono (zC_and d (km _ q1) c2) (fun r2 μ2 z => ⟨lg_no hR z.2.2 z.1.1, z.2.1⟩)⟩)
  rcases hR.2 with ⟨p1, p2, p3, p4, p5⟩ | ⟨p, t, c, P⟩
  · by_cases e : μ.1 0 13 = 0
    · obtain ⟨dl, hdl4, hdl⟩ := dealer_nI hJ.1.1
      refine z_C_mono (zC_and d kx (gc_deal d (by omega) μ sd dl (hR.1.dl.trans hdl) hdl4 (decide_eq_true p1) (decide_eq_true e))) (fun r μ1 q => ?_)
      obtain ⟨⟨q1, qM⟩, q2, x3, hX, q3⟩ := q
      refine ⟨q1, 1, q2, ?_⟩
      have m40 : μ1.1 50 40 = nI dl := ((qM 50 40 (Or.inr ⟨rfl, by decide, by decide⟩)).1).trans hdl
      refine z_C_mono (zC_and d (km μ1 q1) (gm_deal d (by omega) μ1 sd dl m40 hdl4 (decide_eq_true (((qM 50 44 (Or.inr ⟨rfl, by decide, by decide⟩)).1).trans p2)) (decide_eq_true (((qM 50 54 (Or.inr ⟨rfl, by decide, by decide⟩)).1).trans (hR.1.en.symm.trans e))))) (fun r2 μ2 z => ?_)
      obtain ⟨⟨z1, zX⟩, z2, m3, hM, z3⟩ := z
      refine ⟨⟨z1, ?_⟩, z2⟩
      have g := rg_dealt (x := μ) (m := μ1) ((hR.cg (eqX_rf _) qM).1) ⟨hX, hM⟩ hdl4 m40
      rw [← q3, ← z3] at g
      exact g.cg zX (eqM_rf _)
    · exact no (gx_dealE d (by omega) μ sd (decide_eq_true p1) (decide_eq_false e)) (mr_dealE d (by omega) μ sd (decide_eq_true p2) (decide_eq_false (fun q => e (hR.1.en.trans q))))
  · have hp : ∀ v : Int32, v = nI p → ¬ v = 0 := fun v hv => by
      rcases P.p3 with q | q | q <;> (rw [hv, q]; decide)
    exact no (gx_dealP d (by omega) μ sd (decide_eq_false (hp _ P.px))) (mr_dealP d (by omega) μ sd (decide_eq_false (hp _ P.pm)))
