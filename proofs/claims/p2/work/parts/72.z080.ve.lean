/-! count answers alike -/
set_option maxRecDepth 8000
theorem rg_ph {x m : zM} (h : RG x m) : x.1 0 7 = m.1 50 44 ∧ x.1 0 8 = m.1 50 45 ∧ x.1 2 3 = m.1 50 47 := by
  rcases h.2 with ⟨p1, p2, p3, p4, p5⟩ | ⟨p, t, c, P⟩
  · exact ⟨p1.trans p2.symm, p5, p4⟩
  · exact ⟨P.px.trans P.pm.symm, P.tx.trans P.tm.symm, P.fo⟩
theorem rg_ti {x m : zM} (h : RG x m) : (bif decide (x.1 0 7 = 0) then (-1 : Int32) else x.1 0 15) = m.1 50 49 := by
  rcases h.2 with ⟨p1, p2, p3, p4, p5⟩ | ⟨p, t, c, P⟩
  · rw [p1, p3]; rfl
  · rw [P.px, P.cx, P.cm]
    rcases P.p3 with e | e | e <;> (subst e; rfl)
theorem bif_i {c : Bool} {a b : Int32} : (bif c then Value.int a else Value.int b) = Value.int (bif c then a else b) := by cases c <;> rfl
theorem k_count {d : Nat} (hd : 705 ≤ d) {μ : zM} (h : LJ μ) (x : Int32) : z_C d mi_X7_count [.ref 50, .int x] μ (fun _ μ' => LJ μ') := z_C_mono (lj_k (i := 133) (K := ak_133) rfl (by omega) (by decide) (by decide) rfl [.ref 50, .int x] μ h ⟨⟨50, by decide, rfl⟩, ⟨_, rfl, bI_top _⟩, trivial⟩) (fun _ _ q => q.1)
theorem lg_count0 {d : Nat} (hd : 705 ≤ d) {μ : zM} (h : LGm μ) : z_C d mi_X6_count [.ref 0, .int 0] μ (fun r μ1 => LJ μ1 ∧ ∃ v, r = some (.int v) ∧ z_C d mi_X7_count [.ref 50, .int 0] μ1 (fun r2 μ2 => LGm μ2 ∧ r2 = some (.int v))) := by
  have R := h.2.1
  obtain ⟨e7, e8, e3⟩ := rg_ph h.2
  have z1 := gq_count0 d (by omega) μ
  have z2 := gm_count0 d (by omega) μ
  rw [e7] at z1
  exact q_go h (v := μ.1 50 44) z1 (k_count hd h.1 _) z2
theorem lg_count1 {d : Nat} (hd : 705 ≤ d) {μ : zM} (h : LGm μ) : z_C d mi_X6_count [.ref 0, .int 1] μ (fun r μ1 => LJ μ1 ∧ ∃ v, r = some (.int v) ∧ z_C d mi_X7_count [.ref 50, .int 1] μ1 (fun r2 μ2 => LGm μ2 ∧ r2 = some (.int v))) := by
  have R := h.2.1
  obtain ⟨e7, e8, e3⟩ := rg_ph h.2
  have z1 := gq_count1 d (by omega) μ
  have z2 := gm_count1 d (by omega) μ
  rw [bif_i] at z1 z2
  rw [e7, e8] at z1
  exact q_go h (v := bif decide (μ.1 50 44 = 0) then (-1 : Int32) else μ.1 50 45) z1 (k_count hd h.1 _) z2
theorem lg_count2 {d : Nat} (hd : 705 ≤ d) {μ : zM} (h : LGm μ) : z_C d mi_X6_count [.ref 0, .int 2] μ (fun r μ1 => LJ μ1 ∧ ∃ v, r = some (.int v) ∧ z_C d mi_X7_count [.ref 50, .int 2] μ1 (fun r2 μ2 => LGm μ2 ∧ r2 = some (.int v))) := by
  have R := h.2.1
  obtain ⟨e7, e8, e3⟩ := rg_ph h.2
  have z1 := gq_count2 d (by omega) μ
  have z2 := gm_count2 d (by omega) μ
  rw [R.dl] at z1
  exact q_go h (v := μ.1 50 40) z1 (k_count hd h.1 _) z2
theorem lg_count3 {d : Nat} (hd : 705 ≤ d) {μ : zM} (h : LGm μ) : z_C d mi_X6_count [.ref 0, .int 3] μ (fun r μ1 => LJ μ1 ∧ ∃ v, r = some (.int v) ∧ z_C d mi_X7_count [.ref 50, .int 3] μ1 (fun r2 μ2 => LGm μ2 ∧ r2 = some (.int v))) := by
  have R := h.2.1
  obtain ⟨e7, e8, e3⟩ := rg_ph h.2
  have z1 := gq_count3 d (by omega) μ
  have z2 := gm_count3 d (by omega) μ
  rw [R.rn] at z1
  exact q_go h (v := μ.1 50 41) z1 (k_count hd h.1 _) z2
theorem lg_count4 {d : Nat} (hd : 705 ≤ d) {μ : zM} (h : LGm μ) : z_C d mi_X6_count [.ref 0, .int 4] μ (fun r μ1 => LJ μ1 ∧ ∃ v, r = some (.int v) ∧ z_C d mi_X7_count [.ref 50, .int 4] μ1 (fun r2 μ2 => LGm μ2 ∧ r2 = some (.int v))) := by
  have R := h.2.1
  obtain ⟨e7, e8, e3⟩ := rg_ph h.2
  have z1 := gq_count4 d (by omega) μ
  have z2 := gm_count4 d (by omega) μ
  rw [R.st] at z1
  exact q_go h (v := μ.1 50 42) z1 (k_count hd h.1 _) z2
theorem lg_count5 {d : Nat} (hd : 705 ≤ d) {μ : zM} (h : LGm μ) : z_C d mi_X6_count [.ref 0, .int 5] μ (fun r μ1 => LJ μ1 ∧ ∃ v, r = some (.int v) ∧ z_C d mi_X7_count [.ref 50, .int 5] μ1 (fun r2 μ2 => LGm μ2 ∧ r2 = some (.int v))) := by
  have R := h.2.1
  obtain ⟨e7, e8, e3⟩ := rg_ph h.2
  have z1 := gq_count5 d (by omega) μ
  have z2 := gm_count5 d (by omega) μ
  rw [R.bt] at z1
  exact q_go h (v := μ.1 50 43) z1 (k_count hd h.1 _) z2
theorem lg_count6 {d : Nat} (hd : 705 ≤ d) {μ : zM} (h : LGm μ) : z_C d mi_X6_count [.ref 0, .int 6] μ (fun r μ1 => LJ μ1 ∧ ∃ v, r = some (.int v) ∧ z_C d mi_X7_count [.ref 50, .int 6] μ1 (fun r2 μ2 => LGm μ2 ∧ r2 = some (.int v))) := by
  have R := h.2.1
  obtain ⟨e7, e8, e3⟩ := rg_ph h.2
  have z1 := gq_count6 d (by omega) μ
  have z2 := gm_count6 d (by omega) μ
  rw [bif_i] at z2
  unfold xLf at z1
  rw [R.sd, e3, R.nx] at z1
  exact q_go h (v := bif decide (μ.1 50 55 = 0) then (0 : Int32) else (122 - μ.1 50 47) - μ.1 50 46) z1 (k_count hd h.1 _) z2
theorem lg_count7 {d : Nat} (hd : 705 ≤ d) {μ : zM} (h : LGm μ) : z_C d mi_X6_count [.ref 0, .int 7] μ (fun r μ1 => LJ μ1 ∧ ∃ v, r = some (.int v) ∧ z_C d mi_X7_count [.ref 50, .int 7] μ1 (fun r2 μ2 => LGm μ2 ∧ r2 = some (.int v))) := by
  have R := h.2.1
  obtain ⟨e7, e8, e3⟩ := rg_ph h.2
  have z1 := gq_count7 d (by omega) μ
  have z2 := gm_count7 d (by omega) μ
  rw [e3] at z1
  exact q_go h (v := μ.1 50 47) z1 (k_count hd h.1 _) z2
theorem lg_count8 {d : Nat} (hd : 705 ≤ d) {μ : zM} (h : LGm μ) : z_C d mi_X6_count [.ref 0, .int 8] μ (fun r μ1 => LJ μ1 ∧ ∃ v, r = some (.int v) ∧ z_C d mi_X7_count [.ref 50, .int 8] μ1 (fun r2 μ2 => LGm μ2 ∧ r2 = some (.int v))) := by
  have R := h.2.1
  obtain ⟨e7, e8, e3⟩ := rg_ph h.2
  have z1 := gq_count8 d (by omega) μ
  have z2 := gm_count8 d (by omega) μ
  rw [bif_i] at z2
  unfold xSg at z1
  rw [R.sd, e3] at z1
  exact q_go h (v := bif decide (μ.1 50 55 = 0) then (0 : Int32) else 1 + μ.1 50 47) z1 (k_count hd h.1 _) z2
theorem lg_count9 {d : Nat} (hd : 705 ≤ d) {μ : zM} (h : LGm μ) : z_C d mi_X6_count [.ref 0, .int 9] μ (fun r μ1 => LJ μ1 ∧ ∃ v, r = some (.int v) ∧ z_C d mi_X7_count [.ref 50, .int 9] μ1 (fun r2 μ2 => LGm μ2 ∧ r2 = some (.int v))) := by
  have R := h.2.1
  obtain ⟨e7, e8, e3⟩ := rg_ph h.2
  have z1 := gq_count9 d (by omega) μ
  have z2 := gm_count9 d (by omega) μ
  rw [bif_i] at z1 z2
  rw [R.en] at z1
  exact q_go h (v := bif decide (μ.1 50 54 = 0) then (0 : Int32) else 1) z1 (k_count hd h.1 _) z2
theorem lg_count10 {d : Nat} (hd : 705 ≤ d) {μ : zM} (h : LGm μ) : z_C d mi_X6_count [.ref 0, .int 10] μ (fun r μ1 => LJ μ1 ∧ ∃ v, r = some (.int v) ∧ z_C d mi_X7_count [.ref 50, .int 10] μ1 (fun r2 μ2 => LGm μ2 ∧ r2 = some (.int v))) := by
  have R := h.2.1
  obtain ⟨e7, e8, e3⟩ := rg_ph h.2
  have z1 := gq_count10 d (by omega) μ
  have z2 := gm_count10 d (by omega) μ
  rw [R.he] at z1
  exact q_go h (v := μ.1 50 52) z1 (k_count hd h.1 _) z2
theorem lg_count11 {d : Nat} (hd : 705 ≤ d) {μ : zM} (h : LGm μ) : z_C d mi_X6_count [.ref 0, .int 11] μ (fun r μ1 => LJ μ1 ∧ ∃ v, r = some (.int v) ∧ z_C d mi_X7_count [.ref 50, .int 11] μ1 (fun r2 μ2 => LGm μ2 ∧ r2 = some (.int v))) := by
  have R := h.2.1
  obtain ⟨e7, e8, e3⟩ := rg_ph h.2
  have z1 := gq_count11 d (by omega) μ
  have z2 := gm_count11 d (by omega) μ
  rw [R.wc] at z1
  exact q_go h (v := μ.1 50 53) z1 (k_count hd h.1 _) z2
theorem lg_count12 {d : Nat} (hd : 705 ≤ d) {μ : zM} (h : LGm μ) : z_C d mi_X6_count [.ref 0, .int 12] μ (fun r μ1 => LJ μ1 ∧ ∃ v, r = some (.int v) ∧ z_C d mi_X7_count [.ref 50, .int 12] μ1 (fun r2 μ2 => LGm μ2 ∧ r2 = some (.int v))) := by
  have R := h.2.1
  obtain ⟨e7, e8, e3⟩ := rg_ph h.2
  have z1 := gq_count12 d (by omega) μ
  have z2 := gm_count12 d (by omega) μ
  rw [bif_i, rg_ti h.2] at z1
  exact q_go h (v := μ.1 50 49) z1 (k_count hd h.1 _) z2
theorem lg_count {d : Nat} (hd : 705 ≤ d) {μ : zM} (h : LGm μ) (x : Int32) : z_C d mi_X6_count [.ref 0, .int x] μ (fun r μ1 => LJ μ1 ∧ ∃ v, r = some (.int v) ∧ z_C d mi_X7_count [.ref 50, .int x] μ1 (fun r2 μ2 => LGm μ2 ∧ r2 = some (.int v))) := by
  by_cases hx : vp_in x 13
  · obtain ⟨k, hk, rfl⟩ := vp_in_of hx (by decide)
    match k, hk with
    | 0, _ => exact lg_count0 hd h
    | 1, _ => exact lg_count1 hd h
    | 2, _ => exact lg_count2 hd h
    | 3, _ => exact lg_count3 hd h
    | 4, _ => exact lg_count4 hd h
    | 5, _ => exact lg_count5 hd h
    | 6, _ => exact lg_count6 hd h
    | 7, _ => exact lg_count7 hd h
    | 8, _ => exact lg_count8 hd h
    | 9, _ => exact lg_count9 hd h
    | 10, _ => exact lg_count10 hd h
    | 11, _ => exact lg_count11 hd h
    | 12, _ => exact lg_count12 hd h
    | k + 13, h9 => exact absurd h9 (by omega)
  · have e : (decide (x.toInt < 0) || decide (12 < x.toInt)) = true := by
      cases e1 : decide (x.toInt < 0) with
      | true => rfl
      | false =>
        cases e2 : decide (12 < x.toInt) with
        | true => rfl
        | false =>
          have h1 := of_decide_eq_false e1
          have h2 := of_decide_eq_false e2
          exact absurd (vp_in_iff.mpr ⟨by omega, by omega⟩) hx
    exact q_go h (v := -1) (gq_countd d (by omega) μ x e) (k_count hd h.1 x) (gm_countd d (by omega) μ x e)
