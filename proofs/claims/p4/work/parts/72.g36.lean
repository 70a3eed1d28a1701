/-! count answers alike -/
set_option maxRecDepth 8000
theorem rg_ph {x m : zM} (h : RG x m) : x.1 0 7 = m.1 50 44 ∧ x.1 0 8 = m.1 50 45 ∧ x.1 2 3 = m.1 50 47 := by
  rcases h.2 with ⟨p1, p2, p3, p4, p5⟩ | ⟨p, t, c, P⟩
  · exact ⟨p1.trans p2.symm, p5, p4⟩
  · exact ⟨P.px.trans P.pm.symm, P.tx.trans P.tm.symm, P.fo⟩
theorem rg_ti {x m : zM} (h : RG x m) : (bif decide (x.1 0 7 = 0) then (-1 : Int32) else x.1 0 15) = m.1 50 49 := by
  rcases h.2 with ⟨p1, p2, p3, p4, p5⟩ | ⟨p, t, c, P⟩
  · rw [p1, p3]; rfl
  · rw [P.px, P.cx, P.cm]
    rcases P.p3 with e | e | e <;> (subst e; rfl)
theorem bif_i {c : Bool} {a b : Int32} : (bif c then Value.int a else Value.int b) = Value.int (bif c then a else b) := by cases c <;> rfl
theorem k_count {d : Nat} (hd : 705 ≤ d) {μ : zM} (h : LJ μ) (x : Int32) : z_C d mi_X7_count [.ref 50, .int x] μ (fun _ μ' => LJ μ') := z_C_mono (lj_k (i := 133) (K := ak_133) rfl (by omega) (by decide) (by decide) rfl [.ref 50, .int x] μ h ⟨⟨50, by decide, rfl⟩, ⟨_, rfl, bI_top _⟩, trivial⟩) (fun _ _ q => q.1)
theorem lg_count0 {d : Nat} (hd : 705 ≤ d) {μ : zM} (h : LGm μ) : z_C d mi_X6_count [.ref 0, .int 0] μ (fun r μ1 => LJ μ1 ∧ ∃ v, r = some (.int v) ∧ z_C d mi_X7_count [.ref 50, .int 0] μ1 (fun r2 μ2 => LGm μ2 ∧ r2 = some (.int v))) := by
  have R := h.2.1
  obtain ⟨e7, e8, e3⟩ := rg_ph h.2
  have z1 := gq_count0 d (by omega) μ
  have z2 := gm_count0 d (by omega) μ
  rw [e7] at z1
  exact q_go h (v := μ.1 50 44) z1 (k_count hd h.1 _) z2
theorem lg_count1 {d : Nat} (hd : 705 ≤ d) {μ : zM} (h : LGm μ) : z_C d mi_X6_count [.ref 0, .int 1] μ (fun r μ1 => LJ μ1 ∧ ∃ v, r = some (.int v) ∧ z_C d mi_X7_count [.ref 50, .int 1] μ1 (fun r2 μ2 => LGm μ2 ∧ r2 = some (.int v))) := by
  have R := h.2.1
  obtain ⟨e7, e8, e3⟩ := rg_ph h.2
  have z1 := gq_count1 d (by omega) μ
  have z2 := gm_count1 d (by omega) μ
  rw [bif_i] at z1 z2
  rw [e7, e8] at z1
  exact q_go h (v := bif decide (μ.1 50 44 = 0) then (-1 : Int32) else μ.1 50 45) z1 (k_count hd h.1 _) z2
theorem lg_count2 {d : Nat} (hd : 705 ≤ d) {μ : zM} (h : LGm μ) : z_C d mi_X6_count [.ref 0, .int 2] μ (fun r μ1 => LJ μ1 ∧ ∃ v, r = some (.int v) ∧ z_C d mi_X7_count [.ref 50, .int 2] μ1 (fun r2 μ2 => LGm μ2 ∧ r2 = some (.int v))) := by
  have R := h.2.1
  obtain ⟨e7, e8, e3⟩ := rg_ph h.2
  have z1 := gq_count2 d (by omega) μ
  have z2 := gm_count2 d (by omega) μ
  rw [R.dl] at z1
  exact q_go h (v := μ.1 50 40) z1 (k_count hd h.1 _) z2
theorem lg_count3 {d : Nat} (hd : 705 ≤ d) {μ : zM} (h : LGm μ) : z_C d mi_X6_count [.ref 0, .int 3] μ (fun r μ1 => LJ μ1 ∧ ∃ v, r = some (.int v) ∧ z_C d mi_X7_count [.ref 50, .int 3] μ1 (fun r2 μ2 => LGm μ2 ∧ r2 = some (.int v))) := by
  have R := h.2.1
  obtain ⟨e7, e8, e3⟩ := rg_ph h.2
  have z1 := gq_count3 d (by omega) μ
  have z2 := gm_count3 d (by omega) μ
  rw [R.rn] at z1
  exact q_go h (v := μ.1 50 41) z1 (k_count hd h.1 _) z2
theorem lg_count4 {d : Nat} (hd : 705 ≤ d) {μ : zM} (h : LGm μ) : z_C d mi_X6_count [.ref 0, .int 4] μ (fun r μ1 => LJ μ1 ∧ ∃ v, r = some (.int v) ∧ z_C d mi_X7_count [.ref 50, .int 4] μ1 (fun r2 μ2 => LGm μ2 ∧ r2 = some (.int v))) := by
  have R := h.2.1
  obtain ⟨e7, e8, e3⟩ := rg_ph h.2
  have z1 := gq_count4 d (by omega) μ
  have z2 := gm_count4 d (by omega) μ
  rw [R.st] at z1
  exact q_go h (v := μ.1 50 42) z1 (k_count hd h.1 _) z2
theorem lg_count5 {d : Nat} (hd : 705 ≤ d) {μ : zM} (h : LGm μ) : z_C d mi_X6_count [.ref 0, .int 5] μ (fun r μ1 => LJ μ1 ∧ ∃ v, r = some (.int v) ∧ z_C d mi_X7_count [.ref 50, .int 5] μ1 (fun r2 μ2 => LGm μ2 ∧ r2 = some (.int v))) := by
  have R := h.2.1
  obtain ⟨e7, e8, e3⟩ := rg_ph h.2
  have z1 := gq_count5 d (by omega) μ
  have z2 := gm_count5 d (by omega) μ
  rw [R.bt] at z1
  exact q_go h (v := μ.1 50 43) z1 (k_count hd h.1 _) z2
theorem lg_count6 {d : Nat} (hd : 705 ≤ d) {μ : zM} (h : LGm μ) : z_C d mi_X6_count [.ref 0, .int 6] μ (fun r μ1 => LJ μ1 ∧ ∃ v, r = some (.int v) ∧ z_C d mi_X7_count [.ref 50, .int 6] μ1 (fun r2 μ2 => LGm μ2 ∧ r2 = some (.int v))) := by
  have R := h.2.1
  obtain ⟨e7, e8, e3⟩ := rg_ph h.2
  have z1 := gq_count6 d (by omega) μ
  have z2 := gm_count6 d (by omega) μ
  rw [bif_i] at z2
  unfold xLf at z1
  rw [R.sd, e3, R.nx] at z1
  exact q_go h (v := bif decide (μ.1 50 55 = 0) then (0 : Int32) else (122 - μ.1 50 47) - μ.1 50 46) z1 (k_count hd h.1 _) z2
theorem lg_count7 {d : Nat} (hd : 705 ≤ d) {μ : zM} (h : LGm μ) : z_C d mi_X6_count [.ref 0, .int 7] μ (fun r μ1 => LJ μ1 ∧ ∃ v, r = some (.int v) ∧ z_C d mi_X7_count [.ref 50, .int 7] μ1 (fun r2 μ2 => LGm μ2 ∧ r2 = some (.int v))) := by
  have R := h.2.1
  obtain ⟨e7, e8, e3⟩ := rg_ph h.2
  have z1 := gq_count7 d (by omega) μ
  have z2 := gm_count7 d (by omega) μ
  rw [e3] at z1
  exact q_go h (v := μ.1 50 47) z1 (k_count hd h.1 _) z2
theorem lg_count8 {d : Nat} (hd : 705 ≤ d) {μ : zM} (h : LGm μ) : z_C d mi_X6_count [.ref 0, .int 8] μ (fun r μ1 => LJ μ1 ∧ ∃ v, r = some (.int v) ∧ z_C d mi_X7_count [.ref 50, .int 8] μ1 (fun r2 μ2 => LGm μ2 ∧ r2 = some (.int v))) := by
  have R := h.2.1
  obtain ⟨e7, e8, e3⟩ := rg_ph h.2
  have z1 := gq_count8 d (by omega) μ
  have z2 := gm_count8 d (by omega) μ
  rw [bif_i] at z2
  unfold xSg at z1
  rw [R.sd, e3] at z1
  exact q_go h (v := bif decide (μ.1 50 55 = 0) then (0 : Int32) else 1 + μ.1 50 47) z1 (k_count hd h.1 _) z2
theorem lg_count9 {d : Nat} (hd : 705 ≤ d) {μ : zM} (h : LGm μ) : z_C d mi_X6_count [.ref 0, .int 9] μ (fun r μ1 => LJ μ1 ∧ ∃ v, r = some (.int v) ∧ z_C d mi_X7_count [.ref 50, .int 9] μ1 (fun r2 μ2 => LGm μ2 ∧ r2 = some (.int v))) := by
  have R := h.2.1
  obtain ⟨e7, e8, e3⟩ := rg_ph h.2
  have z1 := gq_count9 d (by omega) μ
  have z2 := gm_count9 d (by omega) μ
  rw [bif_i] at z1 z2
  rw [R.en] at z1
  exact q_go h (v := bif decide (μ.1 50 54 = 0) then (0 : Int32) else 1) z1 (k_count hd h.1 _) z2
theorem lg_count10 {d : Nat} (hd : 705 ≤ d) {μ : zM} (h : LGm μ) : z_C d mi_X6_count [.ref 0, .int 10] μ (fun r μ1 => LJ μ1 ∧ ∃ v, r = some (.int v) ∧ z_C d mi_X7_count [.ref 50, .int 10] μ1 (fun r2 μ2 => LGm μ2 ∧ r2 = some (.int v))) := by
  have R := h.2.1
  obtain ⟨e7, e8, e3⟩ := rg_ph h.2
  have z1 := gq_count10 d (by omega) μ
  have z2 := gm_count10 d (by omega) μ
  rw [R.he] at z1
  exact q_go h (v := μ.1 50 52) z1 (k_count hd h.1 _) z2
theorem lg_count11 {d : Nat} (hd : 705 ≤ d) {μ : zM} (h : LGm μ) : z_C d mi_X6_count [.ref 0, .int 11] μ (fun r μ1 => LJ μ1 ∧ ∃ v, r = some (.int v) ∧ z_C d mi_X7_count [.ref 50, .int 11] μ1 (fun r2 μ2 => LGm μ2 ∧ r2 = some (.int v))) := by
  have R := h.2.1
  obtain ⟨e7, e8, e3⟩ := rg_ph h.2
  have z1 := gq_count11 d (by omega) μ
  have z2 := gm_count11 d (by omega) μ
  rw [R.wc] at z1
  exact q_go h (v := μ.1 50 53) z1 (k_count hd h.1 _) z2
theorem lg_count12 {d : Nat} (hd : 705 ≤ d) {μ : zM} (h : LGm μ) : z_C d mi_X6_count [.ref 0, .int 12] μ (fun r μ1 => LJ μ1 ∧ ∃ v, r = some (.int v) ∧ z_C d mi_X7_count [.ref 50, .int 12] μ1 (fun r2 μ2 => LGm μ2 ∧ r2 = some (.int v))) := by
  have R := h.2.1
  obtain ⟨e7, e8, e3⟩ := rg_ph h.2
  have z1 := gq_count12 d (by omega) μ
  have z2 := gm_count12 d (by omega) μ
  rw [bif_i, rg_ti h.2] at z1
  exact q_go h (v := μ.1 50 49) z1 (k_count hd h.1 _) z2
theorem lg_count {d : Nat} (hd : 705 ≤ d) {μ : zM} (h : LGm μ) (x : Int32) : z_C d mi_X6_count [.ref 0, .int x] μ (fun r μ1 => LJ μ1 ∧ ∃ v, r = some (.int v) ∧ z_C d mi_X7_count [.ref 50, .int x] μ1 (fun r2 μ2 => LGm μ2 ∧ r2 = some (.int v))) := by
  by_cases hx : vp_in x 13
  · obtain ⟨k, hk, rfl⟩ := vp_in_of hx (by decide)
    match k, hk with
    | 0, _ => exact lg_count0 hd h
    | 1, _ => exact lg_count1 hd h
    | 2, _ => exact lg_count2 hd h
    | 3, _ => exact lg_count3 hd h
    | 4, _ => exact lg_count4 hd h
    | 5, _ => exact lg_count5 hd h
    | 6, _ => exact lg_count6 hd h
    | 7, _ => exact lg_count7 hd h
    | 8, _ => exact lg_count8 hd h
    | 9, _ => exact lg_count9 hd h
    | 10, _ => exact lg_count10 hd h
    | 11, _ => exact lg_count11 hd h
    | 12, _ => exact lg_count12 hd h
    | k + 13, h9 => exact absurd h9 (by omega)
  · have e : (decide (x.toInt < 0) || decide (12 < x.toInt)) = true := by
      cases e1 : decide (x.toInt < 0) with
      | true => rfl
      | false =>
        cases e2 : decide (12 < x.toInt) with
        | true => rfl
        | false =>
          have h1 := of_decide_eq_false e1
          have h2 := of_decide_eq_false e2
          exact absurd (vp_in_iff.mpr ⟨by omega, by omega⟩) hx
    exact q_go h (v := -1) (gq_countd d (by omega) μ x e) (k_count hd h.1 x) (gm_countd d (by omega) μ x e)
/-! seat answers alike -/
set_option maxRecDepth 8000
theorem wind_eq : ∀ s, s < 4 → ∀ dl, dl < 4 → (nI s - nI dl) &&& 3 = wdM (nI dl) (nI s) := by decide +kernel
theorem open_eq {x m : zM} (R : RCl x m) {s : Nat} (hs : s < 4) : ∀ q, q ≤ 4 → xOr (x.1 (22 + 8 * s)) q = kA (ioF m s) q
  | 0, _ => rfl
  | q + 1, h => by
    show (xOr (x.1 (22 + 8 * s)) q || !decide (x.1 (22 + 8 * s) q = 3)) = (kA (ioF m s) q || ioF m s q)
    rw [open_eq R hs q (by omega), R.so s q hs (by omega)]
    rfl
theorem k_seat {d : Nat} (hd : 705 ≤ d) {μ : zM} (h : LJ μ) (y x : Int32) : z_C d mi_X7_seat [.ref 50, .int y, .int x] μ (fun _ μ' => LJ μ') := z_C_mono (lj_k (i := 130) (K := ak_130) rfl (by omega) (by decide) (by decide) rfl [.ref 50, .int y, .int x] μ h ⟨⟨50, by decide, rfl⟩, ⟨_, rfl, bI_top _⟩, ⟨_, rfl, bI_top _⟩, trivial⟩) (fun _ _ q => q.1)
theorem lg_seat0 {d : Nat} (hd : 705 ≤ d) {μ : zM} (h : LGm μ) {s : Nat} (hs : s < 4) : z_C d mi_X6_seat [.ref 0, .int (nI s), .int 0] μ (fun r μ1 => LJ μ1 ∧ ∃ v, r = some (.int v) ∧ z_C d mi_X7_seat [.ref 50, .int (nI s), .int 0] μ1 (fun r2 μ2 => LGm μ2 ∧ r2 = some (.int v))) := by
  have R := h.2.1
  have z1 := gq_seat0 d (by omega) μ s hs
  have z2 := gm_seat0 d (by omega) μ s hs
  rw [R.pt s hs] at z1
  exact q_go h (v := μ.1 61 s) z1 (k_seat hd h.1 _ _) z2
theorem lg_seat1 {d : Nat} (hd : 705 ≤ d) {μ : zM} (h : LGm μ) {s : Nat} (hs : s < 4) : z_C d mi_X6_seat [.ref 0, .int (nI s), .int 1] μ (fun r μ1 => LJ μ1 ∧ ∃ v, r = some (.int v) ∧ z_C d mi_X7_seat [.ref 50, .int (nI s), .int 1] μ1 (fun r2 μ2 => LGm μ2 ∧ r2 = some (.int v))) := by
  have R := h.2.1
  have z1 := gq_seat1 d (by omega) μ s hs
  have z2 := gm_seat1 d (by omega) μ s hs
  rw [R.be s hs] at z1
  exact q_go h (v := μ.1 67 s) z1 (k_seat hd h.1 _ _) z2
theorem lg_seat2 {d : Nat} (hd : 705 ≤ d) {μ : zM} (h : LGm μ) {s : Nat} (hs : s < 4) : z_C d mi_X6_seat [.ref 0, .int (nI s), .int 2] μ (fun r μ1 => LJ μ1 ∧ ∃ v, r = some (.int v) ∧ z_C d mi_X7_seat [.ref 50, .int (nI s), .int 2] μ1 (fun r2 μ2 => LGm μ2 ∧ r2 = some (.int v))) := by
  have R := h.2.1
  have z1 := gq_seat2 d (by omega) μ s hs
  have z2 := gm_seat2 d (by omega) μ s hs
  rw [bif_i] at z1 z2
  rw [R.lg s hs] at z1
  exact q_go h (v := bif decide (μ.1 70 s = 0) then (0 : Int32) else 1) z1 (k_seat hd h.1 _ _) z2
theorem lg_seat3 {d : Nat} (hd : 705 ≤ d) {μ : zM} (h : LGm μ) {s : Nat} (hs : s < 4) : z_C d mi_X6_seat [.ref 0, .int (nI s), .int 3] μ (fun r μ1 => LJ μ1 ∧ ∃ v, r = some (.int v) ∧ z_C d mi_X7_seat [.ref 50, .int (nI s), .int 3] μ1 (fun r2 μ2 => LGm μ2 ∧ r2 = some (.int v))) := by
  have R := h.2.1
  have z1 := gq_seat3 d (by omega) μ s hs
  have z2 := gm_seat3 d (by omega) μ s hs
  obtain ⟨dl, hdl4, hdl⟩ := dealer_nI h.1.1.1
  rw [R.dl, hdl, wind_eq s hs dl hdl4, ← hdl] at z1
  exact q_go h (v := wdM (μ.1 50 40) (nI s)) z1 (k_seat hd h.1 _ _) z2
theorem lg_seat4 {d : Nat} (hd : 705 ≤ d) {μ : zM} (h : LGm μ) {s : Nat} (hs : s < 4) : z_C d mi_X6_seat [.ref 0, .int (nI s), .int 4] μ (fun r μ1 => LJ μ1 ∧ ∃ v, r = some (.int v) ∧ z_C d mi_X7_seat [.ref 50, .int (nI s), .int 4] μ1 (fun r2 μ2 => LGm μ2 ∧ r2 = some (.int v))) := by
  have R := h.2.1
  have z1 := gq_seat4 d (by omega) μ s hs
  have z2 := gm_seat4 d (by omega) μ s hs
  rw [R.ds s hs] at z1
  exact q_go h (v := μ.1 66 s) z1 (k_seat hd h.1 _ _) z2
theorem lg_seat5 {d : Nat} (hd : 705 ≤ d) {μ : zM} (h : LGm μ) {s : Nat} (hs : s < 4) : z_C d mi_X6_seat [.ref 0, .int (nI s), .int 5] μ (fun r μ1 => LJ μ1 ∧ ∃ v, r = some (.int v) ∧ z_C d mi_X7_seat [.ref 50, .int (nI s), .int 5] μ1 (fun r2 μ2 => LGm μ2 ∧ r2 = some (.int v))) := by
  have R := h.2.1
  have z1 := gq_seat5 d (by omega) μ s hs
  have z2 := gm_seat5 d (by omega) μ s hs
  rw [R.lm s hs] at z1
  exact q_go h (v := μ.1 64 s) z1 (k_seat hd h.1 _ _) z2
theorem lg_seat6 {d : Nat} (hd : 705 ≤ d) {μ : zM} (h : LGm μ) {s : Nat} (hs : s < 4) : z_C d mi_X6_seat [.ref 0, .int (nI s), .int 6] μ (fun r μ1 => LJ μ1 ∧ ∃ v, r = some (.int v) ∧ z_C d mi_X7_seat [.ref 50, .int (nI s), .int 6] μ1 (fun r2 μ2 => LGm μ2 ∧ r2 = some (.int v))) := by
  have R := h.2.1
  obtain ⟨q, hq4, hq⟩ : ∃ q, q ≤ 4 ∧ μ.1 64 s = nI q := i_nat (h.1.1.1 64 s).1 (h.1.1.1 64 s).2 (by decide)
  have z1 := gq_seat6 d (by omega) μ s hs (kA (ioF μ s) q) (fun d' hd' => by rw [← open_eq R hs q hq4]; exact gc_isOpen d' hd' μ s hs q hq4 ((R.lm s hs).trans hq))
  have z2 := gm_seat6 d (by omega) μ s hs (kA (ioF μ s) q) (fun d' hd' => by
    have z := gm_isOpenS d' hd' (z_ui μ 50 0 0) s q hs hq4 (by rw [ui_o (by decide)]; exact hq)
    rw [show kA (ioF (z_ui μ 50 0 0) s) q = kA (ioF μ s) q from kA_cg (fun i _ => by unfold ioF; rw [ui_o (by decide)])] at z
    exact z)
  rw [bif_i] at z1 z2
  exact q_go h (v := bif kA (ioF μ s) q then (1 : Int32) else 0) z1 (k_seat hd h.1 _ _) z2
theorem lg_seat7 {d : Nat} (hd : 705 ≤ d) {μ : zM} (h : LGm μ) {s : Nat} (hs : s < 4) : z_C d mi_X6_seat [.ref 0, .int (nI s), .int 7] μ (fun r μ1 => LJ μ1 ∧ ∃ v, r = some (.int v) ∧ z_C d mi_X7_seat [.ref 50, .int (nI s), .int 7] μ1 (fun r2 μ2 => LGm μ2 ∧ r2 = some (.int v))) := by
  have R := h.2.1
  have z1 := gq_seat7 d (by omega) μ s hs
  have z2 := gm_seat7 d (by omega) μ s hs
  rw [bif_i] at z1 z2
  rw [R.sy s hs] at z1
  exact q_go h (v := bif decide (μ.1 71 s = 0) then (0 : Int32) else 1) z1 (k_seat hd h.1 _ _) z2
theorem lg_seat {d : Nat} (hd : 705 ≤ d) {μ : zM} (h : LGm μ) (y x : Int32) : z_C d mi_X6_seat [.ref 0, .int y, .int x] μ (fun r μ1 => LJ μ1 ∧ ∃ v, r = some (.int v) ∧ z_C d mi_X7_seat [.ref 50, .int y, .int x] μ1 (fun r2 μ2 => LGm μ2 ∧ r2 = some (.int v))) := by
  by_cases hy : vp_in y 4
  · obtain ⟨s, hs, rfl⟩ := vp_in_of hy (by decide)
    by_cases hx : vp_in x 8
    · obtain ⟨k, hk, rfl⟩ := vp_in_of hx (by decide)
      match k, hk with
      | 0, _ => exact lg_seat0 hd h hs
      | 1, _ => exact lg_seat1 hd h hs
      | 2, _ => exact lg_seat2 hd h hs
      | 3, _ => exact lg_seat3 hd h hs
      | 4, _ => exact lg_seat4 hd h hs
      | 5, _ => exact lg_seat5 hd h hs
      | 6, _ => exact lg_seat6 hd h hs
      | 7, _ => exact lg_seat7 hd h hs
      | k + 8, h9 => exact absurd h9 (by omega)
    · have e : (decide (x.toInt < 0) || decide (7 < x.toInt)) = true := by
        cases e1 : decide (x.toInt < 0) with
        | true => rfl
        | false =>
          cases e2 : decide (7 < x.toInt) with
          | true => rfl
          | false =>
            have h1 := of_decide_eq_false e1
            have h2 := of_decide_eq_false e2
            exact absurd (vp_in_iff.mpr ⟨by omega, by omega⟩) hx
      exact q_go h (v := -1) (gq_seatd d (by omega) μ s hs x e) (k_seat hd h.1 _ x) (gm_seatd d (by omega) μ s hs x e)
  · exact q_go h (v := -1) (gq_seat0y d (by omega) μ y x (sI_no hy)) (k_seat hd h.1 y x) (gm_seatS d (by omega) μ y x (isS_no hy))
/-! a SET is claimed: both games behind it -/
set_option maxRecDepth 8000
theorem h56_t (m : zM) : (toM m).1 50 56 = 0 := by unfold toM; rw [ui_o (by decide), ui_o (by decide), ui_o (by decide), ui_o (by decide), ui_s]
theorem t64_t (m : zM) (j : Nat) : (toM m).1 64 j = m.1 64 j := toM_o ⟨by decide, Or.inl (by decide)⟩
theorem t50_t (m : zM) {k : Nat} (h : k ≠ 56) : (toM m).1 50 k = m.1 50 k := toM_o ⟨by decide, Or.inr h⟩
theorem rg_three {x m : zM} {s c q : Nat} (R : RCl x m) (Q : RQ x m c) (hfo : x.1 2 3 = m.1 50 47) (hs : s < 4) (hc : c < 34) (hq : q ≤ 3) (e64 : m.1 64 s = nI q) (hm4 : ∀ j, j < 4 → (m.1 64 j).toNatClampNeg ≤ 4) {bs : Int64} (hbs : bs = (((1 : Int64) <<< ((m.1 50 50).toInt64 &&& 63)) ||| (bif decide (m.1 50 51 = -1) then (0 : Int64) else 1 <<< ((m.1 50 51).toInt64 &&& 63)))) (hbn : BN m) : RG (clX (ldS (pS (bkH x) s c 1) s 1 c q) s bs) (clN (toM (z_lys (z_giv m s c (-2)) s q 1 (nI c))) s) := by
  rw [toM_lys, toM_giv]
  obtain ⟨Q1, f1, f2, f3⟩ := rq_brk Q
  have A := lay_three (x := bkH x) (m := toM m) (s := s) (c := c) (q := q) hs hc hq
  have R1 := rc_lay (rc_brk R) A hs hq ((t64_t m s).trans e64) (svd_n ⟨by decide, by decide⟩ (by decide) hc) (fun j hj => by rw [t64_t]; exact hm4 j hj)
  obtain ⟨Q2, g1, g2⟩ := rq_lay Q1 A hs f3 (fun j hj => by
    rw [ct_n9 (by decide) hc hj]
    show (if j = c then (-2 : Int32) else 0) + _ = _
    by_cases e : j = c
    · rw [if_pos e, if_pos e, if_pos e]; decide
    · rw [if_neg e, if_neg e, if_neg e]; decide)
  have e50 : ∀ k, k ≠ 56 → (z_lys (z_giv (toM m) s c (-2)) s q 1 (nI c)).1 50 k = m.1 50 k := fun k hk => by
    rw [A.fm 50 k (by decide) (by decide) (by decide) (by decide)]; exact t50_t m hk
  refine ⟨rc_claimed R1, Or.inr ⟨1, s, 34, rp_claimed Q2 hs ?_ ?_ ?_ (by unfold BN; rw [e50 50 (by decide), e50 51 (by decide)]; exact hbn)⟩⟩
  · rw [g1, g2, f1, f2]; exact hfo
  · rw [A.fm 50 56 (by decide) (by decide) (by decide) (by decide)]; exact f3
  · rw [e50 50 (by decide), e50 51 (by decide)]; exact hbs
theorem rg_run0 {x m : zM} {s l q : Nat} (R : RCl x m) (Q : RQ x m l) (hfo : x.1 2 3 = m.1 50 47) (hs : s < 4) (hl : l + 2 < 34) (hsr : sr (nI l)) (hq : q ≤ 3) (e64 : m.1 64 s = nI q) (hm4 : ∀ j, j < 4 → (m.1 64 j).toNatClampNeg ≤ 4) {bs : Int64} (hbs : bs = (((1 : Int64) <<< ((m.1 50 50).toInt64 &&& 63)) ||| (bif decide (m.1 50 51 = -1) then (0 : Int64) else 1 <<< ((m.1 50 51).toInt64 &&& 63)))) (hbn : BN m) : RG (clX (ldS (pS (bkH x) s l 1) s 0 l q) s bs) (clN (toM (z_lys (z_giv (z_giv m s (l + 1) (-1)) s (l + 2) (-1)) s q 0 (nI l))) s) := by
  rw [toM_lys, toM_giv, toM_giv]
  obtain ⟨Q1, f1, f2, f3⟩ := rq_brk Q
  have A := lay_run0 (x := bkH x) (m := toM m) (s := s) (l := l) (q := q) hs hl hq
  have R1 := rc_lay (rc_brk R) A hs hq ((t64_t m s).trans e64) (⟨⟨by decide, by decide⟩, bd_nI (by omega) ⟨by omega, by omega⟩, fun _ => hsr⟩) (fun j hj => by rw [t64_t]; exact hm4 j hj)
  obtain ⟨Q2, g1, g2⟩ := rq_lay Q1 A hs f3 (fun j hj => by
    rw [ct_r hl hj]
    show (if j = (l + 1) ∨ j = (l + 2) then (-1 : Int32) else 0) + _ = _
    by_cases e : j = l
    · rw [if_neg (by omega), if_pos (by omega), if_pos e]; decide
    · by_cases e2 : j = (l + 1) ∨ j = (l + 2)
      · rw [if_pos e2, if_pos (by omega), if_neg e]; decide
      · rw [if_neg e2, if_neg (by omega), if_neg e]; decide)
  have e50 : ∀ k, k ≠ 56 → (z_lys (z_giv (z_giv (toM m) s (l + 1) (-1)) s (l + 2) (-1)) s q 0 (nI l)).1 50 k = m.1 50 k := fun k hk => by
    rw [A.fm 50 k (by decide) (by decide) (by decide) (by decide)]; exact t50_t m hk
  refine ⟨rc_claimed R1, Or.inr ⟨1, s, 34, rp_claimed Q2 hs ?_ ?_ ?_ (by unfold BN; rw [e50 50 (by decide), e50 51 (by decide)]; exact hbn)⟩⟩
  · rw [g1, g2, f1, f2]; exact hfo
  · rw [A.fm 50 56 (by decide) (by decide) (by decide) (by decide)]; exact f3
  · rw [e50 50 (by decide), e50 51 (by decide)]; exact hbs
theorem rg_run1 {x m : zM} {s l q : Nat} (R : RCl x m) (Q : RQ x m (l + 1)) (hfo : x.1 2 3 = m.1 50 47) (hs : s < 4) (hl : l + 2 < 34) (hsr : sr (nI l)) (hq : q ≤ 3) (e64 : m.1 64 s = nI q) (hm4 : ∀ j, j < 4 → (m.1 64 j).toNatClampNeg ≤ 4) {bs : Int64} (hbs : bs = (((1 : Int64) <<< ((m.1 50 50).toInt64 &&& 63)) ||| (bif decide (m.1 50 51 = -1) then (0 : Int64) else 1 <<< ((m.1 50 51).toInt64 &&& 63)))) (hbn : BN m) : RG (clX (ldS (pS (bkH x) s (l + 1) 1) s 0 l q) s bs) (clN (toM (z_lys (z_giv (z_giv m s l (-1)) s (l + 2) (-1)) s q 0 (nI l))) s) := by
  rw [toM_lys, toM_giv, toM_giv]
  obtain ⟨Q1, f1, f2, f3⟩ := rq_brk Q
  have A := lay_run1 (x := bkH x) (m := toM m) (s := s) (l := l) (q := q) hs hl hq
  have R1 := rc_lay (rc_brk R) A hs hq ((t64_t m s).trans e64) (⟨⟨by decide, by decide⟩, bd_nI (by omega) ⟨by omega, by omega⟩, fun _ => hsr⟩) (fun j hj => by rw [t64_t]; exact hm4 j hj)
  obtain ⟨Q2, g1, g2⟩ := rq_lay Q1 A hs f3 (fun j hj => by
    rw [ct_r hl hj]
    show (if j = l ∨ j = (l + 2) then (-1 : Int32) else 0) + _ = _
    by_cases e : j = (l + 1)
    · rw [if_neg (by omega), if_pos (by omega), if_pos e]; decide
    · by_cases e2 : j = l ∨ j = (l + 2)
      · rw [if_pos e2, if_pos (by omega), if_neg e]; decide
      · rw [if_neg e2, if_neg (by omega), if_neg e]; decide)
  have e50 : ∀ k, k ≠ 56 → (z_lys (z_giv (z_giv (toM m) s l (-1)) s (l + 2) (-1)) s q 0 (nI l)).1 50 k = m.1 50 k := fun k hk => by
    rw [A.fm 50 k (by decide) (by decide) (by decide) (by decide)]; exact t50_t m hk
  refine ⟨rc_claimed R1, Or.inr ⟨1, s, 34, rp_claimed Q2 hs ?_ ?_ ?_ (by unfold BN; rw [e50 50 (by decide), e50 51 (by decide)]; exact hbn)⟩⟩
  · rw [g1, g2, f1, f2]; exact hfo
  · rw [A.fm 50 56 (by decide) (by decide) (by decide) (by decide)]; exact f3
  · rw [e50 50 (by decide), e50 51 (by decide)]; exact hbs
theorem rg_run2 {x m : zM} {s l q : Nat} (R : RCl x m) (Q : RQ x m (l + 2)) (hfo : x.1 2 3 = m.1 50 47) (hs : s < 4) (hl : l + 2 < 34) (hsr : sr (nI l)) (hq : q ≤ 3) (e64 : m.1 64 s = nI q) (hm4 : ∀ j, j < 4 → (m.1 64 j).toNatClampNeg ≤ 4) {bs : Int64} (hbs : bs = (((1 : Int64) <<< ((m.1 50 50).toInt64 &&& 63)) ||| (bif decide (m.1 50 51 = -1) then (0 : Int64) else 1 <<< ((m.1 50 51).toInt64 &&& 63)))) (hbn : BN m) : RG (clX (ldS (pS (bkH x) s (l + 2) 1) s 0 l q) s bs) (clN (toM (z_lys (z_giv (z_giv m s l (-1)) s (l + 1) (-1)) s q 0 (nI l))) s) := by
  rw [toM_lys, toM_giv, toM_giv]
  obtain ⟨Q1, f1, f2, f3⟩ := rq_brk Q
  have A := lay_run2 (x := bkH x) (m := toM m) (s := s) (l := l) (q := q) hs hl hq
  have R1 := rc_lay (rc_brk R) A hs hq ((t64_t m s).trans e64) (⟨⟨by decide, by decide⟩, bd_nI (by omega) ⟨by omega, by omega⟩, fun _ => hsr⟩) (fun j hj => by rw [t64_t]; exact hm4 j hj)
  obtain ⟨Q2, g1, g2⟩ := rq_lay Q1 A hs f3 (fun j hj => by
    rw [ct_r hl hj]
    show (if j = l ∨ j = (l + 1) then (-1 : Int32) else 0) + _ = _
    by_cases e : j = (l + 2)
    · rw [if_neg (by omega), if_pos (by omega), if_pos e]; decide
    · by_cases e2 : j = l ∨ j = (l + 1)
      · rw [if_pos e2, if_pos (by omega), if_neg e]; decide
      · rw [if_neg e2, if_neg (by omega), if_neg e]; decide)
  have e50 : ∀ k, k ≠ 56 → (z_lys (z_giv (z_giv (toM m) s l (-1)) s (l + 1) (-1)) s q 0 (nI l)).1 50 k = m.1 50 k := fun k hk => by
    rw [A.fm 50 k (by decide) (by decide) (by decide) (by decide)]; exact t50_t m hk
  refine ⟨rc_claimed R1, Or.inr ⟨1, s, 34, rp_claimed Q2 hs ?_ ?_ ?_ (by unfold BN; rw [e50 50 (by decide), e50 51 (by decide)]; exact hbn)⟩⟩
  · rw [g1, g2, f1, f2]; exact hfo
  · rw [A.fm 50 56 (by decide) (by decide) (by decide) (by decide)]; exact f3
  · rw [e50 50 (by decide), e50 51 (by decide)]; exact hbs
/-! four, pass, add: both games behind them -/
set_option maxRecDepth 8000
theorem toM_tt (m : zM) : toM (toM m) = toM m := by
  refine Prod.ext (funext fun r => funext fun k => ?_) rfl
  by_cases e : r = 69
  · subst e
    by_cases e3 : k = 3
    · subst e3; unfold toM; rw [ui_s, ui_s]
    · by_cases e2 : k = 2
      · subst e2; unfold toM; simp (disch := omega) only [ui_s, ui_k]
      · by_cases e1 : k = 1
        · subst e1; unfold toM; simp (disch := omega) only [ui_s, ui_k]
        · by_cases e0 : k = 0
          · subst e0; unfold toM; simp (disch := omega) only [ui_s, ui_k]
          · unfold toM; simp (disch := omega) only [ui_s, ui_k, ui_o]
  · by_cases e5 : r = 50 ∧ k = 56
    · obtain ⟨rfl, rfl⟩ := e5
      rw [h56_t, h56_t]
    · exact toM_o ⟨e, by omega⟩
def tkW (y : zM) (s : Nat) : zM := z_ui (z_ui (z_ui y 0 8 (nI s)) 0 7 1) 0 15 (-1)
theorem rc_tkW {x m : zM} (R : RCl x m) (s : Nat) : RCl (tkW x s) m := RCl.cg2 (x := x) (x' := tkW x s) (m := m) (m' := m) (q2_xu (q2_xu (q2_xu (q2_x _) (by unfold gX2; omega)) (by unfold gX2; omega)) (by unfold gX2; omega)) (q2_m _) R
theorem rq_tkW {x m : zM} {lb : Nat} (Q : RQ x m lb) (s : Nat) : RQ (tkW x s) m lb ∧ (tkW x s).1 2 3 = x.1 2 3 := by
  unfold tkW
  refine ⟨⟨(by rw [ui_k (by decide), ui_k (by decide), ui_k (by decide)]; exact Q.br), Q.us, fun j h => by rw [ui_o (by omega), ui_o (by omega), ui_o (by omega)]; exact Q.ow j h, Q.o1, Q.is, Q.s1, Q.w0, Q.dn, Q.dr, Q.tc.cg (fun j k _ _ => by rw [ui_o (by omega), ui_o (by omega), ui_o (by omega)]) (fun _ => rfl) rfl rfl⟩, by rw [ui_o (by decide), ui_o (by decide), ui_o (by decide)]⟩
theorem rg_four {x m : zM} {s c q n k2 : Nat} (R : RCl x m) (Q : RQ x m c) (hs : s < 4) (hc : c < 34) (hq : q ≤ 3) (e64 : m.1 64 s = nI q) (hm4 : ∀ j, j < 4 → (m.1 64 j).toNatClampNeg ≤ 4) (hn : n < 4) (e47 : m.1 50 47 = nI n) (e48 : m.1 50 48 = nI n) (hk2 : k2 < 34) (hw : m.1 59 (122 + n) = nI k2) (hnx : bI 0 122 (m.1 50 46)) (hh : ¬ (z_giv m s c (-3)).1 60 (34 * s + k2) = -1) : RG (dT1 (bkH (tkW (ldS (pS (bkH x) s c 1) s 2 c q) s)) s n k2) (dM1 (z_ui (toM (z_lys (z_giv m s c (-3)) s q 2 (nI c))) 50 47 (m.1 50 47 + 1)) s n k2) := by
  rw [toM_lys, toM_giv]
  obtain ⟨Q1, f1, f2, f3⟩ := rq_brk Q
  have A := lay_four (x := bkH x) (m := toM m) (s := s) (c := c) (q := q) hs hc hq
  have R1 := rc_lay (rc_brk R) A hs hq ((t64_t m s).trans e64) (svd_n ⟨by decide, by decide⟩ (by decide) hc) (fun j hj => by rw [t64_t]; exact hm4 j hj)
  obtain ⟨Q2, g1, g2⟩ := rq_lay Q1 A hs f3 (fun j hj => by
    rw [ct_n9 (by decide) hc hj]
    show (if j = c then (-3 : Int32) else 0) + _ = _
    by_cases e : j = c
    · rw [if_pos e, if_pos e, if_pos e]; decide
    · rw [if_neg e, if_neg e, if_neg e]; decide)
  have R2 := rc_brk (rc_tkW R1 s)
  obtain ⟨Q3, -⟩ := rq_tkW Q2 s
  obtain ⟨Q4, -, -, -⟩ := rq_brk Q3
  have eT : toM (z_lys (z_giv (toM m) s c (-3)) s q 2 (nI c)) = z_lys (z_giv (toM m) s c (-3)) s q 2 (nI c) := by rw [toM_lys, toM_giv, toM_tt]
  rw [eT] at R2 Q4
  have R5 := rc_47 R2 (m.1 50 47 + 1)
  have Q5 := rq_47 Q4 (m.1 50 47 + 1)
  have g : ∀ r k', r ≠ 60 → r ≠ 62 → r ≠ 63 → r ≠ 64 → r ≠ 69 → (r ≠ 50 ∨ (k' ≠ 56 ∧ k' ≠ 47)) → (z_ui (z_lys (z_giv (toM m) s c (-3)) s q 2 (nI c)) 50 47 (m.1 50 47 + 1)).1 r k' = m.1 r k' := fun r k' h1 h2 h3 h4 h5 h6 => by
    have z : (z_lys (z_giv (toM m) s c (-3)) s q 2 (nI c)).1 r k' = m.1 r k' := by rw [lys_o ⟨h2, h3, h4⟩, giv_o h1, toM_o ⟨h5, by omega⟩]
    by_cases e : r = 50
    · rw [ui_k (by omega)]; exact z
    · rw [ui_o e]; exact z
  refine ⟨rc_draw1 R5 hs hk2, Or.inr ⟨1, s, k2, rp_draw1 R5 Q5 hs hk2 ?_ hn ?_ ?_ ?_ (by rw [ui_o (by decide), lys_o ⟨by decide, by decide, by decide⟩, ← toM_giv, toM_o ⟨by decide, Or.inl (by decide)⟩]; exact hh)⟩⟩
  · rw [g 50 48 (by omega) (by omega) (by omega) (by omega) (by omega) (by omega)]; exact e48
  · rw [g 50 46 (by omega) (by omega) (by omega) (by omega) (by omega) (by omega)]; exact hnx
  · rw [g 59 _ (by omega) (by omega) (by omega) (by omega) (by omega) (by omega)]; exact hw
  · rw [ui_s, e47, nI_s1]
/-- a FOUR by an added tile goes through -/
theorem rg_pass3 {x m : zM} {t n k2 : Nat} (R : RCl x m) (Q : RQ x m 34) (ht : t < 4) (hn : n < 4) (e47 : m.1 50 47 = nI n) (e48 : m.1 50 48 = nI n) (hk2 : k2 < 34) (hw : m.1 59 (122 + n) = nI k2) (hnx : bI 0 122 (m.1 50 46)) (hh : ¬ m.1 60 (34 * t + k2) = -1) : RG (dT1 (bkH x) t n k2) (dM1 (toM (z_ui m 50 47 (m.1 50 47 + 1))) t n k2) := by
  rw [toM_47]
  obtain ⟨Q1, -, -, -⟩ := rq_brk Q
  have R5 := rc_47 (rc_brk R) (m.1 50 47 + 1)
  have Q5 := rq_47 Q1 (m.1 50 47 + 1)
  have g : ∀ r k', r ≠ 69 → (r ≠ 50 ∨ (k' ≠ 56 ∧ k' ≠ 47)) → (z_ui (toM m) 50 47 (m.1 50 47 + 1)).1 r k' = m.1 r k' := fun r k' h5 h6 => by
    have z : (toM m).1 r k' = m.1 r k' := toM_o ⟨h5, by omega⟩
    by_cases e : r = 50
    · rw [ui_k (by omega)]; exact z
    · rw [ui_o e]; exact z
  refine ⟨rc_draw1 R5 ht hk2, Or.inr ⟨1, t, k2, rp_draw1 R5 Q5 ht hk2 ?_ hn ?_ ?_ ?_ (by rw [g 60 _ (by omega) (by omega)]; exact hh)⟩⟩
  · rw [g 50 48 (by omega) (by omega)]; exact e48
  · rw [g 50 46 (by omega) (by omega)]; exact hnx
  · rw [g 59 _ (by omega) (by omega)]; exact hw
  · rw [ui_s, e47, nI_s1]
/-- the next draws -/
theorem rg_pass2 {x m : zM} {u n k : Nat} (R : RCl x m) (Q : RQ x m 34) (hu : u < 4) (hk : k < 34) (hn : m.1 50 46 = nI n) (hn2 : n < 122) (hbk : bI 0 4 (m.1 50 48)) (hw : m.1 59 n = nI k) (hfo : x.1 2 3 = m.1 50 47) (hh : ¬ m.1 60 (34 * u + k) = -1) : RG (dT0 x u n k) (dM0 m u n k) := ⟨rc_draw0 R hu hk hn, Or.inr ⟨1, u, k, rp_draw0 R Q hu hk hn hn2 hbk hw hfo hh⟩⟩
/-- the tile that nobody wanted lies no more between -/
theorem rq_34 {x m : zM} {c : Nat} (Q : RQ x m c) : RQ x m 34 := ⟨Q.br, Q.us, Q.ow, Q.o1, Q.is, Q.s1, Q.w0, Q.dn, Q.dr, Q.tc.elim fun a z => ⟨a, z.1, fun k hk => by have y := z.2 k hk; simp only [show ¬ 34 = k by omega, if_false]; omega⟩⟩
/-! ends: both games behind them -/
set_option maxRecDepth 8000
theorem rg_ends {x m : zM} (R : RCl x m) (hfo : x.1 2 3 = m.1 50 47) (htu : x.1 0 8 = m.1 50 45) {dl e : Nat} (hdl : m.1 50 40 = nI dl) (hdl4 : dl < 4) (he : (dl + 1) % 4 = e) (ds ow : Bool) : RG (eHB x ds ow (xBk x) dl e (rcM x)) (eMB m ds (!ow) dl e) := by
  obtain ⟨h1, p1, p2, p3, p4, p5, p6, p7⟩ := rc_ends R hdl hdl4 he ds ow
  exact ⟨h1, Or.inl ⟨p1, p2, p3, p4.trans (hfo.trans p5.symm), p6.trans (htu.trans p7.symm)⟩⟩
theorem rg_win0_1 {x m W : zM} (R : RCl x m) (hfo : x.1 2 3 = m.1 50 47) (htu : x.1 0 8 = m.1 50 45) {dl e c : Nat} (hdl : m.1 50 40 = nI dl) (hdl4 : dl < 4) (he : (dl + 1) % 4 = e) (hb : x.1 4 0 = W.1 50 13) (hh : x.1 4 1 = W.1 50 14) (hf : x.2.1 4 3 = W.2.1 50 17) (hc : x.1 0 15 = nI c) : RG (wn1 x 0 dl e 1 2 3) (wM0_1 m W dl e c) := by
  rw [wn1_p, wM0_1p]
  have R1 := rc_win0_1 (dl := dl) R hb hh hf hc
  refine rg_ends R1 ?_ ?_ ?_ hdl4 he true false
  · unfold wp1 wq0_1 rcW; simp (disch := omega) only [ui_s, uj_s, ui_o, ui_k, uj_o, uj_k, ui_j, uj_i]; exact hfo
  · unfold wp1 wq0_1 rcW; simp (disch := omega) only [ui_s, uj_s, ui_o, ui_k, uj_o, uj_k, ui_j, uj_i]; exact htu
  · unfold wq0_1; simp (disch := omega) only [ui_s, uj_s, ui_o, ui_k, uj_o, uj_k, ui_j, uj_i]; exact hdl
theorem rg_win0_0 {x m W : zM} (R : RCl x m) (hfo : x.1 2 3 = m.1 50 47) (htu : x.1 0 8 = m.1 50 45) {dl e c : Nat} (hdl : m.1 50 40 = nI dl) (hdl4 : dl < 4) (he : (dl + 1) % 4 = e) (hb : x.1 4 0 = W.1 50 13) (hh : x.1 4 1 = W.1 50 14) (hf : x.2.1 4 3 = W.2.1 50 17) (hc : x.1 0 15 = nI c) : RG (wn0 x 0 dl e 1 2 3) (wM0_0 m W dl e c) := by
  rw [wn0_p, wM0_0p]
  have R1 := rc_win0_0 (dl := dl) R hb hh hf hc
  refine rg_ends R1 ?_ ?_ ?_ hdl4 he false true
  · unfold wp0 wq0_0 rcW; simp (disch := omega) only [ui_s, uj_s, ui_o, ui_k, uj_o, uj_k, ui_j, uj_i]; exact hfo
  · unfold wp0 wq0_0 rcW; simp (disch := omega) only [ui_s, uj_s, ui_o, ui_k, uj_o, uj_k, ui_j, uj_i]; exact htu
  · unfold wq0_0; simp (disch := omega) only [ui_s, uj_s, ui_o, ui_k, uj_o, uj_k, ui_j, uj_i]; exact hdl
theorem rg_win1_1 {x m W : zM} (R : RCl x m) (hfo : x.1 2 3 = m.1 50 47) (htu : x.1 0 8 = m.1 50 45) {dl e c : Nat} (hdl : m.1 50 40 = nI dl) (hdl4 : dl < 4) (he : (dl + 1) % 4 = e) (hb : x.1 4 0 = W.1 50 13) (hh : x.1 4 1 = W.1 50 14) (hf : x.2.1 4 3 = W.2.1 50 17) (hc : x.1 0 15 = nI c) : RG (wn1 x 1 dl e 2 3 0) (wM1_1 m W dl e c) := by
  rw [wn1_p, wM1_1p]
  have R1 := rc_win1_1 (dl := dl) R hb hh hf hc
  refine rg_ends R1 ?_ ?_ ?_ hdl4 he true false
  · unfold wp1 wq1_1 rcW; simp (disch := omega) only [ui_s, uj_s, ui_o, ui_k, uj_o, uj_k, ui_j, uj_i]; exact hfo
  · unfold wp1 wq1_1 rcW; simp (disch := omega) only [ui_s, uj_s, ui_o, ui_k, uj_o, uj_k, ui_j, uj_i]; exact htu
  · unfold wq1_1; simp (disch := omega) only [ui_s, uj_s, ui_o, ui_k, uj_o, uj_k, ui_j, uj_i]; exact hdl
theorem rg_win1_0 {x m W : zM} (R : RCl x m) (hfo : x.1 2 3 = m.1 50 47) (htu : x.1 0 8 = m.1 50 45) {dl e c : Nat} (hdl : m.1 50 40 = nI dl) (hdl4 : dl < 4) (he : (dl + 1) % 4 = e) (hb : x.1 4 0 = W.1 50 13) (hh : x.1 4 1 = W.1 50 14) (hf : x.2.1 4 3 = W.2.1 50 17) (hc : x.1 0 15 = nI c) : RG (wn0 x 1 dl e 2 3 0) (wM1_0 m W dl e c) := by
  rw [wn0_p, wM1_0p]
  have R1 := rc_win1_0 (dl := dl) R hb hh hf hc
  refine rg_ends R1 ?_ ?_ ?_ hdl4 he false true
  · unfold wp0 wq1_0 rcW; simp (disch := omega) only [ui_s, uj_s, ui_o, ui_k, uj_o, uj_k, ui_j, uj_i]; exact hfo
  · unfold wp0 wq1_0 rcW; simp (disch := omega) only [ui_s, uj_s, ui_o, ui_k, uj_o, uj_k, ui_j, uj_i]; exact htu
  · unfold wq1_0; simp (disch := omega) only [ui_s, uj_s, ui_o, ui_k, uj_o, uj_k, ui_j, uj_i]; exact hdl
theorem rg_win2_1 {x m W : zM} (R : RCl x m) (hfo : x.1 2 3 = m.1 50 47) (htu : x.1 0 8 = m.1 50 45) {dl e c : Nat} (hdl : m.1 50 40 = nI dl) (hdl4 : dl < 4) (he : (dl + 1) % 4 = e) (hb : x.1 4 0 = W.1 50 13) (hh : x.1 4 1 = W.1 50 14) (hf : x.2.1 4 3 = W.2.1 50 17) (hc : x.1 0 15 = nI c) : RG (wn1 x 2 dl e 3 0 1) (wM2_1 m W dl e c) := by
  rw [wn1_p, wM2_1p]
  have R1 := rc_win2_1 (dl := dl) R hb hh hf hc
  refine rg_ends R1 ?_ ?_ ?_ hdl4 he true false
  · unfold wp1 wq2_1 rcW; simp (disch := omega) only [ui_s, uj_s, ui_o, ui_k, uj_o, uj_k, ui_j, uj_i]; exact hfo
  · unfold wp1 wq2_1 rcW; simp (disch := omega) only [ui_s, uj_s, ui_o, ui_k, uj_o, uj_k, ui_j, uj_i]; exact htu
  · unfold wq2_1; simp (disch := omega) only [ui_s, uj_s, ui_o, ui_k, uj_o, uj_k, ui_j, uj_i]; exact hdl
theorem rg_win2_0 {x m W : zM} (R : RCl x m) (hfo : x.1 2 3 = m.1 50 47) (htu : x.1 0 8 = m.1 50 45) {dl e c : Nat} (hdl : m.1 50 40 = nI dl) (hdl4 : dl < 4) (he : (dl + 1) % 4 = e) (hb : x.1 4 0 = W.1 50 13) (hh : x.1 4 1 = W.1 50 14) (hf : x.2.1 4 3 = W.2.1 50 17) (hc : x.1 0 15 = nI c) : RG (wn0 x 2 dl e 3 0 1) (wM2_0 m W dl e c) := by
  rw [wn0_p, wM2_0p]
  have R1 := rc_win2_0 (dl := dl) R hb hh hf hc
  refine rg_ends R1 ?_ ?_ ?_ hdl4 he false true
  · unfold wp0 wq2_0 rcW; simp (disch := omega) only [ui_s, uj_s, ui_o, ui_k, uj_o, uj_k, ui_j, uj_i]; exact hfo
  · unfold wp0 wq2_0 rcW; simp (disch := omega) only [ui_s, uj_s, ui_o, ui_k, uj_o, uj_k, ui_j, uj_i]; exact htu
  · unfold wq2_0; simp (disch := omega) only [ui_s, uj_s, ui_o, ui_k, uj_o, uj_k, ui_j, uj_i]; exact hdl
theorem rg_win3_1 {x m W : zM} (R : RCl x m) (hfo : x.1 2 3 = m.1 50 47) (htu : x.1 0 8 = m.1 50 45) {dl e c : Nat} (hdl : m.1 50 40 = nI dl) (hdl4 : dl < 4) (he : (dl + 1) % 4 = e) (hb : x.1 4 0 = W.1 50 13) (hh : x.1 4 1 = W.1 50 14) (hf : x.2.1 4 3 = W.2.1 50 17) (hc : x.1 0 15 = nI c) : RG (wn1 x 3 dl e 0 1 2) (wM3_1 m W dl e c) := by
  rw [wn1_p, wM3_1p]
  have R1 := rc_win3_1 (dl := dl) R hb hh hf hc
  refine rg_ends R1 ?_ ?_ ?_ hdl4 he true false
  · unfold wp1 wq3_1 rcW; simp (disch := omega) only [ui_s, uj_s, ui_o, ui_k, uj_o, uj_k, ui_j, uj_i]; exact hfo
  · unfold wp1 wq3_1 rcW; simp (disch := omega) only [ui_s, uj_s, ui_o, ui_k, uj_o, uj_k, ui_j, uj_i]; exact htu
  · unfold wq3_1; simp (disch := omega) only [ui_s, uj_s, ui_o, ui_k, uj_o, uj_k, ui_j, uj_i]; exact hdl
theorem rg_win3_0 {x m W : zM} (R : RCl x m) (hfo : x.1 2 3 = m.1 50 47) (htu : x.1 0 8 = m.1 50 45) {dl e c : Nat} (hdl : m.1 50 40 = nI dl) (hdl4 : dl < 4) (he : (dl + 1) % 4 = e) (hb : x.1 4 0 = W.1 50 13) (hh : x.1 4 1 = W.1 50 14) (hf : x.2.1 4 3 = W.2.1 50 17) (hc : x.1 0 15 = nI c) : RG (wn0 x 3 dl e 0 1 2) (wM3_0 m W dl e c) := by
  rw [wn0_p, wM3_0p]
  have R1 := rc_win3_0 (dl := dl) R hb hh hf hc
  refine rg_ends R1 ?_ ?_ ?_ hdl4 he false true
  · unfold wp0 wq3_0 rcW; simp (disch := omega) only [ui_s, uj_s, ui_o, ui_k, uj_o, uj_k, ui_j, uj_i]; exact hfo
  · unfold wp0 wq3_0 rcW; simp (disch := omega) only [ui_s, uj_s, ui_o, ui_k, uj_o, uj_k, ui_j, uj_i]; exact htu
  · unfold wq3_0; simp (disch := omega) only [ui_s, uj_s, ui_o, ui_k, uj_o, uj_k, ui_j, uj_i]; exact hdl
/-! all that said so win: both games behind it -/
set_option maxRecDepth 8000
theorem rg_aw001 {x m W3 N3 : zM} {v3 : Q4} (R : RCl x m) {t dl e c u1 u2 u3 : Nat} (hfo : x.1 2 3 = m.1 50 47) (htu : x.1 0 8 = m.1 50 45) (hdl : m.1 50 40 = nI dl) (hdl4 : dl < 4) (he : (dl + 1) % 4 = e) (ht : t < 4) (hu1 : (t + 1) % 4 = u1) (hu2 : (t + 2) % 4 = u2) (hu3 : (t + 3) % 4 = u3) (hc : x.1 0 15 = nI c) (hO3 : WOj (x) W3) (hv3 : bqJ W3 = v3) (hb3 : v3.1 = N3.1 50 13) (hh3 : v3.2.1 = N3.1 50 14) (hf3 : v3.2.2.2 = N3.2.1 50 17) : RG (wA001 W3 t dl e u1 u2 u3 v3 x) (aM001 m N3 t dl e c u1 u2 u3) := by
  rw [wA001_p, aM001_p]
  have R1 := rc_aw001 (dl := dl) R ht hu1 hu2 hu3 hc hO3 hv3 hb3 hh3 hf3
  have o3 := fun r k h => (hO3 r k h).1
  have h1 : u1 < 4 := by omega
  have h2 : u2 < 4 := by omega
  have h3 : u3 < 4 := by omega
  have g := rg_ends R1 (dl := dl) (e := e) ?_ ?_ ?_ hdl4 he ((decide ((nI u3) = (nI dl)))) (!((decide ((nI u3) = (nI dl)))))
  · rw [Bool.not_not] at g; exact g
  · unfold wa001 aq001; unfold rcW at *; simp (disch := omega) only [ui_s, uj_s, ui_o, ui_k, uj_o, uj_k, ui_j, uj_i, o3]; exact hfo
  · unfold wa001 aq001; unfold rcW at *; simp (disch := omega) only [ui_s, uj_s, ui_o, ui_k, uj_o, uj_k, ui_j, uj_i, o3]; exact htu
  · unfold aq001; simp (disch := omega) only [ui_s, uj_s, ui_o, ui_k, uj_o, uj_k, ui_j, uj_i]; exact hdl
theorem rg_aw010 {x m W2 N2 : zM} {v2 : Q4} (R : RCl x m) {t dl e c u1 u2 u3 : Nat} (hfo : x.1 2 3 = m.1 50 47) (htu : x.1 0 8 = m.1 50 45) (hdl : m.1 50 40 = nI dl) (hdl4 : dl < 4) (he : (dl + 1) % 4 = e) (ht : t < 4) (hu1 : (t + 1) % 4 = u1) (hu2 : (t + 2) % 4 = u2) (hu3 : (t + 3) % 4 = u3) (hc : x.1 0 15 = nI c) (hO2 : WOj (x) W2) (hv2 : bqJ W2 = v2) (hb2 : v2.1 = N2.1 50 13) (hh2 : v2.2.1 = N2.1 50 14) (hf2 : v2.2.2.2 = N2.2.1 50 17) : RG (wA010 W2 t dl e u1 u2 u3 v2 x) (aM010 m N2 t dl e c u1 u2 u3) := by
  rw [wA010_p, aM010_p]
  have R1 := rc_aw010 (dl := dl) R ht hu1 hu2 hu3 hc hO2 hv2 hb2 hh2 hf2
  have o2 := fun r k h => (hO2 r k h).1
  have h1 : u1 < 4 := by omega
  have h2 : u2 < 4 := by omega
  have h3 : u3 < 4 := by omega
  have g := rg_ends R1 (dl := dl) (e := e) ?_ ?_ ?_ hdl4 he ((decide ((nI u2) = (nI dl)))) (!((decide ((nI u2) = (nI dl)))))
  · rw [Bool.not_not] at g; exact g
  · unfold wa010 aq010; unfold rcW at *; simp (disch := omega) only [ui_s, uj_s, ui_o, ui_k, uj_o, uj_k, ui_j, uj_i, o2]; exact hfo
  · unfold wa010 aq010; unfold rcW at *; simp (disch := omega) only [ui_s, uj_s, ui_o, ui_k, uj_o, uj_k, ui_j, uj_i, o2]; exact htu
  · unfold aq010; simp (disch := omega) only [ui_s, uj_s, ui_o, ui_k, uj_o, uj_k, ui_j, uj_i]; exact hdl
theorem rg_aw011 {x m W2 W3 N2 N3 : zM} {v2 v3 : Q4} (R : RCl x m) {t dl e c u1 u2 u3 : Nat} (hfo : x.1 2 3 = m.1 50 47) (htu : x.1 0 8 = m.1 50 45) (hdl : m.1 50 40 = nI dl) (hdl4 : dl < 4) (he : (dl + 1) % 4 = e) (ht : t < 4) (hu1 : (t + 1) % 4 = u1) (hu2 : (t + 2) % 4 = u2) (hu3 : (t + 3) % 4 = u3) (hc : x.1 0 15 = nI c) (hO2 : WOj (x) W2) (hv2 : bqJ W2 = v2) (hb2 : v2.1 = N2.1 50 13) (hh2 : v2.2.1 = N2.1 50 14) (hf2 : v2.2.2.2 = N2.2.1 50 17) (hO3 : WOj (z_ui (rcW (z_ui (z_ui W2 (18 + 8 * t) 4 ((x.1 (18 + 8 * t) 4) - ((hnd (v2.1 * (bif decide ((nI u2) = (nI dl)) then (6 : Int32) else 4))) + (300 * (x.1 0 11))))) (18 + 8 * u2) 4 ((x.1 (18 + 8 * u2) 4) + (((hnd (v2.1 * (bif decide ((nI u2) = (nI dl)) then (6 : Int32) else 4))) + (300 * (x.1 0 11))) + ((x.1 0 12) * 1000)))) 0 (nI u2) (nI t) (((hnd (v2.1 * (bif decide ((nI u2) = (nI dl)) then (6 : Int32) else 4))) + (300 * (x.1 0 11))) + ((x.1 0 12) * 1000))) 0 12 0) W3) (hv3 : bqJ W3 = v3) (hb3 : v3.1 = N3.1 50 13) (hh3 : v3.2.1 = N3.1 50 14) (hf3 : v3.2.2.2 = N3.2.1 50 17) : RG (wA011 W3 t dl e u1 u2 u3 v2 v3 x) (aM011 m N2 N3 t dl e c u1 u2 u3) := by
  rw [wA011_p, aM011_p]
  have R1 := rc_aw011 (dl := dl) R ht hu1 hu2 hu3 hc hO2 hv2 hb2 hh2 hf2 hO3 hv3 hb3 hh3 hf3
  have o2 := fun r k h => (hO2 r k h).1
  have o3 := fun r k h => (hO3 r k h).1
  have h1 : u1 < 4 := by omega
  have h2 : u2 < 4 := by omega
  have h3 : u3 < 4 := by omega
  have g := rg_ends R1 (dl := dl) (e := e) ?_ ?_ ?_ hdl4 he ((decide ((nI u2) = (nI dl))) || (decide ((nI u3) = (nI dl)))) (!((decide ((nI u2) = (nI dl))) || (decide ((nI u3) = (nI dl)))))
  · rw [Bool.not_not] at g; exact g
  · unfold wa011 aq011; unfold rcW at *; simp (disch := omega) only [ui_s, uj_s, ui_o, ui_k, uj_o, uj_k, ui_j, uj_i, o2, o3]; exact hfo
  · unfold wa011 aq011; unfold rcW at *; simp (disch := omega) only [ui_s, uj_s, ui_o, ui_k, uj_o, uj_k, ui_j, uj_i, o2, o3]; exact htu
  · unfold aq011; simp (disch := omega) only [ui_s, uj_s, ui_o, ui_k, uj_o, uj_k, ui_j, uj_i]; exact hdl
theorem rg_aw100 {x m W1 N1 : zM} {v1 : Q4} (R : RCl x m) {t dl e c u1 u2 u3 : Nat} (hfo : x.1 2 3 = m.1 50 47) (htu : x.1 0 8 = m.1 50 45) (hdl : m.1 50 40 = nI dl) (hdl4 : dl < 4) (he : (dl + 1) % 4 = e) (ht : t < 4) (hu1 : (t + 1) % 4 = u1) (hu2 : (t + 2) % 4 = u2) (hu3 : (t + 3) % 4 = u3) (hc : x.1 0 15 = nI c) (hO1 : WOj (x) W1) (hv1 : bqJ W1 = v1) (hb1 : v1.1 = N1.1 50 13) (hh1 : v1.2.1 = N1.1 50 14) (hf1 : v1.2.2.2 = N1.2.1 50 17) : RG (wA100 W1 t dl e u1 u2 u3 v1 x) (aM100 m N1 t dl e c u1 u2 u3) := by
  rw [wA100_p, aM100_p]
  have R1 := rc_aw100 (dl := dl) R ht hu1 hu2 hu3 hc hO1 hv1 hb1 hh1 hf1
  have o1 := fun r k h => (hO1 r k h).1
  have h1 : u1 < 4 := by omega
  have h2 : u2 < 4 := by omega
  have h3 : u3 < 4 := by omega
  have g := rg_ends R1 (dl := dl) (e := e) ?_ ?_ ?_ hdl4 he ((decide ((nI u1) = (nI dl)))) (!((decide ((nI u1) = (nI dl)))))
  · rw [Bool.not_not] at g; exact g
  · unfold wa100 aq100; unfold rcW at *; simp (disch := omega) only [ui_s, uj_s, ui_o, ui_k, uj_o, uj_k, ui_j, uj_i, o1]; exact hfo
  · unfold wa100 aq100; unfold rcW at *; simp (disch := omega) only [ui_s, uj_s, ui_o, ui_k, uj_o, uj_k, ui_j, uj_i, o1]; exact htu
  · unfold aq100; simp (disch := omega) only [ui_s, uj_s, ui_o, ui_k, uj_o, uj_k, ui_j, uj_i]; exact hdl
theorem rg_aw101 {x m W1 W3 N1 N3 : zM} {v1 v3 : Q4} (R : RCl x m) {t dl e c u1 u2 u3 : Nat} (hfo : x.1 2 3 = m.1 50 47) (htu : x.1 0 8 = m.1 50 45) (hdl : m.1 50 40 = nI dl) (hdl4 : dl < 4) (he : (dl + 1) % 4 = e) (ht : t < 4) (hu1 : (t + 1) % 4 = u1) (hu2 : (t + 2) % 4 = u2) (hu3 : (t + 3) % 4 = u3) (hc : x.1 0 15 = nI c) (hO1 : WOj (x) W1) (hv1 : bqJ W1 = v1) (hb1 : v1.1 = N1.1 50 13) (hh1 : v1.2.1 = N1.1 50 14) (hf1 : v1.2.2.2 = N1.2.1 50 17) (hO3 : WOj (z_ui (rcW (z_ui (z_ui W1 (18 + 8 * t) 4 ((x.1 (18 + 8 * t) 4) - ((hnd (v1.1 * (bif decide ((nI u1) = (nI dl)) then (6 : Int32) else 4))) + (300 * (x.1 0 11))))) (18 + 8 * u1) 4 ((x.1 (18 + 8 * u1) 4) + (((hnd (v1.1 * (bif decide ((nI u1) = (nI dl)) then (6 : Int32) else 4))) + (300 * (x.1 0 11))) + ((x.1 0 12) * 1000)))) 0 (nI u1) (nI t) (((hnd (v1.1 * (bif decide ((nI u1) = (nI dl)) then (6 : Int32) else 4))) + (300 * (x.1 0 11))) + ((x.1 0 12) * 1000))) 0 12 0) W3) (hv3 : bqJ W3 = v3) (hb3 : v3.1 = N3.1 50 13) (hh3 : v3.2.1 = N3.1 50 14) (hf3 : v3.2.2.2 = N3.2.1 50 17) : RG (wA101 W3 t dl e u1 u2 u3 v1 v3 x) (aM101 m N1 N3 t dl e c u1 u2 u3) := by
  rw [wA101_p, aM101_p]
  have R1 := rc_aw101 (dl := dl) R ht hu1 hu2 hu3 hc hO1 hv1 hb1 hh1 hf1 hO3 hv3 hb3 hh3 hf3
  have o1 := fun r k h => (hO1 r k h).1
  have o3 := fun r k h => (hO3 r k h).1
  have h1 : u1 < 4 := by omega
  have h2 : u2 < 4 := by omega
  have h3 : u3 < 4 := by omega
  have g := rg_ends R1 (dl := dl) (e := e) ?_ ?_ ?_ hdl4 he ((decide ((nI u1) = (nI dl))) || (decide ((nI u3) = (nI dl)))) (!((decide ((nI u1) = (nI dl))) || (decide ((nI u3) = (nI dl)))))
  · rw [Bool.not_not] at g; exact g
  · unfold wa101 aq101; unfold rcW at *; simp (disch := omega) only [ui_s, uj_s, ui_o, ui_k, uj_o, uj_k, ui_j, uj_i, o1, o3]; exact hfo
  · unfold wa101 aq101; unfold rcW at *; simp (disch := omega) only [ui_s, uj_s, ui_o, ui_k, uj_o, uj_k, ui_j, uj_i, o1, o3]; exact htu
  · unfold aq101; simp (disch := omega) only [ui_s, uj_s, ui_o, ui_k, uj_o, uj_k, ui_j, uj_i]; exact hdl
theorem rg_aw110 {x m W1 W2 N1 N2 : zM} {v1 v2 : Q4} (R : RCl x m) {t dl e c u1 u2 u3 : Nat} (hfo : x.1 2 3 = m.1 50 47) (htu : x.1 0 8 = m.1 50 45) (hdl : m.1 50 40 = nI dl) (hdl4 : dl < 4) (he : (dl + 1) % 4 = e) (ht : t < 4) (hu1 : (t + 1) % 4 = u1) (hu2 : (t + 2) % 4 = u2) (hu3 : (t + 3) % 4 = u3) (hc : x.1 0 15 = nI c) (hO1 : WOj (x) W1) (hv1 : bqJ W1 = v1) (hb1 : v1.1 = N1.1 50 13) (hh1 : v1.2.1 = N1.1 50 14) (hf1 : v1.2.2.2 = N1.2.1 50 17) (hO2 : WOj (z_ui (rcW (z_ui (z_ui W1 (18 + 8 * t) 4 ((x.1 (18 + 8 * t) 4) - ((hnd (v1.1 * (bif decide ((nI u1) = (nI dl)) then (6 : Int32) else 4))) + (300 * (x.1 0 11))))) (18 + 8 * u1) 4 ((x.1 (18 + 8 * u1) 4) + (((hnd (v1.1 * (bif decide ((nI u1) = (nI dl)) then (6 : Int32) else 4))) + (300 * (x.1 0 11))) + ((x.1 0 12) * 1000)))) 0 (nI u1) (nI t) (((hnd (v1.1 * (bif decide ((nI u1) = (nI dl)) then (6 : Int32) else 4))) + (300 * (x.1 0 11))) + ((x.1 0 12) * 1000))) 0 12 0) W2) (hv2 : bqJ W2 = v2) (hb2 : v2.1 = N2.1 50 13) (hh2 : v2.2.1 = N2.1 50 14) (hf2 : v2.2.2.2 = N2.2.1 50 17) : RG (wA110 W2 t dl e u1 u2 u3 v1 v2 x) (aM110 m N1 N2 t dl e c u1 u2 u3) := by
  rw [wA110_p, aM110_p]
  have R1 := rc_aw110 (dl := dl) R ht hu1 hu2 hu3 hc hO1 hv1 hb1 hh1 hf1 hO2 hv2 hb2 hh2 hf2
  have o1 := fun r k h => (hO1 r k h).1
  have o2 := fun r k h => (hO2 r k h).1
  have h1 : u1 < 4 := by omega
  have h2 : u2 < 4 := by omega
  have h3 : u3 < 4 := by omega
  have g := rg_ends R1 (dl := dl) (e := e) ?_ ?_ ?_ hdl4 he ((decide ((nI u1) = (nI dl))) || (decide ((nI u2) = (nI dl)))) (!((decide ((nI u1) = (nI dl))) || (decide ((nI u2) = (nI dl)))))
  · rw [Bool.not_not] at g; exact g
  · unfold wa110 aq110; unfold rcW at *; simp (disch := omega) only [ui_s, uj_s, ui_o, ui_k, uj_o, uj_k, ui_j, uj_i, o1, o2]; exact hfo
  · unfold wa110 aq110; unfold rcW at *; simp (disch := omega) only [ui_s, uj_s, ui_o, ui_k, uj_o, uj_k, ui_j, uj_i, o1, o2]; exact htu
  · unfold aq110; simp (disch := omega) only [ui_s, uj_s, ui_o, ui_k, uj_o, uj_k, ui_j, uj_i]; exact hdl
theorem rg_aw111 {x m W1 W2 W3 N1 N2 N3 : zM} {v1 v2 v3 : Q4} (R : RCl x m) {t dl e c u1 u2 u3 : Nat} (hfo : x.1 2 3 = m.1 50 47) (htu : x.1 0 8 = m.1 50 45) (hdl : m.1 50 40 = nI dl) (hdl4 : dl < 4) (he : (dl + 1) % 4 = e) (ht : t < 4) (hu1 : (t + 1) % 4 = u1) (hu2 : (t + 2) % 4 = u2) (hu3 : (t + 3) % 4 = u3) (hc : x.1 0 15 = nI c) (hO1 : WOj (x) W1) (hv1 : bqJ W1 = v1) (hb1 : v1.1 = N1.1 50 13) (hh1 : v1.2.1 = N1.1 50 14) (hf1 : v1.2.2.2 = N1.2.1 50 17) (hO2 : WOj (z_ui (rcW (z_ui (z_ui W1 (18 + 8 * t) 4 ((x.1 (18 + 8 * t) 4) - ((hnd (v1.1 * (bif decide ((nI u1) = (nI dl)) then (6 : Int32) else 4))) + (300 * (x.1 0 11))))) (18 + 8 * u1) 4 ((x.1 (18 + 8 * u1) 4) + (((hnd (v1.1 * (bif decide ((nI u1) = (nI dl)) then (6 : Int32) else 4))) + (300 * (x.1 0 11))) + ((x.1 0 12) * 1000)))) 0 (nI u1) (nI t) (((hnd (v1.1 * (bif decide ((nI u1) = (nI dl)) then (6 : Int32) else 4))) + (300 * (x.1 0 11))) + ((x.1 0 12) * 1000))) 0 12 0) W2) (hv2 : bqJ W2 = v2) (hb2 : v2.1 = N2.1 50 13) (hh2 : v2.2.1 = N2.1 50 14) (hf2 : v2.2.2.2 = N2.2.1 50 17) (hO3 : WOj (z_ui (rcW (z_ui (z_ui W2 (18 + 8 * t) 4 (((x.1 (18 + 8 * t) 4) - ((hnd (v1.1 * (bif decide ((nI u1) = (nI dl)) then (6 : Int32) else 4))) + (300 * (x.1 0 11)))) - ((hnd (v2.1 * (bif decide ((nI u2) = (nI dl)) then (6 : Int32) else 4))) + 0))) (18 + 8 * u2) 4 ((x.1 (18 + 8 * u2) 4) + (((hnd (v2.1 * (bif decide ((nI u2) = (nI dl)) then (6 : Int32) else 4))) + 0) + 0))) 1 (nI u2) (nI t) (((hnd (v2.1 * (bif decide ((nI u2) = (nI dl)) then (6 : Int32) else 4))) + 0) + 0)) 0 12 0) W3) (hv3 : bqJ W3 = v3) (hb3 : v3.1 = N3.1 50 13) (hh3 : v3.2.1 = N3.1 50 14) (hf3 : v3.2.2.2 = N3.2.1 50 17) : RG (wA111 W3 t dl e u1 u2 u3 v1 v2 v3 x) (aM111 m N1 N2 N3 t dl e c u1 u2 u3) := by
  rw [wA111_p, aM111_p]
  have R1 := rc_aw111 (dl := dl) R ht hu1 hu2 hu3 hc hO1 hv1 hb1 hh1 hf1 hO2 hv2 hb2 hh2 hf2 hO3 hv3 hb3 hh3 hf3
  have o1 := fun r k h => (hO1 r k h).1
  have o2 := fun r k h => (hO2 r k h).1
  have o3 := fun r k h => (hO3 r k h).1
  have h1 : u1 < 4 := by omega
  have h2 : u2 < 4 := by omega
  have h3 : u3 < 4 := by omega
  have g := rg_ends R1 (dl := dl) (e := e) ?_ ?_ ?_ hdl4 he (((decide ((nI u1) = (nI dl))) || (decide ((nI u2) = (nI dl)))) || (decide ((nI u3) = (nI dl)))) (!(((decide ((nI u1) = (nI dl))) || (decide ((nI u2) = (nI dl)))) || (decide ((nI u3) = (nI dl)))))
  · rw [Bool.not_not] at g; exact g
  · unfold wa111 aq111; unfold rcW at *; simp (disch := omega) only [ui_s, uj_s, ui_o, ui_k, uj_o, uj_k, ui_j, uj_i, o1, o2, o3]; exact hfo
  · unfold wa111 aq111; unfold rcW at *; simp (disch := omega) only [ui_s, uj_s, ui_o, ui_k, uj_o, uj_k, ui_j, uj_i, o1, o2, o3]; exact htu
  · unfold aq111; simp (disch := omega) only [ui_s, uj_s, ui_o, ui_k, uj_o, uj_k, ui_j, uj_i]; exact hdl
/-! a hand without a winner: both games behind it -/
set_option maxRecDepth 8000
theorem rg_nob0000 {x m : zM} (R : RCl x m) (hfo : x.1 2 3 = m.1 50 47) (htu : x.1 0 8 = m.1 50 45) {dl e : Nat} (hdl : m.1 50 40 = nI dl) (hdl4 : dl < 4) (he : (dl + 1) % 4 = e) (ds : Bool) : RG (eHB (x) ds false (xBk (x)) dl e (rcM (x))) (eMB (nM0000 m) ds true dl e) := by
  refine rg_ends (rc_nob0000 R) ?_ ?_ ?_ hdl4 he ds false
  · unfold nM0000; simp (disch := omega) only [ui_s, uj_s, ui_o, ui_k, uj_o, uj_k, ui_j, uj_i, z_zero_o, z_zero_j]; exact hfo
  · unfold nM0000; simp (disch := omega) only [ui_s, uj_s, ui_o, ui_k, uj_o, uj_k, ui_j, uj_i, z_zero_o, z_zero_j]; exact htu
  · unfold nM0000; simp (disch := omega) only [ui_s, uj_s, ui_o, ui_k, uj_o, uj_k, ui_j, uj_i, z_zero_o, z_zero_j]; exact hdl
theorem rg_nob0001 {x m : zM} (R : RCl x m) (hfo : x.1 2 3 = m.1 50 47) (htu : x.1 0 8 = m.1 50 45) {dl e : Nat} (hdl : m.1 50 40 = nI dl) (hdl4 : dl < 4) (he : (dl + 1) % 4 = e) (ds : Bool) : RG (eHB (z_ui (z_ui (z_ui (z_ui x 18 4 ((x.1 18 4) + (-1000))) 26 4 ((x.1 26 4) + (-1000))) 34 4 ((x.1 34 4) + (-1000))) 42 4 ((x.1 42 4) + 3000)) ds false (xBk (z_ui (z_ui (z_ui (z_ui x 18 4 ((x.1 18 4) + (-1000))) 26 4 ((x.1 26 4) + (-1000))) 34 4 ((x.1 34 4) + (-1000))) 42 4 ((x.1 42 4) + 3000))) dl e (rcM (z_ui (z_ui (z_ui (z_ui x 18 4 ((x.1 18 4) + (-1000))) 26 4 ((x.1 26 4) + (-1000))) 34 4 ((x.1 34 4) + (-1000))) 42 4 ((x.1 42 4) + 3000)))) (eMB (nM0001 m) ds true dl e) := by
  refine rg_ends (rc_nob0001 R) ?_ ?_ ?_ hdl4 he ds false
  · unfold nM0001; simp (disch := omega) only [ui_s, uj_s, ui_o, ui_k, uj_o, uj_k, ui_j, uj_i, z_zero_o, z_zero_j]; exact hfo
  · unfold nM0001; simp (disch := omega) only [ui_s, uj_s, ui_o, ui_k, uj_o, uj_k, ui_j, uj_i, z_zero_o, z_zero_j]; exact htu
  · unfold nM0001; simp (disch := omega) only [ui_s, uj_s, ui_o, ui_k, uj_o, uj_k, ui_j, uj_i, z_zero_o, z_zero_j]; exact hdl
theorem rg_nob0010 {x m : zM} (R : RCl x m) (hfo : x.1 2 3 = m.1 50 47) (htu : x.1 0 8 = m.1 50 45) {dl e : Nat} (hdl : m.1 50 40 = nI dl) (hdl4 : dl < 4) (he : (dl + 1) % 4 = e) (ds : Bool) : RG (eHB (z_ui (z_ui (z_ui (z_ui x 18 4 ((x.1 18 4) + (-1000))) 26 4 ((x.1 26 4) + (-1000))) 34 4 ((x.1 34 4) + 3000)) 42 4 ((x.1 42 4) + (-1000))) ds false (xBk (z_ui (z_ui (z_ui (z_ui x 18 4 ((x.1 18 4) + (-1000))) 26 4 ((x.1 26 4) + (-1000))) 34 4 ((x.1 34 4) + 3000)) 42 4 ((x.1 42 4) + (-1000)))) dl e (rcM (z_ui (z_ui (z_ui (z_ui x 18 4 ((x.1 18 4) + (-1000))) 26 4 ((x.1 26 4) + (-1000))) 34 4 ((x.1 34 4) + 3000)) 42 4 ((x.1 42 4) + (-1000))))) (eMB (nM0010 m) ds true dl e) := by
  refine rg_ends (rc_nob0010 R) ?_ ?_ ?_ hdl4 he ds false
  · unfold nM0010; simp (disch := omega) only [ui_s, uj_s, ui_o, ui_k, uj_o, uj_k, ui_j, uj_i, z_zero_o, z_zero_j]; exact hfo
  · unfold nM0010; simp (disch := omega) only [ui_s, uj_s, ui_o, ui_k, uj_o, uj_k, ui_j, uj_i, z_zero_o, z_zero_j]; exact htu
  · unfold nM0010; simp (disch := omega) only [ui_s, uj_s, ui_o, ui_k, uj_o, uj_k, ui_j, uj_i, z_zero_o, z_zero_j]; exact hdl
theorem rg_nob0011 {x m : zM} (R : RCl x m) (hfo : x.1 2 3 = m.1 50 47) (htu : x.1 0 8 = m.1 50 45) {dl e : Nat} (hdl : m.1 50 40 = nI dl) (hdl4 : dl < 4) (he : (dl + 1) % 4 = e) (ds : Bool) : RG (eHB (z_ui (z_ui (z_ui (z_ui x 18 4 ((x.1 18 4) + (-1500))) 26 4 ((x.1 26 4) + (-1500))) 34 4 ((x.1 34 4) + 1500)) 42 4 ((x.1 42 4) + 1500)) ds false (xBk (z_ui (z_ui (z_ui (z_ui x 18 4 ((x.1 18 4) + (-1500))) 26 4 ((x.1 26 4) + (-1500))) 34 4 ((x.1 34 4) + 1500)) 42 4 ((x.1 42 4) + 1500))) dl e (rcM (z_ui (z_ui (z_ui (z_ui x 18 4 ((x.1 18 4) + (-1500))) 26 4 ((x.1 26 4) + (-1500))) 34 4 ((x.1 34 4) + 1500)) 42 4 ((x.1 42 4) + 1500)))) (eMB (nM0011 m) ds true dl e) := by
  refine rg_ends (rc_nob0011 R) ?_ ?_ ?_ hdl4 he ds false
  · unfold nM0011; simp (disch := omega) only [ui_s, uj_s, ui_o, ui_k, uj_o, uj_k, ui_j, uj_i, z_zero_o, z_zero_j]; exact hfo
  · unfold nM0011; simp (disch := omega) only [ui_s, uj_s, ui_o, ui_k, uj_o, uj_k, ui_j, uj_i, z_zero_o, z_zero_j]; exact htu
  · unfold nM0011; simp (disch := omega) only [ui_s, uj_s, ui_o, ui_k, uj_o, uj_k, ui_j, uj_i, z_zero_o, z_zero_j]; exact hdl
theorem rg_nob0100 {x m : zM} (R : RCl x m) (hfo : x.1 2 3 = m.1 50 47) (htu : x.1 0 8 = m.1 50 45) {dl e : Nat} (hdl : m.1 50 40 = nI dl) (hdl4 : dl < 4) (he : (dl + 1) % 4 = e) (ds : Bool) : RG (eHB (z_ui (z_ui (z_ui (z_ui x 18 4 ((x.1 18 4) + (-1000))) 26 4 ((x.1 26 4) + 3000)) 34 4 ((x.1 34 4) + (-1000))) 42 4 ((x.1 42 4) + (-1000))) ds false (xBk (z_ui (z_ui (z_ui (z_ui x 18 4 ((x.1 18 4) + (-1000))) 26 4 ((x.1 26 4) + 3000)) 34 4 ((x.1 34 4) + (-1000))) 42 4 ((x.1 42 4) + (-1000)))) dl e (rcM (z_ui (z_ui (z_ui (z_ui x 18 4 ((x.1 18 4) + (-1000))) 26 4 ((x.1 26 4) + 3000)) 34 4 ((x.1 34 4) + (-1000))) 42 4 ((x.1 42 4) + (-1000))))) (eMB (nM0100 m) ds true dl e) := by
  refine rg_ends (rc_nob0100 R) ?_ ?_ ?_ hdl4 he ds false
  · unfold nM0100; simp (disch := omega) only [ui_s, uj_s, ui_o, ui_k, uj_o, uj_k, ui_j, uj_i, z_zero_o, z_zero_j]; exact hfo
  · unfold nM0100; simp (disch := omega) only [ui_s, uj_s, ui_o, ui_k, uj_o, uj_k, ui_j, uj_i, z_zero_o, z_zero_j]; exact htu
  · unfold nM0100; simp (disch := omega) only [ui_s, uj_s, ui_o, ui_k, uj_o, uj_k, ui_j, uj_i, z_zero_o, z_zero_j]; exact hdl
theorem rg_nob0101 {x m : zM} (R : RCl x m) (hfo : x.1 2 3 = m.1 50 47) (htu : x.1 0 8 = m.1 50 45) {dl e : Nat} (hdl : m.1 50 40 = nI dl) (hdl4 : dl < 4) (he : (dl + 1) % 4 = e) (ds : Bool) : RG (eHB (z_ui (z_ui (z_ui (z_ui x 18 4 ((x.1 18 4) + (-1500))) 26 4 ((x.1 26 4) + 1500)) 34 4 ((x.1 34 4) + (-1500))) 42 4 ((x.1 42 4) + 1500)) ds false (xBk (z_ui (z_ui (z_ui (z_ui x 18 4 ((x.1 18 4) + (-1500))) 26 4 ((x.1 26 4) + 1500)) 34 4 ((x.1 34 4) + (-1500))) 42 4 ((x.1 42 4) + 1500))) dl e (rcM (z_ui (z_ui (z_ui (z_ui x 18 4 ((x.1 18 4) + (-1500))) 26 4 ((x.1 26 4) + 1500)) 34 4 ((x.1 34 4) + (-1500))) 42 4 ((x.1 42 4) + 1500)))) (eMB (nM0101 m) ds true dl e) := by
  refine rg_ends (rc_nob0101 R) ?_ ?_ ?_ hdl4 he ds false
  · unfold nM0101; simp (disch := omega) only [ui_s, uj_s, ui_o, ui_k, uj_o, uj_k, ui_j, uj_i, z_zero_o, z_zero_j]; exact hfo
  · unfold nM0101; simp (disch := omega) only [ui_s, uj_s, ui_o, ui_k, uj_o, uj_k, ui_j, uj_i, z_zero_o, z_zero_j]; exact htu
  · unfold nM0101; simp (disch := omega) only [ui_s, uj_s, ui_o, ui_k, uj_o, uj_k, ui_j, uj_i, z_zero_o, z_zero_j]; exact hdl
theorem rg_nob0110 {x m : zM} (R : RCl x m) (hfo : x.1 2 3 = m.1 50 47) (htu : x.1 0 8 = m.1 50 45) {dl e : Nat} (hdl : m.1 50 40 = nI dl) (hdl4 : dl < 4) (he : (dl + 1) % 4 = e) (ds : Bool) : RG (eHB (z_ui (z_ui (z_ui (z_ui x 18 4 ((x.1 18 4) + (-1500))) 26 4 ((x.1 26 4) + 1500)) 34 4 ((x.1 34 4) + 1500)) 42 4 ((x.1 42 4) + (-1500))) ds false (xBk (z_ui (z_ui (z_ui (z_ui x 18 4 ((x.1 18 4) + (-1500))) 26 4 ((x.1 26 4) + 1500)) 34 4 ((x.1 34 4) + 1500)) 42 4 ((x.1 42 4) + (-1500)))) dl e (rcM (z_ui (z_ui (z_ui (z_ui x 18 4 ((x.1 18 4) + (-1500))) 26 4 ((x.1 26 4) + 1500)) 34 4 ((x.1 34 4) + 1500)) 42 4 ((x.1 42 4) + (-1500))))) (eMB (nM0110 m) ds true dl e) := by
  refine rg_ends (rc_nob0110 R) ?_ ?_ ?_ hdl4 he ds false
  · unfold nM0110; simp (disch := omega) only [ui_s, uj_s, ui_o, ui_k, uj_o, uj_k, ui_j, uj_i, z_zero_o, z_zero_j]; exact hfo
  · unfold nM0110; simp (disch := omega) only [ui_s, uj_s, ui_o, ui_k, uj_o, uj_k, ui_j, uj_i, z_zero_o, z_zero_j]; exact htu
  · unfold nM0110; simp (disch := omega) only [ui_s, uj_s, ui_o, ui_k, uj_o, uj_k, ui_j, uj_i, z_zero_o, z_zero_j]; exact hdl
theorem rg_nob0111 {x m : zM} (R : RCl x m) (hfo : x.1 2 3 = m.1 50 47) (htu : x.1 0 8 = m.1 50 45) {dl e : Nat} (hdl : m.1 50 40 = nI dl) (hdl4 : dl < 4) (he : (dl + 1) % 4 = e) (ds : Bool) : RG (eHB (z_ui (z_ui (z_ui (z_ui x 18 4 ((x.1 18 4) + (-3000))) 26 4 ((x.1 26 4) + 1000)) 34 4 ((x.1 34 4) + 1000)) 42 4 ((x.1 42 4) + 1000)) ds false (xBk (z_ui (z_ui (z_ui (z_ui x 18 4 ((x.1 18 4) + (-3000))) 26 4 ((x.1 26 4) + 1000)) 34 4 ((x.1 34 4) + 1000)) 42 4 ((x.1 42 4) + 1000))) dl e (rcM (z_ui (z_ui (z_ui (z_ui x 18 4 ((x.1 18 4) + (-3000))) 26 4 ((x.1 26 4) + 1000)) 34 4 ((x.1 34 4) + 1000)) 42 4 ((x.1 42 4) + 1000)))) (eMB (nM0111 m) ds true dl e) := by
  refine rg_ends (rc_nob0111 R) ?_ ?_ ?_ hdl4 he ds false
  · unfold nM0111; simp (disch := omega) only [ui_s, uj_s, ui_o, ui_k, uj_o, uj_k, ui_j, uj_i, z_zero_o, z_zero_j]; exact hfo
  · unfold nM0111; simp (disch := omega) only [ui_s, uj_s, ui_o, ui_k, uj_o, uj_k, ui_j, uj_i, z_zero_o, z_zero_j]; exact htu
  · unfold nM0111; simp (disch := omega) only [ui_s, uj_s, ui_o, ui_k, uj_o, uj_k, ui_j, uj_i, z_zero_o, z_zero_j]; exact hdl
theorem rg_nob1000 {x m : zM} (R : RCl x m) (hfo : x.1 2 3 = m.1 50 47) (htu : x.1 0 8 = m.1 50 45) {dl e : Nat} (hdl : m.1 50 40 = nI dl) (hdl4 : dl < 4) (he : (dl + 1) % 4 = e) (ds : Bool) : RG (eHB (z_ui (z_ui (z_ui (z_ui x 18 4 ((x.1 18 4) + 3000)) 26 4 ((x.1 26 4) + (-1000))) 34 4 ((x.1 34 4) + (-1000))) 42 4 ((x.1 42 4) + (-1000))) ds false (xBk (z_ui (z_ui (z_ui (z_ui x 18 4 ((x.1 18 4) + 3000)) 26 4 ((x.1 26 4) + (-1000))) 34 4 ((x.1 34 4) + (-1000))) 42 4 ((x.1 42 4) + (-1000)))) dl e (rcM (z_ui (z_ui (z_ui (z_ui x 18 4 ((x.1 18 4) + 3000)) 26 4 ((x.1 26 4) + (-1000))) 34 4 ((x.1 34 4) + (-1000))) 42 4 ((x.1 42 4) + (-1000))))) (eMB (nM1000 m) ds true dl e) := by
  refine rg_ends (rc_nob1000 R) ?_ ?_ ?_ hdl4 he ds false
  · unfold nM1000; simp (disch := omega) only [ui_s, uj_s, ui_o, ui_k, uj_o, uj_k, ui_j, uj_i, z_zero_o, z_zero_j]; exact hfo
  · unfold nM1000; simp (disch := omega) only [ui_s, uj_s, ui_o, ui_k, uj_o, uj_k, ui_j, uj_i, z_zero_o, z_zero_j]; exact htu
  · unfold nM1000; simp (disch := omega) only [ui_s, uj_s, ui_o, ui_k, uj_o, uj_k, ui_j, uj_i, z_zero_o, z_zero_j]; exact hdl
theorem rg_nob1001 {x m : zM} (R : RCl x m) (hfo : x.1 2 3 = m.1 50 47) (htu : x.1 0 8 = m.1 50 45) {dl e : Nat} (hdl : m.1 50 40 = nI dl) (hdl4 : dl < 4) (he : (dl + 1) % 4 = e) (ds : Bool) : RG (eHB (z_ui (z_ui (z_ui (z_ui x 18 4 ((x.1 18 4) + 1500)) 26 4 ((x.1 26 4) + (-1500))) 34 4 ((x.1 34 4) + (-1500))) 42 4 ((x.1 42 4) + 1500)) ds false (xBk (z_ui (z_ui (z_ui (z_ui x 18 4 ((x.1 18 4) + 1500)) 26 4 ((x.1 26 4) + (-1500))) 34 4 ((x.1 34 4) + (-1500))) 42 4 ((x.1 42 4) + 1500))) dl e (rcM (z_ui (z_ui (z_ui (z_ui x 18 4 ((x.1 18 4) + 1500)) 26 4 ((x.1 26 4) + (-1500))) 34 4 ((x.1 34 4) + (-1500))) 42 4 ((x.1 42 4) + 1500)))) (eMB (nM1001 m) ds true dl e) := by
  refine rg_ends (rc_nob1001 R) ?_ ?_ ?_ hdl4 he ds false
  · unfold nM1001; simp (disch := omega) only [ui_s, uj_s, ui_o, ui_k, uj_o, uj_k, ui_j, uj_i, z_zero_o, z_zero_j]; exact hfo
  · unfold nM1001; simp (disch := omega) only [ui_s, uj_s, ui_o, ui_k, uj_o, uj_k, ui_j, uj_i, z_zero_o, z_zero_j]; exact htu
  · unfold nM1001; simp (disch := omega) only [ui_s, uj_s, ui_o, ui_k, uj_o, uj_k, ui_j, uj_i, z_zero_o, z_zero_j]; exact hdl
theorem rg_nob1010 {x m : zM} (R : RCl x m) (hfo : x.1 2 3 = m.1 50 47) (htu : x.1 0 8 = m.1 50 45) {dl e : Nat} (hdl : m.1 50 40 = nI dl) (hdl4 : dl < 4) (he : (dl + 1) % 4 = e) (ds : Bool) : RG (eHB (z_ui (z_ui (z_ui (z_ui x 18 4 ((x.1 18 4) + 1500)) 26 4 ((x.1 26 4) + (-1500))) 34 4 ((x.1 34 4) + 1500)) 42 4 ((x.1 42 4) + (-1500))) ds false (xBk (z_ui (z_ui (z_ui (z_ui x 18 4 ((x.1 18 4) + 1500)) 26 4 ((x.1 26 4) + (-1500))) 34 4 ((x.1 34 4) + 1500)) 42 4 ((x.1 42 4) + (-1500)))) dl e (rcM (z_ui (z_ui (z_ui (z_ui x 18 4 ((x.1 18 4) + 1500)) 26 4 ((x.1 26 4) + (-1500))) 34 4 ((x.1 34 4) + 1500)) 42 4 ((x.1 42 4) + (-1500))))) (eMB (nM1010 m) ds true dl e) := by
  refine rg_ends (rc_nob1010 R) ?_ ?_ ?_ hdl4 he ds false
  · unfold nM1010; simp (disch := omega) only [ui_s, uj_s, ui_o, ui_k, uj_o, uj_k, ui_j, uj_i, z_zero_o, z_zero_j]; exact hfo
  · unfold nM1010; simp (disch := omega) only [ui_s, uj_s, ui_o, ui_k, uj_o, uj_k, ui_j, uj_i, z_zero_o, z_zero_j]; exact htu
  · unfold nM1010; simp (disch := omega) only [ui_s, uj_s, ui_o, ui_k, uj_o, uj_k, ui_j, uj_i, z_zero_o, z_zero_j]; exact hdl
theorem rg_nob1011 {x m : zM} (R : RCl x m) (hfo : x.1 2 3 = m.1 50 47) (htu : x.1 0 8 = m.1 50 45) {dl e : Nat} (hdl : m.1 50 40 = nI dl) (hdl4 : dl < 4) (he : (dl + 1) % 4 = e) (ds : Bool) : RG (eHB (z_ui (z_ui (z_ui (z_ui x 18 4 ((x.1 18 4) + 1000)) 26 4 ((x.1 26 4) + (-3000))) 34 4 ((x.1 34 4) + 1000)) 42 4 ((x.1 42 4) + 1000)) ds false (xBk (z_ui (z_ui (z_ui (z_ui x 18 4 ((x.1 18 4) + 1000)) 26 4 ((x.1 26 4) + (-3000))) 34 4 ((x.1 34 4) + 1000)) 42 4 ((x.1 42 4) + 1000))) dl e (rcM (z_ui (z_ui (z_ui (z_ui x 18 4 ((x.1 18 4) + 1000)) 26 4 ((x.1 26 4) + (-3000))) 34 4 ((x.1 34 4) + 1000)) 42 4 ((x.1 42 4) + 1000)))) (eMB (nM1011 m) ds true dl e) := by
  refine rg_ends (rc_nob1011 R) ?_ ?_ ?_ hdl4 he ds false
  · unfold nM1011; simp (disch := omega) only [ui_s, uj_s, ui_o, ui_k, uj_o, uj_k, ui_j, uj_i, z_zero_o, z_zero_j]; exact hfo
  · unfold nM1011; simp (disch := omega) only [ui_s, uj_s, ui_o, ui_k, uj_o, uj_k, ui_j, uj_i, z_zero_o, z_zero_j]; exact htu
  · unfold nM1011; simp (disch := omega) only [ui_s, uj_s, ui_o, ui_k, uj_o, uj_k, ui_j, uj_i, z_zero_o, z_zero_j]; exact hdl
theorem rg_nob1100 {x m : zM} (R : RCl x m) (hfo : x.1 2 3 = m.1 50 47) (htu : x.1 0 8 = m.1 50 45) {dl e : Nat} (hdl : m.1 50 40 = nI dl) (hdl4 : dl < 4) (he : (dl + 1) % 4 = e) (ds : Bool) : RG (eHB (z_ui (z_ui (z_ui (z_ui x 18 4 ((x.1 18 4) + 1500)) 26 4 ((x.1 26 4) + 1500)) 34 4 ((x.1 34 4) + (-1500))) 42 4 ((x.1 42 4) + (-1500))) ds false (xBk (z_ui (z_ui (z_ui (z_ui x 18 4 ((x.1 18 4) + 1500)) 26 4 ((x.1 26 4) + 1500)) 34 4 ((x.1 34 4) + (-1500))) 42 4 ((x.1 42 4) + (-1500)))) dl e (rcM (z_ui (z_ui (z_ui (z_ui x 18 4 ((x.1 18 4) + 1500)) 26 4 ((x.1 26 4) + 1500)) 34 4 ((x.1 34 4) + (-1500))) 42 4 ((x.1 42 4) + (-1500))))) (eMB (nM1100 m) ds true dl e) := by
  refine rg_ends (rc_nob1100 R) ?_ ?_ ?_ hdl4 he ds false
  · unfold nM1100; simp (disch := omega) only [ui_s, uj_s, ui_o, ui_k, uj_o, uj_k, ui_j, uj_i, z_zero_o, z_zero_j]; exact hfo
  · unfold nM1100; simp (disch := omega) only [ui_s, uj_s, ui_o, ui_k, uj_o, uj_k, ui_j, uj_i, z_zero_o, z_zero_j]; exact htu
  · unfold nM1100; simp (disch := omega) only [ui_s, uj_s, ui_o, ui_k, uj_o, uj_k, ui_j, uj_i, z_zero_o, z_zero_j]; exact hdl
theorem rg_nob1101 {x m : zM} (R : RCl x m) (hfo : x.1 2 3 = m.1 50 47) (htu : x.1 0 8 = m.1 50 45) {dl e : Nat} (hdl : m.1 50 40 = nI dl) (hdl4 : dl < 4) (he : (dl + 1) % 4 = e) (ds : Bool) : RG (eHB (z_ui (z_ui (z_ui (z_ui x 18 4 ((x.1 18 4) + 1000)) 26 4 ((x.1 26 4) + 1000)) 34 4 ((x.1 34 4) + (-3000))) 42 4 ((x.1 42 4) + 1000)) ds false (xBk (z_ui (z_ui (z_ui (z_ui x 18 4 ((x.1 18 4) + 1000)) 26 4 ((x.1 26 4) + 1000)) 34 4 ((x.1 34 4) + (-3000))) 42 4 ((x.1 42 4) + 1000))) dl e (rcM (z_ui (z_ui (z_ui (z_ui x 18 4 ((x.1 18 4) + 1000)) 26 4 ((x.1 26 4) + 1000)) 34 4 ((x.1 34 4) + (-3000))) 42 4 ((x.1 42 4) + 1000)))) (eMB (nM1101 m) ds true dl e) := by
  refine rg_ends (rc_nob1101 R) ?_ ?_ ?_ hdl4 he ds false
  · unfold nM1101; simp (disch := omega) only [ui_s, uj_s, ui_o, ui_k, uj_o, uj_k, ui_j, uj_i, z_zero_o, z_zero_j]; exact hfo
  · unfold nM1101; simp (disch := omega) only [ui_s, uj_s, ui_o, ui_k, uj_o, uj_k, ui_j, uj_i, z_zero_o, z_zero_j]; exact htu
  · unfold nM1101; simp (disch := omega) only [ui_s, uj_s, ui_o, ui_k, uj_o, uj_k, ui_j, uj_i, z_zero_o, z_zero_j]; exact hdl
theorem rg_nob1110 {x m : zM} (R : RCl x m) (hfo : x.1 2 3 = m.1 50 47) (htu : x.1 0 8 = m.1 50 45) {dl e : Nat} (hdl : m.1 50 40 = nI dl) (hdl4 : dl < 4) (he : (dl + 1) % 4 = e) (ds : Bool) : RG (eHB (z_ui (z_ui (z_ui (z_ui x 18 4 ((x.1 18 4) + 1000)) 26 4 ((x.1 26 4) + 1000)) 34 4 ((x.1 34 4) + 1000)) 42 4 ((x.1 42 4) + (-3000))) ds false (xBk (z_ui (z_ui (z_ui (z_ui x 18 4 ((x.1 18 4) + 1000)) 26 4 ((x.1 26 4) + 1000)) 34 4 ((x.1 34 4) + 1000)) 42 4 ((x.1 42 4) + (-3000)))) dl e (rcM (z_ui (z_ui (z_ui (z_ui x 18 4 ((x.1 18 4) + 1000)) 26 4 ((x.1 26 4) + 1000)) 34 4 ((x.1 34 4) + 1000)) 42 4 ((x.1 42 4) + (-3000))))) (eMB (nM1110 m) ds true dl e) := by
  refine rg_ends (rc_nob1110 R) ?_ ?_ ?_ hdl4 he ds false
  · unfold nM1110; simp (disch := omega) only [ui_s, uj_s, ui_o, ui_k, uj_o, uj_k, ui_j, uj_i, z_zero_o, z_zero_j]; exact hfo
  · unfold nM1110; simp (disch := omega) only [ui_s, uj_s, ui_o, ui_k, uj_o, uj_k, ui_j, uj_i, z_zero_o, z_zero_j]; exact htu
  · unfold nM1110; simp (disch := omega) only [ui_s, uj_s, ui_o, ui_k, uj_o, uj_k, ui_j, uj_i, z_zero_o, z_zero_j]; exact hdl
theorem rg_nob1111 {x m : zM} (R : RCl x m) (hfo : x.1 2 3 = m.1 50 47) (htu : x.1 0 8 = m.1 50 45) {dl e : Nat} (hdl : m.1 50 40 = nI dl) (hdl4 : dl < 4) (he : (dl + 1) % 4 = e) (ds : Bool) : RG (eHB (x) ds false (xBk (x)) dl e (rcM (x))) (eMB (nM1111 m) ds true dl e) := by
  refine rg_ends (rc_nob1111 R) ?_ ?_ ?_ hdl4 he ds false
  · unfold nM1111; simp (disch := omega) only [ui_s, uj_s, ui_o, ui_k, uj_o, uj_k, ui_j, uj_i, z_zero_o, z_zero_j]; exact hfo
  · unfold nM1111; simp (disch := omega) only [ui_s, uj_s, ui_o, ui_k, uj_o, uj_k, ui_j, uj_i, z_zero_o, z_zero_j]; exact htu
  · unfold nM1111; simp (disch := omega) only [ui_s, uj_s, ui_o, ui_k, uj_o, uj_k, ui_j, uj_i, z_zero_o, z_zero_j]; exact hdl
/-! the reference's WAITS as its contracts ask for them -/
set_option maxRecDepth 8000
theorem WMs_se {μ M : zM} (h : SE μ M) {s : Nat} {w : Nat → Nat} {q : Nat} : WMs M s w q = WMs μ s w q := by
  funext c
  unfold WMs
  rw [show (fun i => M.1 62 (4 * s + i)) = (fun i => μ.1 62 (4 * s + i)) from funext fun i => h 62 _ (by omega), show (fun i => M.1 63 (4 * s + i)) = (fun i => μ.1 63 (4 * s + i)) from funext fun i => h 63 _ (by omega)]
theorem mw_wait {μ : zM} {s : Nat} {w : Nat → Nat} {q : Nat} {sL lL : Nat → Nat} (H : HM μ s w q sL lL) (hs : s < 4) : ∀ M, SE μ M → a_H M → ∀ d, 699 ≤ d → z_C d mi_X7_waitsAt [.ref 50, .int (nI s)] M (fun r W => r = some (.long (WV μ s w q)) ∧ SMj M W ∧ a_H W) := fun M hM hA d hd => by
  have z := gm_waitsAt d (by omega) M hA s hs w q sL lL (H.se hM)
  rw [WMs_se hM] at z
  exact z
theorem HM.m {m m' : zM} {s : Nat} {w : Nat → Nat} {q : Nat} {sL lL : Nat → Nat} (h : HM m s w q sL lL) (e : EqM m m') : HM m' s w q sL lL := h.se (fun r k g => (e r k (Or.inl (by omega))).1)
theorem WV_m {m m' : zM} (e : EqM m m') {s : Nat} {w : Nat → Nat} {q : Nat} : WV m' s w q = WV m s w q := by
  unfold WV
  rw [WMs_se (μ := m) (M := m') (fun r k g => (e r k (Or.inl (by omega))).1)]
theorem HF.m {x m m' : zM} {s : Nat} {w aw : Nat → Nat} {q : Nat} {sL lL : Nat → Nat} (H : HF x m s w aw q sL lL) (e : EqM m m') : HF x m' s w aw q sL lL := by
  obtain ⟨h1, h2, h3, h4, h5, h6, h7, h8⟩ := H
  refine ⟨h1.m e, h2, h3, h4, h5, h6, h7, fun k hk => ?_⟩
  rw [h8 k hk, show (fun i => m'.1 62 (4 * s + i)) = (fun i => m.1 62 (4 * s + i)) from funext fun i => (e 62 _ (Or.inl ⟨by omega, by omega⟩)).1, show (fun i => m'.1 63 (4 * s + i)) = (fun i => m.1 63 (4 * s + i)) from funext fun i => (e 63 _ (Or.inl ⟨by omega, by omega⟩)).1]
/-! who may claim a SET: alike -/
set_option maxRecDepth 8000
abbrev xMC (μ : zM) (s : Nat) : Bool := (decide ((μ.1 0 7) = 2)) && ((sI (nI s)) && (!(decide ((nI s) = (μ.1 0 8))) && ((decide ((μ.1 (18 + 8 * s) 5) = 0)) && (!(decide ((xLf μ) ≤ 0)) && (!(xAny μ))))))
abbrev mMC (μ : zM) (s : Nat) : Bool := (decide ((μ.1 50 44) = 2)) && (!(anS μ) && (!(decide (((122 - (μ.1 50 47)) - (μ.1 50 46)) ≤ 0)) && (!(decide ((nI s) = (μ.1 50 45))) && (decide ((μ.1 67 s) = 0)))))
theorem any_eq {x m : zM} (R : RCl x m) : xAny x = anS m := by
  have e0 : x.1 18 9 = m.1 71 0 := R.sy 0 (by decide)
  have e1 : x.1 26 9 = m.1 71 1 := R.sy 1 (by decide)
  have e2 : x.1 34 9 = m.1 71 2 := R.sy 2 (by decide)
  have e3 : x.1 42 9 = m.1 71 3 := R.sy 3 (by decide)
  unfold xAny anS
  rw [e0, e1, e2, e3]
theorem mc_eq {x m : zM} (h : RG x m) {s : Nat} (hs : s < 4) : xMC x s = mMC m s := by
  have R := h.1
  obtain ⟨e7, e8, e3⟩ := rg_ph h
  unfold xMC mMC
  rw [e7, e8, sI_n hs, R.be s hs, any_eq R, Bool.true_and]
  rcases h.2 with ⟨p1, p2, -, -, -⟩ | ⟨p, t, c, P⟩
  · rw [p2]; rfl
  · unfold xLf
    rw [R.sd, P.is, e3, R.nx, show decide ((1 : Int32) = 0) = false from by decide, cond_false]
    generalize decide (m.1 50 44 = 2) = b1
    generalize anS m = b2
    generalize decide (122 - m.1 50 47 - m.1 50 46 ≤ 0) = b3
    generalize decide (nI s = m.1 50 45) = b4
    generalize decide (m.1 67 s = 0) = b5
    cases b1 <;> cases b2 <;> cases b3 <;> cases b4 <;> cases b5 <;> rfl
/-! a tile stays to be discarded: alike (three) -/
set_option maxRecDepth 8000
theorem hd_one : ∀ c, c < 34 → ∀ k, k < 34 → xHd ((1 : Int64) <<< ((nI c).toInt64 &&& 63)) (nI k) = decide (k = c) := by decide +kernel
theorem hd_zero : ∀ k, k < 34 → xHd 0 (nI k) = false := by decide +kernel
theorem nI_dec {a b : Nat} (ha : a < 34) (hb : b < 34) : decide (nI a = nI b) = decide (a = b) := by
  by_cases e : a = b
  · rw [decide_eq_true e, decide_eq_true (by rw [e])]
  · rw [decide_eq_false e, decide_eq_false (fun z => e ((nI_eq (by omega) (by omega)).mp z))]
theorem ko_three {x m : zM} (R : RCl x m) {s c : Nat} (hs : s < 4) (hc : c < 34) : kA (koF x s 0 ((1 : Int64) <<< ((nI c).toInt64 &&& 63))) 34 = kA (cdF (z_giv (z_ui (z_ui (z_ui m 50 0 0) 50 50 (nI c)) 50 51 (-1)) s c (-2)) s) 34 := by
  refine kA_cg (fun k hk => ?_)
  have e50 : (z_giv (z_ui (z_ui (z_ui m 50 0 0) 50 50 (nI c)) 50 51 (-1)) s c (-2)).1 50 50 = nI c := by rw [giv_o (by decide), ui_k (by decide), ui_s]
  have e51 : (z_giv (z_ui (z_ui (z_ui m 50 0 0) 50 50 (nI c)) 50 51 (-1)) s c (-2)).1 50 51 = -1 := by rw [giv_o (by decide), ui_s]
  unfold koF cdF
  rw [hd_zero k hk, hd_one c hc k hk, show nB false = 0 from rfl, Int32.sub_zero, R.hd s k hs hk, e50, e51, nI_dec hk hc, nI_m1n hk]
  by_cases e : k = c
  · rw [decide_eq_true e]; simp
  · rw [decide_eq_false e, giv_60, if_neg (by omega), ui_o (by decide), ui_o (by decide), ui_o (by decide)]; simp
/-! further refused calls: three, four, run -/
set_option maxRecDepth 8000
theorem gx_threeF (d : Nat) (hd : 4 ≤ d) (μ : zM) (s c : Nat) (hs4 : s < 4) (hc15 : μ.1 0 15 = nI c) (hmc : ∀ d, 3 ≤ d → z_C d mi_X6_mayClaimSet [.ref 0, .int (nI s)] μ (zR μ (.int 1))) (hf : decide (2 ≤ fr μ (20 + 8 * s) (nI c)) = false) : z_C d mi_X6_three [.ref 0, .int (nI s)] μ (fun r μ' => r = some (.int 0) ∧ μ' = μ) := by
  refine z_C_in (by decide) (by omega) (fun d' Z ed hc hr => ?_)
  have hH : zH mi_X6_three zc_X6_three 79 6 4 := ⟨by rfl, by rfl, by rfl, by rfl⟩
  refine z_rcs hc hH 2 (pc' := 2) (lv' := [(0, .ref 0), (1, .int (nI s))]) (st' := [.int (nI s), .ref 0]) (μ' := μ) (by rfl) ?_
  refine zq_call hc (by rfl) (hmc d' (by omega)) (by decide +kernel) (fun r9 μ9 hq => ?_)
  obtain ⟨hμ9, rfl⟩ := hq
  rw [hμ9]
  clear hμ9 μ9
  show Z 0 5 [(0, .ref 0), (1, .int (nI s))] [.int 1] μ
  refine z_rcs hc hH 3 (pc' := 10) (lv' := [(0, .ref 0), (1, .int (nI s))]) (st' := [.int (nI s), .ref 0]) (μ' := μ) (by rfl) ?_
  refine zq_call hc (by rfl) (gc_at4 d' (by omega) μ s hs4) (by decide +kernel) (fun r9 μ9 hq => ?_)
  obtain ⟨hμ9, rfl⟩ := hq
  rw [hμ9]
  clear hμ9 μ9
  show Z 0 13 [(0, .ref 0), (1, .int (nI s))] [.ref (18 + 8 * s)] μ
  refine zq_gfr hc hH (by rfl) (ci := 1) (f := 0) (q := 19 + 8 * s) (by rfl) (sj (P := fun i => okf 79 1 0 (18 + 8 * i)) hs4 (by decide +kernel)) (by rfl) (sj (P := fun i => Nat.beq (z_gr (18 + 8 * i) 0) (19 + 8 * i)) hs4 (by decide +kernel)) ?_
  refine z_rcs hc hH 1 (pc' := 17) (lv' := [(0, .ref 0), (1, .int (nI s))]) (st' := [.ref 0, .ref (19 + 8 * s)]) (μ' := μ) (by rfl) ?_
  refine zq_gfi hc hH (by rfl) (ci := 5) (f := 15) (by rfl) (by decide +kernel) (by rfl) ?_
  rw [hc15]
  refine zq_call hc (z_clv (by rfl) (by rfl) (by rfl) (by rfl) (by rfl) (by rfl) (sj (P := fun i => okr 79 2 (19 + 8 * i)) hs4 (by decide +kernel)) (by rfl) (by rfl)) (gc_free d' (by omega) μ s hs4 (nI c)) (by decide +kernel) (fun r9 μ9 hq => ?_)
  obtain ⟨hμ9, rfl⟩ := hq
  rw [hμ9]
  clear hμ9 μ9
  show Z 0 23 [(0, .ref 0), (1, .int (nI s))] [.int (fr μ (20 + 8 * s) (nI c))] μ
  refine z_rcs hc hH 1 (pc' := 24) (lv' := [(0, .ref 0), (1, .int (nI s))]) (st' := [.int 2, .int (fr μ (20 + 8 * s) (nI c))]) (μ' := μ) (by rfl) ?_
  refine zq_ic hc hH (by rfl) (tg := 29) (by rfl) (fun h1 => ?_) (fun h1 => ?_)
  · have h1 : (decide (2 ≤ (fr μ (20 + 8 * s) (nI c)))) = true := decide_eq_true (cm_ge.mp h1)
    exact absurd (Eq.trans (Eq.symm (hf)) h1) (by decide)
  · have h1 : (decide (2 ≤ (fr μ (20 + 8 * s) (nI c)))) = false := decide_eq_false (cn_ge.mp h1)
    refine z_rcs hc hH 1 (pc' := 28) (lv' := [(0, .ref 0), (1, .int (nI s))]) (st' := [.int 0]) (μ' := μ) (by rfl) ?_
    exact hr 0 28 _ _ _ (some (.int 0)) (by decide +kernel) (by rfl) (⟨rfl, rfl⟩)
theorem gx_fourF (d : Nat) (hd : 4 ≤ d) (μ : zM) (s c : Nat) (hs4 : s < 4) (hc15 : μ.1 0 15 = nI c) (hmc : ∀ d, 3 ≤ d → z_C d mi_X6_mayClaimSet [.ref 0, .int (nI s)] μ (zR μ (.int 1))) (hf : decide (fr μ (20 + 8 * s) (nI c) < 3) = true) : z_C d mi_X6_four [.ref 0, .int (nI s)] μ (fun r μ' => r = some (.int 0) ∧ μ' = μ) := by
  refine z_C_in (by decide) (by omega) (fun d' Z ed hc hr => ?_)
  have hH : zH mi_X6_four zc_X6_four 79 6 2 := ⟨by rfl, by rfl, by rfl, by rfl⟩
  refine z_rcs hc hH 2 (pc' := 2) (lv' := [(0, .ref 0), (1, .int (nI s))]) (st' := [.int (nI s), .ref 0]) (μ' := μ) (by rfl) ?_
  refine zq_call hc (by rfl) (hmc d' (by omega)) (by decide +kernel) (fun r9 μ9 hq => ?_)
  obtain ⟨hμ9, rfl⟩ := hq
  rw [hμ9]
  clear hμ9 μ9
  show Z 0 5 [(0, .ref 0), (1, .int (nI s))] [.int 1] μ
  refine z_rcs hc hH 3 (pc' := 10) (lv' := [(0, .ref 0), (1, .int (nI s))]) (st' := [.int (nI s), .ref 0]) (μ' := μ) (by rfl) ?_
  refine zq_call hc (by rfl) (gc_at4 d' (by omega) μ s hs4) (by decide +kernel) (fun r9 μ9 hq => ?_)
  obtain ⟨hμ9, rfl⟩ := hq
  rw [hμ9]
  clear hμ9 μ9
  show Z 0 13 [(0, .ref 0), (1, .int (nI s))] [.ref (18 + 8 * s)] μ
  refine zq_gfr hc hH (by rfl) (ci := 1) (f := 0) (q := 19 + 8 * s) (by rfl) (sj (P := fun i => okf 79 1 0 (18 + 8 * i)) hs4 (by decide +kernel)) (by rfl) (sj (P := fun i => Nat.beq (z_gr (18 + 8 * i) 0) (19 + 8 * i)) hs4 (by decide +kernel)) ?_
  refine z_rcs hc hH 1 (pc' := 17) (lv' := [(0, .ref 0), (1, .int (nI s))]) (st' := [.ref 0, .ref (19 + 8 * s)]) (μ' := μ) (by rfl) ?_
  refine zq_gfi hc hH (by rfl) (ci := 5) (f := 15) (by rfl) (by decide +kernel) (by rfl) ?_
  rw [hc15]
  refine zq_call hc (z_clv (by rfl) (by rfl) (by rfl) (by rfl) (by rfl) (by rfl) (sj (P := fun i => okr 79 2 (19 + 8 * i)) hs4 (by decide +kernel)) (by rfl) (by rfl)) (gc_free d' (by omega) μ s hs4 (nI c)) (by decide +kernel) (fun r9 μ9 hq => ?_)
  obtain ⟨hμ9, rfl⟩ := hq
  rw [hμ9]
  clear hμ9 μ9
  show Z 0 23 [(0, .ref 0), (1, .int (nI s))] [.int (fr μ (20 + 8 * s) (nI c))] μ
  refine z_rcs hc hH 1 (pc' := 24) (lv' := [(0, .ref 0), (1, .int (nI s))]) (st' := [.int 3, .int (fr μ (20 + 8 * s) (nI c))]) (μ' := μ) (by rfl) ?_
  refine zq_ic hc hH (by rfl) (tg := 38) (by rfl) (fun h1 => ?_) (fun h1 => ?_)
  · have h1 : (decide ((fr μ (20 + 8 * s) (nI c)) < 3)) = true := decide_eq_true (cm_lt.mp h1)
    refine z_rcs hc hH 1 (pc' := 39) (lv' := [(0, .ref 0), (1, .int (nI s))]) (st' := [.int 0]) (μ' := μ) (by rfl) ?_
    exact hr 0 39 _ _ _ (some (.int 0)) (by decide +kernel) (by rfl) (⟨rfl, rfl⟩)
  · have h1 : (decide ((fr μ (20 + 8 * s) (nI c)) < 3)) = false := decide_eq_false (cn_lt.mp h1)
    exact absurd (Eq.trans (Eq.symm (hf)) h1) (by decide)
theorem gx_runS (d : Nat) (hd : 4 ≤ d) (μ : zM) (s : Nat) (hs4 : s < 4) (x : Int32) (t u1 : Nat) (ht4 : t < 4) (ht : μ.1 0 8 = nI t) (hu1 : (t + 1) % 4 = u1) (hu14 : u1 < 4) (hmc : ∀ d, 3 ≤ d → z_C d mi_X6_mayClaimSet [.ref 0, .int (nI s)] μ (zR μ (.int 1))) (hsu : decide (nI s = nI u1) = false) : z_C d mi_X6_run [.ref 0, .int (nI s), .int x] μ (fun r μ' => r = some (.int 0) ∧ μ' = μ) := by
  refine z_C_in (by decide) (by omega) (fun d' Z ed hc hr => ?_)
  have hH : zH mi_X6_run zc_X6_run 79 6 6 := ⟨by rfl, by rfl, by rfl, by rfl⟩
  refine z_rcs hc hH 2 (pc' := 2) (lv' := [(0, .ref 0), (1, .int (nI s)), (2, .int x)]) (st' := [.int (nI s), .ref 0]) (μ' := μ) (by rfl) ?_
  refine zq_call hc (by rfl) (hmc d' (by omega)) (by decide +kernel) (fun r9 μ9 hq => ?_)
  obtain ⟨hμ9, rfl⟩ := hq
  rw [hμ9]
  clear hμ9 μ9
  show Z 0 5 [(0, .ref 0), (1, .int (nI s)), (2, .int x)] [.int 1] μ
  refine z_rcs hc hH 3 (pc' := 10) (lv' := [(0, .ref 0), (1, .int (nI s)), (2, .int x)]) (st' := [.ref 0, .int (nI s)]) (μ' := μ) (by rfl) ?_
  refine zq_gfi hc hH (by rfl) (ci := 5) (f := 8) (by rfl) (by decide +kernel) (by rfl) ?_
  rw [ht]
  refine z_rcs hc hH 2 (pc' := 15) (lv' := [(0, .ref 0), (1, .int (nI s)), (2, .int x)]) (st' := [.int ((nI t) + 1), .int (nI s)]) (μ' := μ) (by rfl) ?_
  rw [nI_s1]
  refine z_rcs hc hH 2 (pc' := 17) (lv' := [(0, .ref 0), (1, .int (nI s)), (2, .int x)]) (st' := [.int ((nI (t + 1)) &&& 3), .int (nI s)]) (μ' := μ) (by rfl) ?_
  rw [show nI (t + 1) &&& 3 = nI u1 from by rw [and3 (by omega), hu1]]
  refine zq_ic hc hH (by rfl) (tg := 27) (by rfl) (fun h1 => ?_) (fun h1 => ?_)
  · have h1 : (decide ((nI s) = (nI u1))) = false := decide_eq_false (cm_ne.mp h1)
    refine z_rcs hc hH 1 (pc' := 28) (lv' := [(0, .ref 0), (1, .int (nI s)), (2, .int x)]) (st' := [.int 0]) (μ' := μ) (by rfl) ?_
    exact hr 0 28 _ _ _ (some (.int 0)) (by decide +kernel) (by rfl) (⟨rfl, rfl⟩)
  · have h1 : (decide ((nI s) = (nI u1))) = true := decide_eq_true (cn_ne.mp h1)
    exact absurd (Eq.trans (Eq.symm (hsu)) h1) (by decide)
theorem gx_runR (d : Nat) (hd : 4 ≤ d) (μ : zM) (s : Nat) (hs4 : s < 4) (x : Int32) (t u1 : Nat) (ht4 : t < 4) (ht : μ.1 0 8 = nI t) (hu1 : (t + 1) % 4 = u1) (hu14 : u1 < 4) (hmc : ∀ d, 3 ≤ d → z_C d mi_X6_mayClaimSet [.ref 0, .int (nI s)] μ (zR μ (.int 1))) (hsu : decide (nI s = nI u1) = true) (hsr : ∀ d, 1 ≤ d → z_C d mi_X6_startsRun [.int x] μ (zR μ (.int 0))) : z_C d mi_X6_run [.ref 0, .int (nI s), .int x] μ (fun r μ' => r = some (.int 0) ∧ μ' = μ) := by
  refine z_C_in (by decide) (by omega) (fun d' Z ed hc hr => ?_)
  have hH : zH mi_X6_run zc_X6_run 79 6 6 := ⟨by rfl, by rfl, by rfl, by rfl⟩
  refine z_rcs hc hH 2 (pc' := 2) (lv' := [(0, .ref 0), (1, .int (nI s)), (2, .int x)]) (st' := [.int (nI s), .ref 0]) (μ' := μ) (by rfl) ?_
  refine zq_call hc (by rfl) (hmc d' (by omega)) (by decide +kernel) (fun r9 μ9 hq => ?_)
  obtain ⟨hμ9, rfl⟩ := hq
  rw [hμ9]
  clear hμ9 μ9
  show Z 0 5 [(0, .ref 0), (1, .int (nI s)), (2, .int x)] [.int 1] μ
  refine z_rcs hc hH 3 (pc' := 10) (lv' := [(0, .ref 0), (1, .int (nI s)), (2, .int x)]) (st' := [.ref 0, .int (nI s)]) (μ' := μ) (by rfl) ?_
  refine zq_gfi hc hH (by rfl) (ci := 5) (f := 8) (by rfl) (by decide +kernel) (by rfl) ?_
  rw [ht]
  refine z_rcs hc hH 2 (pc' := 15) (lv' := [(0, .ref 0), (1, .int (nI s)), (2, .int x)]) (st' := [.int ((nI t) + 1), .int (nI s)]) (μ' := μ) (by rfl) ?_
  rw [nI_s1]
  refine z_rcs hc hH 2 (pc' := 17) (lv' := [(0, .ref 0), (1, .int (nI s)), (2, .int x)]) (st' := [.int ((nI (t + 1)) &&& 3), .int (nI s)]) (μ' := μ) (by rfl) ?_
  rw [show nI (t + 1) &&& 3 = nI u1 from by rw [and3 (by omega), hu1]]
  refine zq_ic hc hH (by rfl) (tg := 27) (by rfl) (fun h1 => ?_) (fun h1 => ?_)
  · have h1 : (decide ((nI s) = (nI u1))) = false := decide_eq_false (cm_ne.mp h1)
    exact absurd (Eq.trans (Eq.symm (hsu)) h1) (by decide)
  · have h1 : (decide ((nI s) = (nI u1))) = true := decide_eq_true (cn_ne.mp h1)
    refine z_rcs hc hH 1 (pc' := 21) (lv' := [(0, .ref 0), (1, .int (nI s)), (2, .int x)]) (st' := [.int x]) (μ' := μ) (by rfl) ?_
    refine zq_call hc (by rfl) (hsr d' (by omega)) (by decide +kernel) (fun r9 μ9 hq => ?_)
    obtain ⟨hμ9, rfl⟩ := hq
    rw [hμ9]
    clear hμ9 μ9
    show Z 0 24 [(0, .ref 0), (1, .int (nI s)), (2, .int x)] [.int 0] μ
    refine z_rcs hc hH 2 (pc' := 28) (lv' := [(0, .ref 0), (1, .int (nI s)), (2, .int x)]) (st' := [.int 0]) (μ' := μ) (by rfl) ?_
    exact hr 0 28 _ _ _ (some (.int 0)) (by decide +kernel) (by rfl) (⟨rfl, rfl⟩)
theorem gx_runL (d : Nat) (hd : 4 ≤ d) (μ : zM) (s l c : Nat) (hs4 : s < 4) (hl : l + 2 ≤ 33) (hc15 : μ.1 0 15 = nI c) (t u1 : Nat) (ht4 : t < 4) (ht : μ.1 0 8 = nI t) (hu1 : (t + 1) % 4 = u1) (hu14 : u1 < 4) (hmc : ∀ d, 3 ≤ d → z_C d mi_X6_mayClaimSet [.ref 0, .int (nI s)] μ (zR μ (.int 1))) (hsu : decide (nI s = nI u1) = true) (hsr : ∀ d, 1 ≤ d → z_C d mi_X6_startsRun [.int (nI l)] μ (zR μ (.int 1))) (hl1 : decide (nI c < nI l) = true) : z_C d mi_X6_run [.ref 0, .int (nI s), .int (nI l)] μ (fun r μ' => r = some (.int 0) ∧ μ' = μ) := by
  refine z_C_in (by decide) (by omega) (fun d' Z ed hc hr => ?_)
  have hH : zH mi_X6_run zc_X6_run 79 6 6 := ⟨by rfl, by rfl, by rfl, by rfl⟩
  refine z_rcs hc hH 2 (pc' := 2) (lv' := [(0, .ref 0), (1, .int (nI s)), (2, .int (nI l))]) (st' := [.int (nI s), .ref 0]) (μ' := μ) (by rfl) ?_
  refine zq_call hc (by rfl) (hmc d' (by omega)) (by decide +kernel) (fun r9 μ9 hq => ?_)
  obtain ⟨hμ9, rfl⟩ := hq
  rw [hμ9]
  clear hμ9 μ9
  show Z 0 5 [(0, .ref 0), (1, .int (nI s)), (2, .int (nI l))] [.int 1] μ
  refine z_rcs hc hH 3 (pc' := 10) (lv' := [(0, .ref 0), (1, .int (nI s)), (2, .int (nI l))]) (st' := [.ref 0, .int (nI s)]) (μ' := μ) (by rfl) ?_
  refine zq_gfi hc hH (by rfl) (ci := 5) (f := 8) (by rfl) (by decide +kernel) (by rfl) ?_
  rw [ht]
  refine z_rcs hc hH 2 (pc' := 15) (lv' := [(0, .ref 0), (1, .int (nI s)), (2, .int (nI l))]) (st' := [.int ((nI t) + 1), .int (nI s)]) (μ' := μ) (by rfl) ?_
  rw [nI_s1]
  refine z_rcs hc hH 2 (pc' := 17) (lv' := [(0, .ref 0), (1, .int (nI s)), (2, .int (nI l))]) (st' := [.int ((nI (t + 1)) &&& 3), .int (nI s)]) (μ' := μ) (by rfl) ?_
  rw [show nI (t + 1) &&& 3 = nI u1 from by rw [and3 (by omega), hu1]]
  refine zq_ic hc hH (by rfl) (tg := 27) (by rfl) (fun h1 => ?_) (fun h1 => ?_)
  · have h1 : (decide ((nI s) = (nI u1))) = false := decide_eq_false (cm_ne.mp h1)
    exact absurd (Eq.trans (Eq.symm (hsu)) h1) (by decide)
  · have h1 : (decide ((nI s) = (nI u1))) = true := decide_eq_true (cn_ne.mp h1)
    refine z_rcs hc hH 1 (pc' := 21) (lv' := [(0, .ref 0), (1, .int (nI s)), (2, .int (nI l))]) (st' := [.int (nI l)]) (μ' := μ) (by rfl) ?_
    refine zq_call hc (by rfl) (hsr d' (by omega)) (by decide +kernel) (fun r9 μ9 hq => ?_)
    obtain ⟨hμ9, rfl⟩ := hq
    rw [hμ9]
    clear hμ9 μ9
    show Z 0 24 [(0, .ref 0), (1, .int (nI s)), (2, .int (nI l))] [.int 1] μ
    refine z_rcs hc hH 2 (pc' := 30) (lv' := [(0, .ref 0), (1, .int (nI s)), (2, .int (nI l))]) (st' := [.ref 0]) (μ' := μ) (by rfl) ?_
    refine zq_gfi hc hH (by rfl) (ci := 5) (f := 15) (by rfl) (by decide +kernel) (by rfl) ?_
    rw [hc15]
    refine z_rcs hc hH 1 (pc' := 34) (lv' := [(0, .ref 0), (1, .int (nI s)), (2, .int (nI l))]) (st' := [.int (nI l), .int (nI c)]) (μ' := μ) (by rfl) ?_
    refine zq_ic hc hH (by rfl) (tg := 47) (by rfl) (fun h2 => ?_) (fun h2 => ?_)
    · have h2 : (decide ((nI c) < (nI l))) = true := decide_eq_true (cm_lt.mp h2)
      refine z_rcs hc hH 1 (pc' := 48) (lv' := [(0, .ref 0), (1, .int (nI s)), (2, .int (nI l))]) (st' := [.int 0]) (μ' := μ) (by rfl) ?_
      exact hr 0 48 _ _ _ (some (.int 0)) (by decide +kernel) (by rfl) (⟨rfl, rfl⟩)
    · have h2 : (decide ((nI c) < (nI l))) = false := decide_eq_false (cn_lt.mp h2)
      exact absurd (Eq.trans (Eq.symm (hl1)) h2) (by decide)
theorem gx_runG (d : Nat) (hd : 4 ≤ d) (μ : zM) (s l c : Nat) (hs4 : s < 4) (hl : l + 2 ≤ 33) (hc15 : μ.1 0 15 = nI c) (t u1 : Nat) (ht4 : t < 4) (ht : μ.1 0 8 = nI t) (hu1 : (t + 1) % 4 = u1) (hu14 : u1 < 4) (hmc : ∀ d, 3 ≤ d → z_C d mi_X6_mayClaimSet [.ref 0, .int (nI s)] μ (zR μ (.int 1))) (hsu : decide (nI s = nI u1) = true) (hsr : ∀ d, 1 ≤ d → z_C d mi_X6_startsRun [.int (nI l)] μ (zR μ (.int 1))) (hl1 : decide (nI c < nI l) = false) (hl2 : decide (nI c ≤ nI (l + 2)) = false) : z_C d mi_X6_run [.ref 0, .int (nI s), .int (nI l)] μ (fun r μ' => r = some (.int 0) ∧ μ' = μ) := by
  refine z_C_in (by decide) (by omega) (fun d' Z ed hc hr => ?_)
  have hH : zH mi_X6_run zc_X6_run 79 6 6 := ⟨by rfl, by rfl, by rfl, by rfl⟩
  refine z_rcs hc hH 2 (pc' := 2) (lv' := [(0, .ref 0), (1, .int (nI s)), (2, .int (nI l))]) (st' := [.int (nI s), .ref 0]) (μ' := μ) (by rfl) ?_
  refine zq_call hc (by rfl) (hmc d' (by omega)) (by decide +kernel) (fun r9 μ9 hq => ?_)
  obtain ⟨hμ9, rfl⟩ := hq
  rw [hμ9]
  clear hμ9 μ9
  show Z 0 5 [(0, .ref 0), (1, .int (nI s)), (2, .int (nI l))] [.int 1] μ
  refine z_rcs hc hH 3 (pc' := 10) (lv' := [(0, .ref 0), (1, .int (nI s)), (2, .int (nI l))]) (st' := [.ref 0, .int (nI s)]) (μ' := μ) (by rfl) ?_
  refine zq_gfi hc hH (by rfl) (ci := 5) (f := 8) (by rfl) (by decide +kernel) (by rfl) ?_
  rw [ht]
  refine z_rcs hc hH 2 (pc' := 15) (lv' := [(0, .ref 0), (1, .int (nI s)), (2, .int (nI l))]) (st' := [.int ((nI t) + 1), .int (nI s)]) (μ' := μ) (by rfl) ?_
  rw [nI_s1]
  refine z_rcs hc hH 2 (pc' := 17) (lv' := [(0, .ref 0), (1, .int (nI s)), (2, .int (nI l))]) (st' := [.int ((nI (t + 1)) &&& 3), .int (nI s)]) (μ' := μ) (by rfl) ?_
  rw [show nI (t + 1) &&& 3 = nI u1 from by rw [and3 (by omega), hu1]]
  refine zq_ic hc hH (by rfl) (tg := 27) (by rfl) (fun h1 => ?_) (fun h1 => ?_)
  · have h1 : (decide ((nI s) = (nI u1))) = false := decide_eq_false (cm_ne.mp h1)
    exact absurd (Eq.trans (Eq.symm (hsu)) h1) (by decide)
  · have h1 : (decide ((nI s) = (nI u1))) = true := decide_eq_true (cn_ne.mp h1)
    refine z_rcs hc hH 1 (pc' := 21) (lv' := [(0, .ref 0), (1, .int (nI s)), (2, .int (nI l))]) (st' := [.int (nI l)]) (μ' := μ) (by rfl) ?_
    refine zq_call hc (by rfl) (hsr d' (by omega)) (by decide +kernel) (fun r9 μ9 hq => ?_)
    obtain ⟨hμ9, rfl⟩ := hq
    rw [hμ9]
    clear hμ9 μ9
    show Z 0 24 [(0, .ref 0), (1, .int (nI s)), (2, .int (nI l))] [.int 1] μ
    refine z_rcs hc hH 2 (pc' := 30) (lv' := [(0, .ref 0), (1, .int (nI s)), (2, .int (nI l))]) (st' := [.ref 0]) (μ' := μ) (by rfl) ?_
    refine zq_gfi hc hH (by rfl) (ci := 5) (f := 15) (by rfl) (by decide +kernel) (by rfl) ?_
    rw [hc15]
    refine z_rcs hc hH 1 (pc' := 34) (lv' := [(0, .ref 0), (1, .int (nI s)), (2, .int (nI l))]) (st' := [.int (nI l), .int (nI c)]) (μ' := μ) (by rfl) ?_
    refine zq_ic hc hH (by rfl) (tg := 47) (by rfl) (fun h2 => ?_) (fun h2 => ?_)
    · have h2 : (decide ((nI c) < (nI l))) = true := decide_eq_true (cm_lt.mp h2)
      exact absurd (Eq.trans (Eq.symm (hl1)) h2) (by decide)
    · have h2 : (decide ((nI c) < (nI l))) = false := decide_eq_false (cn_lt.mp h2)
      refine z_rcs hc hH 1 (pc' := 38) (lv' := [(0, .ref 0), (1, .int (nI s)), (2, .int (nI l))]) (st' := [.ref 0]) (μ' := μ) (by rfl) ?_
      refine zq_gfi hc hH (by rfl) (ci := 5) (f := 15) (by rfl) (by decide +kernel) (by rfl) ?_
      rw [hc15]
      refine z_rcs hc hH 3 (pc' := 44) (lv' := [(0, .ref 0), (1, .int (nI s)), (2, .int (nI l))]) (st' := [.int ((nI l) + 2), .int (nI c)]) (μ' := μ) (by rfl) ?_
      rw [show nI l + 2 = nI (l + 2) from by rw [show (2 : Int32) = nI 2 from rfl, nI_add]]
      refine zq_ic hc hH (by rfl) (tg := 49) (by rfl) (fun h3 => ?_) (fun h3 => ?_)
      · have h3 : (decide ((nI c) ≤ (nI (l + 2)))) = true := decide_eq_true (cm_le.mp h3)
        exact absurd (Eq.trans (Eq.symm (hl2)) h3) (by decide)
      · have h3 : (decide ((nI c) ≤ (nI (l + 2)))) = false := decide_eq_false (cn_le.mp h3)
        refine z_rcs hc hH 1 (pc' := 48) (lv' := [(0, .ref 0), (1, .int (nI s)), (2, .int (nI l))]) (st' := [.int 0]) (μ' := μ) (by rfl) ?_
        exact hr 0 48 _ _ _ (some (.int 0)) (by decide +kernel) (by rfl) (⟨rfl, rfl⟩)
theorem gx_runA0 (d : Nat) (hd : 4 ≤ d) (μ : zM) (s l : Nat) (hs4 : s < 4) (hl : l + 2 ≤ 33) (hc15 : μ.1 0 15 = nI l) (t u1 : Nat) (ht4 : t < 4) (ht : μ.1 0 8 = nI t) (hu1 : (t + 1) % 4 = u1) (hu14 : u1 < 4) (hmc : ∀ d, 3 ≤ d → z_C d mi_X6_mayClaimSet [.ref 0, .int (nI s)] μ (zR μ (.int 1))) (hsu : decide (nI s = nI u1) = true) (hsr : ∀ d, 1 ≤ d → z_C d mi_X6_startsRun [.int (nI l)] μ (zR μ (.int 1))) (hz1 : decide (μ.1 (20 + 8 * s) (l + 1) = 0) = true) : z_C d mi_X6_run [.ref 0, .int (nI s), .int (nI l)] μ (fun r μ' => r = some (.int 0) ∧ μ' = μ) := by
  refine z_C_in (by decide) (by omega) (fun d' Z ed hc hr => ?_)
  have hH : zH mi_X6_run zc_X6_run 79 6 6 := ⟨by rfl, by rfl, by rfl, by rfl⟩
  refine z_rcs hc hH 2 (pc' := 2) (lv' := [(0, .ref 0), (1, .int (nI s)), (2, .int (nI l))]) (st' := [.int (nI s), .ref 0]) (μ' := μ) (by rfl) ?_
  refine zq_call hc (by rfl) (hmc d' (by omega)) (by decide +kernel) (fun r9 μ9 hq => ?_)
  obtain ⟨hμ9, rfl⟩ := hq
  rw [hμ9]
  clear hμ9 μ9
  show Z 0 5 [(0, .ref 0), (1, .int (nI s)), (2, .int (nI l))] [.int 1] μ
  refine z_rcs hc hH 3 (pc' := 10) (lv' := [(0, .ref 0), (1, .int (nI s)), (2, .int (nI l))]) (st' := [.ref 0, .int (nI s)]) (μ' := μ) (by rfl) ?_
  refine zq_gfi hc hH (by rfl) (ci := 5) (f := 8) (by rfl) (by decide +kernel) (by rfl) ?_
  rw [ht]
  refine z_rcs hc hH 2 (pc' := 15) (lv' := [(0, .ref 0), (1, .int (nI s)), (2, .int (nI l))]) (st' := [.int ((nI t) + 1), .int (nI s)]) (μ' := μ) (by rfl) ?_
  rw [nI_s1]
  refine z_rcs hc hH 2 (pc' := 17) (lv' := [(0, .ref 0), (1, .int (nI s)), (2, .int (nI l))]) (st' := [.int ((nI (t + 1)) &&& 3), .int (nI s)]) (μ' := μ) (by rfl) ?_
  rw [show nI (t + 1) &&& 3 = nI u1 from by rw [and3 (by omega), hu1]]
  refine zq_ic hc hH (by rfl) (tg := 27) (by rfl) (fun h1 => ?_) (fun h1 => ?_)
  · have h1 : (decide ((nI s) = (nI u1))) = false := decide_eq_false (cm_ne.mp h1)
    exact absurd (Eq.trans (Eq.symm (hsu)) h1) (by decide)
  · have h1 : (decide ((nI s) = (nI u1))) = true := decide_eq_true (cn_ne.mp h1)
    refine z_rcs hc hH 1 (pc' := 21) (lv' := [(0, .ref 0), (1, .int (nI s)), (2, .int (nI l))]) (st' := [.int (nI l)]) (μ' := μ) (by rfl) ?_
    refine zq_call hc (by rfl) (hsr d' (by omega)) (by decide +kernel) (fun r9 μ9 hq => ?_)
    obtain ⟨hμ9, rfl⟩ := hq
    rw [hμ9]
    clear hμ9 μ9
    show Z 0 24 [(0, .ref 0), (1, .int (nI s)), (2, .int (nI l))] [.int 1] μ
    refine z_rcs hc hH 2 (pc' := 30) (lv' := [(0, .ref 0), (1, .int (nI s)), (2, .int (nI l))]) (st' := [.ref 0]) (μ' := μ) (by rfl) ?_
    refine zq_gfi hc hH (by rfl) (ci := 5) (f := 15) (by rfl) (by decide +kernel) (by rfl) ?_
    rw [hc15]
    refine z_rcs hc hH 1 (pc' := 34) (lv' := [(0, .ref 0), (1, .int (nI s)), (2, .int (nI l))]) (st' := [.int (nI l), .int (nI l)]) (μ' := μ) (by rfl) ?_
    refine zq_ic hc hH (by rfl) (tg := 47) (by rfl) (fun h2 => ?_) (fun h2 => ?_)
    · have h2 : (decide ((nI l) < (nI l))) = true := decide_eq_true (cm_lt.mp h2)
      exact absurd (Eq.trans (Eq.symm (kn_nlg (by omega) (by omega) (by omega))) h2) (by decide)
    · have h2 : (decide ((nI l) < (nI l))) = false := decide_eq_false (cn_lt.mp h2)
      refine z_rcs hc hH 1 (pc' := 38) (lv' := [(0, .ref 0), (1, .int (nI s)), (2, .int (nI l))]) (st' := [.ref 0]) (μ' := μ) (by rfl) ?_
      refine zq_gfi hc hH (by rfl) (ci := 5) (f := 15) (by rfl) (by decide +kernel) (by rfl) ?_
      rw [hc15]
      refine z_rcs hc hH 3 (pc' := 44) (lv' := [(0, .ref 0), (1, .int (nI s)), (2, .int (nI l))]) (st' := [.int ((nI l) + 2), .int (nI l)]) (μ' := μ) (by rfl) ?_
      rw [show nI l + 2 = nI (l + 2) from by rw [show (2 : Int32) = nI 2 from rfl, nI_add]]
      refine zq_ic hc hH (by rfl) (tg := 49) (by rfl) (fun h3 => ?_) (fun h3 => ?_)
      · have h3 : (decide ((nI l) ≤ (nI (l + 2)))) = true := decide_eq_true (cm_le.mp h3)
        refine z_rcs hc hH 2 (pc' := 51) (lv' := [(0, .ref 0), (1, .int (nI s)), (2, .int (nI l))]) (st' := [.int (nI s), .ref 0]) (μ' := μ) (by rfl) ?_
        refine zq_call hc (by rfl) (gc_at4 d' (by omega) μ s hs4) (by decide +kernel) (fun r9 μ9 hq => ?_)
        obtain ⟨hμ9, rfl⟩ := hq
        rw [hμ9]
        clear hμ9 μ9
        show Z 0 54 [(0, .ref 0), (1, .int (nI s)), (2, .int (nI l))] [.ref (18 + 8 * s)] μ
        refine zq_gfr hc hH (by rfl) (ci := 1) (f := 0) (q := 19 + 8 * s) (by rfl) (sj (P := fun i => okf 79 1 0 (18 + 8 * i)) hs4 (by decide +kernel)) (by rfl) (sj (P := fun i => Nat.beq (z_gr (18 + 8 * i) 0) (19 + 8 * i)) hs4 (by decide +kernel)) ?_
        refine zq_gfr hc hH (by rfl) (ci := 2) (f := 0) (q := 20 + 8 * s) (by rfl) (sj (P := fun i => okf 79 2 0 (19 + 8 * i)) hs4 (by decide +kernel)) (by rfl) (sj (P := fun i => Nat.beq (z_gr (19 + 8 * i) 0) (20 + 8 * i)) hs4 (by decide +kernel)) ?_
        refine z_rcs hc hH 7 (pc' := 69) (lv' := [(4, .int (nI l)), (3, .ref (20 + 8 * s)), (0, .ref 0), (1, .int (nI s)), (2, .int (nI l))]) (st' := [.int ((nI l) + 2), .int (nI l)]) (μ' := μ) (by rfl) ?_
        rw [show nI l + 2 = nI (l + 2) from by rw [show (2 : Int32) = nI 2 from rfl, nI_add]]
        refine zq_ic hc hH (by rfl) (tg := 96) (by rfl) (fun h4 => ?_) (fun h4 => ?_)
        · have h4 : (decide ((nI (l + 2)) < (nI l))) = true := decide_eq_true (cm_gt.mp h4)
          exact absurd (Eq.trans (Eq.symm (kn_nlg (by omega) (by omega) (by omega))) h4) (by decide)
        · have h4 : (decide ((nI (l + 2)) < (nI l))) = false := decide_eq_false (cn_gt.mp h4)
          refine z_rcs hc hH 2 (pc' := 75) (lv' := [(4, .int (nI l)), (3, .ref (20 + 8 * s)), (0, .ref 0), (1, .int (nI s)), (2, .int (nI l))]) (st' := [.ref 0, .int (nI l)]) (μ' := μ) (by rfl) ?_
          refine zq_gfi hc hH (by rfl) (ci := 5) (f := 15) (by rfl) (by decide +kernel) (by rfl) ?_
          rw [hc15]
          refine zq_ic hc hH (by rfl) (tg := 90) (by rfl) (fun h5 => ?_) (fun h5 => ?_)
          · have h5 : (decide ((nI l) = (nI l))) = true := decide_eq_true (cm_eq9.mp h5)
            refine z_rcs hc hH 3 (pc' := 66) (lv' := [(4, .int ((nI l) + 1)), (3, .ref (20 + 8 * s)), (0, .ref 0), (1, .int (nI s)), (2, .int (nI l))]) (st' := [.int ((nI l) + 1)]) (μ' := μ) (by rfl) ?_
            rw [show nI l + 1 = nI (l + 1) from by rw [show (1 : Int32) = nI 1 from rfl, nI_add]]
            refine z_rcs hc hH 3 (pc' := 69) (lv' := [(4, .int (nI (l + 1))), (3, .ref (20 + 8 * s)), (0, .ref 0), (1, .int (nI s)), (2, .int (nI l))]) (st' := [.int ((nI l) + 2), .int (nI (l + 1))]) (μ' := μ) (by rfl) ?_
            rw [show nI l + 2 = nI (l + 2) from by rw [show (2 : Int32) = nI 2 from rfl, nI_add]]
            refine zq_ic hc hH (by rfl) (tg := 96) (by rfl) (fun h6 => ?_) (fun h6 => ?_)
            · have h6 : (decide ((nI (l + 2)) < (nI (l + 1)))) = true := decide_eq_true (cm_gt.mp h6)
              exact absurd (Eq.trans (Eq.symm (kn_nlg (by omega) (by omega) (by omega))) h6) (by decide)
            · have h6 : (decide ((nI (l + 2)) < (nI (l + 1)))) = false := decide_eq_false (cn_gt.mp h6)
              refine z_rcs hc hH 2 (pc' := 75) (lv' := [(4, .int (nI (l + 1))), (3, .ref (20 + 8 * s)), (0, .ref 0), (1, .int (nI s)), (2, .int (nI l))]) (st' := [.ref 0, .int (nI (l + 1))]) (μ' := μ) (by rfl) ?_
              refine zq_gfi hc hH (by rfl) (ci := 5) (f := 15) (by rfl) (by decide +kernel) (by rfl) ?_
              rw [hc15]
              refine zq_ic hc hH (by rfl) (tg := 90) (by rfl) (fun h7 => ?_) (fun h7 => ?_)
              · have h7 : (decide ((nI (l + 1)) = (nI l))) = true := decide_eq_true (cm_eq9.mp h7)
                exact absurd (Eq.trans (Eq.symm (kn_ne (by omega) (by omega) (by omega))) h7) (by decide)
              · have h7 : (decide ((nI (l + 1)) = (nI l))) = false := decide_eq_false (cn_eq.mp h7)
                refine z_rcs hc hH 2 (pc' := 84) (lv' := [(4, .int (nI (l + 1))), (3, .ref (20 + 8 * s)), (0, .ref 0), (1, .int (nI s)), (2, .int (nI l))]) (st' := [.int (nI (l + 1)), .ref (20 + 8 * s)]) (μ' := μ) (by rfl) ?_
                refine zq_iald hc hH (by rfl) 34 (oka_i (sj (P := fun i => oka 79 1 34 (20 + 8 * i)) hs4 (by decide +kernel))) (vp_in_nI (by omega) (by decide)) ?_
                rw [nI_clamp (by omega)]
                refine zq_if hc hH (by rfl) (tg := 90) (by rfl) (fun h8 => ?_) (fun h8 => ?_)
                · have h8 : (decide ((μ.1 (20 + 8 * s) (l + 1)) = 0)) = false := decide_eq_false (cm_ne.mp h8)
                  exact absurd (Eq.trans (Eq.symm (hz1)) h8) (by decide)
                · have h8 : (decide ((μ.1 (20 + 8 * s) (l + 1)) = 0)) = true := decide_eq_true (cn_ne.mp h8)
                  refine z_rcs hc hH 1 (pc' := 89) (lv' := [(4, .int (nI (l + 1))), (3, .ref (20 + 8 * s)), (0, .ref 0), (1, .int (nI s)), (2, .int (nI l))]) (st' := [.int 0]) (μ' := μ) (by rfl) ?_
                  exact hr 0 89 _ _ _ (some (.int 0)) (by decide +kernel) (by rfl) (⟨rfl, rfl⟩)
          · have h5 : (decide ((nI l) = (nI l))) = false := decide_eq_false (cn_eq.mp h5)
            exact absurd (Eq.trans (Eq.symm (kn_eq rfl)) h5) (by decide)
      · have h3 : (decide ((nI l) ≤ (nI (l + 2)))) = false := decide_eq_false (cn_le.mp h3)
        exact absurd (Eq.trans (Eq.symm (kn_nle (by omega) (by omega) (by omega))) h3) (by decide)
theorem gx_runB0 (d : Nat) (hd : 4 ≤ d) (μ : zM) (s l : Nat) (hs4 : s < 4) (hl : l + 2 ≤ 33) (hc15 : μ.1 0 15 = nI l) (t u1 : Nat) (ht4 : t < 4) (ht : μ.1 0 8 = nI t) (hu1 : (t + 1) % 4 = u1) (hu14 : u1 < 4) (hmc : ∀ d, 3 ≤ d → z_C d mi_X6_mayClaimSet [.ref 0, .int (nI s)] μ (zR μ (.int 1))) (hsu : decide (nI s = nI u1) = true) (hsr : ∀ d, 1 ≤ d → z_C d mi_X6_startsRun [.int (nI l)] μ (zR μ (.int 1))) (hz1 : decide (μ.1 (20 + 8 * s) (l + 1) = 0) = false) (hz2 : decide (μ.1 (20 + 8 * s) (l + 2) = 0) = true) : z_C d mi_X6_run [.ref 0, .int (nI s), .int (nI l)] μ (fun r μ' => r = some (.int 0) ∧ μ' = μ) := by
  refine z_C_in (by decide) (by omega) (fun d' Z ed hc hr => ?_)
  have hH : zH mi_X6_run zc_X6_run 79 6 6 := ⟨by rfl, by rfl, by rfl, by rfl⟩
  refine z_rcs hc hH 2 (pc' := 2) (lv' := [(0, .ref 0), (1, .int (nI s)), (2, .int (nI l))]) (st' := [.int (nI s), .ref 0]) (μ' := μ) (by rfl) ?_
  refine zq_call hc (by rfl) (hmc d' (by omega)) (by decide +kernel) (fun r9 μ9 hq => ?_)
  obtain ⟨hμ9, rfl⟩ := hq
  rw [hμ9]
  clear hμ9 μ9
  show Z 0 5 [(0, .ref 0), (1, .int (nI s)), (2, .int (nI l))] [.int 1] μ
  refine z_rcs hc hH 3 (pc' := 10) (lv' := [(0, .ref 0), (1, .int (nI s)), (2, .int (nI l))]) (st' := [.ref 0, .int (nI s)]) (μ' := μ) (by rfl) ?_
  refine zq_gfi hc hH (by rfl) (ci := 5) (f := 8) (by rfl) (by decide +kernel) (by rfl) ?_
  rw [ht]
  refine z_rcs hc hH 2 (pc' := 15) (lv' := [(0, .ref 0), (1, .int (nI s)), (2, .int (nI l))]) (st' := [.int ((nI t) + 1), .int (nI s)]) (μ' := μ) (by rfl) ?_
  rw [nI_s1]
  refine z_rcs hc hH 2 (pc' := 17) (lv' := [(0, .ref 0), (1, .int (nI s)), (2, .int (nI l))]) (st' := [.int ((nI (t + 1)) &&& 3), .int (nI s)]) (μ' := μ) (by rfl) ?_
  rw [show nI (t + 1) &&& 3 = nI u1 from by rw [and3 (by omega), hu1]]
  refine zq_ic hc hH (by rfl) (tg := 27) (by rfl) (fun h1 => ?_) (fun h1 => ?_)
  · have h1 : (decide ((nI s) = (nI u1))) = false := decide_eq_false (cm_ne.mp h1)
    exact absurd (Eq.trans (Eq.symm (hsu)) h1) (by decide)
  · have h1 : (decide ((nI s) = (nI u1))) = true := decide_eq_true (cn_ne.mp h1)
    refine z_rcs hc hH 1 (pc' := 21) (lv' := [(0, .ref 0), (1, .int (nI s)), (2, .int (nI l))]) (st' := [.int (nI l)]) (μ' := μ) (by rfl) ?_
    refine zq_call hc (by rfl) (hsr d' (by omega)) (by decide +kernel) (fun r9 μ9 hq => ?_)
    obtain ⟨hμ9, rfl⟩ := hq
    rw [hμ9]
    clear hμ9 μ9
    show Z 0 24 [(0, .ref 0), (1, .int (nI s)), (2, .int (nI l))] [.int 1] μ
    refine z_rcs hc hH 2 (pc' := 30) (lv' := [(0, .ref 0), (1, .int (nI s)), (2, .int (nI l))]) (st' := [.ref 0]) (μ' := μ) (by rfl) ?_
    refine zq_gfi hc hH (by rfl) (ci := 5) (f := 15) (by rfl) (by decide +kernel) (by rfl) ?_
    rw [hc15]
    refine z_rcs hc hH 1 (pc' := 34) (lv' := [(0, .ref 0), (1, .int (nI s)), (2, .int (nI l))]) (st' := [.int (nI l), .int (nI l)]) (μ' := μ) (by rfl) ?_
    refine zq_ic hc hH (by rfl) (tg := 47) (by rfl) (fun h2 => ?_) (fun h2 => ?_)
    · have h2 : (decide ((nI l) < (nI l))) = true := decide_eq_true (cm_lt.mp h2)
      exact absurd (Eq.trans (Eq.symm (kn_nlg (by omega) (by omega) (by omega))) h2) (by decide)
    · have h2 : (decide ((nI l) < (nI l))) = false := decide_eq_false (cn_lt.mp h2)
      refine z_rcs hc hH 1 (pc' := 38) (lv' := [(0, .ref 0), (1, .int (nI s)), (2, .int (nI l))]) (st' := [.ref 0]) (μ' := μ) (by rfl) ?_
      refine zq_gfi hc hH (by rfl) (ci := 5) (f := 15) (by rfl) (by decide +kernel) (by rfl) ?_
      rw [hc15]
      refine z_rcs hc hH 3 (pc' := 44) (lv' := [(0, .ref 0), (1, .int (nI s)), (2, .int (nI l))]) (st' := [.int ((nI l) + 2), .int (nI l)]) (μ' := μ) (by rfl) ?_
      rw [show nI l + 2 = nI (l + 2) from by rw [show (2 : Int32) = nI 2 from rfl, nI_add]]
      refine zq_ic hc hH (by rfl) (tg := 49) (by rfl) (fun h3 => ?_) (fun h3 => ?_)
      · have h3 : (decide ((nI l) ≤ (nI (l + 2)))) = true := decide_eq_true (cm_le.mp h3)
        refine z_rcs hc hH 2 (pc' := 51) (lv' := [(0, .ref 0), (1, .int (nI s)), (2, .int (nI l))]) (st' := [.int (nI s), .ref 0]) (μ' := μ) (by rfl) ?_
        refine zq_call hc (by rfl) (gc_at4 d' (by omega) μ s hs4) (by decide +kernel) (fun r9 μ9 hq => ?_)
        obtain ⟨hμ9, rfl⟩ := hq
        rw [hμ9]
        clear hμ9 μ9
        show Z 0 54 [(0, .ref 0), (1, .int (nI s)), (2, .int (nI l))] [.ref (18 + 8 * s)] μ
        refine zq_gfr hc hH (by rfl) (ci := 1) (f := 0) (q := 19 + 8 * s) (by rfl) (sj (P := fun i => okf 79 1 0 (18 + 8 * i)) hs4 (by decide +kernel)) (by rfl) (sj (P := fun i => Nat.beq (z_gr (18 + 8 * i) 0) (19 + 8 * i)) hs4 (by decide +kernel)) ?_
        refine zq_gfr hc hH (by rfl) (ci := 2) (f := 0) (q := 20 + 8 * s) (by rfl) (sj (P := fun i => okf 79 2 0 (19 + 8 * i)) hs4 (by decide +kernel)) (by rfl) (sj (P := fun i => Nat.beq (z_gr (19 + 8 * i) 0) (20 + 8 * i)) hs4 (by decide +kernel)) ?_
        refine z_rcs hc hH 7 (pc' := 69) (lv' := [(4, .int (nI l)), (3, .ref (20 + 8 * s)), (0, .ref 0), (1, .int (nI s)), (2, .int (nI l))]) (st' := [.int ((nI l) + 2), .int (nI l)]) (μ' := μ) (by rfl) ?_
        rw [show nI l + 2 = nI (l + 2) from by rw [show (2 : Int32) = nI 2 from rfl, nI_add]]
        refine zq_ic hc hH (by rfl) (tg := 96) (by rfl) (fun h4 => ?_) (fun h4 => ?_)
        · have h4 : (decide ((nI (l + 2)) < (nI l))) = true := decide_eq_true (cm_gt.mp h4)
          exact absurd (Eq.trans (Eq.symm (kn_nlg (by omega) (by omega) (by omega))) h4) (by decide)
        · have h4 : (decide ((nI (l + 2)) < (nI l))) = false := decide_eq_false (cn_gt.mp h4)
          refine z_rcs hc hH 2 (pc' := 75) (lv' := [(4, .int (nI l)), (3, .ref (20 + 8 * s)), (0, .ref 0), (1, .int (nI s)), (2, .int (nI l))]) (st' := [.ref 0, .int (nI l)]) (μ' := μ) (by rfl) ?_
          refine zq_gfi hc hH (by rfl) (ci := 5) (f := 15) (by rfl) (by decide +kernel) (by rfl) ?_
          rw [hc15]
          refine zq_ic hc hH (by rfl) (tg := 90) (by rfl) (fun h5 => ?_) (fun h5 => ?_)
          · have h5 : (decide ((nI l) = (nI l))) = true := decide_eq_true (cm_eq9.mp h5)
            refine z_rcs hc hH 3 (pc' := 66) (lv' := [(4, .int ((nI l) + 1)), (3, .ref (20 + 8 * s)), (0, .ref 0), (1, .int (nI s)), (2, .int (nI l))]) (st' := [.int ((nI l) + 1)]) (μ' := μ) (by rfl) ?_
            rw [show nI l + 1 = nI (l + 1) from by rw [show (1 : Int32) = nI 1 from rfl, nI_add]]
            refine z_rcs hc hH 3 (pc' := 69) (lv' := [(4, .int (nI (l + 1))), (3, .ref (20 + 8 * s)), (0, .ref 0), (1, .int (nI s)), (2, .int (nI l))]) (st' := [.int ((nI l) + 2), .int (nI (l + 1))]) (μ' := μ) (by rfl) ?_
            rw [show nI l + 2 = nI (l + 2) from by rw [show (2 : Int32) = nI 2 from rfl, nI_add]]
            refine zq_ic hc hH (by rfl) (tg := 96) (by rfl) (fun h6 => ?_) (fun h6 => ?_)
            · have h6 : (decide ((nI (l + 2)) < (nI (l + 1)))) = true := decide_eq_true (cm_gt.mp h6)
              exact absurd (Eq.trans (Eq.symm (kn_nlg (by omega) (by omega) (by omega))) h6) (by decide)
            · have h6 : (decide ((nI (l + 2)) < (nI (l + 1)))) = false := decide_eq_false (cn_gt.mp h6)
              refine z_rcs hc hH 2 (pc' := 75) (lv' := [(4, .int (nI (l + 1))), (3, .ref (20 + 8 * s)), (0, .ref 0), (1, .int (nI s)), (2, .int (nI l))]) (st' := [.ref 0, .int (nI (l + 1))]) (μ' := μ) (by rfl) ?_
              refine zq_gfi hc hH (by rfl) (ci := 5) (f := 15) (by rfl) (by decide +kernel) (by rfl) ?_
              rw [hc15]
              refine zq_ic hc hH (by rfl) (tg := 90) (by rfl) (fun h7 => ?_) (fun h7 => ?_)
              · have h7 : (decide ((nI (l + 1)) = (nI l))) = true := decide_eq_true (cm_eq9.mp h7)
                exact absurd (Eq.trans (Eq.symm (kn_ne (by omega) (by omega) (by omega))) h7) (by decide)
              · have h7 : (decide ((nI (l + 1)) = (nI l))) = false := decide_eq_false (cn_eq.mp h7)
                refine z_rcs hc hH 2 (pc' := 84) (lv' := [(4, .int (nI (l + 1))), (3, .ref (20 + 8 * s)), (0, .ref 0), (1, .int (nI s)), (2, .int (nI l))]) (st' := [.int (nI (l + 1)), .ref (20 + 8 * s)]) (μ' := μ) (by rfl) ?_
                refine zq_iald hc hH (by rfl) 34 (oka_i (sj (P := fun i => oka 79 1 34 (20 + 8 * i)) hs4 (by decide +kernel))) (vp_in_nI (by omega) (by decide)) ?_
                rw [nI_clamp (by omega)]
                refine zq_if hc hH (by rfl) (tg := 90) (by rfl) (fun h8 => ?_) (fun h8 => ?_)
                · have h8 : (decide ((μ.1 (20 + 8 * s) (l + 1)) = 0)) = false := decide_eq_false (cm_ne.mp h8)
                  refine z_rcs hc hH 3 (pc' := 66) (lv' := [(4, .int ((nI (l + 1)) + 1)), (3, .ref (20 + 8 * s)), (0, .ref 0), (1, .int (nI s)), (2, .int (nI l))]) (st' := [.int ((nI (l + 1)) + 1)]) (μ' := μ) (by rfl) ?_
                  rw [show nI (l + 1) + 1 = nI (l + 2) from nI_s1 _]
                  refine z_rcs hc hH 3 (pc' := 69) (lv' := [(4, .int (nI (l + 2))), (3, .ref (20 + 8 * s)), (0, .ref 0), (1, .int (nI s)), (2, .int (nI l))]) (st' := [.int ((nI l) + 2), .int (nI (l + 2))]) (μ' := μ) (by rfl) ?_
                  rw [show nI l + 2 = nI (l + 2) from by rw [show (2 : Int32) = nI 2 from rfl, nI_add]]
                  refine zq_ic hc hH (by rfl) (tg := 96) (by rfl) (fun h9 => ?_) (fun h9 => ?_)
                  · have h9 : (decide ((nI (l + 2)) < (nI (l + 2)))) = true := decide_eq_true (cm_gt.mp h9)
                    exact absurd (Eq.trans (Eq.symm (kn_nlg (by omega) (by omega) (by omega))) h9) (by decide)
                  · have h9 : (decide ((nI (l + 2)) < (nI (l + 2)))) = false := decide_eq_false (cn_gt.mp h9)
                    refine z_rcs hc hH 2 (pc' := 75) (lv' := [(4, .int (nI (l + 2))), (3, .ref (20 + 8 * s)), (0, .ref 0), (1, .int (nI s)), (2, .int (nI l))]) (st' := [.ref 0, .int (nI (l + 2))]) (μ' := μ) (by rfl) ?_
                    refine zq_gfi hc hH (by rfl) (ci := 5) (f := 15) (by rfl) (by decide +kernel) (by rfl) ?_
                    rw [hc15]
                    refine zq_ic hc hH (by rfl) (tg := 90) (by rfl) (fun h10 => ?_) (fun h10 => ?_)
                    · have h10 : (decide ((nI (l + 2)) = (nI l))) = true := decide_eq_true (cm_eq9.mp h10)
                      exact absurd (Eq.trans (Eq.symm (kn_ne (by omega) (by omega) (by omega))) h10) (by decide)
                    · have h10 : (decide ((nI (l + 2)) = (nI l))) = false := decide_eq_false (cn_eq.mp h10)
                      refine z_rcs hc hH 2 (pc' := 84) (lv' := [(4, .int (nI (l + 2))), (3, .ref (20 + 8 * s)), (0, .ref 0), (1, .int (nI s)), (2, .int (nI l))]) (st' := [.int (nI (l + 2)), .ref (20 + 8 * s)]) (μ' := μ) (by rfl) ?_
                      refine zq_iald hc hH (by rfl) 34 (oka_i (sj (P := fun i => oka 79 1 34 (20 + 8 * i)) hs4 (by decide +kernel))) (vp_in_nI (by omega) (by decide)) ?_
                      rw [nI_clamp (by omega)]
                      refine zq_if hc hH (by rfl) (tg := 90) (by rfl) (fun h11 => ?_) (fun h11 => ?_)
                      · have h11 : (decide ((μ.1 (20 + 8 * s) (l + 2)) = 0)) = false := decide_eq_false (cm_ne.mp h11)
                        exact absurd (Eq.trans (Eq.symm (hz2)) h11) (by decide)
                      · have h11 : (decide ((μ.1 (20 + 8 * s) (l + 2)) = 0)) = true := decide_eq_true (cn_ne.mp h11)
                        refine z_rcs hc hH 1 (pc' := 89) (lv' := [(4, .int (nI (l + 2))), (3, .ref (20 + 8 * s)), (0, .ref 0), (1, .int (nI s)), (2, .int (nI l))]) (st' := [.int 0]) (μ' := μ) (by rfl) ?_
                        exact hr 0 89 _ _ _ (some (.int 0)) (by decide +kernel) (by rfl) (⟨rfl, rfl⟩)
                · have h8 : (decide ((μ.1 (20 + 8 * s) (l + 1)) = 0)) = true := decide_eq_true (cn_ne.mp h8)
                  exact absurd (Eq.trans (Eq.symm (hz1)) h8) (by decide)
          · have h5 : (decide ((nI l) = (nI l))) = false := decide_eq_false (cn_eq.mp h5)
            exact absurd (Eq.trans (Eq.symm (kn_eq rfl)) h5) (by decide)
      · have h3 : (decide ((nI l) ≤ (nI (l + 2)))) = false := decide_eq_false (cn_le.mp h3)
        exact absurd (Eq.trans (Eq.symm (kn_nle (by omega) (by omega) (by omega))) h3) (by decide)
theorem gx_runA1 (d : Nat) (hd : 4 ≤ d) (μ : zM) (s l : Nat) (hs4 : s < 4) (hl : l + 2 ≤ 33) (hc15 : μ.1 0 15 = nI (l + 1)) (t u1 : Nat) (ht4 : t < 4) (ht : μ.1 0 8 = nI t) (hu1 : (t + 1) % 4 = u1) (hu14 : u1 < 4) (hmc : ∀ d, 3 ≤ d → z_C d mi_X6_mayClaimSet [.ref 0, .int (nI s)] μ (zR μ (.int 1))) (hsu : decide (nI s = nI u1) = true) (hsr : ∀ d, 1 ≤ d → z_C d mi_X6_startsRun [.int (nI l)] μ (zR μ (.int 1))) (hz1 : decide (μ.1 (20 + 8 * s) l = 0) = true) : z_C d mi_X6_run [.ref 0, .int (nI s), .int (nI l)] μ (fun r μ' => r = some (.int 0) ∧ μ' = μ) := by
  refine z_C_in (by decide) (by omega) (fun d' Z ed hc hr => ?_)
  have hH : zH mi_X6_run zc_X6_run 79 6 6 := ⟨by rfl, by rfl, by rfl, by rfl⟩
  refine z_rcs hc hH 2 (pc' := 2) (lv' := [(0, .ref 0), (1, .int (nI s)), (2, .int (nI l))]) (st' := [.int (nI s), .ref 0]) (μ' := μ) (by rfl) ?_
  refine zq_call hc (by rfl) (hmc d' (by omega)) (by decide +kernel) (fun r9 μ9 hq => ?_)
  obtain ⟨hμ9, rfl⟩ := hq
  rw [hμ9]
  clear hμ9 μ9
  show Z 0 5 [(0, .ref 0), (1, .int (nI s)), (2, .int (nI l))] [.int 1] μ
  refine z_rcs hc hH 3 (pc' := 10) (lv' := [(0, .ref 0), (1, .int (nI s)), (2, .int (nI l))]) (st' := [.ref 0, .int (nI s)]) (μ' := μ) (by rfl) ?_
  refine zq_gfi hc hH (by rfl) (ci := 5) (f := 8) (by rfl) (by decide +kernel) (by rfl) ?_
  rw [ht]
  refine z_rcs hc hH 2 (pc' := 15) (lv' := [(0, .ref 0), (1, .int (nI s)), (2, .int (nI l))]) (st' := [.int ((nI t) + 1), .int (nI s)]) (μ' := μ) (by rfl) ?_
  rw [nI_s1]
  refine z_rcs hc hH 2 (pc' := 17) (lv' := [(0, .ref 0), (1, .int (nI s)), (2, .int (nI l))]) (st' := [.int ((nI (t + 1)) &&& 3), .int (nI s)]) (μ' := μ) (by rfl) ?_
  rw [show nI (t + 1) &&& 3 = nI u1 from by rw [and3 (by omega), hu1]]
  refine zq_ic hc hH (by rfl) (tg := 27) (by rfl) (fun h1 => ?_) (fun h1 => ?_)
  · have h1 : (decide ((nI s) = (nI u1))) = false := decide_eq_false (cm_ne.mp h1)
    exact absurd (Eq.trans (Eq.symm (hsu)) h1) (by decide)
  · have h1 : (decide ((nI s) = (nI u1))) = true := decide_eq_true (cn_ne.mp h1)
    refine z_rcs hc hH 1 (pc' := 21) (lv' := [(0, .ref 0), (1, .int (nI s)), (2, .int (nI l))]) (st' := [.int (nI l)]) (μ' := μ) (by rfl) ?_
    refine zq_call hc (by rfl) (hsr d' (by omega)) (by decide +kernel) (fun r9 μ9 hq => ?_)
    obtain ⟨hμ9, rfl⟩ := hq
    rw [hμ9]
    clear hμ9 μ9
    show Z 0 24 [(0, .ref 0), (1, .int (nI s)), (2, .int (nI l))] [.int 1] μ
    refine z_rcs hc hH 2 (pc' := 30) (lv' := [(0, .ref 0), (1, .int (nI s)), (2, .int (nI l))]) (st' := [.ref 0]) (μ' := μ) (by rfl) ?_
    refine zq_gfi hc hH (by rfl) (ci := 5) (f := 15) (by rfl) (by decide +kernel) (by rfl) ?_
    rw [hc15]
    refine z_rcs hc hH 1 (pc' := 34) (lv' := [(0, .ref 0), (1, .int (nI s)), (2, .int (nI l))]) (st' := [.int (nI l), .int (nI (l + 1))]) (μ' := μ) (by rfl) ?_
    refine zq_ic hc hH (by rfl) (tg := 47) (by rfl) (fun h2 => ?_) (fun h2 => ?_)
    · have h2 : (decide ((nI (l + 1)) < (nI l))) = true := decide_eq_true (cm_lt.mp h2)
      exact absurd (Eq.trans (Eq.symm (kn_nlg (by omega) (by omega) (by omega))) h2) (by decide)
    · have h2 : (decide ((nI (l + 1)) < (nI l))) = false := decide_eq_false (cn_lt.mp h2)
      refine z_rcs hc hH 1 (pc' := 38) (lv' := [(0, .ref 0), (1, .int (nI s)), (2, .int (nI l))]) (st' := [.ref 0]) (μ' := μ) (by rfl) ?_
      refine zq_gfi hc hH (by rfl) (ci := 5) (f := 15) (by rfl) (by decide +kernel) (by rfl) ?_
      rw [hc15]
      refine z_rcs hc hH 3 (pc' := 44) (lv' := [(0, .ref 0), (1, .int (nI s)), (2, .int (nI l))]) (st' := [.int ((nI l) + 2), .int (nI (l + 1))]) (μ' := μ) (by rfl) ?_
      rw [show nI l + 2 = nI (l + 2) from by rw [show (2 : Int32) = nI 2 from rfl, nI_add]]
      refine zq_ic hc hH (by rfl) (tg := 49) (by rfl) (fun h3 => ?_) (fun h3 => ?_)
      · have h3 : (decide ((nI (l + 1)) ≤ (nI (l + 2)))) = true := decide_eq_true (cm_le.mp h3)
        refine z_rcs hc hH 2 (pc' := 51) (lv' := [(0, .ref 0), (1, .int (nI s)), (2, .int (nI l))]) (st' := [.int (nI s), .ref 0]) (μ' := μ) (by rfl) ?_
        refine zq_call hc (by rfl) (gc_at4 d' (by omega) μ s hs4) (by decide +kernel) (fun r9 μ9 hq => ?_)
        obtain ⟨hμ9, rfl⟩ := hq
        rw [hμ9]
        clear hμ9 μ9
        show Z 0 54 [(0, .ref 0), (1, .int (nI s)), (2, .int (nI l))] [.ref (18 + 8 * s)] μ
        refine zq_gfr hc hH (by rfl) (ci := 1) (f := 0) (q := 19 + 8 * s) (by rfl) (sj (P := fun i => okf 79 1 0 (18 + 8 * i)) hs4 (by decide +kernel)) (by rfl) (sj (P := fun i => Nat.beq (z_gr (18 + 8 * i) 0) (19 + 8 * i)) hs4 (by decide +kernel)) ?_
        refine zq_gfr hc hH (by rfl) (ci := 2) (f := 0) (q := 20 + 8 * s) (by rfl) (sj (P := fun i => okf 79 2 0 (19 + 8 * i)) hs4 (by decide +kernel)) (by rfl) (sj (P := fun i => Nat.beq (z_gr (19 + 8 * i) 0) (20 + 8 * i)) hs4 (by decide +kernel)) ?_
        refine z_rcs hc hH 7 (pc' := 69) (lv' := [(4, .int (nI l)), (3, .ref (20 + 8 * s)), (0, .ref 0), (1, .int (nI s)), (2, .int (nI l))]) (st' := [.int ((nI l) + 2), .int (nI l)]) (μ' := μ) (by rfl) ?_
        rw [show nI l + 2 = nI (l + 2) from by rw [show (2 : Int32) = nI 2 from rfl, nI_add]]
        refine zq_ic hc hH (by rfl) (tg := 96) (by rfl) (fun h4 => ?_) (fun h4 => ?_)
        · have h4 : (decide ((nI (l + 2)) < (nI l))) = true := decide_eq_true (cm_gt.mp h4)
          exact absurd (Eq.trans (Eq.symm (kn_nlg (by omega) (by omega) (by omega))) h4) (by decide)
        · have h4 : (decide ((nI (l + 2)) < (nI l))) = false := decide_eq_false (cn_gt.mp h4)
          refine z_rcs hc hH 2 (pc' := 75) (lv' := [(4, .int (nI l)), (3, .ref (20 + 8 * s)), (0, .ref 0), (1, .int (nI s)), (2, .int (nI l))]) (st' := [.ref 0, .int (nI l)]) (μ' := μ) (by rfl) ?_
          refine zq_gfi hc hH (by rfl) (ci := 5) (f := 15) (by rfl) (by decide +kernel) (by rfl) ?_
          rw [hc15]
          refine zq_ic hc hH (by rfl) (tg := 90) (by rfl) (fun h5 => ?_) (fun h5 => ?_)
          · have h5 : (decide ((nI l) = (nI (l + 1)))) = true := decide_eq_true (cm_eq9.mp h5)
            exact absurd (Eq.trans (Eq.symm (kn_ne (by omega) (by omega) (by omega))) h5) (by decide)
          · have h5 : (decide ((nI l) = (nI (l + 1)))) = false := decide_eq_false (cn_eq.mp h5)
            refine z_rcs hc hH 2 (pc' := 84) (lv' := [(4, .int (nI l)), (3, .ref (20 + 8 * s)), (0, .ref 0), (1, .int (nI s)), (2, .int (nI l))]) (st' := [.int (nI l), .ref (20 + 8 * s)]) (μ' := μ) (by rfl) ?_
            refine zq_iald hc hH (by rfl) 34 (oka_i (sj (P := fun i => oka 79 1 34 (20 + 8 * i)) hs4 (by decide +kernel))) (vp_in_nI (by omega) (by decide)) ?_
            rw [nI_clamp (by omega)]
            refine zq_if hc hH (by rfl) (tg := 90) (by rfl) (fun h6 => ?_) (fun h6 => ?_)
            · have h6 : (decide ((μ.1 (20 + 8 * s) l) = 0)) = false := decide_eq_false (cm_ne.mp h6)
              exact absurd (Eq.trans (Eq.symm (hz1)) h6) (by decide)
            · have h6 : (decide ((μ.1 (20 + 8 * s) l) = 0)) = true := decide_eq_true (cn_ne.mp h6)
              refine z_rcs hc hH 1 (pc' := 89) (lv' := [(4, .int (nI l)), (3, .ref (20 + 8 * s)), (0, .ref 0), (1, .int (nI s)), (2, .int (nI l))]) (st' := [.int 0]) (μ' := μ) (by rfl) ?_
              exact hr 0 89 _ _ _ (some (.int 0)) (by decide +kernel) (by rfl) (⟨rfl, rfl⟩)
      · have h3 : (decide ((nI (l + 1)) ≤ (nI (l + 2)))) = false := decide_eq_false (cn_le.mp h3)
        exact absurd (Eq.trans (Eq.symm (kn_nle (by omega) (by omega) (by omega))) h3) (by decide)
theorem gx_runB1 (d : Nat) (hd : 4 ≤ d) (μ : zM) (s l : Nat) (hs4 : s < 4) (hl : l + 2 ≤ 33) (hc15 : μ.1 0 15 = nI (l + 1)) (t u1 : Nat) (ht4 : t < 4) (ht : μ.1 0 8 = nI t) (hu1 : (t + 1) % 4 = u1) (hu14 : u1 < 4) (hmc : ∀ d, 3 ≤ d → z_C d mi_X6_mayClaimSet [.ref 0, .int (nI s)] μ (zR μ (.int 1))) (hsu : decide (nI s = nI u1) = true) (hsr : ∀ d, 1 ≤ d → z_C d mi_X6_startsRun [.int (nI l)] μ (zR μ (.int 1))) (hz1 : decide (μ.1 (20 + 8 * s) l = 0) = false) (hz2 : decide (μ.1 (20 + 8 * s) (l + 2) = 0) = true) : z_C d mi_X6_run [.ref 0, .int (nI s), .int (nI l)] μ (fun r μ' => r = some (.int 0) ∧ μ' = μ) := by
  refine z_C_in (by decide) (by omega) (fun d' Z ed hc hr => ?_)
  have hH : zH mi_X6_run zc_X6_run 79 6 6 := ⟨by rfl, by rfl, by rfl, by rfl⟩
  refine z_rcs hc hH 2 (pc' := 2) (lv' := [(0, .ref 0), (1, .int (nI s)), (2, .int (nI l))]) (st' := [.int (nI s), .ref 0]) (μ' := μ) (by rfl) ?_
  refine zq_call hc (by rfl) (hmc d' (by omega)) (by decide +kernel) (fun r9 μ9 hq => ?_)
  obtain ⟨hμ9, rfl⟩ := hq
  rw [hμ9]
  clear hμ9 μ9
  show Z 0 5 [(0, .ref 0), (1, .int (nI s)), (2, .int (nI l))] [.int 1] μ
  refine z_rcs hc hH 3 (pc' := 10) (lv' := [(0, .ref 0), (1, .int (nI s)), (2, .int (nI l))]) (st' := [.ref 0, .int (nI s)]) (μ' := μ) (by rfl) ?_
  refine zq_gfi hc hH (by rfl) (ci := 5) (f := 8) (by rfl) (by decide +kernel) (by rfl) ?_
  rw [ht]
  refine z_rcs hc hH 2 (pc' := 15) (lv' := [(0, .ref 0), (1, .int (nI s)), (2, .int (nI l))]) (st' := [.int ((nI t) + 1), .int (nI s)]) (μ' := μ) (by rfl) ?_
  rw [nI_s1]
  refine z_rcs hc hH 2 (pc' := 17) (lv' := [(0, .ref 0), (1, .int (nI s)), (2, .int (nI l))]) (st' := [.int ((nI (t + 1)) &&& 3), .int (nI s)]) (μ' := μ) (by rfl) ?_
  rw [show nI (t + 1) &&& 3 = nI u1 from by rw [and3 (by omega), hu1]]
  refine zq_ic hc hH (by rfl) (tg := 27) (by rfl) (fun h1 => ?_) (fun h1 => ?_)
  · have h1 : (decide ((nI s) = (nI u1))) = false := decide_eq_false (cm_ne.mp h1)
    exact absurd (Eq.trans (Eq.symm (hsu)) h1) (by decide)
  · have h1 : (decide ((nI s) = (nI u1))) = true := decide_eq_true (cn_ne.mp h1)
    refine z_rcs hc hH 1 (pc' := 21) (lv' := [(0, .ref 0), (1, .int (nI s)), (2, .int (nI l))]) (st' := [.int (nI l)]) (μ' := μ) (by rfl) ?_
    refine zq_call hc (by rfl) (hsr d' (by omega)) (by decide +kernel) (fun r9 μ9 hq => ?_)
    obtain ⟨hμ9, rfl⟩ := hq
    rw [hμ9]
    clear hμ9 μ9
    show Z 0 24 [(0, .ref 0), (1, .int (nI s)), (2, .int (nI l))] [.int 1] μ
    refine z_rcs hc hH 2 (pc' := 30) (lv' := [(0, .ref 0), (1, .int (nI s)), (2, .int (nI l))]) (st' := [.ref 0]) (μ' := μ) (by rfl) ?_
    refine zq_gfi hc hH (by rfl) (ci := 5) (f := 15) (by rfl) (by decide +kernel) (by rfl) ?_
    rw [hc15]
    refine z_rcs hc hH 1 (pc' := 34) (lv' := [(0, .ref 0), (1, .int (nI s)), (2, .int (nI l))]) (st' := [.int (nI l), .int (nI (l + 1))]) (μ' := μ) (by rfl) ?_
    refine zq_ic hc hH (by rfl) (tg := 47) (by rfl) (fun h2 => ?_) (fun h2 => ?_)
    · have h2 : (decide ((nI (l + 1)) < (nI l))) = true := decide_eq_true (cm_lt.mp h2)
      exact absurd (Eq.trans (Eq.symm (kn_nlg (by omega) (by omega) (by omega))) h2) (by decide)
    · have h2 : (decide ((nI (l + 1)) < (nI l))) = false := decide_eq_false (cn_lt.mp h2)
      refine z_rcs hc hH 1 (pc' := 38) (lv' := [(0, .ref 0), (1, .int (nI s)), (2, .int (nI l))]) (st' := [.ref 0]) (μ' := μ) (by rfl) ?_
      refine zq_gfi hc hH (by rfl) (ci := 5) (f := 15) (by rfl) (by decide +kernel) (by rfl) ?_
      rw [hc15]
      refine z_rcs hc hH 3 (pc' := 44) (lv' := [(0, .ref 0), (1, .int (nI s)), (2, .int (nI l))]) (st' := [.int ((nI l) + 2), .int (nI (l + 1))]) (μ' := μ) (by rfl) ?_
      rw [show nI l + 2 = nI (l + 2) from by rw [show (2 : Int32) = nI 2 from rfl, nI_add]]
      refine zq_ic hc hH (by rfl) (tg := 49) (by rfl) (fun h3 => ?_) (fun h3 => ?_)
      · have h3 : (decide ((nI (l + 1)) ≤ (nI (l + 2)))) = true := decide_eq_true (cm_le.mp h3)
        refine z_rcs hc hH 2 (pc' := 51) (lv' := [(0, .ref 0), (1, .int (nI s)), (2, .int (nI l))]) (st' := [.int (nI s), .ref 0]) (μ' := μ) (by rfl) ?_
        refine zq_call hc (by rfl) (gc_at4 d' (by omega) μ s hs4) (by decide +kernel) (fun r9 μ9 hq => ?_)
        obtain ⟨hμ9, rfl⟩ := hq
        rw [hμ9]
        clear hμ9 μ9
        show Z 0 54 [(0, .ref 0), (1, .int (nI s)), (2, .int (nI l))] [.ref (18 + 8 * s)] μ
        refine zq_gfr hc hH (by rfl) (ci := 1) (f := 0) (q := 19 + 8 * s) (by rfl) (sj (P := fun i => okf 79 1 0 (18 + 8 * i)) hs4 (by decide +kernel)) (by rfl) (sj (P := fun i => Nat.beq (z_gr (18 + 8 * i) 0) (19 + 8 * i)) hs4 (by decide +kernel)) ?_
        refine zq_gfr hc hH (by rfl) (ci := 2) (f := 0) (q := 20 + 8 * s) (by rfl) (sj (P := fun i => okf 79 2 0 (19 + 8 * i)) hs4 (by decide +kernel)) (by rfl) (sj (P := fun i => Nat.beq (z_gr (19 + 8 * i) 0) (20 + 8 * i)) hs4 (by decide +kernel)) ?_
        refine z_rcs hc hH 7 (pc' := 69) (lv' := [(4, .int (nI l)), (3, .ref (20 + 8 * s)), (0, .ref 0), (1, .int (nI s)), (2, .int (nI l))]) (st' := [.int ((nI l) + 2), .int (nI l)]) (μ' := μ) (by rfl) ?_
        rw [show nI l + 2 = nI (l + 2) from by rw [show (2 : Int32) = nI 2 from rfl, nI_add]]
        refine zq_ic hc hH (by rfl) (tg := 96) (by rfl) (fun h4 => ?_) (fun h4 => ?_)
        · have h4 : (decide ((nI (l + 2)) < (nI l))) = true := decide_eq_true (cm_gt.mp h4)
          exact absurd (Eq.trans (Eq.symm (kn_nlg (by omega) (by omega) (by omega))) h4) (by decide)
        · have h4 : (decide ((nI (l + 2)) < (nI l))) = false := decide_eq_false (cn_gt.mp h4)
          refine z_rcs hc hH 2 (pc' := 75) (lv' := [(4, .int (nI l)), (3, .ref (20 + 8 * s)), (0, .ref 0), (1, .int (nI s)), (2, .int (nI l))]) (st' := [.ref 0, .int (nI l)]) (μ' := μ) (by rfl) ?_
          refine zq_gfi hc hH (by rfl) (ci := 5) (f := 15) (by rfl) (by decide +kernel) (by rfl) ?_
          rw [hc15]
          refine zq_ic hc hH (by rfl) (tg := 90) (by rfl) (fun h5 => ?_) (fun h5 => ?_)
          · have h5 : (decide ((nI l) = (nI (l + 1)))) = true := decide_eq_true (cm_eq9.mp h5)
            exact absurd (Eq.trans (Eq.symm (kn_ne (by omega) (by omega) (by omega))) h5) (by decide)
          · have h5 : (decide ((nI l) = (nI (l + 1)))) = false := decide_eq_false (cn_eq.mp h5)
            refine z_rcs hc hH 2 (pc' := 84) (lv' := [(4, .int (nI l)), (3, .ref (20 + 8 * s)), (0, .ref 0), (1, .int (nI s)), (2, .int (nI l))]) (st' := [.int (nI l), .ref (20 + 8 * s)]) (μ' := μ) (by rfl) ?_
            refine zq_iald hc hH (by rfl) 34 (oka_i (sj (P := fun i => oka 79 1 34 (20 + 8 * i)) hs4 (by decide +kernel))) (vp_in_nI (by omega) (by decide)) ?_
            rw [nI_clamp (by omega)]
            refine zq_if hc hH (by rfl) (tg := 90) (by rfl) (fun h6 => ?_) (fun h6 => ?_)
            · have h6 : (decide ((μ.1 (20 + 8 * s) l) = 0)) = false := decide_eq_false (cm_ne.mp h6)
              refine z_rcs hc hH 3 (pc' := 66) (lv' := [(4, .int ((nI l) + 1)), (3, .ref (20 + 8 * s)), (0, .ref 0), (1, .int (nI s)), (2, .int (nI l))]) (st' := [.int ((nI l) + 1)]) (μ' := μ) (by rfl) ?_
              rw [show nI l + 1 = nI (l + 1) from by rw [show (1 : Int32) = nI 1 from rfl, nI_add]]
              refine z_rcs hc hH 3 (pc' := 69) (lv' := [(4, .int (nI (l + 1))), (3, .ref (20 + 8 * s)), (0, .ref 0), (1, .int (nI s)), (2, .int (nI l))]) (st' := [.int ((nI l) + 2), .int (nI (l + 1))]) (μ' := μ) (by rfl) ?_
              rw [show nI l + 2 = nI (l + 2) from by rw [show (2 : Int32) = nI 2 from rfl, nI_add]]
              refine zq_ic hc hH (by rfl) (tg := 96) (by rfl) (fun h7 => ?_) (fun h7 => ?_)
              · have h7 : (decide ((nI (l + 2)) < (nI (l + 1)))) = true := decide_eq_true (cm_gt.mp h7)
                exact absurd (Eq.trans (Eq.symm (kn_nlg (by omega) (by omega) (by omega))) h7) (by decide)
              · have h7 : (decide ((nI (l + 2)) < (nI (l + 1)))) = false := decide_eq_false (cn_gt.mp h7)
                refine z_rcs hc hH 2 (pc' := 75) (lv' := [(4, .int (nI (l + 1))), (3, .ref (20 + 8 * s)), (0, .ref 0), (1, .int (nI s)), (2, .int (nI l))]) (st' := [.ref 0, .int (nI (l + 1))]) (μ' := μ) (by rfl) ?_
                refine zq_gfi hc hH (by rfl) (ci := 5) (f := 15) (by rfl) (by decide +kernel) (by rfl) ?_
                rw [hc15]
                refine zq_ic hc hH (by rfl) (tg := 90) (by rfl) (fun h8 => ?_) (fun h8 => ?_)
                · have h8 : (decide ((nI (l + 1)) = (nI (l + 1)))) = true := decide_eq_true (cm_eq9.mp h8)
                  refine z_rcs hc hH 3 (pc' := 66) (lv' := [(4, .int ((nI (l + 1)) + 1)), (3, .ref (20 + 8 * s)), (0, .ref 0), (1, .int (nI s)), (2, .int (nI l))]) (st' := [.int ((nI (l + 1)) + 1)]) (μ' := μ) (by rfl) ?_
                  rw [show nI (l + 1) + 1 = nI (l + 2) from nI_s1 _]
                  refine z_rcs hc hH 3 (pc' := 69) (lv' := [(4, .int (nI (l + 2))), (3, .ref (20 + 8 * s)), (0, .ref 0), (1, .int (nI s)), (2, .int (nI l))]) (st' := [.int ((nI l) + 2), .int (nI (l + 2))]) (μ' := μ) (by rfl) ?_
                  rw [show nI l + 2 = nI (l + 2) from by rw [show (2 : Int32) = nI 2 from rfl, nI_add]]
                  refine zq_ic hc hH (by rfl) (tg := 96) (by rfl) (fun h9 => ?_) (fun h9 => ?_)
                  · have h9 : (decide ((nI (l + 2)) < (nI (l + 2)))) = true := decide_eq_true (cm_gt.mp h9)
                    exact absurd (Eq.trans (Eq.symm (kn_nlg (by omega) (by omega) (by omega))) h9) (by decide)
                  · have h9 : (decide ((nI (l + 2)) < (nI (l + 2)))) = false := decide_eq_false (cn_gt.mp h9)
                    refine z_rcs hc hH 2 (pc' := 75) (lv' := [(4, .int (nI (l + 2))), (3, .ref (20 + 8 * s)), (0, .ref 0), (1, .int (nI s)), (2, .int (nI l))]) (st' := [.ref 0, .int (nI (l + 2))]) (μ' := μ) (by rfl) ?_
                    refine zq_gfi hc hH (by rfl) (ci := 5) (f := 15) (by rfl) (by decide +kernel) (by rfl) ?_
                    rw [hc15]
                    refine zq_ic hc hH (by rfl) (tg := 90) (by rfl) (fun h10 => ?_) (fun h10 => ?_)
                    · have h10 : (decide ((nI (l + 2)) = (nI (l + 1)))) = true := decide_eq_true (cm_eq9.mp h10)
                      exact absurd (Eq.trans (Eq.symm (kn_ne (by omega) (by omega) (by omega))) h10) (by decide)
                    · have h10 : (decide ((nI (l + 2)) = (nI (l + 1)))) = false := decide_eq_false (cn_eq.mp h10)
                      refine z_rcs hc hH 2 (pc' := 84) (lv' := [(4, .int (nI (l + 2))), (3, .ref (20 + 8 * s)), (0, .ref 0), (1, .int (nI s)), (2, .int (nI l))]) (st' := [.int (nI (l + 2)), .ref (20 + 8 * s)]) (μ' := μ) (by rfl) ?_
                      refine zq_iald hc hH (by rfl) 34 (oka_i (sj (P := fun i => oka 79 1 34 (20 + 8 * i)) hs4 (by decide +kernel))) (vp_in_nI (by omega) (by decide)) ?_
                      rw [nI_clamp (by omega)]
                      refine zq_if hc hH (by rfl) (tg := 90) (by rfl) (fun h11 => ?_) (fun h11 => ?_)
                      · have h11 : (decide ((μ.1 (20 + 8 * s) (l + 2)) = 0)) = false := decide_eq_false (cm_ne.mp h11)
                        exact absurd (Eq.trans (Eq.symm (hz2)) h11) (by decide)
                      · have h11 : (decide ((μ.1 (20 + 8 * s) (l + 2)) = 0)) = true := decide_eq_true (cn_ne.mp h11)
                        refine z_rcs hc hH 1 (pc' := 89) (lv' := [(4, .int (nI (l + 2))), (3, .ref (20 + 8 * s)), (0, .ref 0), (1, .int (nI s)), (2, .int (nI l))]) (st' := [.int 0]) (μ' := μ) (by rfl) ?_
                        exact hr 0 89 _ _ _ (some (.int 0)) (by decide +kernel) (by rfl) (⟨rfl, rfl⟩)
                · have h8 : (decide ((nI (l + 1)) = (nI (l + 1)))) = false := decide_eq_false (cn_eq.mp h8)
                  exact absurd (Eq.trans (Eq.symm (kn_eq rfl)) h8) (by decide)
            · have h6 : (decide ((μ.1 (20 + 8 * s) l) = 0)) = true := decide_eq_true (cn_ne.mp h6)
              exact absurd (Eq.trans (Eq.symm (hz1)) h6) (by decide)
      · have h3 : (decide ((nI (l + 1)) ≤ (nI (l + 2)))) = false := decide_eq_false (cn_le.mp h3)
        exact absurd (Eq.trans (Eq.symm (kn_nle (by omega) (by omega) (by omega))) h3) (by decide)
theorem gx_runA2 (d : Nat) (hd : 4 ≤ d) (μ : zM) (s l : Nat) (hs4 : s < 4) (hl : l + 2 ≤ 33) (hc15 : μ.1 0 15 = nI (l + 2)) (t u1 : Nat) (ht4 : t < 4) (ht : μ.1 0 8 = nI t) (hu1 : (t + 1) % 4 = u1) (hu14 : u1 < 4) (hmc : ∀ d, 3 ≤ d → z_C d mi_X6_mayClaimSet [.ref 0, .int (nI s)] μ (zR μ (.int 1))) (hsu : decide (nI s = nI u1) = true) (hsr : ∀ d, 1 ≤ d → z_C d mi_X6_startsRun [.int (nI l)] μ (zR μ (.int 1))) (hz1 : decide (μ.1 (20 + 8 * s) l = 0) = true) : z_C d mi_X6_run [.ref 0, .int (nI s), .int (nI l)] μ (fun r μ' => r = some (.int 0) ∧ μ' = μ) := by
  refine z_C_in (by decide) (by omega) (fun d' Z ed hc hr => ?_)
  have hH : zH mi_X6_run zc_X6_run 79 6 6 := ⟨by rfl, by rfl, by rfl, by rfl⟩
  refine z_rcs hc hH 2 (pc' := 2) (lv' := [(0, .ref 0), (1, .int (nI s)), (2, .int (nI l))]) (st' := [.int (nI s), .ref 0]) (μ' := μ) (by rfl) ?_
  refine zq_call hc (by rfl) (hmc d' (by omega)) (by decide +kernel) (fun r9 μ9 hq => ?_)
  obtain ⟨hμ9, rfl⟩ := hq
  rw [hμ9]
  clear hμ9 μ9
  show Z 0 5 [(0, .ref 0), (1, .int (nI s)), (2, .int (nI l))] [.int 1] μ
  refine z_rcs hc hH 3 (pc' := 10) (lv' := [(0, .ref 0), (1, .int (nI s)), (2, .int (nI l))]) (st' := [.ref 0, .int (nI s)]) (μ' := μ) (by rfl) ?_
  refine zq_gfi hc hH (by rfl) (ci := 5) (f := 8) (by rfl) (by decide +kernel) (by rfl) ?_
  rw [ht]
  refine z_rcs hc hH 2 (pc' := 15) (lv' := [(0, .ref 0), (1, .int (nI s)), (2, .int (nI l))]) (st' := [.int ((nI t) + 1), .int (nI s)]) (μ' := μ) (by rfl) ?_
  rw [nI_s1]
  refine z_rcs hc hH 2 (pc' := 17) (lv' := [(0, .ref 0), (1, .int (nI s)), (2, .int (nI l))]) (st' := [.int ((nI (t + 1)) &&& 3), .int (nI s)]) (μ' := μ) (by rfl) ?_
  rw [show nI (t + 1) &&& 3 = nI u1 from by rw [and3 (by omega), hu1]]
  refine zq_ic hc hH (by rfl) (tg := 27) (by rfl) (fun h1 => ?_) (fun h1 => ?_)
  · have h1 : (decide ((nI s) = (nI u1))) = false := decide_eq_false (cm_ne.mp h1)
    exact absurd (Eq.trans (Eq.symm (hsu)) h1) (by decide)
  · have h1 : (decide ((nI s) = (nI u1))) = true := decide_eq_true (cn_ne.mp h1)
    refine z_rcs hc hH 1 (pc' := 21) (lv' := [(0, .ref 0), (1, .int (nI s)), (2, .int (nI l))]) (st' := [.int (nI l)]) (μ' := μ) (by rfl) ?_
    refine zq_call hc (by rfl) (hsr d' (by omega)) (by decide +kernel) (fun r9 μ9 hq => ?_)
    obtain ⟨hμ9, rfl⟩ := hq
    rw [hμ9]
    clear hμ9 μ9
    show Z 0 24 [(0, .ref 0), (1, .int (nI s)), (2, .int (nI l))] [.int 1] μ
    refine z_rcs hc hH 2 (pc' := 30) (lv' := [(0, .ref 0), (1, .int (nI s)), (2, .int (nI l))]) (st' := [.ref 0]) (μ' := μ) (by rfl) ?_
    refine zq_gfi hc hH (by rfl) (ci := 5) (f := 15) (by rfl) (by decide +kernel) (by rfl) ?_
    rw [hc15]
    refine z_rcs hc hH 1 (pc' := 34) (lv' := [(0, .ref 0), (1, .int (nI s)), (2, .int (nI l))]) (st' := [.int (nI l), .int (nI (l + 2))]) (μ' := μ) (by rfl) ?_
    refine zq_ic hc hH (by rfl) (tg := 47) (by rfl) (fun h2 => ?_) (fun h2 => ?_)
    · have h2 : (decide ((nI (l + 2)) < (nI l))) = true := decide_eq_true (cm_lt.mp h2)
      exact absurd (Eq.trans (Eq.symm (kn_nlg (by omega) (by omega) (by omega))) h2) (by decide)
    · have h2 : (decide ((nI (l + 2)) < (nI l))) = false := decide_eq_false (cn_lt.mp h2)
      refine z_rcs hc hH 1 (pc' := 38) (lv' := [(0, .ref 0), (1, .int (nI s)), (2, .int (nI l))]) (st' := [.ref 0]) (μ' := μ) (by rfl) ?_
      refine zq_gfi hc hH (by rfl) (ci := 5) (f := 15) (by rfl) (by decide +kernel) (by rfl) ?_
      rw [hc15]
      refine z_rcs hc hH 3 (pc' := 44) (lv' := [(0, .ref 0), (1, .int (nI s)), (2, .int (nI l))]) (st' := [.int ((nI l) + 2), .int (nI (l + 2))]) (μ' := μ) (by rfl) ?_
      rw [show nI l + 2 = nI (l + 2) from by rw [show (2 : Int32) = nI 2 from rfl, nI_add]]
      refine zq_ic hc hH (by rfl) (tg := 49) (by rfl) (fun h3 => ?_) (fun h3 => ?_)
      · have h3 : (decide ((nI (l + 2)) ≤ (nI (l + 2)))) = true := decide_eq_true (cm_le.mp h3)
        refine z_rcs hc hH 2 (pc' := 51) (lv' := [(0, .ref 0), (1, .int (nI s)), (2, .int (nI l))]) (st' := [.int (nI s), .ref 0]) (μ' := μ) (by rfl) ?_
        refine zq_call hc (by rfl) (gc_at4 d' (by omega) μ s hs4) (by decide +kernel) (fun r9 μ9 hq => ?_)
        obtain ⟨hμ9, rfl⟩ := hq
        rw [hμ9]
        clear hμ9 μ9
        show Z 0 54 [(0, .ref 0), (1, .int (nI s)), (2, .int (nI l))] [.ref (18 + 8 * s)] μ
        refine zq_gfr hc hH (by rfl) (ci := 1) (f := 0) (q := 19 + 8 * s) (by rfl) (sj (P := fun i => okf 79 1 0 (18 + 8 * i)) hs4 (by decide +kernel)) (by rfl) (sj (P := fun i => Nat.beq (z_gr (18 + 8 * i) 0) (19 + 8 * i)) hs4 (by decide +kernel)) ?_
        refine zq_gfr hc hH (by rfl) (ci := 2) (f := 0) (q := 20 + 8 * s) (by rfl) (sj (P := fun i => okf 79 2 0 (19 + 8 * i)) hs4 (by decide +kernel)) (by rfl) (sj (P := fun i => Nat.beq (z_gr (19 + 8 * i) 0) (20 + 8 * i)) hs4 (by decide +kernel)) ?_
        refine z_rcs hc hH 7 (pc' := 69) (lv' := [(4, .int (nI l)), (3, .ref (20 + 8 * s)), (0, .ref 0), (1, .int (nI s)), (2, .int (nI l))]) (st' := [.int ((nI l) + 2), .int (nI l)]) (μ' := μ) (by rfl) ?_
        rw [show nI l + 2 = nI (l + 2) from by rw [show (2 : Int32) = nI 2 from rfl, nI_add]]
        refine zq_ic hc hH (by rfl) (tg := 96) (by rfl) (fun h4 => ?_) (fun h4 => ?_)
        · have h4 : (decide ((nI (l + 2)) < (nI l))) = true := decide_eq_true (cm_gt.mp h4)
          exact absurd (Eq.trans (Eq.symm (kn_nlg (by omega) (by omega) (by omega))) h4) (by decide)
        · have h4 : (decide ((nI (l + 2)) < (nI l))) = false := decide_eq_false (cn_gt.mp h4)
          refine z_rcs hc hH 2 (pc' := 75) (lv' := [(4, .int (nI l)), (3, .ref (20 + 8 * s)), (0, .ref 0), (1, .int (nI s)), (2, .int (nI l))]) (st' := [.ref 0, .int (nI l)]) (μ' := μ) (by rfl) ?_
          refine zq_gfi hc hH (by rfl) (ci := 5) (f := 15) (by rfl) (by decide +kernel) (by rfl) ?_
          rw [hc15]
          refine zq_ic hc hH (by rfl) (tg := 90) (by rfl) (fun h5 => ?_) (fun h5 => ?_)
          · have h5 : (decide ((nI l) = (nI (l + 2)))) = true := decide_eq_true (cm_eq9.mp h5)
            exact absurd (Eq.trans (Eq.symm (kn_ne (by omega) (by omega) (by omega))) h5) (by decide)
          · have h5 : (decide ((nI l) = (nI (l + 2)))) = false := decide_eq_false (cn_eq.mp h5)
            refine z_rcs hc hH 2 (pc' := 84) (lv' := [(4, .int (nI l)), (3, .ref (20 + 8 * s)), (0, .ref 0), (1, .int (nI s)), (2, .int (nI l))]) (st' := [.int (nI l), .ref (20 + 8 * s)]) (μ' := μ) (by rfl) ?_
            refine zq_iald hc hH (by rfl) 34 (oka_i (sj (P := fun i => oka 79 1 34 (20 + 8 * i)) hs4 (by decide +kernel))) (vp_in_nI (by omega) (by decide)) ?_
            rw [nI_clamp (by omega)]
            refine zq_if hc hH (by rfl) (tg := 90) (by rfl) (fun h6 => ?_) (fun h6 => ?_)
            · have h6 : (decide ((μ.1 (20 + 8 * s) l) = 0)) = false := decide_eq_false (cm_ne.mp h6)
              exact absurd (Eq.trans (Eq.symm (hz1)) h6) (by decide)
            · have h6 : (decide ((μ.1 (20 + 8 * s) l) = 0)) = true := decide_eq_true (cn_ne.mp h6)
              refine z_rcs hc hH 1 (pc' := 89) (lv' := [(4, .int (nI l)), (3, .ref (20 + 8 * s)), (0, .ref 0), (1, .int (nI s)), (2, .int (nI l))]) (st' := [.int 0]) (μ' := μ) (by rfl) ?_
              exact hr 0 89 _ _ _ (some (.int 0)) (by decide +kernel) (by rfl) (⟨rfl, rfl⟩)
      · have h3 : (decide ((nI (l + 2)) ≤ (nI (l + 2)))) = false := decide_eq_false (cn_le.mp h3)
        exact absurd (Eq.trans (Eq.symm (kn_nle (by omega) (by omega) (by omega))) h3) (by decide)
theorem gx_runB2 (d : Nat) (hd : 4 ≤ d) (μ : zM) (s l : Nat) (hs4 : s < 4) (hl : l + 2 ≤ 33) (hc15 : μ.1 0 15 = nI (l + 2)) (t u1 : Nat) (ht4 : t < 4) (ht : μ.1 0 8 = nI t) (hu1 : (t + 1) % 4 = u1) (hu14 : u1 < 4) (hmc : ∀ d, 3 ≤ d → z_C d mi_X6_mayClaimSet [.ref 0, .int (nI s)] μ (zR μ (.int 1))) (hsu : decide (nI s = nI u1) = true) (hsr : ∀ d, 1 ≤ d → z_C d mi_X6_startsRun [.int (nI l)] μ (zR μ (.int 1))) (hz1 : decide (μ.1 (20 + 8 * s) l = 0) = false) (hz2 : decide (μ.1 (20 + 8 * s) (l + 1) = 0) = true) : z_C d mi_X6_run [.ref 0, .int (nI s), .int (nI l)] μ (fun r μ' => r = some (.int 0) ∧ μ' = μ) := by
  refine z_C_in (by decide) (by omega) (fun d' Z ed hc hr => ?_)
  have hH : zH mi_X6_run zc_X6_run 79 6 6 := ⟨by rfl, by rfl, by rfl, by rfl⟩
  refine z_rcs hc hH 2 (pc' := 2) (lv' := [(0, .ref 0), (1, .int (nI s)), (2, .int (nI l))]) (st' := [.int (nI s), .ref 0]) (μ' := μ) (by rfl) ?_
  refine zq_call hc (by rfl) (hmc d' (by omega)) (by decide +kernel) (fun r9 μ9 hq => ?_)
  obtain ⟨hμ9, rfl⟩ := hq
  rw [hμ9]
  clear hμ9 μ9
  show Z 0 5 [(0, .ref 0), (1, .int (nI s)), (2, .int (nI l))] [.int 1] μ
  refine z_rcs hc hH 3 (pc' := 10) (lv' := [(0, .ref 0), (1, .int (nI s)), (2, .int (nI l))]) (st' := [.ref 0, .int (nI s)]) (μ' := μ) (by rfl) ?_
  refine zq_gfi hc hH (by rfl) (ci := 5) (f := 8) (by rfl) (by decide +kernel) (by rfl) ?_
  rw [ht]
  refine z_rcs hc hH 2 (pc' := 15) (lv' := [(0, .ref 0), (1, .int (nI s)), (2, .int (nI l))]) (st' := [.int ((nI t) + 1), .int (nI s)]) (μ' := μ) (by rfl) ?_
  rw [nI_s1]
  refine z_rcs hc hH 2 (pc' := 17) (lv' := [(0, .ref 0), (1, .int (nI s)), (2, .int (nI l))]) (st' := [.int ((nI (t + 1)) &&& 3), .int (nI s)]) (μ' := μ) (by rfl) ?_
  rw [show nI (t + 1) &&& 3 = nI u1 from by rw [and3 (by omega), hu1]]
  refine zq_ic hc hH (by rfl) (tg := 27) (by rfl) (fun h1 => ?_) (fun h1 => ?_)
  · have h1 : (decide ((nI s) = (nI u1))) = false := decide_eq_false (cm_ne.mp h1)
    exact absurd (Eq.trans (Eq.symm (hsu)) h1) (by decide)
  · have h1 : (decide ((nI s) = (nI u1))) = true := decide_eq_true (cn_ne.mp h1)
    refine z_rcs hc hH 1 (pc' := 21) (lv' := [(0, .ref 0), (1, .int (nI s)), (2, .int (nI l))]) (st' := [.int (nI l)]) (μ' := μ) (by rfl) ?_
    refine zq_call hc (by rfl) (hsr d' (by omega)) (by decide +kernel) (fun r9 μ9 hq => ?_)
    obtain ⟨hμ9, rfl⟩ := hq
    rw [hμ9]
    clear hμ9 μ9
    show Z 0 24 [(0, .ref 0), (1, .int (nI s)), (2, .int (nI l))] [.int 1] μ
    refine z_rcs hc hH 2 (pc' := 30) (lv' := [(0, .ref 0), (1, .int (nI s)), (2, .int (nI l))]) (st' := [.ref 0]) (μ' := μ) (by rfl) ?_
    refine zq_gfi hc hH (by rfl) (ci := 5) (f := 15) (by rfl) (by decide +kernel) (by rfl) ?_
    rw [hc15]
    refine z_rcs hc hH 1 (pc' := 34) (lv' := [(0, .ref 0), (1, .int (nI s)), (2, .int (nI l))]) (st' := [.int (nI l), .int (nI (l + 2))]) (μ' := μ) (by rfl) ?_
    refine zq_ic hc hH (by rfl) (tg := 47) (by rfl) (fun h2 => ?_) (fun h2 => ?_)
    · have h2 : (decide ((nI (l + 2)) < (nI l))) = true := decide_eq_true (cm_lt.mp h2)
      exact absurd (Eq.trans (Eq.symm (kn_nlg (by omega) (by omega) (by omega))) h2) (by decide)
    · have h2 : (decide ((nI (l + 2)) < (nI l))) = false := decide_eq_false (cn_lt.mp h2)
      refine z_rcs hc hH 1 (pc' := 38) (lv' := [(0, .ref 0), (1, .int (nI s)), (2, .int (nI l))]) (st' := [.ref 0]) (μ' := μ) (by rfl) ?_
      refine zq_gfi hc hH (by rfl) (ci := 5) (f := 15) (by rfl) (by decide +kernel) (by rfl) ?_
      rw [hc15]
      refine z_rcs hc hH 3 (pc' := 44) (lv' := [(0, .ref 0), (1, .int (nI s)), (2, .int (nI l))]) (st' := [.int ((nI l) + 2), .int (nI (l + 2))]) (μ' := μ) (by rfl) ?_
      rw [show nI l + 2 = nI (l + 2) from by rw [show (2 : Int32) = nI 2 from rfl, nI_add]]
      refine zq_ic hc hH (by rfl) (tg := 49) (by rfl) (fun h3 => ?_) (fun h3 => ?_)
      · have h3 : (decide ((nI (l + 2)) ≤ (nI (l + 2)))) = true := decide_eq_true (cm_le.mp h3)
        refine z_rcs hc hH 2 (pc' := 51) (lv' := [(0, .ref 0), (1, .int (nI s)), (2, .int (nI l))]) (st' := [.int (nI s), .ref 0]) (μ' := μ) (by rfl) ?_
        refine zq_call hc (by rfl) (gc_at4 d' (by omega) μ s hs4) (by decide +kernel) (fun r9 μ9 hq => ?_)
        obtain ⟨hμ9, rfl⟩ := hq
        rw [hμ9]
        clear hμ9 μ9
        show Z 0 54 [(0, .ref 0), (1, .int (nI s)), (2, .int (nI l))] [.ref (18 + 8 * s)] μ
        refine zq_gfr hc hH (by rfl) (ci := 1) (f := 0) (q := 19 + 8 * s) (by rfl) (sj (P := fun i => okf 79 1 0 (18 + 8 * i)) hs4 (by decide +kernel)) (by rfl) (sj (P := fun i => Nat.beq (z_gr (18 + 8 * i) 0) (19 + 8 * i)) hs4 (by decide +kernel)) ?_
        refine zq_gfr hc hH (by rfl) (ci := 2) (f := 0) (q := 20 + 8 * s) (by rfl) (sj (P := fun i => okf 79 2 0 (19 + 8 * i)) hs4 (by decide +kernel)) (by rfl) (sj (P := fun i => Nat.beq (z_gr (19 + 8 * i) 0) (20 + 8 * i)) hs4 (by decide +kernel)) ?_
        refine z_rcs hc hH 7 (pc' := 69) (lv' := [(4, .int (nI l)), (3, .ref (20 + 8 * s)), (0, .ref 0), (1, .int (nI s)), (2, .int (nI l))]) (st' := [.int ((nI l) + 2), .int (nI l)]) (μ' := μ) (by rfl) ?_
        rw [show nI l + 2 = nI (l + 2) from by rw [show (2 : Int32) = nI 2 from rfl, nI_add]]
        refine zq_ic hc hH (by rfl) (tg := 96) (by rfl) (fun h4 => ?_) (fun h4 => ?_)
        · have h4 : (decide ((nI (l + 2)) < (nI l))) = true := decide_eq_true (cm_gt.mp h4)
          exact absurd (Eq.trans (Eq.symm (kn_nlg (by omega) (by omega) (by omega))) h4) (by decide)
        · have h4 : (decide ((nI (l + 2)) < (nI l))) = false := decide_eq_false (cn_gt.mp h4)
          refine z_rcs hc hH 2 (pc' := 75) (lv' := [(4, .int (nI l)), (3, .ref (20 + 8 * s)), (0, .ref 0), (1, .int (nI s)), (2, .int (nI l))]) (st' := [.ref 0, .int (nI l)]) (μ' := μ) (by rfl) ?_
          refine zq_gfi hc hH (by rfl) (ci := 5) (f := 15) (by rfl) (by decide +kernel) (by rfl) ?_
          rw [hc15]
          refine zq_ic hc hH (by rfl) (tg := 90) (by rfl) (fun h5 => ?_) (fun h5 => ?_)
          · have h5 : (decide ((nI l) = (nI (l + 2)))) = true := decide_eq_true (cm_eq9.mp h5)
            exact absurd (Eq.trans (Eq.symm (kn_ne (by omega) (by omega) (by omega))) h5) (by decide)
          · have h5 : (decide ((nI l) = (nI (l + 2)))) = false := decide_eq_false (cn_eq.mp h5)
            refine z_rcs hc hH 2 (pc' := 84) (lv' := [(4, .int (nI l)), (3, .ref (20 + 8 * s)), (0, .ref 0), (1, .int (nI s)), (2, .int (nI l))]) (st' := [.int (nI l), .ref (20 + 8 * s)]) (μ' := μ) (by rfl) ?_
            refine zq_iald hc hH (by rfl) 34 (oka_i (sj (P := fun i => oka 79 1 34 (20 + 8 * i)) hs4 (by decide +kernel))) (vp_in_nI (by omega) (by decide)) ?_
            rw [nI_clamp (by omega)]
            refine zq_if hc hH (by rfl) (tg := 90) (by rfl) (fun h6 => ?_) (fun h6 => ?_)
            · have h6 : (decide ((μ.1 (20 + 8 * s) l) = 0)) = false := decide_eq_false (cm_ne.mp h6)
              refine z_rcs hc hH 3 (pc' := 66) (lv' := [(4, .int ((nI l) + 1)), (3, .ref (20 + 8 * s)), (0, .ref 0), (1, .int (nI s)), (2, .int (nI l))]) (st' := [.int ((nI l) + 1)]) (μ' := μ) (by rfl) ?_
              rw [show nI l + 1 = nI (l + 1) from by rw [show (1 : Int32) = nI 1 from rfl, nI_add]]
              refine z_rcs hc hH 3 (pc' := 69) (lv' := [(4, .int (nI (l + 1))), (3, .ref (20 + 8 * s)), (0, .ref 0), (1, .int (nI s)), (2, .int (nI l))]) (st' := [.int ((nI l) + 2), .int (nI (l + 1))]) (μ' := μ) (by rfl) ?_
              rw [show nI l + 2 = nI (l + 2) from by rw [show (2 : Int32) = nI 2 from rfl, nI_add]]
              refine zq_ic hc hH (by rfl) (tg := 96) (by rfl) (fun h7 => ?_) (fun h7 => ?_)
              · have h7 : (decide ((nI (l + 2)) < (nI (l + 1)))) = true := decide_eq_true (cm_gt.mp h7)
                exact absurd (Eq.trans (Eq.symm (kn_nlg (by omega) (by omega) (by omega))) h7) (by decide)
              · have h7 : (decide ((nI (l + 2)) < (nI (l + 1)))) = false := decide_eq_false (cn_gt.mp h7)
                refine z_rcs hc hH 2 (pc' := 75) (lv' := [(4, .int (nI (l + 1))), (3, .ref (20 + 8 * s)), (0, .ref 0), (1, .int (nI s)), (2, .int (nI l))]) (st' := [.ref 0, .int (nI (l + 1))]) (μ' := μ) (by rfl) ?_
                refine zq_gfi hc hH (by rfl) (ci := 5) (f := 15) (by rfl) (by decide +kernel) (by rfl) ?_
                rw [hc15]
                refine zq_ic hc hH (by rfl) (tg := 90) (by rfl) (fun h8 => ?_) (fun h8 => ?_)
                · have h8 : (decide ((nI (l + 1)) = (nI (l + 2)))) = true := decide_eq_true (cm_eq9.mp h8)
                  exact absurd (Eq.trans (Eq.symm (kn_ne (by omega) (by omega) (by omega))) h8) (by decide)
                · have h8 : (decide ((nI (l + 1)) = (nI (l + 2)))) = false := decide_eq_false (cn_eq.mp h8)
                  refine z_rcs hc hH 2 (pc' := 84) (lv' := [(4, .int (nI (l + 1))), (3, .ref (20 + 8 * s)), (0, .ref 0), (1, .int (nI s)), (2, .int (nI l))]) (st' := [.int (nI (l + 1)), .ref (20 + 8 * s)]) (μ' := μ) (by rfl) ?_
                  refine zq_iald hc hH (by rfl) 34 (oka_i (sj (P := fun i => oka 79 1 34 (20 + 8 * i)) hs4 (by decide +kernel))) (vp_in_nI (by omega) (by decide)) ?_
                  rw [nI_clamp (by omega)]
                  refine zq_if hc hH (by rfl) (tg := 90) (by rfl) (fun h9 => ?_) (fun h9 => ?_)
                  · have h9 : (decide ((μ.1 (20 + 8 * s) (l + 1)) = 0)) = false := decide_eq_false (cm_ne.mp h9)
                    exact absurd (Eq.trans (Eq.symm (hz2)) h9) (by decide)
                  · have h9 : (decide ((μ.1 (20 + 8 * s) (l + 1)) = 0)) = true := decide_eq_true (cn_ne.mp h9)
                    refine z_rcs hc hH 1 (pc' := 89) (lv' := [(4, .int (nI (l + 1))), (3, .ref (20 + 8 * s)), (0, .ref 0), (1, .int (nI s)), (2, .int (nI l))]) (st' := [.int 0]) (μ' := μ) (by rfl) ?_
                    exact hr 0 89 _ _ _ (some (.int 0)) (by decide +kernel) (by rfl) (⟨rfl, rfl⟩)
            · have h6 : (decide ((μ.1 (20 + 8 * s) l) = 0)) = true := decide_eq_true (cn_ne.mp h6)
              exact absurd (Eq.trans (Eq.symm (hz1)) h6) (by decide)
      · have h3 : (decide ((nI (l + 2)) ≤ (nI (l + 2)))) = false := decide_eq_false (cn_le.mp h3)
        exact absurd (Eq.trans (Eq.symm (kn_nle (by omega) (by omega) (by omega))) h3) (by decide)
theorem mr_threeH (d : Nat) (hd : 4 ≤ d) (μ : zM) (s c : Nat) (hs4 : s < 4) (hc : c < 34) (hc49 : μ.1 50 49 = nI c) (hmc : ∀ d, 2 ≤ d → z_C d mi_X7_mayClaim [.ref 50, .int (nI s)] (z_ui μ 50 0 0) (zR (z_ui μ 50 0 0) (.int 1))) (hf : decide (2 ≤ μ.1 60 (34 * s + c)) = false) : z_C d mi_X7_three [.ref 50, .int (nI s)] μ (fun r μ' => r = some (.int 0) ∧ μ' = z_ui μ 50 0 0) := by
  refine z_C_in (by decide) (by omega) (fun d' Z ed hc hr => ?_)
  have hH : zH mi_X7_three zc_X7_three 79 7 3 := ⟨by rfl, by rfl, by rfl, by rfl⟩
  refine z_rcs hc hH 2 (pc' := 2) (lv' := [(0, .ref 50), (1, .int (nI s))]) (st' := [.int 0, .ref 50]) (μ' := μ) (by rfl) ?_
  refine zq_pfi hc hH (by rfl) (ci := 6) (f := 0) (by rfl) (by decide +kernel) (by rfl) ?_
  show Z 0 5 [(0, .ref 50), (1, .int (nI s))] [] (z_ui μ 50 0 0)
  refine z_rcs hc hH 2 (pc' := 7) (lv' := [(0, .ref 50), (1, .int (nI s))]) (st' := [.int (nI s), .ref 50]) (μ' := z_ui μ 50 0 0) (by rfl) ?_
  refine zq_call hc (by rfl) (hmc d' (by omega)) (by decide +kernel) (fun r9 μ9 hq => ?_)
  obtain ⟨hμ9, rfl⟩ := hq
  rw [hμ9]
  clear hμ9 μ9
  show Z 0 10 [(0, .ref 50), (1, .int (nI s))] [.int 1] (z_ui μ 50 0 0)
  refine z_rcs hc hH 4 (pc' := 16) (lv' := [(0, .ref 50), (1, .int (nI s))]) (st' := [.ref 50, .int (nI s), .ref 50]) (μ' := z_ui μ 50 0 0) (by rfl) ?_
  refine zq_gfi hc hH (by rfl) (ci := 6) (f := 49) (by rfl) (by decide +kernel) (by rfl) ?_
  rw [ui_k (by omega)]
  rw [hc49]
  refine zq_call hc (by rfl) (fc_X7_has_ d' (by omega) (z_ui μ 50 0 0) s c hs4 (by omega)) (by decide +kernel) (fun r9 μ9 hq => ?_)
  obtain ⟨hμ9, rfl⟩ := hq
  rw [hμ9]
  clear hμ9 μ9
  rw [ui_o (by omega)]
  show Z 0 22 [(0, .ref 50), (1, .int (nI s))] [.int (μ.1 60 (34 * s + c))] (z_ui μ 50 0 0)
  refine z_rcs hc hH 1 (pc' := 23) (lv' := [(0, .ref 50), (1, .int (nI s))]) (st' := [.int 2, .int (μ.1 60 (34 * s + c))]) (μ' := z_ui μ 50 0 0) (by rfl) ?_
  refine zq_ic hc hH (by rfl) (tg := 28) (by rfl) (fun h1 => ?_) (fun h1 => ?_)
  · have h1 : (decide (2 ≤ (μ.1 60 (34 * s + c)))) = true := decide_eq_true (cm_ge.mp h1)
    exact absurd (Eq.trans (Eq.symm (hf)) h1) (by decide)
  · have h1 : (decide (2 ≤ (μ.1 60 (34 * s + c)))) = false := decide_eq_false (cn_ge.mp h1)
    refine z_rcs hc hH 1 (pc' := 27) (lv' := [(0, .ref 50), (1, .int (nI s))]) (st' := [.int 0]) (μ' := z_ui μ 50 0 0) (by rfl) ?_
    exact hr 0 27 _ _ _ (some (.int 0)) (by decide +kernel) (by rfl) (⟨rfl, rfl⟩)
theorem mr_fourH (d : Nat) (hd : 4 ≤ d) (μ : zM) (s c : Nat) (hs4 : s < 4) (hc : c < 34) (hc49 : μ.1 50 49 = nI c) (hmc : ∀ d, 2 ≤ d → z_C d mi_X7_mayClaim [.ref 50, .int (nI s)] (z_ui μ 50 0 0) (zR (z_ui μ 50 0 0) (.int 1))) (hf : decide (μ.1 60 (34 * s + c) < 3) = true) : z_C d mi_X7_four [.ref 50, .int (nI s)] μ (fun r μ' => r = some (.int 0) ∧ μ' = z_ui μ 50 0 0) := by
  refine z_C_in (by decide) (by omega) (fun d' Z ed hc hr => ?_)
  have hH : zH mi_X7_four zc_X7_four 79 7 2 := ⟨by rfl, by rfl, by rfl, by rfl⟩
  refine z_rcs hc hH 2 (pc' := 2) (lv' := [(0, .ref 50), (1, .int (nI s))]) (st' := [.int 0, .ref 50]) (μ' := μ) (by rfl) ?_
  refine zq_pfi hc hH (by rfl) (ci := 6) (f := 0) (by rfl) (by decide +kernel) (by rfl) ?_
  show Z 0 5 [(0, .ref 50), (1, .int (nI s))] [] (z_ui μ 50 0 0)
  refine z_rcs hc hH 2 (pc' := 7) (lv' := [(0, .ref 50), (1, .int (nI s))]) (st' := [.int (nI s), .ref 50]) (μ' := z_ui μ 50 0 0) (by rfl) ?_
  refine zq_call hc (by rfl) (hmc d' (by omega)) (by decide +kernel) (fun r9 μ9 hq => ?_)
  obtain ⟨hμ9, rfl⟩ := hq
  rw [hμ9]
  clear hμ9 μ9
  show Z 0 10 [(0, .ref 50), (1, .int (nI s))] [.int 1] (z_ui μ 50 0 0)
  refine z_rcs hc hH 4 (pc' := 16) (lv' := [(0, .ref 50), (1, .int (nI s))]) (st' := [.ref 50, .int (nI s), .ref 50]) (μ' := z_ui μ 50 0 0) (by rfl) ?_
  refine zq_gfi hc hH (by rfl) (ci := 6) (f := 49) (by rfl) (by decide +kernel) (by rfl) ?_
  rw [ui_k (by omega)]
  rw [hc49]
  refine zq_call hc (by rfl) (fc_X7_has_ d' (by omega) (z_ui μ 50 0 0) s c hs4 (by omega)) (by decide +kernel) (fun r9 μ9 hq => ?_)
  obtain ⟨hμ9, rfl⟩ := hq
  rw [hμ9]
  clear hμ9 μ9
  rw [ui_o (by omega)]
  show Z 0 22 [(0, .ref 50), (1, .int (nI s))] [.int (μ.1 60 (34 * s + c))] (z_ui μ 50 0 0)
  refine z_rcs hc hH 1 (pc' := 23) (lv' := [(0, .ref 50), (1, .int (nI s))]) (st' := [.int 3, .int (μ.1 60 (34 * s + c))]) (μ' := z_ui μ 50 0 0) (by rfl) ?_
  refine zq_ic hc hH (by rfl) (tg := 34) (by rfl) (fun h1 => ?_) (fun h1 => ?_)
  · have h1 : (decide ((μ.1 60 (34 * s + c)) < 3)) = true := decide_eq_true (cm_lt.mp h1)
    refine z_rcs hc hH 1 (pc' := 35) (lv' := [(0, .ref 50), (1, .int (nI s))]) (st' := [.int 0]) (μ' := z_ui μ 50 0 0) (by rfl) ?_
    exact hr 0 35 _ _ _ (some (.int 0)) (by decide +kernel) (by rfl) (⟨rfl, rfl⟩)
  · have h1 : (decide ((μ.1 60 (34 * s + c)) < 3)) = false := decide_eq_false (cn_lt.mp h1)
    exact absurd (Eq.trans (Eq.symm (hf)) h1) (by decide)
theorem mr_runS (d : Nat) (hd : 4 ≤ d) (μ : zM) (s : Nat) (hs4 : s < 4) (x : Int32) (t u1 : Nat) (ht4 : t < 4) (ht : μ.1 50 45 = nI t) (hu1 : (t + 1) % 4 = u1) (hu14 : u1 < 4) (hmc : ∀ d, 2 ≤ d → z_C d mi_X7_mayClaim [.ref 50, .int (nI s)] (z_ui μ 50 0 0) (zR (z_ui μ 50 0 0) (.int 1))) (hsu : decide (nI s = nI u1) = false) : z_C d mi_X7_run [.ref 50, .int (nI s), .int x] μ (fun r μ' => r = some (.int 0) ∧ μ' = z_ui μ 50 0 0) := by
  refine z_C_in (by decide) (by omega) (fun d' Z ed hc hr => ?_)
  have hH : zH mi_X7_run zc_X7_run 79 7 5 := ⟨by rfl, by rfl, by rfl, by rfl⟩
  refine z_rcs hc hH 2 (pc' := 2) (lv' := [(0, .ref 50), (1, .int (nI s)), (2, .int x)]) (st' := [.int 0, .ref 50]) (μ' := μ) (by rfl) ?_
  refine zq_pfi hc hH (by rfl) (ci := 6) (f := 0) (by rfl) (by decide +kernel) (by rfl) ?_
  show Z 0 5 [(0, .ref 50), (1, .int (nI s)), (2, .int x)] [] (z_ui μ 50 0 0)
  refine z_rcs hc hH 2 (pc' := 7) (lv' := [(0, .ref 50), (1, .int (nI s)), (2, .int x)]) (st' := [.int (nI s), .ref 50]) (μ' := z_ui μ 50 0 0) (by rfl) ?_
  refine zq_call hc (by rfl) (hmc d' (by omega)) (by decide +kernel) (fun r9 μ9 hq => ?_)
  obtain ⟨hμ9, rfl⟩ := hq
  rw [hμ9]
  clear hμ9 μ9
  show Z 0 10 [(0, .ref 50), (1, .int (nI s)), (2, .int x)] [.int 1] (z_ui μ 50 0 0)
  refine z_rcs hc hH 3 (pc' := 15) (lv' := [(0, .ref 50), (1, .int (nI s)), (2, .int x)]) (st' := [.ref 50, .int (nI s)]) (μ' := z_ui μ 50 0 0) (by rfl) ?_
  refine zq_gfi hc hH (by rfl) (ci := 6) (f := 45) (by rfl) (by decide +kernel) (by rfl) ?_
  rw [ui_k (by omega)]
  rw [ht]
  refine z_rcs hc hH 2 (pc' := 20) (lv' := [(0, .ref 50), (1, .int (nI s)), (2, .int x)]) (st' := [.int ((nI t) + 1), .int (nI s)]) (μ' := z_ui μ 50 0 0) (by rfl) ?_
  rw [nI_s1]
  refine z_rcs hc hH 2 (pc' := 22) (lv' := [(0, .ref 50), (1, .int (nI s)), (2, .int x)]) (st' := [.int ((nI (t + 1)) - (nI (t + 1)) / 4 * 4), .int (nI s)]) (μ' := z_ui μ 50 0 0) (by rfl) ?_
  rw [show nI (t + 1) - nI (t + 1) / 4 * 4 = nI u1 from by rw [rm4 _ (by omega), hu1]]
  refine zq_ic hc hH (by rfl) (tg := 50) (by rfl) (fun h1 => ?_) (fun h1 => ?_)
  · have h1 : (decide ((nI s) = (nI u1))) = false := decide_eq_false (cm_ne.mp h1)
    refine z_rcs hc hH 1 (pc' := 51) (lv' := [(0, .ref 50), (1, .int (nI s)), (2, .int x)]) (st' := [.int 0]) (μ' := z_ui μ 50 0 0) (by rfl) ?_
    exact hr 0 51 _ _ _ (some (.int 0)) (by decide +kernel) (by rfl) (⟨rfl, rfl⟩)
  · have h1 : (decide ((nI s) = (nI u1))) = true := decide_eq_true (cn_ne.mp h1)
    exact absurd (Eq.trans (Eq.symm (hsu)) h1) (by decide)
theorem mr_runR (d : Nat) (hd : 4 ≤ d) (μ : zM) (s : Nat) (hs4 : s < 4) (x : Int32) (t u1 : Nat) (ht4 : t < 4) (ht : μ.1 50 45 = nI t) (hu1 : (t + 1) % 4 = u1) (hu14 : u1 < 4) (hmc : ∀ d, 2 ≤ d → z_C d mi_X7_mayClaim [.ref 50, .int (nI s)] (z_ui μ 50 0 0) (zR (z_ui μ 50 0 0) (.int 1))) (hsu : decide (nI s = nI u1) = true) (hsr : ∀ d, 1 ≤ d → z_C d mi_X7_isRun [.int x] (z_ui μ 50 0 0) (zR (z_ui μ 50 0 0) (.int 0))) : z_C d mi_X7_run [.ref 50, .int (nI s), .int x] μ (fun r μ' => r = some (.int 0) ∧ μ' = z_ui μ 50 0 0) := by
  refine z_C_in (by decide) (by omega) (fun d' Z ed hc hr => ?_)
  have hH : zH mi_X7_run zc_X7_run 79 7 5 := ⟨by rfl, by rfl, by rfl, by rfl⟩
  refine z_rcs hc hH 2 (pc' := 2) (lv' := [(0, .ref 50), (1, .int (nI s)), (2, .int x)]) (st' := [.int 0, .ref 50]) (μ' := μ) (by rfl) ?_
  refine zq_pfi hc hH (by rfl) (ci := 6) (f := 0) (by rfl) (by decide +kernel) (by rfl) ?_
  show Z 0 5 [(0, .ref 50), (1, .int (nI s)), (2, .int x)] [] (z_ui μ 50 0 0)
  refine z_rcs hc hH 2 (pc' := 7) (lv' := [(0, .ref 50), (1, .int (nI s)), (2, .int x)]) (st' := [.int (nI s), .ref 50]) (μ' := z_ui μ 50 0 0) (by rfl) ?_
  refine zq_call hc (by rfl) (hmc d' (by omega)) (by decide +kernel) (fun r9 μ9 hq => ?_)
  obtain ⟨hμ9, rfl⟩ := hq
  rw [hμ9]
  clear hμ9 μ9
  show Z 0 10 [(0, .ref 50), (1, .int (nI s)), (2, .int x)] [.int 1] (z_ui μ 50 0 0)
  refine z_rcs hc hH 3 (pc' := 15) (lv' := [(0, .ref 50), (1, .int (nI s)), (2, .int x)]) (st' := [.ref 50, .int (nI s)]) (μ' := z_ui μ 50 0 0) (by rfl) ?_
  refine zq_gfi hc hH (by rfl) (ci := 6) (f := 45) (by rfl) (by decide +kernel) (by rfl) ?_
  rw [ui_k (by omega)]
  rw [ht]
  refine z_rcs hc hH 2 (pc' := 20) (lv' := [(0, .ref 50), (1, .int (nI s)), (2, .int x)]) (st' := [.int ((nI t) + 1), .int (nI s)]) (μ' := z_ui μ 50 0 0) (by rfl) ?_
  rw [nI_s1]
  refine z_rcs hc hH 2 (pc' := 22) (lv' := [(0, .ref 50), (1, .int (nI s)), (2, .int x)]) (st' := [.int ((nI (t + 1)) - (nI (t + 1)) / 4 * 4), .int (nI s)]) (μ' := z_ui μ 50 0 0) (by rfl) ?_
  rw [show nI (t + 1) - nI (t + 1) / 4 * 4 = nI u1 from by rw [rm4 _ (by omega), hu1]]
  refine zq_ic hc hH (by rfl) (tg := 50) (by rfl) (fun h1 => ?_) (fun h1 => ?_)
  · have h1 : (decide ((nI s) = (nI u1))) = false := decide_eq_false (cm_ne.mp h1)
    exact absurd (Eq.trans (Eq.symm (hsu)) h1) (by decide)
  · have h1 : (decide ((nI s) = (nI u1))) = true := decide_eq_true (cn_ne.mp h1)
    refine z_rcs hc hH 1 (pc' := 26) (lv' := [(0, .ref 50), (1, .int (nI s)), (2, .int x)]) (st' := [.int x]) (μ' := z_ui μ 50 0 0) (by rfl) ?_
    refine zq_call hc (by rfl) (hsr d' (by omega)) (by decide +kernel) (fun r9 μ9 hq => ?_)
    obtain ⟨hμ9, rfl⟩ := hq
    rw [hμ9]
    clear hμ9 μ9
    show Z 0 29 [(0, .ref 50), (1, .int (nI s)), (2, .int x)] [.int 0] (z_ui μ 50 0 0)
    refine z_rcs hc hH 2 (pc' := 51) (lv' := [(0, .ref 50), (1, .int (nI s)), (2, .int x)]) (st' := [.int 0]) (μ' := z_ui μ 50 0 0) (by rfl) ?_
    exact hr 0 51 _ _ _ (some (.int 0)) (by decide +kernel) (by rfl) (⟨rfl, rfl⟩)
theorem mr_runL (d : Nat) (hd : 4 ≤ d) (μ : zM) (s l c : Nat) (hs4 : s < 4) (hl : l + 2 ≤ 33) (hc49 : μ.1 50 49 = nI c) (t u1 : Nat) (ht4 : t < 4) (ht : μ.1 50 45 = nI t) (hu1 : (t + 1) % 4 = u1) (hu14 : u1 < 4) (hmc : ∀ d, 2 ≤ d → z_C d mi_X7_mayClaim [.ref 50, .int (nI s)] (z_ui μ 50 0 0) (zR (z_ui μ 50 0 0) (.int 1))) (hsu : decide (nI s = nI u1) = true) (hsr : ∀ d, 1 ≤ d → z_C d mi_X7_isRun [.int (nI l)] (z_ui μ 50 0 0) (zR (z_ui μ 50 0 0) (.int 1))) (hl1 : decide (nI c < nI l) = true) : z_C d mi_X7_run [.ref 50, .int (nI s), .int (nI l)] μ (fun r μ' => r = some (.int 0) ∧ μ' = z_ui μ 50 0 0) := by
  refine z_C_in (by decide) (by omega) (fun d' Z ed hc hr => ?_)
  have hH : zH mi_X7_run zc_X7_run 79 7 5 := ⟨by rfl, by rfl, by rfl, by rfl⟩
  refine z_rcs hc hH 2 (pc' := 2) (lv' := [(0, .ref 50), (1, .int (nI s)), (2, .int (nI l))]) (st' := [.int 0, .ref 50]) (μ' := μ) (by rfl) ?_
  refine zq_pfi hc hH (by rfl) (ci := 6) (f := 0) (by rfl) (by decide +kernel) (by rfl) ?_
  show Z 0 5 [(0, .ref 50), (1, .int (nI s)), (2, .int (nI l))] [] (z_ui μ 50 0 0)
  refine z_rcs hc hH 2 (pc' := 7) (lv' := [(0, .ref 50), (1, .int (nI s)), (2, .int (nI l))]) (st' := [.int (nI s), .ref 50]) (μ' := z_ui μ 50 0 0) (by rfl) ?_
  refine zq_call hc (by rfl) (hmc d' (by omega)) (by decide +kernel) (fun r9 μ9 hq => ?_)
  obtain ⟨hμ9, rfl⟩ := hq
  rw [hμ9]
  clear hμ9 μ9
  show Z 0 10 [(0, .ref 50), (1, .int (nI s)), (2, .int (nI l))] [.int 1] (z_ui μ 50 0 0)
  refine z_rcs hc hH 3 (pc' := 15) (lv' := [(0, .ref 50), (1, .int (nI s)), (2, .int (nI l))]) (st' := [.ref 50, .int (nI s)]) (μ' := z_ui μ 50 0 0) (by rfl) ?_
  refine zq_gfi hc hH (by rfl) (ci := 6) (f := 45) (by rfl) (by decide +kernel) (by rfl) ?_
  rw [ui_k (by omega)]
  rw [ht]
  refine z_rcs hc hH 2 (pc' := 20) (lv' := [(0, .ref 50), (1, .int (nI s)), (2, .int (nI l))]) (st' := [.int ((nI t) + 1), .int (nI s)]) (μ' := z_ui μ 50 0 0) (by rfl) ?_
  rw [nI_s1]
  refine z_rcs hc hH 2 (pc' := 22) (lv' := [(0, .ref 50), (1, .int (nI s)), (2, .int (nI l))]) (st' := [.int ((nI (t + 1)) - (nI (t + 1)) / 4 * 4), .int (nI s)]) (μ' := z_ui μ 50 0 0) (by rfl) ?_
  rw [show nI (t + 1) - nI (t + 1) / 4 * 4 = nI u1 from by rw [rm4 _ (by omega), hu1]]
  refine zq_ic hc hH (by rfl) (tg := 50) (by rfl) (fun h1 => ?_) (fun h1 => ?_)
  · have h1 : (decide ((nI s) = (nI u1))) = false := decide_eq_false (cm_ne.mp h1)
    exact absurd (Eq.trans (Eq.symm (hsu)) h1) (by decide)
  · have h1 : (decide ((nI s) = (nI u1))) = true := decide_eq_true (cn_ne.mp h1)
    refine z_rcs hc hH 1 (pc' := 26) (lv' := [(0, .ref 50), (1, .int (nI s)), (2, .int (nI l))]) (st' := [.int (nI l)]) (μ' := z_ui μ 50 0 0) (by rfl) ?_
    refine zq_call hc (by rfl) (hsr d' (by omega)) (by decide +kernel) (fun r9 μ9 hq => ?_)
    obtain ⟨hμ9, rfl⟩ := hq
    rw [hμ9]
    clear hμ9 μ9
    show Z 0 29 [(0, .ref 50), (1, .int (nI s)), (2, .int (nI l))] [.int 1] (z_ui μ 50 0 0)
    refine z_rcs hc hH 2 (pc' := 33) (lv' := [(0, .ref 50), (1, .int (nI s)), (2, .int (nI l))]) (st' := [.ref 50]) (μ' := z_ui μ 50 0 0) (by rfl) ?_
    refine zq_gfi hc hH (by rfl) (ci := 6) (f := 49) (by rfl) (by decide +kernel) (by rfl) ?_
    rw [ui_k (by omega)]
    rw [hc49]
    refine z_rcs hc hH 1 (pc' := 37) (lv' := [(0, .ref 50), (1, .int (nI s)), (2, .int (nI l))]) (st' := [.int (nI l), .int (nI c)]) (μ' := z_ui μ 50 0 0) (by rfl) ?_
    refine zq_ic hc hH (by rfl) (tg := 50) (by rfl) (fun h2 => ?_) (fun h2 => ?_)
    · have h2 : (decide ((nI c) < (nI l))) = true := decide_eq_true (cm_lt.mp h2)
      refine z_rcs hc hH 1 (pc' := 51) (lv' := [(0, .ref 50), (1, .int (nI s)), (2, .int (nI l))]) (st' := [.int 0]) (μ' := z_ui μ 50 0 0) (by rfl) ?_
      exact hr 0 51 _ _ _ (some (.int 0)) (by decide +kernel) (by rfl) (⟨rfl, rfl⟩)
    · have h2 : (decide ((nI c) < (nI l))) = false := decide_eq_false (cn_lt.mp h2)
      exact absurd (Eq.trans (Eq.symm (hl1)) h2) (by decide)
theorem mr_runG (d : Nat) (hd : 4 ≤ d) (μ : zM) (s l c : Nat) (hs4 : s < 4) (hl : l + 2 ≤ 33) (hc49 : μ.1 50 49 = nI c) (t u1 : Nat) (ht4 : t < 4) (ht : μ.1 50 45 = nI t) (hu1 : (t + 1) % 4 = u1) (hu14 : u1 < 4) (hmc : ∀ d, 2 ≤ d → z_C d mi_X7_mayClaim [.ref 50, .int (nI s)] (z_ui μ 50 0 0) (zR (z_ui μ 50 0 0) (.int 1))) (hsu : decide (nI s = nI u1) = true) (hsr : ∀ d, 1 ≤ d → z_C d mi_X7_isRun [.int (nI l)] (z_ui μ 50 0 0) (zR (z_ui μ 50 0 0) (.int 1))) (hl1 : decide (nI c < nI l) = false) (hl2 : decide (nI c ≤ nI (l + 2)) = false) : z_C d mi_X7_run [.ref 50, .int (nI s), .int (nI l)] μ (fun r μ' => r = some (.int 0) ∧ μ' = z_ui μ 50 0 0) := by
  refine z_C_in (by decide) (by omega) (fun d' Z ed hc hr => ?_)
  have hH : zH mi_X7_run zc_X7_run 79 7 5 := ⟨by rfl, by rfl, by rfl, by rfl⟩
  refine z_rcs hc hH 2 (pc' := 2) (lv' := [(0, .ref 50), (1, .int (nI s)), (2, .int (nI l))]) (st' := [.int 0, .ref 50]) (μ' := μ) (by rfl) ?_
  refine zq_pfi hc hH (by rfl) (ci := 6) (f := 0) (by rfl) (by decide +kernel) (by rfl) ?_
  show Z 0 5 [(0, .ref 50), (1, .int (nI s)), (2, .int (nI l))] [] (z_ui μ 50 0 0)
  refine z_rcs hc hH 2 (pc' := 7) (lv' := [(0, .ref 50), (1, .int (nI s)), (2, .int (nI l))]) (st' := [.int (nI s), .ref 50]) (μ' := z_ui μ 50 0 0) (by rfl) ?_
  refine zq_call hc (by rfl) (hmc d' (by omega)) (by decide +kernel) (fun r9 μ9 hq => ?_)
  obtain ⟨hμ9, rfl⟩ := hq
  rw [hμ9]
  clear hμ9 μ9
  show Z 0 10 [(0, .ref 50), (1, .int (nI s)), (2, .int (nI l))] [.int 1] (z_ui μ 50 0 0)
  refine z_rcs hc hH 3 (pc' := 15) (lv' := [(0, .ref 50), (1, .int (nI s)), (2, .int (nI l))]) (st' := [.ref 50, .int (nI s)]) (μ' := z_ui μ 50 0 0) (by rfl) ?_
  refine zq_gfi hc hH (by rfl) (ci := 6) (f := 45) (by rfl) (by decide +kernel) (by rfl) ?_
  rw [ui_k (by omega)]
  rw [ht]
  refine z_rcs hc hH 2 (pc' := 20) (lv' := [(0, .ref 50), (1, .int (nI s)), (2, .int (nI l))]) (st' := [.int ((nI t) + 1), .int (nI s)]) (μ' := z_ui μ 50 0 0) (by rfl) ?_
  rw [nI_s1]
  refine z_rcs hc hH 2 (pc' := 22) (lv' := [(0, .ref 50), (1, .int (nI s)), (2, .int (nI l))]) (st' := [.int ((nI (t + 1)) - (nI (t + 1)) / 4 * 4), .int (nI s)]) (μ' := z_ui μ 50 0 0) (by rfl) ?_
  rw [show nI (t + 1) - nI (t + 1) / 4 * 4 = nI u1 from by rw [rm4 _ (by omega), hu1]]
  refine zq_ic hc hH (by rfl) (tg := 50) (by rfl) (fun h1 => ?_) (fun h1 => ?_)
  · have h1 : (decide ((nI s) = (nI u1))) = false := decide_eq_false (cm_ne.mp h1)
    exact absurd (Eq.trans (Eq.symm (hsu)) h1) (by decide)
  · have h1 : (decide ((nI s) = (nI u1))) = true := decide_eq_true (cn_ne.mp h1)
    refine z_rcs hc hH 1 (pc' := 26) (lv' := [(0, .ref 50), (1, .int (nI s)), (2, .int (nI l))]) (st' := [.int (nI l)]) (μ' := z_ui μ 50 0 0) (by rfl) ?_
    refine zq_call hc (by rfl) (hsr d' (by omega)) (by decide +kernel) (fun r9 μ9 hq => ?_)
    obtain ⟨hμ9, rfl⟩ := hq
    rw [hμ9]
    clear hμ9 μ9
    show Z 0 29 [(0, .ref 50), (1, .int (nI s)), (2, .int (nI l))] [.int 1] (z_ui μ 50 0 0)
    refine z_rcs hc hH 2 (pc' := 33) (lv' := [(0, .ref 50), (1, .int (nI s)), (2, .int (nI l))]) (st' := [.ref 50]) (μ' := z_ui μ 50 0 0) (by rfl) ?_
    refine zq_gfi hc hH (by rfl) (ci := 6) (f := 49) (by rfl) (by decide +kernel) (by rfl) ?_
    rw [ui_k (by omega)]
    rw [hc49]
    refine z_rcs hc hH 1 (pc' := 37) (lv' := [(0, .ref 50), (1, .int (nI s)), (2, .int (nI l))]) (st' := [.int (nI l), .int (nI c)]) (μ' := z_ui μ 50 0 0) (by rfl) ?_
    refine zq_ic hc hH (by rfl) (tg := 50) (by rfl) (fun h2 => ?_) (fun h2 => ?_)
    · have h2 : (decide ((nI c) < (nI l))) = true := decide_eq_true (cm_lt.mp h2)
      exact absurd (Eq.trans (Eq.symm (hl1)) h2) (by decide)
    · have h2 : (decide ((nI c) < (nI l))) = false := decide_eq_false (cn_lt.mp h2)
      refine z_rcs hc hH 1 (pc' := 41) (lv' := [(0, .ref 50), (1, .int (nI s)), (2, .int (nI l))]) (st' := [.ref 50]) (μ' := z_ui μ 50 0 0) (by rfl) ?_
      refine zq_gfi hc hH (by rfl) (ci := 6) (f := 49) (by rfl) (by decide +kernel) (by rfl) ?_
      rw [ui_k (by omega)]
      rw [hc49]
      refine z_rcs hc hH 3 (pc' := 47) (lv' := [(0, .ref 50), (1, .int (nI s)), (2, .int (nI l))]) (st' := [.int ((nI l) + 2), .int (nI c)]) (μ' := z_ui μ 50 0 0) (by rfl) ?_
      rw [show nI l + 2 = nI (l + 2) from nI_add l 2]
      refine zq_ic hc hH (by rfl) (tg := 52) (by rfl) (fun h3 => ?_) (fun h3 => ?_)
      · have h3 : (decide ((nI c) ≤ (nI (l + 2)))) = true := decide_eq_true (cm_le.mp h3)
        exact absurd (Eq.trans (Eq.symm (hl2)) h3) (by decide)
      · have h3 : (decide ((nI c) ≤ (nI (l + 2)))) = false := decide_eq_false (cn_le.mp h3)
        refine z_rcs hc hH 1 (pc' := 51) (lv' := [(0, .ref 50), (1, .int (nI s)), (2, .int (nI l))]) (st' := [.int 0]) (μ' := z_ui μ 50 0 0) (by rfl) ?_
        exact hr 0 51 _ _ _ (some (.int 0)) (by decide +kernel) (by rfl) (⟨rfl, rfl⟩)
theorem mr_runA0 (d : Nat) (hd : 4 ≤ d) (μ : zM) (s l : Nat) (hs4 : s < 4) (hl : l + 2 ≤ 33) (hc49 : μ.1 50 49 = nI l) (t u1 : Nat) (ht4 : t < 4) (ht : μ.1 50 45 = nI t) (hu1 : (t + 1) % 4 = u1) (hu14 : u1 < 4) (hmc : ∀ d, 2 ≤ d → z_C d mi_X7_mayClaim [.ref 50, .int (nI s)] (z_ui μ 50 0 0) (zR (z_ui μ 50 0 0) (.int 1))) (hsu : decide (nI s = nI u1) = true) (hsr : ∀ d, 1 ≤ d → z_C d mi_X7_isRun [.int (nI l)] (z_ui μ 50 0 0) (zR (z_ui μ 50 0 0) (.int 1))) (hz1 : decide (μ.1 60 (34 * s + (l + 1)) = 0) = true) : z_C d mi_X7_run [.ref 50, .int (nI s), .int (nI l)] μ (fun r μ' => r = some (.int 0) ∧ μ' = z_ui μ 50 0 0) := by
  refine z_C_in (by decide) (by omega) (fun d' Z ed hc hr => ?_)
  have hH : zH mi_X7_run zc_X7_run 79 7 5 := ⟨by rfl, by rfl, by rfl, by rfl⟩
  refine z_rcs hc hH 2 (pc' := 2) (lv' := [(0, .ref 50), (1, .int (nI s)), (2, .int (nI l))]) (st' := [.int 0, .ref 50]) (μ' := μ) (by rfl) ?_
  refine zq_pfi hc hH (by rfl) (ci := 6) (f := 0) (by rfl) (by decide +kernel) (by rfl) ?_
  show Z 0 5 [(0, .ref 50), (1, .int (nI s)), (2, .int (nI l))] [] (z_ui μ 50 0 0)
  refine z_rcs hc hH 2 (pc' := 7) (lv' := [(0, .ref 50), (1, .int (nI s)), (2, .int (nI l))]) (st' := [.int (nI s), .ref 50]) (μ' := z_ui μ 50 0 0) (by rfl) ?_
  refine zq_call hc (by rfl) (hmc d' (by omega)) (by decide +kernel) (fun r9 μ9 hq => ?_)
  obtain ⟨hμ9, rfl⟩ := hq
  rw [hμ9]
  clear hμ9 μ9
  show Z 0 10 [(0, .ref 50), (1, .int (nI s)), (2, .int (nI l))] [.int 1] (z_ui μ 50 0 0)
  refine z_rcs hc hH 3 (pc' := 15) (lv' := [(0, .ref 50), (1, .int (nI s)), (2, .int (nI l))]) (st' := [.ref 50, .int (nI s)]) (μ' := z_ui μ 50 0 0) (by rfl) ?_
  refine zq_gfi hc hH (by rfl) (ci := 6) (f := 45) (by rfl) (by decide +kernel) (by rfl) ?_
  rw [ui_k (by omega)]
  rw [ht]
  refine z_rcs hc hH 2 (pc' := 20) (lv' := [(0, .ref 50), (1, .int (nI s)), (2, .int (nI l))]) (st' := [.int ((nI t) + 1), .int (nI s)]) (μ' := z_ui μ 50 0 0) (by rfl) ?_
  rw [nI_s1]
  refine z_rcs hc hH 2 (pc' := 22) (lv' := [(0, .ref 50), (1, .int (nI s)), (2, .int (nI l))]) (st' := [.int ((nI (t + 1)) - (nI (t + 1)) / 4 * 4), .int (nI s)]) (μ' := z_ui μ 50 0 0) (by rfl) ?_
  rw [show nI (t + 1) - nI (t + 1) / 4 * 4 = nI u1 from by rw [rm4 _ (by omega), hu1]]
  refine zq_ic hc hH (by rfl) (tg := 50) (by rfl) (fun h1 => ?_) (fun h1 => ?_)
  · have h1 : (decide ((nI s) = (nI u1))) = false := decide_eq_false (cm_ne.mp h1)
    exact absurd (Eq.trans (Eq.symm (hsu)) h1) (by decide)
  · have h1 : (decide ((nI s) = (nI u1))) = true := decide_eq_true (cn_ne.mp h1)
    refine z_rcs hc hH 1 (pc' := 26) (lv' := [(0, .ref 50), (1, .int (nI s)), (2, .int (nI l))]) (st' := [.int (nI l)]) (μ' := z_ui μ 50 0 0) (by rfl) ?_
    refine zq_call hc (by rfl) (hsr d' (by omega)) (by decide +kernel) (fun r9 μ9 hq => ?_)
    obtain ⟨hμ9, rfl⟩ := hq
    rw [hμ9]
    clear hμ9 μ9
    show Z 0 29 [(0, .ref 50), (1, .int (nI s)), (2, .int (nI l))] [.int 1] (z_ui μ 50 0 0)
    refine z_rcs hc hH 2 (pc' := 33) (lv' := [(0, .ref 50), (1, .int (nI s)), (2, .int (nI l))]) (st' := [.ref 50]) (μ' := z_ui μ 50 0 0) (by rfl) ?_
    refine zq_gfi hc hH (by rfl) (ci := 6) (f := 49) (by rfl) (by decide +kernel) (by rfl) ?_
    rw [ui_k (by omega)]
    rw [hc49]
    refine z_rcs hc hH 1 (pc' := 37) (lv' := [(0, .ref 50), (1, .int (nI s)), (2, .int (nI l))]) (st' := [.int (nI l), .int (nI l)]) (μ' := z_ui μ 50 0 0) (by rfl) ?_
    refine zq_ic hc hH (by rfl) (tg := 50) (by rfl) (fun h2 => ?_) (fun h2 => ?_)
    · have h2 : (decide ((nI l) < (nI l))) = true := decide_eq_true (cm_lt.mp h2)
      exact absurd (Eq.trans (Eq.symm (kn_nlg (by omega) (by omega) (by omega))) h2) (by decide)
    · have h2 : (decide ((nI l) < (nI l))) = false := decide_eq_false (cn_lt.mp h2)
      refine z_rcs hc hH 1 (pc' := 41) (lv' := [(0, .ref 50), (1, .int (nI s)), (2, .int (nI l))]) (st' := [.ref 50]) (μ' := z_ui μ 50 0 0) (by rfl) ?_
      refine zq_gfi hc hH (by rfl) (ci := 6) (f := 49) (by rfl) (by decide +kernel) (by rfl) ?_
      rw [ui_k (by omega)]
      rw [hc49]
      refine z_rcs hc hH 3 (pc' := 47) (lv' := [(0, .ref 50), (1, .int (nI s)), (2, .int (nI l))]) (st' := [.int ((nI l) + 2), .int (nI l)]) (μ' := z_ui μ 50 0 0) (by rfl) ?_
      rw [show nI l + 2 = nI (l + 2) from nI_add l 2]
      refine zq_ic hc hH (by rfl) (tg := 52) (by rfl) (fun h3 => ?_) (fun h3 => ?_)
      · have h3 : (decide ((nI l) ≤ (nI (l + 2)))) = true := decide_eq_true (cm_le.mp h3)
        refine z_rcs hc hH 6 (pc' := 58) (lv' := [(3, .int (nI l)), (0, .ref 50), (1, .int (nI s)), (2, .int (nI l))]) (st' := [.int ((nI l) + 3), .int (nI l)]) (μ' := z_ui μ 50 0 0) (by rfl) ?_
        rw [show nI l + 3 = nI (l + 3) from nI_add l 3]
        refine zq_ic hc hH (by rfl) (tg := 86) (by rfl) (fun h4 => ?_) (fun h4 => ?_)
        · have h4 : (decide ((nI (l + 3)) ≤ (nI l))) = true := decide_eq_true (cm_ge.mp h4)
          exact absurd (Eq.trans (Eq.symm (kn_nlf (by omega) (by omega) (by omega))) h4) (by decide)
        · have h4 : (decide ((nI (l + 3)) ≤ (nI l))) = false := decide_eq_false (cn_ge.mp h4)
          refine z_rcs hc hH 2 (pc' := 63) (lv' := [(3, .int (nI l)), (0, .ref 50), (1, .int (nI s)), (2, .int (nI l))]) (st' := [.ref 50, .int (nI l)]) (μ' := z_ui μ 50 0 0) (by rfl) ?_
          refine zq_gfi hc hH (by rfl) (ci := 6) (f := 49) (by rfl) (by decide +kernel) (by rfl) ?_
          rw [ui_k (by omega)]
          rw [hc49]
          refine zq_ic hc hH (by rfl) (tg := 80) (by rfl) (fun h5 => ?_) (fun h5 => ?_)
          · have h5 : (decide ((nI l) = (nI l))) = true := decide_eq_true (cm_eq9.mp h5)
            refine z_rcs hc hH 3 (pc' := 55) (lv' := [(3, .int ((nI l) + 1)), (0, .ref 50), (1, .int (nI s)), (2, .int (nI l))]) (st' := [.int ((nI l) + 1)]) (μ' := z_ui μ 50 0 0) (by rfl) ?_
            rw [nI_s1]
            refine z_rcs hc hH 3 (pc' := 58) (lv' := [(3, .int (nI (l + 1))), (0, .ref 50), (1, .int (nI s)), (2, .int (nI l))]) (st' := [.int ((nI l) + 3), .int (nI (l + 1))]) (μ' := z_ui μ 50 0 0) (by rfl) ?_
            rw [show nI l + 3 = nI (l + 3) from nI_add l 3]
            refine zq_ic hc hH (by rfl) (tg := 86) (by rfl) (fun h6 => ?_) (fun h6 => ?_)
            · have h6 : (decide ((nI (l + 3)) ≤ (nI (l + 1)))) = true := decide_eq_true (cm_ge.mp h6)
              exact absurd (Eq.trans (Eq.symm (kn_nlf (by omega) (by omega) (by omega))) h6) (by decide)
            · have h6 : (decide ((nI (l + 3)) ≤ (nI (l + 1)))) = false := decide_eq_false (cn_ge.mp h6)
              refine z_rcs hc hH 2 (pc' := 63) (lv' := [(3, .int (nI (l + 1))), (0, .ref 50), (1, .int (nI s)), (2, .int (nI l))]) (st' := [.ref 50, .int (nI (l + 1))]) (μ' := z_ui μ 50 0 0) (by rfl) ?_
              refine zq_gfi hc hH (by rfl) (ci := 6) (f := 49) (by rfl) (by decide +kernel) (by rfl) ?_
              rw [ui_k (by omega)]
              rw [hc49]
              refine zq_ic hc hH (by rfl) (tg := 80) (by rfl) (fun h7 => ?_) (fun h7 => ?_)
              · have h7 : (decide ((nI (l + 1)) = (nI l))) = true := decide_eq_true (cm_eq9.mp h7)
                exact absurd (Eq.trans (Eq.symm (kn_ne (by omega) (by omega) (by omega))) h7) (by decide)
              · have h7 : (decide ((nI (l + 1)) = (nI l))) = false := decide_eq_false (cn_eq.mp h7)
                refine z_rcs hc hH 3 (pc' := 72) (lv' := [(3, .int (nI (l + 1))), (0, .ref 50), (1, .int (nI s)), (2, .int (nI l))]) (st' := [.int (nI (l + 1)), .int (nI s), .ref 50]) (μ' := z_ui μ 50 0 0) (by rfl) ?_
                refine zq_call hc (by rfl) (fc_X7_has_ d' (by omega) (z_ui μ 50 0 0) s (l + 1) hs4 (by omega)) (by decide +kernel) (fun r9 μ9 hq => ?_)
                obtain ⟨hμ9, rfl⟩ := hq
                rw [hμ9]
                clear hμ9 μ9
                rw [ui_o (by omega)]
                show Z 0 75 [(3, .int (nI (l + 1))), (0, .ref 50), (1, .int (nI s)), (2, .int (nI l))] [.int (μ.1 60 (34 * s + (l + 1)))] (z_ui μ 50 0 0)
                refine zq_if hc hH (by rfl) (tg := 80) (by rfl) (fun h8 => ?_) (fun h8 => ?_)
                · have h8 : (decide ((μ.1 60 (34 * s + (l + 1))) = 0)) = false := decide_eq_false (cm_ne.mp h8)
                  exact absurd (Eq.trans (Eq.symm (hz1)) h8) (by decide)
                · have h8 : (decide ((μ.1 60 (34 * s + (l + 1))) = 0)) = true := decide_eq_true (cn_ne.mp h8)
                  refine z_rcs hc hH 1 (pc' := 79) (lv' := [(3, .int (nI (l + 1))), (0, .ref 50), (1, .int (nI s)), (2, .int (nI l))]) (st' := [.int 0]) (μ' := z_ui μ 50 0 0) (by rfl) ?_
                  exact hr 0 79 _ _ _ (some (.int 0)) (by decide +kernel) (by rfl) (⟨rfl, rfl⟩)
          · have h5 : (decide ((nI l) = (nI l))) = false := decide_eq_false (cn_eq.mp h5)
            exact absurd (Eq.trans (Eq.symm (kn_eq rfl)) h5) (by decide)
      · have h3 : (decide ((nI l) ≤ (nI (l + 2)))) = false := decide_eq_false (cn_le.mp h3)
        exact absurd (Eq.trans (Eq.symm (kn_nle (by omega) (by omega) (by omega))) h3) (by decide)
theorem mr_runB0 (d : Nat) (hd : 4 ≤ d) (μ : zM) (s l : Nat) (hs4 : s < 4) (hl : l + 2 ≤ 33) (hc49 : μ.1 50 49 = nI l) (t u1 : Nat) (ht4 : t < 4) (ht : μ.1 50 45 = nI t) (hu1 : (t + 1) % 4 = u1) (hu14 : u1 < 4) (hmc : ∀ d, 2 ≤ d → z_C d mi_X7_mayClaim [.ref 50, .int (nI s)] (z_ui μ 50 0 0) (zR (z_ui μ 50 0 0) (.int 1))) (hsu : decide (nI s = nI u1) = true) (hsr : ∀ d, 1 ≤ d → z_C d mi_X7_isRun [.int (nI l)] (z_ui μ 50 0 0) (zR (z_ui μ 50 0 0) (.int 1))) (hz1 : decide (μ.1 60 (34 * s + (l + 1)) = 0) = false) (hz2 : decide (μ.1 60 (34 * s + (l + 2)) = 0) = true) : z_C d mi_X7_run [.ref 50, .int (nI s), .int (nI l)] μ (fun r μ' => r = some (.int 0) ∧ μ' = z_ui μ 50 0 0) := by
  refine z_C_in (by decide) (by omega) (fun d' Z ed hc hr => ?_)
  have hH : zH mi_X7_run zc_X7_run 79 7 5 := ⟨by rfl, by rfl, by rfl, by rfl⟩
  refine z_rcs hc hH 2 (pc' := 2) (lv' := [(0, .ref 50), (1, .int (nI s)), (2, .int (nI l))]) (st' := [.int 0, .ref 50]) (μ' := μ) (by rfl) ?_
  refine zq_pfi hc hH (by rfl) (ci := 6) (f := 0) (by rfl) (by decide +kernel) (by rfl) ?_
  show Z 0 5 [(0, .ref 50), (1, .int (nI s)), (2, .int (nI l))] [] (z_ui μ 50 0 0)
  refine z_rcs hc hH 2 (pc' := 7) (lv' := [(0, .ref 50), (1, .int (nI s)), (2, .int (nI l))]) (st' := [.int (nI s), .ref 50]) (μ' := z_ui μ 50 0 0) (by rfl) ?_
  refine zq_call hc (by rfl) (hmc d' (by omega)) (by decide +kernel) (fun r9 μ9 hq => ?_)
  obtain ⟨hμ9, rfl⟩ := hq
  rw [hμ9]
  clear hμ9 μ9
  show Z 0 10 [(0, .ref 50), (1, .int (nI s)), (2, .int (nI l))] [.int 1] (z_ui μ 50 0 0)
  refine z_rcs hc hH 3 (pc' := 15) (lv' := [(0, .ref 50), (1, .int (nI s)), (2, .int (nI l))]) (st' := [.ref 50, .int (nI s)]) (μ' := z_ui μ 50 0 0) (by rfl) ?_
  refine zq_gfi hc hH (by rfl) (ci := 6) (f := 45) (by rfl) (by decide +kernel) (by rfl) ?_
  rw [ui_k (by omega)]
  rw [ht]
  refine z_rcs hc hH 2 (pc' := 20) (lv' := [(0, .ref 50), (1, .int (nI s)), (2, .int (nI l))]) (st' := [.int ((nI t) + 1), .int (nI s)]) (μ' := z_ui μ 50 0 0) (by rfl) ?_
  rw [nI_s1]
  refine z_rcs hc hH 2 (pc' := 22) (lv' := [(0, .ref 50), (1, .int (nI s)), (2, .int (nI l))]) (st' := [.int ((nI (t + 1)) - (nI (t + 1)) / 4 * 4), .int (nI s)]) (μ' := z_ui μ 50 0 0) (by rfl) ?_
  rw [show nI (t + 1) - nI (t + 1) / 4 * 4 = nI u1 from by rw [rm4 _ (by omega), hu1]]
  refine zq_ic hc hH (by rfl) (tg := 50) (by rfl) (fun h1 => ?_) (fun h1 => ?_)
  · have h1 : (decide ((nI s) = (nI u1))) = false := decide_eq_false (cm_ne.mp h1)
    exact absurd (Eq.trans (Eq.symm (hsu)) h1) (by decide)
  · have h1 : (decide ((nI s) = (nI u1))) = true := decide_eq_true (cn_ne.mp h1)
    refine z_rcs hc hH 1 (pc' := 26) (lv' := [(0, .ref 50), (1, .int (nI s)), (2, .int (nI l))]) (st' := [.int (nI l)]) (μ' := z_ui μ 50 0 0) (by rfl) ?_
    refine zq_call hc (by rfl) (hsr d' (by omega)) (by decide +kernel) (fun r9 μ9 hq => ?_)
    obtain ⟨hμ9, rfl⟩ := hq
    rw [hμ9]
    clear hμ9 μ9
    show Z 0 29 [(0, .ref 50), (1, .int (nI s)), (2, .int (nI l))] [.int 1] (z_ui μ 50 0 0)
    refine z_rcs hc hH 2 (pc' := 33) (lv' := [(0, .ref 50), (1, .int (nI s)), (2, .int (nI l))]) (st' := [.ref 50]) (μ' := z_ui μ 50 0 0) (by rfl) ?_
    refine zq_gfi hc hH (by rfl) (ci := 6) (f := 49) (by rfl) (by decide +kernel) (by rfl) ?_
    rw [ui_k (by omega)]
    rw [hc49]
    refine z_rcs hc hH 1 (pc' := 37) (lv' := [(0, .ref 50), (1, .int (nI s)), (2, .int (nI l))]) (st' := [.int (nI l), .int (nI l)]) (μ' := z_ui μ 50 0 0) (by rfl) ?_
    refine zq_ic hc hH (by rfl) (tg := 50) (by rfl) (fun h2 => ?_) (fun h2 => ?_)
    · have h2 : (decide ((nI l) < (nI l))) = true := decide_eq_true (cm_lt.mp h2)
      exact absurd (Eq.trans (Eq.symm (kn_nlg (by omega) (by omega) (by omega))) h2) (by decide)
    · have h2 : (decide ((nI l) < (nI l))) = false := decide_eq_false (cn_lt.mp h2)
      refine z_rcs hc hH 1 (pc' := 41) (lv' := [(0, .ref 50), (1, .int (nI s)), (2, .int (nI l))]) (st' := [.ref 50]) (μ' := z_ui μ 50 0 0) (by rfl) ?_
      refine zq_gfi hc hH (by rfl) (ci := 6) (f := 49) (by rfl) (by decide +kernel) (by rfl) ?_
      rw [ui_k (by omega)]
      rw [hc49]
      refine z_rcs hc hH 3 (pc' := 47) (lv' := [(0, .ref 50), (1, .int (nI s)), (2, .int (nI l))]) (st' := [.int ((nI l) + 2), .int (nI l)]) (μ' := z_ui μ 50 0 0) (by rfl) ?_
      rw [show nI l + 2 = nI (l + 2) from nI_add l 2]
      refine zq_ic hc hH (by rfl) (tg := 52) (by rfl) (fun h3 => ?_) (fun h3 => ?_)
      · have h3 : (decide ((nI l) ≤ (nI (l + 2)))) = true := decide_eq_true (cm_le.mp h3)
        refine z_rcs hc hH 6 (pc' := 58) (lv' := [(3, .int (nI l)), (0, .ref 50), (1, .int (nI s)), (2, .int (nI l))]) (st' := [.int ((nI l) + 3), .int (nI l)]) (μ' := z_ui μ 50 0 0) (by rfl) ?_
        rw [show nI l + 3 = nI (l + 3) from nI_add l 3]
        refine zq_ic hc hH (by rfl) (tg := 86) (by rfl) (fun h4 => ?_) (fun h4 => ?_)
        · have h4 : (decide ((nI (l + 3)) ≤ (nI l))) = true := decide_eq_true (cm_ge.mp h4)
          exact absurd (Eq.trans (Eq.symm (kn_nlf (by omega) (by omega) (by omega))) h4) (by decide)
        · have h4 : (decide ((nI (l + 3)) ≤ (nI l))) = false := decide_eq_false (cn_ge.mp h4)
          refine z_rcs hc hH 2 (pc' := 63) (lv' := [(3, .int (nI l)), (0, .ref 50), (1, .int (nI s)), (2, .int (nI l))]) (st' := [.ref 50, .int (nI l)]) (μ' := z_ui μ 50 0 0) (by rfl) ?_
          refine zq_gfi hc hH (by rfl) (ci := 6) (f := 49) (by rfl) (by decide +kernel) (by rfl) ?_
          rw [ui_k (by omega)]
          rw [hc49]
          refine zq_ic hc hH (by rfl) (tg := 80) (by rfl) (fun h5 => ?_) (fun h5 => ?_)
          · have h5 : (decide ((nI l) = (nI l))) = true := decide_eq_true (cm_eq9.mp h5)
            refine z_rcs hc hH 3 (pc' := 55) (lv' := [(3, .int ((nI l) + 1)), (0, .ref 50), (1, .int (nI s)), (2, .int (nI l))]) (st' := [.int ((nI l) + 1)]) (μ' := z_ui μ 50 0 0) (by rfl) ?_
            rw [nI_s1]
            refine z_rcs hc hH 3 (pc' := 58) (lv' := [(3, .int (nI (l + 1))), (0, .ref 50), (1, .int (nI s)), (2, .int (nI l))]) (st' := [.int ((nI l) + 3), .int (nI (l + 1))]) (μ' := z_ui μ 50 0 0) (by rfl) ?_
            rw [show nI l + 3 = nI (l + 3) from nI_add l 3]
            refine zq_ic hc hH (by rfl) (tg := 86) (by rfl) (fun h6 => ?_) (fun h6 => ?_)
            · have h6 : (decide ((nI (l + 3)) ≤ (nI (l + 1)))) = true := decide_eq_true (cm_ge.mp h6)
              exact absurd (Eq.trans (Eq.symm (kn_nlf (by omega) (by omega) (by omega))) h6) (by decide)
            · have h6 : (decide ((nI (l + 3)) ≤ (nI (l + 1)))) = false := decide_eq_false (cn_ge.mp h6)
              refine z_rcs hc hH 2 (pc' := 63) (lv' := [(3, .int (nI (l + 1))), (0, .ref 50), (1, .int (nI s)), (2, .int (nI l))]) (st' := [.ref 50, .int (nI (l + 1))]) (μ' := z_ui μ 50 0 0) (by rfl) ?_
              refine zq_gfi hc hH (by rfl) (ci := 6) (f := 49) (by rfl) (by decide +kernel) (by rfl) ?_
              rw [ui_k (by omega)]
              rw [hc49]
              refine zq_ic hc hH (by rfl) (tg := 80) (by rfl) (fun h7 => ?_) (fun h7 => ?_)
              · have h7 : (decide ((nI (l + 1)) = (nI l))) = true := decide_eq_true (cm_eq9.mp h7)
                exact absurd (Eq.trans (Eq.symm (kn_ne (by omega) (by omega) (by omega))) h7) (by decide)
              · have h7 : (decide ((nI (l + 1)) = (nI l))) = false := decide_eq_false (cn_eq.mp h7)
                refine z_rcs hc hH 3 (pc' := 72) (lv' := [(3, .int (nI (l + 1))), (0, .ref 50), (1, .int (nI s)), (2, .int (nI l))]) (st' := [.int (nI (l + 1)), .int (nI s), .ref 50]) (μ' := z_ui μ 50 0 0) (by rfl) ?_
                refine zq_call hc (by rfl) (fc_X7_has_ d' (by omega) (z_ui μ 50 0 0) s (l + 1) hs4 (by omega)) (by decide +kernel) (fun r9 μ9 hq => ?_)
                obtain ⟨hμ9, rfl⟩ := hq
                rw [hμ9]
                clear hμ9 μ9
                rw [ui_o (by omega)]
                show Z 0 75 [(3, .int (nI (l + 1))), (0, .ref 50), (1, .int (nI s)), (2, .int (nI l))] [.int (μ.1 60 (34 * s + (l + 1)))] (z_ui μ 50 0 0)
                refine zq_if hc hH (by rfl) (tg := 80) (by rfl) (fun h8 => ?_) (fun h8 => ?_)
                · have h8 : (decide ((μ.1 60 (34 * s + (l + 1))) = 0)) = false := decide_eq_false (cm_ne.mp h8)
                  refine z_rcs hc hH 3 (pc' := 55) (lv' := [(3, .int ((nI (l + 1)) + 1)), (0, .ref 50), (1, .int (nI s)), (2, .int (nI l))]) (st' := [.int ((nI (l + 1)) + 1)]) (μ' := z_ui μ 50 0 0) (by rfl) ?_
                  rw [show nI (l + 1) + 1 = nI (l + 2) from nI_s1 _]
                  refine z_rcs hc hH 3 (pc' := 58) (lv' := [(3, .int (nI (l + 2))), (0, .ref 50), (1, .int (nI s)), (2, .int (nI l))]) (st' := [.int ((nI l) + 3), .int (nI (l + 2))]) (μ' := z_ui μ 50 0 0) (by rfl) ?_
                  rw [show nI l + 3 = nI (l + 3) from nI_add l 3]
                  refine zq_ic hc hH (by rfl) (tg := 86) (by rfl) (fun h9 => ?_) (fun h9 => ?_)
                  · have h9 : (decide ((nI (l + 3)) ≤ (nI (l + 2)))) = true := decide_eq_true (cm_ge.mp h9)
                    exact absurd (Eq.trans (Eq.symm (kn_nlf (by omega) (by omega) (by omega))) h9) (by decide)
                  · have h9 : (decide ((nI (l + 3)) ≤ (nI (l + 2)))) = false := decide_eq_false (cn_ge.mp h9)
                    refine z_rcs hc hH 2 (pc' := 63) (lv' := [(3, .int (nI (l + 2))), (0, .ref 50), (1, .int (nI s)), (2, .int (nI l))]) (st' := [.ref 50, .int (nI (l + 2))]) (μ' := z_ui μ 50 0 0) (by rfl) ?_
                    refine zq_gfi hc hH (by rfl) (ci := 6) (f := 49) (by rfl) (by decide +kernel) (by rfl) ?_
                    rw [ui_k (by omega)]
                    rw [hc49]
                    refine zq_ic hc hH (by rfl) (tg := 80) (by rfl) (fun h10 => ?_) (fun h10 => ?_)
                    · have h10 : (decide ((nI (l + 2)) = (nI l))) = true := decide_eq_true (cm_eq9.mp h10)
                      exact absurd (Eq.trans (Eq.symm (kn_ne (by omega) (by omega) (by omega))) h10) (by decide)
                    · have h10 : (decide ((nI (l + 2)) = (nI l))) = false := decide_eq_false (cn_eq.mp h10)
                      refine z_rcs hc hH 3 (pc' := 72) (lv' := [(3, .int (nI (l + 2))), (0, .ref 50), (1, .int (nI s)), (2, .int (nI l))]) (st' := [.int (nI (l + 2)), .int (nI s), .ref 50]) (μ' := z_ui μ 50 0 0) (by rfl) ?_
                      refine zq_call hc (by rfl) (fc_X7_has_ d' (by omega) (z_ui μ 50 0 0) s (l + 2) hs4 (by omega)) (by decide +kernel) (fun r9 μ9 hq => ?_)
                      obtain ⟨hμ9, rfl⟩ := hq
                      rw [hμ9]
                      clear hμ9 μ9
                      rw [ui_o (by omega)]
                      show Z 0 75 [(3, .int (nI (l + 2))), (0, .ref 50), (1, .int (nI s)), (2, .int (nI l))] [.int (μ.1 60 (34 * s + (l + 2)))] (z_ui μ 50 0 0)
                      refine zq_if hc hH (by rfl) (tg := 80) (by rfl) (fun h11 => ?_) (fun h11 => ?_)
                      · have h11 : (decide ((μ.1 60 (34 * s + (l + 2))) = 0)) = false := decide_eq_false (cm_ne.mp h11)
                        exact absurd (Eq.trans (Eq.symm (hz2)) h11) (by decide)
                      · have h11 : (decide ((μ.1 60 (34 * s + (l + 2))) = 0)) = true := decide_eq_true (cn_ne.mp h11)
                        refine z_rcs hc hH 1 (pc' := 79) (lv' := [(3, .int (nI (l + 2))), (0, .ref 50), (1, .int (nI s)), (2, .int (nI l))]) (st' := [.int 0]) (μ' := z_ui μ 50 0 0) (by rfl) ?_
                        exact hr 0 79 _ _ _ (some (.int 0)) (by decide +kernel) (by rfl) (⟨rfl, rfl⟩)
                · have h8 : (decide ((μ.1 60 (34 * s + (l + 1))) = 0)) = true := decide_eq_true (cn_ne.mp h8)
                  exact absurd (Eq.trans (Eq.symm (hz1)) h8) (by decide)
          · have h5 : (decide ((nI l) = (nI l))) = false := decide_eq_false (cn_eq.mp h5)
            exact absurd (Eq.trans (Eq.symm (kn_eq rfl)) h5) (by decide)
      · have h3 : (decide ((nI l) ≤ (nI (l + 2)))) = false := decide_eq_false (cn_le.mp h3)
        exact absurd (Eq.trans (Eq.symm (kn_nle (by omega) (by omega) (by omega))) h3) (by decide)
theorem mr_runA1 (d : Nat) (hd : 4 ≤ d) (μ : zM) (s l : Nat) (hs4 : s < 4) (hl : l + 2 ≤ 33) (hc49 : μ.1 50 49 = nI (l + 1)) (t u1 : Nat) (ht4 : t < 4) (ht : μ.1 50 45 = nI t) (hu1 : (t + 1) % 4 = u1) (hu14 : u1 < 4) (hmc : ∀ d, 2 ≤ d → z_C d mi_X7_mayClaim [.ref 50, .int (nI s)] (z_ui μ 50 0 0) (zR (z_ui μ 50 0 0) (.int 1))) (hsu : decide (nI s = nI u1) = true) (hsr : ∀ d, 1 ≤ d → z_C d mi_X7_isRun [.int (nI l)] (z_ui μ 50 0 0) (zR (z_ui μ 50 0 0) (.int 1))) (hz1 : decide (μ.1 60 (34 * s + l) = 0) = true) : z_C d mi_X7_run [.ref 50, .int (nI s), .int (nI l)] μ (fun r μ' => r = some (.int 0) ∧ μ' = z_ui μ 50 0 0) := by
  refine z_C_in (by decide) (by omega) (fun d' Z ed hc hr => ?_)
  have hH : zH mi_X7_run zc_X7_run 79 7 5 := ⟨by rfl, by rfl, by rfl, by rfl⟩
  refine z_rcs hc hH 2 (pc' := 2) (lv' := [(0, .ref 50), (1, .int (nI s)), (2, .int (nI l))]) (st' := [.int 0, .ref 50]) (μ' := μ) (by rfl) ?_
  refine zq_pfi hc hH (by rfl) (ci := 6) (f := 0) (by rfl) (by decide +kernel) (by rfl) ?_
  show Z 0 5 [(0, .ref 50), (1, .int (nI s)), (2, .int (nI l))] [] (z_ui μ 50 0 0)
  refine z_rcs hc hH 2 (pc' := 7) (lv' := [(0, .ref 50), (1, .int (nI s)), (2, .int (nI l))]) (st' := [.int (nI s), .ref 50]) (μ' := z_ui μ 50 0 0) (by rfl) ?_
  refine zq_call hc (by rfl) (hmc d' (by omega)) (by decide +kernel) (fun r9 μ9 hq => ?_)
  obtain ⟨hμ9, rfl⟩ := hq
  rw [hμ9]
  clear hμ9 μ9
  show Z 0 10 [(0, .ref 50), (1, .int (nI s)), (2, .int (nI l))] [.int 1] (z_ui μ 50 0 0)
  refine z_rcs hc hH 3 (pc' := 15) (lv' := [(0, .ref 50), (1, .int (nI s)), (2, .int (nI l))]) (st' := [.ref 50, .int (nI s)]) (μ' := z_ui μ 50 0 0) (by rfl) ?_
  refine zq_gfi hc hH (by rfl) (ci := 6) (f := 45) (by rfl) (by decide +kernel) (by rfl) ?_
  rw [ui_k (by omega)]
  rw [ht]
  refine z_rcs hc hH 2 (pc' := 20) (lv' := [(0, .ref 50), (1, .int (nI s)), (2, .int (nI l))]) (st' := [.int ((nI t) + 1), .int (nI s)]) (μ' := z_ui μ 50 0 0) (by rfl) ?_
  rw [nI_s1]
  refine z_rcs hc hH 2 (pc' := 22) (lv' := [(0, .ref 50), (1, .int (nI s)), (2, .int (nI l))]) (st' := [.int ((nI (t + 1)) - (nI (t + 1)) / 4 * 4), .int (nI s)]) (μ' := z_ui μ 50 0 0) (by rfl) ?_
  rw [show nI (t + 1) - nI (t + 1) / 4 * 4 = nI u1 from by rw [rm4 _ (by omega), hu1]]
  refine zq_ic hc hH (by rfl) (tg := 50) (by rfl) (fun h1 => ?_) (fun h1 => ?_)
  · have h1 : (decide ((nI s) = (nI u1))) = false := decide_eq_false (cm_ne.mp h1)
    exact absurd (Eq.trans (Eq.symm (hsu)) h1) (by decide)
  · have h1 : (decide ((nI s) = (nI u1))) = true := decide_eq_true (cn_ne.mp h1)
    refine z_rcs hc hH 1 (pc' := 26) (lv' := [(0, .ref 50), (1, .int (nI s)), (2, .int (nI l))]) (st' := [.int (nI l)]) (μ' := z_ui μ 50 0 0) (by rfl) ?_
    refine zq_call hc (by rfl) (hsr d' (by omega)) (by decide +kernel) (fun r9 μ9 hq => ?_)
    obtain ⟨hμ9, rfl⟩ := hq
    rw [hμ9]
    clear hμ9 μ9
    show Z 0 29 [(0, .ref 50), (1, .int (nI s)), (2, .int (nI l))] [.int 1] (z_ui μ 50 0 0)
    refine z_rcs hc hH 2 (pc' := 33) (lv' := [(0, .ref 50), (1, .int (nI s)), (2, .int (nI l))]) (st' := [.ref 50]) (μ' := z_ui μ 50 0 0) (by rfl) ?_
    refine zq_gfi hc hH (by rfl) (ci := 6) (f := 49) (by rfl) (by decide +kernel) (by rfl) ?_
    rw [ui_k (by omega)]
    rw [hc49]
    refine z_rcs hc hH 1 (pc' := 37) (lv' := [(0, .ref 50), (1, .int (nI s)), (2, .int (nI l))]) (st' := [.int (nI l), .int (nI (l + 1))]) (μ' := z_ui μ 50 0 0) (by rfl) ?_
    refine zq_ic hc hH (by rfl) (tg := 50) (by rfl) (fun h2 => ?_) (fun h2 => ?_)
    · have h2 : (decide ((nI (l + 1)) < (nI l))) = true := decide_eq_true (cm_lt.mp h2)
      exact absurd (Eq.trans (Eq.symm (kn_nlg (by omega) (by omega) (by omega))) h2) (by decide)
    · have h2 : (decide ((nI (l + 1)) < (nI l))) = false := decide_eq_false (cn_lt.mp h2)
      refine z_rcs hc hH 1 (pc' := 41) (lv' := [(0, .ref 50), (1, .int (nI s)), (2, .int (nI l))]) (st' := [.ref 50]) (μ' := z_ui μ 50 0 0) (by rfl) ?_
      refine zq_gfi hc hH (by rfl) (ci := 6) (f := 49) (by rfl) (by decide +kernel) (by rfl) ?_
      rw [ui_k (by omega)]
      rw [hc49]
      refine z_rcs hc hH 3 (pc' := 47) (lv' := [(0, .ref 50), (1, .int (nI s)), (2, .int (nI l))]) (st' := [.int ((nI l) + 2), .int (nI (l + 1))]) (μ' := z_ui μ 50 0 0) (by rfl) ?_
      rw [show nI l + 2 = nI (l + 2) from nI_add l 2]
      refine zq_ic hc hH (by rfl) (tg := 52) (by rfl) (fun h3 => ?_) (fun h3 => ?_)
      · have h3 : (decide ((nI (l + 1)) ≤ (nI (l + 2)))) = true := decide_eq_true (cm_le.mp h3)
        refine z_rcs hc hH 6 (pc' := 58) (lv' := [(3, .int (nI l)), (0, .ref 50), (1, .int (nI s)), (2, .int (nI l))]) (st' := [.int ((nI l) + 3), .int (nI l)]) (μ' := z_ui μ 50 0 0) (by rfl) ?_
        rw [show nI l + 3 = nI (l + 3) from nI_add l 3]
        refine zq_ic hc hH (by rfl) (tg := 86) (by rfl) (fun h4 => ?_) (fun h4 => ?_)
        · have h4 : (decide ((nI (l + 3)) ≤ (nI l))) = true := decide_eq_true (cm_ge.mp h4)
          exact absurd (Eq.trans (Eq.symm (kn_nlf (by omega) (by omega) (by omega))) h4) (by decide)
        · have h4 : (decide ((nI (l + 3)) ≤ (nI l))) = false := decide_eq_false (cn_ge.mp h4)
          refine z_rcs hc hH 2 (pc' := 63) (lv' := [(3, .int (nI l)), (0, .ref 50), (1, .int (nI s)), (2, .int (nI l))]) (st' := [.ref 50, .int (nI l)]) (μ' := z_ui μ 50 0 0) (by rfl) ?_
          refine zq_gfi hc hH (by rfl) (ci := 6) (f := 49) (by rfl) (by decide +kernel) (by rfl) ?_
          rw [ui_k (by omega)]
          rw [hc49]
          refine zq_ic hc hH (by rfl) (tg := 80) (by rfl) (fun h5 => ?_) (fun h5 => ?_)
          · have h5 : (decide ((nI l) = (nI (l + 1)))) = true := decide_eq_true (cm_eq9.mp h5)
            exact absurd (Eq.trans (Eq.symm (kn_ne (by omega) (by omega) (by omega))) h5) (by decide)
          · have h5 : (decide ((nI l) = (nI (l + 1)))) = false := decide_eq_false (cn_eq.mp h5)
            refine z_rcs hc hH 3 (pc' := 72) (lv' := [(3, .int (nI l)), (0, .ref 50), (1, .int (nI s)), (2, .int (nI l))]) (st' := [.int (nI l), .int (nI s), .ref 50]) (μ' := z_ui μ 50 0 0) (by rfl) ?_
            refine zq_call hc (by rfl) (fc_X7_has_ d' (by omega) (z_ui μ 50 0 0) s l hs4 (by omega)) (by decide +kernel) (fun r9 μ9 hq => ?_)
            obtain ⟨hμ9, rfl⟩ := hq
            rw [hμ9]
            clear hμ9 μ9
            rw [ui_o (by omega)]
            show Z 0 75 [(3, .int (nI l)), (0, .ref 50), (1, .int (nI s)), (2, .int (nI l))] [.int (μ.1 60 (34 * s + l))] (z_ui μ 50 0 0)
            refine zq_if hc hH (by rfl) (tg := 80) (by rfl) (fun h6 => ?_) (fun h6 => ?_)
            · have h6 : (decide ((μ.1 60 (34 * s + l)) = 0)) = false := decide_eq_false (cm_ne.mp h6)
              exact absurd (Eq.trans (Eq.symm (hz1)) h6) (by decide)
            · have h6 : (decide ((μ.1 60 (34 * s + l)) = 0)) = true := decide_eq_true (cn_ne.mp h6)
              refine z_rcs hc hH 1 (pc' := 79) (lv' := [(3, .int (nI l)), (0, .ref 50), (1, .int (nI s)), (2, .int (nI l))]) (st' := [.int 0]) (μ' := z_ui μ 50 0 0) (by rfl) ?_
              exact hr 0 79 _ _ _ (some (.int 0)) (by decide +kernel) (by rfl) (⟨rfl, rfl⟩)
      · have h3 : (decide ((nI (l + 1)) ≤ (nI (l + 2)))) = false := decide_eq_false (cn_le.mp h3)
        exact absurd (Eq.trans (Eq.symm (kn_nle (by omega) (by omega) (by omega))) h3) (by decide)
theorem mr_runB1 (d : Nat) (hd : 4 ≤ d) (μ : zM) (s l : Nat) (hs4 : s < 4) (hl : l + 2 ≤ 33) (hc49 : μ.1 50 49 = nI (l + 1)) (t u1 : Nat) (ht4 : t < 4) (ht : μ.1 50 45 = nI t) (hu1 : (t + 1) % 4 = u1) (hu14 : u1 < 4) (hmc : ∀ d, 2 ≤ d → z_C d mi_X7_mayClaim [.ref 50, .int (nI s)] (z_ui μ 50 0 0) (zR (z_ui μ 50 0 0) (.int 1))) (hsu : decide (nI s = nI u1) = true) (hsr : ∀ d, 1 ≤ d → z_C d mi_X7_isRun [.int (nI l)] (z_ui μ 50 0 0) (zR (z_ui μ 50 0 0) (.int 1))) (hz1 : decide (μ.1 60 (34 * s + l) = 0) = false) (hz2 : decide (μ.1 60 (34 * s + (l + 2)) = 0) = true) : z_C d mi_X7_run [.ref 50, .int (nI s), .int (nI l)] μ (fun r μ' => r = some (.int 0) ∧ μ' = z_ui μ 50 0 0) := by
  refine z_C_in (by decide) (by omega) (fun d' Z ed hc hr => ?_)
  have hH : zH mi_X7_run zc_X7_run 79 7 5 := ⟨by rfl, by rfl, by rfl, by rfl⟩
  refine z_rcs hc hH 2 (pc' := 2) (lv' := [(0, .ref 50), (1, .int (nI s)), (2, .int (nI l))]) (st' := [.int 0, .ref 50]) (μ' := μ) (by rfl) ?_
  refine zq_pfi hc hH (by rfl) (ci := 6) (f := 0) (by rfl) (by decide +kernel) (by rfl) ?_
  show Z 0 5 [(0, .ref 50), (1, .int (nI s)), (2, .int (nI l))] [] (z_ui μ 50 0 0)
  refine z_rcs hc hH 2 (pc' := 7) (lv' := [(0, .ref 50), (1, .int (nI s)), (2, .int (nI l))]) (st' := [.int (nI s), .ref 50]) (μ' := z_ui μ 50 0 0) (by rfl) ?_
  refine zq_call hc (by rfl) (hmc d' (by omega)) (by decide +kernel) (fun r9 μ9 hq => ?_)
  obtain ⟨hμ9, rfl⟩ := hq
  rw [hμ9]
  clear hμ9 μ9
  show Z 0 10 [(0, .ref 50), (1, .int (nI s)), (2, .int (nI l))] [.int 1] (z_ui μ 50 0 0)
  refine z_rcs hc hH 3 (pc' := 15) (lv' := [(0, .ref 50), (1, .int (nI s)), (2, .int (nI l))]) (st' := [.ref 50, .int (nI s)]) (μ' := z_ui μ 50 0 0) (by rfl) ?_
  refine zq_gfi hc hH (by rfl) (ci := 6) (f := 45) (by rfl) (by decide +kernel) (by rfl) ?_
  rw [ui_k (by omega)]
  rw [ht]
  refine z_rcs hc hH 2 (pc' := 20) (lv' := [(0, .ref 50), (1, .int (nI s)), (2, .int (nI l))]) (st' := [.int ((nI t) + 1), .int (nI s)]) (μ' := z_ui μ 50 0 0) (by rfl) ?_
  rw [nI_s1]
  refine z_rcs hc hH 2 (pc' := 22) (lv' := [(0, .ref 50), (1, .int (nI s)), (2, .int (nI l))]) (st' := [.int ((nI (t + 1)) - (nI (t + 1)) / 4 * 4), .int (nI s)]) (μ' := z_ui μ 50 0 0) (by rfl) ?_
  rw [show nI (t + 1) - nI (t + 1) / 4 * 4 = nI u1 from by rw [rm4 _ (by omega), hu1]]
  refine zq_ic hc hH (by rfl) (tg := 50) (by rfl) (fun h1 => ?_) (fun h1 => ?_)
  · have h1 : (decide ((nI s) = (nI u1))) = false := decide_eq_false (cm_ne.mp h1)
    exact absurd (Eq.trans (Eq.symm (hsu)) h1) (by decide)
  · have h1 : (decide ((nI s) = (nI u1))) = true := decide_eq_true (cn_ne.mp h1)
    refine z_rcs hc hH 1 (pc' := 26) (lv' := [(0, .ref 50), (1, .int (nI s)), (2, .int (nI l))]) (st' := [.int (nI l)]) (μ' := z_ui μ 50 0 0) (by rfl) ?_
    refine zq_call hc (by rfl) (hsr d' (by omega)) (by decide +kernel) (fun r9 μ9 hq => ?_)
    obtain ⟨hμ9, rfl⟩ := hq
    rw [hμ9]
    clear hμ9 μ9
    show Z 0 29 [(0, .ref 50), (1, .int (nI s)), (2, .int (nI l))] [.int 1] (z_ui μ 50 0 0)
    refine z_rcs hc hH 2 (pc' := 33) (lv' := [(0, .ref 50), (1, .int (nI s)), (2, .int (nI l))]) (st' := [.ref 50]) (μ' := z_ui μ 50 0 0) (by rfl) ?_
    refine zq_gfi hc hH (by rfl) (ci := 6) (f := 49) (by rfl) (by decide +kernel) (by rfl) ?_
    rw [ui_k (by omega)]
    rw [hc49]
    refine z_rcs hc hH 1 (pc' := 37) (lv' := [(0, .ref 50), (1, .int (nI s)), (2, .int (nI l))]) (st' := [.int (nI l), .int (nI (l + 1))]) (μ' := z_ui μ 50 0 0) (by rfl) ?_
    refine zq_ic hc hH (by rfl) (tg := 50) (by rfl) (fun h2 => ?_) (fun h2 => ?_)
    · have h2 : (decide ((nI (l + 1)) < (nI l))) = true := decide_eq_true (cm_lt.mp h2)
      exact absurd (Eq.trans (Eq.symm (kn_nlg (by omega) (by omega) (by omega))) h2) (by decide)
    · have h2 : (decide ((nI (l + 1)) < (nI l))) = false := decide_eq_false (cn_lt.mp h2)
      refine z_rcs hc hH 1 (pc' := 41) (lv' := [(0, .ref 50), (1, .int (nI s)), (2, .int (nI l))]) (st' := [.ref 50]) (μ' := z_ui μ 50 0 0) (by rfl) ?_
      refine zq_gfi hc hH (by rfl) (ci := 6) (f := 49) (by rfl) (by decide +kernel) (by rfl) ?_
      rw [ui_k (by omega)]
      rw [hc49]
      refine z_rcs hc hH 3 (pc' := 47) (lv' := [(0, .ref 50), (1, .int (nI s)), (2, .int (nI l))]) (st' := [.int ((nI l) + 2), .int (nI (l + 1))]) (μ' := z_ui μ 50 0 0) (by rfl) ?_
      rw [show nI l + 2 = nI (l + 2) from nI_add l 2]
      refine zq_ic hc hH (by rfl) (tg := 52) (by rfl) (fun h3 => ?_) (fun h3 => ?_)
      · have h3 : (decide ((nI (l + 1)) ≤ (nI (l + 2)))) = true := decide_eq_true (cm_le.mp h3)
        refine z_rcs hc hH 6 (pc' := 58) (lv' := [(3, .int (nI l)), (0, .ref 50), (1, .int (nI s)), (2, .int (nI l))]) (st' := [.int ((nI l) + 3), .int (nI l)]) (μ' := z_ui μ 50 0 0) (by rfl) ?_
        rw [show nI l + 3 = nI (l + 3) from nI_add l 3]
        refine zq_ic hc hH (by rfl) (tg := 86) (by rfl) (fun h4 => ?_) (fun h4 => ?_)
        · have h4 : (decide ((nI (l + 3)) ≤ (nI l))) = true := decide_eq_true (cm_ge.mp h4)
          exact absurd (Eq.trans (Eq.symm (kn_nlf (by omega) (by omega) (by omega))) h4) (by decide)
        · have h4 : (decide ((nI (l + 3)) ≤ (nI l))) = false := decide_eq_false (cn_ge.mp h4)
          refine z_rcs hc hH 2 (pc' := 63) (lv' := [(3, .int (nI l)), (0, .ref 50), (1, .int (nI s)), (2, .int (nI l))]) (st' := [.ref 50, .int (nI l)]) (μ' := z_ui μ 50 0 0) (by rfl) ?_
          refine zq_gfi hc hH (by rfl) (ci := 6) (f := 49) (by rfl) (by decide +kernel) (by rfl) ?_
          rw [ui_k (by omega)]
          rw [hc49]
          refine zq_ic hc hH (by rfl) (tg := 80) (by rfl) (fun h5 => ?_) (fun h5 => ?_)
          · have h5 : (decide ((nI l) = (nI (l + 1)))) = true := decide_eq_true (cm_eq9.mp h5)
            exact absurd (Eq.trans (Eq.symm (kn_ne (by omega) (by omega) (by omega))) h5) (by decide)
          · have h5 : (decide ((nI l) = (nI (l + 1)))) = false := decide_eq_false (cn_eq.mp h5)
            refine z_rcs hc hH 3 (pc' := 72) (lv' := [(3, .int (nI l)), (0, .ref 50), (1, .int (nI s)), (2, .int (nI l))]) (st' := [.int (nI l), .int (nI s), .ref 50]) (μ' := z_ui μ 50 0 0) (by rfl) ?_
            refine zq_call hc (by rfl) (fc_X7_has_ d' (by omega) (z_ui μ 50 0 0) s l hs4 (by omega)) (by decide +kernel) (fun r9 μ9 hq => ?_)
            obtain ⟨hμ9, rfl⟩ := hq
            rw [hμ9]
            clear hμ9 μ9
            rw [ui_o (by omega)]
            show Z 0 75 [(3, .int (nI l)), (0, .ref 50), (1, .int (nI s)), (2, .int (nI l))] [.int (μ.1 60 (34 * s + l))] (z_ui μ 50 0 0)
            refine zq_if hc hH (by rfl) (tg := 80) (by rfl) (fun h6 => ?_) (fun h6 => ?_)
            · have h6 : (decide ((μ.1 60 (34 * s + l)) = 0)) = false := decide_eq_false (cm_ne.mp h6)
              refine z_rcs hc hH 3 (pc' := 55) (lv' := [(3, .int ((nI l) + 1)), (0, .ref 50), (1, .int (nI s)), (2, .int (nI l))]) (st' := [.int ((nI l) + 1)]) (μ' := z_ui μ 50 0 0) (by rfl) ?_
              rw [nI_s1]
              refine z_rcs hc hH 3 (pc' := 58) (lv' := [(3, .int (nI (l + 1))), (0, .ref 50), (1, .int (nI s)), (2, .int (nI l))]) (st' := [.int ((nI l) + 3), .int (nI (l + 1))]) (μ' := z_ui μ 50 0 0) (by rfl) ?_
              rw [show nI l + 3 = nI (l + 3) from nI_add l 3]
              refine zq_ic hc hH (by rfl) (tg := 86) (by rfl) (fun h7 => ?_) (fun h7 => ?_)
              · have h7 : (decide ((nI (l + 3)) ≤ (nI (l + 1)))) = true := decide_eq_true (cm_ge.mp h7)
                exact absurd (Eq.trans (Eq.symm (kn_nlf (by omega) (by omega) (by omega))) h7) (by decide)
              · have h7 : (decide ((nI (l + 3)) ≤ (nI (l + 1)))) = false := decide_eq_false (cn_ge.mp h7)
                refine z_rcs hc hH 2 (pc' := 63) (lv' := [(3, .int (nI (l + 1))), (0, .ref 50), (1, .int (nI s)), (2, .int (nI l))]) (st' := [.ref 50, .int (nI (l + 1))]) (μ' := z_ui μ 50 0 0) (by rfl) ?_
                refine zq_gfi hc hH (by rfl) (ci := 6) (f := 49) (by rfl) (by decide +kernel) (by rfl) ?_
                rw [ui_k (by omega)]
                rw [hc49]
                refine zq_ic hc hH (by rfl) (tg := 80) (by rfl) (fun h8 => ?_) (fun h8 => ?_)
                · have h8 : (decide ((nI (l + 1)) = (nI (l + 1)))) = true := decide_eq_true (cm_eq9.mp h8)
                  refine z_rcs hc hH 3 (pc' := 55) (lv' := [(3, .int ((nI (l + 1)) + 1)), (0, .ref 50), (1, .int (nI s)), (2, .int (nI l))]) (st' := [.int ((nI (l + 1)) + 1)]) (μ' := z_ui μ 50 0 0) (by rfl) ?_
                  rw [show nI (l + 1) + 1 = nI (l + 2) from nI_s1 _]
                  refine z_rcs hc hH 3 (pc' := 58) (lv' := [(3, .int (nI (l + 2))), (0, .ref 50), (1, .int (nI s)), (2, .int (nI l))]) (st' := [.int ((nI l) + 3), .int (nI (l + 2))]) (μ' := z_ui μ 50 0 0) (by rfl) ?_
                  rw [show nI l + 3 = nI (l + 3) from nI_add l 3]
                  refine zq_ic hc hH (by rfl) (tg := 86) (by rfl) (fun h9 => ?_) (fun h9 => ?_)
                  · have h9 : (decide ((nI (l + 3)) ≤ (nI (l + 2)))) = true := decide_eq_true (cm_ge.mp h9)
                    exact absurd (Eq.trans (Eq.symm (kn_nlf (by omega) (by omega) (by omega))) h9) (by decide)
                  · have h9 : (decide ((nI (l + 3)) ≤ (nI (l + 2)))) = false := decide_eq_false (cn_ge.mp h9)
                    refine z_rcs hc hH 2 (pc' := 63) (lv' := [(3, .int (nI (l + 2))), (0, .ref 50), (1, .int (nI s)), (2, .int (nI l))]) (st' := [.ref 50, .int (nI (l + 2))]) (μ' := z_ui μ 50 0 0) (by rfl) ?_
                    refine zq_gfi hc hH (by rfl) (ci := 6) (f := 49) (by rfl) (by decide +kernel) (by rfl) ?_
                    rw [ui_k (by omega)]
                    rw [hc49]
                    refine zq_ic hc hH (by rfl) (tg := 80) (by rfl) (fun h10 => ?_) (fun h10 => ?_)
                    · have h10 : (decide ((nI (l + 2)) = (nI (l + 1)))) = true := decide_eq_true (cm_eq9.mp h10)
                      exact absurd (Eq.trans (Eq.symm (kn_ne (by omega) (by omega) (by omega))) h10) (by decide)
                    · have h10 : (decide ((nI (l + 2)) = (nI (l + 1)))) = false := decide_eq_false (cn_eq.mp h10)
                      refine z_rcs hc hH 3 (pc' := 72) (lv' := [(3, .int (nI (l + 2))), (0, .ref 50), (1, .int (nI s)), (2, .int (nI l))]) (st' := [.int (nI (l + 2)), .int (nI s), .ref 50]) (μ' := z_ui μ 50 0 0) (by rfl) ?_
                      refine zq_call hc (by rfl) (fc_X7_has_ d' (by omega) (z_ui μ 50 0 0) s (l + 2) hs4 (by omega)) (by decide +kernel) (fun r9 μ9 hq => ?_)
                      obtain ⟨hμ9, rfl⟩ := hq
                      rw [hμ9]
                      clear hμ9 μ9
                      rw [ui_o (by omega)]
                      show Z 0 75 [(3, .int (nI (l + 2))), (0, .ref 50), (1, .int (nI s)), (2, .int (nI l))] [.int (μ.1 60 (34 * s + (l + 2)))] (z_ui μ 50 0 0)
                      refine zq_if hc hH (by rfl) (tg := 80) (by rfl) (fun h11 => ?_) (fun h11 => ?_)
                      · have h11 : (decide ((μ.1 60 (34 * s + (l + 2))) = 0)) = false := decide_eq_false (cm_ne.mp h11)
                        exact absurd (Eq.trans (Eq.symm (hz2)) h11) (by decide)
                      · have h11 : (decide ((μ.1 60 (34 * s + (l + 2))) = 0)) = true := decide_eq_true (cn_ne.mp h11)
                        refine z_rcs hc hH 1 (pc' := 79) (lv' := [(3, .int (nI (l + 2))), (0, .ref 50), (1, .int (nI s)), (2, .int (nI l))]) (st' := [.int 0]) (μ' := z_ui μ 50 0 0) (by rfl) ?_
                        exact hr 0 79 _ _ _ (some (.int 0)) (by decide +kernel) (by rfl) (⟨rfl, rfl⟩)
                · have h8 : (decide ((nI (l + 1)) = (nI (l + 1)))) = false := decide_eq_false (cn_eq.mp h8)
                  exact absurd (Eq.trans (Eq.symm (kn_eq rfl)) h8) (by decide)
            · have h6 : (decide ((μ.1 60 (34 * s + l)) = 0)) = true := decide_eq_true (cn_ne.mp h6)
              exact absurd (Eq.trans (Eq.symm (hz1)) h6) (by decide)
      · have h3 : (decide ((nI (l + 1)) ≤ (nI (l + 2)))) = false := decide_eq_false (cn_le.mp h3)
        exact absurd (Eq.trans (Eq.symm (kn_nle (by omega) (by omega) (by omega))) h3) (by decide)
theorem mr_runA2 (d : Nat) (hd : 4 ≤ d) (μ : zM) (s l : Nat) (hs4 : s < 4) (hl : l + 2 ≤ 33) (hc49 : μ.1 50 49 = nI (l + 2)) (t u1 : Nat) (ht4 : t < 4) (ht : μ.1 50 45 = nI t) (hu1 : (t + 1) % 4 = u1) (hu14 : u1 < 4) (hmc : ∀ d, 2 ≤ d → z_C d mi_X7_mayClaim [.ref 50, .int (nI s)] (z_ui μ 50 0 0) (zR (z_ui μ 50 0 0) (.int 1))) (hsu : decide (nI s = nI u1) = true) (hsr : ∀ d, 1 ≤ d → z_C d mi_X7_isRun [.int (nI l)] (z_ui μ 50 0 0) (zR (z_ui μ 50 0 0) (.int 1))) (hz1 : decide (μ.1 60 (34 * s + l) = 0) = true) : z_C d mi_X7_run [.ref 50, .int (nI s), .int (nI l)] μ (fun r μ' => r = some (.int 0) ∧ μ' = z_ui μ 50 0 0) := by
  refine z_C_in (by decide) (by omega) (fun d' Z ed hc hr => ?_)
  have hH : zH mi_X7_run zc_X7_run 79 7 5 := ⟨by rfl, by rfl, by rfl, by rfl⟩
  refine z_rcs hc hH 2 (pc' := 2) (lv' := [(0, .ref 50), (1, .int (nI s)), (2, .int (nI l))]) (st' := [.int 0, .ref 50]) (μ' := μ) (by rfl) ?_
  refine zq_pfi hc hH (by rfl) (ci := 6) (f := 0) (by rfl) (by decide +kernel) (by rfl) ?_
  show Z 0 5 [(0, .ref 50), (1, .int (nI s)), (2, .int (nI l))] [] (z_ui μ 50 0 0)
  refine z_rcs hc hH 2 (pc' := 7) (lv' := [(0, .ref 50), (1, .int (nI s)), (2, .int (nI l))]) (st' := [.int (nI s), .ref 50]) (μ' := z_ui μ 50 0 0) (by rfl) ?_
  refine zq_call hc (by rfl) (hmc d' (by omega)) (by decide +kernel) (fun r9 μ9 hq => ?_)
  obtain ⟨hμ9, rfl⟩ := hq
  rw [hμ9]
  clear hμ9 μ9
  show Z 0 10 [(0, .ref 50), (1, .int (nI s)), (2, .int (nI l))] [.int 1] (z_ui μ 50 0 0)
  refine z_rcs hc hH 3 (pc' := 15) (lv' := [(0, .ref 50), (1, .int (nI s)), (2, .int (nI l))]) (st' := [.ref 50, .int (nI s)]) (μ' := z_ui μ 50 0 0) (by rfl) ?_
  refine zq_gfi hc hH (by rfl) (ci := 6) (f := 45) (by rfl) (by decide +kernel) (by rfl) ?_
  rw [ui_k (by omega)]
  rw [ht]
  refine z_rcs hc hH 2 (pc' := 20) (lv' := [(0, .ref 50), (1, .int (nI s)), (2, .int (nI l))]) (st' := [.int ((nI t) + 1), .int (nI s)]) (μ' := z_ui μ 50 0 0) (by rfl) ?_
  rw [nI_s1]
  refine z_rcs hc hH 2 (pc' := 22) (lv' := [(0, .ref 50), (1, .int (nI s)), (2, .int (nI l))]) (st' := [.int ((nI (t + 1)) - (nI (t + 1)) / 4 * 4), .int (nI s)]) (μ' := z_ui μ 50 0 0) (by rfl) ?_
  rw [show nI (t + 1) - nI (t + 1) / 4 * 4 = nI u1 from by rw [rm4 _ (by omega), hu1]]
  refine zq_ic hc hH (by rfl) (tg := 50) (by rfl) (fun h1 => ?_) (fun h1 => ?_)
  · have h1 : (decide ((nI s) = (nI u1))) = false := decide_eq_false (cm_ne.mp h1)
    exact absurd (Eq.trans (Eq.symm (hsu)) h1) (by decide)
  · have h1 : (decide ((nI s) = (nI u1))) = true := decide_eq_true (cn_ne.mp h1)
    refine z_rcs hc hH 1 (pc' := 26) (lv' := [(0, .ref 50), (1, .int (nI s)), (2, .int (nI l))]) (st' := [.int (nI l)]) (μ' := z_ui μ 50 0 0) (by rfl) ?_
    refine zq_call hc (by rfl) (hsr d' (by omega)) (by decide +kernel) (fun r9 μ9 hq => ?_)
    obtain ⟨hμ9, rfl⟩ := hq
    rw [hμ9]
    clear hμ9 μ9
    show Z 0 29 [(0, .ref 50), (1, .int (nI s)), (2, .int (nI l))] [.int 1] (z_ui μ 50 0 0)
    refine z_rcs hc hH 2 (pc' := 33) (lv' := [(0, .ref 50), (1, .int (nI s)), (2, .int (nI l))]) (st' := [.ref 50]) (μ' := z_ui μ 50 0 0) (by rfl) ?_
    refine zq_gfi hc hH (by rfl) (ci := 6) (f := 49) (by rfl) (by decide +kernel) (by rfl) ?_
    rw [ui_k (by omega)]
    rw [hc49]
    refine z_rcs hc hH 1 (pc' := 37) (lv' := [(0, .ref 50), (1, .int (nI s)), (2, .int (nI l))]) (st' := [.int (nI l), .int (nI (l + 2))]) (μ' := z_ui μ 50 0 0) (by rfl) ?_
    refine zq_ic hc hH (by rfl) (tg := 50) (by rfl) (fun h2 => ?_) (fun h2 => ?_)
    · have h2 : (decide ((nI (l + 2)) < (nI l))) = true := decide_eq_true (cm_lt.mp h2)
      exact absurd (Eq.trans (Eq.symm (kn_nlg (by omega) (by omega) (by omega))) h2) (by decide)
    · have h2 : (decide ((nI (l + 2)) < (nI l))) = false := decide_eq_false (cn_lt.mp h2)
      refine z_rcs hc hH 1 (pc' := 41) (lv' := [(0, .ref 50), (1, .int (nI s)), (2, .int (nI l))]) (st' := [.ref 50]) (μ' := z_ui μ 50 0 0) (by rfl) ?_
      refine zq_gfi hc hH (by rfl) (ci := 6) (f := 49) (by rfl) (by decide +kernel) (by rfl) ?_
      rw [ui_k (by omega)]
      rw [hc49]
      refine z_rcs hc hH 3 (pc' := 47) (lv' := [(0, .ref 50), (1, .int (nI s)), (2, .int (nI l))]) (st' := [.int ((nI l) + 2), .int (nI (l + 2))]) (μ' := z_ui μ 50 0 0) (by rfl) ?_
      rw [show nI l + 2 = nI (l + 2) from nI_add l 2]
      refine zq_ic hc hH (by rfl) (tg := 52) (by rfl) (fun h3 => ?_) (fun h3 => ?_)
      · have h3 : (decide ((nI (l + 2)) ≤ (nI (l + 2)))) = true := decide_eq_true (cm_le.mp h3)
        refine z_rcs hc hH 6 (pc' := 58) (lv' := [(3, .int (nI l)), (0, .ref 50), (1, .int (nI s)), (2, .int (nI l))]) (st' := [.int ((nI l) + 3), .int (nI l)]) (μ' := z_ui μ 50 0 0) (by rfl) ?_
        rw [show nI l + 3 = nI (l + 3) from nI_add l 3]
        refine zq_ic hc hH (by rfl) (tg := 86) (by rfl) (fun h4 => ?_) (fun h4 => ?_)
        · have h4 : (decide ((nI (l + 3)) ≤ (nI l))) = true := decide_eq_true (cm_ge.mp h4)
          exact absurd (Eq.trans (Eq.symm (kn_nlf (by omega) (by omega) (by omega))) h4) (by decide)
        · have h4 : (decide ((nI (l + 3)) ≤ (nI l))) = false := decide_eq_false (cn_ge.mp h4)
          refine z_rcs hc hH 2 (pc' := 63) (lv' := [(3, .int (nI l)), (0, .ref 50), (1, .int (nI s)), (2, .int (nI l))]) (st' := [.ref 50, .int (nI l)]) (μ' := z_ui μ 50 0 0) (by rfl) ?_
          refine zq_gfi hc hH (by rfl) (ci := 6) (f := 49) (by rfl) (by decide +kernel) (by rfl) ?_
          rw [ui_k (by omega)]
          rw [hc49]
          refine zq_ic hc hH (by rfl) (tg := 80) (by rfl) (fun h5 => ?_) (fun h5 => ?_)
          · have h5 : (decide ((nI l) = (nI (l + 2)))) = true := decide_eq_true (cm_eq9.mp h5)
            exact absurd (Eq.trans (Eq.symm (kn_ne (by omega) (by omega) (by omega))) h5) (by decide)
          · have h5 : (decide ((nI l) = (nI (l + 2)))) = false := decide_eq_false (cn_eq.mp h5)
            refine z_rcs hc hH 3 (pc' := 72) (lv' := [(3, .int (nI l)), (0, .ref 50), (1, .int (nI s)), (2, .int (nI l))]) (st' := [.int (nI l), .int (nI s), .ref 50]) (μ' := z_ui μ 50 0 0) (by rfl) ?_
            refine zq_call hc (by rfl) (fc_X7_has_ d' (by omega) (z_ui μ 50 0 0) s l hs4 (by omega)) (by decide +kernel) (fun r9 μ9 hq => ?_)
            obtain ⟨hμ9, rfl⟩ := hq
            rw [hμ9]
            clear hμ9 μ9
            rw [ui_o (by omega)]
            show Z 0 75 [(3, .int (nI l)), (0, .ref 50), (1, .int (nI s)), (2, .int (nI l))] [.int (μ.1 60 (34 * s + l))] (z_ui μ 50 0 0)
            refine zq_if hc hH (by rfl) (tg := 80) (by rfl) (fun h6 => ?_) (fun h6 => ?_)
            · have h6 : (decide ((μ.1 60 (34 * s + l)) = 0)) = false := decide_eq_false (cm_ne.mp h6)
              exact absurd (Eq.trans (Eq.symm (hz1)) h6) (by decide)
            · have h6 : (decide ((μ.1 60 (34 * s + l)) = 0)) = true := decide_eq_true (cn_ne.mp h6)
              refine z_rcs hc hH 1 (pc' := 79) (lv' := [(3, .int (nI l)), (0, .ref 50), (1, .int (nI s)), (2, .int (nI l))]) (st' := [.int 0]) (μ' := z_ui μ 50 0 0) (by rfl) ?_
              exact hr 0 79 _ _ _ (some (.int 0)) (by decide +kernel) (by rfl) (⟨rfl, rfl⟩)
      · have h3 : (decide ((nI (l + 2)) ≤ (nI (l + 2)))) = false := decide_eq_false (cn_le.mp h3)
        exact absurd (Eq.trans (Eq.symm (kn_nle (by omega) (by omega) (by omega))) h3) (by decide)
theorem mr_runB2 (d : Nat) (hd : 4 ≤ d) (μ : zM) (s l : Nat) (hs4 : s < 4) (hl : l + 2 ≤ 33) (hc49 : μ.1 50 49 = nI (l + 2)) (t u1 : Nat) (ht4 : t < 4) (ht : μ.1 50 45 = nI t) (hu1 : (t + 1) % 4 = u1) (hu14 : u1 < 4) (hmc : ∀ d, 2 ≤ d → z_C d mi_X7_mayClaim [.ref 50, .int (nI s)] (z_ui μ 50 0 0) (zR (z_ui μ 50 0 0) (.int 1))) (hsu : decide (nI s = nI u1) = true) (hsr : ∀ d, 1 ≤ d → z_C d mi_X7_isRun [.int (nI l)] (z_ui μ 50 0 0) (zR (z_ui μ 50 0 0) (.int 1))) (hz1 : decide (μ.1 60 (34 * s + l) = 0) = false) (hz2 : decide (μ.1 60 (34 * s + (l + 1)) = 0) = true) : z_C d mi_X7_run [.ref 50, .int (nI s), .int (nI l)] μ (fun r μ' => r = some (.int 0) ∧ μ' = z_ui μ 50 0 0) := by
  refine z_C_in (by decide) (by omega) (fun d' Z ed hc hr => ?_)
  have hH : zH mi_X7_run zc_X7_run 79 7 5 := ⟨by rfl, by rfl, by rfl, by rfl⟩
  refine z_rcs hc hH 2 (pc' := 2) (lv' := [(0, .ref 50), (1, .int (nI s)), (2, .int (nI l))]) (st' := [.int 0, .ref 50]) (μ' := μ) (by rfl) ?_
  refine zq_pfi hc hH (by rfl) (ci := 6) (f := 0) (by rfl) (by decide +kernel) (by rfl) ?_
  show Z 0 5 [(0, .ref 50), (1, .int (nI s)), (2, .int (nI l))] [] (z_ui μ 50 0 0)
  refine z_rcs hc hH 2 (pc' := 7) (lv' := [(0, .ref 50), (1, .int (nI s)), (2, .int (nI l))]) (st' := [.int (nI s), .ref 50]) (μ' := z_ui μ 50 0 0) (by rfl) ?_
  refine zq_call hc (by rfl) (hmc d' (by omega)) (by decide +kernel) (fun r9 μ9 hq => ?_)
  obtain ⟨hμ9, rfl⟩ := hq
  rw [hμ9]
  clear hμ9 μ9
  show Z 0 10 [(0, .ref 50), (1, .int (nI s)), (2, .int (nI l))] [.int 1] (z_ui μ 50 0 0)
  refine z_rcs hc hH 3 (pc' := 15) (lv' := [(0, .ref 50), (1, .int (nI s)), (2, .int (nI l))]) (st' := [.ref 50, .int (nI s)]) (μ' := z_ui μ 50 0 0) (by rfl) ?_
  refine zq_gfi hc hH (by rfl) (ci := 6) (f := 45) (by rfl) (by decide +kernel) (by rfl) ?_
  rw [ui_k (by omega)]
  rw [ht]
  refine z_rcs hc hH 2 (pc' := 20) (lv' := [(0, .ref 50), (1, .int (nI s)), (2, .int (nI l))]) (st' := [.int ((nI t) + 1), .int (nI s)]) (μ' := z_ui μ 50 0 0) (by rfl) ?_
  rw [nI_s1]
  refine z_rcs hc hH 2 (pc' := 22) (lv' := [(0, .ref 50), (1, .int (nI s)), (2, .int (nI l))]) (st' := [.int ((nI (t + 1)) - (nI (t + 1)) / 4 * 4), .int (nI s)]) (μ' := z_ui μ 50 0 0) (by rfl) ?_
  rw [show nI (t + 1) - nI (t + 1) / 4 * 4 = nI u1 from by rw [rm4 _ (by omega), hu1]]
  refine zq_ic hc hH (by rfl) (tg := 50) (by rfl) (fun h1 => ?_) (fun h1 => ?_)
  · have h1 : (decide ((nI s) = (nI u1))) = false := decide_eq_false (cm_ne.mp h1)
    exact absurd (Eq.trans (Eq.symm (hsu)) h1) (by decide)
  · have h1 : (decide ((nI s) = (nI u1))) = true := decide_eq_true (cn_ne.mp h1)
    refine z_rcs hc hH 1 (pc' := 26) (lv' := [(0, .ref 50), (1, .int (nI s)), (2, .int (nI l))]) (st' := [.int (nI l)]) (μ' := z_ui μ 50 0 0) (by rfl) ?_
    refine zq_call hc (by rfl) (hsr d' (by omega)) (by decide +kernel) (fun r9 μ9 hq => ?_)
    obtain ⟨hμ9, rfl⟩ := hq
    rw [hμ9]
    clear hμ9 μ9
    show Z 0 29 [(0, .ref 50), (1, .int (nI s)), (2, .int (nI l))] [.int 1] (z_ui μ 50 0 0)
    refine z_rcs hc hH 2 (pc' := 33) (lv' := [(0, .ref 50), (1, .int (nI s)), (2, .int (nI l))]) (st' := [.ref 50]) (μ' := z_ui μ 50 0 0) (by rfl) ?_
    refine zq_gfi hc hH (by rfl) (ci := 6) (f := 49) (by rfl) (by decide +kernel) (by rfl) ?_
    rw [ui_k (by omega)]
    rw [hc49]
    refine z_rcs hc hH 1 (pc' := 37) (lv' := [(0, .ref 50), (1, .int (nI s)), (2, .int (nI l))]) (st' := [.int (nI l), .int (nI (l + 2))]) (μ' := z_ui μ 50 0 0) (by rfl) ?_
    refine zq_ic hc hH (by rfl) (tg := 50) (by rfl) (fun h2 => ?_) (fun h2 => ?_)
    · have h2 : (decide ((nI (l + 2)) < (nI l))) = true := decide_eq_true (cm_lt.mp h2)
      exact absurd (Eq.trans (Eq.symm (kn_nlg (by omega) (by omega) (by omega))) h2) (by decide)
    · have h2 : (decide ((nI (l + 2)) < (nI l))) = false := decide_eq_false (cn_lt.mp h2)
      refine z_rcs hc hH 1 (pc' := 41) (lv' := [(0, .ref 50), (1, .int (nI s)), (2, .int (nI l))]) (st' := [.ref 50]) (μ' := z_ui μ 50 0 0) (by rfl) ?_
      refine zq_gfi hc hH (by rfl) (ci := 6) (f := 49) (by rfl) (by decide +kernel) (by rfl) ?_
      rw [ui_k (by omega)]
      rw [hc49]
      refine z_rcs hc hH 3 (pc' := 47) (lv' := [(0, .ref 50), (1, .int (nI s)), (2, .int (nI l))]) (st' := [.int ((nI l) + 2), .int (nI (l + 2))]) (μ' := z_ui μ 50 0 0) (by rfl) ?_
      rw [show nI l + 2 = nI (l + 2) from nI_add l 2]
      refine zq_ic hc hH (by rfl) (tg := 52) (by rfl) (fun h3 => ?_) (fun h3 => ?_)
      · have h3 : (decide ((nI (l + 2)) ≤ (nI (l + 2)))) = true := decide_eq_true (cm_le.mp h3)
        refine z_rcs hc hH 6 (pc' := 58) (lv' := [(3, .int (nI l)), (0, .ref 50), (1, .int (nI s)), (2, .int (nI l))]) (st' := [.int ((nI l) + 3), .int (nI l)]) (μ' := z_ui μ 50 0 0) (by rfl) ?_
        rw [show nI l + 3 = nI (l + 3) from nI_add l 3]
        refine zq_ic hc hH (by rfl) (tg := 86) (by rfl) (fun h4 => ?_) (fun h4 => ?_)
        · have h4 : (decide ((nI (l + 3)) ≤ (nI l))) = true := decide_eq_true (cm_ge.mp h4)
          exact absurd (Eq.trans (Eq.symm (kn_nlf (by omega) (by omega) (by omega))) h4) (by decide)
        · have h4 : (decide ((nI (l + 3)) ≤ (nI l))) = false := decide_eq_false (cn_ge.mp h4)
          refine z_rcs hc hH 2 (pc' := 63) (lv' := [(3, .int (nI l)), (0, .ref 50), (1, .int (nI s)), (2, .int (nI l))]) (st' := [.ref 50, .int (nI l)]) (μ' := z_ui μ 50 0 0) (by rfl) ?_
          refine zq_gfi hc hH (by rfl) (ci := 6) (f := 49) (by rfl) (by decide +kernel) (by rfl) ?_
          rw [ui_k (by omega)]
          rw [hc49]
          refine zq_ic hc hH (by rfl) (tg := 80) (by rfl) (fun h5 => ?_) (fun h5 => ?_)
          · have h5 : (decide ((nI l) = (nI (l + 2)))) = true := decide_eq_true (cm_eq9.mp h5)
            exact absurd (Eq.trans (Eq.symm (kn_ne (by omega) (by omega) (by omega))) h5) (by decide)
          · have h5 : (decide ((nI l) = (nI (l + 2)))) = false := decide_eq_false (cn_eq.mp h5)
            refine z_rcs hc hH 3 (pc' := 72) (lv' := [(3, .int (nI l)), (0, .ref 50), (1, .int (nI s)), (2, .int (nI l))]) (st' := [.int (nI l), .int (nI s), .ref 50]) (μ' := z_ui μ 50 0 0) (by rfl) ?_
            refine zq_call hc (by rfl) (fc_X7_has_ d' (by omega) (z_ui μ 50 0 0) s l hs4 (by omega)) (by decide +kernel) (fun r9 μ9 hq => ?_)
            obtain ⟨hμ9, rfl⟩ := hq
            rw [hμ9]
            clear hμ9 μ9
            rw [ui_o (by omega)]
            show Z 0 75 [(3, .int (nI l)), (0, .ref 50), (1, .int (nI s)), (2, .int (nI l))] [.int (μ.1 60 (34 * s + l))] (z_ui μ 50 0 0)
            refine zq_if hc hH (by rfl) (tg := 80) (by rfl) (fun h6 => ?_) (fun h6 => ?_)
            · have h6 : (decide ((μ.1 60 (34 * s + l)) = 0)) = false := decide_eq_false (cm_ne.mp h6)
              refine z_rcs hc hH 3 (pc' := 55) (lv' := [(3, .int ((nI l) + 1)), (0, .ref 50), (1, .int (nI s)), (2, .int (nI l))]) (st' := [.int ((nI l) + 1)]) (μ' := z_ui μ 50 0 0) (by rfl) ?_
              rw [nI_s1]
              refine z_rcs hc hH 3 (pc' := 58) (lv' := [(3, .int (nI (l + 1))), (0, .ref 50), (1, .int (nI s)), (2, .int (nI l))]) (st' := [.int ((nI l) + 3), .int (nI (l + 1))]) (μ' := z_ui μ 50 0 0) (by rfl) ?_
              rw [show nI l + 3 = nI (l + 3) from nI_add l 3]
              refine zq_ic hc hH (by rfl) (tg := 86) (by rfl) (fun h7 => ?_) (fun h7 => ?_)
              · have h7 : (decide ((nI (l + 3)) ≤ (nI (l + 1)))) = true := decide_eq_true (cm_ge.mp h7)
                exact absurd (Eq.trans (Eq.symm (kn_nlf (by omega) (by omega) (by omega))) h7) (by decide)
              · have h7 : (decide ((nI (l + 3)) ≤ (nI (l + 1)))) = false := decide_eq_false (cn_ge.mp h7)
                refine z_rcs hc hH 2 (pc' := 63) (lv' := [(3, .int (nI (l + 1))), (0, .ref 50), (1, .int (nI s)), (2, .int (nI l))]) (st' := [.ref 50, .int (nI (l + 1))]) (μ' := z_ui μ 50 0 0) (by rfl) ?_
                refine zq_gfi hc hH (by rfl) (ci := 6) (f := 49) (by rfl) (by decide +kernel) (by rfl) ?_
                rw [ui_k (by omega)]
                rw [hc49]
                refine zq_ic hc hH (by rfl) (tg := 80) (by rfl) (fun h8 => ?_) (fun h8 => ?_)
                · have h8 : (decide ((nI (l + 1)) = (nI (l + 2)))) = true := decide_eq_true (cm_eq9.mp h8)
                  exact absurd (Eq.trans (Eq.symm (kn_ne (by omega) (by omega) (by omega))) h8) (by decide)
                · have h8 : (decide ((nI (l + 1)) = (nI (l + 2)))) = false := decide_eq_false (cn_eq.mp h8)
                  refine z_rcs hc hH 3 (pc' := 72) (lv' := [(3, .int (nI (l + 1))), (0, .ref 50), (1, .int (nI s)), (2, .int (nI l))]) (st' := [.int (nI (l + 1)), .int (nI s), .ref 50]) (μ' := z_ui μ 50 0 0) (by rfl) ?_
                  refine zq_call hc (by rfl) (fc_X7_has_ d' (by omega) (z_ui μ 50 0 0) s (l + 1) hs4 (by omega)) (by decide +kernel) (fun r9 μ9 hq => ?_)
                  obtain ⟨hμ9, rfl⟩ := hq
                  rw [hμ9]
                  clear hμ9 μ9
                  rw [ui_o (by omega)]
                  show Z 0 75 [(3, .int (nI (l + 1))), (0, .ref 50), (1, .int (nI s)), (2, .int (nI l))] [.int (μ.1 60 (34 * s + (l + 1)))] (z_ui μ 50 0 0)
                  refine zq_if hc hH (by rfl) (tg := 80) (by rfl) (fun h9 => ?_) (fun h9 => ?_)
                  · have h9 : (decide ((μ.1 60 (34 * s + (l + 1))) = 0)) = false := decide_eq_false (cm_ne.mp h9)
                    exact absurd (Eq.trans (Eq.symm (hz2)) h9) (by decide)
                  · have h9 : (decide ((μ.1 60 (34 * s + (l + 1))) = 0)) = true := decide_eq_true (cn_ne.mp h9)
                    refine z_rcs hc hH 1 (pc' := 79) (lv' := [(3, .int (nI (l + 1))), (0, .ref 50), (1, .int (nI s)), (2, .int (nI l))]) (st' := [.int 0]) (μ' := z_ui μ 50 0 0) (by rfl) ?_
                    exact hr 0 79 _ _ _ (some (.int 0)) (by decide +kernel) (by rfl) (⟨rfl, rfl⟩)
            · have h6 : (decide ((μ.1 60 (34 * s + l)) = 0)) = true := decide_eq_true (cn_ne.mp h6)
              exact absurd (Eq.trans (Eq.symm (hz1)) h6) (by decide)
      · have h3 : (decide ((nI (l + 2)) ≤ (nI (l + 2)))) = false := decide_eq_false (cn_le.mp h3)
        exact absurd (Eq.trans (Eq.symm (kn_nle (by omega) (by omega) (by omega))) h3) (by decide)
theorem mr_discH (d : Nat) (hd : 4 ≤ d) (μ : zM) (t k : Nat) (ht4 : t < 4) (ht : μ.1 50 45 = nI t) (hk : k < 34) (b : Int32) (hp : decide (μ.1 50 44 = 1) = true) (hz : decide (μ.1 60 (34 * t + k) = 0) = true) : z_C d mi_X7_discard [.ref 50, .int (nI k), .int b] μ (fun r μ' => r = some (.int 0) ∧ μ' = z_ui μ 50 0 0) := by
  refine z_C_in (by decide) (by omega) (fun d' Z ed hc hr => ?_)
  have hH : zH mi_X7_discard zc_X7_discard 79 7 5 := ⟨by rfl, by rfl, by rfl, by rfl⟩
  refine z_rcs hc hH 2 (pc' := 2) (lv' := [(0, .ref 50), (1, .int (nI k)), (2, .int b)]) (st' := [.int 0, .ref 50]) (μ' := μ) (by rfl) ?_
  refine zq_pfi hc hH (by rfl) (ci := 6) (f := 0) (by rfl) (by decide +kernel) (by rfl) ?_
  show Z 0 5 [(0, .ref 50), (1, .int (nI k)), (2, .int b)] [] (z_ui μ 50 0 0)
  refine z_rcs hc hH 1 (pc' := 6) (lv' := [(0, .ref 50), (1, .int (nI k)), (2, .int b)]) (st' := [.ref 50]) (μ' := z_ui μ 50 0 0) (by rfl) ?_
  refine zq_gfi hc hH (by rfl) (ci := 6) (f := 44) (by rfl) (by decide +kernel) (by rfl) ?_
  rw [ui_k (by omega)]
  refine z_rcs hc hH 1 (pc' := 10) (lv' := [(0, .ref 50), (1, .int (nI k)), (2, .int b)]) (st' := [.int 1, .int (μ.1 50 44)]) (μ' := z_ui μ 50 0 0) (by rfl) ?_
  refine zq_ic hc hH (by rfl) (tg := 32) (by rfl) (fun h1 => ?_) (fun h1 => ?_)
  · have h1 : (decide ((μ.1 50 44) = 1)) = false := decide_eq_false (cm_ne.mp h1)
    exact absurd (Eq.trans (Eq.symm (hp)) h1) (by decide)
  · have h1 : (decide ((μ.1 50 44) = 1)) = true := decide_eq_true (cn_ne.mp h1)
    refine z_rcs hc hH 1 (pc' := 14) (lv' := [(0, .ref 50), (1, .int (nI k)), (2, .int b)]) (st' := [.int (nI k)]) (μ' := z_ui μ 50 0 0) (by rfl) ?_
    refine zq_call hc (by rfl) (gm_isKindN d' (by omega) (z_ui μ 50 0 0) k hk) (by decide +kernel) (fun r9 μ9 hq => ?_)
    obtain ⟨hμ9, rfl⟩ := hq
    rw [hμ9]
    clear hμ9 μ9
    show Z 0 17 [(0, .ref 50), (1, .int (nI k)), (2, .int b)] [.int 1] (z_ui μ 50 0 0)
    refine z_rcs hc hH 3 (pc' := 22) (lv' := [(0, .ref 50), (1, .int (nI k)), (2, .int b)]) (st' := [.ref 50, .ref 50]) (μ' := z_ui μ 50 0 0) (by rfl) ?_
    refine zq_gfi hc hH (by rfl) (ci := 6) (f := 45) (by rfl) (by decide +kernel) (by rfl) ?_
    rw [ui_k (by omega)]
    rw [ht]
    refine z_rcs hc hH 1 (pc' := 26) (lv' := [(0, .ref 50), (1, .int (nI k)), (2, .int b)]) (st' := [.int (nI k), .int (nI t), .ref 50]) (μ' := z_ui μ 50 0 0) (by rfl) ?_
    refine zq_call hc (by rfl) (fc_X7_has_ d' (by omega) (z_ui μ 50 0 0) t k ht4 hk) (by decide +kernel) (fun r9 μ9 hq => ?_)
    obtain ⟨hμ9, rfl⟩ := hq
    rw [hμ9]
    clear hμ9 μ9
    rw [ui_o (by omega)]
    show Z 0 29 [(0, .ref 50), (1, .int (nI k)), (2, .int b)] [.int (μ.1 60 (34 * t + k))] (z_ui μ 50 0 0)
    refine zq_if hc hH (by rfl) (tg := 34) (by rfl) (fun h2 => ?_) (fun h2 => ?_)
    · have h2 : (decide ((μ.1 60 (34 * t + k)) = 0)) = false := decide_eq_false (cm_ne.mp h2)
      exact absurd (Eq.trans (Eq.symm (hz)) h2) (by decide)
    · have h2 : (decide ((μ.1 60 (34 * t + k)) = 0)) = true := decide_eq_true (cn_ne.mp h2)
      refine z_rcs hc hH 1 (pc' := 33) (lv' := [(0, .ref 50), (1, .int (nI k)), (2, .int b)]) (st' := [.int 0]) (μ' := z_ui μ 50 0 0) (by rfl) ?_
      exact hr 0 33 _ _ _ (some (.int 0)) (by decide +kernel) (by rfl) (⟨rfl, rfl⟩)
theorem gx_atZ (d : Nat) (hd : 3 ≤ d) (μ : zM) (j : Nat) (hj : j < 4) (x : Int32) (hf : decide (fr μ (20 + 8 * j) x = 0) = true) : z_C d mi_X3_addToThree [.ref (19 + 8 * j), .int x] μ (fun r μ' => r = some (.int 0) ∧ μ' = μ) := by
  refine z_C_in (by decide) (by omega) (fun d' Z ed hc hr => ?_)
  have hH : zH mi_X3_addToThree zc_X3_addToThree 79 3 3 := ⟨by rfl, by rfl, by rfl, by rfl⟩
  refine z_rcs hc hH 2 (pc' := 2) (lv' := [(0, .ref (19 + 8 * j)), (1, .int x)]) (st' := [.int x, .ref (19 + 8 * j)]) (μ' := μ) (by rfl) ?_
  refine zq_call hc (z_clv (by rfl) (by rfl) (by rfl) (by rfl) (by rfl) (by rfl) (sj (P := fun i => okr 79 2 (19 + 8 * i)) hj (by decide +kernel)) (by rfl) (by rfl)) (gc_free d' (by omega) μ j hj x) (by decide +kernel) (fun r9 μ9 hq => ?_)
  obtain ⟨hμ9, rfl⟩ := hq
  rw [hμ9]
  clear hμ9 μ9
  show Z 0 5 [(0, .ref (19 + 8 * j)), (1, .int x)] [.int (fr μ (20 + 8 * j) x)] μ
  refine zq_if hc hH (by rfl) (tg := 10) (by rfl) (fun h1 => ?_) (fun h1 => ?_)
  · have h1 : (decide ((fr μ (20 + 8 * j) x) = 0)) = false := decide_eq_false (cm_ne.mp h1)
    exact absurd (Eq.trans (Eq.symm (hf)) h1) (by decide)
  · have h1 : (decide ((fr μ (20 + 8 * j) x) = 0)) = true := decide_eq_true (cn_ne.mp h1)
    refine z_rcs hc hH 1 (pc' := 9) (lv' := [(0, .ref (19 + 8 * j)), (1, .int x)]) (st' := [.int 0]) (μ' := μ) (by rfl) ?_
    exact hr 0 9 _ _ _ (some (.int 0)) (by decide +kernel) (by rfl) (⟨rfl, rfl⟩)
theorem gx_addF (d : Nat) (hd : 4 ≤ d) (μ : zM) (x : Int32) (t : Nat) (ht4 : t < 4) (ht : μ.1 0 8 = nI t) (hmm : ∀ d, 3 ≤ d → z_C d mi_X6_mayMakeFour [.ref 0] μ (zR μ (.int 1))) (hat : ∀ d, 3 ≤ d → z_C d mi_X3_addToThree [.ref (19 + 8 * t), .int x] μ (zR μ (.int 0))) : z_C d mi_X6_add [.ref 0, .int x] μ (fun r μ' => r = some (.int 0) ∧ μ' = μ) := by
  refine z_C_in (by decide) (by omega) (fun d' Z ed hc hr => ?_)
  have hH : zH mi_X6_add zc_X6_add 79 6 2 := ⟨by rfl, by rfl, by rfl, by rfl⟩
  refine z_rcs hc hH 1 (pc' := 1) (lv' := [(0, .ref 0), (1, .int x)]) (st' := [.ref 0]) (μ' := μ) (by rfl) ?_
  refine zq_call hc (by rfl) (hmm d' (by omega)) (by decide +kernel) (fun r9 μ9 hq => ?_)
  obtain ⟨hμ9, rfl⟩ := hq
  rw [hμ9]
  clear hμ9 μ9
  show Z 0 4 [(0, .ref 0), (1, .int x)] [.int 1] μ
  refine z_rcs hc hH 3 (pc' := 9) (lv' := [(0, .ref 0), (1, .int x)]) (st' := [.ref 0, .ref 0]) (μ' := μ) (by rfl) ?_
  refine zq_gfi hc hH (by rfl) (ci := 5) (f := 8) (by rfl) (by decide +kernel) (by rfl) ?_
  rw [ht]
  refine zq_call hc (by rfl) (gc_at4 d' (by omega) μ t ht4) (by decide +kernel) (fun r9 μ9 hq => ?_)
  obtain ⟨hμ9, rfl⟩ := hq
  rw [hμ9]
  clear hμ9 μ9
  show Z 0 15 [(0, .ref 0), (1, .int x)] [.ref (18 + 8 * t)] μ
  refine zq_gfr hc hH (by rfl) (ci := 1) (f := 0) (q := 19 + 8 * t) (by rfl) (sj (P := fun i => okf 79 1 0 (18 + 8 * i)) ht4 (by decide +kernel)) (by rfl) (sj (P := fun i => Nat.beq (z_gr (18 + 8 * i) 0) (19 + 8 * i)) ht4 (by decide +kernel)) ?_
  refine z_rcs hc hH 1 (pc' := 19) (lv' := [(0, .ref 0), (1, .int x)]) (st' := [.int x, .ref (19 + 8 * t)]) (μ' := μ) (by rfl) ?_
  refine zq_call hc (z_clv (by rfl) (by rfl) (by rfl) (by rfl) (by rfl) (by rfl) (sj (P := fun i => okr 79 2 (19 + 8 * i)) ht4 (by decide +kernel)) (by rfl) (by rfl)) (hat d' (by omega)) (by decide +kernel) (fun r9 μ9 hq => ?_)
  obtain ⟨hμ9, rfl⟩ := hq
  rw [hμ9]
  clear hμ9 μ9
  show Z 0 22 [(0, .ref 0), (1, .int x)] [.int 0] μ
  refine z_rcs hc hH 2 (pc' := 26) (lv' := [(0, .ref 0), (1, .int x)]) (st' := [.int 0]) (μ' := μ) (by rfl) ?_
  exact hr 0 26 _ _ _ (some (.int 0)) (by decide +kernel) (by rfl) (⟨rfl, rfl⟩)
theorem gx_nineP (d : Nat) (hd : 2 ≤ d) (μ : zM) (hp : decide (μ.1 0 7 = 1) = false) : z_C d mi_X6_nine [.ref 0] μ (fun r μ' => r = some (.int 0) ∧ μ' = μ) := by
  refine z_C_in (by decide) (by omega) (fun d' Z ed hc hr => ?_)
  have hH : zH mi_X6_nine zc_X6_nine 79 6 1 := ⟨by rfl, by rfl, by rfl, by rfl⟩
  refine z_rcs hc hH 1 (pc' := 1) (lv' := [(0, .ref 0)]) (st' := [.ref 0]) (μ' := μ) (by rfl) ?_
  refine zq_gfi hc hH (by rfl) (ci := 5) (f := 7) (by rfl) (by decide +kernel) (by rfl) ?_
  refine z_rcs hc hH 1 (pc' := 5) (lv' := [(0, .ref 0)]) (st' := [.int 1, .int (μ.1 0 7)]) (μ' := μ) (by rfl) ?_
  refine zq_ic hc hH (by rfl) (tg := 29) (by rfl) (fun h1 => ?_) (fun h1 => ?_)
  · have h1 : (decide ((μ.1 0 7) = 1)) = false := decide_eq_false (cm_ne.mp h1)
    refine z_rcs hc hH 1 (pc' := 30) (lv' := [(0, .ref 0)]) (st' := [.int 0]) (μ' := μ) (by rfl) ?_
    exact hr 0 30 _ _ _ (some (.int 0)) (by decide +kernel) (by rfl) (⟨rfl, rfl⟩)
  · have h1 : (decide ((μ.1 0 7) = 1)) = true := decide_eq_true (cn_ne.mp h1)
    exact absurd (Eq.trans (Eq.symm (hp)) h1) (by decide)
/-! both calls together; the tile is let go, whoever's turn it is -/
set_option maxRecDepth 8000
abbrev GO (d j j' : Nat) (As As' : List Value) (μ : zM) : Prop := z_C d j As μ (fun r μ1 => LJ μ1 ∧ ∃ y, r = some (.int y) ∧ z_C d j' As' μ1 (fun r2 μ2 => LGm μ2 ∧ r2 = some (.int y)))
theorem eqX_tr {a b c : zM} (h : EqX a b) (g : EqX b c) : EqX a c := fun r k q => ⟨(g r k q).1.trans (h r k q).1, (g r k q).2.trans (h r k q).2⟩
theorem eqM_tr {a b c : zM} (h : EqM a b) (g : EqM b c) : EqM a c := fun r k q => ⟨(g r k q).1.trans (h r k q).1, (g r k q).2.trans (h r k q).2⟩
theorem go_no {d j j' : Nat} {As As' : List Value} {μ : zM} (hR : RG μ μ) (kx : z_C d j As μ (fun _ μ' => LJ μ' ∧ EqM μ μ')) (km : ∀ μ1, LJ μ1 → z_C d j' As' μ1 (fun _ μ' => LJ μ' ∧ EqX μ1 μ')) (c1 : z_C d j As μ (fun r μ' => r = some (.int 0) ∧ μ' = μ)) (c2 : z_C d j' As' μ (fun r μ' => r = some (.int 0) ∧ μ' = z_ui μ 50 0 0)) : GO d j j' As As' μ := z_C_mono (zC_and d kx c1) (fun r μ1 q => by
  obtain ⟨⟨q1, _⟩, q2, rfl⟩ := q
  exact ⟨q1, 0, q2, z_C_mono (zC_and d (km _ q1) c2) (fun r2 μ2 z => ⟨lg_no hR z.2.2 z.1.1, z.2.1⟩)⟩)
theorem go_yes {d j j' : Nat} {As As' : List Value} {μ : zM} {X : zM} {y : Int32} (kx : z_C d j As μ (fun _ μ' => LJ μ' ∧ EqM μ μ')) (km : ∀ μ1, LJ μ1 → z_C d j' As' μ1 (fun _ μ' => LJ μ' ∧ EqX μ1 μ')) (c1 : z_C d j As μ (fun r μ' => r = some (.int y) ∧ EqX X μ')) (c2 : ∀ μ1, LJ μ1 → EqM μ μ1 → z_C d j' As' μ1 (fun r μ' => r = some (.int y) ∧ RG X μ')) : GO d j j' As As' μ := z_C_mono (zC_and d kx c1) (fun r μ1 q => ⟨q.1.1, y, q.2.1, z_C_mono (zC_and d (km μ1 q.1.1) (c2 μ1 q.1.1 q.1.2)) (fun r2 μ2 z => ⟨⟨z.1.1, z.2.2.cg (eqX_tr q.2.2 z.1.2) (eqM_rf _)⟩, z.2.1⟩)⟩)
/-- the reference's cells of the game but for what may not be discarded -/
def EqB (m m' : zM) : Prop := ∀ r k, gMc r k → ¬ (r = 50 ∧ (k = 50 ∨ k = 51)) → m'.1 r k = m.1 r k ∧ m'.2.1 r k = m.2.1 r k
theorem RCl.cgB {x m m' : zM} (e : EqB m m') (h : RCl x m) : RCl x m' := RCl.cg2 (q2_x _) (fun r k g => e r k (by unfold gM2 at g; unfold gMc; omega) (by unfold gM2 at g; omega)) h
theorem RPh.cgB {x m m' : zM} (hm : EqB m m') {p t c : Nat} (hp : p ≠ 1) (h : RPh x m p t c) : RPh x m' p t c := by
  have M : ∀ r k, gMc r k → ¬ (r = 50 ∧ (k = 50 ∨ k = 51)) → m'.1 r k = m.1 r k := fun r k q z => (hm r k q z).1
  unfold gMc at M
  have m44 := M 50 44 (by omega) (by omega)
  have m45 := M 50 45 (by omega) (by omega)
  have m46 := M 50 46 (by omega) (by omega)
  have m47 := M 50 47 (by omega) (by omega)
  have m48 := M 50 48 (by omega) (by omega)
  have m49 := M 50 49 (by omega) (by omega)
  have m40 := M 50 40 (by omega) (by omega)
  have m53 := M 50 53 (by omega) (by omega)
  have m55 := M 50 55 (by omega) (by omega)
  have m56 := M 50 56 (by omega) (by omega)
  have m57 := M 50 57 (by omega) (by omega)
  have m58 := M 50 58 (by omega) (by omega)
  have m59 := M 50 59 (by omega) (by omega)
  have m64 : ∀ s, m'.1 64 s = m.1 64 s := fun s => M 64 s (by omega) (by omega)
  have m66 : ∀ s, m'.1 66 s = m.1 66 s := fun s => M 66 s (by omega) (by omega)
  have m68 : ∀ s, m'.1 68 s = m.1 68 s := fun s => M 68 s (by omega) (by omega)
  have m71 : ∀ s, m'.1 71 s = m.1 71 s := fun s => M 71 s (by omega) (by omega)
  have mW : fW m' = fW m := funext fun i => M 59 i (by omega) (by omega)
  exact ⟨(by rw [m47]; exact h.fo), (by exact h.px), (by rw [m44]; exact h.pm), (by exact h.tx), (by rw [m45]; exact h.tm), h.t4, h.p3, (by exact h.cx), (by rw [m49]; exact h.cm), h.c3, fun q => absurd q hp, (by rw [m56]; exact h.br), (by simp only [m56, m64]; exact h.us), (by rw [m58]; exact h.bf), fun q => absurd q hp, fun q => absurd q hp, fun q => absurd q hp, h.a3, fun s hs => by rw [m59]; exact h.ow s hs, (by rw [m59]; exact h.o1), (by rw [m55]; exact h.is), (by rw [m71]; exact h.s0), (by simp only [m71]; exact h.s1), (by rw [m53]; exact h.w0), (by simp only [m68, m46, m48, m40]; exact h.dn), (by simp only [m56, m68, m66]; exact h.dr), (by rw [m56, m40, m68]; exact h.d2), h.tc.elim fun a z => ⟨a, fun s k hs hk => by exact z.1 s k hs hk, by rw [mW, m46, m48]; exact z.2⟩⟩
theorem eB_M {m m' : zM} (h : EqM m m') : EqB m m' := fun r k g _ => h r k g
theorem eB_tr {a b c : zM} (h : EqB a b) (g : EqB b c) : EqB a c := fun r k q z => ⟨(g r k q z).1.trans (h r k q z).1, (g r k q z).2.trans (h r k q z).2⟩
theorem eB_0 (m : zM) (v : Int32) : EqB m (z_ui m 50 0 v) := eB_M (t0_EqM m v)
theorem eB_50 (m : zM) (v w : Int32) : EqB m (z_ui (z_ui m 50 50 v) 50 51 w) := fun r k g z => ⟨by
  by_cases e : r = 50
  · subst e
    rw [ui_k (by omega), ui_k (by omega)]
  · rw [ui_o e, ui_o e], rfl⟩
theorem gv_c {m : zM} {s c : Nat} {n n' : Int32} (h : n + n' = 0) (r k : Nat) : (z_giv (z_giv m s c n) s c n').1 r k = m.1 r k := by
  unfold z_giv
  by_cases e : r = 60
  · subst e
    by_cases e2 : k = 34 * s + c
    · subst e2; rw [ui_s, ui_s, Int32.add_assoc, h, Int32.add_zero]
    · rw [ui_k e2, ui_k e2]
  · rw [ui_o e, ui_o e]
theorem gv_c4 {m : zM} {s a b : Nat} {n n' : Int32} (hab : a ≠ b) (h : n + n' = 0) (r k : Nat) : (z_giv (z_giv (z_giv (z_giv m s a n) s b n) s a n') s b n').1 r k = m.1 r k := by
  unfold z_giv
  by_cases e : r = 60
  · subst e
    by_cases e2 : k = 34 * s + a
    · subst e2
      simp (disch := omega) only [ui_s, ui_k]
      rw [Int32.add_assoc, h, Int32.add_zero]
    · by_cases e3 : k = 34 * s + b
      · subst e3
        simp (disch := omega) only [ui_s, ui_k]
        rw [Int32.add_assoc, h, Int32.add_zero]
      · simp (disch := omega) only [ui_s, ui_k]
  · rw [ui_o e, ui_o e, ui_o e, ui_o e]
theorem eB_g {m : zM} {s c : Nat} {n n' : Int32} (h : n + n' = 0) : EqB m (z_giv (z_giv m s c n) s c n') := fun r k _ _ => ⟨gv_c h r k, rfl⟩
theorem eB_g4 {m : zM} {s a b : Nat} {n n' : Int32} (hab : a ≠ b) (h : n + n' = 0) : EqB m (z_giv (z_giv (z_giv (z_giv m s a n) s b n) s a n') s b n') := fun r k _ _ => ⟨gv_c4 hab h r k, rfl⟩
theorem eB_SE {m m' : zM} (h : EqB m m') : SE m m' := fun r k g => (h r k (Or.inl ⟨by omega, by omega⟩) (by omega)).1
theorem RG.cgB2 {x m m' : zM} {t c : Nat} (R : RCl x m) (P : RPh x m 2 t c) (e : EqB m m') : RG x m' := ⟨R.cgB e, Or.inr ⟨2, t, c, P.cgB e (by decide)⟩⟩
/-- the WAITS of all four, as both sides ask for them -/
def WW (x m : zM) (c : Nat) (W : Nat → Int64) : Prop := ∀ u, u < 4 → (∀ μ1, TE x μ1 → ∀ d, 6 ≤ d → z_C d mi_X3_waitsFor [.ref (19 + 8 * u), .int (nI c)] μ1 (zR μ1 (.int (nB (bw (W u) c))))) ∧ (∀ M, SE m M → a_H M → ∀ d, 699 ≤ d → z_C d mi_X7_waitsAt [.ref 50, .int (nI u)] M (fun r V => r = some (.long (W u)) ∧ SMj M V ∧ a_H V)) ∧ (∀ μ1, TE x μ1 → ∀ d, 7 ≤ d → z_C d mi_X3_waiting [.ref (19 + 8 * u)] μ1 (zR μ1 (.long (W u)))) ∧ (∃ f : Nat → Bool, W u = kb f 34)
theorem ww_of {x m : zM} {p t c : Nat} (R : RCl x m) (P : RPh x m p t c) (hA : a_H m) (hG : GP m) (hc : c < 34) : ∃ W, WW x m c W := by
  have H : ∀ u, ∃ v : Int64, u < 4 → (∀ μ1, TE x μ1 → ∀ d, 6 ≤ d → z_C d mi_X3_waitsFor [.ref (19 + 8 * u), .int (nI c)] μ1 (zR μ1 (.int (nB (bw v c))))) ∧ (∀ M, SE m M → a_H M → ∀ d, 699 ≤ d → z_C d mi_X7_waitsAt [.ref 50, .int (nI u)] M (fun r V => r = some (.long v) ∧ SMj M V ∧ a_H V)) ∧ (∀ μ1, TE x μ1 → ∀ d, 7 ≤ d → z_C d mi_X3_waiting [.ref (19 + 8 * u)] μ1 (zR μ1 (.long v))) ∧ (∃ f : Nat → Bool, v = kb f 34) := fun u => by
    by_cases hu : u < 4
    · obtain ⟨w, aw, q, sL, lL, H⟩ := hf_of R P hA hG hu
      exact ⟨WV m u w q, fun _ => ⟨cw_for H hu hc, mw_wait H.1 hu, cw_wait H hu, _, rfl⟩⟩
    · exact ⟨0, fun h => absurd h hu⟩
  exact ⟨fun u => Classical.choose (H u), fun u hu => Classical.choose_spec (H u) hu⟩
theorem WW.m {x m m' : zM} {c : Nat} {W : Nat → Int64} (h : WW x m c W) (e : SE m m') : WW x m' c W := fun u hu => ⟨(h u hu).1, fun M hM => (h u hu).2.1 M (fun r k g => (hM r k g).trans (e r k g)), (h u hu).2.2⟩
def ovF (m : zM) (t c : Nat) (W : Nat → Int64) : zM := match t with
  | 0 => ovM0 m c (W 1) (W 2) (W 3)
  | 1 => ovM1 m c (W 0) (W 2) (W 3)
  | 2 => ovM2 m c (W 0) (W 1) (W 3)
  | _ => ovM3 m c (W 0) (W 1) (W 2)
def lTf (x : zM) (t c : Nat) (W : Nat → Int64) : zM := lT x t ((t + 1) % 4) ((t + 2) % 4) ((t + 3) % 4) (bw (W ((t + 1) % 4)) c) (bw (W ((t + 2) % 4)) c) (bw (W ((t + 3) % 4)) c)
theorem t_four {t : Nat} (h : t < 4) : t = 0 ∨ t = 1 ∨ t = 2 ∨ t = 3 := by omega
theorem ov_go {x m : zM} {t c : Nat} {W : Nat → Int64} (hW : WW x m c W) (hA : a_H m) (ht4 : t < 4) (ht : m.1 50 45 = nI t) (hc : m.1 50 49 = nI c) : ∀ d, 701 ≤ d → z_C d mi_X7_over [.ref 50] m (fun r V => r = none ∧ SMj (ovF m t c W) V ∧ a_H V) := fun d hd => by
  have k : z_C d mi_X7_over [.ref 50] m (fun _ V => a_H V) := z_C_mono (a_use (i := 122) (K := ak_122) rfl (by omega) [.ref 50] m (aArg_pre ⟨⟨50, by decide, rfl⟩, trivial⟩ rfl) hA) (fun _ _ q => q.1)
  have g : z_C d mi_X7_over [.ref 50] m (fun r V => r = none ∧ SMj (ovF m t c W) V) := by
    obtain rfl | rfl | rfl | rfl := t_four ht4
    · exact gm_over0 d (by omega) m hA c hc ht _ (hW 1 (by decide)).2.1 _ (hW 2 (by decide)).2.1 _ (hW 3 (by decide)).2.1
    · exact gm_over1 d (by omega) m hA c hc ht _ (hW 0 (by decide)).2.1 _ (hW 2 (by decide)).2.1 _ (hW 3 (by decide)).2.1
    · exact gm_over2 d (by omega) m hA c hc ht _ (hW 0 (by decide)).2.1 _ (hW 1 (by decide)).2.1 _ (hW 3 (by decide)).2.1
    · exact gm_over3 d (by omega) m hA c hc ht _ (hW 0 (by decide)).2.1 _ (hW 1 (by decide)).2.1 _ (hW 2 (by decide)).2.1
  exact z_C_mono (zC_and d k g) (fun r V q => ⟨q.2.1, q.2.2, q.1⟩)
theorem ov_rq {x m : zM} {p t c : Nat} {W : Nat → Int64} (R : RCl x m) (P : RPh x m p t c) (hp : p = 2 ∨ p = 3) (hs : ∀ s, s < 4 → m.1 71 s = 0) : RCl (lTf x t c W) (ovF m t c W) ∧ RQ (lTf x t c W) (ovF m t c W) (if p = 2 then c else 34) ∧ (lTf x t c W).1 2 3 = (ovF m t c W).1 50 47 := by
  obtain rfl | rfl | rfl | rfl := t_four P.t4
  · exact ⟨rc_over0 R ((P.ow 0 (by decide)).trans (if_pos rfl)), rq_over0 P hp hs⟩
  · exact ⟨rc_over1 R ((P.ow 1 (by decide)).trans (if_pos rfl)), rq_over1 P hp hs⟩
  · exact ⟨rc_over2 R ((P.ow 2 (by decide)).trans (if_pos rfl)), rq_over2 P hp hs⟩
  · exact ⟨rc_over3 R ((P.ow 3 (by decide)).trans (if_pos rfl)), rq_over3 P hp hs⟩
theorem ovF_o {m : zM} {t c : Nat} {W : Nat → Int64} {r k : Nat} (h1 : r ≠ 70) (h2 : r ≠ 61) (h3 : r ≠ 50 ∨ (k ≠ 43 ∧ k ≠ 59)) : (ovF m t c W).1 r k = m.1 r k := by
  have U : ∀ (i : Nat) (a b e : Int32), (z_ui (z_ui (z_ui m 61 i a) 50 43 b) 50 59 e).1 r k = m.1 r k := fun i a b e => by
    by_cases q : r = 50
    · subst q; rw [ui_k (by omega), ui_k (by omega), ui_o h2]
    · rw [ui_o q, ui_o q, ui_o h2]
  unfold ovF
  split
  · unfold ovM0; cases decide (m.1 50 59 = 0)
    · rw [cond_false, lgM_o h1, lgM_o h1, lgM_o h1, U]
    · rw [cond_true, lgM_o h1, lgM_o h1, lgM_o h1]
  · unfold ovM1; cases decide (m.1 50 59 = 0)
    · rw [cond_false, lgM_o h1, lgM_o h1, lgM_o h1, U]
    · rw [cond_true, lgM_o h1, lgM_o h1, lgM_o h1]
  · unfold ovM2; cases decide (m.1 50 59 = 0)
    · rw [cond_false, lgM_o h1, lgM_o h1, lgM_o h1, U]
    · rw [cond_true, lgM_o h1, lgM_o h1, lgM_o h1]
  · unfold ovM3; cases decide (m.1 50 59 = 0)
    · rw [cond_false, lgM_o h1, lgM_o h1, lgM_o h1, U]
    · rw [cond_true, lgM_o h1, lgM_o h1, lgM_o h1]
/-- who may claim a SET: as the contracts ask -/
theorem mMC_0 {m : zM} {s : Nat} {v : Int32} : mMC (z_ui m 50 0 v) s = mMC m s := by
  unfold mMC anS
  simp (disch := omega) only [ui_o, ui_k]
theorem mMC_e {m m' : zM} {s : Nat} (h : EqM m m') : mMC m' s = mMC m s := by
  have e : ∀ k, 40 ≤ k → k ≤ 59 → m'.1 50 k = m.1 50 k := fun k h1 h2 => (h 50 k (Or.inr ⟨rfl, h1, h2⟩)).1
  have e7 : ∀ k, m'.1 71 k = m.1 71 k := fun k => (h 71 k (Or.inl ⟨by decide, by decide⟩)).1
  unfold mMC anS
  rw [e 44 (by decide) (by decide), e 45 (by decide) (by decide), e 47 (by decide) (by decide), e 46 (by decide) (by decide), (h 67 s (Or.inl ⟨by decide, by decide⟩)).1, e7 0, e7 1, e7 2, e7 3]
theorem mC_x {μ : zM} {s : Nat} (hs : s < 4) {b : Bool} (h : xMC μ s = b) : ∀ d, 3 ≤ d → z_C d mi_X6_mayClaimSet [.ref 0, .int (nI s)] μ (zR μ (.int (nB b))) := fun d hd => by
  rw [← h]; exact gc_mayClaimSet d hd μ s hs
theorem mC_m {μ : zM} {s : Nat} (hs : s < 4) {b : Bool} (h : mMC μ s = b) : ∀ d, 2 ≤ d → z_C d mi_X7_mayClaim [.ref 50, .int (nI s)] (z_ui μ 50 0 0) (zR (z_ui μ 50 0 0) (.int (nB b))) := fun d hd => by
  rw [← h, ← mMC_0 (m := μ) (v := 0)]
  exact gm_mayClaim d hd (z_ui μ 50 0 0) s hs
theorem or_ff {a b : Bool} (h : (a || b) = false) : a = false ∧ b = false := by cases a <;> cases b <;> first | exact ⟨rfl, rfl⟩ | cases h
theorem not_t {a : Bool} (h : (!a) = true) : a = false := by cases a; rfl; cases h
theorem not_f {a : Bool} (h : (!a) = false) : a = true := by cases a; cases h; rfl
theorem an_z {m : zM} (h : anS m = false) : ∀ s, s < 4 → m.1 71 s = 0 := by
  unfold anS at h
  obtain ⟨a, h⟩ := or_ff h
  obtain ⟨b, h⟩ := or_ff h
  obtain ⟨c, h⟩ := or_ff h
  intro s hs
  obtain rfl | rfl | rfl | rfl := t_four hs
  · exact of_decide_eq_true (not_f a)
  · exact of_decide_eq_true (not_f b)
  · exact of_decide_eq_true (not_f c)
  · exact of_decide_eq_true (not_f h)
theorem mc_in {x m : zM} {s : Nat} (hR : RG x m) (h : mMC m s = true) : ∃ t c, RPh x m 2 t c ∧ c < 34 ∧ (∀ j, j < 4 → m.1 71 j = 0) ∧ decide (122 - m.1 50 47 - m.1 50 46 ≤ 0) = false ∧ decide (nI s = m.1 50 45) = false := by
  unfold mMC at h
  obtain ⟨a, h⟩ := z_and h
  obtain ⟨b, h⟩ := z_and h
  obtain ⟨c, h⟩ := z_and h
  obtain ⟨e, h⟩ := z_and h
  have a := of_decide_eq_true a
  rcases hR.2 with ⟨p1, p2, -, -, -⟩ | ⟨p, t, k, P⟩
  · rw [p2] at a; exact absurd a (by decide)
  · have hp : p = 2 := by
      rw [P.pm] at a
      rcases P.p3 with q | q | q
      · rw [q] at a; exact absurd a (by decide)
      · exact q
      · rw [q] at a; exact absurd a (by decide)
    subst hp
    refine ⟨t, k, P, ?_, an_z (not_t b), not_t c, not_t e⟩
    rcases P.c3 with q | ⟨_, q⟩
    · exact q
    · exact absurd q (by decide)
/-- a hand of which two tiles go has fewer than four SETS -/
theorem q3_of {μ : zM} {s q : Nat} (hG : GP μ) (hs : s < 4) (hp : ¬ μ.1 50 44 = 1) (hq : μ.1 64 s = nI q) (hq4 : q ≤ 4) (h2 : 2 ≤ hs9 μ s) : q ≤ 3 := by
  have g1 := hG.1.2 s hs
  have g3 : glim μ s ≤ 13 := by unfold glim; rw [if_neg (by intro z; exact hp z.1)]; decide
  have g5 : mI μ s = q := by unfold mI; rw [hq]; exact nI_toInt (by omega)
  unfold hs9 at h2
  omega
