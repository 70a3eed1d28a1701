/-! seat answers alike -/
set_option maxRecDepth 8000
theorem wind_eq : ∀ s, s < 4 → ∀ dl, dl < 4 → (nI s - nI dl) &&& 3 = wdM (nI dl) (nI s) := by decide +kernel
theorem open_eq {x m : zM} (R : RCl x m) {s : Nat} (hs : s < 4) : ∀ q, q ≤ 4 → xOr (x.1 (22 + 8 * s)) q = kA (ioF m s) q
  | 0, _ => rfl
  | q + 1, h => by
    show (xOr (x.1 (22 + 8 * s)) q || !decide (x.1 (22 + 8 * s) q = 3)) = (kA (ioF m s) q || ioF m s q)
    rw [open_eq R hs q (by omega), R.so s q hs (by omega)]
    rfl
theorem k_seat {d : Nat} (hd : 705 ≤ d) {μ : zM} (h : LJ μ) (y x : Int32) : z_C d mi_X7_seat [.ref 50, .int y, .int x] μ (fun _ μ' => LJ μ') := z_C_mono (lj_k (i := 130) (K := ak_130) rfl (by omega) (by decide) (by decide) rfl [.ref 50, .int y, .int x] μ h ⟨⟨50, by decide, rfl⟩, ⟨_, rfl, bI_top _⟩, ⟨_, rfl, bI_top _⟩, trivial⟩) (fun _ _ q => q.1)
theorem lg_seat0 {d : Nat} (hd : 705 ≤ d) {μ : zM} (h : LGm μ) {s : Nat} (hs : s < 4) : z_C d mi_X6_seat [.ref 0, .int (nI s), .int 0] μ (fun r μ1 => LJ μ1 ∧ ∃ v, r = some (.int v) ∧ z_C d mi_X7_seat [.ref 50, .int (nI s), .int 0] μ1 (fun r2 μ2 => LGm μ2 ∧ r2 = some (.int v))) := by
  have R := h.2.1
  have z1 := gq_seat0 d (by omega) μ s hs
  have z2 := gm_seat0 d (by omega) μ s hs
  rw [R.pt s hs] at z1
  exact q_go h (v := μ.1 61 s) z1 (k_seat hd h.1 _ _) z2
theorem lg_seat1 {d : Nat} (hd : 705 ≤ d) {μ : zM} (h : LGm μ) {s : Nat} (hs : s < 4) : z_C d mi_X6_seat [.ref 0, .int (nI s), .int 1] μ (fun r μ1 => LJ μ1 ∧ ∃ v, r = some (.int v) ∧ z_C d mi_X7_seat [.ref 50, .int (nI s), .int 1] μ1 (fun r2 μ2 => LGm μ2 ∧ r2 = some (.int v))) := by
  have R := h.2.1
  have z1 := gq_seat1 d (by omega) μ s hs
  have z2 := gm_seat1 d (by omega) μ s hs
  rw [R.be s hs] at z1
  exact q_go h (v := μ.1 67 s) z1 (k_seat hd h.1 _ _) z2
theorem lg_seat2 {d : Nat} (hd : 705 ≤ d) {μ : zM} (h : LGm μ) {s : Nat} (hs : s < 4) : z_C d mi_X6_seat [.ref 0, .int (nI s), .int 2] μ (fun r μ1 => LJ μ1 ∧ ∃ v, r = some (.int v) ∧ z_C d mi_X7_seat [.ref 50, .int (nI s), .int 2] μ1 (fun r2 μ2 => LGm μ2 ∧ r2 = some (.int v))) := by
  have R := h.2.1
  have z1 := gq_seat2 d (by omega) μ s hs
  have z2 := gm_seat2 d (by omega) μ s hs
  rw [bif_i] at z1 z2
  rw [R.lg s hs] at z1
  exact q_go h (v := bif decide (μ.1 70 s = 0) then (0 : Int32) else 1) z1 (k_seat hd h.1 _ _) z2
theorem lg_seat3 {d : Nat} (hd : 705 ≤ d) {μ : zM} (h : LGm μ) {s : Nat} (hs : s < 4) : z_C d mi_X6_seat [.ref 0, .int (nI s), .int 3] μ (fun r μ1 => LJ μ1 ∧ ∃ v, r = some (.int v) ∧ z_C d mi_X7_seat [.ref 50, .int (nI s), .int 3] μ1 (fun r2 μ2 => LGm μ2 ∧ r2 = some (.int v))) := by
  have R := h.2.1
  have z1 := gq_seat3 d (by omega) μ s hs
  have z2 := gm_seat3 d (by omega) μ s hs
  obtain ⟨dl, hdl4, hdl⟩ := dealer_nI h.1.1.1
  rw [R.dl, hdl, wind_eq s hs dl hdl4, ← hdl] at z1
  exact q_go h (v := wdM (μ.1 50 40) (nI s)) z1 (k_seat hd h.1 _ _) z2
theorem lg_seat4 {d : Nat} (hd : 705 ≤ d) {μ : zM} (h : LGm μ) {s : Nat} (hs : s < 4) : z_C d mi_X6_seat [.ref 0, .int (nI s), .int 4] μ (fun r μ1 => LJ μ1 ∧ ∃ v, r = some (.int v) ∧ z_C d mi_X7_seat [.ref 50, .int (nI s), .int 4] μ1 (fun r2 μ2 => LGm μ2 ∧ r2 = some (.int v))) := by
  have R := h.2.1
  have z1 := gq_seat4 d (by omega) μ s hs
  have z2 := gm_seat4 d (by omega) μ s hs
  rw [R.ds s hs] at z1
  exact q_go h (v := μ.1 66 s) z1 (k_seat hd h.1 _ _) z2
theorem lg_seat5 {d : Nat} (hd : 705 ≤ d) {μ : zM} (h : LGm μ) {s : Nat} (hs : s < 4) : z_C d mi_X6_seat [.ref 0, .int (nI s), .int 5] μ (fun r μ1 => LJ μ1 ∧ ∃ v, r = some (.int v) ∧ z_C d mi_X7_seat [.ref 50, .int (nI s), .int 5] μ1 (fun r2 μ2 => LGm μ2 ∧ r2 = some (.int v))) := by
  have R := h.2.1
  have z1 := gq_seat5 d (by omega) μ s hs
  have z2 := gm_seat5 d (by omega) μ s hs
  rw [R.lm s hs] at z1
  exact q_go h (v := μ.1 64 s) z1 (k_seat hd h.1 _ _) z2
theorem lg_seat6 {d : Nat} (hd : 705 ≤ d) {μ : zM} (h : LGm μ) {s : Nat} (hs : s < 4) : z_C d mi_X6_seat [.ref 0, .int (nI s), .int 6] μ (fun r μ1 => LJ μ1 ∧ ∃ v, r = some (.int v) ∧ z_C d mi_X7_seat [.ref 50, .int (nI s), .int 6] μ1 (fun r2 μ2 => LGm μ2 ∧ r2 = some (.int v))) := by
  have R := h.2.1
  obtain ⟨q, hq4, hq⟩ : ∃ q, q ≤ 4 ∧ μ.1 64 s = nI q := i_nat (h.1.1.1 64 s).1 (h.1.1.1 64 s).2 (by decide)
  have z1 := gq_seat6 d (by omega) μ s hs (kA (ioF μ s) q) (fun d' hd' => by rw [← open_eq R hs q hq4]; exact gc_isOpen d' hd' μ s hs q hq4 ((R.lm s hs).trans hq))
  have z2 := gm_seat6 d (by omega) μ s hs (kA (ioF μ s) q) (fun d' hd' => by
    have z := gm_isOpenS d' hd' (z_ui μ 50 0 0) s q hs hq4 (by rw [ui_o (by decide)]; exact hq)
    rw [show kA (ioF (z_ui μ 50 0 0) s) q = kA (ioF μ s) q from kA_cg (fun i _ => by unfold ioF; rw [ui_o (by decide)])] at z
    exact z)
  rw [bif_i] at z1 z2
  exact q_go h (v := bif kA (ioF μ s) q then (1 : Int32) else 0) z1 (k_seat hd h.1 _ _) z2
theorem lg_seat7 {d : Nat} (hd : 705 ≤ d) {μ : zM} (h : LGm μ) {s : Nat} (hs : s < 4) : z_C d mi_X6_seat [.ref 0, .int (nI s), .int 7] μ (fun r μ1 => LJ μ1 ∧ ∃ v, r = some (.int v) ∧ z_C d mi_X7_seat [.ref 50, .int (nI s), .int 7] μ1 (fun r2 μ2 => LGm μ2 ∧ r2 = some (.int v))) := by
  have R := h.2.1
  have z1 := gq_seat7 d (by omega) μ s hs
  have z2 := gm_seat7 d (by omega) μ s hs
  rw [bif_i] at z1 z2
  rw [R.sy s hs] at z1
  exact q_go h (v := bif decide (μ.1 71 s = 0) then (0 : Int32) else 1) z1 (k_seat hd h.1 _ _) z2
theorem lg_seat {d : Nat} (hd : 705 ≤ d) {μ : zM} (h : LGm μ) (y x : Int32) : z_C d mi_X6_seat [.ref 0, .int y, .int x] μ (fun r μ1 => LJ μ1 ∧ ∃ v, r = some (.int v) ∧ z_C d mi_X7_seat [.ref 50, .int y, .int x] μ1 (fun r2 μ2 => LGm μ2 ∧ r2 = some (.int v))) := by
  by_cases hy : vp_in y 4
  · obtain ⟨s, hs, rfl⟩ := vp_in_of hy (by decide)
    by_cases hx : vp_in x 8
    · obtain ⟨k, hk, rfl⟩ := vp_in_of hx (by decide)
      match k, hk with
      | 0, _ => exact lg_seat0 hd h hs
      | 1, _ => exact lg_seat1 hd h hs
      | 2, _ => exact lg_seat2 hd h hs
      | 3, _ => exact lg_seat3 hd h hs
      | 4, _ => exact lg_seat4 hd h hs
      | 5, _ => exact lg_seat5 hd h hs
      | 6, _ => exact lg_seat6 hd h hs
      | 7, _ => exact lg_seat7 hd h hs
      | k + 8, h9 => exact absurd h9 (by omega)
    · have e : (decide (x.toInt < 0) || decide (7 < x.toInt)) = true := by
        cases e1 : decide (x.toInt < 0) with
        | true => rfl
        | false =>
          cases e2 : decide (7 < x.toInt) with
          | true => rfl
          | false =>
            have h1 := of_decide_eq_false e1
            have h2 := of_decide_eq_false e2
            exact absurd (vp_in_iff.mpr ⟨by omega, by omega⟩) hx
      exact q_go h (v := -1) (gq_seatd d (by omega) μ s hs x e) (k_seat hd h.1 _ x) (gm_seatd d (by omega) μ s hs x e)
  · exact q_go h (v := -1) (gq_seat0y d (by omega) μ y x (sI_no hy)) (k_seat hd h.1 y x) (gm_seatS d (by omega) μ y x (isS_no hy))
