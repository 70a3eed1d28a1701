/-! questions: hand, count, seat answer alike -/
set_option maxRecDepth 8000
theorem q_go {d j j' : Nat} {As As' : List Value} {μ : zM} (h : LGm μ) {v : Int32} (c1 : z_C d j As μ (fun r μ' => r = some (.int v) ∧ μ' = μ)) (kq : z_C d j' As' μ (fun _ μ' => LJ μ')) (c2 : z_C d j' As' μ (fun r μ' => r = some (.int v) ∧ μ' = z_ui μ 50 0 0)) : z_C d j As μ (fun r μ1 => LJ μ1 ∧ ∃ y, r = some (.int y) ∧ z_C d j' As' μ1 (fun r2 μ2 => LGm μ2 ∧ r2 = some (.int y))) := z_C_mono c1 (fun r μ1 q => by
  obtain ⟨q1, rfl⟩ := q
  exact ⟨h.1, v, q1, z_C_mono (zC_and d kq c2) (fun r2 μ2 z => ⟨lg_no h.2 z.2.2 z.1, z.2.1⟩)⟩)
theorem sI_no {y : Int32} (h : ¬ vp_in y 4) : sI y = false := by
  unfold sI
  cases e1 : decide (y < 0) with
  | true => rfl
  | false =>
    cases e2 : decide (4 ≤ y) with
    | true => rfl
    | false => exact absurd (inOf2 (n := 4) (m := 4) rfl e1 e2) h
theorem isS_no {μ : zM} {y : Int32} (h : ¬ vp_in y 4) : ∀ d, 1 ≤ d → z_C d mi_X7_isSeat [.int y] μ (zR μ (.int 0)) := fun d hd => z_C_mono (fc_X7_isSeat d hd μ y) (fun r m z => ⟨z.1, by
  rcases z.2 with ⟨_, q⟩ | ⟨q, _⟩
  · exact absurd q h
  · exact q⟩)
theorem lg_hand {d : Nat} (hd : 705 ≤ d) {μ : zM} (h : LGm μ) (y x : Int32) : z_C d mi_X6_hand [.ref 0, .int y, .int x] μ (fun r μ1 => LJ μ1 ∧ ∃ v, r = some (.int v) ∧ z_C d mi_X7_hand [.ref 50, .int y, .int x] μ1 (fun r2 μ2 => LGm μ2 ∧ r2 = some (.int v))) := by
  have kq : z_C d mi_X7_hand [.ref 50, .int y, .int x] μ (fun _ μ' => LJ μ') := z_C_mono (lj_k (i := 126) (K := ak_126) rfl (by omega) (by decide) (by decide) rfl [.ref 50, .int y, .int x] μ h.1 ⟨⟨50, by decide, rfl⟩, ⟨_, rfl, bI_top _⟩, ⟨_, rfl, bI_top _⟩, trivial⟩) (fun _ _ q => q.1)
  by_cases hy : vp_in y 4
  · obtain ⟨s, hs, rfl⟩ := vp_in_of hy (by decide)
    by_cases hx : vp_in x 34
    · obtain ⟨k, hk, rfl⟩ := vp_in_of hx (by decide)
      refine q_go h (v := μ.1 60 (34 * s + k)) ?_ kq (gm_hand d (by omega) μ s hs k hk)
      have z := gq_hand d (by omega) μ s hs (nI k)
      rw [fr_yes hk, h.2.1.hd s k hs hk] at z
      exact z
    · refine q_go h (v := 0) ?_ kq (gm_handK d (by omega) μ s hs x (isK_no hx))
      have z := gq_hand d (by omega) μ s hs x
      rw [fr_no hx] at z
      exact z
  · exact q_go h (v := 0) (gq_hand0 d (by omega) μ x y (sI_no hy)) kq (gm_handS d (by omega) μ y x (isS_no hy))
