/-! between calls: the desk, the questions -/
set_option maxRecDepth 8000
def md_q (md : List (Nat × Nat)) : Bool := md.all (fun q => Nat.blt 3 q.1 && (Nat.blt q.1 18 || (Nat.blt 49 q.1 && (Nat.blt q.1 59 || Nat.blt 73 q.1))) && (!Nat.beq q.1 50 || (Nat.blt q.2 40 || (Nat.blt 59 q.2 && Nat.blt q.2 9999))))
theorem blt_f {a b : Nat} (h : Nat.blt a b = true) : a < b := Nat.blt_eq.mp h
theorem md_q_o {md : List (Nat × Nat)} (h : md_q md = true) {r k : Nat} (g : gXc r k ∨ gMc r k) : a_md md r k = false := by
  unfold a_md
  rw [List.any_eq_false]
  intro q hq hb
  have z := List.all_eq_true.mp h q hq
  obtain ⟨z1, z2⟩ := z_and z
  obtain ⟨z3, z4⟩ := z_and z1
  obtain ⟨b1, b2⟩ := z_and hb
  have e1 := z_beq b1
  have z3 := blt_f z3
  rw [Bool.or_eq_true] at z4 b2
  have z4 : q.1 < 18 ∨ (49 < q.1 ∧ (q.1 < 59 ∨ 73 < q.1)) := by
    rcases z4 with z | z
    · exact Or.inl (blt_f z)
    · obtain ⟨a, b⟩ := z_and z
      rw [Bool.or_eq_true] at b
      exact Or.inr ⟨blt_f a, b.imp blt_f blt_f⟩
  have b2 : q.2 = k ∨ q.2 = 9999 := b2.imp z_beq z_beq
  have z2 : q.1 ≠ 50 ∨ q.2 < 40 ∨ (59 < q.2 ∧ q.2 < 9999) := by
    rw [Bool.or_eq_true] at z2
    rcases z2 with z | z
    · exact Or.inl (fun e => by rw [e] at z; cases z)
    · rw [Bool.or_eq_true] at z
      rcases z with z | z
      · exact Or.inr (Or.inl (blt_f z))
      · obtain ⟨a, b⟩ := z_and z
        exact Or.inr (Or.inr ⟨blt_f a, blt_f b⟩)
  unfold gXc gMc at g
  omega
theorem LGm.to {μ μ2 : zM} (h : LGm μ) (hJ : LJ μ2) (ex : EqX μ μ2) (em : EqM μ μ2) : LGm μ2 := ⟨hJ, h.2.cg ex em⟩
theorem LGm.fz {md : List (Nat × Nat)} {μ μ2 : zM} (h : LGm μ) (hJ : LJ μ2) (hz : a_Fz md μ μ2) (hq : md_q md = true) : LGm μ2 := h.to hJ (fun r k g => hz.1 r k (md_q_o hq (Or.inl g))) (fun r k g => hz.1 r k (md_q_o hq (Or.inr g)))
theorem lq_k {d i : Nat} {K : aQ} (hk : (a_Ks.take 139)[i]? = some K) (hd : 695 ≤ d) (h1 : md_ok K.2.2.2.1 = true) (h2 : (md_rd K.2.2.2.1 && md_r3 K.2.2.2.1) = true) (h3 : K.2.2.1 = []) (hq : md_q K.2.2.2.1 = true) (As : List Value) (μ : zM) (h : LGm μ) (ha : aArg K.2.1 As) : z_C d K.1 As μ (fun r μ' => LGm μ' ∧ a_rok K.2.2.2.2 r) := z_C_mono (a_use hk hd As μ (aArg_pre ha h3) h.1.1.1) (fun r μ' q => ⟨h.fz (h.1.keep q.1 q.2.1 h1 h2) q.2.1 hq, q.2.2⟩)
theorem f9_EqX {μ μ1 : zM} (h : F9 μ μ1) : EqX μ μ1 := fun r k g => by
  unfold gXc at g
  exact ⟨h.1 r k (by omega) (by omega) (by omega) (by omega) (by omega), by rw [h.2]⟩
theorem f9_EqM {μ μ1 : zM} (h : F9 μ μ1) : EqM μ μ1 := fun r k g => by
  unfold gMc at g
  exact ⟨h.1 r k (by omega) (by omega) (by omega) (by omega) (by omega), by rw [h.2]⟩
theorem mf_EqX {μ μ1 : zM} (h : zMf μ μ1) : EqX μ μ1 := fun r k g => by
  unfold gXc at g
  exact ⟨h.1 r k (by omega) (by omega) (by omega) (by omega) (by omega) (by omega) (by omega) (by omega), by rw [h.2.2]⟩
theorem mf_EqM {μ μ1 : zM} (h : zMf μ μ1) : EqM μ μ1 := fun r k g => by
  unfold gMc at g
  exact ⟨h.1 r k (by omega) (by omega) (by omega) (by omega) (by omega) (by omega) (by omega) (by omega), by rw [h.2.2]⟩
theorem lgm_lay {d : Nat} (hd : 4 ≤ d) {μ μ1 : zM} {k n : Int32} {r1 : Option Value} (h : LGm μ) (hF : F9 μ μ1) (hx : (r1 = some (.int 1) ∧ z_layok μ k n ∧ μ1 = z_put μ k n) ∨ (r1 = some (.int 0) ∧ ¬ z_layok μ k n ∧ μ1 = μ)) : z_C d mi_X7_lay [.ref 50, .int k, .int n] μ1 (fun r2 μ2 => LGm μ2 ∧ ((r1 = some (.int 1) ∧ r2 = some (.int 1)) ∨ (r1 = some (.int 0) ∧ r2 = some (.int 0)))) := by
  obtain ⟨hg, q, hq, hs⟩ := id h.1
  exact z_C_mono (zC_and d (ljm_lay hd h.1 hF hx) (fc_X7_lay d hd μ1 k n q hq.1 ((hF.1 50 66 (by decide) (by decide) (by decide) (by decide) (by omega)).trans hq.2.1))) (fun r2 μ2 z => ⟨h.to z.1.1 (eqX_tr (f9_EqX hF) (mf_EqX z.2.1)) (eqM_tr (f9_EqM hF) (mf_EqM z.2.1)), z.1.2⟩)
theorem lgm_set {d : Nat} (hd : 4 ≤ d) {μ μ1 : zM} {s k : Int32} {q : Nat} {r1 : Option Value} (h : LGm μ) (hq : RD μ q) (hs : DS μ q) (hF : F9 μ μ1) (hx : (r1 = some (.int 1) ∧ z_setX μ s k ∧ zSX μ s k q μ1) ∨ (r1 = some (.int 0) ∧ ¬ z_setX μ s k ∧ μ1 = μ)) : z_C d mi_X7_set [.ref 50, .int s, .int k] μ1 (fun r2 μ2 => LGm μ2 ∧ ((r1 = some (.int 1) ∧ r2 = some (.int 1)) ∨ (r1 = some (.int 0) ∧ r2 = some (.int 0)))) := by
  have e66 : μ1.1 50 66 = μ.1 50 66 := hF.1 50 66 (by decide) (by decide) (by decide) (by decide) (by omega)
  have e74 : μ1.1 74 = μ.1 74 := funext fun i => hF.1 74 i (by decide) (by decide) (by decide) (by decide) (by omega)
  exact z_C_mono (zC_and d (ljm_set hd h.1.1 hq hs hF hx) (fc_X7_set d hd μ1 s k q hq.1 (e66.trans hq.2.1) (by rw [e74, e66]; exact hq.sm3))) (fun r2 μ2 z => ⟨h.to z.1.1 (eqX_tr (f9_EqX hF) (mf_EqX z.2.1)) (eqM_tr (f9_EqM hF) (mf_EqM z.2.1)), z.1.2⟩)
theorem lgm_clear {d : Nat} (hd : 1 ≤ d) {μ μ1 : zM} (h : LGm μ) (hF : F9 μ μ1) (hx : (∀ k, k < 34 → μ1.1 10 k = 0 ∧ μ1.1 11 k = 0) ∧ μ1.1 9 4 = 0 ∧ μ1.1 9 5 = 0) : z_C d mi_X7_clear [.ref 50] μ1 (fun r μ2 => r = none ∧ LGm μ2) := z_C_mono (zC_and d (ljm_clear hd h.1.1 hF hx) (fc_X7_clear d hd μ1)) (fun r μ2 z => ⟨z.1.1, h.to z.1.2 (eqX_tr (f9_EqX hF) (fun r k g => ⟨z.2.2.2.2.1 r k (by unfold gXc at g; omega) (by unfold gXc at g; omega), by rw [z.2.2.2.2.2]⟩)) (eqM_tr (f9_EqM hF) (fun r k g => ⟨z.2.2.2.2.1 r k (by unfold gMc at g; omega) (by unfold gMc at g; omega), by rw [z.2.2.2.2.2]⟩))⟩)
theorem lg_waits {d : Nat} (hd : 705 ≤ d) {μ : zM} (h : LGm μ) (y : Int32) : z_C d mi_X6_waits [.ref 0, .int y] μ (fun r μ' => μ' = μ ∧ ∃ x, r = some (.long x)) := by
  by_cases hy : vp_in y 4
  · obtain ⟨s, hs, rfl⟩ := vp_in_of hy (by decide)
    exact gq_waits d (by omega) μ s hs (fun d hd => z_C_mono (sM_pure hs μ (by decide) (sg9 hs rfl) (fc_X3_waiting d hd (sMm s μ) (a_H_sg hs h.1.1.1))) (fun r μ' z => ⟨z.1, by
      obtain ⟨x, e⟩ := z.2
      exact ⟨x, map_lng e⟩⟩))
  · exact gq_waitsS d (by omega) μ y (sI_no hy)
theorem LGm_uj {μ : zM} {y : Int64} (h : LGm μ) (hJ : LJ (z_uj μ 78 0 y)) : LGm (z_uj μ 78 0 y) := h.to hJ (fun r k g => ⟨rfl, uj_o (by unfold gXc at g; omega)⟩) (fun r k g => ⟨rfl, uj_o (by unfold gMc at g; omega)⟩)
