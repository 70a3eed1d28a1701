/-! what holds between the law's calls: and both desks tell the same FORMS -/
set_option maxRecDepth 8000
def LK (μ : zM) : Prop := GI μ ∧ (∃ q, RD μ q ∧ DS μ q) ∧ μ.2.1 14 3 = μ.2.1 50 67
theorem LK.lj {μ : zM} (h : LK μ) : LJ μ := ⟨h.1, h.2.1⟩
def md_r4 (md : List (Nat × Nat)) : Bool := !(a_md md 14 3) && !(a_md md 50 67)
theorem eq_fz {md : List (Nat × Nat)} {μ μ' : zM} (h : μ.2.1 14 3 = μ.2.1 50 67) (hz : a_Fz md μ μ') (hm : md_r4 md = true) : μ'.2.1 14 3 = μ'.2.1 50 67 := by
  obtain ⟨m1, m2⟩ := z_and hm
  rw [(hz.1 14 3 (by simpa using m1)).2, (hz.1 50 67 (by simpa using m2)).2, h]
theorem LK.keep {md : List (Nat × Nat)} {μ μ' : zM} (h : LK μ) (hH : a_H μ') (hz : a_Fz md μ μ') (h1 : md_ok md = true) (h2 : ((md_rd md && md_r3 md) && md_r4 md) = true) : LK μ' := by
  have z := h.lj.keep hH hz h1 (z_and h2).1
  exact ⟨z.1, z.2, eq_fz h.2.2 hz (z_and h2).2⟩
theorem lk_k {d i : Nat} {K : aQ} (hk : (a_Ks.take 139)[i]? = some K) (hd : 695 ≤ d) (h1 : md_ok K.2.2.2.1 = true) (h2 : ((md_rd K.2.2.2.1 && md_r3 K.2.2.2.1) && md_r4 K.2.2.2.1) = true) (h3 : K.2.2.1 = []) (As : List Value) (μ : zM) (h : LK μ) (ha : aArg K.2.1 As) : z_C d K.1 As μ (fun r μ' => LK μ' ∧ a_rok K.2.2.2.2 r) := z_C_mono (a_use hk hd As μ (aArg_pre ha h3) h.1.1) (fun r μ' q => ⟨h.keep q.1 q.2.1 h1 h2, q.2.2⟩)
def zLk (r : Option Value) (μ' : zM) : Prop := LK μ' ∧ ∃ x, r = some (.int x)
theorem lk_g {d j : Nat} {As : List Value} {μ : zM} (h : LK μ) (hc : z_C d j As μ (zPG μ)) : z_C d j As μ zLk := z_C_mono hc (fun r μ' q => ⟨⟨q.2.1, h.2.1.elim fun n hn => ⟨n, hn.1.fz q.2.2 (by decide), hn.2.fz q.2.2 (by decide)⟩, eq_fz h.2.2 q.2.2 (by decide)⟩, q.1⟩)
theorem lk_e {d j : Nat} {As : List Value} {μ : zM} (h : LK μ) (hc : z_C d j As μ (zPE μ)) : z_C d j As μ zLk := z_C_mono hc (fun r μ' q => ⟨⟨⟨q.2.1.1, q.2.1.2.1, fun hp => q.2.2.elim (fun e => absurd e hp) (fun hz => (h.1.2.2 (by rw [← a_Fz_at hz 50 44 (by decide)]; exact hp)).keep hz (by decide))⟩, h.2.1.elim fun n hn => ⟨n, hn.1.fz q.2.1.2.2 (by decide), hn.2.fz q.2.1.2.2 (by decide)⟩, eq_fz h.2.2 q.2.1.2.2 (by decide)⟩, q.1⟩)
theorem lk_X7_claim {d : Nat} (hd : 700 ≤ d) (μ : zM) (s : Int32) (h : LK μ) : z_C d mi_X7_claim [.ref 50, .int s] μ zLk := by
  by_cases hp : μ.1 50 44 = 0 ∨ μ.1 50 44 = 1
  · refine z_C_mono (bs_X7_claim_b hd [.ref 50, .int s] μ (aArg_preF ⟨⟨50, by decide, rfl⟩, ⟨_, rfl, bI_top _⟩, trivial⟩ (fun f hf => ?_)) h.1.1) (fun r μ' q => ⟨h.keep q.1 q.2.1 (by decide) (by decide), ?_⟩)
    · rw [List.mem_singleton.mp hf]
      refine ⟨50, rfl, rfl, by decide, μ.1 50 44, rfl, ?_⟩
      rcases hp with e | e <;> rw [e] <;> exact ⟨by decide, by decide⟩
    · obtain ⟨v9, rfl, x9, rfl, -⟩ := q.2.2
      exact ⟨x9, rfl⟩
  · have hP := h.1.2.2 (fun e => hp (Or.inl e))
    have t0 := hP.2.2.2.2.1 (fun e => absurd (Or.inr e) hp)
    refine z_C_mono (bs_X7_claim_a hd [.ref 50, .int s] μ (aArg_preF ⟨⟨50, by decide, rfl⟩, ⟨_, rfl, bI_top _⟩, trivial⟩ (fun f hf => ?_)) h.1.1) (fun r μ' q => ⟨h.keep q.1 q.2.1 (by decide) (by decide), ?_⟩)
    · rw [List.mem_singleton.mp hf]
      exact ⟨50, rfl, rfl, by decide, μ.1 50 49, rfl, t0, (h.1.1 50 49).2⟩
    · obtain ⟨v9, rfl, x9, rfl, -⟩ := q.2.2
      exact ⟨x9, rfl⟩
theorem lk_X7_win {d : Nat} (hd : 702 ≤ d) (μ : zM) (h : LK μ) : z_C d mi_X7_win [.ref 50] μ zLk := lk_e h (fc_X7_win d hd μ h.1.1 h.1.2.1 (fun h1 h2 => (h.1.2.2 (by rw [h1]; decide)).2.2.2.2.1 (fun _ => h2)))
theorem lk_X7_nine {d : Nat} (hd : 702 ≤ d) (μ : zM) (h : LK μ) : z_C d mi_X7_nine [.ref 50] μ zLk := lk_e h (fc_X7_nine d hd μ h.1.1 h.1.2.1)
theorem LK_2 {μ μ1 μ2 : zM} (h : LK μ) (hF : F9 μ μ1) (z : LJ μ2 ∧ μ2.2 = μ1.2) : LK μ2 := ⟨z.1.1, z.1.2, by rw [z.2, hF.2]; exact h.2.2⟩
theorem lkm_lay {d : Nat} (hd : 4 ≤ d) {μ μ1 : zM} {k n : Int32} {r1 : Option Value} (h : LK μ) (hF : F9 μ μ1) (hx : (r1 = some (.int 1) ∧ z_layok μ k n ∧ μ1 = z_put μ k n) ∨ (r1 = some (.int 0) ∧ ¬ z_layok μ k n ∧ μ1 = μ)) : z_C d mi_X7_lay [.ref 50, .int k, .int n] μ1 (fun r2 μ2 => LK μ2 ∧ ((r1 = some (.int 1) ∧ r2 = some (.int 1)) ∨ (r1 = some (.int 0) ∧ r2 = some (.int 0)))) := z_C_mono (ljm_lay hd h.lj hF hx) (fun r μ2 z => ⟨LK_2 h hF z.1, z.2⟩)
theorem lkm_set {d : Nat} (hd : 4 ≤ d) {μ μ1 : zM} {s k : Int32} {q : Nat} {r1 : Option Value} (h : LK μ) (hq : RD μ q) (hs : DS μ q) (hF : F9 μ μ1) (hx : (r1 = some (.int 1) ∧ z_setX μ s k ∧ zSX μ s k q μ1) ∨ (r1 = some (.int 0) ∧ ¬ z_setX μ s k ∧ μ1 = μ)) : z_C d mi_X7_set [.ref 50, .int s, .int k] μ1 (fun r2 μ2 => LK μ2 ∧ ((r1 = some (.int 1) ∧ r2 = some (.int 1)) ∨ (r1 = some (.int 0) ∧ r2 = some (.int 0)))) := z_C_mono (ljm_set hd h.1 hq hs hF hx) (fun r μ2 z => ⟨LK_2 h hF z.1, z.2⟩)
theorem lkm_clear {d : Nat} (hd : 1 ≤ d) {μ μ1 : zM} (h : LK μ) (hF : F9 μ μ1) (hx : (∀ k, k < 34 → μ1.1 10 k = 0 ∧ μ1.1 11 k = 0) ∧ μ1.1 9 4 = 0 ∧ μ1.1 9 5 = 0) : z_C d mi_X7_clear [.ref 50] μ1 (fun r μ2 => r = none ∧ LK μ2) := z_C_mono (ljm_clear hd h.1 hF hx) (fun r μ2 z => ⟨z.1, LK_2 h hF z.2⟩)
theorem lk_wm {d : Nat} (hd : 15 ≤ d) {μ1 : zM} (h : LJ μ1) {k wi de : Int32} {dr : Bool} {told : Int64} (hW : WQ μ1 k wi de dr told) : z_C d mi_X7_worth [.ref 50, .int k, .int (nB dr), .long told, .int wi, .int de] μ1 (fun r μ2 => LK μ2 ∧ ∃ x, r = some (.int x)) := z_C_mono (lj_wm hd h hW) (fun r μ2 z => ⟨⟨z.1.1, z.1.2, by rw [z.2.2.1, (z.2.2.2.1 14 3 (by decide)).2]; rfl⟩, _, z.2.1⟩)
theorem zh_X6_deskForms : zH mi_X6_deskForms zc_X6_deskForms 79 6 1 := ⟨by rfl, by rfl, by rfl, by rfl⟩
theorem fb_X6_deskForms (d : Nat) (hd : 1 ≤ d) (μ : zM) : z_C d mi_X6_deskForms [.ref 0] μ (zR μ (.long (μ.2.1 14 3))) := by
  refine z_C_in (by decide) (by omega) (fun d' Z ed hc hr => ?_)
  have hH := zh_X6_deskForms
  refine z_rcs hc hH 3 (pc' := 7) (lv' := [(0, .ref 0)]) (st' := [.long (μ.2.1 14 3)]) (μ' := μ) (by rfl) ?_
  exact hr 0 7 _ _ _ (some (.long (μ.2.1 14 3))) (by decide +kernel) (by rfl) ⟨rfl, rfl⟩
theorem zh_X7_deskForms : zH mi_X7_deskForms zc_X7_deskForms 79 7 1 := ⟨by rfl, by rfl, by rfl, by rfl⟩
theorem fb_X7_deskForms (d : Nat) (hd : 1 ≤ d) (μ : zM) (h : LK μ) : z_C d mi_X7_deskForms [.ref 50] μ (fun r μ' => LK μ' ∧ r = some (.long (μ.2.1 14 3))) := by
  refine z_C_in (by decide) (by omega) (fun d' Z ed hc hr => ?_)
  have hH := zh_X7_deskForms
  refine z_rcs hc hH 5 (pc' := 9) (lv' := [(0, .ref 50)]) (st' := [.long (μ.2.1 50 67)]) (μ' := z_ui μ 50 0 0) (by rfl) ?_
  rw [← h.2.2]
  exact hr 0 9 _ _ _ (some (.long (μ.2.1 14 3))) (by decide +kernel) (by rfl) ⟨h.keep (md := [(50, 0)]) (a_H_ui h.1.1 (bI_top _)) (a_Fz_ui (a_Fz_rf _ _) (by decide)) (by decide) (by decide), rfl⟩
