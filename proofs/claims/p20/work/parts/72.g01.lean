/-! what holds between the law's calls; every call keeps it -/
theorem fz_of {md : List (Nat × Nat)} {μ μ' : zM} (h1 : ∀ r k, a_md md r k = false → μ'.1 r k = μ.1 r k) (h2 : μ'.2 = μ.2) : a_Fz md μ μ' := ⟨fun r k hm => ⟨h1 r k hm, by rw [h2]⟩, fun r _ => by rw [h2]⟩
theorem md_ne {md : List (Nat × Nat)} {r k a : Nat} (hm : a_md md r k = false) (ha : a_mda md a = true) : r ≠ a := fun e => by
  rw [a_mda_md (r := r) (by rw [e]; exact ha) k] at hm
  exact absurd hm (by decide)
theorem md_nc {md : List (Nat × Nat)} {r k a b : Nat} (hm : a_md md r k = false) (ha : a_md md a b = true) : ¬ (r = a ∧ k = b) := fun e => by
  rw [e.1, e.2, ha] at hm
  exact absurd hm (by decide)
theorem RD.fz {md : List (Nat × Nat)} {μ μ' : zM} {q : Nat} (h : RD μ q) (hz : a_Fz md μ μ') (hm : (md.all (fun q => !((Nat.ble 9 q.1 && Nat.ble q.1 11) || ((Nat.ble 74 q.1 && Nat.ble q.1 76) || (Nat.beq q.1 50 && (Nat.beq q.2 66 || Nat.beq q.2 9999)))))) = true) : RD μ' q := by
  refine h.keep (fun r k hk => a_Fz_at hz r k ?_)
  unfold a_md
  rw [List.any_eq_false]
  intro q hq hb
  have t := List.all_eq_true.mp hm q hq
  obtain ⟨b1, b2⟩ := z_and hb
  have b1 := z_beq b1
  rw [b1] at t
  rcases hk with hk | hk | hk
  · rw [Nat.ble_eq_true_of_le hk.1, Nat.ble_eq_true_of_le hk.2] at t
    simp at t
  · rw [Nat.ble_eq_true_of_le hk.1, Nat.ble_eq_true_of_le hk.2] at t
    simp at t
  · rw [hk.2] at b2
    rw [hk.1, b2] at t
    simp at t
/-- what the game and the desks leave to others -/
noncomputable def md_ok (md : List (Nat × Nat)) : Bool := (md.all (fun q => !(Nat.beq q.1 60 || Nat.beq q.1 64 || Nat.beq q.1 66 || (Nat.beq q.1 50 && (Nat.beq q.2 9999 || (Nat.ble 44 q.2 && Nat.ble q.2 49) || Nat.beq q.2 57))))) && ((md.all (fun q => !Nat.beq q.1 72)) && !(a_md md 50 44))
noncomputable def md_rd (md : List (Nat × Nat)) : Bool := md.all (fun q => !((Nat.ble 9 q.1 && Nat.ble q.1 11) || ((Nat.ble 74 q.1 && Nat.ble q.1 76) || (Nat.beq q.1 50 && (Nat.beq q.2 66 || Nat.beq q.2 9999)))))
theorem GI.keep {md : List (Nat × Nat)} {μ μ' : zM} (h : GI μ) (hH : a_H μ') (hz : a_Fz md μ μ') (hm : md_ok md = true) : GI μ' := by
  obtain ⟨m1, m2⟩ := z_and hm
  obtain ⟨m2, m3⟩ := z_and m2
  refine ⟨hH, GW_keep h.2.1 hz m2, fun q => (h.2.2 ?_).keep hz m1⟩
  rw [← a_Fz_at hz 50 44 (by simpa using m3)]
  exact q
noncomputable def LI (μ : zM) : Prop := GI μ ∧ ∃ q, RD μ q
theorem LI.keep {md : List (Nat × Nat)} {μ μ' : zM} (h : LI μ) (hH : a_H μ') (hz : a_Fz md μ μ') (h1 : md_ok md = true) (h2 : md_rd md = true) : LI μ' := ⟨h.1.keep hH hz h1, h.2.elim fun q hq => ⟨q, hq.fz hz h2⟩⟩
/-- a method that the checker knows -/
theorem lc_k {d i : Nat} {K : aQ} (hk : (a_Ks.take 139)[i]? = some K) (hd : 695 ≤ d) (h1 : md_ok K.2.2.2.1 = true) (h2 : md_rd K.2.2.2.1 = true) (h3 : K.2.2.1 = []) (As : List Value) (μ : zM) (h : LI μ) (ha : aArg K.2.1 As) : z_C d K.1 As μ (fun r μ' => LI μ' ∧ a_rok K.2.2.2.2 r) := z_C_mono (a_use hk hd As μ (aArg_pre ha h3) h.1.1) (fun r μ' q => ⟨h.keep q.1 q.2.1 h1 h2, q.2.2⟩)
noncomputable def zLi (r : Option Value) (μ' : zM) : Prop := LI μ' ∧ ∃ x, r = some (.int x)
theorem lc_g {d j : Nat} {As : List Value} {μ : zM} (h : LI μ) (hc : z_C d j As μ (zPG μ)) : z_C d j As μ zLi := z_C_mono hc (fun r μ' q => ⟨⟨q.2.1, h.2.elim fun n hn => ⟨n, hn.fz q.2.2 (by decide)⟩⟩, q.1⟩)
theorem lc_e {d j : Nat} {As : List Value} {μ : zM} (h : LI μ) (hc : z_C d j As μ (zPE μ)) : z_C d j As μ zLi := z_C_mono hc (fun r μ' q => ⟨⟨⟨q.2.1.1, q.2.1.2.1, fun hp => q.2.2.elim (fun e => absurd e hp) (fun hz => (h.1.2.2 (by rw [← a_Fz_at hz 50 44 (by decide +kernel)]; exact hp)).keep hz (by decide +kernel))⟩, h.2.elim fun n hn => ⟨n, hn.fz q.2.1.2.2 (by decide +kernel)⟩⟩, q.1⟩)
theorem aArg_preF {K : aQ} {As : List Value} {μ : zM} (h : aArg K.2.1 As) (h2 : ∀ f ∈ K.2.2.1, ∃ r, As[f.1]? = some (.ref r) ∧ (z_sh r).1 = 0 ∧ r < 79 ∧ a_ok f.2.2 (z_gv μ (z_sh r).2.1 r f.2.1)) : a_pre1 K As μ := by
  obtain ⟨q1, q2, -⟩ := aArg_pre (K := (K.1, K.2.1, [], K.2.2.2)) (μ := μ) h rfl
  exact ⟨q1, q2, h2⟩
theorem lc_X7_claim {d : Nat} (hd : 700 ≤ d) (μ : zM) (s : Int32) (h : LI μ) : z_C d mi_X7_claim [.ref 50, .int s] μ zLi := by
  by_cases hp : μ.1 50 44 = 0 ∨ μ.1 50 44 = 1
  · refine z_C_mono (bs_X7_claim_b hd [.ref 50, .int s] μ (aArg_preF ⟨⟨50, by decide, rfl⟩, ⟨_, rfl, bI_top _⟩, trivial⟩ (fun f hf => ?_)) h.1.1) (fun r μ' q => ⟨h.keep q.1 q.2.1 (by decide) (by decide), ?_⟩)
    · rw [List.mem_singleton.mp hf]
      refine ⟨50, rfl, rfl, by decide, μ.1 50 44, rfl, ?_⟩
      rcases hp with e | e <;> rw [e] <;> exact ⟨by decide, by decide⟩
    · obtain ⟨v9, rfl, x9, rfl, -⟩ := q.2.2
      exact ⟨x9, rfl⟩
  · have hP := h.1.2.2 (fun e => hp (Or.inl e))
    have t0 := hP.2.2.2.2.1 (fun e => absurd (Or.inr e) hp)
    refine z_C_mono (bs_X7_claim_a hd [.ref 50, .int s] μ (aArg_preF ⟨⟨50, by decide, rfl⟩, ⟨_, rfl, bI_top _⟩, trivial⟩ (fun f hf => ?_)) h.1.1) (fun r μ' q => ⟨h.keep q.1 q.2.1 (by decide) (by decide), ?_⟩)
    · rw [List.mem_singleton.mp hf]
      exact ⟨50, rfl, rfl, by decide, μ.1 50 49, rfl, t0, (h.1.1 50 49).2⟩
    · obtain ⟨v9, rfl, x9, rfl, -⟩ := q.2.2
      exact ⟨x9, rfl⟩
theorem lc_X7_win {d : Nat} (hd : 702 ≤ d) (μ : zM) (h : LI μ) : z_C d mi_X7_win [.ref 50] μ zLi := lc_e h (fc_X7_win d hd μ h.1.1 h.1.2.1 (fun h1 h2 => (h.1.2.2 (by rw [h1]; decide)).2.2.2.2.1 (fun _ => h2)))
theorem lc_X7_nine {d : Nat} (hd : 702 ≤ d) (μ : zM) (h : LI μ) : z_C d mi_X7_nine [.ref 50] μ zLi := lc_e h (fc_X7_nine d hd μ h.1.1 h.1.2.1)
/-! the desks -/
noncomputable def F9 (μ μ' : zM) : Prop := (∀ r k, r ≠ 10 → r ≠ 11 → r ≠ 12 → r ≠ 13 → ¬ (r = 9 ∧ (k = 4 ∨ k = 5)) → μ'.1 r k = μ.1 r k) ∧ μ'.2 = μ.2
theorem F9.fz {μ μ' : zM} (h : F9 μ μ') : a_Fz [(9, 4), (9, 5), (10, 9999), (11, 9999), (12, 9999), (13, 9999)] μ μ' := fz_of (fun r k hm => h.1 r k (md_ne hm (by decide +kernel)) (md_ne hm (by decide +kernel)) (md_ne hm (by decide +kernel)) (md_ne hm (by decide +kernel)) (fun e => e.2.elim (fun e2 => md_nc hm (a := 9) (b := 4) (by decide +kernel) ⟨e.1, e2⟩) (fun e2 => md_nc hm (a := 9) (b := 5) (by decide +kernel) ⟨e.1, e2⟩))) h.2
theorem F9.H {μ μ' : zM} (h : F9 μ μ') (hH : a_H μ) (h4 : bI 0 4 (μ'.1 9 4)) : a_H μ' := by
  intro r k
  by_cases e1 : r = 10 ∨ r = 11 ∨ r = 12 ∨ r = 13
  · rcases e1 with rfl | rfl | rfl | rfl <;> exact bI_top _
  · by_cases e2 : r = 9 ∧ (k = 4 ∨ k = 5)
    · obtain ⟨rfl, rfl | rfl⟩ := e2
      · exact h4
      · exact bI_top _
    · rw [h.1 r k (by omega) (by omega) (by omega) (by omega) e2]
      exact hH r k
theorem zMf.fz {μ μ' : zM} (h : zMf μ μ') : a_Fz [(51, 9999), (52, 9999), (53, 9999), (58, 9999), (74, 9999), (75, 9999), (76, 9999), (50, 0), (50, 4), (50, 66)] μ μ' := fz_of (fun r k hm => h.1 r k (md_ne hm (by decide +kernel)) (md_ne hm (by decide +kernel)) (md_ne hm (by decide +kernel)) (md_ne hm (by decide +kernel)) (md_ne hm (by decide +kernel)) (md_ne hm (by decide +kernel)) (md_ne hm (by decide +kernel)) (fun e => e.2.elim (fun e2 => md_nc hm (a := 50) (b := 0) (by decide +kernel) ⟨e.1, e2⟩) (fun e2 => e2.elim (fun e2 => md_nc hm (a := 50) (b := 4) (by decide +kernel) ⟨e.1, e2⟩) (fun e2 => md_nc hm (a := 50) (b := 66) (by decide +kernel) ⟨e.1, e2⟩)))) h.2.2
theorem LI_desk {μ μ1 μ2 : zM} {q : Nat} (h : GI μ) (h1 : F9 μ μ1) (h2 : zMf μ1 μ2) (h3 : RD μ2 q) : LI μ2 := by
  have e9 : μ1.1 9 4 = nI q := (h2.X (by decide)).symm.trans h3.2.2.1
  have l := h3.1
  have hH1 := h1.H h.1 (by rw [e9]; exact bd_nI (by omega) ⟨by omega, by omega⟩)
  have hH2 := a_H_Mf hH1 h2 (by rw [h3.2.1]; exact bd_nI (by omega) ⟨by omega, by omega⟩)
  exact ⟨(h.keep hH1 h1.fz (by decide)).keep hH2 h2.fz (by decide), q, h3⟩
theorem F9_rf (μ : zM) : F9 μ μ := ⟨fun _ _ _ _ _ _ _ => rfl, rfl⟩
theorem F9_put (μ : zM) (k n : Int32) : F9 μ (z_put μ k n) := ⟨fun r i r1 r2 _ _ r3 => by unfold z_put; rw [z_ui_rd, if_neg (fun z => r3 ⟨z.1, Or.inr z.2⟩), z_ui_rd, if_neg (fun z => r2 z.1), z_ui_rd, if_neg (fun z => r1 z.1)], rfl⟩
theorem zSX.f9 {μ μ' : zM} {s k : Int32} {q : Nat} (h : zSX μ s k q μ') : F9 μ μ' := ⟨fun r i r1 r2 r3 r4 r5 => h.2.2.2.2.2.2.1 r i r1 r2 r3 r4 r5, h.2.2.2.2.2.2.2⟩
/-- the class's lay -/
theorem lx_lay {d : Nat} (hd : 4 ≤ d) (μ : zM) (k n : Int32) : z_C d mi_X6_lay [.ref 0, .int k, .int n] μ (fun r μ1 => F9 μ μ1 ∧ ((r = some (.int 1) ∧ z_layok μ k n ∧ μ1 = z_put μ k n) ∨ (r = some (.int 0) ∧ ¬ z_layok μ k n ∧ μ1 = μ))) := z_C_mono (fc_X6_lay d hd μ k n) (fun r μ1 h => ⟨h.elim (fun e => by rw [e.2.2]; exact F9_put _ _ _) (fun e => by rw [e.2.2]; exact F9_rf _), h⟩)
/-- both desks are laid on -/
theorem lm_lay {d : Nat} (hd : 4 ≤ d) {μ μ1 : zM} {k n : Int32} {r1 : Option Value} (h : LI μ) (hF : F9 μ μ1) (hx : (r1 = some (.int 1) ∧ z_layok μ k n ∧ μ1 = z_put μ k n) ∨ (r1 = some (.int 0) ∧ ¬ z_layok μ k n ∧ μ1 = μ)) : z_C d mi_X7_lay [.ref 50, .int k, .int n] μ1 (fun r2 μ2 => LI μ2 ∧ ((r1 = some (.int 1) ∧ r2 = some (.int 1)) ∨ (r1 = some (.int 0) ∧ r2 = some (.int 0)))) := by
  obtain ⟨hg, q, hq⟩ := h
  refine z_C_mono (fc_X7_lay d hd μ1 k n q hq.1 ((hF.1 50 66 (by decide) (by decide) (by decide) (by decide) (by omega)).trans hq.2.1)) (fun r2 μ2 hm => ?_)
  obtain ⟨g1, g2⟩ := RD_lay hq hx hm
  exact ⟨LI_desk hg hF hm.1 g1, g2⟩
theorem lx_set {d : Nat} (hd : 4 ≤ d) {μ : zM} (s k : Int32) {q : Nat} (hq : RD μ q) : z_C d mi_X6_set [.ref 0, .int s, .int k] μ (fun r μ1 => F9 μ μ1 ∧ ((r = some (.int 1) ∧ z_setX μ s k ∧ zSX μ s k q μ1) ∨ (r = some (.int 0) ∧ ¬ z_setX μ s k ∧ μ1 = μ))) := z_C_mono (fc_X6_set d hd μ s k q hq.2.2.1 (by rw [hq.2.2.2.2.1, hq.2.2.1, ← hq.2.1]; exact hq.sm3)) (fun r μ1 h => ⟨h.elim (fun e => e.2.2.f9) (fun e => by rw [e.2.2]; exact F9_rf _), h⟩)
theorem lm_set {d : Nat} (hd : 4 ≤ d) {μ μ1 : zM} {s k : Int32} {q : Nat} {r1 : Option Value} (hg : GI μ) (hq : RD μ q) (hF : F9 μ μ1) (hx : (r1 = some (.int 1) ∧ z_setX μ s k ∧ zSX μ s k q μ1) ∨ (r1 = some (.int 0) ∧ ¬ z_setX μ s k ∧ μ1 = μ)) : z_C d mi_X7_set [.ref 50, .int s, .int k] μ1 (fun r2 μ2 => LI μ2 ∧ ((r1 = some (.int 1) ∧ r2 = some (.int 1)) ∨ (r1 = some (.int 0) ∧ r2 = some (.int 0)))) := by
  have e66 : μ1.1 50 66 = μ.1 50 66 := hF.1 50 66 (by decide) (by decide) (by decide) (by decide) (by omega)
  have e74 : μ1.1 74 = μ.1 74 := funext fun i => hF.1 74 i (by decide) (by decide) (by decide) (by decide) (by omega)
  refine z_C_mono (fc_X7_set d hd μ1 s k q hq.1 (e66.trans hq.2.1) (by rw [e74, e66]; exact hq.sm3)) (fun r2 μ2 hm => ?_)
  obtain ⟨⟨q', g1⟩, g2⟩ := RD_set hq hx hm
  exact ⟨LI_desk hg hF hm.1 g1, g2⟩
theorem lx_clear {d : Nat} (hd : 2 ≤ d) (μ : zM) : z_C d mi_X6_clear [.ref 0] μ (fun r μ1 => r = none ∧ F9 μ μ1 ∧ (∀ k, k < 34 → μ1.1 10 k = 0 ∧ μ1.1 11 k = 0) ∧ μ1.1 9 4 = 0 ∧ μ1.1 9 5 = 0) := z_C_mono (fc_X6_clear d hd μ) (fun r μ1 h => ⟨h.1, ⟨fun r k r1 r2 _ _ r5 => h.2.2.2.2.1 r k r1 r2 r5, h.2.2.2.2.2⟩, h.2.1, h.2.2.1, h.2.2.2.1⟩)
theorem lm_clear {d : Nat} (hd : 1 ≤ d) {μ μ1 : zM} (hg : GI μ) (hF : F9 μ μ1) (hx : (∀ k, k < 34 → μ1.1 10 k = 0 ∧ μ1.1 11 k = 0) ∧ μ1.1 9 4 = 0 ∧ μ1.1 9 5 = 0) : z_C d mi_X7_clear [.ref 50] μ1 (fun r μ2 => r = none ∧ LI μ2) := z_C_mono (fc_X7_clear d hd μ1) (fun r μ2 h => ⟨h.1, LI_desk hg hF ⟨fun r k _ _ _ _ r5 _ _ r8 => h.2.2.2.1 r k r5 (fun e => r8 ⟨e.1, e.2.elim Or.inl (fun z => Or.inr (Or.inr z))⟩), Or.inl (h.2.2.2.1 50 4 (by decide) (by decide)), h.2.2.2.2⟩ (RD_clear (μ := μ) hx ⟨h.2.1, h.2.2.1, h.2.2.2.1⟩)⟩)
/-! how tiles fall apart: the class's way (greedy) and the reference's (a search) agree -/
noncomputable abbrev rs (k : Nat) : Prop := k < 27 ∧ k % 9 < 7
noncomputable def sh1 (r : Nat → Nat) : Nat → Nat
  | 0 => 0
  | k + 1 => r k
noncomputable def sh2 (r : Nat → Nat) : Nat → Nat
  | 0 => 0
  | k + 1 => sh1 r k
/-- the tiles as THREES and RUNS -/
noncomputable def PW (w t r : Nat → Nat) : Prop := (∀ k, r k ≠ 0 → rs k) ∧ ∀ k, k < 34 → w k = 3 * t k + r k + sh1 r k + sh2 r k
/-- the class's walk: left at a kind, RUNS begun one and two kinds before -/
noncomputable def gr (w : Nat → Nat) : Nat → Nat → Nat → Nat → Bool
  | 0, _, _, _ => true
  | n + 1, i, r1, r2 => if w i < r1 + r2 then false else if (w i - r1 - r2) % 3 ≠ 0 ∧ ¬ rs i then false else gr w n (i + 1) ((w i - r1 - r2) % 3) r1
theorem PW.norm {w t r : Nat → Nat} (h : PW w t r) : PW w (fun k => t k + r k / 3 + sh1 (fun j => r j / 3) k + sh2 (fun j => r j / 3) k) (fun k => r k % 3) := by
  refine ⟨fun k hk => h.1 k (fun e => hk (by dsimp only; rw [e])), fun k hk => ?_⟩
  have e := h.2 k hk
  have e1 : sh1 r k = 3 * sh1 (fun j => r j / 3) k + sh1 (fun j => r j % 3) k := by
    cases k with
    | zero => rfl
    | succ k => show r k = 3 * (r k / 3) + r k % 3; omega
  have e2 : sh2 r k = 3 * sh2 (fun j => r j / 3) k + sh2 (fun j => r j % 3) k := by
    cases k with
    | zero => rfl
    | succ k =>
      cases k with
      | zero => rfl
      | succ k => show r k = 3 * (r k / 3) + r k % 3; omega
  dsimp only
  omega
theorem gr_of {w t r : Nat → Nat} (h : PW w t r) (h3 : ∀ k, r k < 3) : ∀ n i, i + n = 34 → gr w n i (sh1 r i) (sh2 r i) = true := by
  intro n
  induction n with
  | zero => intro i _; rfl
  | succ n ih =>
    intro i hi
    have e := h.2 i (by omega)
    have e3 : (w i - sh1 r i - sh2 r i) % 3 = r i := by have := h3 i; omega
    show (if w i < sh1 r i + sh2 r i then false else if (w i - sh1 r i - sh2 r i) % 3 ≠ 0 ∧ ¬ rs i then false else gr w n (i + 1) ((w i - sh1 r i - sh2 r i) % 3) (sh1 r i)) = true
    rw [if_neg (by omega), e3, if_neg (fun q => q.2 (h.1 i q.1))]
    exact ih (i + 1) (by omega)
/-- the RUNS that the walk begins -/
noncomputable def ga (w : Nat → Nat) : Nat → Nat × Nat
  | 0 => (0, 0)
  | k + 1 => ((w k - (ga w k).1 - (ga w k).2) % 3, (ga w k).1)
theorem gr_inv {w : Nat → Nat} : ∀ n i, gr w n i (ga w i).1 (ga w i).2 = true → ∀ j, i ≤ j → j < i + n → (ga w j).1 + (ga w j).2 ≤ w j ∧ ((ga w (j + 1)).1 ≠ 0 → rs j) := by
  intro n
  induction n with
  | zero => intro i _ j h1 h2; omega
  | succ n ih =>
    intro i h j h1 h2
    have h : (if w i < (ga w i).1 + (ga w i).2 then false else if (w i - (ga w i).1 - (ga w i).2) % 3 ≠ 0 ∧ ¬ rs i then false else gr w n (i + 1) ((w i - (ga w i).1 - (ga w i).2) % 3) (ga w i).1) = true := h
    by_cases c1 : w i < (ga w i).1 + (ga w i).2
    · rw [if_pos c1] at h; cases h
    · rw [if_neg c1] at h
      by_cases c2 : (w i - (ga w i).1 - (ga w i).2) % 3 ≠ 0 ∧ ¬ rs i
      · rw [if_pos c2] at h; cases h
      · rw [if_neg c2] at h
        by_cases e : j = i
        · subst e
          refine ⟨by omega, fun q => ?_⟩
          have q : (w j - (ga w j).1 - (ga w j).2) % 3 ≠ 0 := q
          by_cases c3 : rs j
          · exact c3
          · exact absurd ⟨q, c3⟩ c2
        · exact ih (i + 1) h j (by omega) (by omega)
theorem PW_gr {w : Nat → Nat} (h : gr w 34 0 0 0 = true) : ∃ t r, PW w t r ∧ ∀ k, r k < 3 := by
  have hi := gr_inv 34 0 h
  refine ⟨fun k => (w k - (ga w k).1 - (ga w k).2) / 3, fun k => if k < 34 then (ga w (k + 1)).1 else 0, ⟨fun k hk => ?_, fun k hk => ?_⟩, fun k => ?_⟩
  · by_cases c : k < 34
    · have hk : (if k < 34 then (ga w (k + 1)).1 else 0) ≠ 0 := hk
      rw [if_pos c] at hk
      exact (hi k (by omega) (by omega)).2 hk
    · exact absurd (if_neg c) hk
  · have e0 := (hi k (by omega) (by omega)).1
    have e1 : sh1 (fun k => if k < 34 then (ga w (k + 1)).1 else 0) k = (ga w k).1 := by
      cases k with
      | zero => rfl
      | succ k => show (if k < 34 then (ga w (k + 1)).1 else 0) = _; rw [if_pos (by omega)]
    have e2 : sh2 (fun k => if k < 34 then (ga w (k + 1)).1 else 0) k = (ga w k).2 := by
      cases k with
      | zero => rfl
      | succ k =>
        cases k with
        | zero => rfl
        | succ k => show (if k < 34 then (ga w (k + 1)).1 else 0) = _; rw [if_pos (by omega)]; rfl
    dsimp only
    rw [e1, e2, if_pos hk]
    show w k = 3 * ((w k - (ga w k).1 - (ga w k).2) / 3) + (w k - (ga w k).1 - (ga w k).2) % 3 + (ga w k).1 + (ga w k).2
    omega
  · dsimp only
    split
    · show (w k - (ga w k).1 - (ga w k).2) % 3 < 3
      omega
    · omega
theorem gr_iff {w : Nat → Nat} : gr w 34 0 0 0 = true ↔ ∃ t r, PW w t r := ⟨fun h => by obtain ⟨t, r, h1, -⟩ := PW_gr h; exact ⟨t, r, h1⟩, fun ⟨t, r, h⟩ => gr_of h.norm (fun k => Nat.mod_lt _ (by decide)) 34 0 rfl⟩
/-! the reference's search -/
noncomputable def sub3 (w : Nat → Nat) (k : Nat) : Nat → Nat := fun j => if j = k then w j - 3 else w j
noncomputable def subr (w : Nat → Nat) (k : Nat) : Nat → Nat := fun j => if j = k ∨ j = k + 1 ∨ j = k + 2 then w j - 1 else w j
/-- the first kind from i on that is there, of the next n -/
noncomputable def fk (w : Nat → Nat) : Nat → Nat → Nat
  | 0, i => i
  | n + 1, i => if w i ≠ 0 then i else fk w n (i + 1)
noncomputable def dc : Nat → (Nat → Nat) → Nat → Nat → Prop
  | 0, w, _, _ => ∀ k, k < 34 → w k = 0
  | m + 1, w, from_, last => fk w (34 - from_) from_ < 34 ∧ ((3 ≤ w (fk w (34 - from_) from_) ∧ last ≠ fk w (34 - from_) from_ + 1 ∧ dc m (sub3 w (fk w (34 - from_) from_)) (fk w (34 - from_) from_) 0) ∨ (rs (fk w (34 - from_) from_) ∧ 0 < w (fk w (34 - from_) from_ + 1) ∧ 0 < w (fk w (34 - from_) from_ + 2) ∧ dc m (subr w (fk w (34 - from_) from_)) (fk w (34 - from_) from_) (fk w (34 - from_) from_ + 1)))
theorem fk_spec (w : Nat → Nat) : ∀ n i, i ≤ fk w n i ∧ fk w n i ≤ i + n ∧ (∀ j, i ≤ j → j < fk w n i → w j = 0) ∧ (fk w n i < i + n → w (fk w n i) ≠ 0) := by
  intro n
  induction n with
  | zero => intro i; exact ⟨Nat.le_refl _, Nat.le_refl _, fun j h1 h2 => absurd h2 (by show ¬ j < i; omega), fun h => absurd h (by show ¬ i < i + 0; omega)⟩
  | succ n ih =>
    intro i
    show i ≤ (if w i ≠ 0 then i else fk w n (i + 1)) ∧ (if w i ≠ 0 then i else fk w n (i + 1)) ≤ i + (n + 1) ∧ (∀ j, i ≤ j → j < (if w i ≠ 0 then i else fk w n (i + 1)) → w j = 0) ∧ ((if w i ≠ 0 then i else fk w n (i + 1)) < i + (n + 1) → w (if w i ≠ 0 then i else fk w n (i + 1)) ≠ 0)
    by_cases c : w i ≠ 0
    · rw [if_pos c]
      exact ⟨Nat.le_refl _, by omega, fun j h1 h2 => by omega, fun _ => c⟩
    · rw [if_neg c]
      obtain ⟨q1, q2, q3, q4⟩ := ih (i + 1)
      refine ⟨by omega, by omega, fun j h1 h2 => ?_, fun h => q4 (by omega)⟩
      by_cases e : j = i
      · rw [e]; exact Decidable.not_not.mp c
      · exact q3 j (by omega) h2
noncomputable def sn (f : Nat → Nat) : Nat → Nat
  | 0 => 0
  | n + 1 => sn f n + f n
theorem sn_congr {f g : Nat → Nat} {n : Nat} (h : ∀ k, k < n → g k = f k) : sn g n = sn f n := by
  induction n with
  | zero => rfl
  | succ n ih => show sn g n + g n = sn f n + f n; rw [ih (fun k hk => h k (by omega)), h n (by omega)]
theorem sn_upd {f g : Nat → Nat} {c n d : Nat} (hc : c < n) (h : ∀ k, k < n → k ≠ c → g k = f k) (hd : g c + d = f c) : sn g n + d = sn f n := by
  induction n with
  | zero => omega
  | succ n ih =>
    show sn g n + g n + d = sn f n + f n
    by_cases e : c = n
    · subst e
      rw [sn_congr (fun k hk => h k (by omega) (by omega))]
      omega
    · have := ih (by omega) (fun k hk => h k (by omega))
      rw [h n (by omega) (by omega)]
      omega
theorem sn_le {f : Nat → Nat} {c n : Nat} (hc : c < n) : f c ≤ sn f n := by
  induction n with
  | zero => omega
  | succ n ih =>
    show f c ≤ sn f n + f n
    by_cases e : c = n
    · subst e; omega
    · have := ih (by omega); omega
theorem sn_pos {f : Nat → Nat} {n : Nat} (h : 0 < sn f n) : ∃ c, c < n ∧ 0 < f c := by
  induction n with
  | zero => exact absurd h (Nat.lt_irrefl 0)
  | succ n ih =>
    have h : 0 < sn f n + f n := h
    by_cases e : 0 < f n
    · exact ⟨n, by omega, e⟩
    · obtain ⟨c, h1, h2⟩ := ih (by omega)
      exact ⟨c, by omega, h2⟩
theorem sn_sh1 (r : Nat → Nat) : ∀ n, sn (sh1 r) (n + 1) = sn r n := by
  intro n
  induction n with
  | zero => rfl
  | succ n ih => show sn (sh1 r) (n + 1) + r n = sn r n + r n; rw [ih]
theorem sn_sh2 (r : Nat → Nat) : ∀ n, sn (sh2 r) (n + 1) = sn (sh1 r) n := by
  intro n
  induction n with
  | zero => rfl
  | succ n ih => show sn (sh2 r) (n + 1) + sh1 r n = sn (sh1 r) n + sh1 r n; rw [ih]
theorem PW.sum {w t r : Nat → Nat} (h : PW w t r) : sn w 34 = 3 * sn (fun k => t k + r k) 34 := by
  have key : ∀ n, n ≤ 34 → sn w n = 3 * sn t n + sn r n + sn (sh1 r) n + sn (sh2 r) n := by
    intro n
    induction n with
    | zero => intro _; rfl
    | succ n ih =>
      intro hn
      show sn w n + w n = 3 * (sn t n + t n) + (sn r n + r n) + (sn (sh1 r) n + sh1 r n) + (sn (sh2 r) n + sh2 r n)
      rw [ih (by omega), h.2 n (by omega)]
      omega
  have key2 : ∀ n, sn (fun k => t k + r k) n = sn t n + sn r n := by
    intro n
    induction n with
    | zero => rfl
    | succ n ih => show sn (fun k => t k + r k) n + (t n + r n) = sn t n + t n + (sn r n + r n); rw [ih]; omega
  have z : ∀ k, 27 ≤ k → r k = 0 := fun k hk => by
    by_cases e : r k = 0
    · exact e
    · have := (h.1 k e).1; omega
  have e34 : sn r 34 = sn r 32 + r 32 + r 33 := rfl
  have e33 : sn r 33 = sn r 32 + r 32 := rfl
  have z2 := z 32 (by decide)
  have z3 := z 33 (by decide)
  rw [key 34 (Nat.le_refl _), key2, sn_sh1 r 33, sn_sh2 r 33, sn_sh1 r 32]
  omega
theorem PW_dc : ∀ (m : Nat) (w : Nat → Nat) (f l : Nat), dc m w f l → ∃ t r, PW w t r := by
  intro m
  induction m with
  | zero =>
    intro w f l h
    refine ⟨fun _ => 0, fun _ => 0, fun k hk => absurd rfl hk, fun k hk => ?_⟩
    have e1 : sh1 (fun _ => 0) k = 0 := by cases k <;> rfl
    have e2 : sh2 (fun _ => 0) k = 0 := by
      cases k with
      | zero => rfl
      | succ k => cases k <;> rfl
    rw [e1, e2, show w k = 0 from h k hk]
    rfl
  | succ m ih =>
    intro w f l h
    obtain ⟨hk, h⟩ := h
    have hs := fk_spec w (34 - f) f
    generalize fk w (34 - f) f = k at hk h hs
    have hw : w k ≠ 0 := hs.2.2.2 (by omega)
    rcases h with ⟨h3, -, hd⟩ | ⟨hr, h1, h2, hd⟩
    · obtain ⟨t, r, hp⟩ := ih _ _ _ hd
      refine ⟨fun j => if j = k then t j + 1 else t j, r, hp.1, fun j hj => ?_⟩
      have e := hp.2 j hj
      unfold sub3 at e
      dsimp only
      by_cases c : j = k
      · subst c; rw [if_pos rfl] at e; rw [if_pos rfl]; omega
      · rw [if_neg c] at e; rw [if_neg c]; exact e
    · obtain ⟨t, r, hp⟩ := ih _ _ _ hd
      refine ⟨t, fun j => if j = k then r j + 1 else r j, fun j hj => ?_, fun j hj => ?_⟩
      · by_cases c : j = k
        · rw [c]; exact hr
        · exact hp.1 j (by have hj : (if j = k then r j + 1 else r j) ≠ 0 := hj; rw [if_neg c] at hj; exact hj)
      · have e := hp.2 j hj
        unfold subr at e
        have e1 : sh1 (fun j => if j = k then r j + 1 else r j) j = sh1 r j + (if j = k + 1 then 1 else 0) := by
          cases j with
          | zero => show 0 = 0 + _; rw [if_neg (by omega)]
          | succ j =>
            show (if j = k then r j + 1 else r j) = r j + _
            by_cases c : j = k
            · rw [if_pos c, if_pos (by omega)]
            · rw [if_neg c, if_neg (by omega)]; rfl
        have e2 : sh2 (fun j => if j = k then r j + 1 else r j) j = sh2 r j + (if j = k + 2 then 1 else 0) := by
          cases j with
          | zero => show 0 = 0 + _; rw [if_neg (by omega)]
          | succ j =>
            cases j with
            | zero => show 0 = 0 + _; rw [if_neg (by omega)]
            | succ j =>
              show (if j = k then r j + 1 else r j) = r j + _
              by_cases c : j = k
              · rw [if_pos c, if_pos (by omega)]
              · rw [if_neg c, if_neg (by omega)]; rfl
        dsimp only
        rw [e1, e2]
        by_cases c0 : j = k
        · subst c0
          rw [if_pos (Or.inl rfl)] at e
          rw [if_pos rfl, if_neg (by omega), if_neg (by omega)]
          omega
        · rw [if_neg c0]
          by_cases c1 : j = k + 1
          · rw [if_pos (Or.inr (Or.inl c1))] at e
            rw [if_pos c1, if_neg (by omega)]
            rw [← c1] at h1
            omega
          · by_cases c2 : j = k + 2
            · rw [if_pos (Or.inr (Or.inr c2))] at e
              rw [if_neg c1, if_pos c2]
              rw [← c2] at h2
              omega
            · rw [if_neg (by omega)] at e
              rw [if_neg c1, if_neg c2]
              omega
theorem dc_PW : ∀ (m : Nat) (w t r : Nat → Nat) (f l : Nat), PW w t r → sn (fun k => t k + r k) 34 = m → (∀ j, j < f → w j = 0) → f ≤ 34 → (∀ k, l = k + 1 → t k = 0) → dc m w f l := by
  intro m
  induction m with
  | zero =>
    intro w t r f l h hs hz hf hl k hk
    have z : ∀ j, j < 34 → t j = 0 ∧ r j = 0 := fun j hj => by
      have : t j + r j ≤ _ := sn_le (f := fun k => t k + r k) hj
      omega
    have e := h.2 k hk
    have e1 : sh1 r k = 0 := by
      cases k with
      | zero => rfl
      | succ k => exact (z k (by omega)).2
    have e2 : sh2 r k = 0 := by
      cases k with
      | zero => rfl
      | succ k =>
        cases k with
        | zero => rfl
        | succ k => exact (z k (by omega)).2
    have := z k hk
    omega
  | succ m ih =>
    intro w t r f l h hs hz hf hl
    obtain ⟨c, hc, hp⟩ := sn_pos (f := fun k => t k + r k) (n := 34) (by omega)
    have hp : 0 < t c + r c := hp
    have hwc : w c ≠ 0 := by have := h.2 c hc; omega
    have hcf : f ≤ c := by
      rcases Nat.lt_or_ge c f with q | q
      · exact absurd (hz c q) hwc
      · exact q
    have sp := fk_spec w (34 - f) f
    show fk w (34 - f) f < 34 ∧ _
    generalize fk w (34 - f) f = k at sp ⊢
    obtain ⟨s1, s2, s3, s4⟩ := sp
    have hkc : k ≤ c := by
      rcases Nat.lt_or_ge c k with q | q
      · exact absurd (s3 c hcf q) hwc
      · exact q
    have hk : k < 34 := by omega
    have hwk : w k ≠ 0 := s4 (by omega)
    have below : ∀ j, j < k → t j = 0 ∧ r j = 0 := fun j hj => by
      have w0 : w j = 0 := by
        rcases Nat.lt_or_ge j f with q | q
        · exact hz j q
        · exact s3 j q hj
      have := h.2 j (by omega)
      omega
    have e1 : sh1 r k = 0 := by
      cases k with
      | zero => rfl
      | succ k => exact (below k (by omega)).2
    have e2 : sh2 r k = 0 := by
      cases k with
      | zero => rfl
      | succ k =>
        cases k with
        | zero => rfl
        | succ k => exact (below k (by omega)).2
    have ek := h.2 k hk
    refine ⟨hk, ?_⟩
    by_cases ht : t k = 0
    · right
      have hr : r k ≠ 0 := by omega
      have hrs := h.1 k hr
      have k27 := hrs.1
      have w1 := h.2 (k + 1) (by omega)
      have w2 := h.2 (k + 2) (by omega)
      have w1 : w (k + 1) = 3 * t (k + 1) + r (k + 1) + r k + sh1 r k := w1
      have w2 : w (k + 2) = 3 * t (k + 2) + r (k + 2) + r (k + 1) + r k := w2
      refine ⟨hrs, by omega, by omega, ih (subr w k) t (fun j => if j = k then r j - 1 else r j) k (k + 1) ⟨fun j hj => ?_, fun j hj => ?_⟩ ?_ (fun j hj => ?_) (by omega) (fun k' e => by rw [show k' = k by omega]; exact ht)⟩
      · by_cases c : j = k
        · rw [c]; exact hrs
        · exact h.1 j (by have hj : (if j = k then r j - 1 else r j) ≠ 0 := hj; rw [if_neg c] at hj; exact hj)
      · have e := h.2 j hj
        have f1 : sh1 (fun j => if j = k then r j - 1 else r j) j + (if j = k + 1 then 1 else 0) = sh1 r j := by
          cases j with
          | zero => show 0 + _ = 0; rw [if_neg (by omega)]
          | succ j =>
            show (if j = k then r j - 1 else r j) + _ = r j
            by_cases c : j = k
            · rw [if_pos c, if_pos (by omega), c]; omega
            · rw [if_neg c, if_neg (by omega)]; rfl
        have f2 : sh2 (fun j => if j = k then r j - 1 else r j) j + (if j = k + 2 then 1 else 0) = sh2 r j := by
          cases j with
          | zero => show 0 + _ = 0; rw [if_neg (by omega)]
          | succ j =>
            cases j with
            | zero => show 0 + _ = 0; rw [if_neg (by omega)]
            | succ j =>
              show (if j = k then r j - 1 else r j) + _ = r j
              by_cases c : j = k
              · rw [if_pos c, if_pos (by omega), c]; omega
              · rw [if_neg c, if_neg (by omega)]; rfl
        unfold subr
        dsimp only
        by_cases c0 : j = k
        · subst c0
          rw [if_neg (by omega)] at f1 f2
          rw [if_pos (Or.inl rfl), if_pos rfl]
          omega
        · rw [if_neg c0]
          by_cases c1 : j = k + 1
          · rw [if_pos c1] at f1
            rw [if_neg (by omega)] at f2
            rw [if_pos (Or.inr (Or.inl c1))]
            omega
          · by_cases c2 : j = k + 2
            · rw [if_neg c1] at f1
              rw [if_pos c2] at f2
              rw [if_pos (Or.inr (Or.inr c2))]
              omega
            · rw [if_neg c1] at f1
              rw [if_neg c2] at f2
              rw [if_neg (by omega)]
              omega
      · have := sn_upd (f := fun k => t k + r k) (g := fun j => t j + (if j = k then r j - 1 else r j)) (c := k) (n := 34) (d := 1) hk (fun j _ hj => by rw [if_neg hj]) (by rw [if_pos rfl]; omega)
        omega
      · unfold subr
        rw [if_neg (by omega)]
        have := below j hj
        rcases Nat.lt_or_ge j f with q | q
        · exact hz j q
        · exact s3 j q hj
    · left
      refine ⟨by omega, fun e => ht (hl k e), ih (sub3 w k) (fun j => if j = k then t j - 1 else t j) r k 0 ⟨h.1, fun j hj => ?_⟩ ?_ (fun j hj => ?_) (by omega) (fun k' e => absurd e (by omega))⟩
      · have e := h.2 j hj
        unfold sub3
        dsimp only
        by_cases c : j = k
        · subst c; rw [if_pos rfl, if_pos rfl]; omega
        · rw [if_neg c, if_neg c]; exact e
      · have := sn_upd (f := fun k => t k + r k) (g := fun j => (if j = k then t j - 1 else t j) + r j) (c := k) (n := 34) (d := 1) hk (fun j _ hj => by rw [if_neg hj]) (by rw [if_pos rfl]; omega)
        omega
      · unfold sub3
        rw [if_neg (by omega)]
        rcases Nat.lt_or_ge j f with q | q
        · exact hz j q
        · exact s3 j q hj
/-- both find the same -/
theorem dc_gr {w : Nat → Nat} {m : Nat} (hs : sn w 34 = 3 * m) : dc m w 0 0 ↔ gr w 34 0 0 0 = true := by
  rw [gr_iff]
  constructor
  · exact PW_dc m w 0 0
  · rintro ⟨t, r, h⟩
    exact dc_PW m w t r 0 0 h (by have := h.sum; omega) (fun j hj => by omega) (by decide) (fun k e => absurd e (by omega))
/-! seven PAIRS, thirteen ends, and bits -/
noncomputable def cn (b : Nat → Bool) : Nat → Nat
  | 0 => 0
  | n + 1 => cn b n + (if b n = true then 1 else 0)
theorem cn_congr {b c : Nat → Bool} {n : Nat} (h : ∀ k, k < n → b k = c k) : cn b n = cn c n := by
  induction n with
  | zero => rfl
  | succ n ih => show cn b n + _ = cn c n + _; rw [ih (fun k hk => h k (by omega)), h n (by omega)]
/-- how many kinds are twice there -/
theorem sn_two (w : Nat → Nat) : ∀ n, sn w n = 2 * cn (fun k => decide (w k = 2)) n + sn (fun k => if w k = 2 then 0 else w k) n := by
  intro n
  induction n with
  | zero => rfl
  | succ n ih =>
    show sn w n + w n = 2 * (cn (fun k => decide (w k = 2)) n + (if decide (w n = 2) = true then 1 else 0)) + (sn (fun k => if w k = 2 then 0 else w k) n + (if w n = 2 then 0 else w n))
    by_cases c : w n = 2
    · rw [if_pos (decide_eq_true c), if_pos c]; omega
    · rw [if_neg (by rw [decide_eq_true_iff]; exact c), if_neg c]; omega
theorem f7_iff {w : Nat → Nat} (h : sn w 34 = 14) : (∀ k, k < 34 → w k = 0 ∨ w k = 2) ↔ cn (fun k => decide (w k = 2)) 34 = 7 := by
  have e := sn_two w 34
  constructor
  · intro q
    have z : sn (fun k => if w k = 2 then 0 else w k) 34 = sn (fun _ => 0) 34 := sn_congr (fun k hk => by
      rcases q k hk with c | c
      · show (if w k = 2 then 0 else w k) = 0
        rw [if_neg (by omega), c]
      · show (if w k = 2 then 0 else w k) = 0
        rw [if_pos c])
    have z0 : sn (fun _ => 0) 34 = 0 := rfl
    omega
  · intro q k hk
    have := sn_le (f := fun k => if w k = 2 then 0 else w k) hk
    have t : (if w k = 2 then 0 else w k) ≤ 0 := by
      have : (if w k = 2 then 0 else w k) ≤ sn (fun k => if w k = 2 then 0 else w k) 34 := this
      omega
    by_cases c : w k = 2
    · exact Or.inr c
    · rw [if_neg c] at t; exact Or.inl (by omega)
/-- the ends -/
noncomputable def eN (k : Nat) : Bool := decide (27 ≤ k) || (decide (k % 9 = 0) || decide (k % 9 = 8))
theorem cnd_le (b : Nat → Bool) (c : Nat → Bool) : ∀ n, cn (fun k => b k && c k) n ≤ cn b n ∧ (cn (fun k => b k && c k) n = cn b n → ∀ k, k < n → b k = true → c k = true) := by
  intro n
  induction n with
  | zero => exact ⟨Nat.le_refl _, fun _ k hk => by omega⟩
  | succ n ih =>
    show cn (fun k => b k && c k) n + (if (b n && c n) = true then 1 else 0) ≤ cn b n + (if b n = true then 1 else 0) ∧ (cn (fun k => b k && c k) n + (if (b n && c n) = true then 1 else 0) = cn b n + (if b n = true then 1 else 0) → _)
    obtain ⟨i1, i2⟩ := ih
    cases hb : b n with
    | false =>
      refine ⟨by simpa using i1, fun q k hk hk2 => ?_⟩
      have q : cn (fun k => b k && c k) n = cn b n := by simpa using q
      by_cases e : k = n
      · rw [e, hb] at hk2; cases hk2
      · exact i2 q k (by omega) hk2
    | true =>
      cases hc : c n with
      | false =>
        refine ⟨by simp; omega, fun q => ?_⟩
        have q : cn (fun k => b k && c k) n = cn b n + 1 := by simpa using q
        omega
      | true =>
        refine ⟨by simpa using i1, fun q k hk hk2 => ?_⟩
        have q : cn (fun k => b k && c k) n = cn b n := by simpa using q
        by_cases e : k = n
        · rw [e]; exact hc
        · exact i2 q k (by omega) hk2
theorem sn_ex (w : Nat → Nat) : ∀ n, (∀ k, k < n → eN k = true → 0 < w k) → sn w n = sn (fun k => w k - (if eN k = true then 1 else 0)) n + cn eN n := by
  intro n
  induction n with
  | zero => intro _; rfl
  | succ n ih =>
    intro h
    show sn w n + w n = sn (fun k => w k - (if eN k = true then 1 else 0)) n + (w n - (if eN n = true then 1 else 0)) + (cn eN n + (if eN n = true then 1 else 0))
    rw [ih (fun k hk => h k (by omega))]
    cases e : eN n with
    | false => simp; omega
    | true =>
      have := h n (by omega) e
      simp
      omega
theorem f13_iff {w : Nat → Nat} (h : sn w 34 = 14) : (∀ k, k < 34 → (0 < w k ↔ eN k = true)) ↔ (cn (fun k => eN k && decide (0 < w k)) 34 = 13 ∧ ∃ k, k < 34 ∧ eN k = true ∧ w k = 2) := by
  have c13 : cn eN 34 = 13 := by decide
  constructor
  · intro q
    have e := sn_ex w 34 (fun k hk he => (q k hk).mpr he)
    have c : cn (fun k => eN k && decide (0 < w k)) 34 = cn eN 34 := cn_congr (fun k hk => by
      cases he : eN k with
      | false => rfl
      | true => show (true && decide (0 < w k)) = true; rw [decide_eq_true ((q k hk).mpr he)]; rfl)
    refine ⟨c.trans c13, ?_⟩
    obtain ⟨k, hk, hp⟩ := sn_pos (f := fun k => w k - (if eN k = true then 1 else 0)) (n := 34) (by omega)
    have hp : 0 < w k - (if eN k = true then 1 else 0) := hp
    have hw : 0 < w k := by omega
    have he := (q k hk).mp hw
    rw [if_pos he] at hp
    have hu : w k - (if eN k = true then 1 else 0) ≤ sn (fun k => w k - (if eN k = true then 1 else 0)) 34 := sn_le (f := fun k => w k - (if eN k = true then 1 else 0)) hk
    rw [if_pos he] at hu
    exact ⟨k, hk, he, by omega⟩
  · rintro ⟨q, c, hc, ec, wc⟩ k hk
    have hall : ∀ k, k < 34 → eN k = true → 0 < w k := fun k hk he => of_decide_eq_true ((cnd_le eN (fun k => decide (0 < w k)) 34).2 (by rw [q, c13]) k hk he)
    have e := sn_ex w 34 hall
    refine ⟨fun hp => ?_, hall k hk⟩
    cases he : eN k with
    | true => rfl
    | false =>
      exfalso
      have hne : k ≠ c := fun z => by rw [z, ec] at he; cases he
      have u := sn_upd (f := fun k => w k - (if eN k = true then 1 else 0)) (g := fun j => if j = c then 0 else w j - (if eN j = true then 1 else 0)) (c := c) (n := 34) (d := 1) hc (fun j _ hj => by rw [if_neg hj]) (by rw [if_pos rfl, if_pos ec, wc])
      have hu : (if k = c then 0 else w k - (if eN k = true then 1 else 0)) ≤ sn (fun j => if j = c then 0 else w j - (if eN j = true then 1 else 0)) 34 := sn_le (f := fun j => if j = c then 0 else w j - (if eN j = true then 1 else 0)) hk
      rw [if_neg hne, he] at hu
      have hu : w k - 0 ≤ _ := hu
      omega
/-! bits -/
noncomputable def kb (b : Nat → Bool) : Nat → Int64
  | 0 => 0
  | n + 1 => if b n = true then kb b n ||| ((1 : Int64) <<< ((nI n).toInt64 &&& 63)) else kb b n
theorem kb_congr {b c : Nat → Bool} {n : Nat} (h : ∀ k, k < n → b k = c k) : kb b n = kb c n := by
  induction n with
  | zero => rfl
  | succ n ih =>
    show (if b n = true then kb b n ||| _ else kb b n) = (if c n = true then kb c n ||| _ else kb c n)
    rw [ih (fun k hk => h k (by omega)), h n (by omega)]
theorem kb_one : ∀ n, n < 34 → ((1 : Int64) <<< ((nI n).toInt64 &&& 63)).toBitVec = BitVec.twoPow 64 n := by decide +kernel
theorem kb_bit (b : Nat → Bool) : ∀ n, n ≤ 34 → ∀ j, j < 34 → (kb b n).toBitVec.getLsbD j = (decide (j < n) && b j) := by
  intro n
  induction n with
  | zero =>
    intro _ j hj
    show (0 : Int64).toBitVec.getLsbD j = _
    have : ∀ j, j < 34 → (0 : Int64).toBitVec.getLsbD j = false := by decide +kernel
    rw [this j hj]
    simp
  | succ n ih =>
    intro hn j hj
    have i := ih (by omega) j hj
    show (if b n = true then kb b n ||| _ else kb b n).toBitVec.getLsbD j = _
    cases hb : b n with
    | false =>
      rw [if_neg (by decide), i]
      by_cases e : j = n
      · rw [e, hb]; simp
      · have : decide (j < n + 1) = decide (j < n) := by rw [decide_eq_decide]; omega
        rw [this]
    | true =>
      rw [if_pos rfl, Int64.toBitVec_or, BitVec.getLsbD_or, i, kb_one n (by omega), BitVec.getLsbD_twoPow]
      by_cases e : j = n
      · subst e; rw [hb]; simp; omega
      · have : decide (j < n + 1) = decide (j < n) := by rw [decide_eq_decide]; omega
        rw [this]
        simp [show ¬ n = j by omega]
theorem kb_inj {b c : Nat → Bool} (h : kb b 34 = kb c 34) : ∀ k, k < 34 → b k = c k := by
  intro k hk
  have h1 := kb_bit b 34 (Nat.le_refl _) k hk
  have h2 := kb_bit c 34 (Nat.le_refl _) k hk
  rw [h, h2] at h1
  simpa [hk] using h1.symm
/-- a full hand, as the class says it -/
noncomputable def sb2 (w : Nat → Nat) (p : Nat) : Nat → Nat := fun j => if j = p then w j - 2 else w j
noncomputable def FU (w : Nat → Nat) (q : Nat) : Prop := (∃ p, p < 34 ∧ 2 ≤ w p ∧ gr (sb2 w p) 34 0 0 0 = true) ∨ (q = 0 ∧ ((∀ k, k < 34 → w k = 0 ∨ w k = 2) ∨ ∀ k, k < 34 → (0 < w k ↔ eN k = true)))
/-- as the reference says it -/
noncomputable def FM (w : Nat → Nat) (q : Nat) : Prop := (∃ p, p < 34 ∧ 2 ≤ w p ∧ dc (4 - q) (sb2 w p) 0 0) ∨ (q = 0 ∧ (cn (fun k => decide (w k = 2)) 34 = 7 ∨ (cn (fun k => eN k && decide (0 < w k)) 34 = 13 ∧ ∃ k, k < 34 ∧ eN k = true ∧ w k = 2)))
theorem sn_sb2 {w : Nat → Nat} {p : Nat} (hp : p < 34) (h2 : 2 ≤ w p) : sn (sb2 w p) 34 + 2 = sn w 34 := sn_upd (f := w) (g := sb2 w p) hp (fun k _ hk => by unfold sb2; rw [if_neg hk]) (by unfold sb2; rw [if_pos rfl]; omega)
theorem FU_FM {w : Nat → Nat} {q : Nat} (hq : q ≤ 4) (h : sn w 34 + 3 * q = 14) : FU w q ↔ FM w q := by
  have a : ∀ p, p < 34 → 2 ≤ w p → (dc (4 - q) (sb2 w p) 0 0 ↔ gr (sb2 w p) 34 0 0 0 = true) := fun p hp h2 => dc_gr (by have := sn_sb2 hp h2; omega)
  unfold FU FM
  constructor
  · rintro (⟨p, h1, h2, h3⟩ | ⟨h0, h1⟩)
    · exact Or.inl ⟨p, h1, h2, (a p h1 h2).mpr h3⟩
    · have h14 : sn w 34 = 14 := by omega
      rw [f7_iff h14, f13_iff h14] at h1
      exact Or.inr ⟨h0, h1⟩
  · rintro (⟨p, h1, h2, h3⟩ | ⟨h0, h1⟩)
    · exact Or.inl ⟨p, h1, h2, (a p h1 h2).mp h3⟩
    · have h14 : sn w 34 = 14 := by omega
      rw [← f7_iff h14, ← f13_iff h14] at h1
      exact Or.inr ⟨h0, h1⟩
/-! the class: what a desk waits for, exactly -/
noncomputable def RW (μ : zM) (r : Nat) (w : Nat → Nat) : Prop := ∀ k, k < 34 → μ.1 r k = nI (w k) ∧ w k ≤ 5
theorem l_sub : ∀ a, a < 6 → ∀ r1, r1 < 3 → ∀ r2, r2 < 3 → (r1 + r2 ≤ a → nI a - nI r1 - nI r2 = nI (a - r1 - r2)) ∧ (a < r1 + r2 → z_cmp .ge (nI a - nI r1 - nI r2) 0 = false) := by decide +kernel
theorem l_ge : ∀ a, a < 6 → z_cmp .ge (nI a) 0 = true := by decide +kernel
theorem l_2 : ∀ a, a < 6 → 2 ≤ a → nI a - 2 = nI (a - 2) := by decide +kernel
theorem l_r3 : ∀ a, a < 6 → nI a - nI a / 3 * 3 = nI (a % 3) := by decide +kernel
theorem sr_rs : ∀ k, k < 34 → (sr (nI k) ↔ rs k) := by
  have h : ∀ k, k < 34 → ((¬ nI k < 0 ∧ ¬ (27 : Int32) ≤ nI k ∧ ¬ (7 : Int32) ≤ (nI k - nI k / 9 * 9)) ↔ (k < 27 ∧ k % 9 < 7)) := by decide +kernel
  exact h
theorem gr_s {v : Nat → Nat} {n i r1 r2 : Nat} : gr v (n + 1) i r1 r2 = if v i < r1 + r2 then false else if (v i - r1 - r2) % 3 ≠ 0 ∧ ¬ rs i then false else gr v n (i + 1) ((v i - r1 - r2) % 3) r1 := rfl
theorem zh_X3_splitsBeside : zH mi_X3_splitsBeside zt_X3_splitsBeside 79 3 7 := hh_X3_splitsBeside
theorem sb33a (d' : Nat) (Z : zK) (hd : 2 ≤ d') (μ : zM) (P : Prop) (hc : z_clo z_x0 mi_X3_splitsBeside (z_C d') Z) (hr : z_ret mi_X3_splitsBeside (zB μ P) Z) (p : Nat) (v : Nat → Nat) (n i r1 r2 : Nat) (hi : i < 34) (h1 : r1 < 3) (h2 : r2 < 3) (ha : v i < 6) (hg : P ↔ gr v (n + 1) i r1 r2 = true) (K : ∀ (x5 x6 : Int32) (r : Nat), r < 3 → (P ↔ gr v n (i + 1) r r1 = true) → Z 0 7 [(4, .int (nI (i + 1))), (2, .int (nI r)), (3, .int (nI r1)), (6, .int x6), (5, .int x5), (0, .ref 9), (1, .int (nI p))] [] μ) : Z 0 33 [(4, .int (nI i)), (3, .int (nI r2)), (2, .int (nI r1)), (0, .ref 9), (1, .int (nI p))] [.int (nI (v i))] μ := by
  have hH := zh_X3_splitsBeside
  rw [gr_s] at hg
  obtain ⟨g1, g2⟩ := l_sub (v i) ha r1 h1 r2 h2
  refine z_rcs hc hH 4 (pc' := 37) (lv' := [(4, .int (nI i)), (3, .int (nI r2)), (2, .int (nI r1)), (0, .ref 9), (1, .int (nI p))]) (st' := [.int (((nI (v i)) - (nI r1)) - (nI r2))]) (μ' := μ) (by rfl) ?_
  by_cases c : v i < r1 + r2
  · rw [if_pos c] at hg
    refine z_rcs hc hH 2 (pc' := 41) (lv' := [(5, .int (((nI (v i)) - (nI r1)) - (nI r2))), (4, .int (nI i)), (3, .int (nI r2)), (2, .int (nI r1)), (0, .ref 9), (1, .int (nI p))]) (st' := [.int (((nI (v i)) - (nI r1)) - (nI r2))]) (μ' := μ) (by rfl) ?_
    refine zq_if hc hH (by rfl) (tg := 46) (by rfl) (fun h9 => (zb_t h9 (g2 c)).elim) (fun _ => ?_)
    refine z_rcs hc hH 1 (pc' := 45) (lv' := [(5, .int (((nI (v i)) - (nI r1)) - (nI r2))), (4, .int (nI i)), (3, .int (nI r2)), (2, .int (nI r1)), (0, .ref 9), (1, .int (nI p))]) (st' := [.int 0]) (μ' := μ) (by rfl) ?_
    exact hr 0 45 _ _ _ (some (.int 0)) (by decide +kernel) (z_rx_ok hH (by rfl)) (⟨rfl, Or.inr ⟨rfl, fun q => absurd (hg.mp q) (by decide)⟩⟩)
  rw [if_neg c] at hg
  rw [g1 (by omega)]
  generalize hl : v i - r1 - r2 = l at hg ⊢
  have hl6 : l < 6 := by omega
  refine z_rcs hc hH 2 (pc' := 41) (lv' := [(5, .int (nI l)), (4, .int (nI i)), (3, .int (nI r2)), (2, .int (nI r1)), (0, .ref 9), (1, .int (nI p))]) (st' := [.int (nI l)]) (μ' := μ) (by rfl) ?_
  refine zq_if hc hH (by rfl) (tg := 46) (by rfl) (fun _ => ?_) (fun h9 => (zb_t (l_ge l hl6) h9).elim)
  refine z_rcs hc hH 3 (pc' := 50) (lv' := [(5, .int (nI l)), (4, .int (nI i)), (3, .int (nI r2)), (2, .int (nI r1)), (0, .ref 9), (1, .int (nI p))]) (st' := [.int ((nI l) - (nI l) / 3 * 3)]) (μ' := μ) (by rfl) ?_
  rw [l_r3 l hl6]
  refine z_rcs hc hH 2 (pc' := 54) (lv' := [(6, .int (nI (l % 3))), (5, .int (nI l)), (4, .int (nI i)), (3, .int (nI r2)), (2, .int (nI r1)), (0, .ref 9), (1, .int (nI p))]) (st' := [.int (nI (l % 3))]) (μ' := μ) (by rfl) ?_
  have hm : l % 3 < 3 := Nat.mod_lt _ (by decide)
  by_cases c3 : l % 3 = 0
  · rw [if_neg (fun q => q.1 c3)] at hg
    refine zq_if hc hH (by rfl) (tg := 67) (by rfl) (fun _ => ?_) (fun h9 => (zb_t (by rw [c3]; decide) h9).elim)
    refine z_rcs hc hH 6 (pc' := 7) (lv' := [(4, .int ((nI i) + 1)), (2, .int (nI (l % 3))), (3, .int (nI r1)), (6, .int (nI (l % 3))), (5, .int (nI l)), (0, .ref 9), (1, .int (nI p))]) (st' := []) (μ' := μ) (by rfl) ?_
    rw [nI_1]
    exact K _ _ (l % 3) (Nat.mod_lt _ (by decide)) hg
  refine zq_if hc hH (by rfl) (tg := 67) (by rfl) (fun h9 => (zb_t h9 (cn_le.mpr (fun q => by rw [Int32.le_iff_toInt_le, nI_toInt (by omega)] at q; have q : ((l % 3 : Nat) : Int) ≤ 0 := q; omega))).elim) (fun _ => ?_)
  refine z_rcs hc hH 1 (pc' := 59) (lv' := [(6, .int (nI (l % 3))), (5, .int (nI l)), (4, .int (nI i)), (3, .int (nI r2)), (2, .int (nI r1)), (0, .ref 9), (1, .int (nI p))]) (st' := [.int (nI i)]) (μ' := μ) (by rfl) ?_
  refine zq_call hc (z_cx_ok hH (by rfl)) (fc_X6_startsRun d' (by omega) μ (nI i)) (by decide +kernel) (fun r9 μ9 hq => ?_)
  obtain ⟨hμ9, hq⟩ := hq
  rw [hμ9]
  clear hμ9 μ9
  rw [sr_rs i hi] at hq
  obtain ⟨rfl, hk⟩ | ⟨rfl, hk⟩ := hq
  · rw [if_neg (fun q => q.2 hk)] at hg
    show Z 0 62 [(6, .int (nI (l % 3))), (5, .int (nI l)), (4, .int (nI i)), (3, .int (nI r2)), (2, .int (nI r1)), (0, .ref 9), (1, .int (nI p))] [.int 1] μ
    refine z_rcs hc hH 7 (pc' := 7) (lv' := [(4, .int ((nI i) + 1)), (2, .int (nI (l % 3))), (3, .int (nI r1)), (6, .int (nI (l % 3))), (5, .int (nI l)), (0, .ref 9), (1, .int (nI p))]) (st' := []) (μ' := μ) (by rfl) ?_
    rw [nI_1]
    exact K _ _ (l % 3) (Nat.mod_lt _ (by decide)) hg
  · rw [if_pos ⟨c3, hk⟩] at hg
    show Z 0 62 [(6, .int (nI (l % 3))), (5, .int (nI l)), (4, .int (nI i)), (3, .int (nI r2)), (2, .int (nI r1)), (0, .ref 9), (1, .int (nI p))] [.int 0] μ
    refine z_rcs hc hH 2 (pc' := 66) (lv' := [(6, .int (nI (l % 3))), (5, .int (nI l)), (4, .int (nI i)), (3, .int (nI r2)), (2, .int (nI r1)), (0, .ref 9), (1, .int (nI p))]) (st' := [.int 0]) (μ' := μ) (by rfl) ?_
    exact hr 0 66 _ _ _ (some (.int 0)) (by decide +kernel) (z_rx_ok hH (by rfl)) (⟨rfl, Or.inr ⟨rfl, fun q => absurd (hg.mp q) (by decide)⟩⟩)
theorem sb33b (d' : Nat) (Z : zK) (hd : 2 ≤ d') (μ : zM) (P : Prop) (hc : z_clo z_x0 mi_X3_splitsBeside (z_C d') Z) (hr : z_ret mi_X3_splitsBeside (zB μ P) Z) (p : Nat) (v : Nat → Nat) (n i r1 r2 : Nat) (x5 x6 : Int32) (hi : i < 34) (h1 : r1 < 3) (h2 : r2 < 3) (ha : v i < 6) (hg : P ↔ gr v (n + 1) i r1 r2 = true) (K : ∀ (x5 x6 : Int32) (r : Nat), r < 3 → (P ↔ gr v n (i + 1) r r1 = true) → Z 0 7 [(4, .int (nI (i + 1))), (2, .int (nI r)), (3, .int (nI r1)), (6, .int x6), (5, .int x5), (0, .ref 9), (1, .int (nI p))] [] μ) : Z 0 33 [(4, .int (nI i)), (2, .int (nI r1)), (3, .int (nI r2)), (6, .int x6), (5, .int x5), (0, .ref 9), (1, .int (nI p))] [.int (nI (v i))] μ := by
  have hH := zh_X3_splitsBeside
  rw [gr_s] at hg
  obtain ⟨g1, g2⟩ := l_sub (v i) ha r1 h1 r2 h2
  refine z_rcs hc hH 4 (pc' := 37) (lv' := [(4, .int (nI i)), (2, .int (nI r1)), (3, .int (nI r2)), (6, .int x6), (5, .int x5), (0, .ref 9), (1, .int (nI p))]) (st' := [.int (((nI (v i)) - (nI r1)) - (nI r2))]) (μ' := μ) (by rfl) ?_
  by_cases c : v i < r1 + r2
  · rw [if_pos c] at hg
    refine z_rcs hc hH 2 (pc' := 41) (lv' := [(5, .int (((nI (v i)) - (nI r1)) - (nI r2))), (4, .int (nI i)), (2, .int (nI r1)), (3, .int (nI r2)), (6, .int x6), (0, .ref 9), (1, .int (nI p))]) (st' := [.int (((nI (v i)) - (nI r1)) - (nI r2))]) (μ' := μ) (by rfl) ?_
    refine zq_if hc hH (by rfl) (tg := 46) (by rfl) (fun h9 => (zb_t h9 (g2 c)).elim) (fun _ => ?_)
    refine z_rcs hc hH 1 (pc' := 45) (lv' := [(5, .int (((nI (v i)) - (nI r1)) - (nI r2))), (4, .int (nI i)), (2, .int (nI r1)), (3, .int (nI r2)), (6, .int x6), (0, .ref 9), (1, .int (nI p))]) (st' := [.int 0]) (μ' := μ) (by rfl) ?_
    exact hr 0 45 _ _ _ (some (.int 0)) (by decide +kernel) (z_rx_ok hH (by rfl)) (⟨rfl, Or.inr ⟨rfl, fun q => absurd (hg.mp q) (by decide)⟩⟩)
  rw [if_neg c] at hg
  rw [g1 (by omega)]
  generalize hl : v i - r1 - r2 = l at hg ⊢
  have hl6 : l < 6 := by omega
  refine z_rcs hc hH 2 (pc' := 41) (lv' := [(5, .int (nI l)), (4, .int (nI i)), (2, .int (nI r1)), (3, .int (nI r2)), (6, .int x6), (0, .ref 9), (1, .int (nI p))]) (st' := [.int (nI l)]) (μ' := μ) (by rfl) ?_
  refine zq_if hc hH (by rfl) (tg := 46) (by rfl) (fun _ => ?_) (fun h9 => (zb_t (l_ge l hl6) h9).elim)
  refine z_rcs hc hH 3 (pc' := 50) (lv' := [(5, .int (nI l)), (4, .int (nI i)), (2, .int (nI r1)), (3, .int (nI r2)), (6, .int x6), (0, .ref 9), (1, .int (nI p))]) (st' := [.int ((nI l) - (nI l) / 3 * 3)]) (μ' := μ) (by rfl) ?_
  rw [l_r3 l hl6]
  refine z_rcs hc hH 2 (pc' := 54) (lv' := [(6, .int (nI (l % 3))), (5, .int (nI l)), (4, .int (nI i)), (2, .int (nI r1)), (3, .int (nI r2)), (0, .ref 9), (1, .int (nI p))]) (st' := [.int (nI (l % 3))]) (μ' := μ) (by rfl) ?_
  have hm : l % 3 < 3 := Nat.mod_lt _ (by decide)
  by_cases c3 : l % 3 = 0
  · rw [if_neg (fun q => q.1 c3)] at hg
    refine zq_if hc hH (by rfl) (tg := 67) (by rfl) (fun _ => ?_) (fun h9 => (zb_t (by rw [c3]; decide) h9).elim)
    refine z_rcs hc hH 6 (pc' := 7) (lv' := [(4, .int ((nI i) + 1)), (2, .int (nI (l % 3))), (3, .int (nI r1)), (6, .int (nI (l % 3))), (5, .int (nI l)), (0, .ref 9), (1, .int (nI p))]) (st' := []) (μ' := μ) (by rfl) ?_
    rw [nI_1]
    exact K _ _ (l % 3) (Nat.mod_lt _ (by decide)) hg
  refine zq_if hc hH (by rfl) (tg := 67) (by rfl) (fun h9 => (zb_t h9 (cn_le.mpr (fun q => by rw [Int32.le_iff_toInt_le, nI_toInt (by omega)] at q; have q : ((l % 3 : Nat) : Int) ≤ 0 := q; omega))).elim) (fun _ => ?_)
  refine z_rcs hc hH 1 (pc' := 59) (lv' := [(6, .int (nI (l % 3))), (5, .int (nI l)), (4, .int (nI i)), (2, .int (nI r1)), (3, .int (nI r2)), (0, .ref 9), (1, .int (nI p))]) (st' := [.int (nI i)]) (μ' := μ) (by rfl) ?_
  refine zq_call hc (z_cx_ok hH (by rfl)) (fc_X6_startsRun d' (by omega) μ (nI i)) (by decide +kernel) (fun r9 μ9 hq => ?_)
  obtain ⟨hμ9, hq⟩ := hq
  rw [hμ9]
  clear hμ9 μ9
  rw [sr_rs i hi] at hq
  obtain ⟨rfl, hk⟩ | ⟨rfl, hk⟩ := hq
  · rw [if_neg (fun q => q.2 hk)] at hg
    show Z 0 62 [(6, .int (nI (l % 3))), (5, .int (nI l)), (4, .int (nI i)), (2, .int (nI r1)), (3, .int (nI r2)), (0, .ref 9), (1, .int (nI p))] [.int 1] μ
    refine z_rcs hc hH 7 (pc' := 7) (lv' := [(4, .int ((nI i) + 1)), (2, .int (nI (l % 3))), (3, .int (nI r1)), (6, .int (nI (l % 3))), (5, .int (nI l)), (0, .ref 9), (1, .int (nI p))]) (st' := []) (μ' := μ) (by rfl) ?_
    rw [nI_1]
    exact K _ _ (l % 3) (Nat.mod_lt _ (by decide)) hg
  · rw [if_pos ⟨c3, hk⟩] at hg
    show Z 0 62 [(6, .int (nI (l % 3))), (5, .int (nI l)), (4, .int (nI i)), (2, .int (nI r1)), (3, .int (nI r2)), (0, .ref 9), (1, .int (nI p))] [.int 0] μ
    refine z_rcs hc hH 2 (pc' := 66) (lv' := [(6, .int (nI (l % 3))), (5, .int (nI l)), (4, .int (nI i)), (2, .int (nI r1)), (3, .int (nI r2)), (0, .ref 9), (1, .int (nI p))]) (st' := [.int 0]) (μ' := μ) (by rfl) ?_
    exact hr 0 66 _ _ _ (some (.int 0)) (by decide +kernel) (z_rx_ok hH (by rfl)) (⟨rfl, Or.inr ⟨rfl, fun q => absurd (hg.mp q) (by decide)⟩⟩)
theorem sb7 (d' : Nat) (Z : zK) (hd : 2 ≤ d') (μ : zM) (P : Prop) (hc : z_clo z_x0 mi_X3_splitsBeside (z_C d') Z) (hr : z_ret mi_X3_splitsBeside (zB μ P) Z) (p : Nat) (w : Nat → Nat) (hw : RW μ 10 w) (hp : p < 34) (h2p : 2 ≤ w p) : ∀ n i, i + n = 34 → ∀ (r1 r2 : Nat) (x5 x6 : Int32), r1 < 3 → r2 < 3 → (P ↔ gr (sb2 w p) n i r1 r2 = true) → Z 0 7 [(4, .int (nI i)), (2, .int (nI r1)), (3, .int (nI r2)), (6, .int x6), (5, .int x5), (0, .ref 9), (1, .int (nI p))] [] μ := by
  have hH := zh_X3_splitsBeside
  intro n
  induction n with
  | zero =>
    intro i hi r1 r2 x5 x6 u1 u2 hg
    have hi : i = 34 := by omega
    subst hi
    refine z_rcs hc hH 2 (pc' := 11) (lv' := [(4, .int (nI 34)), (2, .int (nI r1)), (3, .int (nI r2)), (6, .int x6), (5, .int x5), (0, .ref 9), (1, .int (nI p))]) (st' := [.int 34, .int (nI 34)]) (μ' := μ) (by rfl) ?_
    refine zq_ic hc hH (by rfl) (tg := 78) (by rfl) (fun _ => ?_) (fun h9 => (zb_t (ge_nIt (n := 34) (i := 34) (by decide) (by decide)) h9).elim)
    refine z_rcs hc hH 1 (pc' := 79) (lv' := [(4, .int (nI 34)), (2, .int (nI r1)), (3, .int (nI r2)), (6, .int x6), (5, .int x5), (0, .ref 9), (1, .int (nI p))]) (st' := [.int 1]) (μ' := μ) (by rfl) ?_
    exact hr 0 79 _ _ _ (some (.int 1)) (by decide +kernel) (z_rx_ok hH (by rfl)) (⟨rfl, Or.inl ⟨rfl, hg.mpr rfl⟩⟩)
  | succ n ih =>
    intro i hi r1 r2 x5 x6 u1 u2 hg
    have hin : vp_in (nI i) 34 := vp_in_nI (by omega) (by decide)
    refine z_rcs hc hH 2 (pc' := 11) (lv' := [(4, .int (nI i)), (2, .int (nI r1)), (3, .int (nI r2)), (6, .int x6), (5, .int x5), (0, .ref 9), (1, .int (nI p))]) (st' := [.int 34, .int (nI i)]) (μ' := μ) (by rfl) ?_
    refine zq_ic hc hH (by rfl) (tg := 78) (by rfl) (fun h9 => (zb_t h9 (ge_nI (n := 34) (i := i) (by omega) (by decide))).elim) (fun _ => ?_)
    refine z_rcs hc hH 3 (pc' := 20) (lv' := [(4, .int (nI i)), (2, .int (nI r1)), (3, .int (nI r2)), (6, .int x6), (5, .int x5), (0, .ref 9), (1, .int (nI p))]) (st' := [.int (nI i), .ref 10]) (μ' := μ) (by rfl) ?_
    refine zq_iald hc hH (by rfl) 34 (by decide +kernel) (hin) ?_
    rw [nI_clamp (n := i) (by omega), (hw i (by omega)).1]
    refine z_rcs hc hH 2 (pc' := 24) (lv' := [(4, .int (nI i)), (2, .int (nI r1)), (3, .int (nI r2)), (6, .int x6), (5, .int x5), (0, .ref 9), (1, .int (nI p))]) (st' := [.int (nI p), .int (nI i), .int (nI (w i))]) (μ' := μ) (by rfl) ?_
    refine zq_ic hc hH (by rfl) (tg := 31) (by rfl) (fun h1 => ?_) (fun h1 => ?_)
    · have h1 := cm_ne.mp h1
      refine z_rcs hc hH 2 (pc' := 33) (lv' := [(4, .int (nI i)), (2, .int (nI r1)), (3, .int (nI r2)), (6, .int x6), (5, .int x5), (0, .ref 9), (1, .int (nI p))]) (st' := [.int ((nI (w i)) - 0)]) (μ' := μ) (by rfl) ?_
      have e : i ≠ p := fun q => h1 (by rw [q])
      have ev : sb2 w p i = w i := by unfold sb2; rw [if_neg e]
      rw [Int32.sub_zero, ← ev]
      exact sb33b d' Z hd μ P hc hr p (sb2 w p) n i r1 r2 _ _ (by omega) u1 u2 (by rw [ev]; have := (hw i (by omega)).2; omega) hg (fun x5 x6 r q1 q2 => ih (i + 1) (by omega) r r1 x5 x6 q1 u1 q2)
    · have h1 := cn_ne.mp h1
      refine z_rcs hc hH 3 (pc' := 33) (lv' := [(4, .int (nI i)), (2, .int (nI r1)), (3, .int (nI r2)), (6, .int x6), (5, .int x5), (0, .ref 9), (1, .int (nI p))]) (st' := [.int ((nI (w i)) - 2)]) (μ' := μ) (by rfl) ?_
      have e : i = p := (nI_eq (by omega) (by omega)).mp h1
      have ev : sb2 w p i = w i - 2 := by unfold sb2; rw [if_pos e]
      rw [l_2 (w i) (by have := (hw i (by omega)).2; omega) (by rw [e]; exact h2p), ← ev]
      exact sb33b d' Z hd μ P hc hr p (sb2 w p) n i r1 r2 _ _ (by omega) u1 u2 (by rw [ev]; have := (hw i (by omega)).2; omega) hg (fun x5 x6 r q1 q2 => ih (i + 1) (by omega) r r1 x5 x6 q1 u1 q2)
theorem fc_X3_splitsBeside (d : Nat) (hd : 3 ≤ d) (μ : zM) (w : Nat → Nat) (hw : RW μ 10 w) (p : Nat) (hp : p < 34) (h2p : 2 ≤ w p) : z_C d mi_X3_splitsBeside [.ref 9, .int (nI p)] μ (zB μ (gr (sb2 w p) 34 0 0 0 = true)) := by
  refine z_C_in (by decide) (by omega) (fun d' Z ed hc hr => ?_)
  have hH := zh_X3_splitsBeside
  refine z_rcs hc hH 6 (pc' := 7) (lv' := [(4, .int 0), (3, .int 0), (2, .int 0), (0, .ref 9), (1, .int (nI p))]) (st' := []) (μ' := μ) (by rfl) ?_
  show Z 0 7 [(4, .int (nI 0)), (3, .int (nI 0)), (2, .int (nI 0)), (0, .ref 9), (1, .int (nI p))] [] μ
  have hd' : 2 ≤ d' := by omega
  have hin : vp_in (nI 0) 34 := vp_in_nI (by omega) (by decide)
  refine z_rcs hc hH 2 (pc' := 11) (lv' := [(4, .int (nI 0)), (3, .int (nI 0)), (2, .int (nI 0)), (0, .ref 9), (1, .int (nI p))]) (st' := [.int 34, .int (nI 0)]) (μ' := μ) (by rfl) ?_
  refine zq_ic hc hH (by rfl) (tg := 78) (by rfl) (fun h9 => (zb_t h9 (ge_nI (n := 34) (i := 0) (by omega) (by decide))).elim) (fun _ => ?_)
  refine z_rcs hc hH 3 (pc' := 20) (lv' := [(4, .int (nI 0)), (3, .int (nI 0)), (2, .int (nI 0)), (0, .ref 9), (1, .int (nI p))]) (st' := [.int (nI 0), .ref 10]) (μ' := μ) (by rfl) ?_
  refine zq_iald hc hH (by rfl) 34 (by decide +kernel) (hin) ?_
  rw [nI_clamp (n := 0) (by omega), (hw 0 (by omega)).1]
  refine z_rcs hc hH 2 (pc' := 24) (lv' := [(4, .int (nI 0)), (3, .int (nI 0)), (2, .int (nI 0)), (0, .ref 9), (1, .int (nI p))]) (st' := [.int (nI p), .int (nI 0), .int (nI (w 0))]) (μ' := μ) (by rfl) ?_
  refine zq_ic hc hH (by rfl) (tg := 31) (by rfl) (fun h1 => ?_) (fun h1 => ?_)
  · have h1 := cm_ne.mp h1
    refine z_rcs hc hH 2 (pc' := 33) (lv' := [(4, .int (nI 0)), (3, .int (nI 0)), (2, .int (nI 0)), (0, .ref 9), (1, .int (nI p))]) (st' := [.int ((nI (w 0)) - 0)]) (μ' := μ) (by rfl) ?_
    have e : 0 ≠ p := fun q => h1 (by rw [q])
    have ev : sb2 w p 0 = w 0 := by unfold sb2; rw [if_neg e]
    rw [Int32.sub_zero, ← ev]
    exact sb33a d' Z hd' μ _ hc hr p (sb2 w p) 33 0 0 0 (by omega) (by decide) (by decide) (by rw [ev]; have := (hw 0 (by omega)).2; omega) Iff.rfl (fun x5 x6 r q1 q2 => sb7 d' Z hd' μ _ hc hr p w hw hp h2p 33 1 (by omega) r 0 x5 x6 q1 (by decide) q2)
  · have h1 := cn_ne.mp h1
    refine z_rcs hc hH 3 (pc' := 33) (lv' := [(4, .int (nI 0)), (3, .int (nI 0)), (2, .int (nI 0)), (0, .ref 9), (1, .int (nI p))]) (st' := [.int ((nI (w 0)) - 2)]) (μ' := μ) (by rfl) ?_
    have e : 0 = p := (nI_eq (by omega) (by omega)).mp h1
    have ev : sb2 w p 0 = w 0 - 2 := by unfold sb2; rw [if_pos e]
    rw [l_2 (w 0) (by have := (hw 0 (by omega)).2; omega) (by rw [e]; exact h2p), ← ev]
    exact sb33a d' Z hd' μ _ hc hr p (sb2 w p) 33 0 0 0 (by omega) (by decide) (by decide) (by rw [ev]; have := (hw 0 (by omega)).2; omega) Iff.rfl (fun x5 x6 r q1 q2 => sb7 d' Z hd' μ _ hc hr p w hw hp h2p 33 1 (by omega) r 0 x5 x6 q1 (by decide) q2)
theorem zh_X3_isSetsAndPair : zH mi_X3_isSetsAndPair zt_X3_isSetsAndPair 79 3 2 := hh_X3_isSetsAndPair
theorem fc_X3_isSetsAndPair (d : Nat) (hd : 4 ≤ d) (μ : zM) (w : Nat → Nat) (hw : RW μ 10 w) : z_C d mi_X3_isSetsAndPair [.ref 9] μ (zB μ (∃ p, p < 34 ∧ 2 ≤ w p ∧ gr (sb2 w p) 34 0 0 0 = true)) := by
  refine z_C_in (by decide) (by omega) (fun d' Z ed hc hr => ?_)
  have hH := zh_X3_isSetsAndPair
  have lp : ∀ (n i : Nat), i + n = 34 → (∀ q, q < i → ¬ (2 ≤ w q ∧ gr (sb2 w q) 34 0 0 0 = true)) → Z 0 2 [(1, .int (nI i)), (0, .ref 9)] [] μ := by
    intro n
    induction n with
    | zero =>
      intro i hi hn
      have hi : i = 34 := by omega
      subst hi
      refine z_rcs hc hH 2 (pc' := 5) (lv' := [(1, .int (nI 34)), (0, .ref 9)]) (st' := [.int 34, .int (nI 34)]) (μ' := μ) (by rfl) ?_
      refine zq_ic hc hH (by rfl) (tg := 34) (by rfl) (fun _ => ?_) (fun h9 => (zb_t (ge_nIt (n := 34) (i := 34) (by decide) (by decide)) h9).elim)
      refine z_rcs hc hH 1 (pc' := 35) (lv' := [(1, .int (nI 34)), (0, .ref 9)]) (st' := [.int 0]) (μ' := μ) (by rfl) ?_
      exact hr 0 35 _ _ _ (some (.int 0)) (by decide +kernel) (z_rx_ok hH (by rfl)) (⟨rfl, Or.inr ⟨rfl, fun ⟨q, q1, q2⟩ => hn q q1 q2⟩⟩)
    | succ n ih =>
      intro i hi hn
      have hin : vp_in (nI i) 34 := vp_in_nI (by omega) (by decide)
      have b5 := (hw i (by omega)).2
      refine z_rcs hc hH 2 (pc' := 5) (lv' := [(1, .int (nI i)), (0, .ref 9)]) (st' := [.int 34, .int (nI i)]) (μ' := μ) (by rfl) ?_
      refine zq_ic hc hH (by rfl) (tg := 34) (by rfl) (fun h9 => (zb_t h9 (ge_nI (n := 34) (i := i) (by omega) (by decide))).elim) (fun _ => ?_)
      refine z_rcs hc hH 3 (pc' := 13) (lv' := [(1, .int (nI i)), (0, .ref 9)]) (st' := [.int (nI i), .ref 10]) (μ' := μ) (by rfl) ?_
      refine zq_iald hc hH (by rfl) 34 (by decide +kernel) (hin) ?_
      rw [nI_clamp (n := i) (by omega), (hw i (by omega)).1]
      refine z_rcs hc hH 1 (pc' := 15) (lv' := [(1, .int (nI i)), (0, .ref 9)]) (st' := [.int 2, .int (nI (w i))]) (μ' := μ) (by rfl) ?_
      refine zq_ic hc hH (by rfl) (tg := 28) (by rfl) (fun h1 => ?_) (fun h1 => ?_)
      · have h1 := cm_lt.mp h1
        refine z_rcs hc hH 2 (pc' := 2) (lv' := [(1, .int ((nI i) + 1)), (0, .ref 9)]) (st' := []) (μ' := μ) (by rfl) ?_
        rw [nI_1]
        have n2 : ¬ 2 ≤ w i := fun q => by
          have z := h1
          rw [Int32.lt_iff_toInt_lt, nI_toInt (by omega)] at z
          have z : _ < (2 : Int) := z
          omega
        exact ih (i + 1) (by omega) (fun q q1 => if e : q = i then (by rw [e]; exact (fun q => n2 q.1)) else hn q (by omega))
      · have h1 := cn_lt.mp h1
        refine z_rcs hc hH 2 (pc' := 20) (lv' := [(1, .int (nI i)), (0, .ref 9)]) (st' := [.int (nI i), .ref 9]) (μ' := μ) (by rfl) ?_
        have h2 : 2 ≤ w i := by
          have z := h1
          rw [Int32.not_lt, Int32.le_iff_toInt_le, nI_toInt (by omega)] at z
          have z : (2 : Int) ≤ _ := z
          omega
        refine zq_call hc (z_cx_ok hH (by rfl)) (fc_X3_splitsBeside d' (by omega) μ w hw i (by omega) h2) (by decide +kernel) (fun r9 μ9 hq => ?_)
        obtain ⟨hμ9, hq⟩ := hq
        rw [hμ9]
        clear hμ9 μ9
        obtain ⟨rfl, hs⟩ | ⟨rfl, hs⟩ := hq
        · show Z 0 23 [(1, .int (nI i)), (0, .ref 9)] [.int 1] μ
          refine z_rcs hc hH 2 (pc' := 27) (lv' := [(1, .int (nI i)), (0, .ref 9)]) (st' := [.int 1]) (μ' := μ) (by rfl) ?_
          exact hr 0 27 _ _ _ (some (.int 1)) (by decide +kernel) (z_rx_ok hH (by rfl)) (⟨rfl, Or.inl ⟨rfl, i, by omega, h2, hs⟩⟩)
        · show Z 0 23 [(1, .int (nI i)), (0, .ref 9)] [.int 0] μ
          refine z_rcs hc hH 3 (pc' := 2) (lv' := [(1, .int ((nI i) + 1)), (0, .ref 9)]) (st' := []) (μ' := μ) (by rfl) ?_
          rw [nI_1]
          exact ih (i + 1) (by omega) (fun q q1 => if e : q = i then (by rw [e]; exact (fun q => hs q.2)) else hn q (by omega))
  refine z_rcs hc hH 2 (pc' := 2) (lv' := [(1, .int 0), (0, .ref 9)]) (st' := []) (μ' := μ) (by rfl) ?_
  exact lp 34 0 rfl (fun q hq => absurd hq (by omega))
theorem zh_X3_isSevenPairs : zH mi_X3_isSevenPairs zt_X3_isSevenPairs 79 3 2 := hh_X3_isSevenPairs
theorem fc_X3_isSevenPairs (d : Nat) (hd : 1 ≤ d) (μ : zM) (w : Nat → Nat) (hw : RW μ 10 w) : z_C d mi_X3_isSevenPairs [.ref 9] μ (zB μ ((∀ k, k < 34 → w k = 0 ∨ w k = 2) ∧ μ.1 9 4 = 0 ∧ μ.1 9 5 = 14)) := by
  refine z_C_in (by decide) (by omega) (fun d' Z ed hc hr => ?_)
  have hH := zh_X3_isSevenPairs
  have lp : ∀ (n i : Nat), i + n = 34 → (∀ q, q < i → w q = 0 ∨ w q = 2) → Z 0 2 [(1, .int (nI i)), (0, .ref 9)] [] μ := by
    intro n
    induction n with
    | zero =>
      intro i hi hn
      have hi : i = 34 := by omega
      subst hi
      refine z_rcs hc hH 2 (pc' := 5) (lv' := [(1, .int (nI 34)), (0, .ref 9)]) (st' := [.int 34, .int (nI 34)]) (μ' := μ) (by rfl) ?_
      refine zq_ic hc hH (by rfl) (tg := 35) (by rfl) (fun _ => ?_) (fun h9 => (zb_t (ge_nIt (n := 34) (i := 34) (by decide) (by decide)) h9).elim)
      refine z_rcs hc hH 2 (pc' := 39) (lv' := [(1, .int (nI 34)), (0, .ref 9)]) (st' := [.int (μ.1 9 4)]) (μ' := μ) (by rfl) ?_
      refine zq_if hc hH (by rfl) (tg := 55) (by rfl) (fun h1 => ?_) (fun h1 => ?_)
      · have h1 := cm_ne.mp h1
        refine z_rcs hc hH 1 (pc' := 56) (lv' := [(1, .int (nI 34)), (0, .ref 9)]) (st' := [.int 0]) (μ' := μ) (by rfl) ?_
        exact hr 0 56 _ _ _ (some (.int 0)) (by decide +kernel) (z_rx_ok hH (by rfl)) (⟨rfl, Or.inr ⟨rfl, fun q => h1 q.2.1⟩⟩)
      · have h1 := cn_ne.mp h1
        refine z_rcs hc hH 3 (pc' := 48) (lv' := [(1, .int (nI 34)), (0, .ref 9)]) (st' := [.int 14, .int (μ.1 9 5)]) (μ' := μ) (by rfl) ?_
        refine zq_ic hc hH (by rfl) (tg := 55) (by rfl) (fun h2 => ?_) (fun h2 => ?_)
        · have h2 := cm_ne.mp h2
          refine z_rcs hc hH 1 (pc' := 56) (lv' := [(1, .int (nI 34)), (0, .ref 9)]) (st' := [.int 0]) (μ' := μ) (by rfl) ?_
          exact hr 0 56 _ _ _ (some (.int 0)) (by decide +kernel) (z_rx_ok hH (by rfl)) (⟨rfl, Or.inr ⟨rfl, fun q => h2 q.2.2⟩⟩)
        · have h2 := cn_ne.mp h2
          refine z_rcs hc hH 2 (pc' := 56) (lv' := [(1, .int (nI 34)), (0, .ref 9)]) (st' := [.int 1]) (μ' := μ) (by rfl) ?_
          exact hr 0 56 _ _ _ (some (.int 1)) (by decide +kernel) (z_rx_ok hH (by rfl)) (⟨rfl, Or.inl ⟨rfl, hn, h1, h2⟩⟩)
    | succ n ih =>
      intro i hi hn
      have hin : vp_in (nI i) 34 := vp_in_nI (by omega) (by decide)
      have b5 := (hw i (by omega)).2
      refine z_rcs hc hH 2 (pc' := 5) (lv' := [(1, .int (nI i)), (0, .ref 9)]) (st' := [.int 34, .int (nI i)]) (μ' := μ) (by rfl) ?_
      refine zq_ic hc hH (by rfl) (tg := 35) (by rfl) (fun h9 => (zb_t h9 (ge_nI (n := 34) (i := i) (by omega) (by decide))).elim) (fun _ => ?_)
      refine z_rcs hc hH 3 (pc' := 13) (lv' := [(1, .int (nI i)), (0, .ref 9)]) (st' := [.int (nI i), .ref 10]) (μ' := μ) (by rfl) ?_
      refine zq_iald hc hH (by rfl) 34 (by decide +kernel) (hin) ?_
      rw [nI_clamp (n := i) (by omega), (hw i (by omega)).1]
      refine zq_if hc hH (by rfl) (tg := 29) (by rfl) (fun h1 => ?_) (fun h1 => ?_)
      · have h1 := cm_eq9.mp h1
        refine z_rcs hc hH 2 (pc' := 2) (lv' := [(1, .int ((nI i) + 1)), (0, .ref 9)]) (st' := []) (μ' := μ) (by rfl) ?_
        rw [nI_1]
        have e9 : w i = 0 := (nI_eq (by omega) (by omega)).mp h1
        exact ih (i + 1) (by omega) (fun q q1 => if e : q = i then (by rw [e]; exact Or.inl e9) else hn q (by omega))
      · have h1 := cn_eq.mp h1
        refine z_rcs hc hH 3 (pc' := 22) (lv' := [(1, .int (nI i)), (0, .ref 9)]) (st' := [.int (nI i), .ref 10]) (μ' := μ) (by rfl) ?_
        refine zq_iald hc hH (by rfl) 34 (by decide +kernel) (hin) ?_
        rw [nI_clamp (n := i) (by omega), (hw i (by omega)).1]
        refine z_rcs hc hH 1 (pc' := 24) (lv' := [(1, .int (nI i)), (0, .ref 9)]) (st' := [.int 2, .int (nI (w i))]) (μ' := μ) (by rfl) ?_
        refine zq_ic hc hH (by rfl) (tg := 29) (by rfl) (fun h2 => ?_) (fun h2 => ?_)
        · have h2 := cm_eq9.mp h2
          refine z_rcs hc hH 2 (pc' := 2) (lv' := [(1, .int ((nI i) + 1)), (0, .ref 9)]) (st' := []) (μ' := μ) (by rfl) ?_
          rw [nI_1]
          have e9 : w i = 2 := (nI_eq (by omega) (by omega)).mp h2
          exact ih (i + 1) (by omega) (fun q q1 => if e : q = i then (by rw [e]; exact Or.inr e9) else hn q (by omega))
        · have h2 := cn_eq.mp h2
          refine z_rcs hc hH 1 (pc' := 28) (lv' := [(1, .int (nI i)), (0, .ref 9)]) (st' := [.int 0]) (μ' := μ) (by rfl) ?_
          exact hr 0 28 _ _ _ (some (.int 0)) (by decide +kernel) (z_rx_ok hH (by rfl)) (⟨rfl, Or.inr ⟨rfl, fun q => (q.1 i (by omega)).elim (fun e => h1 (by rw [e]; rfl)) (fun e => h2 (by rw [e]; rfl))⟩⟩)
  refine z_rcs hc hH 2 (pc' := 2) (lv' := [(1, .int 0), (0, .ref 9)]) (st' := []) (μ' := μ) (by rfl) ?_
  exact lp 34 0 rfl (fun q hq => absurd hq (by omega))
theorem zh_X3_kinds : zH mi_X3_kinds zt_X3_kinds 79 3 4 := hh_X3_kinds
theorem fc_X3_kinds (d : Nat) (hd : 1 ≤ d) (μ : zM) (w : Nat → Nat) (hw : RW μ 11 w) : z_C d mi_X3_kinds [.ref 9] μ (zR μ (.long (kb (fun k => decide (0 < w k)) 34))) := by
  refine z_C_in (by decide) (by omega) (fun d' Z ed hc hr => ?_)
  have hH := zh_X3_kinds
  have lp : ∀ (n i : Nat), i + n = 34 → Z 0 4 [(3, .int (nI i)), (1, .long (kb (fun k => decide (0 < w k)) i)), (0, .ref 9)] [] μ := by
    intro n
    induction n with
    | zero =>
      intro i hi
      have hi : i = 34 := by omega
      subst hi
      refine z_rcs hc hH 2 (pc' := 7) (lv' := [(3, .int (nI 34)), (1, .long (kb (fun k => decide (0 < w k)) 34)), (0, .ref 9)]) (st' := [.int 34, .int (nI 34)]) (μ' := μ) (by rfl) ?_
      refine zq_ic hc hH (by rfl) (tg := 31) (by rfl) (fun _ => ?_) (fun h9 => (zb_t (ge_nIt (n := 34) (i := 34) (by decide) (by decide)) h9).elim)
      refine z_rcs hc hH 1 (pc' := 32) (lv' := [(3, .int (nI 34)), (1, .long (kb (fun k => decide (0 < w k)) 34)), (0, .ref 9)]) (st' := [.long (kb (fun k => decide (0 < w k)) 34)]) (μ' := μ) (by rfl) ?_
      exact hr 0 32 _ _ _ (some (.long (kb (fun k => decide (0 < w k)) 34))) (by decide +kernel) (z_rx_ok hH (by rfl)) (⟨rfl, rfl⟩)
    | succ n ih =>
      intro i hi
      have hin : vp_in (nI i) 34 := vp_in_nI (by omega) (by decide)
      have b5 := (hw i (by omega)).2
      have q := ih (i + 1) (by omega)
      have ek : kb (fun k => decide (0 < w k)) (i + 1) = if decide (0 < w i) = true then kb (fun k => decide (0 < w k)) i ||| ((1 : Int64) <<< ((nI i).toInt64 &&& 63)) else kb (fun k => decide (0 < w k)) i := rfl
      refine z_rcs hc hH 2 (pc' := 7) (lv' := [(3, .int (nI i)), (1, .long (kb (fun k => decide (0 < w k)) i)), (0, .ref 9)]) (st' := [.int 34, .int (nI i)]) (μ' := μ) (by rfl) ?_
      refine zq_ic hc hH (by rfl) (tg := 31) (by rfl) (fun h9 => (zb_t h9 (ge_nI (n := 34) (i := i) (by omega) (by decide))).elim) (fun _ => ?_)
      refine z_rcs hc hH 3 (pc' := 15) (lv' := [(3, .int (nI i)), (1, .long (kb (fun k => decide (0 < w k)) i)), (0, .ref 9)]) (st' := [.int (nI i), .ref 11]) (μ' := μ) (by rfl) ?_
      refine zq_iald hc hH (by rfl) 34 (by decide +kernel) (hin) ?_
      rw [nI_clamp (n := i) (by omega), (hw i (by omega)).1]
      refine zq_if hc hH (by rfl) (tg := 25) (by rfl) (fun h1 => ?_) (fun h1 => ?_)
      · have h1 := cm_le.mp h1
        refine z_rcs hc hH 2 (pc' := 4) (lv' := [(3, .int ((nI i) + 1)), (1, .long (kb (fun k => decide (0 < w k)) i)), (0, .ref 9)]) (st' := []) (μ' := μ) (by rfl) ?_
        rw [nI_1]
        have z := h1
        rw [Int32.le_iff_toInt_le, nI_toInt (by omega)] at z
        have z : ((w i : Nat) : Int) ≤ 0 := z
        rw [ek, if_neg (by rw [decide_eq_true_iff]; omega)] at q
        exact q
      · have h1 := cn_le.mp h1
        refine z_rcs hc hH 8 (pc' := 4) (lv' := [(3, .int ((nI i) + 1)), (1, .long ((kb (fun k => decide (0 < w k)) i) ||| (1 <<< ((nI i).toInt64 &&& 63)))), (0, .ref 9)]) (st' := []) (μ' := μ) (by rfl) ?_
        rw [nI_1]
        have z := h1
        rw [Int32.not_le, Int32.lt_iff_toInt_lt, nI_toInt (by omega)] at z
        have z : (0 : Int) < ((w i : Nat) : Int) := z
        rw [ek, if_pos (decide_eq_true (by omega))] at q
        exact q
  refine z_rcs hc hH 4 (pc' := 4) (lv' := [(3, .int 0), (1, .long 0), (0, .ref 9)]) (st' := []) (μ' := μ) (by rfl) ?_
  exact lp 34 0 rfl
theorem zh_X3_isThirteen : zH mi_X3_isThirteen zt_X3_isThirteen 79 3 1 := hh_X3_isThirteen
theorem lg_cmp0 {x y : Int64} : lg_cmp x y = 0 ↔ x = y := by
  unfold lg_cmp
  by_cases h : x > y
  · rw [if_pos h]
    exact ⟨fun q => absurd q (by decide), fun q => by rw [q] at h; exact absurd h (Int64.lt_irrefl)⟩
  · rw [if_neg h]
    by_cases h2 : x = y
    · rw [if_pos h2]; exact ⟨fun _ => h2, fun _ => rfl⟩
    · rw [if_neg h2]; exact ⟨fun q => absurd q (by decide), fun q => absurd q h2⟩
theorem kb_ends : (17113154305 : Int64) = kb eN 34 := by decide +kernel
theorem kb_13 {w : Nat → Nat} : (lg_cmp (kb (fun k => decide (0 < w k)) 34) 17113154305 = 0) ↔ ∀ k, k < 34 → (0 < w k ↔ eN k = true) := by
  rw [kb_ends]
  have e : ∀ x y : Int64, lg_cmp x y = 0 ↔ x = y := fun x y => lg_cmp0
  rw [e]
  constructor
  · intro h k hk
    have q := kb_inj h k hk
    rw [← q]
    exact (decide_eq_true_iff).symm
  · intro h
    exact kb_congr (fun k hk => by
      cases c : eN k with
      | true => exact decide_eq_true ((h k hk).mpr c)
      | false => exact decide_eq_false (fun q => by have := (h k hk).mp q; rw [c] at this; cases this))
theorem fc_X3_isThirteen (d : Nat) (hd : 2 ≤ d) (μ : zM) (w : Nat → Nat) (hw : μ.1 9 4 = 0 → RW μ 11 w) : z_C d mi_X3_isThirteen [.ref 9] μ (zB μ (μ.1 9 4 = 0 ∧ μ.1 9 5 = 14 ∧ ∀ k, k < 34 → (0 < w k ↔ eN k = true))) := by
  refine z_C_in (by decide) (by omega) (fun d' Z ed hc hr => ?_)
  have hH := zh_X3_isThirteen
  refine z_rcs hc hH 2 (pc' := 4) (lv' := [(0, .ref 9)]) (st' := [.int (μ.1 9 4)]) (μ' := μ) (by rfl) ?_
  refine zq_if hc hH (by rfl) (tg := 31) (by rfl) (fun h1 => ?_) (fun h1 => ?_)
  · have h1 := cm_ne.mp h1
    refine z_rcs hc hH 1 (pc' := 32) (lv' := [(0, .ref 9)]) (st' := [.int 0]) (μ' := μ) (by rfl) ?_
    exact hr 0 32 _ _ _ (some (.int 0)) (by decide +kernel) (z_rx_ok hH (by rfl)) (⟨rfl, Or.inr ⟨rfl, fun q => h1 q.1⟩⟩)
  · have h1 := cn_ne.mp h1
    refine z_rcs hc hH 3 (pc' := 13) (lv' := [(0, .ref 9)]) (st' := [.int 14, .int (μ.1 9 5)]) (μ' := μ) (by rfl) ?_
    refine zq_ic hc hH (by rfl) (tg := 31) (by rfl) (fun h2 => ?_) (fun h2 => ?_)
    · have h2 := cm_ne.mp h2
      refine z_rcs hc hH 1 (pc' := 32) (lv' := [(0, .ref 9)]) (st' := [.int 0]) (μ' := μ) (by rfl) ?_
      exact hr 0 32 _ _ _ (some (.int 0)) (by decide +kernel) (z_rx_ok hH (by rfl)) (⟨rfl, Or.inr ⟨rfl, fun q => h2 q.2.1⟩⟩)
    · have h2 := cn_ne.mp h2
      refine z_rcs hc hH 1 (pc' := 17) (lv' := [(0, .ref 9)]) (st' := [.ref 9]) (μ' := μ) (by rfl) ?_
      refine zq_call hc (z_cx_ok hH (by rfl)) (fc_X3_kinds d' (by omega) μ w (hw h1)) (by decide +kernel) (fun r9 μ9 hq => ?_)
      obtain ⟨hμ9, rfl⟩ := hq
      rw [hμ9]
      clear hμ9 μ9
      show Z 0 20 [(0, .ref 9)] [.long (kb (fun k => decide (0 < w k)) 34)] μ
      refine z_rcs hc hH 2 (pc' := 24) (lv' := [(0, .ref 9)]) (st' := [.int (lg_cmp (kb (fun k => decide (0 < w k)) 34) 17113154305)]) (μ' := μ) (by rfl) ?_
      refine zq_if hc hH (by rfl) (tg := 31) (by rfl) (fun h3 => ?_) (fun h3 => ?_)
      · have h3 := cm_ne.mp h3
        refine z_rcs hc hH 1 (pc' := 32) (lv' := [(0, .ref 9)]) (st' := [.int 0]) (μ' := μ) (by rfl) ?_
        exact hr 0 32 _ _ _ (some (.int 0)) (by decide +kernel) (z_rx_ok hH (by rfl)) (⟨rfl, Or.inr ⟨rfl, fun q => h3 (kb_13.mpr q.2.2)⟩⟩)
      · have h3 := cn_ne.mp h3
        refine z_rcs hc hH 2 (pc' := 32) (lv' := [(0, .ref 9)]) (st' := [.int 1]) (μ' := μ) (by rfl) ?_
        exact hr 0 32 _ _ _ (some (.int 1)) (by decide +kernel) (z_rx_ok hH (by rfl)) (⟨rfl, Or.inl ⟨rfl, h1, h2, kb_13.mp h3⟩⟩)
noncomputable def ad1 (w : Nat → Nat) (c : Nat) : Nat → Nat := fun j => if j = c then w j + 1 else w j
theorem RW_put {μ : zM} {r c : Nat} {w : Nat → Nat} (hr : r = 10 ∨ r = 11) (hc : c < 34) (h : RW μ r w) (h4 : w c ≤ 4) : RW (z_put μ (nI c) 1) r (ad1 w c) := by
  intro k hk
  have e := h k hk
  have ec : (nI c).toNatClampNeg = c := nI_clamp (by omega)
  unfold z_put ad1
  rw [z_ui_rd, if_neg (by omega), ec]
  rcases hr with rfl | rfl
  · rw [z_ui_rd, if_neg (by omega), z_ui_rd]
    by_cases q : k = c
    · rw [if_pos ⟨rfl, q⟩, if_pos q, ← q, e.1, nI_1]
      exact ⟨rfl, by rw [← q] at h4; omega⟩
    · rw [if_neg (fun z => q z.2), if_neg q]
      exact e
  · rw [z_ui_rd]
    by_cases q : k = c
    · rw [if_pos ⟨rfl, q⟩, if_pos q, ← q, e.1, nI_1]
      exact ⟨rfl, by rw [← q] at h4; omega⟩
    · rw [if_neg (fun z => q z.2), if_neg q, z_ui_rd, if_neg (by omega)]
      exact e
noncomputable def WX (μ : zM) (w : Nat → Nat) (q c : Nat) : Prop := μ.1 9 5 + 3 * μ.1 9 4 = 13 ∧ ¬ (4 : Int32) ≤ μ.1 11 c ∧ FU (ad1 w c) q
theorem put_94 (μ : zM) (k n : Int32) : (z_put μ k n).1 9 4 = μ.1 9 4 := by unfold z_put; rw [z_ui_rd, if_neg (by omega), z_ui_rd, if_neg (by omega), z_ui_rd, if_neg (by omega)]
theorem put_95 (μ : zM) (k n : Int32) : (z_put μ k n).1 9 5 = μ.1 9 5 + n := by unfold z_put; rw [z_ui_rd, if_pos ⟨rfl, rfl⟩]
theorem fx_X3_waitsFor (d : Nat) (hd : 6 ≤ d) (μ : zM) (w : Nat → Nat) (q c : Nat) (hw : RW μ 10 w) (h4 : ∀ k, k < 34 → w k ≤ 4) (hq : q ≤ 4) (e4 : μ.1 9 4 = nI q) (h11 : q = 0 → RW μ 11 w) (hcc : c < 34) : z_C d mi_X3_waitsFor [.ref 9, .int (nI c)] μ (zB μ (WX μ w q c)) := by
  refine z_C_in (by decide) (by omega) (fun d' Z ed hc hr => ?_)
  have hH := zh_X3_waitsFor
  have hH := zh_X3_waitsFor
  have hin : vp_in (nI c) 34 := vp_in_nI hcc (by decide)
  have hw1 := RW_put (Or.inl rfl) hcc hw (h4 c hcc)
  have q0 : (z_put μ (nI c) 1).1 9 4 = 0 → q = 0 := fun e => (nI_eq (by omega) (by omega)).mp ((e4.symm.trans (put_94 μ (nI c) 1).symm).trans e)
  have hw2 : (z_put μ (nI c) 1).1 9 4 = 0 → RW (z_put μ (nI c) 1) 11 (ad1 w c) := fun e => RW_put (Or.inr rfl) hcc (h11 (q0 e)) (h4 c hcc)
  refine z_rcs hc hH 1 (pc' := 1) (lv' := [(0, .ref 9), (1, .int (nI c))]) (st' := [.ref 9]) (μ' := μ) (by rfl) ?_
  refine zq_call hc (z_cx_ok hH (by rfl)) (fc_X3_size d' (by omega) μ) (by decide +kernel) (fun r9 μ9 hq => ?_)
  obtain ⟨hμ9, rfl⟩ := hq
  rw [hμ9]
  clear hμ9 μ9
  show Z 0 4 [(0, .ref 9), (1, .int (nI c))] [.int (μ.1 9 5 + 3 * μ.1 9 4)] μ
  refine z_rcs hc hH 1 (pc' := 6) (lv' := [(0, .ref 9), (1, .int (nI c))]) (st' := [.int 13, .int (μ.1 9 5 + 3 * μ.1 9 4)]) (μ' := μ) (by rfl) ?_
  refine zq_ic hc hH (by rfl) (tg := 26) (by rfl) (fun h1 => ?_) (fun h1 => ?_)
  · have h1 := cm_ne.mp h1
    refine z_rcs hc hH 1 (pc' := 27) (lv' := [(0, .ref 9), (1, .int (nI c))]) (st' := [.int 0]) (μ' := μ) (by rfl) ?_
    exact hr 0 27 _ _ _ (some (.int 0)) (by decide +kernel) (z_rx_ok hH (by rfl)) (⟨rfl, Or.inr ⟨rfl, fun z => h1 z.1⟩⟩)
  · have h1 := cn_ne.mp h1
    refine z_rcs hc hH 1 (pc' := 10) (lv' := [(0, .ref 9), (1, .int (nI c))]) (st' := [.int (nI c)]) (μ' := μ) (by rfl) ?_
    refine zq_call hc (z_cx_ok hH (by rfl)) (fc_X6_isKind d' (by omega) μ (nI c)) (by decide +kernel) (fun r9 μ9 hq => ?_)
    obtain ⟨hμ9, hq⟩ := hq
    rw [hμ9]
    clear hμ9 μ9
    obtain ⟨rfl, hk⟩ | ⟨rfl, hk⟩ := hq
    · show Z 0 13 [(0, .ref 9), (1, .int (nI c))] [.int 1] μ
      refine z_rcs hc hH 4 (pc' := 21) (lv' := [(0, .ref 9), (1, .int (nI c))]) (st' := [.int (nI c), .ref 11]) (μ' := μ) (by rfl) ?_
      refine zq_iald hc hH (by rfl) 34 (by decide +kernel) (hin) ?_
      refine z_rcs hc hH 1 (pc' := 23) (lv' := [(0, .ref 9), (1, .int (nI c))]) (st' := [.int 4, .int (μ.1 11 (nI c).toNatClampNeg)]) (μ' := μ) (by rfl) ?_
      refine zq_ic hc hH (by rfl) (tg := 28) (by rfl) (fun h2 => ?_) (fun h2 => ?_)
      · have h2 := cm_lt.mp h2
        refine z_rcs hc hH 3 (pc' := 31) (lv' := [(0, .ref 9), (1, .int (nI c))]) (st' := [.int 1, .int (nI c), .ref 9]) (μ' := μ) (by rfl) ?_
        refine zq_call hc (z_cx_ok hH (by rfl)) (fc_X3_put d' (by omega) μ (nI c) 1) (by decide +kernel) (fun r9 μ9 hq => ?_)
        obtain ⟨rfl, hq⟩ := hq
        obtain ⟨-, rfl⟩ := hq.resolve_right (fun q9 => q9.1 hin)
        show Z 0 34 [(0, .ref 9), (1, .int (nI c))] [] (z_put μ (nI c) 1)
        refine z_rcs hc hH 1 (pc' := 35) (lv' := [(0, .ref 9), (1, .int (nI c))]) (st' := [.ref 9]) (μ' := z_put μ (nI c) 1) (by rfl) ?_
        have z4 : q = 0 → (z_put μ (nI c) 1).1 9 4 = 0 := fun e => by rw [put_94, e4, e]; rfl
        have z5 : q = 0 → (z_put μ (nI c) 1).1 9 5 = 14 := fun e => by
          have z := h1
          rw [e4, e] at z
          have z : μ.1 9 5 + 3 * 0 = 13 := z
          rw [Int32.mul_zero, Int32.add_zero] at z
          rw [put_95, z]
          rfl
        refine zq_call hc (z_cx_ok hH (by rfl)) (fc_X3_isSevenPairs d' (by omega) (z_put μ (nI c) 1) (ad1 w c) hw1) (by decide +kernel) (fun r9 μ9 hq => ?_)
        obtain ⟨hμ9, hq⟩ := hq
        rw [hμ9]
        clear hμ9 μ9
        obtain ⟨rfl, h7⟩ | ⟨rfl, h7⟩ := hq
        · show Z 0 38 [(0, .ref 9), (1, .int (nI c))] [.int 1] (z_put μ (nI c) 1)
          refine z_rcs hc hH 7 (pc' := 64) (lv' := [(2, .int 1), (0, .ref 9), (1, .int (nI c))]) (st' := [.int 1, .int (nI c), .ref 9]) (μ' := z_put μ (nI c) 1) (by rfl) ?_
          refine zq_call hc (z_cx_ok hH (by rfl)) (fc_X3_take d' (by omega) (z_put μ (nI c) 1) (nI c) 1) (by decide +kernel) (fun r9 μ9 hq => ?_)
          obtain ⟨rfl, hq⟩ := hq
          obtain ⟨-, rfl⟩ := hq.resolve_right (fun q9 => q9.1 hin)
          rw [z_put_back]
          show Z 0 67 [(2, .int 1), (0, .ref 9), (1, .int (nI c))] [] μ
          refine z_rcs hc hH 1 (pc' := 68) (lv' := [(2, .int 1), (0, .ref 9), (1, .int (nI c))]) (st' := [.int 1]) (μ' := μ) (by rfl) ?_
          exact hr 0 68 _ _ _ (some (.int 1)) (by decide +kernel) (z_rx_ok hH (by rfl)) (⟨rfl, Or.inl ⟨rfl, h1, (by have z9 := h2; rw [nI_clamp (n := c) (by omega)] at z9; exact Int32.not_le.mpr z9), Or.inr ⟨q0 h7.2.1, Or.inl h7.1⟩⟩⟩)
        · show Z 0 38 [(0, .ref 9), (1, .int (nI c))] [.int 0] (z_put μ (nI c) 1)
          refine z_rcs hc hH 2 (pc' := 42) (lv' := [(0, .ref 9), (1, .int (nI c))]) (st' := [.ref 9]) (μ' := z_put μ (nI c) 1) (by rfl) ?_
          refine zq_call hc (z_cx_ok hH (by rfl)) (fc_X3_isThirteen d' (by omega) (z_put μ (nI c) 1) (ad1 w c) hw2) (by decide +kernel) (fun r9 μ9 hq => ?_)
          obtain ⟨hμ9, hq⟩ := hq
          rw [hμ9]
          clear hμ9 μ9
          obtain ⟨rfl, h13⟩ | ⟨rfl, h13⟩ := hq
          · show Z 0 45 [(0, .ref 9), (1, .int (nI c))] [.int 1] (z_put μ (nI c) 1)
            refine z_rcs hc hH 7 (pc' := 64) (lv' := [(2, .int 1), (0, .ref 9), (1, .int (nI c))]) (st' := [.int 1, .int (nI c), .ref 9]) (μ' := z_put μ (nI c) 1) (by rfl) ?_
            refine zq_call hc (z_cx_ok hH (by rfl)) (fc_X3_take d' (by omega) (z_put μ (nI c) 1) (nI c) 1) (by decide +kernel) (fun r9 μ9 hq => ?_)
            obtain ⟨rfl, hq⟩ := hq
            obtain ⟨-, rfl⟩ := hq.resolve_right (fun q9 => q9.1 hin)
            rw [z_put_back]
            show Z 0 67 [(2, .int 1), (0, .ref 9), (1, .int (nI c))] [] μ
            refine z_rcs hc hH 1 (pc' := 68) (lv' := [(2, .int 1), (0, .ref 9), (1, .int (nI c))]) (st' := [.int 1]) (μ' := μ) (by rfl) ?_
            exact hr 0 68 _ _ _ (some (.int 1)) (by decide +kernel) (z_rx_ok hH (by rfl)) (⟨rfl, Or.inl ⟨rfl, h1, (by have z9 := h2; rw [nI_clamp (n := c) (by omega)] at z9; exact Int32.not_le.mpr z9), Or.inr ⟨q0 h13.1, Or.inr h13.2.2⟩⟩⟩)
          · show Z 0 45 [(0, .ref 9), (1, .int (nI c))] [.int 0] (z_put μ (nI c) 1)
            refine z_rcs hc hH 2 (pc' := 49) (lv' := [(0, .ref 9), (1, .int (nI c))]) (st' := [.ref 9]) (μ' := z_put μ (nI c) 1) (by rfl) ?_
            refine zq_call hc (z_cx_ok hH (by rfl)) (fc_X3_isSetsAndPair d' (by omega) (z_put μ (nI c) 1) (ad1 w c) hw1) (by decide +kernel) (fun r9 μ9 hq => ?_)
            obtain ⟨hμ9, hq⟩ := hq
            rw [hμ9]
            clear hμ9 μ9
            obtain ⟨rfl, hs⟩ | ⟨rfl, hs⟩ := hq
            · show Z 0 52 [(0, .ref 9), (1, .int (nI c))] [.int 1] (z_put μ (nI c) 1)
              refine z_rcs hc hH 7 (pc' := 64) (lv' := [(2, .int 1), (0, .ref 9), (1, .int (nI c))]) (st' := [.int 1, .int (nI c), .ref 9]) (μ' := z_put μ (nI c) 1) (by rfl) ?_
              refine zq_call hc (z_cx_ok hH (by rfl)) (fc_X3_take d' (by omega) (z_put μ (nI c) 1) (nI c) 1) (by decide +kernel) (fun r9 μ9 hq => ?_)
              obtain ⟨rfl, hq⟩ := hq
              obtain ⟨-, rfl⟩ := hq.resolve_right (fun q9 => q9.1 hin)
              rw [z_put_back]
              show Z 0 67 [(2, .int 1), (0, .ref 9), (1, .int (nI c))] [] μ
              refine z_rcs hc hH 1 (pc' := 68) (lv' := [(2, .int 1), (0, .ref 9), (1, .int (nI c))]) (st' := [.int 1]) (μ' := μ) (by rfl) ?_
              exact hr 0 68 _ _ _ (some (.int 1)) (by decide +kernel) (z_rx_ok hH (by rfl)) (⟨rfl, Or.inl ⟨rfl, h1, (by have z9 := h2; rw [nI_clamp (n := c) (by omega)] at z9; exact Int32.not_le.mpr z9), Or.inl hs⟩⟩)
            · show Z 0 52 [(0, .ref 9), (1, .int (nI c))] [.int 0] (z_put μ (nI c) 1)
              refine z_rcs hc hH 6 (pc' := 64) (lv' := [(2, .int 0), (0, .ref 9), (1, .int (nI c))]) (st' := [.int 1, .int (nI c), .ref 9]) (μ' := z_put μ (nI c) 1) (by rfl) ?_
              refine zq_call hc (z_cx_ok hH (by rfl)) (fc_X3_take d' (by omega) (z_put μ (nI c) 1) (nI c) 1) (by decide +kernel) (fun r9 μ9 hq => ?_)
              obtain ⟨rfl, hq⟩ := hq
              obtain ⟨-, rfl⟩ := hq.resolve_right (fun q9 => q9.1 hin)
              rw [z_put_back]
              show Z 0 67 [(2, .int 0), (0, .ref 9), (1, .int (nI c))] [] μ
              refine z_rcs hc hH 1 (pc' := 68) (lv' := [(2, .int 0), (0, .ref 9), (1, .int (nI c))]) (st' := [.int 0]) (μ' := μ) (by rfl) ?_
              exact hr 0 68 _ _ _ (some (.int 0)) (by decide +kernel) (z_rx_ok hH (by rfl)) (⟨rfl, Or.inr ⟨rfl, fun z => z.2.2.elim hs (fun y => y.2.elim (fun u => h7 ⟨u, z4 y.1, z5 y.1⟩) (fun u => h13 ⟨z4 y.1, z5 y.1, u⟩))⟩⟩)
      · have h2 := cn_lt.mp h2
        refine z_rcs hc hH 1 (pc' := 27) (lv' := [(0, .ref 9), (1, .int (nI c))]) (st' := [.int 0]) (μ' := μ) (by rfl) ?_
        exact hr 0 27 _ _ _ (some (.int 0)) (by decide +kernel) (z_rx_ok hH (by rfl)) (⟨rfl, Or.inr ⟨rfl, fun z => z.2.1 (by have z9 := h2; rw [nI_clamp (n := c) (by omega)] at z9; rw [Int32.not_lt] at z9; exact z9)⟩⟩)
    · show Z 0 13 [(0, .ref 9), (1, .int (nI c))] [.int 0] μ
      refine z_rcs hc hH 2 (pc' := 27) (lv' := [(0, .ref 9), (1, .int (nI c))]) (st' := [.int 0]) (μ' := μ) (by rfl) ?_
      exact hr 0 27 _ _ _ (some (.int 0)) (by decide +kernel) (z_rx_ok hH (by rfl)) (⟨rfl, Or.inr ⟨rfl, fun _ => hk hin⟩⟩)
noncomputable def wb (P : Nat → Prop) (k : Nat) : Bool := @decide (P k) (Classical.propDecidable _)
theorem wb_t {P : Nat → Prop} {k : Nat} (h : P k) : wb P k = true := @decide_eq_true _ (Classical.propDecidable _) h
theorem wb_f {P : Nat → Prop} {k : Nat} (h : ¬ P k) : wb P k = false := @decide_eq_false _ (Classical.propDecidable _) h
theorem wb_iff {P Q : Nat → Prop} {k : Nat} (h : P k ↔ Q k) : wb P k = wb Q k := by
  by_cases c : P k
  · rw [wb_t c, wb_t (h.mp c)]
  · rw [wb_f c, wb_f (fun q => c (h.mpr q))]
theorem fx_X3_waiting (d : Nat) (hd : 7 ≤ d) (μ : zM) (w : Nat → Nat) (q : Nat) (hw : RW μ 10 w) (h4 : ∀ k, k < 34 → w k ≤ 4) (hq : q ≤ 4) (e4 : μ.1 9 4 = nI q) (h11 : q = 0 → RW μ 11 w) : z_C d mi_X3_waiting [.ref 9] μ (zR μ (.long (kb (wb (WX μ w q)) 34))) := by
  refine z_C_in (by decide) (by omega) (fun d' Z ed hc hr => ?_)
  have hH := zh_X3_waiting
  have hH := zh_X3_waiting
  have lp : ∀ (n i : Nat), i + n = 34 → Z 0 4 [(3, .int (nI i)), (1, .long (kb (wb (WX μ w q)) i)), (0, .ref 9)] [] μ := by
    intro n
    induction n with
    | zero =>
      intro i hi
      have hi : i = 34 := by omega
      subst hi
      refine z_rcs hc hH 2 (pc' := 7) (lv' := [(3, .int (nI 34)), (1, .long (kb (wb (WX μ w q)) 34)), (0, .ref 9)]) (st' := [.int 34, .int (nI 34)]) (μ' := μ) (by rfl) ?_
      refine zq_ic hc hH (by rfl) (tg := 30) (by rfl) (fun _ => ?_) (fun h9 => (zb_t (ge_nIt (n := 34) (i := 34) (by decide) (by decide)) h9).elim)
      refine z_rcs hc hH 1 (pc' := 31) (lv' := [(3, .int (nI 34)), (1, .long (kb (wb (WX μ w q)) 34)), (0, .ref 9)]) (st' := [.long (kb (wb (WX μ w q)) 34)]) (μ' := μ) (by rfl) ?_
      exact hr 0 31 _ _ _ (some (.long (kb (wb (WX μ w q)) 34))) (by decide +kernel) (z_rx_ok hH (by rfl)) (⟨rfl, rfl⟩)
    | succ n ih =>
      intro i hi
      have q9 := ih (i + 1) (by omega)
      have ek : kb (wb (WX μ w q)) (i + 1) = if wb (WX μ w q) i = true then kb (wb (WX μ w q)) i ||| ((1 : Int64) <<< ((nI i).toInt64 &&& 63)) else kb (wb (WX μ w q)) i := rfl
      refine z_rcs hc hH 2 (pc' := 7) (lv' := [(3, .int (nI i)), (1, .long (kb (wb (WX μ w q)) i)), (0, .ref 9)]) (st' := [.int 34, .int (nI i)]) (μ' := μ) (by rfl) ?_
      refine zq_ic hc hH (by rfl) (tg := 30) (by rfl) (fun h9 => (zb_t h9 (ge_nI (n := 34) (i := i) (by omega) (by decide))).elim) (fun _ => ?_)
      refine z_rcs hc hH 2 (pc' := 12) (lv' := [(3, .int (nI i)), (1, .long (kb (wb (WX μ w q)) i)), (0, .ref 9)]) (st' := [.int (nI i), .ref 9]) (μ' := μ) (by rfl) ?_
      refine zq_call hc (z_cx_ok hH (by rfl)) (fx_X3_waitsFor d' (by omega) μ w q i hw h4 hq e4 h11 (by omega)) (by decide +kernel) (fun r9 μ9 hq => ?_)
      obtain ⟨hμ9, hq⟩ := hq
      rw [hμ9]
      clear hμ9 μ9
      obtain ⟨rfl, hx⟩ | ⟨rfl, hx⟩ := hq
      · show Z 0 15 [(3, .int (nI i)), (1, .long (kb (wb (WX μ w q)) i)), (0, .ref 9)] [.int 1] μ
        refine z_rcs hc hH 9 (pc' := 4) (lv' := [(3, .int ((nI i) + 1)), (1, .long ((kb (wb (WX μ w q)) i) ||| (1 <<< ((nI i).toInt64 &&& 63)))), (0, .ref 9)]) (st' := []) (μ' := μ) (by rfl) ?_
        rw [nI_1]
        rw [ek, if_pos (wb_t hx)] at q9
        exact q9
      · show Z 0 15 [(3, .int (nI i)), (1, .long (kb (wb (WX μ w q)) i)), (0, .ref 9)] [.int 0] μ
        refine z_rcs hc hH 3 (pc' := 4) (lv' := [(3, .int ((nI i) + 1)), (1, .long (kb (wb (WX μ w q)) i)), (0, .ref 9)]) (st' := []) (μ' := μ) (by rfl) ?_
        rw [nI_1]
        rw [ek, if_neg (by rw [wb_f hx]; decide)] at q9
        exact q9
  refine z_rcs hc hH 4 (pc' := 4) (lv' := [(3, .int 0), (1, .long 0), (0, .ref 9)]) (st' := []) (μ' := μ) (by rfl) ?_
  exact lp 34 0 rfl
theorem fx_X6_deskWaits (d : Nat) (hd : 8 ≤ d) (μ : zM) (w : Nat → Nat) (q : Nat) (hw : RW μ 10 w) (h4 : ∀ k, k < 34 → w k ≤ 4) (hq : q ≤ 4) (e4 : μ.1 9 4 = nI q) (h11 : q = 0 → RW μ 11 w) : z_C d mi_X6_deskWaits [.ref 0] μ (zR μ (.long (kb (wb (WX μ w q)) 34))) := by
  refine z_C_in (by decide) (by omega) (fun d' Z ed hc hr => ?_)
  have hH := zh_X6_deskWaits
  have hH := zh_X6_deskWaits
  refine z_rcs hc hH 2 (pc' := 4) (lv' := [(0, .ref 0)]) (st' := [.ref 9]) (μ' := μ) (by rfl) ?_
  refine zq_call hc (z_cx_ok hH (by rfl)) (fx_X3_waiting d' (by omega) μ w q hw h4 hq e4 h11) (by decide +kernel) (fun r9 μ9 hq => ?_)
  obtain ⟨hμ9, rfl⟩ := hq
  rw [hμ9]
  clear hμ9 μ9
  show Z 0 7 [(0, .ref 0)] [.long (kb (wb (WX μ w q)) 34)] μ
  exact hr 0 7 _ _ _ (some (.long (kb (wb (WX μ w q)) 34))) (by decide +kernel) (z_rx_ok hH (by rfl)) (⟨rfl, rfl⟩)
/-! the reference: how tiles fall apart, exactly -/
set_option maxRecDepth 8000
noncomputable abbrev mdS : List (Nat × Nat) := [(50, 18), (51, 9999), (54, 9999), (55, 9999)]
noncomputable def FL (μ μ' : zM) (B : Prop) : Prop := (B → μ'.1 50 18 = 1) ∧ (¬ B → μ'.1 50 18 = μ.1 50 18)
theorem FL.tr {μ μ1 μ2 : zM} {A B : Prop} (h1 : FL μ μ1 A) (h2 : FL μ1 μ2 B) : FL μ μ2 (A ∨ B) := by
  refine ⟨fun q => ?_, fun q => ?_⟩
  · by_cases b : B
    · exact h2.1 b
    · rw [h2.2 b]; exact h1.1 (q.resolve_right b)
  · rw [h2.2 (fun b => q (Or.inr b)), h1.2 (fun a => q (Or.inl a))]
theorem FL.iff {μ μ1 : zM} {A B : Prop} (h : FL μ μ1 A) (e : A ↔ B) : FL μ μ1 B := ⟨fun q => h.1 (e.mpr q), fun q => h.2 (fun a => q (e.mp a))⟩
noncomputable def SU (μ μ' : zM) (B : Prop) : Prop := (∀ j, μ'.1 51 j = μ.1 51 j) ∧ a_Fz mdS μ μ' ∧ a_H μ' ∧ FL μ μ' B
theorem SU_rf {μ : zM} {B : Prop} (h : a_H μ) (hb : ¬ B) : SU μ μ B := ⟨fun _ => rfl, a_Fz_rf _ _, h, fun q => absurd q hb, fun _ => rfl⟩
theorem SU.tr {μ μ1 μ2 : zM} {A B : Prop} (h1 : SU μ μ1 A) (h2 : SU μ1 μ2 B) : SU μ μ2 (A ∨ B) := ⟨fun j => (h2.1 j).trans (h1.1 j), a_Fz_tr (by decide +kernel) h1.2.1 h2.2.1, h2.2.2.1, h1.2.2.2.tr h2.2.2.2⟩
theorem SU.iff {μ μ1 : zM} {A B : Prop} (h : SU μ μ1 A) (e : A ↔ B) : SU μ μ1 B := ⟨h.1, h.2.1, h.2.2.1, h.2.2.2.iff e⟩
theorem SU.rw {μ μ' : zM} {B : Prop} {w : Nat → Nat} (h : SU μ μ' B) (hw : RW μ 51 w) : RW μ' 51 w := fun k hk => by rw [h.1]; exact hw k hk
theorem s_3 : ∀ a, a < 6 → 3 ≤ a → nI a - 3 = nI (a - 3) := by decide +kernel
theorem s_1 : ∀ a, a < 6 → 1 ≤ a → nI a - 1 = nI (a - 1) := by decide +kernel
theorem s_4 : ∀ q, q ≤ 4 → 4 - nI q = nI (4 - q) := by decide +kernel
theorem zh_X7_sets : zH mi_X7_sets zt_X7_sets 79 7 7 := hh_X7_sets
theorem st3 (d' : Nat) (Z : zK) (μ : zM) (B : Prop) (hc : z_clo z_x0 mi_X7_sets (z_C d') Z) (hr : z_ret mi_X7_sets (fun r μ' => r = none ∧ SU μ μ' B) Z) (m md q k : Nat) (x1 x6 pr : Int32) (hm : md + (m + 1) + q = 4) (hk : k < 34) (ih : ∀ (μ : zM) (w : Nat → Nat) (fr md last q : Nat) (pr : Int32), a_H μ → RW μ 51 w → μ.1 50 4 = nI q → md + m + q = 4 → fr ≤ 34 → (∀ k, k < 34 → ((0 < md ∧ μ.1 54 (md - 1) = 0 ∧ μ.1 55 (md - 1) = nI k) ↔ last = k + 1)) → z_C d' mi_X7_sets [.ref 50, .int (nI fr), .int (nI md), .int pr, .int 0] μ (fun r μ' => r = none ∧ SU μ μ' (dc m w fr last))) (μ0 : zM) (w : Nat → Nat) (hH0 : a_H μ0) (hw : RW μ0 51 w) (e4 : μ0.1 50 4 = nI q) (h3 : 3 ≤ w k) (K : ∀ μ3, SU μ0 μ3 (dc m (sub3 w k) k 0) → Z 0 207 [(6, .int x6), (5, .int (nI k)), (0, .ref 50), (1, .int x1), (2, .int (nI md)), (3, .int pr), (4, .int 0)] [] μ3) : Z 0 158 [(6, .int x6), (5, .int (nI k)), (0, .ref 50), (1, .int x1), (2, .int (nI md)), (3, .int pr), (4, .int 0)] [] μ0 := by
  have hH := zh_X7_sets
  have ink : vp_in (nI k) 34 := vp_in_nI hk (by decide)
  have inm : vp_in (nI md) 5 := vp_in_nI (by omega) (by decide)
  have ek : (nI k).toNatClampNeg = k := nI_clamp (by omega)
  have em : (nI md).toNatClampNeg = md := nI_clamp (by omega)
  have wk := hw k hk
  refine z_rcs hc hH 4 (pc' := 165) (lv' := [(6, .int x6), (5, .int (nI k)), (0, .ref 50), (1, .int x1), (2, .int (nI md)), (3, .int pr), (4, .int 0)]) (st' := [.int (nI k), .ref 51, .int (nI k), .ref 51]) (μ' := μ0) (by rfl) ?_
  refine zq_iald hc hH (by rfl) 34 (by decide +kernel) (ink) ?_
  rw [ek, wk.1]
  refine z_rcs hc hH 2 (pc' := 168) (lv' := [(6, .int x6), (5, .int (nI k)), (0, .ref 50), (1, .int x1), (2, .int (nI md)), (3, .int pr), (4, .int 0)]) (st' := [.int ((nI (w k)) - 3), .int (nI k), .ref 51]) (μ' := μ0) (by rfl) ?_
  rw [s_3 (w k) (by omega) h3]
  refine zq_iast hc hH (by rfl) 34 (by decide +kernel) (ink) ?_
  refine z_rcs hc hH 4 (pc' := 175) (lv' := [(6, .int x6), (5, .int (nI k)), (0, .ref 50), (1, .int x1), (2, .int (nI md)), (3, .int pr), (4, .int 0)]) (st' := [.int 1, .int (nI md), .ref 54]) (μ' := z_ui μ0 51 ((nI k).toNatClampNeg) (nI (w k - 3))) (by rfl) ?_
  refine zq_iast hc hH (by rfl) 5 (by decide +kernel) (inm) ?_
  refine z_rcs hc hH 4 (pc' := 183) (lv' := [(6, .int x6), (5, .int (nI k)), (0, .ref 50), (1, .int x1), (2, .int (nI md)), (3, .int pr), (4, .int 0)]) (st' := [.int (nI k), .int (nI md), .ref 55]) (μ' := z_ui (z_ui μ0 51 ((nI k).toNatClampNeg) (nI (w k - 3))) 54 ((nI md).toNatClampNeg) 1) (by rfl) ?_
  refine zq_iast hc hH (by rfl) 5 (by decide +kernel) (inm) ?_
  rw [ek, em]
  have f1 : a_Fz mdS μ0 (z_ui (z_ui (z_ui μ0 51 k (nI (w k - 3))) 54 md 1) 55 md (nI k)) := a_Fz_ui (a_Fz_ui (a_Fz_ui (a_Fz_rf _ _) (a_mda_md (by decide +kernel) _)) (a_mda_md (by decide +kernel) _)) (a_mda_md (by decide +kernel) _)
  have H1 : a_H (z_ui (z_ui (z_ui μ0 51 k (nI (w k - 3))) 54 md 1) 55 md (nI k)) := a_H_ui (a_H_ui (a_H_ui hH0 (bI_top _)) (bI_top _)) (bI_top _)
  have r51 : ∀ j, (z_ui (z_ui (z_ui μ0 51 k (nI (w k - 3))) 54 md 1) 55 md (nI k)).1 51 j = if j = k then nI (w k - 3) else μ0.1 51 j := fun j => by
    rw [z_ui_rd, if_neg (by omega), z_ui_rd, if_neg (by omega), z_ui_rd]
    by_cases e : j = k
    · rw [if_pos ⟨rfl, e⟩, if_pos e]
    · rw [if_neg (fun z => e z.2), if_neg e]
  have c54 : (z_ui (z_ui (z_ui μ0 51 k (nI (w k - 3))) 54 md 1) 55 md (nI k)).1 54 md = 1 := by rw [z_ui_rd, if_neg (by omega), z_ui_rd, if_pos ⟨rfl, rfl⟩]
  have e18 : (z_ui (z_ui (z_ui μ0 51 k (nI (w k - 3))) 54 md 1) 55 md (nI k)).1 50 18 = μ0.1 50 18 := by rw [z_ui_rd, if_neg (by omega), z_ui_rd, if_neg (by omega), z_ui_rd, if_neg (by omega)]
  generalize z_ui (z_ui (z_ui μ0 51 k (nI (w k - 3))) 54 md 1) 55 md (nI k) = μ1 at f1 H1 r51 c54 e18 ⊢
  have w1 : RW μ1 51 (sub3 w k) := fun j hj => by
    rw [r51]; unfold sub3
    by_cases e : j = k
    · rw [if_pos e, if_pos e, e]; exact ⟨rfl, by omega⟩
    · rw [if_neg e, if_neg e]; exact hw j hj
  refine z_rcs hc hH 7 (pc' := 193) (lv' := [(6, .int x6), (5, .int (nI k)), (0, .ref 50), (1, .int x1), (2, .int (nI md)), (3, .int pr), (4, .int 0)]) (st' := [.int 0, .int pr, .int ((nI md) + 1), .int (nI k), .ref 50]) (μ' := μ1) (by rfl) ?_
  rw [nI_1]
  refine zq_call hc (z_cx_ok hH (by rfl)) (ih μ1 (sub3 w k) k (md + 1) 0 q pr H1 w1 ((a_Fz_at f1 50 4 (by decide +kernel)).trans e4) (by omega) (by omega) (fun j hj => ⟨fun z => absurd z.2.1 (by rw [Nat.add_sub_cancel, c54]; decide), fun z => absurd z (by omega)⟩)) (by decide +kernel) (fun r2 μ2 hq => ?_)
  obtain ⟨rfl, hs⟩ := hq
  show Z 0 196 [(6, .int x6), (5, .int (nI k)), (0, .ref 50), (1, .int x1), (2, .int (nI md)), (3, .int pr), (4, .int 0)] [] μ2
  refine z_rcs hc hH 4 (pc' := 203) (lv' := [(6, .int x6), (5, .int (nI k)), (0, .ref 50), (1, .int x1), (2, .int (nI md)), (3, .int pr), (4, .int 0)]) (st' := [.int (nI k), .ref 51, .int (nI k), .ref 51]) (μ' := μ2) (by rfl) ?_
  refine zq_iald hc hH (by rfl) 34 (by decide +kernel) (ink) ?_
  rw [ek, hs.1, r51, if_pos rfl]
  refine z_rcs hc hH 2 (pc' := 206) (lv' := [(6, .int x6), (5, .int (nI k)), (0, .ref 50), (1, .int x1), (2, .int (nI md)), (3, .int pr), (4, .int 0)]) (st' := [.int ((nI (w k - 3)) + 3), .int (nI k), .ref 51]) (μ' := μ2) (by rfl) ?_
  rw [show nI (w k - 3) + 3 = nI (w k) from (nI_add (w k - 3) 3).trans (by rw [show w k - 3 + 3 = w k by omega])]
  refine zq_iast hc hH (by rfl) 34 (by decide +kernel) (ink) ?_
  rw [ek]
  refine K _ ⟨fun j => ?_, a_Fz_ui (a_Fz_tr (by decide +kernel) f1 hs.2.1) (a_mda_md (by decide +kernel) _), a_H_ui hs.2.2.1 (bI_top _), ?_⟩
  · rw [z_ui_rd]
    by_cases e : j = k
    · rw [if_pos ⟨rfl, e⟩, e, wk.1]
    · rw [if_neg (fun z => e z.2), hs.1, r51, if_neg e]
  · refine ⟨fun z => ?_, fun z => ?_⟩
    · rw [z_ui_rd, if_neg (by omega)]; exact hs.2.2.2.1 z
    · rw [z_ui_rd, if_neg (by omega), hs.2.2.2.2 z, e18]
theorem stR (d' : Nat) (Z : zK) (μ : zM) (B : Prop) (hc : z_clo z_x0 mi_X7_sets (z_C d') Z) (hr : z_ret mi_X7_sets (fun r μ' => r = none ∧ SU μ μ' B) Z) (m md q k : Nat) (x1 x6 pr : Int32) (hm : md + (m + 1) + q = 4) (hk : k < 34) (ih : ∀ (μ : zM) (w : Nat → Nat) (fr md last q : Nat) (pr : Int32), a_H μ → RW μ 51 w → μ.1 50 4 = nI q → md + m + q = 4 → fr ≤ 34 → (∀ k, k < 34 → ((0 < md ∧ μ.1 54 (md - 1) = 0 ∧ μ.1 55 (md - 1) = nI k) ↔ last = k + 1)) → z_C d' mi_X7_sets [.ref 50, .int (nI fr), .int (nI md), .int pr, .int 0] μ (fun r μ' => r = none ∧ SU μ μ' (dc m w fr last))) (μ0 : zM) (w : Nat → Nat) (hH0 : a_H μ0) (hw : RW μ0 51 w) (e4 : μ0.1 50 4 = nI q) (hk2 : k + 2 < 34) (h0 : 1 ≤ w k) (h1 : 1 ≤ w (k + 1)) (h2 : 1 ≤ w (k + 2)) (K : ∀ μ3, SU μ0 μ3 (dc m (subr w k) k (k + 1)) → Z 0 340 [(6, .int x6), (5, .int (nI k)), (0, .ref 50), (1, .int x1), (2, .int (nI md)), (3, .int pr), (4, .int 0)] [] μ3) : Z 0 239 [(6, .int x6), (5, .int (nI k)), (0, .ref 50), (1, .int x1), (2, .int (nI md)), (3, .int pr), (4, .int 0)] [] μ0 := by
  have hH := zh_X7_sets
  have ink : vp_in (nI k) 34 := vp_in_nI hk (by decide)
  have inm : vp_in (nI md) 5 := vp_in_nI (by omega) (by decide)
  have in1 : vp_in (nI (k + 1)) 34 := vp_in_nI (by omega) (by decide)
  have in2 : vp_in (nI (k + 2)) 34 := vp_in_nI (by omega) (by decide)
  have ek : (nI k).toNatClampNeg = k := nI_clamp (by omega)
  have em : (nI md).toNatClampNeg = md := nI_clamp (by omega)
  have ek1 : (nI (k + 1)).toNatClampNeg = k + 1 := nI_clamp (by omega)
  have ek2 : (nI (k + 2)).toNatClampNeg = k + 2 := nI_clamp (by omega)
  have a2 : nI k + 2 = nI (k + 2) := nI_add k 2
  have wk := hw k hk
  have wk1 := hw (k + 1) (by omega)
  have wk2 := hw (k + 2) (by omega)
  refine z_rcs hc hH 4 (pc' := 246) (lv' := [(6, .int x6), (5, .int (nI k)), (0, .ref 50), (1, .int x1), (2, .int (nI md)), (3, .int pr), (4, .int 0)]) (st' := [.int (nI k), .ref 51, .int (nI k), .ref 51]) (μ' := μ0) (by rfl) ?_
  refine zq_iald hc hH (by rfl) 34 (by decide +kernel) (ink) ?_
  rw [ek, wk.1]
  refine z_rcs hc hH 2 (pc' := 249) (lv' := [(6, .int x6), (5, .int (nI k)), (0, .ref 50), (1, .int x1), (2, .int (nI md)), (3, .int pr), (4, .int 0)]) (st' := [.int ((nI (w k)) - 1), .int (nI k), .ref 51]) (μ' := μ0) (by rfl) ?_
  rw [s_1 (w (k)) (by omega) h0]
  refine zq_iast hc hH (by rfl) 34 (by decide +kernel) (ink) ?_
  rw [ek]
  have g1 : ∀ j, (z_ui μ0 51 k (nI (w k - 1))).1 51 j = if j = k then nI (w k - 1) else μ0.1 51 j := fun j => by
    rw [z_ui_rd]
    by_cases e : j = k
    · rw [if_pos ⟨rfl, e⟩, if_pos e]
    · rw [if_neg (fun z => e z.2), if_neg e]
  have F1 : a_Fz mdS μ0 (z_ui μ0 51 k (nI (w k - 1))) := a_Fz_ui (a_Fz_rf _ _) (a_mda_md (by decide +kernel) _)
  have H1 : a_H (z_ui μ0 51 k (nI (w k - 1))) := a_H_ui hH0 (bI_top _)
  have E1 : (z_ui μ0 51 k (nI (w k - 1))).1 50 18 = μ0.1 50 18 := by rw [z_ui_rd, if_neg (by omega)]
  generalize z_ui μ0 51 k (nI (w k - 1)) = ν1 at g1 F1 H1 E1 ⊢
  refine z_rcs hc hH 5 (pc' := 258) (lv' := [(6, .int x6), (5, .int (nI k)), (0, .ref 50), (1, .int x1), (2, .int (nI md)), (3, .int pr), (4, .int 0)]) (st' := [.int ((nI k) + 1), .ref 51]) (μ' := ν1) (by rfl) ?_
  rw [nI_1]
  refine z_rcs hc hH 1 (pc' := 259) (lv' := [(6, .int x6), (5, .int (nI k)), (0, .ref 50), (1, .int x1), (2, .int (nI md)), (3, .int pr), (4, .int 0)]) (st' := [.int (nI (k + 1)), .ref 51, .int (nI (k + 1)), .ref 51]) (μ' := ν1) (by rfl) ?_
  refine zq_iald hc hH (by rfl) 34 (by decide +kernel) (in1) ?_
  rw [ek1, g1, if_neg (by omega), wk1.1]
  refine z_rcs hc hH 2 (pc' := 262) (lv' := [(6, .int x6), (5, .int (nI k)), (0, .ref 50), (1, .int x1), (2, .int (nI md)), (3, .int pr), (4, .int 0)]) (st' := [.int ((nI (w (k + 1))) - 1), .int (nI (k + 1)), .ref 51]) (μ' := ν1) (by rfl) ?_
  rw [s_1 (w (k + 1)) (by omega) h1]
  refine zq_iast hc hH (by rfl) 34 (by decide +kernel) (in1) ?_
  rw [ek1]
  have g2 : ∀ j, (z_ui ν1 51 (k + 1) (nI (w (k + 1) - 1))).1 51 j = if j = k + 1 then nI (w (k + 1) - 1) else ν1.1 51 j := fun j => by
    rw [z_ui_rd]
    by_cases e : j = k + 1
    · rw [if_pos ⟨rfl, e⟩, if_pos e]
    · rw [if_neg (fun z => e z.2), if_neg e]
  have F2 : a_Fz mdS μ0 (z_ui ν1 51 (k + 1) (nI (w (k + 1) - 1))) := a_Fz_ui F1 (a_mda_md (by decide +kernel) _)
  have H2 : a_H (z_ui ν1 51 (k + 1) (nI (w (k + 1) - 1))) := a_H_ui H1 (bI_top _)
  have E2 : (z_ui ν1 51 (k + 1) (nI (w (k + 1) - 1))).1 50 18 = μ0.1 50 18 := by rw [z_ui_rd, if_neg (by omega), E1]
  generalize z_ui ν1 51 (k + 1) (nI (w (k + 1) - 1)) = ν2 at g2 F2 H2 E2 ⊢
  refine z_rcs hc hH 5 (pc' := 271) (lv' := [(6, .int x6), (5, .int (nI k)), (0, .ref 50), (1, .int x1), (2, .int (nI md)), (3, .int pr), (4, .int 0)]) (st' := [.int ((nI k) + 2), .ref 51]) (μ' := ν2) (by rfl) ?_
  rw [a2]
  refine z_rcs hc hH 1 (pc' := 272) (lv' := [(6, .int x6), (5, .int (nI k)), (0, .ref 50), (1, .int x1), (2, .int (nI md)), (3, .int pr), (4, .int 0)]) (st' := [.int (nI (k + 2)), .ref 51, .int (nI (k + 2)), .ref 51]) (μ' := ν2) (by rfl) ?_
  refine zq_iald hc hH (by rfl) 34 (by decide +kernel) (in2) ?_
  rw [ek2, g2, if_neg (by omega), g1, if_neg (by omega), wk2.1]
  refine z_rcs hc hH 2 (pc' := 275) (lv' := [(6, .int x6), (5, .int (nI k)), (0, .ref 50), (1, .int x1), (2, .int (nI md)), (3, .int pr), (4, .int 0)]) (st' := [.int ((nI (w (k + 2))) - 1), .int (nI (k + 2)), .ref 51]) (μ' := ν2) (by rfl) ?_
  rw [s_1 (w (k + 2)) (by omega) h2]
  refine zq_iast hc hH (by rfl) 34 (by decide +kernel) (in2) ?_
  rw [ek2]
  have g3 : ∀ j, (z_ui ν2 51 (k + 2) (nI (w (k + 2) - 1))).1 51 j = if j = k + 2 then nI (w (k + 2) - 1) else ν2.1 51 j := fun j => by
    rw [z_ui_rd]
    by_cases e : j = k + 2
    · rw [if_pos ⟨rfl, e⟩, if_pos e]
    · rw [if_neg (fun z => e z.2), if_neg e]
  have F3 : a_Fz mdS μ0 (z_ui ν2 51 (k + 2) (nI (w (k + 2) - 1))) := a_Fz_ui F2 (a_mda_md (by decide +kernel) _)
  have H3 : a_H (z_ui ν2 51 (k + 2) (nI (w (k + 2) - 1))) := a_H_ui H2 (bI_top _)
  have E3 : (z_ui ν2 51 (k + 2) (nI (w (k + 2) - 1))).1 50 18 = μ0.1 50 18 := by rw [z_ui_rd, if_neg (by omega), E2]
  generalize z_ui ν2 51 (k + 2) (nI (w (k + 2) - 1)) = ν3 at g3 F3 H3 E3 ⊢
  refine z_rcs hc hH 4 (pc' := 282) (lv' := [(6, .int x6), (5, .int (nI k)), (0, .ref 50), (1, .int x1), (2, .int (nI md)), (3, .int pr), (4, .int 0)]) (st' := [.int 0, .int (nI md), .ref 54]) (μ' := ν3) (by rfl) ?_
  refine zq_iast hc hH (by rfl) 5 (by decide +kernel) (inm) ?_
  refine z_rcs hc hH 4 (pc' := 290) (lv' := [(6, .int x6), (5, .int (nI k)), (0, .ref 50), (1, .int x1), (2, .int (nI md)), (3, .int pr), (4, .int 0)]) (st' := [.int (nI k), .int (nI md), .ref 55]) (μ' := z_ui (ν3) 54 ((nI md).toNatClampNeg) 0) (by rfl) ?_
  refine zq_iast hc hH (by rfl) 5 (by decide +kernel) (inm) ?_
  rw [em]
  have f1 : a_Fz mdS μ0 (z_ui (z_ui ν3 54 md 0) 55 md (nI k)) := a_Fz_ui (a_Fz_ui F3 (a_mda_md (by decide +kernel) _)) (a_mda_md (by decide +kernel) _)
  have H4 : a_H (z_ui (z_ui ν3 54 md 0) 55 md (nI k)) := a_H_ui (a_H_ui H3 (bI_top _)) (bI_top _)
  have r51 : ∀ j, (z_ui (z_ui ν3 54 md 0) 55 md (nI k)).1 51 j = ν3.1 51 j := fun j => by rw [z_ui_rd, if_neg (by omega), z_ui_rd, if_neg (by omega)]
  have c54 : (z_ui (z_ui ν3 54 md 0) 55 md (nI k)).1 54 md = 0 := by rw [z_ui_rd, if_neg (by omega), z_ui_rd, if_pos ⟨rfl, rfl⟩]
  have c55 : (z_ui (z_ui ν3 54 md 0) 55 md (nI k)).1 55 md = nI k := by rw [z_ui_rd, if_pos ⟨rfl, rfl⟩]
  have e18 : (z_ui (z_ui ν3 54 md 0) 55 md (nI k)).1 50 18 = μ0.1 50 18 := by rw [z_ui_rd, if_neg (by omega), z_ui_rd, if_neg (by omega), E3]
  generalize z_ui (z_ui ν3 54 md 0) 55 md (nI k) = μ1 at f1 H4 r51 c54 c55 e18 ⊢
  have w1 : RW μ1 51 (subr w k) := fun j hj => by
    rw [r51, g3, g2, g1]; unfold subr
    by_cases c0 : j = k
    · rw [if_neg (by omega), if_neg (by omega), if_pos c0, if_pos (Or.inl c0), c0]; exact ⟨rfl, by omega⟩
    · by_cases c1 : j = k + 1
      · rw [if_neg (by omega), if_pos c1, if_pos (Or.inr (Or.inl c1)), c1]; exact ⟨rfl, by omega⟩
      · by_cases c2 : j = k + 2
        · rw [if_pos c2, if_pos (Or.inr (Or.inr c2)), c2]; exact ⟨rfl, by omega⟩
        · rw [if_neg c2, if_neg c1, if_neg c0, if_neg (by omega)]; exact hw j hj
  refine z_rcs hc hH 7 (pc' := 300) (lv' := [(6, .int x6), (5, .int (nI k)), (0, .ref 50), (1, .int x1), (2, .int (nI md)), (3, .int pr), (4, .int 0)]) (st' := [.int 0, .int pr, .int ((nI md) + 1), .int (nI k), .ref 50]) (μ' := μ1) (by rfl) ?_
  rw [nI_1]
  refine zq_call hc (z_cx_ok hH (by rfl)) (ih μ1 (subr w k) k (md + 1) (k + 1) q pr H4 w1 ((a_Fz_at f1 50 4 (by decide +kernel)).trans e4) (by omega) (by omega) (fun j hj => ⟨fun z => by rw [Nat.add_sub_cancel, c55] at z; have := (nI_eq (by omega) (by omega)).mp z.2.2; omega, fun z => ⟨by omega, by rw [Nat.add_sub_cancel, c54], by rw [Nat.add_sub_cancel, c55, show j = k by omega]⟩⟩)) (by decide +kernel) (fun r2 μ2 hq => ?_)
  obtain ⟨rfl, hs⟩ := hq
  have R2 : ∀ j, μ2.1 51 j = ν3.1 51 j := fun j => (hs.1 j).trans (r51 j)
  show Z 0 303 [(6, .int x6), (5, .int (nI k)), (0, .ref 50), (1, .int x1), (2, .int (nI md)), (3, .int pr), (4, .int 0)] [] μ2
  refine z_rcs hc hH 4 (pc' := 310) (lv' := [(6, .int x6), (5, .int (nI k)), (0, .ref 50), (1, .int x1), (2, .int (nI md)), (3, .int pr), (4, .int 0)]) (st' := [.int (nI k), .ref 51, .int (nI k), .ref 51]) (μ' := μ2) (by rfl) ?_
  refine zq_iald hc hH (by rfl) 34 (by decide +kernel) (ink) ?_
  rw [ek, R2, g3, if_neg (by omega), g2, if_neg (by omega), g1, if_pos rfl]
  refine z_rcs hc hH 2 (pc' := 313) (lv' := [(6, .int x6), (5, .int (nI k)), (0, .ref 50), (1, .int x1), (2, .int (nI md)), (3, .int pr), (4, .int 0)]) (st' := [.int ((nI (w (k) - 1)) + 1), .int (nI k), .ref 51]) (μ' := μ2) (by rfl) ?_
  rw [show nI (w (k) - 1) + 1 = nI (w (k)) from (nI_add (w (k) - 1) 1).trans (by rw [show w (k) - 1 + 1 = w (k) by omega])]
  refine zq_iast hc hH (by rfl) 34 (by decide +kernel) (ink) ?_
  rw [ek]
  have u1 : ∀ j, (z_ui μ2 51 (k) (nI (w (k)))).1 51 j = if j = k then nI (w (k)) else μ2.1 51 j := fun j => by
    rw [z_ui_rd]
    by_cases e : j = k
    · rw [if_pos ⟨rfl, e⟩, if_pos e]
    · rw [if_neg (fun z => e z.2), if_neg e]
  have Fu1 : a_Fz mdS μ0 (z_ui μ2 51 (k) (nI (w (k)))) := a_Fz_ui (a_Fz_tr (by decide +kernel) f1 hs.2.1) (a_mda_md (by decide +kernel) _)
  have Hu1 : a_H (z_ui μ2 51 (k) (nI (w (k)))) := a_H_ui hs.2.2.1 (bI_top _)
  have Eu1 : (z_ui μ2 51 (k) (nI (w (k)))).1 50 18 = μ2.1 50 18 := by rw [z_ui_rd, if_neg (by omega)]
  generalize z_ui μ2 51 (k) (nI (w (k))) = ν4 at u1 Fu1 Hu1 Eu1 ⊢
  refine z_rcs hc hH 5 (pc' := 322) (lv' := [(6, .int x6), (5, .int (nI k)), (0, .ref 50), (1, .int x1), (2, .int (nI md)), (3, .int pr), (4, .int 0)]) (st' := [.int ((nI k) + 1), .ref 51]) (μ' := ν4) (by rfl) ?_
  rw [nI_1]
  refine z_rcs hc hH 1 (pc' := 323) (lv' := [(6, .int x6), (5, .int (nI k)), (0, .ref 50), (1, .int x1), (2, .int (nI md)), (3, .int pr), (4, .int 0)]) (st' := [.int (nI (k + 1)), .ref 51, .int (nI (k + 1)), .ref 51]) (μ' := ν4) (by rfl) ?_
  refine zq_iald hc hH (by rfl) 34 (by decide +kernel) (in1) ?_
  rw [ek1, u1, if_neg (by omega), R2, g3, if_neg (by omega), g2, if_pos rfl]
  refine z_rcs hc hH 2 (pc' := 326) (lv' := [(6, .int x6), (5, .int (nI k)), (0, .ref 50), (1, .int x1), (2, .int (nI md)), (3, .int pr), (4, .int 0)]) (st' := [.int ((nI (w (k + 1) - 1)) + 1), .int (nI (k + 1)), .ref 51]) (μ' := ν4) (by rfl) ?_
  rw [show nI (w (k + 1) - 1) + 1 = nI (w (k + 1)) from (nI_add (w (k + 1) - 1) 1).trans (by rw [show w (k + 1) - 1 + 1 = w (k + 1) by omega])]
  refine zq_iast hc hH (by rfl) 34 (by decide +kernel) (in1) ?_
  rw [ek1]
  have u2 : ∀ j, (z_ui ν4 51 (k + 1) (nI (w (k + 1)))).1 51 j = if j = k + 1 then nI (w (k + 1)) else ν4.1 51 j := fun j => by
    rw [z_ui_rd]
    by_cases e : j = k + 1
    · rw [if_pos ⟨rfl, e⟩, if_pos e]
    · rw [if_neg (fun z => e z.2), if_neg e]
  have Fu2 : a_Fz mdS μ0 (z_ui ν4 51 (k + 1) (nI (w (k + 1)))) := a_Fz_ui Fu1 (a_mda_md (by decide +kernel) _)
  have Hu2 : a_H (z_ui ν4 51 (k + 1) (nI (w (k + 1)))) := a_H_ui Hu1 (bI_top _)
  have Eu2 : (z_ui ν4 51 (k + 1) (nI (w (k + 1)))).1 50 18 = μ2.1 50 18 := by rw [z_ui_rd, if_neg (by omega), Eu1]
  generalize z_ui ν4 51 (k + 1) (nI (w (k + 1))) = ν5 at u2 Fu2 Hu2 Eu2 ⊢
  refine z_rcs hc hH 5 (pc' := 335) (lv' := [(6, .int x6), (5, .int (nI k)), (0, .ref 50), (1, .int x1), (2, .int (nI md)), (3, .int pr), (4, .int 0)]) (st' := [.int ((nI k) + 2), .ref 51]) (μ' := ν5) (by rfl) ?_
  rw [a2]
  refine z_rcs hc hH 1 (pc' := 336) (lv' := [(6, .int x6), (5, .int (nI k)), (0, .ref 50), (1, .int x1), (2, .int (nI md)), (3, .int pr), (4, .int 0)]) (st' := [.int (nI (k + 2)), .ref 51, .int (nI (k + 2)), .ref 51]) (μ' := ν5) (by rfl) ?_
  refine zq_iald hc hH (by rfl) 34 (by decide +kernel) (in2) ?_
  rw [ek2, u2, if_neg (by omega), u1, if_neg (by omega), R2, g3, if_pos rfl]
  refine z_rcs hc hH 2 (pc' := 339) (lv' := [(6, .int x6), (5, .int (nI k)), (0, .ref 50), (1, .int x1), (2, .int (nI md)), (3, .int pr), (4, .int 0)]) (st' := [.int ((nI (w (k + 2) - 1)) + 1), .int (nI (k + 2)), .ref 51]) (μ' := ν5) (by rfl) ?_
  rw [show nI (w (k + 2) - 1) + 1 = nI (w (k + 2)) from (nI_add (w (k + 2) - 1) 1).trans (by rw [show w (k + 2) - 1 + 1 = w (k + 2) by omega])]
  refine zq_iast hc hH (by rfl) 34 (by decide +kernel) (in2) ?_
  rw [ek2]
  have u3 : ∀ j, (z_ui ν5 51 (k + 2) (nI (w (k + 2)))).1 51 j = if j = k + 2 then nI (w (k + 2)) else ν5.1 51 j := fun j => by
    rw [z_ui_rd]
    by_cases e : j = k + 2
    · rw [if_pos ⟨rfl, e⟩, if_pos e]
    · rw [if_neg (fun z => e z.2), if_neg e]
  have Fu3 : a_Fz mdS μ0 (z_ui ν5 51 (k + 2) (nI (w (k + 2)))) := a_Fz_ui Fu2 (a_mda_md (by decide +kernel) _)
  have Hu3 : a_H (z_ui ν5 51 (k + 2) (nI (w (k + 2)))) := a_H_ui Hu2 (bI_top _)
  have Eu3 : (z_ui ν5 51 (k + 2) (nI (w (k + 2)))).1 50 18 = μ2.1 50 18 := by rw [z_ui_rd, if_neg (by omega), Eu2]
  generalize z_ui ν5 51 (k + 2) (nI (w (k + 2))) = ν6 at u3 Fu3 Hu3 Eu3 ⊢
  refine K _ ⟨fun j => ?_, Fu3, Hu3, ?_⟩
  · rw [u3, u2, u1, R2, g3, g2, g1]
    by_cases c0 : j = k
    · rw [if_neg (by omega), if_neg (by omega), if_pos c0, c0, wk.1]
    · by_cases c1 : j = k + 1
      · rw [if_neg (by omega), if_pos c1, c1, wk1.1]
      · by_cases c2 : j = k + 2
        · rw [if_pos c2, c2, wk2.1]
        · rw [if_neg c2, if_neg c1, if_neg c0, if_neg c2, if_neg c1, if_neg c0]
  · refine ⟨fun z => ?_, fun z => ?_⟩
    · rw [Eu3]; exact hs.2.2.2.1 z
    · rw [Eu3, hs.2.2.2.2 z, e18]
theorem se16 (d' : Nat) (Z : zK) (μ : zM) (B : Prop) (hc : z_clo z_x0 mi_X7_sets (z_C d') Z) (hr : z_ret mi_X7_sets (fun r μ' => r = none ∧ SU μ μ' B) Z) (md : Nat) (x1 pr : Int32) (w : Nat → Nat) (hH0 : a_H μ) (hw : RW μ 51 w) (hB : B ↔ ∀ k, k < 34 → w k = 0) : ∀ n i, i + n = 34 → ∀ x : Int32, (x = 1 ∧ ∀ j, j < i → w j = 0) ∨ (x = 0 ∧ ∃ j, j < 34 ∧ w j ≠ 0) → Z 0 16 [(6, .int (nI i)), (5, .int x), (0, .ref 50), (1, .int x1), (2, .int (nI md)), (3, .int pr), (4, .int 0)] [] μ := by
  have hH := zh_X7_sets
  intro n
  induction n with
  | zero =>
    intro i hi x hx
    have hi : i = 34 := by omega
    subst hi
    rcases hx with ⟨rfl, hz⟩ | ⟨rfl, j, hj, hz⟩
    · skip
      refine z_rcs hc hH 2 (pc' := 20) (lv' := [(6, .int (nI 34)), (5, .int 1), (0, .ref 50), (1, .int x1), (2, .int (nI md)), (3, .int pr), (4, .int 0)]) (st' := [.int 34, .int (nI 34)]) (μ' := μ) (by rfl) ?_
      refine zq_ic hc hH (by rfl) (tg := 51) (by rfl) (fun _ => ?_) (fun h9 => (zb_t (ge_nIt (n := 34) (i := 34) (by decide) (by decide)) h9).elim)
      refine z_rcs hc hH 7 (pc' := 72) (lv' := [(6, .int (nI 34)), (5, .int 1), (0, .ref 50), (1, .int x1), (2, .int (nI md)), (3, .int pr), (4, .int 0)]) (st' := []) (μ' := z_ui μ 50 18 1) (by rfl) ?_
      exact hr 0 72 _ _ _ none (by decide +kernel) (by rfl) (⟨rfl, fun j => by rw [z_ui_rd, if_neg (by omega)], a_Fz_ui (a_Fz_rf _ _) (by decide +kernel), a_H_ui hH0 ⟨by decide, by decide⟩, fun _ => by rw [z_ui_rd, if_pos ⟨rfl, rfl⟩], fun q => absurd (hB.mpr hz) q⟩)
    · skip
      refine z_rcs hc hH 2 (pc' := 20) (lv' := [(6, .int (nI 34)), (5, .int 0), (0, .ref 50), (1, .int x1), (2, .int (nI md)), (3, .int pr), (4, .int 0)]) (st' := [.int 34, .int (nI 34)]) (μ' := μ) (by rfl) ?_
      refine zq_ic hc hH (by rfl) (tg := 51) (by rfl) (fun _ => ?_) (fun h9 => (zb_t (ge_nIt (n := 34) (i := 34) (by decide) (by decide)) h9).elim)
      refine z_rcs hc hH 2 (pc' := 56) (lv' := [(6, .int (nI 34)), (5, .int 0), (0, .ref 50), (1, .int x1), (2, .int (nI md)), (3, .int pr), (4, .int 0)]) (st' := []) (μ' := μ) (by rfl) ?_
      exact hr 0 56 _ _ _ none (by decide +kernel) (by rfl) (⟨rfl, SU_rf hH0 (fun q => hz (hB.mp q j hj))⟩)
  | succ n ih =>
    intro i hi x hx
    have hin : vp_in (nI i) 34 := vp_in_nI (by omega) (by decide)
    have b5 := hw i (by omega)
    rcases hx with ⟨rfl, hz⟩ | ⟨rfl, hz⟩
    · skip
      refine z_rcs hc hH 2 (pc' := 20) (lv' := [(6, .int (nI i)), (5, .int 1), (0, .ref 50), (1, .int x1), (2, .int (nI md)), (3, .int pr), (4, .int 0)]) (st' := [.int 34, .int (nI i)]) (μ' := μ) (by rfl) ?_
      refine zq_ic hc hH (by rfl) (tg := 51) (by rfl) (fun h9 => (zb_t h9 (ge_nI (n := 34) (i := i) (by omega) (by decide))).elim) (fun _ => ?_)
      refine z_rcs hc hH 5 (pc' := 34) (lv' := [(6, .int (nI i)), (5, .int 1), (0, .ref 50), (1, .int x1), (2, .int (nI md)), (3, .int pr), (4, .int 0)]) (st' := [.int (nI i), .ref 51]) (μ' := μ) (by rfl) ?_
      refine zq_iald hc hH (by rfl) 34 (by decide +kernel) (hin) ?_
      rw [nI_clamp (n := i) (by omega), b5.1]
      refine zq_if hc hH (by rfl) (tg := 42) (by rfl) (fun h1 => ?_) (fun h1 => ?_)
      · have h1 := cm_ne.mp h1
        refine z_rcs hc hH 4 (pc' := 16) (lv' := [(6, .int ((nI i) + 1)), (5, .int 0), (0, .ref 50), (1, .int x1), (2, .int (nI md)), (3, .int pr), (4, .int 0)]) (st' := []) (μ' := μ) (by rfl) ?_
        rw [nI_1]
        exact ih (i + 1) (by omega) 0 (Or.inr ⟨rfl, i, by omega, fun e => h1 (by rw [e]; rfl)⟩)
      · have h1 := cn_ne.mp h1
        refine z_rcs hc hH 5 (pc' := 16) (lv' := [(6, .int ((nI i) + 1)), (5, .int 1), (0, .ref 50), (1, .int x1), (2, .int (nI md)), (3, .int pr), (4, .int 0)]) (st' := []) (μ' := μ) (by rfl) ?_
        rw [nI_1]
        exact ih (i + 1) (by omega) 1 (Or.inl ⟨rfl, fun j hj => if e : j = i then (by rw [e]; exact (nI_eq (by omega) (by omega)).mp h1) else hz j (by omega)⟩)
    · skip
      refine z_rcs hc hH 2 (pc' := 20) (lv' := [(6, .int (nI i)), (5, .int 0), (0, .ref 50), (1, .int x1), (2, .int (nI md)), (3, .int pr), (4, .int 0)]) (st' := [.int 34, .int (nI i)]) (μ' := μ) (by rfl) ?_
      refine zq_ic hc hH (by rfl) (tg := 51) (by rfl) (fun h9 => (zb_t h9 (ge_nI (n := 34) (i := i) (by omega) (by decide))).elim) (fun _ => ?_)
      refine z_rcs hc hH 6 (pc' := 16) (lv' := [(6, .int ((nI i) + 1)), (5, .int 0), (0, .ref 50), (1, .int x1), (2, .int (nI md)), (3, .int pr), (4, .int 0)]) (st' := []) (μ' := μ) (by rfl) ?_
      rw [nI_1]
      exact ih (i + 1) (by omega) 0 (Or.inr ⟨rfl, hz⟩)
theorem s340 (d' : Nat) (Z : zK) (μ : zM) (B : Prop) (hc : z_clo z_x0 mi_X7_sets (z_C d') Z) (hr : z_ret mi_X7_sets (fun r μ' => r = none ∧ SU μ μ' B) Z) (md k : Nat) (x1 x6 pr : Int32) (μ4 : zM) (h : SU μ μ4 B) : Z 0 340 [(6, .int x6), (5, .int (nI k)), (0, .ref 50), (1, .int x1), (2, .int (nI md)), (3, .int pr), (4, .int 0)] [] μ4 := hr 0 340 _ _ _ none (by decide +kernel) (by rfl) ⟨rfl, h⟩
theorem s207 (d' : Nat) (Z : zK) (μ : zM) (B : Prop) (hc : z_clo z_x0 mi_X7_sets (z_C d') Z) (hr : z_ret mi_X7_sets (fun r μ' => r = none ∧ SU μ μ' B) Z) (m md q k last : Nat) (x1 pr : Int32) (hd : 1 ≤ d') (hm : md + (m + 1) + q = 4) (hk : k < 34) (ih : ∀ (μ : zM) (w : Nat → Nat) (fr md last q : Nat) (pr : Int32), a_H μ → RW μ 51 w → μ.1 50 4 = nI q → md + m + q = 4 → fr ≤ 34 → (∀ k, k < 34 → ((0 < md ∧ μ.1 54 (md - 1) = 0 ∧ μ.1 55 (md - 1) = nI k) ↔ last = k + 1)) → z_C d' mi_X7_sets [.ref 50, .int (nI fr), .int (nI md), .int pr, .int 0] μ (fun r μ' => r = none ∧ SU μ μ' (dc m w fr last))) (w : Nat → Nat) (hH0 : a_H μ) (hw : RW μ 51 w) (e4 : μ.1 50 4 = nI q) (hwk : w k ≠ 0) (hB : B ↔ ((3 ≤ w k ∧ last ≠ k + 1 ∧ dc m (sub3 w k) k 0) ∨ (rs k ∧ 0 < w (k + 1) ∧ 0 < w (k + 2) ∧ dc m (subr w k) k (k + 1)))) (x6 : Int32) (μ3 : zM) (hS : SU μ μ3 (3 ≤ w k ∧ last ≠ k + 1 ∧ dc m (sub3 w k) k 0)) : Z 0 207 [(6, .int x6), (5, .int (nI k)), (0, .ref 50), (1, .int x1), (2, .int (nI md)), (3, .int pr), (4, .int 0)] [] μ3 := by
  have hH := zh_X7_sets
  have hw3 := hS.rw hw
  have e43 : μ3.1 50 4 = nI q := (a_Fz_at hS.2.1 50 4 (by decide +kernel)).trans e4
  refine z_rcs hc hH 1 (pc' := 209) (lv' := [(6, .int x6), (5, .int (nI k)), (0, .ref 50), (1, .int x1), (2, .int (nI md)), (3, .int pr), (4, .int 0)]) (st' := [.int (nI k)]) (μ' := μ3) (by rfl) ?_
  refine zq_call hc (z_cx_ok hH (by rfl)) (fc_X7_isRun d' (by omega) μ3 (nI k)) (by decide +kernel) (fun r9 μ9 hq => ?_)
  obtain ⟨hμ9, hq⟩ := hq
  rw [hμ9]
  clear hμ9 μ9
  rw [sr_rs k hk] at hq
  obtain ⟨rfl, hk9⟩ | ⟨rfl, hk9⟩ := hq
  · show Z 0 212 [(6, .int x6), (5, .int (nI k)), (0, .ref 50), (1, .int x1), (2, .int (nI md)), (3, .int pr), (4, .int 0)] [.int 1] μ3
    have k27 := hk9.1
    have in1 : vp_in (nI (k + 1)) 34 := vp_in_nI (by omega) (by decide)
    have in2 : vp_in (nI (k + 2)) 34 := vp_in_nI (by omega) (by decide)
    refine z_rcs hc hH 6 (pc' := 223) (lv' := [(6, .int x6), (5, .int (nI k)), (0, .ref 50), (1, .int x1), (2, .int (nI md)), (3, .int pr), (4, .int 0)]) (st' := [.int ((nI k) + 1), .ref 51]) (μ' := μ3) (by rfl) ?_
    rw [nI_1]
    refine zq_iald hc hH (by rfl) 34 (by decide +kernel) (in1) ?_
    rw [nI_clamp (n := k + 1) (by omega), (hw3 (k + 1) (by omega)).1]
    refine zq_if hc hH (by rfl) (tg := 340) (by rfl) (fun h1 => ?_) (fun h1 => ?_)
    · have h1 := cm_le.mp h1
      have b9 := (hw3 (k + 1) (by omega)).2
      have n9 : ¬ 0 < w (k + 1) := fun z9 => by
        have z := h1
        rw [Int32.le_iff_toInt_le, nI_toInt (by omega)] at z
        have z : ((w (k + 1) : Nat) : Int) ≤ 0 := z
        omega
      exact hr 0 340 _ _ _ none (by decide +kernel) (by rfl) (⟨rfl, hS.iff ⟨fun z => hB.mpr (Or.inl z), fun z => (hB.mp z).resolve_right (fun z => n9 z.2.1)⟩⟩)
    · have h1 := cn_le.mp h1
      refine z_rcs hc hH 5 (pc' := 235) (lv' := [(6, .int x6), (5, .int (nI k)), (0, .ref 50), (1, .int x1), (2, .int (nI md)), (3, .int pr), (4, .int 0)]) (st' := [.int ((nI k) + 2), .ref 51]) (μ' := μ3) (by rfl) ?_
      rw [show nI k + 2 = nI (k + 2) from nI_add k 2]
      refine zq_iald hc hH (by rfl) 34 (by decide +kernel) (in2) ?_
      rw [nI_clamp (n := k + 2) (by omega), (hw3 (k + 2) (by omega)).1]
      refine zq_if hc hH (by rfl) (tg := 340) (by rfl) (fun h2 => ?_) (fun h2 => ?_)
      · have h2 := cm_le.mp h2
        have b9 := (hw3 (k + 2) (by omega)).2
        have n9 : ¬ 0 < w (k + 2) := fun z9 => by
          have z := h2
          rw [Int32.le_iff_toInt_le, nI_toInt (by omega)] at z
          have z : ((w (k + 2) : Nat) : Int) ≤ 0 := z
          omega
        exact hr 0 340 _ _ _ none (by decide +kernel) (by rfl) (⟨rfl, hS.iff ⟨fun z => hB.mpr (Or.inl z), fun z => (hB.mp z).resolve_right (fun z => n9 z.2.2.1)⟩⟩)
      · have h2 := cn_le.mp h2
        have b1 := (hw3 (k + 1) (by omega)).2
        have p1 : 0 < w (k + 1) := by
          have z := h1
          rw [Int32.not_le, Int32.lt_iff_toInt_lt, nI_toInt (by omega)] at z
          have z : (0 : Int) < ((w (k + 1) : Nat) : Int) := z
          omega
        have b2 := (hw3 (k + 2) (by omega)).2
        have p2 : 0 < w (k + 2) := by
          have z := h2
          rw [Int32.not_le, Int32.lt_iff_toInt_lt, nI_toInt (by omega)] at z
          have z : (0 : Int) < ((w (k + 2) : Nat) : Int) := z
          omega
        exact stR d' Z μ B hc hr m md q k x1 x6 pr hm hk ih μ3 w hS.2.2.1 hw3 e43 (by omega) (by omega) p1 p2 (fun μ4 h4 => s340 d' Z μ B hc hr md k x1 x6 pr μ4 ((hS.tr h4).iff ⟨fun z => hB.mpr (z.imp id (fun y => ⟨hk9, p1, p2, y⟩)), fun z => (hB.mp z).imp id (fun y => y.2.2.2)⟩))
  · show Z 0 212 [(6, .int x6), (5, .int (nI k)), (0, .ref 50), (1, .int x1), (2, .int (nI md)), (3, .int pr), (4, .int 0)] [.int 0] μ3
    have nR : ¬ (rs k ∧ 0 < w (k + 1) ∧ 0 < w (k + 2) ∧ dc m (subr w k) k (k + 1)) := fun z => hk9 z.1
    refine z_rcs hc hH 1 (pc' := 340) (lv' := [(6, .int x6), (5, .int (nI k)), (0, .ref 50), (1, .int x1), (2, .int (nI md)), (3, .int pr), (4, .int 0)]) (st' := []) (μ' := μ3) (by rfl) ?_
    exact hr 0 340 _ _ _ none (by decide +kernel) (by rfl) (⟨rfl, hS.iff ⟨fun z => hB.mpr (Or.inl z), fun z => (hB.mp z).resolve_right nR⟩⟩)
theorem s107 (d' : Nat) (Z : zK) (μ : zM) (B : Prop) (hc : z_clo z_x0 mi_X7_sets (z_C d') Z) (hr : z_ret mi_X7_sets (fun r μ' => r = none ∧ SU μ μ' B) Z) (m md q k last : Nat) (x1 pr : Int32) (hd : 1 ≤ d') (hm : md + (m + 1) + q = 4) (hk : k < 34) (ih : ∀ (μ : zM) (w : Nat → Nat) (fr md last q : Nat) (pr : Int32), a_H μ → RW μ 51 w → μ.1 50 4 = nI q → md + m + q = 4 → fr ≤ 34 → (∀ k, k < 34 → ((0 < md ∧ μ.1 54 (md - 1) = 0 ∧ μ.1 55 (md - 1) = nI k) ↔ last = k + 1)) → z_C d' mi_X7_sets [.ref 50, .int (nI fr), .int (nI md), .int pr, .int 0] μ (fun r μ' => r = none ∧ SU μ μ' (dc m w fr last))) (w : Nat → Nat) (hH0 : a_H μ) (hw : RW μ 51 w) (e4 : μ.1 50 4 = nI q) (hwk : w k ≠ 0) (hB : B ↔ ((3 ≤ w k ∧ last ≠ k + 1 ∧ dc m (sub3 w k) k 0) ∨ (rs k ∧ 0 < w (k + 1) ∧ 0 < w (k + 2) ∧ dc m (subr w k) k (k + 1)))) (hl : (0 < md ∧ μ.1 54 (md - 1) = 0 ∧ μ.1 55 (md - 1) = nI k) ↔ last = k + 1) : Z 0 107 [(5, .int (nI k)), (0, .ref 50), (1, .int x1), (2, .int (nI md)), (3, .int pr), (4, .int 0)] [] μ := by
  have hH := zh_X7_sets
  have ink : vp_in (nI k) 34 := vp_in_nI hk (by decide)
  have t140 : ∀ x : Int32, (x = 1 ∧ last = k + 1) ∨ (x = 0 ∧ ¬ last = k + 1) → Z 0 140 [(5, .int (nI k)), (0, .ref 50), (1, .int x1), (2, .int (nI md)), (3, .int pr), (4, .int 0)] [.int x] μ := by
    rintro x (⟨rfl, hx⟩ | ⟨rfl, hx⟩)
    · skip
      refine z_rcs hc hH 4 (pc' := 148) (lv' := [(6, .int 1), (5, .int (nI k)), (0, .ref 50), (1, .int x1), (2, .int (nI md)), (3, .int pr), (4, .int 0)]) (st' := [.int (nI k), .ref 51]) (μ' := μ) (by rfl) ?_
      refine zq_iald hc hH (by rfl) 34 (by decide +kernel) (ink) ?_
      rw [nI_clamp (n := k) (by omega), (hw k hk).1]
      refine z_rcs hc hH 1 (pc' := 150) (lv' := [(6, .int 1), (5, .int (nI k)), (0, .ref 50), (1, .int x1), (2, .int (nI md)), (3, .int pr), (4, .int 0)]) (st' := [.int 3, .int (nI (w k))]) (μ' := μ) (by rfl) ?_
      refine zq_ic hc hH (by rfl) (tg := 207) (by rfl) (fun h1 => ?_) (fun h1 => ?_)
      · have h1 := cm_lt.mp h1
        exact s207 d' Z μ B hc hr m md q k last x1 pr hd hm hk ih w hH0 hw e4 hwk hB 1 μ (SU_rf hH0 (fun z => z.2.1 hx))
      · have h1 := cn_lt.mp h1
        refine z_rcs hc hH 2 (pc' := 207) (lv' := [(6, .int 1), (5, .int (nI k)), (0, .ref 50), (1, .int x1), (2, .int (nI md)), (3, .int pr), (4, .int 0)]) (st' := []) (μ' := μ) (by rfl) ?_
        exact s207 d' Z μ B hc hr m md q k last x1 pr hd hm hk ih w hH0 hw e4 hwk hB 1 μ (SU_rf hH0 (fun z => z.2.1 hx))
    · skip
      refine z_rcs hc hH 4 (pc' := 148) (lv' := [(6, .int 0), (5, .int (nI k)), (0, .ref 50), (1, .int x1), (2, .int (nI md)), (3, .int pr), (4, .int 0)]) (st' := [.int (nI k), .ref 51]) (μ' := μ) (by rfl) ?_
      refine zq_iald hc hH (by rfl) 34 (by decide +kernel) (ink) ?_
      rw [nI_clamp (n := k) (by omega), (hw k hk).1]
      refine z_rcs hc hH 1 (pc' := 150) (lv' := [(6, .int 0), (5, .int (nI k)), (0, .ref 50), (1, .int x1), (2, .int (nI md)), (3, .int pr), (4, .int 0)]) (st' := [.int 3, .int (nI (w k))]) (μ' := μ) (by rfl) ?_
      refine zq_ic hc hH (by rfl) (tg := 207) (by rfl) (fun h1 => ?_) (fun h1 => ?_)
      · have h1 := cm_lt.mp h1
        have n9 : ¬ 3 ≤ w k := fun z9 => by
          have z := h1
          rw [Int32.lt_iff_toInt_lt, nI_toInt (by have := (hw k hk).2; omega)] at z
          have z : ((w k : Nat) : Int) < 3 := z
          omega
        exact s207 d' Z μ B hc hr m md q k last x1 pr hd hm hk ih w hH0 hw e4 hwk hB 0 μ (SU_rf hH0 (fun z => n9 z.1))
      · have h1 := cn_lt.mp h1
        refine z_rcs hc hH 2 (pc' := 158) (lv' := [(6, .int 0), (5, .int (nI k)), (0, .ref 50), (1, .int x1), (2, .int (nI md)), (3, .int pr), (4, .int 0)]) (st' := []) (μ' := μ) (by rfl) ?_
        have h3 : 3 ≤ w k := by
          have z := h1
          rw [Int32.not_lt, Int32.le_iff_toInt_le, nI_toInt (by have := (hw k hk).2; omega)] at z
          have z : (3 : Int) ≤ ((w k : Nat) : Int) := z
          omega
        exact st3 d' Z μ B hc hr m md q k x1 0 pr hm hk ih μ w hH0 hw e4 h3 (fun μ3 h9 => s207 d' Z μ B hc hr m md q k last x1 pr hd hm hk ih w hH0 hw e4 hwk hB 0 μ3 (h9.iff ⟨fun z => ⟨h3, hx, z⟩, fun z => z.2.2⟩))
  refine z_rcs hc hH 1 (pc' := 108) (lv' := [(5, .int (nI k)), (0, .ref 50), (1, .int x1), (2, .int (nI md)), (3, .int pr), (4, .int 0)]) (st' := [.int (nI md)]) (μ' := μ) (by rfl) ?_
  refine zq_if hc hH (by rfl) (tg := 139) (by rfl) (fun h1 => ?_) (fun h1 => ?_)
  · have h1 := cm_le.mp h1
    have n0 : ¬ 0 < md := fun z9 => by
      have z := h1
      rw [Int32.le_iff_toInt_le, nI_toInt (by omega)] at z
      have z : ((md : Nat) : Int) ≤ 0 := z
      omega
    refine z_rcs hc hH 1 (pc' := 140) (lv' := [(5, .int (nI k)), (0, .ref 50), (1, .int x1), (2, .int (nI md)), (3, .int pr), (4, .int 0)]) (st' := [.int 0]) (μ' := μ) (by rfl) ?_
    exact t140 0 (Or.inr ⟨rfl, fun z => n0 (hl.mpr z).1⟩)
  · have h1 := cn_le.mp h1
    have g0 : 0 < md := by
      have z := h1
      rw [Int32.not_le, Int32.lt_iff_toInt_lt, nI_toInt (by omega)] at z
      have z : (0 : Int) < ((md : Nat) : Int) := z
      omega
    have em : nI md - 1 = nI (md - 1) := s_1 md (by omega) (by omega)
    have inm : vp_in (nI (md - 1)) 5 := vp_in_nI (by omega) (by decide)
    refine z_rcs hc hH 5 (pc' := 118) (lv' := [(5, .int (nI k)), (0, .ref 50), (1, .int x1), (2, .int (nI md)), (3, .int pr), (4, .int 0)]) (st' := [.int ((nI md) - 1), .ref 54]) (μ' := μ) (by rfl) ?_
    rw [em]
    refine zq_iald hc hH (by rfl) 5 (by decide +kernel) (inm) ?_
    rw [nI_clamp (n := md - 1) (by omega)]
    refine zq_if hc hH (by rfl) (tg := 139) (by rfl) (fun h2 => ?_) (fun h2 => ?_)
    · have h2 := cm_ne.mp h2
      have n1 := h2
      refine z_rcs hc hH 1 (pc' := 140) (lv' := [(5, .int (nI k)), (0, .ref 50), (1, .int x1), (2, .int (nI md)), (3, .int pr), (4, .int 0)]) (st' := [.int 0]) (μ' := μ) (by rfl) ?_
      exact t140 0 (Or.inr ⟨rfl, fun z => n1 (hl.mpr z).2.1⟩)
    · have h2 := cn_ne.mp h2
      have g1 := h2
      refine z_rcs hc hH 5 (pc' := 129) (lv' := [(5, .int (nI k)), (0, .ref 50), (1, .int x1), (2, .int (nI md)), (3, .int pr), (4, .int 0)]) (st' := [.int ((nI md) - 1), .ref 55]) (μ' := μ) (by rfl) ?_
      rw [em]
      refine zq_iald hc hH (by rfl) 5 (by decide +kernel) (inm) ?_
      rw [nI_clamp (n := md - 1) (by omega)]
      refine z_rcs hc hH 1 (pc' := 132) (lv' := [(5, .int (nI k)), (0, .ref 50), (1, .int x1), (2, .int (nI md)), (3, .int pr), (4, .int 0)]) (st' := [.int (nI k), .int (μ.1 55 (md - 1))]) (μ' := μ) (by rfl) ?_
      refine zq_ic hc hH (by rfl) (tg := 139) (by rfl) (fun h3 => ?_) (fun h3 => ?_)
      · have h3 := cm_ne.mp h3
        have n2 := h3
        refine z_rcs hc hH 1 (pc' := 140) (lv' := [(5, .int (nI k)), (0, .ref 50), (1, .int x1), (2, .int (nI md)), (3, .int pr), (4, .int 0)]) (st' := [.int 0]) (μ' := μ) (by rfl) ?_
        exact t140 0 (Or.inr ⟨rfl, fun z => n2 (hl.mpr z).2.2⟩)
      · have h3 := cn_ne.mp h3
        have g2 := h3
        refine z_rcs hc hH 2 (pc' := 140) (lv' := [(5, .int (nI k)), (0, .ref 50), (1, .int x1), (2, .int (nI md)), (3, .int pr), (4, .int 0)]) (st' := [.int 1]) (μ' := μ) (by rfl) ?_
        exact t140 1 (Or.inl ⟨rfl, hl.mp ⟨g0, g1, g2⟩⟩)
theorem s76 (d' : Nat) (Z : zK) (μ : zM) (B : Prop) (hc : z_clo z_x0 mi_X7_sets (z_C d') Z) (hr : z_ret mi_X7_sets (fun r μ' => r = none ∧ SU μ μ' B) Z) (m md q fr last : Nat) (x1 pr : Int32) (hd : 1 ≤ d') (hm : md + (m + 1) + q = 4) (ih : ∀ (μ : zM) (w : Nat → Nat) (fr md last q : Nat) (pr : Int32), a_H μ → RW μ 51 w → μ.1 50 4 = nI q → md + m + q = 4 → fr ≤ 34 → (∀ k, k < 34 → ((0 < md ∧ μ.1 54 (md - 1) = 0 ∧ μ.1 55 (md - 1) = nI k) ↔ last = k + 1)) → z_C d' mi_X7_sets [.ref 50, .int (nI fr), .int (nI md), .int pr, .int 0] μ (fun r μ' => r = none ∧ SU μ μ' (dc m w fr last))) (w : Nat → Nat) (hH0 : a_H μ) (hw : RW μ 51 w) (e4 : μ.1 50 4 = nI q) (hB : B ↔ dc (m + 1) w fr last) (hl : ∀ k, k < 34 → ((0 < md ∧ μ.1 54 (md - 1) = 0 ∧ μ.1 55 (md - 1) = nI k) ↔ last = k + 1)) : ∀ n i, i + n = 34 → fk w (34 - fr) fr = fk w n i → Z 0 76 [(5, .int (nI i)), (0, .ref 50), (1, .int x1), (2, .int (nI md)), (3, .int pr), (4, .int 0)] [] μ := by
  have hH := zh_X7_sets
  intro n
  induction n with
  | zero =>
    intro i hi hf
    have hi : i = 34 := by omega
    subst hi
    refine z_rcs hc hH 2 (pc' := 80) (lv' := [(5, .int (nI 34)), (0, .ref 50), (1, .int x1), (2, .int (nI md)), (3, .int pr), (4, .int 0)]) (st' := [.int 34, .int (nI 34)]) (μ' := μ) (by rfl) ?_
    refine zq_ic hc hH (by rfl) (tg := 99) (by rfl) (fun _ => ?_) (fun h9 => (zb_t (ge_nIt (n := 34) (i := 34) (by decide) (by decide)) h9).elim)
    refine z_rcs hc hH 2 (pc' := 103) (lv' := [(5, .int (nI 34)), (0, .ref 50), (1, .int x1), (2, .int (nI md)), (3, .int pr), (4, .int 0)]) (st' := [.int 34, .int (nI 34)]) (μ' := μ) (by rfl) ?_
    refine zq_ic hc hH (by rfl) (tg := 107) (by rfl) (fun h9 => (zb_t h9 (cn_ne.mpr rfl)).elim) (fun _ => ?_)
    exact hr 0 106 _ _ _ none (by decide +kernel) (by rfl) (⟨rfl, SU_rf hH0 (fun z => by have z2 := (hB.mp z).1; rw [hf] at z2; exact absurd z2 (by show ¬ 34 < 34; omega))⟩)
  | succ n ihn =>
    intro i hi hf
    have hin : vp_in (nI i) 34 := vp_in_nI (by omega) (by decide)
    have hf : fk w (34 - fr) fr = if w i ≠ 0 then i else fk w n (i + 1) := hf
    refine z_rcs hc hH 2 (pc' := 80) (lv' := [(5, .int (nI i)), (0, .ref 50), (1, .int x1), (2, .int (nI md)), (3, .int pr), (4, .int 0)]) (st' := [.int 34, .int (nI i)]) (μ' := μ) (by rfl) ?_
    refine zq_ic hc hH (by rfl) (tg := 99) (by rfl) (fun h9 => (zb_t h9 (ge_nI (n := 34) (i := i) (by omega) (by decide))).elim) (fun _ => ?_)
    refine z_rcs hc hH 3 (pc' := 89) (lv' := [(5, .int (nI i)), (0, .ref 50), (1, .int x1), (2, .int (nI md)), (3, .int pr), (4, .int 0)]) (st' := [.int (nI i), .ref 51]) (μ' := μ) (by rfl) ?_
    refine zq_iald hc hH (by rfl) 34 (by decide +kernel) (hin) ?_
    rw [nI_clamp (n := i) (by omega), (hw i (by omega)).1]
    refine zq_if hc hH (by rfl) (tg := 99) (by rfl) (fun h1 => ?_) (fun h1 => ?_)
    · have h1 := cm_ne.mp h1
      have wi : w i ≠ 0 := fun e => h1 (by rw [e]; rfl)
      rw [if_pos wi] at hf
      refine z_rcs hc hH 2 (pc' := 103) (lv' := [(5, .int (nI i)), (0, .ref 50), (1, .int x1), (2, .int (nI md)), (3, .int pr), (4, .int 0)]) (st' := [.int 34, .int (nI i)]) (μ' := μ) (by rfl) ?_
      refine zq_ic hc hH (by rfl) (tg := 107) (by rfl) (fun _ => ?_) (fun h9 => (zb_t (cm_ne.mpr (fun z => by have := (nI_eq (a := i) (b := 34) (by omega) (by omega)).mp z; omega)) h9).elim)
      exact s107 d' Z μ B hc hr m md q i last x1 pr hd hm (by omega) ih w hH0 hw e4 wi (hB.trans ⟨fun z => by have z2 := z.2; rw [hf] at z2; exact z2, fun z => ⟨by rw [hf]; omega, by rw [hf]; exact z⟩⟩) (hl i (by omega))
    · have h1 := cn_ne.mp h1
      refine z_rcs hc hH 2 (pc' := 76) (lv' := [(5, .int ((nI i) + 1)), (0, .ref 50), (1, .int x1), (2, .int (nI md)), (3, .int pr), (4, .int 0)]) (st' := []) (μ' := μ) (by rfl) ?_
      have wi : w i = 0 := (nI_eq (by have := (hw i (by omega)).2; omega) (by omega)).mp h1
      rw [if_neg (fun z => z wi)] at hf
      rw [nI_1]
      exact ihn (i + 1) (by omega) hf
theorem fc_X7_sets : ∀ (m d : Nat), m + 2 ≤ d → ∀ (μ : zM) (w : Nat → Nat) (fr md last q : Nat) (pr : Int32), a_H μ → RW μ 51 w → μ.1 50 4 = nI q → md + m + q = 4 → fr ≤ 34 → (∀ k, k < 34 → ((0 < md ∧ μ.1 54 (md - 1) = 0 ∧ μ.1 55 (md - 1) = nI k) ↔ last = k + 1)) → z_C d mi_X7_sets [.ref 50, .int (nI fr), .int (nI md), .int pr, .int 0] μ (fun r μ' => r = none ∧ SU μ μ' (dc m w fr last)) := by
  intro m
  induction m with
  | zero =>
    intro d hd μ w fr md last q pr hH0 hw e4 hm hf hl
    refine z_C_in (by decide) (by omega) (fun d' Z ed hc hr => ?_)
    have hH := zh_X7_sets
    refine z_rcs hc hH 5 (pc' := 7) (lv' := [(0, .ref 50), (1, .int (nI fr)), (2, .int (nI md)), (3, .int pr), (4, .int 0)]) (st' := [.int (4 - (μ.1 50 4)), .int (nI md)]) (μ' := μ) (by rfl) ?_
    refine zq_ic hc hH (by rfl) (tg := 73) (by rfl) (fun h9 => (zb_t h9 (cn_ne.mpr (by rw [e4, s_4 q (by omega), show 4 - q = md by omega]))).elim) (fun _ => ?_)
    refine z_rcs hc hH 4 (pc' := 16) (lv' := [(6, .int 0), (5, .int 1), (0, .ref 50), (1, .int (nI fr)), (2, .int (nI md)), (3, .int pr), (4, .int 0)]) (st' := []) (μ' := μ) (by rfl) ?_
    exact se16 d' Z μ _ hc hr md _ pr w hH0 hw Iff.rfl 34 0 (by omega) 1 (Or.inl ⟨rfl, fun j hj => absurd hj (by omega)⟩)
  | succ m ih =>
    intro d hd μ w fr md last q pr hH0 hw e4 hm hf hl
    refine z_C_in (by decide) (by omega) (fun d' Z ed hc hr => ?_)
    have hH := zh_X7_sets
    refine z_rcs hc hH 5 (pc' := 7) (lv' := [(0, .ref 50), (1, .int (nI fr)), (2, .int (nI md)), (3, .int pr), (4, .int 0)]) (st' := [.int (4 - (μ.1 50 4)), .int (nI md)]) (μ' := μ) (by rfl) ?_
    refine zq_ic hc hH (by rfl) (tg := 73) (by rfl) (fun _ => ?_) (fun h9 => (zb_t (cm_ne.mpr (fun z => by rw [e4, s_4 q (by omega)] at z; have := (nI_eq (by omega) (by omega)).mp z; omega)) h9).elim)
    refine z_rcs hc hH 2 (pc' := 76) (lv' := [(5, .int (nI fr)), (0, .ref 50), (1, .int (nI fr)), (2, .int (nI md)), (3, .int pr), (4, .int 0)]) (st' := []) (μ' := μ) (by rfl) ?_
    exact s76 d' Z μ _ hc hr m md q fr last _ pr (by omega) hm (fun μ w fr md last q pr a b c e f g => ih d' (by omega) μ w fr md last q pr a b c e f g) w hH0 hw e4 Iff.rfl hl (34 - fr) fr (by omega) rfl
/-! the reference: what a desk waits for, exactly -/
set_option maxRecDepth 8000
theorem zh_X7_isHonour : zH mi_X7_isHonour zt_X7_isHonour 79 7 1 := hh_X7_isHonour
theorem fc_X7_isHonour (d : Nat) (hd : 1 ≤ d) (μ : zM) (k : Int32) : z_C d mi_X7_isHonour [.int k] μ (zB μ (¬ k ≤ 26)) := by
  refine z_C_in (by decide) (by omega) (fun d' Z ed hc hr => ?_)
  have hH := zh_X7_isHonour
  refine z_rcs hc hH 2 (pc' := 3) (lv' := [(0, .int k)]) (st' := [.int 26, .int k]) (μ' := μ) (by rfl) ?_
  refine zq_ic hc hH (by rfl) (tg := 10) (by rfl) (fun h1 => ?_) (fun h1 => ?_)
  · have h1 := cm_le.mp h1
    refine z_rcs hc hH 1 (pc' := 11) (lv' := [(0, .int k)]) (st' := [.int 0]) (μ' := μ) (by rfl) ?_
    exact hr 0 11 _ _ _ (some (.int 0)) (by decide +kernel) (z_rx_ok hH (by rfl)) (⟨rfl, Or.inr ⟨rfl, fun q => q h1⟩⟩)
  · have h1 := cn_le.mp h1
    refine z_rcs hc hH 2 (pc' := 11) (lv' := [(0, .int k)]) (st' := [.int 1]) (μ' := μ) (by rfl) ?_
    exact hr 0 11 _ _ _ (some (.int 1)) (by decide +kernel) (z_rx_ok hH (by rfl)) (⟨rfl, Or.inl ⟨rfl, h1⟩⟩)
theorem zh_X7_isTerminal : zH mi_X7_isTerminal zt_X7_isTerminal 79 7 1 := hh_X7_isTerminal
theorem fc_X7_isTerminal (d : Nat) (hd : 1 ≤ d) (μ : zM) (k : Int32) : z_C d mi_X7_isTerminal [.int k] μ (zB μ (¬ 27 ≤ k ∧ (k - k / 9 * 9 = 0 ∨ k - k / 9 * 9 = 8))) := by
  refine z_C_in (by decide) (by omega) (fun d' Z ed hc hr => ?_)
  have hH := zh_X7_isTerminal
  refine z_rcs hc hH 2 (pc' := 3) (lv' := [(0, .int k)]) (st' := [.int 27, .int k]) (μ' := μ) (by rfl) ?_
  refine zq_ic hc hH (by rfl) (tg := 26) (by rfl) (fun h1 => ?_) (fun h1 => ?_)
  · have h1 := cm_ge.mp h1
    refine z_rcs hc hH 1 (pc' := 27) (lv' := [(0, .int k)]) (st' := [.int 0]) (μ' := μ) (by rfl) ?_
    exact hr 0 27 _ _ _ (some (.int 0)) (by decide +kernel) (z_rx_ok hH (by rfl)) (⟨rfl, Or.inr ⟨rfl, fun q => q.1 h1⟩⟩)
  · have h1 := cn_ge.mp h1
    refine z_rcs hc hH 3 (pc' := 10) (lv' := [(0, .int k)]) (st' := [.int (k - k / 9 * 9)]) (μ' := μ) (by rfl) ?_
    refine zq_if hc hH (by rfl) (tg := 22) (by rfl) (fun h2 => ?_) (fun h2 => ?_)
    · have h2 := cm_eq9.mp h2
      refine z_rcs hc hH 2 (pc' := 27) (lv' := [(0, .int k)]) (st' := [.int 1]) (μ' := μ) (by rfl) ?_
      exact hr 0 27 _ _ _ (some (.int 1)) (by decide +kernel) (z_rx_ok hH (by rfl)) (⟨rfl, Or.inl ⟨rfl, h1, Or.inl h2⟩⟩)
    · have h2 := cn_eq.mp h2
      refine z_rcs hc hH 4 (pc' := 19) (lv' := [(0, .int k)]) (st' := [.int 8, .int (k - k / 9 * 9)]) (μ' := μ) (by rfl) ?_
      refine zq_ic hc hH (by rfl) (tg := 26) (by rfl) (fun h3 => ?_) (fun h3 => ?_)
      · have h3 := cm_ne.mp h3
        refine z_rcs hc hH 1 (pc' := 27) (lv' := [(0, .int k)]) (st' := [.int 0]) (μ' := μ) (by rfl) ?_
        exact hr 0 27 _ _ _ (some (.int 0)) (by decide +kernel) (z_rx_ok hH (by rfl)) (⟨rfl, Or.inr ⟨rfl, fun q => q.2.elim h2 h3⟩⟩)
      · have h3 := cn_ne.mp h3
        refine z_rcs hc hH 2 (pc' := 27) (lv' := [(0, .int k)]) (st' := [.int 1]) (μ' := μ) (by rfl) ?_
        exact hr 0 27 _ _ _ (some (.int 1)) (by decide +kernel) (z_rx_ok hH (by rfl)) (⟨rfl, Or.inl ⟨rfl, h1, Or.inr h3⟩⟩)
theorem eN_iff : ∀ c, c < 34 → ((¬ nI c ≤ 26 ∨ (¬ (27 : Int32) ≤ nI c ∧ (nI c - nI c / 9 * 9 = 0 ∨ nI c - nI c / 9 * 9 = 8))) ↔ eN c = true) := by decide +kernel
theorem zh_X7_isEnd : zH mi_X7_isEnd zt_X7_isEnd 79 7 1 := hh_X7_isEnd
theorem fc_X7_isEnd (d : Nat) (hd : 2 ≤ d) (μ : zM) (c : Nat) (hcc : c < 34) : z_C d mi_X7_isEnd [.int (nI c)] μ (zB μ (eN c = true)) := by
  refine z_C_in (by decide) (by omega) (fun d' Z ed hc hr => ?_)
  have hH := zh_X7_isEnd
  refine z_rcs hc hH 1 (pc' := 1) (lv' := [(0, .int (nI c))]) (st' := [.int (nI c)]) (μ' := μ) (by rfl) ?_
  refine zq_call hc (z_cx_ok hH (by rfl)) (fc_X7_isHonour d' (by omega) μ (nI c)) (by decide +kernel) (fun r9 μ9 hq => ?_)
  obtain ⟨hμ9, hq⟩ := hq
  rw [hμ9]
  clear hμ9 μ9
  obtain ⟨rfl, h1⟩ | ⟨rfl, h1⟩ := hq
  · show Z 0 4 [(0, .int (nI c))] [.int 1] μ
    refine z_rcs hc hH 3 (pc' := 19) (lv' := [(0, .int (nI c))]) (st' := [.int 1]) (μ' := μ) (by rfl) ?_
    exact hr 0 19 _ _ _ (some (.int 1)) (by decide +kernel) (z_rx_ok hH (by rfl)) (⟨rfl, Or.inl ⟨rfl, (eN_iff c hcc).mp (Or.inl h1)⟩⟩)
  · show Z 0 4 [(0, .int (nI c))] [.int 0] μ
    refine z_rcs hc hH 2 (pc' := 8) (lv' := [(0, .int (nI c))]) (st' := [.int (nI c)]) (μ' := μ) (by rfl) ?_
    refine zq_call hc (z_cx_ok hH (by rfl)) (fc_X7_isTerminal d' (by omega) μ (nI c)) (by decide +kernel) (fun r9 μ9 hq => ?_)
    obtain ⟨hμ9, hq⟩ := hq
    rw [hμ9]
    clear hμ9 μ9
    obtain ⟨rfl, h2⟩ | ⟨rfl, h2⟩ := hq
    · show Z 0 11 [(0, .int (nI c))] [.int 1] μ
      refine z_rcs hc hH 3 (pc' := 19) (lv' := [(0, .int (nI c))]) (st' := [.int 1]) (μ' := μ) (by rfl) ?_
      exact hr 0 19 _ _ _ (some (.int 1)) (by decide +kernel) (z_rx_ok hH (by rfl)) (⟨rfl, Or.inl ⟨rfl, (eN_iff c hcc).mp (Or.inr h2)⟩⟩)
    · show Z 0 11 [(0, .int (nI c))] [.int 0] μ
      refine z_rcs hc hH 2 (pc' := 19) (lv' := [(0, .int (nI c))]) (st' := [.int 0]) (μ' := μ) (by rfl) ?_
      exact hr 0 19 _ _ _ (some (.int 0)) (by decide +kernel) (z_rx_ok hH (by rfl)) (⟨rfl, Or.inr ⟨rfl, fun q => ((eN_iff c hcc).mpr q).elim h1 h2⟩⟩)
noncomputable abbrev mdA : List (Nat × Nat) := [(50, 18), (50, 16), (50, 13), (50, 14), (50, 15), (50, 17), (51, 9999), (54, 9999), (55, 9999)]
noncomputable def AQ (μ μ1 : zM) (B : Prop) : Prop := (∀ j, μ1.1 51 j = μ.1 51 j) ∧ a_Fz mdA μ μ1 ∧ a_H μ1 ∧ (B → μ1.1 50 18 = 1) ∧ (¬ B → μ1.1 50 18 = 0)
theorem AQ.iff {μ μ1 : zM} {A B : Prop} (h : AQ μ μ1 A) (e : A ↔ B) : AQ μ μ1 B := ⟨h.1, h.2.1, h.2.2.1, fun q => h.2.2.2.1 (e.mpr q), fun q => h.2.2.2.2 (fun a => q (e.mp a))⟩
theorem AQ.full {μ μ1 : zM} {A : Prop} (h : AQ μ μ1 A) {B : Prop} (hb : B) : AQ μ (z_ui μ1 50 18 1) B := ⟨fun j => by rw [z_ui_rd, if_neg (by omega)]; exact h.1 j, a_Fz_ui h.2.1 (by decide +kernel), a_H_ui h.2.2.1 ⟨by decide, by decide⟩, fun _ => by rw [z_ui_rd, if_pos ⟨rfl, rfl⟩], fun q => absurd hb q⟩
noncomputable def Fi (w : Nat → Nat) (q i : Nat) : Prop := ∃ p, p < i ∧ 2 ≤ w p ∧ dc (4 - q) (sb2 w p) 0 0
theorem sm_sn {f : Nat → Int32} {w : Nat → Nat} : ∀ n, (∀ k, k < n → f k = nI (w k)) → sm f n = nI (sn w n) := by
  intro n
  induction n with
  | zero => intro _; rfl
  | succ n ih => intro h; show sm f n + f n = nI (sn w n + w n); rw [ih (fun k hk => h k (by omega)), h n (by omega), nI_add]
theorem size_nI {s q : Nat} : nI s + 3 * nI q = nI (s + 3 * q) := by rw [show (3 : Int32) = nI 3 from rfl, nI_ml, nI_add]
theorem zh_X7_apart : zH mi_X7_apart zt_X7_apart 79 7 6 := hh_X7_apart
theorem ap209 (d' : Nat) (Z : zK) (hd : 6 ≤ d') (μ : zM) (w : Nat → Nat) (q : Nat) (hq : q ≤ 4) (hw : RW μ 51 w) (e4 : μ.1 50 4 = nI q) (hc : z_clo z_x0 mi_X7_apart (z_C d') Z) (hr : z_ret mi_X7_apart (fun r μ' => r = none ∧ AQ μ μ' (FM w q)) Z) (h0 : q = 0) (x4 : Int32) (hx : (x4 = 1 ∧ ∃ k, k < 34 ∧ eN k = true ∧ w k = 2) ∨ (x4 = 0 ∧ ¬ ∃ k, k < 34 ∧ eN k = true ∧ w k = 2)) (b2 : cn (fun k => decide (w k = 2)) 34 < 100) (bE : cn (fun k => eN k && decide (0 < w k)) 34 < 100) (μ1 : zM) (hA : AQ μ μ1 (Fi w q 34)) : Z 0 209 [(5, .int (nI 34)), (4, .int x4), (3, .int (nI (cn (fun k => eN k && decide (0 < w k)) 34))), (2, .int (nI (cn (fun k => decide (w k = 2)) 34))), (0, .ref 50), (1, .int 0)] [] μ1 := by
  have hH := zh_X7_apart
  have t228 : ∀ (μ2 : zM) (A : Prop), AQ μ μ2 A → (A ↔ (Fi w q 34 ∨ cn (fun k => decide (w k = 2)) 34 = 7)) → Z 0 228 [(5, .int (nI 34)), (4, .int x4), (3, .int (nI (cn (fun k => eN k && decide (0 < w k)) 34))), (2, .int (nI (cn (fun k => decide (w k = 2)) 34))), (0, .ref 50), (1, .int 0)] [] μ2 := by
    intro μ2 A h2 eA
    refine z_rcs hc hH 2 (pc' := 231) (lv' := [(5, .int (nI 34)), (4, .int x4), (3, .int (nI (cn (fun k => eN k && decide (0 < w k)) 34))), (2, .int (nI (cn (fun k => decide (w k = 2)) 34))), (0, .ref 50), (1, .int 0)]) (st' := [.int 13, .int (nI (cn (fun k => eN k && decide (0 < w k)) 34))]) (μ' := μ2) (by rfl) ?_
    refine zq_ic hc hH (by rfl) (tg := 252) (by rfl) (fun h1 => ?_) (fun h1 => ?_)
    · have h1 := cm_ne.mp h1
      exact hr 0 252 _ _ _ none (by decide +kernel) (by rfl) (⟨rfl, h2.iff (eA.trans ⟨fun z => z.elim (fun y => Or.inl (by obtain ⟨p9, u1, u2, u3⟩ := y; exact ⟨p9, u1, u2, u3⟩)) (fun y => Or.inr ⟨h0, Or.inl y⟩), fun z => z.elim (fun y => Or.inl y) (fun y => y.2.elim Or.inr (fun u => absurd u (fun z => h1 (by rw [z.1]; rfl))))⟩)⟩)
    · have h1 := cn_ne.mp h1
      refine z_rcs hc hH 1 (pc' := 236) (lv' := [(5, .int (nI 34)), (4, .int x4), (3, .int (nI (cn (fun k => eN k && decide (0 < w k)) 34))), (2, .int (nI (cn (fun k => decide (w k = 2)) 34))), (0, .ref 50), (1, .int 0)]) (st' := [.int x4]) (μ' := μ2) (by rfl) ?_
      rcases hx with ⟨rfl, hz⟩ | ⟨rfl, hz⟩
      · skip
        refine z_rcs hc hH 6 (pc' := 252) (lv' := [(5, .int (nI 34)), (4, .int 1), (3, .int (nI (cn (fun k => eN k && decide (0 < w k)) 34))), (2, .int (nI (cn (fun k => decide (w k = 2)) 34))), (0, .ref 50), (1, .int 0)]) (st' := []) (μ' := z_ui μ2 50 18 1) (by rfl) ?_
        exact hr 0 252 _ _ _ none (by decide +kernel) (by rfl) (⟨rfl, h2.full (Or.inr ⟨h0, Or.inr ⟨(nI_eq (by omega) (by omega)).mp h1, hz⟩⟩)⟩)
      · skip
        refine z_rcs hc hH 1 (pc' := 252) (lv' := [(5, .int (nI 34)), (4, .int 0), (3, .int (nI (cn (fun k => eN k && decide (0 < w k)) 34))), (2, .int (nI (cn (fun k => decide (w k = 2)) 34))), (0, .ref 50), (1, .int 0)]) (st' := []) (μ' := μ2) (by rfl) ?_
        exact hr 0 252 _ _ _ none (by decide +kernel) (by rfl) (⟨rfl, h2.iff (eA.trans ⟨fun z => z.elim (fun y => Or.inl (by obtain ⟨p9, u1, u2, u3⟩ := y; exact ⟨p9, u1, u2, u3⟩)) (fun y => Or.inr ⟨h0, Or.inl y⟩), fun z => z.elim (fun y => Or.inl y) (fun y => y.2.elim Or.inr (fun u => absurd u (fun z => hz z.2)))⟩)⟩)
  refine z_rcs hc hH 2 (pc' := 212) (lv' := [(5, .int (nI 34)), (4, .int x4), (3, .int (nI (cn (fun k => eN k && decide (0 < w k)) 34))), (2, .int (nI (cn (fun k => decide (w k = 2)) 34))), (0, .ref 50), (1, .int 0)]) (st' := [.int 7, .int (nI (cn (fun k => decide (w k = 2)) 34))]) (μ' := μ1) (by rfl) ?_
  refine zq_ic hc hH (by rfl) (tg := 228) (by rfl) (fun h1 => ?_) (fun h1 => ?_)
  · have h1 := cm_ne.mp h1
    exact t228 _ _ hA ⟨Or.inl, fun z => z.resolve_right (fun e => h1 (by rw [e]; rfl))⟩
  · have h1 := cn_ne.mp h1
    refine z_rcs hc hH 5 (pc' := 228) (lv' := [(5, .int (nI 34)), (4, .int x4), (3, .int (nI (cn (fun k => eN k && decide (0 < w k)) 34))), (2, .int (nI (cn (fun k => decide (w k = 2)) 34))), (0, .ref 50), (1, .int 0)]) (st' := []) (μ' := z_ui μ1 50 18 1) (by rfl) ?_
    exact t228 _ True (hA.full trivial) ⟨fun _ => Or.inr ((nI_eq (by omega) (by omega)).mp h1), fun _ => trivial⟩
theorem ap120 (d' : Nat) (Z : zK) (hd : 6 ≤ d') (μ : zM) (w : Nat → Nat) (q : Nat) (hq : q ≤ 4) (hw : RW μ 51 w) (e4 : μ.1 50 4 = nI q) (hc : z_clo z_x0 mi_X7_apart (z_C d') Z) (hr : z_ret mi_X7_apart (fun r μ' => r = none ∧ AQ μ μ' (FM w q)) Z) (h0 : q = 0) (μ1 : zM) (hA : AQ μ μ1 (Fi w q 34)) : ∀ n i, i + n = 34 → cn (fun k => decide (w k = 2)) i ≤ i → cn (fun k => eN k && decide (0 < w k)) i ≤ i → ∀ x4 : Int32, ((x4 = 1 ∧ ∃ k, k < i ∧ eN k = true ∧ w k = 2) ∨ (x4 = 0 ∧ ¬ ∃ k, k < i ∧ eN k = true ∧ w k = 2)) → Z 0 120 [(5, .int (nI i)), (4, .int x4), (3, .int (nI (cn (fun k => eN k && decide (0 < w k)) i))), (2, .int (nI (cn (fun k => decide (w k = 2)) i))), (0, .ref 50), (1, .int 0)] [] μ1 := by
  have hH := zh_X7_apart
  intro n
  induction n with
  | zero =>
    intro i hi l2 lE x4 hx
    have hi : i = 34 := by omega
    subst hi
    refine z_rcs hc hH 2 (pc' := 124) (lv' := [(5, .int (nI 34)), (4, .int x4), (3, .int (nI (cn (fun k => eN k && decide (0 < w k)) 34))), (2, .int (nI (cn (fun k => decide (w k = 2)) 34))), (0, .ref 50), (1, .int 0)]) (st' := [.int 34, .int (nI 34)]) (μ' := μ1) (by rfl) ?_
    refine zq_ic hc hH (by rfl) (tg := 209) (by rfl) (fun _ => ?_) (fun h9 => (zb_t (ge_nIt (n := 34) (i := 34) (by decide) (by decide)) h9).elim)
    exact ap209 d' Z hd μ w q hq hw e4 hc hr h0 x4 hx (by omega) (by omega) μ1 hA
  | succ n ih =>
    intro i hi l2 lE x4 hx
    have hin : vp_in (nI i) 34 := vp_in_nI (by omega) (by decide)
    have w1 : μ1.1 51 i = nI (w i) := (hA.1 i).trans (hw i (by omega)).1
    have b5 := (hw i (by omega)).2
    have c2 : cn (fun k => decide (w k = 2)) (i + 1) = cn (fun k => decide (w k = 2)) i + (if decide (w i = 2) = true then 1 else 0) := rfl
    have cE : cn (fun k => eN k && decide (0 < w k)) (i + 1) = cn (fun k => eN k && decide (0 < w k)) i + (if (eN i && decide (0 < w i)) = true then 1 else 0) := rfl
    have d2 : cn (fun k => decide (w k = 2)) (i + 1) ≤ i + 1 := by rw [c2]; split <;> omega
    have dE : cn (fun k => eN k && decide (0 < w k)) (i + 1) ≤ i + 1 := by rw [cE]; split <;> omega
    have t201 : ∀ x : Int32, ((x = 1 ∧ ∃ k, k < i + 1 ∧ eN k = true ∧ w k = 2) ∨ (x = 0 ∧ ¬ ∃ k, k < i + 1 ∧ eN k = true ∧ w k = 2)) → Z 0 201 [(3, .int (nI (cn (fun k => eN k && decide (0 < w k)) (i + 1)))), (2, .int (nI (cn (fun k => decide (w k = 2)) (i + 1)))), (5, .int (nI i)), (4, .int x4), (0, .ref 50), (1, .int 0)] [.int x] μ1 := by
      intro x hx2
      refine z_rcs hc hH 3 (pc' := 120) (lv' := [(5, .int ((nI i) + 1)), (4, .int x), (3, .int (nI (cn (fun k => eN k && decide (0 < w k)) (i + 1)))), (2, .int (nI (cn (fun k => decide (w k = 2)) (i + 1)))), (0, .ref 50), (1, .int 0)]) (st' := []) (μ' := μ1) (by rfl) ?_
      rw [nI_1]
      exact ih (i + 1) (by omega) d2 dE x hx2
    have t172 : Z 0 172 [(3, .int (nI (cn (fun k => eN k && decide (0 < w k)) (i + 1)))), (2, .int (nI (cn (fun k => decide (w k = 2)) (i + 1)))), (5, .int (nI i)), (4, .int x4), (0, .ref 50), (1, .int 0)] [] μ1 := by
      rcases hx with ⟨rfl, k9, hk9, hz⟩ | ⟨rfl, hz⟩
      · skip
        refine z_rcs hc hH 4 (pc' := 201) (lv' := [(3, .int (nI (cn (fun k => eN k && decide (0 < w k)) (i + 1)))), (2, .int (nI (cn (fun k => decide (w k = 2)) (i + 1)))), (5, .int (nI i)), (4, .int 1), (0, .ref 50), (1, .int 0)]) (st' := [.int 1]) (μ' := μ1) (by rfl) ?_
        exact t201 1 (Or.inl ⟨rfl, k9, by omega, hz⟩)
      · skip
        refine z_rcs hc hH 3 (pc' := 179) (lv' := [(3, .int (nI (cn (fun k => eN k && decide (0 < w k)) (i + 1)))), (2, .int (nI (cn (fun k => decide (w k = 2)) (i + 1)))), (5, .int (nI i)), (4, .int 0), (0, .ref 50), (1, .int 0)]) (st' := [.int (nI i)]) (μ' := μ1) (by rfl) ?_
        refine zq_call hc (z_cx_ok hH (by rfl)) (fc_X7_isEnd d' (by omega) μ1 i (by omega)) (by decide +kernel) (fun r9 μ9 hq => ?_)
        obtain ⟨hμ9, hq⟩ := hq
        rw [hμ9]
        clear hμ9 μ9
        obtain ⟨rfl, he⟩ | ⟨rfl, he⟩ := hq
        · show Z 0 182 [(3, .int (nI (cn (fun k => eN k && decide (0 < w k)) (i + 1)))), (2, .int (nI (cn (fun k => decide (w k = 2)) (i + 1)))), (5, .int (nI i)), (4, .int 0), (0, .ref 50), (1, .int 0)] [.int 1] μ1
          refine z_rcs hc hH 4 (pc' := 191) (lv' := [(3, .int (nI (cn (fun k => eN k && decide (0 < w k)) (i + 1)))), (2, .int (nI (cn (fun k => decide (w k = 2)) (i + 1)))), (5, .int (nI i)), (4, .int 0), (0, .ref 50), (1, .int 0)]) (st' := [.int (nI i), .ref 51]) (μ' := μ1) (by rfl) ?_
          refine zq_iald hc hH (by rfl) 34 (by decide +kernel) (hin) ?_
          rw [nI_clamp (n := i) (by omega), w1]
          refine z_rcs hc hH 1 (pc' := 193) (lv' := [(3, .int (nI (cn (fun k => eN k && decide (0 < w k)) (i + 1)))), (2, .int (nI (cn (fun k => decide (w k = 2)) (i + 1)))), (5, .int (nI i)), (4, .int 0), (0, .ref 50), (1, .int 0)]) (st' := [.int 2, .int (nI (w i))]) (μ' := μ1) (by rfl) ?_
          refine zq_ic hc hH (by rfl) (tg := 200) (by rfl) (fun h1 => ?_) (fun h1 => ?_)
          · have h1 := cm_ne.mp h1
            refine z_rcs hc hH 1 (pc' := 201) (lv' := [(3, .int (nI (cn (fun k => eN k && decide (0 < w k)) (i + 1)))), (2, .int (nI (cn (fun k => decide (w k = 2)) (i + 1)))), (5, .int (nI i)), (4, .int 0), (0, .ref 50), (1, .int 0)]) (st' := [.int 0]) (μ' := μ1) (by rfl) ?_
            exact t201 0 (Or.inr ⟨rfl, fun ⟨j, hj, z⟩ => if e : j = i then (by rw [e] at z; exact h1 (by rw [z.2]; rfl)) else hz ⟨j, by omega, z⟩⟩)
          · have h1 := cn_ne.mp h1
            refine z_rcs hc hH 2 (pc' := 201) (lv' := [(3, .int (nI (cn (fun k => eN k && decide (0 < w k)) (i + 1)))), (2, .int (nI (cn (fun k => decide (w k = 2)) (i + 1)))), (5, .int (nI i)), (4, .int 0), (0, .ref 50), (1, .int 0)]) (st' := [.int 1]) (μ' := μ1) (by rfl) ?_
            exact t201 1 (Or.inl ⟨rfl, i, by omega, he, (nI_eq (by omega) (by omega)).mp h1⟩)
        · show Z 0 182 [(3, .int (nI (cn (fun k => eN k && decide (0 < w k)) (i + 1)))), (2, .int (nI (cn (fun k => decide (w k = 2)) (i + 1)))), (5, .int (nI i)), (4, .int 0), (0, .ref 50), (1, .int 0)] [.int 0] μ1
          refine z_rcs hc hH 2 (pc' := 201) (lv' := [(3, .int (nI (cn (fun k => eN k && decide (0 < w k)) (i + 1)))), (2, .int (nI (cn (fun k => decide (w k = 2)) (i + 1)))), (5, .int (nI i)), (4, .int 0), (0, .ref 50), (1, .int 0)]) (st' := [.int 0]) (μ' := μ1) (by rfl) ?_
          exact t201 0 (Or.inr ⟨rfl, fun ⟨j, hj, z⟩ => if e : j = i then (by rw [e] at z; exact he z.1) else hz ⟨j, by omega, z⟩⟩)
    have t146 : Z 0 146 [(2, .int (nI (cn (fun k => decide (w k = 2)) (i + 1)))), (5, .int (nI i)), (4, .int x4), (3, .int (nI (cn (fun k => eN k && decide (0 < w k)) i))), (0, .ref 50), (1, .int 0)] [] μ1 := by
      refine z_rcs hc hH 2 (pc' := 149) (lv' := [(2, .int (nI (cn (fun k => decide (w k = 2)) (i + 1)))), (5, .int (nI i)), (4, .int x4), (3, .int (nI (cn (fun k => eN k && decide (0 < w k)) i))), (0, .ref 50), (1, .int 0)]) (st' := [.int (nI i), .int (nI (cn (fun k => eN k && decide (0 < w k)) i))]) (μ' := μ1) (by rfl) ?_
      refine zq_call hc (z_cx_ok hH (by rfl)) (fc_X7_isEnd d' (by omega) μ1 i (by omega)) (by decide +kernel) (fun r9 μ9 hq => ?_)
      obtain ⟨hμ9, hq⟩ := hq
      rw [hμ9]
      clear hμ9 μ9
      obtain ⟨rfl, he⟩ | ⟨rfl, he⟩ := hq
      · show Z 0 152 [(2, .int (nI (cn (fun k => decide (w k = 2)) (i + 1)))), (5, .int (nI i)), (4, .int x4), (3, .int (nI (cn (fun k => eN k && decide (0 < w k)) i))), (0, .ref 50), (1, .int 0)] [.int 1, .int (nI (cn (fun k => eN k && decide (0 < w k)) i))] μ1
        refine z_rcs hc hH 4 (pc' := 161) (lv' := [(2, .int (nI (cn (fun k => decide (w k = 2)) (i + 1)))), (5, .int (nI i)), (4, .int x4), (3, .int (nI (cn (fun k => eN k && decide (0 < w k)) i))), (0, .ref 50), (1, .int 0)]) (st' := [.int (nI i), .ref 51, .int (nI (cn (fun k => eN k && decide (0 < w k)) i))]) (μ' := μ1) (by rfl) ?_
        refine zq_iald hc hH (by rfl) 34 (by decide +kernel) (hin) ?_
        rw [nI_clamp (n := i) (by omega), w1]
        refine zq_if hc hH (by rfl) (tg := 169) (by rfl) (fun h1 => ?_) (fun h1 => ?_)
        · have h1 := cm_le.mp h1
          refine z_rcs hc hH 2 (pc' := 171) (lv' := [(2, .int (nI (cn (fun k => decide (w k = 2)) (i + 1)))), (5, .int (nI i)), (4, .int x4), (3, .int (nI (cn (fun k => eN k && decide (0 < w k)) i))), (0, .ref 50), (1, .int 0)]) (st' := [.int ((nI (cn (fun k => eN k && decide (0 < w k)) i)) + 0)]) (μ' := μ1) (by rfl) ?_
          have z := h1
          rw [Int32.le_iff_toInt_le, nI_toInt (by omega)] at z
          have z : ((w i : Nat) : Int) ≤ 0 := z
          rw [if_neg (by rw [he, decide_eq_false (by omega)]; decide)] at cE
          rw [Int32.add_zero, ← show cn (fun k => eN k && decide (0 < w k)) (i + 1) = cn (fun k => eN k && decide (0 < w k)) i from cE]
          refine z_rcs hc hH 1 (pc' := 172) (lv' := [(3, .int (nI (cn (fun k => eN k && decide (0 < w k)) (i + 1)))), (2, .int (nI (cn (fun k => decide (w k = 2)) (i + 1)))), (5, .int (nI i)), (4, .int x4), (0, .ref 50), (1, .int 0)]) (st' := []) (μ' := μ1) (by rfl) ?_
          exact t172
        · have h1 := cn_le.mp h1
          refine z_rcs hc hH 3 (pc' := 171) (lv' := [(2, .int (nI (cn (fun k => decide (w k = 2)) (i + 1)))), (5, .int (nI i)), (4, .int x4), (3, .int (nI (cn (fun k => eN k && decide (0 < w k)) i))), (0, .ref 50), (1, .int 0)]) (st' := [.int ((nI (cn (fun k => eN k && decide (0 < w k)) i)) + 1)]) (μ' := μ1) (by rfl) ?_
          have z := h1
          rw [Int32.not_le, Int32.lt_iff_toInt_lt, nI_toInt (by omega)] at z
          have z : (0 : Int) < ((w i : Nat) : Int) := z
          rw [if_pos (by rw [he, decide_eq_true (show 0 < w i by omega)]; rfl)] at cE
          rw [nI_1, ← cE]
          refine z_rcs hc hH 1 (pc' := 172) (lv' := [(3, .int (nI (cn (fun k => eN k && decide (0 < w k)) (i + 1)))), (2, .int (nI (cn (fun k => decide (w k = 2)) (i + 1)))), (5, .int (nI i)), (4, .int x4), (0, .ref 50), (1, .int 0)]) (st' := []) (μ' := μ1) (by rfl) ?_
          exact t172
      · show Z 0 152 [(2, .int (nI (cn (fun k => decide (w k = 2)) (i + 1)))), (5, .int (nI i)), (4, .int x4), (3, .int (nI (cn (fun k => eN k && decide (0 < w k)) i))), (0, .ref 50), (1, .int 0)] [.int 0, .int (nI (cn (fun k => eN k && decide (0 < w k)) i))] μ1
        refine z_rcs hc hH 3 (pc' := 171) (lv' := [(2, .int (nI (cn (fun k => decide (w k = 2)) (i + 1)))), (5, .int (nI i)), (4, .int x4), (3, .int (nI (cn (fun k => eN k && decide (0 < w k)) i))), (0, .ref 50), (1, .int 0)]) (st' := [.int ((nI (cn (fun k => eN k && decide (0 < w k)) i)) + 0)]) (μ' := μ1) (by rfl) ?_
        rw [if_neg (by rw [Bool.eq_false_iff.mpr he, Bool.false_and]; decide)] at cE
        rw [Int32.add_zero, ← show cn (fun k => eN k && decide (0 < w k)) (i + 1) = cn (fun k => eN k && decide (0 < w k)) i from cE]
        refine z_rcs hc hH 1 (pc' := 172) (lv' := [(3, .int (nI (cn (fun k => eN k && decide (0 < w k)) (i + 1)))), (2, .int (nI (cn (fun k => decide (w k = 2)) (i + 1)))), (5, .int (nI i)), (4, .int x4), (0, .ref 50), (1, .int 0)]) (st' := []) (μ' := μ1) (by rfl) ?_
        exact t172
    refine z_rcs hc hH 2 (pc' := 124) (lv' := [(5, .int (nI i)), (4, .int x4), (3, .int (nI (cn (fun k => eN k && decide (0 < w k)) i))), (2, .int (nI (cn (fun k => decide (w k = 2)) i))), (0, .ref 50), (1, .int 0)]) (st' := [.int 34, .int (nI i)]) (μ' := μ1) (by rfl) ?_
    refine zq_ic hc hH (by rfl) (tg := 209) (by rfl) (fun h9 => (zb_t h9 (ge_nI (n := 34) (i := i) (by omega) (by decide))).elim) (fun _ => ?_)
    refine z_rcs hc hH 4 (pc' := 134) (lv' := [(5, .int (nI i)), (4, .int x4), (3, .int (nI (cn (fun k => eN k && decide (0 < w k)) i))), (2, .int (nI (cn (fun k => decide (w k = 2)) i))), (0, .ref 50), (1, .int 0)]) (st' := [.int (nI i), .ref 51, .int (nI (cn (fun k => decide (w k = 2)) i))]) (μ' := μ1) (by rfl) ?_
    refine zq_iald hc hH (by rfl) 34 (by decide +kernel) (hin) ?_
    rw [nI_clamp (n := i) (by omega), w1]
    refine z_rcs hc hH 1 (pc' := 136) (lv' := [(5, .int (nI i)), (4, .int x4), (3, .int (nI (cn (fun k => eN k && decide (0 < w k)) i))), (2, .int (nI (cn (fun k => decide (w k = 2)) i))), (0, .ref 50), (1, .int 0)]) (st' := [.int 2, .int (nI (w i)), .int (nI (cn (fun k => decide (w k = 2)) i))]) (μ' := μ1) (by rfl) ?_
    refine zq_ic hc hH (by rfl) (tg := 143) (by rfl) (fun h1 => ?_) (fun h1 => ?_)
    · have h1 := cm_ne.mp h1
      refine z_rcs hc hH 2 (pc' := 145) (lv' := [(5, .int (nI i)), (4, .int x4), (3, .int (nI (cn (fun k => eN k && decide (0 < w k)) i))), (2, .int (nI (cn (fun k => decide (w k = 2)) i))), (0, .ref 50), (1, .int 0)]) (st' := [.int ((nI (cn (fun k => decide (w k = 2)) i)) + 0)]) (μ' := μ1) (by rfl) ?_
      rw [if_neg (by rw [decide_eq_true_iff]; exact fun e => h1 (by rw [e]; rfl))] at c2
      rw [Int32.add_zero, ← show cn (fun k => decide (w k = 2)) (i + 1) = cn (fun k => decide (w k = 2)) i from c2]
      refine z_rcs hc hH 1 (pc' := 146) (lv' := [(2, .int (nI (cn (fun k => decide (w k = 2)) (i + 1)))), (5, .int (nI i)), (4, .int x4), (3, .int (nI (cn (fun k => eN k && decide (0 < w k)) i))), (0, .ref 50), (1, .int 0)]) (st' := []) (μ' := μ1) (by rfl) ?_
      exact t146
    · have h1 := cn_ne.mp h1
      refine z_rcs hc hH 3 (pc' := 145) (lv' := [(5, .int (nI i)), (4, .int x4), (3, .int (nI (cn (fun k => eN k && decide (0 < w k)) i))), (2, .int (nI (cn (fun k => decide (w k = 2)) i))), (0, .ref 50), (1, .int 0)]) (st' := [.int ((nI (cn (fun k => decide (w k = 2)) i)) + 1)]) (μ' := μ1) (by rfl) ?_
      rw [if_pos (decide_eq_true ((nI_eq (show w i < 2 ^ 31 by omega) (show 2 < 2 ^ 31 by decide)).mp h1))] at c2
      rw [nI_1, ← c2]
      refine z_rcs hc hH 1 (pc' := 146) (lv' := [(2, .int (nI (cn (fun k => decide (w k = 2)) (i + 1)))), (5, .int (nI i)), (4, .int x4), (3, .int (nI (cn (fun k => eN k && decide (0 < w k)) i))), (0, .ref 50), (1, .int 0)]) (st' := []) (μ' := μ1) (by rfl) ?_
      exact t146
theorem ap102 (d' : Nat) (Z : zK) (hd : 6 ≤ d') (μ : zM) (w : Nat → Nat) (q : Nat) (hq : q ≤ 4) (hw : RW μ 51 w) (e4 : μ.1 50 4 = nI q) (hc : z_clo z_x0 mi_X7_apart (z_C d') Z) (hr : z_ret mi_X7_apart (fun r μ' => r = none ∧ AQ μ μ' (FM w q)) Z) (x2 : Int32) (μ1 : zM) (hA : AQ μ μ1 (Fi w q 34)) : Z 0 102 [(2, .int x2), (0, .ref 50), (1, .int 0)] [] μ1 := by
  have hH := zh_X7_apart
  have e41 : μ1.1 50 4 = nI q := (a_Fz_at hA.2.1 50 4 (by decide +kernel)).trans e4
  refine z_rcs hc hH 2 (pc' := 106) (lv' := [(2, .int x2), (0, .ref 50), (1, .int 0)]) (st' := [.int (μ1.1 50 4)]) (μ' := μ1) (by rfl) ?_
  rw [e41]
  refine zq_if hc hH (by rfl) (tg := 110) (by rfl) (fun h1 => ?_) (fun h1 => ?_)
  · have h1 := cm_le.mp h1
    refine z_rcs hc hH 8 (pc' := 120) (lv' := [(5, .int 0), (4, .int 0), (3, .int 0), (2, .int 0), (0, .ref 50), (1, .int 0)]) (st' := []) (μ' := μ1) (by rfl) ?_
    have h0 : q = 0 := by
      have z := h1
      rw [Int32.le_iff_toInt_le, nI_toInt (by omega)] at z
      have z : ((q : Nat) : Int) ≤ 0 := z
      omega
    exact ap120 d' Z hd μ w q hq hw e4 hc hr h0 μ1 hA 34 0 (by omega) (Nat.le_refl _) (Nat.le_refl _) 0 (Or.inr ⟨rfl, fun ⟨j, hj, _⟩ => absurd hj (by omega)⟩)
  · have h1 := cn_le.mp h1
    have h0 : ¬ q = 0 := fun e => h1 (by rw [e]; decide)
    exact hr 0 109 _ _ _ none (by decide +kernel) (by rfl) (⟨rfl, hA.iff ⟨fun ⟨p9, u1, u2, u3⟩ => Or.inl ⟨p9, u1, u2, u3⟩, fun z => z.elim (fun y => y) (fun y => absurd y.1 h0)⟩⟩)
theorem ap49 (d' : Nat) (Z : zK) (hd : 6 ≤ d') (μ : zM) (w : Nat → Nat) (q : Nat) (hq : q ≤ 4) (hw : RW μ 51 w) (e4 : μ.1 50 4 = nI q) (hc : z_clo z_x0 mi_X7_apart (z_C d') Z) (hr : z_ret mi_X7_apart (fun r μ' => r = none ∧ AQ μ μ' (FM w q)) Z) : ∀ n i, i + n = 34 → ∀ μ1, AQ μ μ1 (Fi w q i) → Z 0 49 [(2, .int (nI i)), (0, .ref 50), (1, .int 0)] [] μ1 := by
  have hH := zh_X7_apart
  intro n
  induction n with
  | zero =>
    intro i hi μ1 hA
    have hi : i = 34 := by omega
    subst hi
    refine z_rcs hc hH 2 (pc' := 52) (lv' := [(2, .int (nI 34)), (0, .ref 50), (1, .int 0)]) (st' := [.int 34, .int (nI 34)]) (μ' := μ1) (by rfl) ?_
    refine zq_ic hc hH (by rfl) (tg := 102) (by rfl) (fun _ => ?_) (fun h9 => (zb_t (ge_nIt (n := 34) (i := 34) (by decide) (by decide)) h9).elim)
    exact ap102 d' Z hd μ w q hq hw e4 hc hr _ μ1 hA
  | succ n ih =>
    intro i hi μ1 hA
    have hin : vp_in (nI i) 34 := vp_in_nI (by omega) (by decide)
    have ei : (nI i).toNatClampNeg = i := nI_clamp (by omega)
    have w1 : μ1.1 51 i = nI (w i) := (hA.1 i).trans (hw i (by omega)).1
    have b5 := (hw i (by omega)).2
    have e41 : μ1.1 50 4 = nI q := (a_Fz_at hA.2.1 50 4 (by decide +kernel)).trans e4
    refine z_rcs hc hH 2 (pc' := 52) (lv' := [(2, .int (nI i)), (0, .ref 50), (1, .int 0)]) (st' := [.int 34, .int (nI i)]) (μ' := μ1) (by rfl) ?_
    refine zq_ic hc hH (by rfl) (tg := 102) (by rfl) (fun h9 => (zb_t h9 (ge_nI (n := 34) (i := i) (by omega) (by decide))).elim) (fun _ => ?_)
    refine z_rcs hc hH 3 (pc' := 60) (lv' := [(2, .int (nI i)), (0, .ref 50), (1, .int 0)]) (st' := [.int (nI i), .ref 51]) (μ' := μ1) (by rfl) ?_
    refine zq_iald hc hH (by rfl) 34 (by decide +kernel) (hin) ?_
    rw [ei, w1]
    refine z_rcs hc hH 1 (pc' := 62) (lv' := [(2, .int (nI i)), (0, .ref 50), (1, .int 0)]) (st' := [.int 2, .int (nI (w i))]) (μ' := μ1) (by rfl) ?_
    refine zq_ic hc hH (by rfl) (tg := 68) (by rfl) (fun h1 => ?_) (fun h1 => ?_)
    · have h1 := cm_ge.mp h1
      refine z_rcs hc hH 4 (pc' := 74) (lv' := [(2, .int (nI i)), (0, .ref 50), (1, .int 0)]) (st' := [.int (nI i), .ref 51, .int (nI i), .ref 51]) (μ' := μ1) (by rfl) ?_
      refine zq_iald hc hH (by rfl) 34 (by decide +kernel) (hin) ?_
      rw [ei, w1]
      refine z_rcs hc hH 2 (pc' := 77) (lv' := [(2, .int (nI i)), (0, .ref 50), (1, .int 0)]) (st' := [.int ((nI (w i)) - 2), .int (nI i), .ref 51]) (μ' := μ1) (by rfl) ?_
      have h2 : 2 ≤ w i := by
        have z := h1
        rw [Int32.le_iff_toInt_le, nI_toInt (by omega)] at z
        have z : (2 : Int) ≤ ((w i : Nat) : Int) := z
        omega
      rw [l_2 (w i) (by omega) h2]
      refine zq_iast hc hH (by rfl) 34 (by decide +kernel) (hin) ?_
      rw [ei]
      have g1 : ∀ j, (z_ui μ1 51 i (nI (w i - 2))).1 51 j = if j = i then nI (w i - 2) else μ1.1 51 j := fun j => by
        rw [z_ui_rd]
        by_cases e : j = i
        · rw [if_pos ⟨rfl, e⟩, if_pos e]
        · rw [if_neg (fun z => e z.2), if_neg e]
      have F1 : a_Fz mdA μ (z_ui μ1 51 i (nI (w i - 2))) := a_Fz_ui hA.2.1 (a_mda_md (by decide +kernel) _)
      have H1 : a_H (z_ui μ1 51 i (nI (w i - 2))) := a_H_ui hA.2.2.1 (bI_top _)
      have E1 : (z_ui μ1 51 i (nI (w i - 2))).1 50 18 = μ1.1 50 18 := by rw [z_ui_rd, if_neg (by omega)]
      have Q1 : (z_ui μ1 51 i (nI (w i - 2))).1 50 4 = nI q := by rw [z_ui_rd, if_neg (by omega)]; exact e41
      generalize z_ui μ1 51 i (nI (w i - 2)) = μ2 at g1 F1 H1 E1 Q1 ⊢
      have w2 : RW μ2 51 (sb2 w i) := fun j hj => by
        rw [g1]; unfold sb2
        by_cases e : j = i
        · rw [if_pos e, if_pos e, e]; exact ⟨rfl, by omega⟩
        · rw [if_neg e, if_neg e, hA.1]; exact hw j hj
      refine z_rcs hc hH 5 (pc' := 83) (lv' := [(2, .int (nI i)), (0, .ref 50), (1, .int 0)]) (st' := [.int 0, .int (nI i), .int 0, .int 0, .ref 50]) (μ' := μ2) (by rfl) ?_
      refine zq_call hc (z_cx_ok hH (by rfl)) (fc_X7_sets (4 - q) d' (by omega) μ2 (sb2 w i) 0 0 0 q (nI i) H1 w2 Q1 (by omega) (by omega) (fun j hj => ⟨fun z => absurd z.1 (by omega), fun z => absurd z (by omega)⟩)) (by decide +kernel) (fun r3 μ3 hq3 => ?_)
      obtain ⟨rfl, hs⟩ := hq3
      show Z 0 86 [(2, .int (nI i)), (0, .ref 50), (1, .int 0)] [] μ3
      refine z_rcs hc hH 4 (pc' := 92) (lv' := [(2, .int (nI i)), (0, .ref 50), (1, .int 0)]) (st' := [.int (nI i), .ref 51, .int (nI i), .ref 51]) (μ' := μ3) (by rfl) ?_
      refine zq_iald hc hH (by rfl) 34 (by decide +kernel) (hin) ?_
      rw [ei, hs.1, g1, if_pos rfl]
      refine z_rcs hc hH 2 (pc' := 95) (lv' := [(2, .int (nI i)), (0, .ref 50), (1, .int 0)]) (st' := [.int ((nI (w i - 2)) + 2), .int (nI i), .ref 51]) (μ' := μ3) (by rfl) ?_
      rw [show nI (w i - 2) + 2 = nI (w i) from (nI_add (w i - 2) 2).trans (by rw [show w i - 2 + 2 = w i by omega])]
      refine zq_iast hc hH (by rfl) 34 (by decide +kernel) (hin) ?_
      rw [ei]
      have hN : AQ μ (z_ui μ3 51 i (nI (w i))) (Fi w q (i + 1)) := by
        have hF := (FL.iff (A := dc (4 - q) (sb2 w i) 0 0) hs.2.2.2 Iff.rfl)
        refine ⟨fun j => ?_, a_Fz_ui (a_Fz_tr (by decide +kernel) F1 hs.2.1) (a_mda_md (by decide +kernel) _), a_H_ui hs.2.2.1 (bI_top _), fun z => ?_, fun z => ?_⟩
        · rw [z_ui_rd]
          by_cases e : j = i
          · rw [if_pos ⟨rfl, e⟩, e, (hw i (by omega)).1]
          · rw [if_neg (fun z => e z.2), hs.1, g1, if_neg e, hA.1]
        · rw [z_ui_rd, if_neg (by omega)]
          by_cases c : dc (4 - q) (sb2 w i) 0 0
          · exact hF.1 c
          · rw [hF.2 c, E1]
            obtain ⟨p9, u1, u2⟩ := z
            exact hA.2.2.2.1 ⟨p9, if e : p9 = i then (by rw [e] at u2; exact absurd u2.2 c) else (by omega), u2⟩
        · rw [z_ui_rd, if_neg (by omega), hF.2 (fun c => z ⟨i, by omega, h2, c⟩), E1]
          exact hA.2.2.2.2 (fun ⟨p9, u1, u2⟩ => z ⟨p9, by omega, u2⟩)
      generalize z_ui μ3 51 i (nI (w i)) = μ4 at hN ⊢
      refine z_rcs hc hH 2 (pc' := 49) (lv' := [(2, .int ((nI i) + 1)), (0, .ref 50), (1, .int 0)]) (st' := []) (μ' := μ4) (by rfl) ?_
      rw [nI_1]
      exact ih (i + 1) (by omega) μ4 hN
    · have h1 := cn_ge.mp h1
      refine z_rcs hc hH 1 (pc' := 96) (lv' := [(2, .int (nI i)), (0, .ref 50), (1, .int 0)]) (st' := []) (μ' := μ1) (by rfl) ?_
      have n2 : ¬ 2 ≤ w i := fun z9 => by
        have z := h1
        rw [Int32.not_le, Int32.lt_iff_toInt_lt, nI_toInt (by omega)] at z
        have z : ((w i : Nat) : Int) < 2 := z
        omega
      have hN : AQ μ μ1 (Fi w q (i + 1)) := hA.iff ⟨fun ⟨p9, u1, u2⟩ => ⟨p9, by omega, u2⟩, fun ⟨p9, u1, u2⟩ => ⟨p9, if e : p9 = i then (by rw [e] at u2; exact absurd u2.1 n2) else (by omega), u2⟩⟩
      refine z_rcs hc hH 2 (pc' := 49) (lv' := [(2, .int ((nI i) + 1)), (0, .ref 50), (1, .int 0)]) (st' := []) (μ' := μ1) (by rfl) ?_
      rw [nI_1]
      exact ih (i + 1) (by omega) μ1 hN
theorem fc_X7_apart (d : Nat) (hd : 7 ≤ d) (μ : zM) (w : Nat → Nat) (q : Nat) (hq : q ≤ 4) (hw : RW μ 51 w) (e4 : μ.1 50 4 = nI q) (hH0 : a_H μ) (h14 : sn w 34 + 3 * q = 14) : z_C d mi_X7_apart [.ref 50, .int 0] μ (fun r μ' => r = none ∧ AQ μ μ' (FM w q)) := by
  refine z_C_in (by decide) (by omega) (fun d' Z ed hc hr => ?_)
  have hH := zh_X7_apart
  refine z_rcs hc hH 18 (pc' := 30) (lv' := [(0, .ref 50), (1, .int 0)]) (st' := []) (μ' := z_uj (z_ui (z_ui (z_ui (z_ui (z_ui μ 50 18 0) 50 16 0) 50 13 0) 50 14 0) 50 15 0) 50 17 0) (by rfl) ?_
  have hA : AQ μ (z_uj (z_ui (z_ui (z_ui (z_ui (z_ui μ 50 18 0) 50 16 0) 50 13 0) 50 14 0) 50 15 0) 50 17 0) (Fi w q 0) := by
    refine ⟨fun j => ?_, a_Fz_uj (a_Fz_ui (a_Fz_ui (a_Fz_ui (a_Fz_ui (a_Fz_ui (a_Fz_rf _ _) (by decide +kernel)) (by decide +kernel)) (by decide +kernel)) (by decide +kernel)) (by decide +kernel)) (by decide +kernel), a_H_uj (a_H_ui (a_H_ui (a_H_ui (a_H_ui (a_H_ui hH0 ⟨by decide, by decide⟩) (bI_top _)) (bI_top _)) (bI_top _)) (bI_top _)), fun ⟨p9, u1, _⟩ => absurd u1 (by omega), fun _ => ?_⟩
    · show (z_ui (z_ui (z_ui (z_ui (z_ui μ 50 18 0) 50 16 0) 50 13 0) 50 14 0) 50 15 0).1 51 j = _
      rw [z_ui_rd, if_neg (by omega), z_ui_rd, if_neg (by omega), z_ui_rd, if_neg (by omega), z_ui_rd, if_neg (by omega), z_ui_rd, if_neg (by omega)]
    · show (z_ui (z_ui (z_ui (z_ui (z_ui μ 50 18 0) 50 16 0) 50 13 0) 50 14 0) 50 15 0).1 50 18 = 0
      rw [z_ui_rd, if_neg (by omega), z_ui_rd, if_neg (by omega), z_ui_rd, if_neg (by omega), z_ui_rd, if_neg (by omega), z_ui_rd, if_pos ⟨rfl, rfl⟩]
  generalize z_uj (z_ui (z_ui (z_ui (z_ui (z_ui μ 50 18 0) 50 16 0) 50 13 0) 50 14 0) 50 15 0) 50 17 0 = μ1 at hA ⊢
  have e41 : μ1.1 50 4 = nI q := (a_Fz_at hA.2.1 50 4 (by decide +kernel)).trans e4
  have es : sm (μ1.1 51) 34 = nI (sn w 34) := sm_sn 34 (fun k hk => (hA.1 k).trans (hw k hk).1)
  refine z_rcs hc hH 1 (pc' := 31) (lv' := [(0, .ref 50), (1, .int 0)]) (st' := [.ref 50]) (μ' := μ1) (by rfl) ?_
  refine zq_call hc (z_cx_ok hH (by rfl)) (fc_X7_inHand d' (by omega) μ1) (by decide +kernel) (fun r9 μ9 hq => ?_)
  obtain ⟨hμ9, rfl⟩ := hq
  rw [hμ9]
  clear hμ9 μ9
  show Z 0 34 [(0, .ref 50), (1, .int 0)] [.int (sm (μ1.1 51) 34)] μ1
  refine z_rcs hc hH 6 (pc' := 43) (lv' := [(0, .ref 50), (1, .int 0)]) (st' := [.int 14, .int ((sm (μ1.1 51) 34) + (3 * (μ1.1 50 4)))]) (μ' := μ1) (by rfl) ?_
  refine zq_ic hc hH (by rfl) (tg := 47) (by rfl) (fun _ => ?_) (fun h9 => (zb_t (cm_eq9.mpr (by rw [es, e41, size_nI, h14]; rfl)) h9).elim)
  refine z_rcs hc hH 2 (pc' := 49) (lv' := [(2, .int 0), (0, .ref 50), (1, .int 0)]) (st' := []) (μ' := μ1) (by rfl) ?_
  exact ap49 d' Z (by omega) μ w q hq hw e4 hc hr 34 0 (by omega) μ1 hA
/-! the desks wait for the same -/
set_option maxRecDepth 8000
noncomputable abbrev mdW : List (Nat × Nat) := [(50, 18), (50, 16), (50, 13), (50, 14), (50, 15), (50, 17), (51, 9999), (54, 9999), (55, 9999), (58, 9999)]
noncomputable def WR (μ μ1 : zM) : Prop := (∀ j, μ1.1 51 j = μ.1 51 j) ∧ a_Fz mdW μ μ1 ∧ a_H μ1
noncomputable def WM (μ : zM) (w : Nat → Nat) (q c : Nat) : Prop := sn w 34 + 3 * q = 13 ∧ ¬ (4 : Int32) ≤ ofv (nI (w c)) (μ.1 52) (μ.1 53) (nI c) q ∧ FM (ad1 w c) q
noncomputable def WI (μ1 μ2 : zM) (i : Nat) : Prop := (∀ j, j < i → μ2.1 58 j = μ1.1 51 j) ∧ a_Fz [(58, 9999)] μ1 μ2 ∧ a_H μ2
theorem kb_0 {b : Nat → Bool} : ∀ n, (∀ k, k < n → b k = false) → kb b n = 0 := by
  intro n
  induction n with
  | zero => intro _; rfl
  | succ n ih => intro h; show (if b n = true then _ else kb b n) = 0; rw [if_neg (by rw [h n (by omega)]; decide)]; exact ih (fun k hk => h k (by omega))
theorem sn_ub {w : Nat → Nat} {c : Nat} : ∀ n, (∀ k, k < n → w k ≤ c) → sn w n ≤ c * n := by
  intro n
  induction n with
  | zero => intro _; exact Nat.zero_le _
  | succ n ih => intro h; show sn w n + w n ≤ c * (n + 1); have := ih (fun k hk => h k (by omega)); have := h n (by omega); rw [Nat.mul_add]; omega
theorem sn_ad1 {w : Nat → Nat} {c : Nat} (hc : c < 34) : sn (ad1 w c) 34 = sn w 34 + 1 := (sn_upd (f := ad1 w c) (g := w) (d := 1) hc (fun k _ hk => by unfold ad1; rw [if_neg hk]) (by unfold ad1; rw [if_pos rfl])).symm
theorem zh_X7_waitsOf : zH mi_X7_waitsOf zt_X7_waitsOf 79 7 5 := hh_X7_waitsOf
theorem wo31 (d' : Nat) (Z : zK) (hd : 7 ≤ d') (μ : zM) (w : Nat → Nat) (q : Nat) (hq : q ≤ 4) (hw : RW μ 51 w) (h4 : ∀ k, k < 34 → w k ≤ 4) (e4 : μ.1 50 4 = nI q) (hc : z_clo z_x0 mi_X7_waitsOf (z_C d') Z) (hr : z_ret mi_X7_waitsOf (fun r μ' => WR μ μ' ∧ r = some (.long (kb (wb (WM μ w q)) 34))) Z) (h13 : sn w 34 + 3 * q = 13) (k : Nat) (hk : k < 34) (μ1 : zM) (K : ∀ μ2, WI μ1 μ2 34 → Z 0 58 [(4, .int (nI 34)), (3, .int (nI k)), (1, .long (kb (wb (WM μ w q)) k)), (0, .ref 50)] [] μ2) : ∀ n i, i + n = 34 → ∀ μ2, WI μ1 μ2 i → Z 0 31 [(4, .int (nI i)), (3, .int (nI k)), (1, .long (kb (wb (WM μ w q)) k)), (0, .ref 50)] [] μ2 := by
  have hH := zh_X7_waitsOf
  intro n
  induction n with
  | zero =>
    intro i hi μ2 g
    have hi : i = 34 := by omega
    subst hi
    refine z_rcs hc hH 2 (pc' := 35) (lv' := [(4, .int (nI 34)), (3, .int (nI k)), (1, .long (kb (wb (WM μ w q)) k)), (0, .ref 50)]) (st' := [.int 34, .int (nI 34)]) (μ' := μ2) (by rfl) ?_
    refine zq_ic hc hH (by rfl) (tg := 58) (by rfl) (fun _ => ?_) (fun h9 => (zb_t (ge_nIt (n := 34) (i := 34) (by decide) (by decide)) h9).elim)
    exact K μ2 g
  | succ n ih =>
    intro i hi μ2 g
    have hin : vp_in (nI i) 34 := vp_in_nI (by omega) (by decide)
    refine z_rcs hc hH 2 (pc' := 35) (lv' := [(4, .int (nI i)), (3, .int (nI k)), (1, .long (kb (wb (WM μ w q)) k)), (0, .ref 50)]) (st' := [.int 34, .int (nI i)]) (μ' := μ2) (by rfl) ?_
    refine zq_ic hc hH (by rfl) (tg := 58) (by rfl) (fun h9 => (zb_t h9 (ge_nI (n := 34) (i := i) (by omega) (by decide))).elim) (fun _ => ?_)
    refine z_rcs hc hH 6 (pc' := 50) (lv' := [(4, .int (nI i)), (3, .int (nI k)), (1, .long (kb (wb (WM μ w q)) k)), (0, .ref 50)]) (st' := [.int (nI i), .ref 51, .int (nI i), .ref 58]) (μ' := μ2) (by rfl) ?_
    refine zq_iald hc hH (by rfl) 34 (by decide +kernel) (hin) ?_
    rw [nI_clamp (n := i) (by omega), a_Fz_at g.2.1 51 i (a_md_row (by decide +kernel))]
    refine zq_iast hc hH (by rfl) 34 (by decide +kernel) (hin) ?_
    rw [nI_clamp (n := i) (by omega)]
    have g2 : WI μ1 (z_ui μ2 58 i (μ1.1 51 i)) (i + 1) := by
      refine ⟨fun j hj => ?_, a_Fz_ui g.2.1 (a_mda_md (by decide +kernel) _), a_H_ui g.2.2 (bI_top _)⟩
      rw [z_ui_rd]
      by_cases e : j = i
      · rw [if_pos ⟨rfl, e⟩, e]
      · rw [if_neg (fun z => e z.2)]; exact g.1 j (by omega)
    generalize z_ui μ2 58 i (μ1.1 51 i) = μ3 at g2 ⊢
    refine z_rcs hc hH 2 (pc' := 31) (lv' := [(4, .int ((nI i) + 1)), (3, .int (nI k)), (1, .long (kb (wb (WM μ w q)) k)), (0, .ref 50)]) (st' := []) (μ' := μ3) (by rfl) ?_
    rw [nI_1]
    exact ih (i + 1) (by omega) μ3 g2
theorem wo58 (d' : Nat) (Z : zK) (hd : 7 ≤ d') (μ : zM) (w : Nat → Nat) (q : Nat) (hq : q ≤ 4) (hw : RW μ 51 w) (h4 : ∀ k, k < 34 → w k ≤ 4) (e4 : μ.1 50 4 = nI q) (hc : z_clo z_x0 mi_X7_waitsOf (z_C d') Z) (hr : z_ret mi_X7_waitsOf (fun r μ' => WR μ μ' ∧ r = some (.long (kb (wb (WM μ w q)) 34))) Z) (h13 : sn w 34 + 3 * q = 13) (k : Nat) (hk : k < 34) (μ1 μ2 : zM) (hR : WR μ μ1) (hI : WI μ1 μ2 34) (KC : ∀ μ5, WR μ μ5 → Z 0 22 [(3, .int (nI (k + 1))), (4, .int (nI 34)), (1, .long (kb (wb (WM μ w q)) (k + 1))), (0, .ref 50)] [] μ5) (KD : ∀ μ5, WR μ μ5 → Z 0 22 [(3, .int (nI (k + 1))), (1, .long (kb (wb (WM μ w q)) (k + 1))), (4, .int (nI 34)), (0, .ref 50)] [] μ5) : Z 0 58 [(4, .int (nI 34)), (3, .int (nI k)), (1, .long (kb (wb (WM μ w q)) k)), (0, .ref 50)] [] μ2 := by
  have hH := zh_X7_waitsOf
  have ink : vp_in (nI k) 34 := vp_in_nI hk (by decide)
  have ekc : (nI k).toNatClampNeg = k := nI_clamp (by omega)
  have ek : kb (wb (WM μ w q)) (k + 1) = if wb (WM μ w q) k = true then kb (wb (WM μ w q)) k ||| ((1 : Int64) <<< ((nI k).toInt64 &&& 63)) else kb (wb (WM μ w q)) k := rfl
  have F2 : a_Fz mdW μ μ2 := a_Fz_tr (by decide +kernel) hR.2.1 hI.2.1
  have r51 : ∀ j, μ2.1 51 j = μ.1 51 j := fun j => (a_Fz_at hI.2.1 51 j (a_md_row (by decide +kernel))).trans (hR.1 j)
  have r52 : μ2.1 52 = μ.1 52 := funext fun j => a_Fz_at F2 52 j (a_md_row (by decide +kernel))
  have r53 : μ2.1 53 = μ.1 53 := funext fun j => a_Fz_at F2 53 j (a_md_row (by decide +kernel))
  have e42 : μ2.1 50 4 = nI q := (a_Fz_at F2 50 4 (by decide +kernel)).trans e4
  have wk := hw k hk
  refine z_rcs hc hH 2 (pc' := 60) (lv' := [(4, .int (nI 34)), (3, .int (nI k)), (1, .long (kb (wb (WM μ w q)) k)), (0, .ref 50)]) (st' := [.int (nI k), .ref 50]) (μ' := μ2) (by rfl) ?_
  refine zq_call hc (z_cx_ok hH (by rfl)) (fc_X7_of d' (by omega) μ2 (nI k) ink q hq e42) (by decide +kernel) (fun r9 μ9 hq => ?_)
  obtain ⟨hμ9, rfl⟩ := hq
  rw [hμ9]
  clear hμ9 μ9
  show Z 0 63 [(4, .int (nI 34)), (3, .int (nI k)), (1, .long (kb (wb (WM μ w q)) k)), (0, .ref 50)] [.int (ofv (μ2.1 58 (nI k).toNatClampNeg) (μ2.1 52) (μ2.1 53) (nI k) q)] μ2
  rw [ekc, hI.1 k hk, hR.1 k, wk.1, r52, r53]
  refine z_rcs hc hH 1 (pc' := 64) (lv' := [(4, .int (nI 34)), (3, .int (nI k)), (1, .long (kb (wb (WM μ w q)) k)), (0, .ref 50)]) (st' := [.int 4, .int (ofv (nI (w k)) (μ.1 52) (μ.1 53) (nI k) q)]) (μ' := μ2) (by rfl) ?_
  refine zq_ic hc hH (by rfl) (tg := 70) (by rfl) (fun h1 => ?_) (fun h1 => ?_)
  · have h1 := cm_lt.mp h1
    refine z_rcs hc hH 4 (pc' := 76) (lv' := [(4, .int (nI 34)), (3, .int (nI k)), (1, .long (kb (wb (WM μ w q)) k)), (0, .ref 50)]) (st' := [.int (nI k), .ref 51, .int (nI k), .ref 51]) (μ' := μ2) (by rfl) ?_
    refine zq_iald hc hH (by rfl) 34 (by decide +kernel) (ink) ?_
    rw [ekc, r51, wk.1]
    refine z_rcs hc hH 2 (pc' := 79) (lv' := [(4, .int (nI 34)), (3, .int (nI k)), (1, .long (kb (wb (WM μ w q)) k)), (0, .ref 50)]) (st' := [.int ((nI (w k)) + 1), .int (nI k), .ref 51]) (μ' := μ2) (by rfl) ?_
    rw [nI_1]
    refine zq_iast hc hH (by rfl) 34 (by decide +kernel) (ink) ?_
    rw [ekc]
    have g1 : ∀ j, (z_ui μ2 51 k (nI (w k + 1))).1 51 j = if j = k then nI (w k + 1) else μ2.1 51 j := fun j => by
      rw [z_ui_rd]
      by_cases e : j = k
      · rw [if_pos ⟨rfl, e⟩, if_pos e]
      · rw [if_neg (fun z => e z.2), if_neg e]
    have F3 : a_Fz mdW μ (z_ui μ2 51 k (nI (w k + 1))) := a_Fz_ui F2 (a_mda_md (by decide +kernel) _)
    have H3 : a_H (z_ui μ2 51 k (nI (w k + 1))) := a_H_ui hI.2.2 (bI_top _)
    have e43 : (z_ui μ2 51 k (nI (w k + 1))).1 50 4 = nI q := by rw [z_ui_rd, if_neg (by omega)]; exact e42
    generalize z_ui μ2 51 k (nI (w k + 1)) = μ3 at g1 F3 H3 e43 ⊢
    have w3 : RW μ3 51 (ad1 w k) := fun j hj => by
      rw [g1]; unfold ad1
      by_cases e : j = k
      · rw [if_pos e, if_pos e, e]; exact ⟨rfl, by have := h4 k hk; omega⟩
      · rw [if_neg e, if_neg e, r51]; exact hw j hj
    refine z_rcs hc hH 2 (pc' := 82) (lv' := [(4, .int (nI 34)), (3, .int (nI k)), (1, .long (kb (wb (WM μ w q)) k)), (0, .ref 50)]) (st' := [.int 0, .ref 50]) (μ' := μ3) (by rfl) ?_
    refine zq_call hc (z_cx_ok hH (by rfl)) (fc_X7_apart d' (by omega) μ3 (ad1 w k) q hq w3 e43 H3 (by rw [sn_ad1 hk]; omega)) (by decide +kernel) (fun r4 μ4 hq4 => ?_)
    obtain ⟨rfl, hA⟩ := hq4
    show Z 0 85 [(4, .int (nI 34)), (3, .int (nI k)), (1, .long (kb (wb (WM μ w q)) k)), (0, .ref 50)] [] μ4
    refine z_rcs hc hH 4 (pc' := 91) (lv' := [(4, .int (nI 34)), (3, .int (nI k)), (1, .long (kb (wb (WM μ w q)) k)), (0, .ref 50)]) (st' := [.int (nI k), .ref 51, .int (nI k), .ref 51]) (μ' := μ4) (by rfl) ?_
    refine zq_iald hc hH (by rfl) 34 (by decide +kernel) (ink) ?_
    rw [ekc, hA.1, g1, if_pos rfl]
    refine z_rcs hc hH 2 (pc' := 94) (lv' := [(4, .int (nI 34)), (3, .int (nI k)), (1, .long (kb (wb (WM μ w q)) k)), (0, .ref 50)]) (st' := [.int ((nI (w k + 1)) - 1), .int (nI k), .ref 51]) (μ' := μ4) (by rfl) ?_
    rw [show nI (w k + 1) - 1 = nI (w k) from s_1 (w k + 1) (by have := h4 k hk; omega) (by omega)]
    refine zq_iast hc hH (by rfl) 34 (by decide +kernel) (ink) ?_
    rw [ekc]
    have hR5 : WR μ (z_ui μ4 51 k (nI (w k))) := by
      refine ⟨fun j => ?_, a_Fz_ui (a_Fz_tr (by decide +kernel) F3 hA.2.1) (a_mda_md (by decide +kernel) _), a_H_ui hA.2.2.1 (bI_top _)⟩
      rw [z_ui_rd]
      by_cases e : j = k
      · rw [if_pos ⟨rfl, e⟩, e, wk.1]
      · rw [if_neg (fun z => e z.2), hA.1, g1, if_neg e, r51]
    have e18 : (z_ui μ4 51 k (nI (w k))).1 50 18 = μ4.1 50 18 := by rw [z_ui_rd, if_neg (by omega)]
    generalize z_ui μ4 51 k (nI (w k)) = μ5 at hR5 e18 ⊢
    refine z_rcs hc hH 2 (pc' := 99) (lv' := [(4, .int (nI 34)), (3, .int (nI k)), (1, .long (kb (wb (WM μ w q)) k)), (0, .ref 50)]) (st' := [.int (μ5.1 50 18)]) (μ' := μ5) (by rfl) ?_
    have al : ¬ (4 : Int32) ≤ ofv (nI (w k)) (μ.1 52) (μ.1 53) (nI k) q := Int32.not_le.mpr h1
    rw [e18]
    by_cases c : FM (ad1 w k) q
    · rw [hA.2.2.2.1 c]
      have yW : WM μ w q k := ⟨h13, al, c⟩
      refine z_rcs hc hH 7 (pc' := 108) (lv' := [(1, .long ((kb (wb (WM μ w q)) k) ||| (1 <<< ((nI k).toInt64 &&& 63)))), (4, .int (nI 34)), (3, .int (nI k)), (0, .ref 50)]) (st' := []) (μ' := μ5) (by rfl) ?_
      refine z_rcs hc hH 2 (pc' := 22) (lv' := [(3, .int ((nI k) + 1)), (1, .long ((kb (wb (WM μ w q)) k) ||| (1 <<< ((nI k).toInt64 &&& 63)))), (4, .int (nI 34)), (0, .ref 50)]) (st' := []) (μ' := μ5) (by rfl) ?_
      rw [nI_1]
      rw [if_pos (wb_t yW)] at ek
      have q9 := KD μ5 hR5
      rw [ek] at q9
      exact q9
    · rw [hA.2.2.2.2 c]
      have nW : ¬ WM μ w q k := fun z => c z.2.2
      refine z_rcs hc hH 1 (pc' := 108) (lv' := [(4, .int (nI 34)), (3, .int (nI k)), (1, .long (kb (wb (WM μ w q)) k)), (0, .ref 50)]) (st' := []) (μ' := μ5) (by rfl) ?_
      refine z_rcs hc hH 2 (pc' := 22) (lv' := [(3, .int ((nI k) + 1)), (4, .int (nI 34)), (1, .long (kb (wb (WM μ w q)) k)), (0, .ref 50)]) (st' := []) (μ' := μ5) (by rfl) ?_
      rw [nI_1]
      rw [if_neg (by rw [wb_f nW]; decide)] at ek
      have q9 := KC μ5 hR5
      rw [ek] at q9
      exact q9
  · have h1 := cn_lt.mp h1
    refine z_rcs hc hH 1 (pc' := 108) (lv' := [(4, .int (nI 34)), (3, .int (nI k)), (1, .long (kb (wb (WM μ w q)) k)), (0, .ref 50)]) (st' := []) (μ' := μ2) (by rfl) ?_
    have nW : ¬ WM μ w q k := fun z => z.2.1 (Int32.not_lt.mp h1)
    have hR5 : WR μ μ2 := ⟨r51, F2, hI.2.2⟩
    refine z_rcs hc hH 2 (pc' := 22) (lv' := [(3, .int ((nI k) + 1)), (4, .int (nI 34)), (1, .long (kb (wb (WM μ w q)) k)), (0, .ref 50)]) (st' := []) (μ' := μ2) (by rfl) ?_
    rw [nI_1]
    rw [if_neg (by rw [wb_f nW]; decide)] at ek
    have q9 := KC μ2 hR5
    rw [ek] at q9
    exact q9
theorem wo22 (d' : Nat) (Z : zK) (hd : 7 ≤ d') (μ : zM) (w : Nat → Nat) (q : Nat) (hq : q ≤ 4) (hw : RW μ 51 w) (h4 : ∀ k, k < 34 → w k ≤ 4) (e4 : μ.1 50 4 = nI q) (hc : z_clo z_x0 mi_X7_waitsOf (z_C d') Z) (hr : z_ret mi_X7_waitsOf (fun r μ' => WR μ μ' ∧ r = some (.long (kb (wb (WM μ w q)) 34))) Z) (h13 : sn w 34 + 3 * q = 13) : ∀ n k, k + n = 34 → ∀ μ1, WR μ μ1 → Z 0 22 [(3, .int (nI k)), (1, .long (kb (wb (WM μ w q)) k)), (0, .ref 50)] [] μ1 ∧ Z 0 22 [(3, .int (nI k)), (4, .int (nI 34)), (1, .long (kb (wb (WM μ w q)) k)), (0, .ref 50)] [] μ1 ∧ Z 0 22 [(3, .int (nI k)), (1, .long (kb (wb (WM μ w q)) k)), (4, .int (nI 34)), (0, .ref 50)] [] μ1 := by
  have hH := zh_X7_waitsOf
  intro n
  induction n with
  | zero =>
    intro k hk μ1 hR
    have hk : k = 34 := by omega
    subst hk
    refine ⟨?_, ?_, ?_⟩
    · skip
      refine z_rcs hc hH 2 (pc' := 25) (lv' := [(3, .int (nI 34)), (1, .long (kb (wb (WM μ w q)) 34)), (0, .ref 50)]) (st' := [.int 34, .int (nI 34)]) (μ' := μ1) (by rfl) ?_
      refine zq_ic hc hH (by rfl) (tg := 114) (by rfl) (fun _ => ?_) (fun h9 => (zb_t (ge_nIt (n := 34) (i := 34) (by decide) (by decide)) h9).elim)
      refine z_rcs hc hH 1 (pc' := 115) (lv' := [(3, .int (nI 34)), (1, .long (kb (wb (WM μ w q)) 34)), (0, .ref 50)]) (st' := [.long (kb (wb (WM μ w q)) 34)]) (μ' := μ1) (by rfl) ?_
      exact hr 0 115 _ _ _ (some (.long (kb (wb (WM μ w q)) 34))) (by decide +kernel) (z_rx_ok hH (by rfl)) (⟨hR, rfl⟩)
    · skip
      refine z_rcs hc hH 2 (pc' := 25) (lv' := [(3, .int (nI 34)), (4, .int (nI 34)), (1, .long (kb (wb (WM μ w q)) 34)), (0, .ref 50)]) (st' := [.int 34, .int (nI 34)]) (μ' := μ1) (by rfl) ?_
      refine zq_ic hc hH (by rfl) (tg := 114) (by rfl) (fun _ => ?_) (fun h9 => (zb_t (ge_nIt (n := 34) (i := 34) (by decide) (by decide)) h9).elim)
      refine z_rcs hc hH 1 (pc' := 115) (lv' := [(3, .int (nI 34)), (4, .int (nI 34)), (1, .long (kb (wb (WM μ w q)) 34)), (0, .ref 50)]) (st' := [.long (kb (wb (WM μ w q)) 34)]) (μ' := μ1) (by rfl) ?_
      exact hr 0 115 _ _ _ (some (.long (kb (wb (WM μ w q)) 34))) (by decide +kernel) (z_rx_ok hH (by rfl)) (⟨hR, rfl⟩)
    · skip
      refine z_rcs hc hH 2 (pc' := 25) (lv' := [(3, .int (nI 34)), (1, .long (kb (wb (WM μ w q)) 34)), (4, .int (nI 34)), (0, .ref 50)]) (st' := [.int 34, .int (nI 34)]) (μ' := μ1) (by rfl) ?_
      refine zq_ic hc hH (by rfl) (tg := 114) (by rfl) (fun _ => ?_) (fun h9 => (zb_t (ge_nIt (n := 34) (i := 34) (by decide) (by decide)) h9).elim)
      refine z_rcs hc hH 1 (pc' := 115) (lv' := [(3, .int (nI 34)), (1, .long (kb (wb (WM μ w q)) 34)), (4, .int (nI 34)), (0, .ref 50)]) (st' := [.long (kb (wb (WM μ w q)) 34)]) (μ' := μ1) (by rfl) ?_
      exact hr 0 115 _ _ _ (some (.long (kb (wb (WM μ w q)) 34))) (by decide +kernel) (z_rx_ok hH (by rfl)) (⟨hR, rfl⟩)
  | succ n ih =>
    intro k hk μ1 hR
    have bd : Z 0 31 [(4, .int (nI 0)), (3, .int (nI k)), (1, .long (kb (wb (WM μ w q)) k)), (0, .ref 50)] [] μ1 := wo31 d' Z hd μ w q hq hw h4 e4 hc hr h13 k (by omega) μ1 (fun μ2 hI => wo58 d' Z hd μ w q hq hw h4 e4 hc hr h13 k (by omega) μ1 μ2 hR hI (fun μ5 h5 => (ih (k + 1) (by omega) μ5 h5).2.1) (fun μ5 h5 => (ih (k + 1) (by omega) μ5 h5).2.2)) 34 0 (by omega) μ1 ⟨fun j hj => absurd hj (by omega), a_Fz_rf _ _, hR.2.2⟩
    refine ⟨?_, ?_, ?_⟩
    · skip
      refine z_rcs hc hH 2 (pc' := 25) (lv' := [(3, .int (nI k)), (1, .long (kb (wb (WM μ w q)) k)), (0, .ref 50)]) (st' := [.int 34, .int (nI k)]) (μ' := μ1) (by rfl) ?_
      refine zq_ic hc hH (by rfl) (tg := 114) (by rfl) (fun h9 => (zb_t h9 (ge_nI (n := 34) (i := k) (by omega) (by decide))).elim) (fun _ => ?_)
      refine z_rcs hc hH 2 (pc' := 31) (lv' := [(4, .int 0), (3, .int (nI k)), (1, .long (kb (wb (WM μ w q)) k)), (0, .ref 50)]) (st' := []) (μ' := μ1) (by rfl) ?_
      exact bd
    · skip
      refine z_rcs hc hH 2 (pc' := 25) (lv' := [(3, .int (nI k)), (4, .int (nI 34)), (1, .long (kb (wb (WM μ w q)) k)), (0, .ref 50)]) (st' := [.int 34, .int (nI k)]) (μ' := μ1) (by rfl) ?_
      refine zq_ic hc hH (by rfl) (tg := 114) (by rfl) (fun h9 => (zb_t h9 (ge_nI (n := 34) (i := k) (by omega) (by decide))).elim) (fun _ => ?_)
      refine z_rcs hc hH 2 (pc' := 31) (lv' := [(4, .int 0), (3, .int (nI k)), (1, .long (kb (wb (WM μ w q)) k)), (0, .ref 50)]) (st' := []) (μ' := μ1) (by rfl) ?_
      exact bd
    · skip
      refine z_rcs hc hH 2 (pc' := 25) (lv' := [(3, .int (nI k)), (1, .long (kb (wb (WM μ w q)) k)), (4, .int (nI 34)), (0, .ref 50)]) (st' := [.int 34, .int (nI k)]) (μ' := μ1) (by rfl) ?_
      refine zq_ic hc hH (by rfl) (tg := 114) (by rfl) (fun h9 => (zb_t h9 (ge_nI (n := 34) (i := k) (by omega) (by decide))).elim) (fun _ => ?_)
      refine z_rcs hc hH 2 (pc' := 31) (lv' := [(4, .int 0), (3, .int (nI k)), (1, .long (kb (wb (WM μ w q)) k)), (0, .ref 50)]) (st' := []) (μ' := μ1) (by rfl) ?_
      exact bd
theorem fc_X7_waitsOf (d : Nat) (hd : 8 ≤ d) (μ : zM) (w : Nat → Nat) (q : Nat) (hq : q ≤ 4) (hw : RW μ 51 w) (h4 : ∀ k, k < 34 → w k ≤ 4) (e4 : μ.1 50 4 = nI q) (hH0 : a_H μ) : z_C d mi_X7_waitsOf [.ref 50] μ (fun r μ' => WR μ μ' ∧ r = some (.long (kb (wb (WM μ w q)) 34))) := by
  refine z_C_in (by decide) (by omega) (fun d' Z ed hc hr => ?_)
  have hH := zh_X7_waitsOf
  have es : sm (μ.1 51) 34 = nI (sn w 34) := sm_sn 34 (fun k hk => (hw k hk).1)
  have ub := sn_ub 34 h4
  refine z_rcs hc hH 3 (pc' := 3) (lv' := [(1, .long 0), (0, .ref 50)]) (st' := [.ref 50]) (μ' := μ) (by rfl) ?_
  refine zq_call hc (z_cx_ok hH (by rfl)) (fc_X7_inHand d' (by omega) μ) (by decide +kernel) (fun r9 μ9 hq => ?_)
  obtain ⟨hμ9, rfl⟩ := hq
  rw [hμ9]
  clear hμ9 μ9
  show Z 0 6 [(1, .long 0), (0, .ref 50)] [.int (sm (μ.1 51) 34)] μ
  refine z_rcs hc hH 6 (pc' := 15) (lv' := [(1, .long 0), (0, .ref 50)]) (st' := [.int 13, .int ((sm (μ.1 51) 34) + (3 * (μ.1 50 4)))]) (μ' := μ) (by rfl) ?_
  rw [es, e4, size_nI]
  refine zq_ic hc hH (by rfl) (tg := 20) (by rfl) (fun h1 => ?_) (fun h1 => ?_)
  · have h1 := cm_eq9.mp h1
    refine z_rcs hc hH 2 (pc' := 22) (lv' := [(3, .int 0), (1, .long 0), (0, .ref 50)]) (st' := []) (μ' := μ) (by rfl) ?_
    have h13 : sn w 34 + 3 * q = 13 := (nI_eq (show sn w 34 + 3 * q < 2 ^ 31 by omega) (show 13 < 2 ^ 31 by decide)).mp h1
    exact (wo22 d' Z (by omega) μ w q hq hw h4 e4 hc hr h13 34 0 (by omega) μ ⟨fun _ => rfl, a_Fz_rf _ _, hH0⟩).1
  · have h1 := cn_eq.mp h1
    refine z_rcs hc hH 1 (pc' := 19) (lv' := [(1, .long 0), (0, .ref 50)]) (st' := [.long 0]) (μ' := μ) (by rfl) ?_
    have n13 : ¬ sn w 34 + 3 * q = 13 := fun e => h1 (by rw [e]; rfl)
    exact hr 0 19 _ _ _ (some (.long 0)) (by decide +kernel) (z_rx_ok hH (by rfl)) (⟨⟨fun _ => rfl, a_Fz_rf _ _, hH0⟩, by rw [kb_0 34 (fun k _ => wb_f (fun z => n13 z.1))]⟩)
theorem ofv_cg {x k : Int32} {s s' l l' : Nat → Int32} : ∀ n, (∀ i, i < n → s i = s' i ∧ l i = l' i) → ofv x s l k n = ofv x s' l' k n := by
  intro n
  induction n with
  | zero => intro _; rfl
  | succ n ih => intro h; show ofv x s l k n + ct (s n) (l n) k = ofv x s' l' k n + ct (s' n) (l' n) k; rw [ih (fun i hi => h i (by omega)), (h n (by omega)).1, (h n (by omega)).2]
theorem a_H_TD {μ μ' : zM} (h : a_H μ) (ht : zTD μ μ') (h4 : bI 0 4 (μ.1 50 66)) : a_H μ' := by
  intro r k
  by_cases e1 : r = 51 ∨ r = 52 ∨ r = 53 ∨ r = 58
  · rcases e1 with rfl | rfl | rfl | rfl <;> exact bI_top _
  · by_cases e2 : r = 50 ∧ k = 4
    · obtain ⟨rfl, rfl⟩ := e2
      rw [ht.2.1]; exact h4
    · rw [ht.2.2.2.1 r k (by omega) (by omega) (by omega) (by omega) e2]; exact h r k
theorem zh_X7_deskWaits : zH mi_X7_deskWaits zt_X7_deskWaits 79 7 1 := hh_X7_deskWaits
theorem fc_X7_deskWaits (d : Nat) (hd : 9 ≤ d) (μ : zM) (w : Nat → Nat) (q : Nat) (hR : RD μ q) (hw : ∀ k, k < 34 → μ.1 74 k = nI (w k) ∧ w k ≤ 4) (hH0 : a_H μ) : z_C d mi_X7_deskWaits [.ref 50] μ (fun r μ' => a_H μ' ∧ a_Fz [(50, 0), (50, 4), (50, 18), (50, 16), (50, 13), (50, 14), (50, 15), (50, 17), (51, 9999), (52, 9999), (53, 9999), (54, 9999), (55, 9999), (58, 9999)] μ μ' ∧ r = some (.long (kb (wb (WX μ w q)) 34))) := by
  refine z_C_in (by decide) (by omega) (fun d' Z ed hc hr => ?_)
  have hH := zh_X7_deskWaits
  refine z_rcs hc hH 3 (pc' := 5) (lv' := [(0, .ref 50)]) (st' := []) (μ' := z_ui μ 50 0 0) (by rfl) ?_
  have H0 : a_H (z_ui μ 50 0 0) := a_H_ui hH0 (bI_top _)
  have e66 : (z_ui μ 50 0 0).1 50 66 = nI q := by rw [z_ui_rd, if_neg (by omega)]; exact hR.2.1
  have r74 : ∀ r j, r ≠ 50 → (z_ui μ 50 0 0).1 r j = μ.1 r j := fun r j h => by rw [z_ui_rd, if_neg (fun z => h z.1)]
  have F0 : a_Fz [(50, 0), (50, 4), (50, 18), (50, 16), (50, 13), (50, 14), (50, 15), (50, 17), (51, 9999), (52, 9999), (53, 9999), (54, 9999), (55, 9999), (58, 9999)] μ (z_ui μ 50 0 0) := a_Fz_ui (a_Fz_rf _ _) (by decide +kernel)
  generalize z_ui μ 50 0 0 = μ0 at H0 e66 r74 F0 ⊢
  refine z_rcs hc hH 1 (pc' := 6) (lv' := [(0, .ref 50)]) (st' := [.ref 50]) (μ' := μ0) (by rfl) ?_
  refine zq_call hc (z_cx_ok hH (by rfl)) (fc_X7_takeDesk d' (by omega) μ0 q hR.1 e66) (by decide +kernel) (fun r1 μ1 hq1 => ?_)
  obtain ⟨rfl, ht⟩ := hq1
  have l4 := hR.1
  have H1 := a_H_TD H0 ht (by rw [e66]; exact bd_nI (by omega) ⟨by omega, by omega⟩)
  have w1 : RW μ1 51 w := fun k hk => by rw [(ht.1 k hk).1, r74 74 k (by decide), (hw k hk).1]; exact ⟨rfl, by have := (hw k hk).2; omega⟩
  have e41 : μ1.1 50 4 = nI q := ht.2.1.trans e66
  have F1 : a_Fz [(50, 0), (50, 4), (50, 18), (50, 16), (50, 13), (50, 14), (50, 15), (50, 17), (51, 9999), (52, 9999), (53, 9999), (54, 9999), (55, 9999), (58, 9999)] μ μ1 := a_Fz_tr (m1 := [(50, 4), (51, 9999), (52, 9999), (53, 9999), (58, 9999)]) (by decide +kernel) F0 (fz_of (fun r k hm => ht.2.2.2.1 r k (md_ne hm (by decide +kernel)) (md_ne hm (by decide +kernel)) (md_ne hm (by decide +kernel)) (md_ne hm (by decide +kernel)) (md_nc hm (by decide +kernel))) ht.2.2.2.2)
  have so : ∀ i, i < q → μ1.1 52 i = μ.1 75 i ∧ μ1.1 53 i = μ.1 76 i := fun i hi => by have := ht.2.2.1 i (by rw [e66, nI_clamp (by omega)]; exact hi); rw [r74 75 i (by decide), r74 76 i (by decide)] at this; exact this
  have ub := sn_ub (w := w) (c := 4) 34 (fun k hk => (hw k hk).2)
  have eq9 : kb (wb (WM μ1 w q)) 34 = kb (wb (WX μ w q)) 34 := kb_congr (fun k hk => wb_iff (by
    have o1 : ofv (nI (w k)) (μ1.1 52) (μ1.1 53) (nI k) q = μ.1 11 k := by rw [ofv_cg q so, ← (hw k hk).1]; exact (hR.2.2.2.2.2.1 k hk).symm
    have s1 : (μ.1 9 5 + 3 * μ.1 9 4 = 13) ↔ sn w 34 + 3 * q = 13 := by
      rw [hR.2.2.2.2.1, hR.2.2.1, sm_sn (w := w) 34 (fun k hk => (hw k hk).1), size_nI]
      exact nI_eq (show sn w 34 + 3 * q < 2 ^ 31 by omega) (show 13 < 2 ^ 31 by decide)
    unfold WM WX
    rw [o1, s1]
    exact ⟨fun z => ⟨z.1, z.2.1, (FU_FM l4 (by rw [sn_ad1 hk]; omega)).mpr z.2.2⟩, fun z => ⟨z.1, z.2.1, (FU_FM l4 (by rw [sn_ad1 hk]; omega)).mp z.2.2⟩⟩))
  show Z 0 9 [(0, .ref 50)] [] μ1
  refine z_rcs hc hH 1 (pc' := 10) (lv' := [(0, .ref 50)]) (st' := [.ref 50]) (μ' := μ1) (by rfl) ?_
  refine zq_call hc (z_cx_ok hH (by rfl)) (fc_X7_waitsOf d' (by omega) μ1 w q l4 w1 (fun k hk => (hw k hk).2) e41 H1) (by decide +kernel) (fun r2 μ2 hq2 => ?_)
  obtain ⟨hW, rfl⟩ := hq2
  rw [eq9]
  show Z 0 13 [(0, .ref 50)] [.long (kb (wb (WX μ w q)) 34)] μ2
  exact hr 0 13 _ _ _ (some (.long (kb (wb (WX μ w q)) 34))) (by decide +kernel) (z_rx_ok hH (by rfl)) (⟨hW.2.2, a_Fz_tr (by decide +kernel) F1 hW.2.1, rfl⟩)
/-- both answer alike -/
theorem lc_dw {d : Nat} (hd : 10 ≤ d) {μ : zM} (h : LI μ) : ∃ V : Int64, z_C d mi_X6_deskWaits [.ref 0] μ (zR μ (.long V)) ∧ z_C d mi_X7_deskWaits [.ref 50] μ (fun r μ' => LI μ' ∧ r = some (.long V)) := by
  obtain ⟨hg, q, hR⟩ := id h
  have hw : ∀ k, k < 34 → μ.1 74 k = nI ((μ.1 74 k).toInt.toNat) ∧ (μ.1 74 k).toInt.toNat ≤ 4 := fun k hk => by
    obtain ⟨t, ht, e⟩ := a_nI (x := μ.1 74 k) (n := 5) (hR.2.2.2.2.2.2 k hk).1 (by have := (hR.2.2.2.2.2.2 k hk).2; omega) (by decide)
    rw [e, nI_toInt (by omega)]
    exact ⟨rfl, by show t ≤ 4; omega⟩
  generalize hwe : (fun k => (μ.1 74 k).toInt.toNat) = w
  have hw : ∀ k, k < 34 → μ.1 74 k = nI (w k) ∧ w k ≤ 4 := fun k hk => by rw [← hwe]; exact hw k hk
  have w10 : RW μ 10 w := fun k hk => by rw [hR.2.2.2.1 k hk, (hw k hk).1]; exact ⟨rfl, by have := (hw k hk).2; omega⟩
  have w11 : q = 0 → RW μ 11 w := fun e k hk => by
    have z := hR.2.2.2.2.2.1 k hk
    rw [e] at z
    have z : μ.1 11 k = μ.1 74 k := z
    rw [z, (hw k hk).1]
    exact ⟨rfl, by have := (hw k hk).2; omega⟩
  refine ⟨_, fx_X6_deskWaits d (by omega) μ w q w10 (fun k hk => (hw k hk).2) hR.1 hR.2.2.1 w11, z_C_mono (fc_X7_deskWaits d (by omega) μ w q hR hw hg.1) (fun r μ' z => ⟨h.keep z.1 z.2.1 (by decide) (by decide), z.2.2⟩)⟩
/-! the greatest of many offers does not ask for their order -/
noncomputable abbrev Q4 : Type := Int32 × Int32 × Int32 × Int64
/-- greater: base, then HAN, then FU, then FORMS -/
noncomputable def g4 (x y : Q4) : Prop := y.1 < x.1 ∨ (x.1 = y.1 ∧ (y.2.1 < x.2.1 ∨ (x.2.1 = y.2.1 ∧ (y.2.2.1 < x.2.2.1 ∨ (x.2.2.1 = y.2.2.1 ∧ y.2.2.2 < x.2.2.2)))))
theorem i32_tri (x y : Int32) (h1 : ¬ x < y) (h2 : ¬ y < x) : x = y := Int32.le_antisymm (Int32.not_lt.mp h2) (Int32.not_lt.mp h1)
theorem i64_tri (x y : Int64) (h1 : ¬ x < y) (h2 : ¬ y < x) : x = y := Int64.le_antisymm (Int64.not_lt.mp h2) (Int64.not_lt.mp h1)
theorem g4_anti {x y : Q4} (h1 : ¬ g4 x y) (h2 : ¬ g4 y x) : x = y := by
  unfold g4 at h1 h2
  have e1 : x.1 = y.1 := i32_tri _ _ (fun q => h2 (Or.inl q)) (fun q => h1 (Or.inl q))
  have e2 : x.2.1 = y.2.1 := i32_tri _ _ (fun q => h2 (Or.inr ⟨e1.symm, Or.inl q⟩)) (fun q => h1 (Or.inr ⟨e1, Or.inl q⟩))
  have e3 : x.2.2.1 = y.2.2.1 := i32_tri _ _ (fun q => h2 (Or.inr ⟨e1.symm, Or.inr ⟨e2.symm, Or.inl q⟩⟩)) (fun q => h1 (Or.inr ⟨e1, Or.inr ⟨e2, Or.inl q⟩⟩))
  have e4 : x.2.2.2 = y.2.2.2 := i64_tri _ _ (fun q => h2 (Or.inr ⟨e1.symm, Or.inr ⟨e2.symm, Or.inr ⟨e3.symm, q⟩⟩⟩)) (fun q => h1 (Or.inr ⟨e1, Or.inr ⟨e2, Or.inr ⟨e3, q⟩⟩⟩))
  exact Prod.ext e1 (Prod.ext e2 (Prod.ext e3 e4))
theorem g4_irr (x : Q4) : ¬ g4 x x := by
  rintro (h | ⟨-, h | ⟨-, h | ⟨-, h⟩⟩⟩)
  · exact Int32.lt_irrefl h
  · exact Int32.lt_irrefl h
  · exact Int32.lt_irrefl h
  · exact Int64.lt_irrefl h
theorem g4_tr {x y z : Q4} (h1 : g4 x y) (h2 : g4 y z) : g4 x z := by
  rcases h1 with h1 | ⟨e1, h1⟩
  · rcases h2 with h2 | ⟨e2, h2⟩
    · exact Or.inl (Int32.lt_trans h2 h1)
    · exact Or.inl (e2 ▸ h1)
  · rcases h2 with h2 | ⟨e2, h2⟩
    · exact Or.inl (e1 ▸ h2)
    · refine Or.inr ⟨e1.trans e2, ?_⟩
      rcases h1 with h1 | ⟨f1, h1⟩
      · rcases h2 with h2 | ⟨f2, h2⟩
        · exact Or.inl (Int32.lt_trans h2 h1)
        · exact Or.inl (f2 ▸ h1)
      · rcases h2 with h2 | ⟨f2, h2⟩
        · exact Or.inl (f1 ▸ h2)
        · refine Or.inr ⟨f1.trans f2, ?_⟩
          rcases h1 with h1 | ⟨k1, h1⟩
          · rcases h2 with h2 | ⟨k2, h2⟩
            · exact Or.inl (Int32.lt_trans h2 h1)
            · exact Or.inl (k2 ▸ h1)
          · rcases h2 with h2 | ⟨k2, h2⟩
            · exact Or.inl (k1 ▸ h2)
            · exact Or.inr ⟨k1.trans k2, Int64.lt_trans h2 h1⟩
/-- no greater, on and on -/
theorem n4_tr {x y z : Q4} (h1 : ¬ g4 x y) (h2 : ¬ g4 y z) : ¬ g4 x z := by
  intro h
  by_cases c : g4 y x
  · exact h2 (g4_tr c h)
  · exact h2 (g4_anti h1 c ▸ h)
/-- b is the greatest of b0 and of all that S has -/
noncomputable def BS (S : Q4 → Prop) (b0 b : Q4) : Prop := (b = b0 ∨ S b) ∧ ¬ g4 b0 b ∧ ∀ x, S x → ¬ g4 x b
theorem BS_rf {S : Q4 → Prop} {b : Q4} (h : ∀ x, ¬ S x) : BS S b b := ⟨Or.inl rfl, g4_irr b, fun x hx => absurd hx (h x)⟩
theorem BS.tr {S T : Q4 → Prop} {b0 b1 b2 : Q4} (h1 : BS S b0 b1) (h2 : BS T b1 b2) : BS (fun x => S x ∨ T x) b0 b2 := by
  refine ⟨?_, n4_tr h1.2.1 h2.2.1, fun x hx => ?_⟩
  · rcases h2.1 with e | e
    · rw [e]
      exact h1.1.imp id Or.inl
    · exact Or.inr (Or.inr e)
  · rcases hx with hx | hx
    · exact n4_tr (h1.2.2 x hx) h2.2.1
    · exact h2.2.2 x hx
theorem BS.iff {S T : Q4 → Prop} {b0 b : Q4} (h : BS S b0 b) (e : ∀ x, S x ↔ T x) : BS T b0 b := ⟨h.1.imp id (e b).mp, h.2.1, fun x hx => h.2.2 x ((e x).mpr hx)⟩
theorem BS.uniq {S : Q4 → Prop} {b0 b c : Q4} (h1 : BS S b0 b) (h2 : BS S b0 c) : b = c := by
  refine g4_anti (fun g => ?_) (fun g => ?_)
  · rcases h1.1 with e | e
    · exact h2.2.1 (e ▸ g)
    · exact h2.2.2 b e g
  · rcases h2.1 with e | e
    · exact h1.2.1 (e ▸ g)
    · exact h1.2.2 c e g
theorem BS_one {b0 x b : Q4} (h : (g4 x b0 ∧ b = x) ∨ (¬ g4 x b0 ∧ b = b0)) : BS (fun y => y = x) b0 b := by
  rcases h with ⟨g, rfl⟩ | ⟨g, rfl⟩
  · exact ⟨Or.inr rfl, fun q => g4_irr b (g4_tr g q), fun y hy => by rw [hy]; exact g4_irr b⟩
  · exact ⟨Or.inl rfl, g4_irr b, fun y hy => by rw [hy]; exact g⟩
/-- the class takes its first offer as it is; the reference begins with nothing and leaves out what has no FORM: base, HAN and FORMS are the same -/
theorem BS_both {S : Q4 → Prop} {f c m : Q4} (hf : S f) (hc : BS S f c) (hm : BS (fun x => S x ∧ ¬ x.2.2.2 = 0) (0, 0, 0, 0) m) (hz : ∀ x, S x → x.2.2.2 = 0 → x.1 = 0 ∧ x.2.1 = 0) (hp : ∀ x, S x → ¬ x.2.2.2 = 0 → 0 < x.1) : c.1 = m.1 ∧ c.2.1 = m.2.1 ∧ c.2.2.2 = m.2.2.2 := by
  have hS : S c := by
    rcases hc.1 with e | e
    · rw [e]; exact hf
    · exact e
  by_cases h : ∃ x, S x ∧ ¬ x.2.2.2 = 0
  · obtain ⟨x, hx, hx0⟩ := h
    have c0 : ¬ c.2.2.2 = 0 := fun e => hc.2.2 x hx (Or.inl (by rw [(hz c hS e).1]; exact hp x hx hx0))
    have hmS : S m ∧ ¬ m.2.2.2 = 0 := by
      rcases hm.1 with e | e
      · exact absurd (Or.inl (by rw [e]; exact hp x hx hx0)) (hm.2.2 x ⟨hx, hx0⟩)
      · exact e
    have e : c = m := g4_anti (hm.2.2 c ⟨hS, c0⟩) (hc.2.2 m hmS.1)
    rw [e]
    exact ⟨rfl, rfl, rfl⟩
  · have c0 : c.2.2.2 = 0 := Decidable.byContradiction fun e => h ⟨c, hS, e⟩
    have m0 : m = (0, 0, 0, 0) := hm.1.resolve_right (fun e => h ⟨m, e⟩)
    have := hz c hS c0
    rw [m0]
    exact ⟨this.1, this.2, c0⟩
/-! all ways in which tiles fall apart, as rows of SETS -/
noncomputable abbrev SL : Type := List (Nat × Nat)
noncomputable def flt (t r : Nat → Nat) : Nat → Nat → SL
  | 0, _ => []
  | n + 1, i => List.replicate (t i) (1, i) ++ (List.replicate (r i) (0, i) ++ flt t r n (i + 1))
theorem flt_congr {t r t' r' : Nat → Nat} : ∀ n i, (∀ j, i ≤ j → j < i + n → t j = t' j ∧ r j = r' j) → flt t r n i = flt t' r' n i := by
  intro n
  induction n with
  | zero => intro i _; rfl
  | succ n ih =>
    intro i h
    show List.replicate (t i) _ ++ (List.replicate (r i) _ ++ flt t r n (i + 1)) = List.replicate (t' i) _ ++ (List.replicate (r' i) _ ++ flt t' r' n (i + 1))
    rw [(h i (by omega) (by omega)).1, (h i (by omega) (by omega)).2, ih (i + 1) (fun j h1 h2 => h j (by omega) (by omega))]
theorem flt_skip {t r : Nat → Nat} : ∀ n i k, i ≤ k → k ≤ i + n → (∀ j, i ≤ j → j < k → t j = 0 ∧ r j = 0) → flt t r n i = flt t r (n - (k - i)) k := by
  intro n
  induction n with
  | zero => intro i k h1 h2 _; rw [show k = i by omega, Nat.sub_self]
  | succ n ih =>
    intro i k h1 h2 hz
    by_cases e : k = i
    · rw [e, Nat.sub_self]; rfl
    · have z := hz i (by omega) (by omega)
      show List.replicate (t i) _ ++ (List.replicate (r i) _ ++ flt t r n (i + 1)) = _
      rw [z.1, z.2]
      show flt t r n (i + 1) = _
      rw [ih (i + 1) k (by omega) (by omega) (fun j h3 h4 => hz j (by omega) h4), show n - (k - (i + 1)) = n + 1 - (k - i) by omega]
noncomputable def up1 (t : Nat → Nat) (k : Nat) : Nat → Nat := fun j => if j = k then t j + 1 else t j
noncomputable def dn1 (t : Nat → Nat) (k : Nat) : Nat → Nat := fun j => if j = k then t j - 1 else t j
theorem up_dn {t : Nat → Nat} {k : Nat} (h : 0 < t k) : up1 (dn1 t k) k = t := by
  funext j
  unfold up1 dn1
  by_cases e : j = k
  · rw [if_pos e, if_pos e]; rw [e]; omega
  · rw [if_neg e, if_neg e]
theorem flt_three {t r : Nat → Nat} {k : Nat} (hk : k < 34) (hz : ∀ j, j < k → t j = 0 ∧ r j = 0) : flt (up1 t k) r 34 0 = (1, k) :: flt t r 34 0 := by
  have u : ∀ j, j ≠ k → up1 t k j = t j := fun j hj => by unfold up1; rw [if_neg hj]
  rw [flt_skip 34 0 k (by omega) (by omega) (fun j _ hj => ⟨by rw [u j (by omega)]; exact (hz j hj).1, (hz j hj).2⟩), flt_skip (t := t) 34 0 k (by omega) (by omega) (fun j _ hj => hz j hj)]
  rw [show 34 - (k - 0) = (33 - k) + 1 by omega]
  show List.replicate (up1 t k k) _ ++ (List.replicate (r k) _ ++ flt (up1 t k) r (33 - k) (k + 1)) = (1, k) :: (List.replicate (t k) _ ++ (List.replicate (r k) _ ++ flt t r (33 - k) (k + 1)))
  rw [flt_congr (t := up1 t k) (t' := t) (r' := r) (33 - k) (k + 1) (fun j h1 _ => ⟨u j (by omega), rfl⟩), show up1 t k k = t k + 1 by unfold up1; rw [if_pos rfl]]
  rfl
theorem flt_run {t r : Nat → Nat} {k : Nat} (hk : k < 34) (hz : ∀ j, j < k → t j = 0 ∧ r j = 0) (ht : t k = 0) : flt t (up1 r k) 34 0 = (0, k) :: flt t r 34 0 := by
  have u : ∀ j, j ≠ k → up1 r k j = r j := fun j hj => by unfold up1; rw [if_neg hj]
  rw [flt_skip 34 0 k (by omega) (by omega) (fun j _ hj => ⟨(hz j hj).1, by rw [u j (by omega)]; exact (hz j hj).2⟩), flt_skip (r := r) 34 0 k (by omega) (by omega) (fun j _ hj => hz j hj)]
  rw [show 34 - (k - 0) = (33 - k) + 1 by omega]
  show List.replicate (t k) _ ++ (List.replicate (up1 r k k) _ ++ flt t (up1 r k) (33 - k) (k + 1)) = (0, k) :: (List.replicate (t k) _ ++ (List.replicate (r k) _ ++ flt t r (33 - k) (k + 1)))
  rw [flt_congr (r := up1 r k) (t' := t) (r' := r) (33 - k) (k + 1) (fun j h1 _ => ⟨rfl, u j (by omega)⟩), show up1 r k k = r k + 1 by unfold up1; rw [if_pos rfl], ht]
  rfl
theorem sh1_up (r : Nat → Nat) (k : Nat) : ∀ j, sh1 (up1 r k) j = sh1 r j + (if j = k + 1 then 1 else 0) := by
  intro j
  cases j with
  | zero => show 0 = 0 + _; rw [if_neg (by omega)]
  | succ j =>
    show up1 r k j = r j + _
    unfold up1
    by_cases c : j = k
    · rw [if_pos c, if_pos (by omega)]
    · rw [if_neg c, if_neg (by omega)]; rfl
theorem sh2_up (r : Nat → Nat) (k : Nat) : ∀ j, sh2 (up1 r k) j = sh2 r j + (if j = k + 2 then 1 else 0) := by
  intro j
  cases j with
  | zero => show 0 = 0 + _; rw [if_neg (by omega)]
  | succ j =>
    show sh1 (up1 r k) j = sh1 r j + _
    rw [sh1_up]
    by_cases c : j = k + 1
    · rw [if_pos c, if_pos (by omega)]
    · rw [if_neg c, if_neg (by omega)]
theorem sn_up {f : Nat → Nat} {k n : Nat} (hk : k < n) : sn (up1 f k) n = sn f n + 1 := (sn_upd (f := up1 f k) (g := f) (d := 1) hk (fun j _ hj => by unfold up1; rw [if_neg hj]) (by unfold up1; rw [if_pos rfl])).symm
/-- what the ways offer: O of each way -/
noncomputable def SS (O : SL → Q4 → Prop) (pf : SL) (w : Nat → Nat) (m last : Nat) (x : Q4) : Prop := ∃ t r, PW w t r ∧ sn (fun k => t k + r k) 34 = m ∧ (∀ k, last = k + 1 → t k = 0) ∧ O (pf ++ flt t r 34 0) x
theorem PW.z {w t r : Nat → Nat} (h : PW w t r) {k : Nat} (hk : k < 34) (h0 : w k = 0) : t k = 0 ∧ r k = 0 := by
  have := h.2 k hk
  omega
theorem SS_0 {O : SL → Q4 → Prop} {pf : SL} {w : Nat → Nat} {last : Nat} {x : Q4} (hw : ∀ k, k < 34 → w k = 0) : SS O pf w 0 last x ↔ O pf x := by
  have e : ∀ t r, (∀ j, j < 34 → t j = 0 ∧ r j = 0) → pf ++ flt t r 34 0 = pf := fun t r hz => by
    rw [flt_skip 34 0 34 (by omega) (by omega) (fun j _ hj => hz j hj)]
    exact List.append_nil pf
  constructor
  · rintro ⟨t, r, h1, h2, h3, h4⟩
    rw [e t r (fun j hj => h1.z hj (hw j hj))] at h4
    exact h4
  · intro h
    obtain ⟨t, r, hp⟩ := PW_dc 0 w 0 0 hw
    have z : ∀ j, j < 34 → t j = 0 ∧ r j = 0 := fun j hj => hp.z hj (hw j hj)
    refine ⟨fun j => if j < 34 then t j else 0, r, ⟨hp.1, fun k hk => by show w k = 3 * (if k < 34 then t k else 0) + r k + sh1 r k + sh2 r k; rw [if_pos hk]; exact hp.2 k hk⟩, ?_, fun k _ => ?_, ?_⟩
    · rw [sn_congr (f := fun _ => 0) (fun k hk => by show (if k < 34 then t k else 0) + r k = 0; rw [if_pos hk, (z k hk).1, (z k hk).2])]; rfl
    · show (if k < 34 then t k else 0) = 0
      by_cases c : k < 34
      · rw [if_pos c]; exact (z k c).1
      · rw [if_neg c]
    · rw [e _ _ (fun j hj => ⟨by show (if j < 34 then t j else 0) = 0; rw [if_pos hj]; exact (z j hj).1, (z j hj).2⟩)]; exact h
theorem SS_n {O : SL → Q4 → Prop} {pf : SL} {w : Nat → Nat} {last : Nat} {x : Q4} (hw : ∃ k, k < 34 ∧ w k ≠ 0) : ¬ SS O pf w 0 last x := by
  rintro ⟨t, r, h1, h2, -, -⟩
  obtain ⟨k, hk, hn⟩ := hw
  have := h1.sum
  have := sn_le (f := w) hk
  omega
theorem SS_e {O : SL → Q4 → Prop} {pf : SL} {w : Nat → Nat} {m last : Nat} {x : Q4} (hw : ∀ k, k < 34 → w k = 0) : ¬ SS O pf w (m + 1) last x := by
  rintro ⟨t, r, h1, h2, -, -⟩
  have := h1.sum
  rw [sn_congr (f := fun _ => 0) (fun k hk => hw k hk)] at this
  have z : sn (fun _ => 0) 34 = 0 := rfl
  omega
theorem SS_s {O : SL → Q4 → Prop} {pf : SL} {w : Nat → Nat} {m last k : Nat} {x : Q4} (hk : k < 34) (hwk : w k ≠ 0) (hz : ∀ j, j < k → w j = 0) (hl : last = 0 ∨ last ≤ k + 1) : SS O pf w (m + 1) last x ↔ ((3 ≤ w k ∧ last ≠ k + 1) ∧ SS O (pf ++ [(1, k)]) (sub3 w k) m 0 x) ∨ ((rs k ∧ 0 < w (k + 1) ∧ 0 < w (k + 2)) ∧ SS O (pf ++ [(0, k)]) (subr w k) m (k + 1) x) := by
  constructor
  · rintro ⟨t, r, h1, h2, h3, h4⟩
    have below : ∀ j, j < k → t j = 0 ∧ r j = 0 := fun j hj => h1.z (by omega) (hz j hj)
    have e1 : sh1 r k = 0 := by
      cases k with
      | zero => rfl
      | succ k => exact (below k (by omega)).2
    have e2 : sh2 r k = 0 := by
      cases k with
      | zero => rfl
      | succ k =>
        cases k with
        | zero => rfl
        | succ k => exact (below k (by omega)).2
    have ek := h1.2 k hk
    by_cases ht : t k = 0
    · right
      have hr : r k ≠ 0 := by omega
      have hrs := h1.1 k hr
      have k27 := hrs.1
      have w1 := h1.2 (k + 1) (by omega)
      have w2 := h1.2 (k + 2) (by omega)
      have w1 : w (k + 1) = 3 * t (k + 1) + r (k + 1) + r k + sh1 r k := w1
      have w2 : w (k + 2) = 3 * t (k + 2) + r (k + 2) + r (k + 1) + r k := w2
      have eu := up_dn (t := r) (k := k) (by omega)
      refine ⟨⟨hrs, by omega, by omega⟩, t, dn1 r k, ⟨fun j hj => ?_, fun j hj => ?_⟩, ?_, fun k' e => by rw [show k' = k by omega]; exact ht, ?_⟩
      · by_cases c : j = k
        · rw [c]; exact hrs
        · exact h1.1 j (by unfold dn1 at hj; rw [if_neg c] at hj; exact hj)
      · have e := h1.2 j hj
        rw [← eu, sh1_up, sh2_up] at e
        have ej : up1 (dn1 r k) k j = dn1 r k j + (if j = k then 1 else 0) := by
          unfold up1
          by_cases c : j = k
          · rw [if_pos c, if_pos c]
          · rw [if_neg c, if_neg c]; rfl
        rw [ej] at e
        unfold subr
        by_cases c0 : j = k
        · rw [if_pos c0, if_neg (by omega), if_neg (by omega)] at e
          rw [if_pos (Or.inl c0)]
          omega
        · rw [if_neg c0] at e
          by_cases c1 : j = k + 1
          · rw [if_pos c1, if_neg (by omega)] at e
            rw [if_pos (Or.inr (Or.inl c1))]
            omega
          · rw [if_neg c1] at e
            by_cases c2 : j = k + 2
            · rw [if_pos c2] at e
              rw [if_pos (Or.inr (Or.inr c2))]
              omega
            · rw [if_neg c2] at e
              rw [if_neg (by omega)]
              omega
      · have u := sn_up (f := fun j => t j + dn1 r k j) hk
        have e : up1 (fun j => t j + dn1 r k j) k = fun j => t j + r j := by
          funext j
          unfold up1 dn1
          dsimp only
          by_cases c : j = k
          · rw [if_pos c, if_pos c]; rw [c]; omega
          · rw [if_neg c, if_neg c]
        rw [e] at u
        omega
      · rw [List.append_assoc]
        rw [← eu, flt_run hk (fun j hj => ⟨(below j hj).1, by unfold dn1; rw [if_neg (by omega)]; exact (below j hj).2⟩) ht] at h4
        exact h4
    · left
      have eu := up_dn (t := t) (k := k) (by omega)
      refine ⟨⟨by omega, fun e => ht (h3 k e)⟩, dn1 t k, r, ⟨h1.1, fun j hj => ?_⟩, ?_, fun k' e => absurd e (by omega), ?_⟩
      · have e := h1.2 j hj
        unfold sub3 dn1
        by_cases c : j = k
        · subst c; rw [if_pos rfl, if_pos rfl]; omega
        · rw [if_neg c, if_neg c]; exact e
      · have u := sn_up (f := fun j => dn1 t k j + r j) hk
        have e : up1 (fun j => dn1 t k j + r j) k = fun j => t j + r j := by
          funext j
          unfold up1 dn1
          dsimp only
          by_cases c : j = k
          · rw [if_pos c, if_pos c]; rw [c]; omega
          · rw [if_neg c, if_neg c]
        rw [e] at u
        omega
      · rw [List.append_assoc]
        rw [← eu, flt_three hk (fun j hj => ⟨by unfold dn1; rw [if_neg (by omega)]; exact (below j hj).1, (below j hj).2⟩)] at h4
        exact h4
  · rintro (⟨⟨g1, g2⟩, t, r, h1, h2, h3, h4⟩ | ⟨⟨g1, g2, g3⟩, t, r, h1, h2, h3, h4⟩)
    · have below : ∀ j, j < k → t j = 0 ∧ r j = 0 := fun j hj => h1.z (by omega) (by unfold sub3; rw [if_neg (by omega)]; exact hz j hj)
      refine ⟨up1 t k, r, ⟨h1.1, fun j hj => ?_⟩, ?_, fun k' e => ?_, ?_⟩
      · have e := h1.2 j hj
        unfold sub3 at e
        unfold up1
        by_cases c : j = k
        · subst c; rw [if_pos rfl] at e; rw [if_pos rfl]; omega
        · rw [if_neg c] at e; rw [if_neg c]; exact e
      · have u := sn_up (f := fun j => t j + r j) hk
        have e : up1 (fun j => t j + r j) k = fun j => up1 t k j + r j := by
          funext j
          unfold up1
          try dsimp only
          by_cases c : j = k
          · rw [if_pos c, if_pos c]; omega
          · rw [if_neg c, if_neg c]
        rw [e] at u
        omega
      · have : k' < k := by omega
        unfold up1
        rw [if_neg (by omega)]
        exact (below k' this).1
      · rw [flt_three hk below]
        rw [List.append_assoc] at h4
        exact h4
    · have below : ∀ j, j < k → t j = 0 ∧ r j = 0 := fun j hj => h1.z (by omega) (by unfold subr; rw [if_neg (by omega)]; exact hz j hj)
      have ht := h3 k rfl
      refine ⟨t, up1 r k, ⟨fun j hj => ?_, fun j hj => ?_⟩, ?_, fun k' e => ?_, ?_⟩
      · by_cases c : j = k
        · rw [c]; exact g1
        · exact h1.1 j (by unfold up1 at hj; rw [if_neg c] at hj; exact hj)
      · have e := h1.2 j hj
        unfold subr at e
        rw [sh1_up, sh2_up]
        unfold up1
        by_cases c0 : j = k
        · subst c0
          rw [if_pos (Or.inl rfl)] at e
          rw [if_pos rfl, if_neg (by omega), if_neg (by omega)]
          omega
        · rw [if_neg c0]
          by_cases c1 : j = k + 1
          · rw [if_pos (Or.inr (Or.inl c1))] at e
            rw [if_pos c1, if_neg (by omega)]
            rw [← c1] at g2
            omega
          · by_cases c2 : j = k + 2
            · rw [if_pos (Or.inr (Or.inr c2))] at e
              rw [if_neg c1, if_pos c2]
              rw [← c2] at g3
              omega
            · rw [if_neg (by omega)] at e
              rw [if_neg c1, if_neg c2]
              omega
      · have u := sn_up (f := fun j => t j + r j) hk
        have e : up1 (fun j => t j + r j) k = fun j => t j + up1 r k j := by
          funext j
          unfold up1
          try dsimp only
          by_cases c : j = k
          · rw [if_pos c, if_pos c]; omega
          · rw [if_neg c, if_neg c]
        rw [e] at u
        omega
      · by_cases c : k' = k
        · rw [c]; exact ht
        · exact (below k' (by omega)).1
      · rw [flt_run hk below ht]
        rw [List.append_assoc] at h4
        exact h4
/-! the reference: how tiles fall apart, exactly -/
set_option maxRecDepth 8000
noncomputable abbrev mdR : List (Nat × Nat) := [(50, 13), (50, 14), (50, 15), (50, 16), (50, 17), (50, 18), (50, 21), (50, 22), (50, 23), (50, 24), (50, 25), (51, 9999), (54, 9999), (55, 9999), (56, 9999), (57, 9999)]
noncomputable abbrev mdY : List (Nat × Nat) := [(50, 13), (50, 14), (50, 15), (50, 16), (50, 17), (50, 21), (50, 22), (50, 23), (50, 24), (50, 25), (56, 9999), (57, 9999)]
/-- the reference's best -/
noncomputable def bq (μ : zM) : Q4 := (μ.1 50 13, μ.1 50 14, μ.1 50 15, μ.2.1 50 17)
theorem bq_ui {μ : zM} {r k : Nat} {x : Int32} (h : r ≠ 50) : bq (z_ui μ r k x) = bq μ := by
  unfold bq
  rw [z_ui_rd, if_neg (fun z => h z.1.symm), z_ui_rd, if_neg (fun z => h z.1.symm), z_ui_rd, if_neg (fun z => h z.1.symm), z_ui_2]
theorem bq_18 {μ : zM} {x : Int32} : bq (z_ui μ 50 18 x) = bq μ := by
  unfold bq
  rw [z_ui_rd, if_neg (by omega), z_ui_rd, if_neg (by omega), z_ui_rd, if_neg (by omega), z_ui_2]
noncomputable def SV (md : Nat) (μ μ' : zM) (S : Q4 → Prop) : Prop := (∀ j, μ'.1 51 j = μ.1 51 j) ∧ (∀ i, i < md → μ'.1 54 i = μ.1 54 i ∧ μ'.1 55 i = μ.1 55 i) ∧ a_Fz mdR μ μ' ∧ a_H μ' ∧ BS S (bq μ) (bq μ')
theorem SV_rf {md : Nat} {μ : zM} {S : Q4 → Prop} (h : a_H μ) (hb : ∀ x, ¬ S x) : SV md μ μ S := ⟨fun _ => rfl, fun _ _ => ⟨rfl, rfl⟩, a_Fz_rf _ _, h, BS_rf hb⟩
theorem SV.tr {md : Nat} {μ μ1 μ2 : zM} {A B : Q4 → Prop} (h1 : SV md μ μ1 A) (h2 : SV md μ1 μ2 B) : SV md μ μ2 (fun x => A x ∨ B x) := ⟨fun j => (h2.1 j).trans (h1.1 j), fun i hi => ⟨(h2.2.1 i hi).1.trans (h1.2.1 i hi).1, (h2.2.1 i hi).2.trans (h1.2.1 i hi).2⟩, a_Fz_tr (by decide +kernel) h1.2.2.1 h2.2.2.1, h2.2.2.2.1, h1.2.2.2.2.tr h2.2.2.2.2⟩
theorem SV.iff {md : Nat} {μ μ1 : zM} {A B : Q4 → Prop} (h : SV md μ μ1 A) (e : ∀ x, A x ↔ B x) : SV md μ μ1 B := ⟨h.1, h.2.1, h.2.2.1, h.2.2.2.1, h.2.2.2.2.iff e⟩
theorem SV.rw {md : Nat} {μ μ' : zM} {S : Q4 → Prop} {w : Nat → Nat} (h : SV md μ μ' S) (hw : RW μ 51 w) : RW μ' 51 w := fun k hk => by rw [h.1]; exact hw k hk
noncomputable def PX (μ : zM) (pf : SL) : Prop := ∀ i, i < pf.length → μ.1 54 i = nI (pf.getD i (0, 0)).1 ∧ μ.1 55 i = nI (pf.getD i (0, 0)).2
noncomputable def PV (pf : SL) : Prop := ∀ x ∈ pf, x.1 ≤ 1 ∧ x.2 < 34 ∧ (x.1 = 0 → rs x.2)
theorem SV.px {md : Nat} {μ μ' : zM} {S : Q4 → Prop} {pf : SL} (h : SV md μ μ' S) (hl : pf.length = md) (hp : PX μ pf) : PX μ' pf := fun i hi => by rw [(h.2.1 i (by omega)).1, (h.2.1 i (by omega)).2]; exact hp i hi
theorem PX_add {μ μ' : zM} {pf : SL} {a k : Nat} (hp : PX μ pf) (h : ∀ i, i < pf.length → μ'.1 54 i = μ.1 54 i ∧ μ'.1 55 i = μ.1 55 i) (h4 : μ'.1 54 pf.length = nI a) (h5 : μ'.1 55 pf.length = nI k) : PX μ' (pf ++ [(a, k)]) := by
  intro i hi
  rw [List.length_append] at hi
  have hi : i < pf.length + 1 := hi
  by_cases e : i = pf.length
  · subst e
    have e9 : (pf ++ [(a, k)]).getD pf.length (0, 0) = (a, k) := by rw [List.getD_eq_getElem?_getD, List.getElem?_append_right (Nat.le_refl _), Nat.sub_self]; rfl
    rw [h4, h5, e9]
    exact ⟨rfl, rfl⟩
  · have e9 : (pf ++ [(a, k)]).getD i (0, 0) = pf.getD i (0, 0) := by rw [List.getD_eq_getElem?_getD, List.getElem?_append_left (by omega), ← List.getD_eq_getElem?_getD]
    rw [(h i (by omega)).1, (h i (by omega)).2, e9]
    exact hp i (by omega)
theorem PV_add {pf : SL} {a k : Nat} (h : PV pf) (h1 : a ≤ 1) (h2 : k < 34) (h3 : a = 0 → rs k) : PV (pf ++ [(a, k)]) := fun x hx => by
  rcases List.mem_append.mp hx with q | q
  · exact h x q
  · rw [List.mem_singleton.mp q]; exact ⟨h1, h2, h3⟩
/-- one way is reckoned -/
noncomputable def HW (dw : Nat) (μ0 : zM) (q p : Nat) (O : SL → Q4 → Prop) : Prop := ∀ (d : Nat) (μ : zM) (sl : SL), dw ≤ d → a_H μ → a_Fz mdR μ0 μ → sl.length + q = 4 → PX μ sl → PV sl → z_C d mi_X7_way [.ref 50, .int (nI p)] μ (fun r μ' => r = none ∧ a_H μ' ∧ a_Fz mdY μ μ' ∧ BS (O sl) (bq μ) (bq μ'))
theorem rt3 (d' : Nat) (Z : zK) (μ : zM) (B : Q4 → Prop) (md : Nat) (hc : z_clo z_x0 mi_X7_sets (z_C d') Z) (hr : z_ret mi_X7_sets (fun r μ' => r = none ∧ SV md μ μ' B) Z) (κ : zM) (q p : Nat) (O : SL → Q4 → Prop) (eκ : κ.1 50 4 = nI q) (m k : Nat) (x1 x6 : Int32) (hm : md + (m + 1) + q = 4) (hk : k < 34) (ih : ∀ (μ : zM) (w : Nat → Nat) (fr md last : Nat) (pf : SL), a_H μ → a_Fz mdR κ μ → RW μ 51 w → md + m + q = 4 → fr ≤ 34 → (∀ j, j < fr → w j = 0) → (last = 0 ∨ last = fr + 1) → pf.length = md → PX μ pf → PV pf → (∀ k, k < 34 → ((0 < md ∧ μ.1 54 (md - 1) = 0 ∧ μ.1 55 (md - 1) = nI k) ↔ last = k + 1)) → z_C d' mi_X7_sets [.ref 50, .int (nI fr), .int (nI md), .int (nI p), .int 1] μ (fun r μ' => r = none ∧ SV md μ μ' (SS O pf w m last))) (μ0 : zM) (w : Nat → Nat) (pf : SL) (hH0 : a_H μ0) (hF0 : a_Fz mdR κ μ0) (hw : RW μ0 51 w) (hpl : pf.length = md) (hpx : PX μ0 pf) (hpv : PV pf) (hzk : ∀ j, j < k → w j = 0) (h3 : 3 ≤ w k) (K : ∀ μ3, SV md μ0 μ3 (SS O (pf ++ [(1, k)]) (sub3 w k) m 0) → Z 0 207 [(6, .int x6), (5, .int (nI k)), (0, .ref 50), (1, .int x1), (2, .int (nI md)), (3, .int (nI p)), (4, .int 1)] [] μ3) : Z 0 158 [(6, .int x6), (5, .int (nI k)), (0, .ref 50), (1, .int x1), (2, .int (nI md)), (3, .int (nI p)), (4, .int 1)] [] μ0 := by
  have hH := zh_X7_sets
  have ink : vp_in (nI k) 34 := vp_in_nI hk (by decide)
  have inm : vp_in (nI md) 5 := vp_in_nI (by omega) (by decide)
  have ek : (nI k).toNatClampNeg = k := nI_clamp (by omega)
  have em : (nI md).toNatClampNeg = md := nI_clamp (by omega)
  have wk := hw k hk
  refine z_rcs hc hH 4 (pc' := 165) (lv' := [(6, .int x6), (5, .int (nI k)), (0, .ref 50), (1, .int x1), (2, .int (nI md)), (3, .int (nI p)), (4, .int 1)]) (st' := [.int (nI k), .ref 51, .int (nI k), .ref 51]) (μ' := μ0) (by rfl) ?_
  refine zq_iald hc hH (by rfl) 34 (by decide +kernel) (ink) ?_
  rw [ek, wk.1]
  refine z_rcs hc hH 2 (pc' := 168) (lv' := [(6, .int x6), (5, .int (nI k)), (0, .ref 50), (1, .int x1), (2, .int (nI md)), (3, .int (nI p)), (4, .int 1)]) (st' := [.int ((nI (w k)) - 3), .int (nI k), .ref 51]) (μ' := μ0) (by rfl) ?_
  rw [s_3 (w k) (by omega) h3]
  refine zq_iast hc hH (by rfl) 34 (by decide +kernel) (ink) ?_
  refine z_rcs hc hH 4 (pc' := 175) (lv' := [(6, .int x6), (5, .int (nI k)), (0, .ref 50), (1, .int x1), (2, .int (nI md)), (3, .int (nI p)), (4, .int 1)]) (st' := [.int 1, .int (nI md), .ref 54]) (μ' := z_ui μ0 51 ((nI k).toNatClampNeg) (nI (w k - 3))) (by rfl) ?_
  refine zq_iast hc hH (by rfl) 5 (by decide +kernel) (inm) ?_
  refine z_rcs hc hH 4 (pc' := 183) (lv' := [(6, .int x6), (5, .int (nI k)), (0, .ref 50), (1, .int x1), (2, .int (nI md)), (3, .int (nI p)), (4, .int 1)]) (st' := [.int (nI k), .int (nI md), .ref 55]) (μ' := z_ui (z_ui μ0 51 ((nI k).toNatClampNeg) (nI (w k - 3))) 54 ((nI md).toNatClampNeg) 1) (by rfl) ?_
  refine zq_iast hc hH (by rfl) 5 (by decide +kernel) (inm) ?_
  rw [ek, em]
  have f1 : a_Fz mdR μ0 (z_ui (z_ui (z_ui μ0 51 k (nI (w k - 3))) 54 md 1) 55 md (nI k)) := a_Fz_ui (a_Fz_ui (a_Fz_ui (a_Fz_rf _ _) (a_mda_md (by decide +kernel) _)) (a_mda_md (by decide +kernel) _)) (a_mda_md (by decide +kernel) _)
  have H1 : a_H (z_ui (z_ui (z_ui μ0 51 k (nI (w k - 3))) 54 md 1) 55 md (nI k)) := a_H_ui (a_H_ui (a_H_ui hH0 (bI_top _)) (bI_top _)) (bI_top _)
  have r51 : ∀ j, (z_ui (z_ui (z_ui μ0 51 k (nI (w k - 3))) 54 md 1) 55 md (nI k)).1 51 j = if j = k then nI (w k - 3) else μ0.1 51 j := fun j => by
    rw [z_ui_rd, if_neg (by omega), z_ui_rd, if_neg (by omega), z_ui_rd]
    by_cases e : j = k
    · rw [if_pos ⟨rfl, e⟩, if_pos e]
    · rw [if_neg (fun z => e z.2), if_neg e]
  have c54 : (z_ui (z_ui (z_ui μ0 51 k (nI (w k - 3))) 54 md 1) 55 md (nI k)).1 54 md = 1 := by rw [z_ui_rd, if_neg (by omega), z_ui_rd, if_pos ⟨rfl, rfl⟩]
  have c55 : (z_ui (z_ui (z_ui μ0 51 k (nI (w k - 3))) 54 md 1) 55 md (nI k)).1 55 md = nI k := by rw [z_ui_rd, if_pos ⟨rfl, rfl⟩]
  have px : ∀ i, i < md → (z_ui (z_ui (z_ui μ0 51 k (nI (w k - 3))) 54 md 1) 55 md (nI k)).1 54 i = μ0.1 54 i ∧ (z_ui (z_ui (z_ui μ0 51 k (nI (w k - 3))) 54 md 1) 55 md (nI k)).1 55 i = μ0.1 55 i := fun i hi => ⟨by rw [z_ui_rd, if_neg (by omega), z_ui_rd, if_neg (by omega), z_ui_rd, if_neg (by omega)], by rw [z_ui_rd, if_neg (by omega), z_ui_rd, if_neg (by omega), z_ui_rd, if_neg (by omega)]⟩
  have eb : bq (z_ui (z_ui (z_ui μ0 51 k (nI (w k - 3))) 54 md 1) 55 md (nI k)) = bq μ0 := by rw [bq_ui (by decide), bq_ui (by decide), bq_ui (by decide)]
  generalize z_ui (z_ui (z_ui μ0 51 k (nI (w k - 3))) 54 md 1) 55 md (nI k) = μ1 at f1 H1 r51 c54 c55 px eb ⊢
  have w1 : RW μ1 51 (sub3 w k) := fun j hj => by
    rw [r51]; unfold sub3
    by_cases e : j = k
    · rw [if_pos e, if_pos e, e]; exact ⟨rfl, by omega⟩
    · rw [if_neg e, if_neg e]; exact hw j hj
  refine z_rcs hc hH 7 (pc' := 193) (lv' := [(6, .int x6), (5, .int (nI k)), (0, .ref 50), (1, .int x1), (2, .int (nI md)), (3, .int (nI p)), (4, .int 1)]) (st' := [.int 1, .int (nI p), .int ((nI md) + 1), .int (nI k), .ref 50]) (μ' := μ1) (by rfl) ?_
  rw [nI_1]
  refine zq_call hc (z_cx_ok hH (by rfl)) (ih μ1 (sub3 w k) k (md + 1) 0 (pf ++ [(1, k)]) H1 (a_Fz_tr (by decide +kernel) hF0 f1) w1 (by omega) (by omega) (fun j hj => by unfold sub3; rw [if_neg (by omega)]; exact hzk j hj) (Or.inl rfl) (by rw [List.length_append, hpl]; rfl) (PX_add hpx (fun i hi => px i (by omega)) (by rw [hpl]; exact c54) (by rw [hpl]; exact c55)) (PV_add hpv (by decide +kernel) hk (fun e => absurd e (by decide +kernel))) (fun j hj => ⟨fun z => absurd z.2.1 (by rw [Nat.add_sub_cancel, c54]; decide), fun z => absurd z (by omega)⟩)) (by decide +kernel) (fun r2 μ2 hq => ?_)
  obtain ⟨rfl, hs⟩ := hq
  show Z 0 196 [(6, .int x6), (5, .int (nI k)), (0, .ref 50), (1, .int x1), (2, .int (nI md)), (3, .int (nI p)), (4, .int 1)] [] μ2
  refine z_rcs hc hH 4 (pc' := 203) (lv' := [(6, .int x6), (5, .int (nI k)), (0, .ref 50), (1, .int x1), (2, .int (nI md)), (3, .int (nI p)), (4, .int 1)]) (st' := [.int (nI k), .ref 51, .int (nI k), .ref 51]) (μ' := μ2) (by rfl) ?_
  refine zq_iald hc hH (by rfl) 34 (by decide +kernel) (ink) ?_
  rw [ek, hs.1, r51, if_pos rfl]
  refine z_rcs hc hH 2 (pc' := 206) (lv' := [(6, .int x6), (5, .int (nI k)), (0, .ref 50), (1, .int x1), (2, .int (nI md)), (3, .int (nI p)), (4, .int 1)]) (st' := [.int ((nI (w k - 3)) + 3), .int (nI k), .ref 51]) (μ' := μ2) (by rfl) ?_
  rw [show nI (w k - 3) + 3 = nI (w k) from (nI_add (w k - 3) 3).trans (by rw [show w k - 3 + 3 = w k by omega])]
  refine zq_iast hc hH (by rfl) 34 (by decide +kernel) (ink) ?_
  rw [ek]
  refine K _ ⟨fun j => ?_, fun i hi => ?_, a_Fz_ui (a_Fz_tr (by decide +kernel) f1 hs.2.2.1) (a_mda_md (by decide +kernel) _), a_H_ui hs.2.2.2.1 (bI_top _), ?_⟩
  · rw [z_ui_rd]
    by_cases e : j = k
    · rw [if_pos ⟨rfl, e⟩, e, wk.1]
    · rw [if_neg (fun z => e z.2), hs.1, r51, if_neg e]
  · rw [z_ui_rd, if_neg (by omega), z_ui_rd, if_neg (by omega), (hs.2.1 i (by omega)).1, (hs.2.1 i (by omega)).2]; exact px i hi
  · rw [bq_ui (by decide), ← eb]; exact hs.2.2.2.2
theorem rtR (d' : Nat) (Z : zK) (μ : zM) (B : Q4 → Prop) (md : Nat) (hc : z_clo z_x0 mi_X7_sets (z_C d') Z) (hr : z_ret mi_X7_sets (fun r μ' => r = none ∧ SV md μ μ' B) Z) (κ : zM) (q p : Nat) (O : SL → Q4 → Prop) (eκ : κ.1 50 4 = nI q) (m k : Nat) (x1 x6 : Int32) (hm : md + (m + 1) + q = 4) (hk : k < 34) (ih : ∀ (μ : zM) (w : Nat → Nat) (fr md last : Nat) (pf : SL), a_H μ → a_Fz mdR κ μ → RW μ 51 w → md + m + q = 4 → fr ≤ 34 → (∀ j, j < fr → w j = 0) → (last = 0 ∨ last = fr + 1) → pf.length = md → PX μ pf → PV pf → (∀ k, k < 34 → ((0 < md ∧ μ.1 54 (md - 1) = 0 ∧ μ.1 55 (md - 1) = nI k) ↔ last = k + 1)) → z_C d' mi_X7_sets [.ref 50, .int (nI fr), .int (nI md), .int (nI p), .int 1] μ (fun r μ' => r = none ∧ SV md μ μ' (SS O pf w m last))) (μ0 : zM) (w : Nat → Nat) (pf : SL) (hH0 : a_H μ0) (hF0 : a_Fz mdR κ μ0) (hw : RW μ0 51 w) (hpl : pf.length = md) (hpx : PX μ0 pf) (hpv : PV pf) (hzk : ∀ j, j < k → w j = 0) (hk2 : k + 2 < 34) (h0 : 1 ≤ w k) (h1 : 1 ≤ w (k + 1)) (h2 : 1 ≤ w (k + 2)) (hrs : rs k) (K : ∀ μ3, SV md μ0 μ3 (SS O (pf ++ [(0, k)]) (subr w k) m (k + 1)) → Z 0 340 [(6, .int x6), (5, .int (nI k)), (0, .ref 50), (1, .int x1), (2, .int (nI md)), (3, .int (nI p)), (4, .int 1)] [] μ3) : Z 0 239 [(6, .int x6), (5, .int (nI k)), (0, .ref 50), (1, .int x1), (2, .int (nI md)), (3, .int (nI p)), (4, .int 1)] [] μ0 := by
  have hH := zh_X7_sets
  have ink : vp_in (nI k) 34 := vp_in_nI hk (by decide)
  have inm : vp_in (nI md) 5 := vp_in_nI (by omega) (by decide)
  have in1 : vp_in (nI (k + 1)) 34 := vp_in_nI (by omega) (by decide)
  have in2 : vp_in (nI (k + 2)) 34 := vp_in_nI (by omega) (by decide)
  have ek : (nI k).toNatClampNeg = k := nI_clamp (by omega)
  have em : (nI md).toNatClampNeg = md := nI_clamp (by omega)
  have ek1 : (nI (k + 1)).toNatClampNeg = k + 1 := nI_clamp (by omega)
  have ek2 : (nI (k + 2)).toNatClampNeg = k + 2 := nI_clamp (by omega)
  have a2 : nI k + 2 = nI (k + 2) := nI_add k 2
  have wk := hw k hk
  have wk1 := hw (k + 1) (by omega)
  have wk2 := hw (k + 2) (by omega)
  refine z_rcs hc hH 4 (pc' := 246) (lv' := [(6, .int x6), (5, .int (nI k)), (0, .ref 50), (1, .int x1), (2, .int (nI md)), (3, .int (nI p)), (4, .int 1)]) (st' := [.int (nI k), .ref 51, .int (nI k), .ref 51]) (μ' := μ0) (by rfl) ?_
  refine zq_iald hc hH (by rfl) 34 (by decide +kernel) (ink) ?_
  rw [ek, wk.1]
  refine z_rcs hc hH 2 (pc' := 249) (lv' := [(6, .int x6), (5, .int (nI k)), (0, .ref 50), (1, .int x1), (2, .int (nI md)), (3, .int (nI p)), (4, .int 1)]) (st' := [.int ((nI (w k)) - 1), .int (nI k), .ref 51]) (μ' := μ0) (by rfl) ?_
  rw [s_1 (w (k)) (by omega) h0]
  refine zq_iast hc hH (by rfl) 34 (by decide +kernel) (ink) ?_
  rw [ek]
  have g1 : ∀ j, (z_ui μ0 51 k (nI (w k - 1))).1 51 j = if j = k then nI (w k - 1) else μ0.1 51 j := fun j => by
    rw [z_ui_rd]
    by_cases e : j = k
    · rw [if_pos ⟨rfl, e⟩, if_pos e]
    · rw [if_neg (fun z => e z.2), if_neg e]
  have F1 : a_Fz mdR μ0 (z_ui μ0 51 k (nI (w k - 1))) := a_Fz_ui (a_Fz_rf _ _) (a_mda_md (by decide +kernel) _)
  have H1 : a_H (z_ui μ0 51 k (nI (w k - 1))) := a_H_ui hH0 (bI_top _)
  have E1 : bq (z_ui μ0 51 k (nI (w k - 1))) = bq μ0 := bq_ui (by decide)
  have P1 : ∀ r i, r ≠ 51 → (z_ui μ0 51 k (nI (w k - 1))).1 r i = μ0.1 r i := fun r i h => by rw [z_ui_rd, if_neg (fun z => h z.1)]
  generalize z_ui μ0 51 k (nI (w k - 1)) = ν1 at g1 F1 H1 E1 P1 ⊢
  refine z_rcs hc hH 5 (pc' := 258) (lv' := [(6, .int x6), (5, .int (nI k)), (0, .ref 50), (1, .int x1), (2, .int (nI md)), (3, .int (nI p)), (4, .int 1)]) (st' := [.int ((nI k) + 1), .ref 51]) (μ' := ν1) (by rfl) ?_
  rw [nI_1]
  refine z_rcs hc hH 1 (pc' := 259) (lv' := [(6, .int x6), (5, .int (nI k)), (0, .ref 50), (1, .int x1), (2, .int (nI md)), (3, .int (nI p)), (4, .int 1)]) (st' := [.int (nI (k + 1)), .ref 51, .int (nI (k + 1)), .ref 51]) (μ' := ν1) (by rfl) ?_
  refine zq_iald hc hH (by rfl) 34 (by decide +kernel) (in1) ?_
  rw [ek1, g1, if_neg (by omega), wk1.1]
  refine z_rcs hc hH 2 (pc' := 262) (lv' := [(6, .int x6), (5, .int (nI k)), (0, .ref 50), (1, .int x1), (2, .int (nI md)), (3, .int (nI p)), (4, .int 1)]) (st' := [.int ((nI (w (k + 1))) - 1), .int (nI (k + 1)), .ref 51]) (μ' := ν1) (by rfl) ?_
  rw [s_1 (w (k + 1)) (by omega) h1]
  refine zq_iast hc hH (by rfl) 34 (by decide +kernel) (in1) ?_
  rw [ek1]
  have g2 : ∀ j, (z_ui ν1 51 (k + 1) (nI (w (k + 1) - 1))).1 51 j = if j = k + 1 then nI (w (k + 1) - 1) else ν1.1 51 j := fun j => by
    rw [z_ui_rd]
    by_cases e : j = k + 1
    · rw [if_pos ⟨rfl, e⟩, if_pos e]
    · rw [if_neg (fun z => e z.2), if_neg e]
  have F2 : a_Fz mdR μ0 (z_ui ν1 51 (k + 1) (nI (w (k + 1) - 1))) := a_Fz_ui F1 (a_mda_md (by decide +kernel) _)
  have H2 : a_H (z_ui ν1 51 (k + 1) (nI (w (k + 1) - 1))) := a_H_ui H1 (bI_top _)
  have E2 : bq (z_ui ν1 51 (k + 1) (nI (w (k + 1) - 1))) = bq μ0 := by rw [bq_ui (by decide), E1]
  have P2 : ∀ r i, r ≠ 51 → (z_ui ν1 51 (k + 1) (nI (w (k + 1) - 1))).1 r i = μ0.1 r i := fun r i h => by rw [z_ui_rd, if_neg (fun z => h z.1), P1 r i h]
  generalize z_ui ν1 51 (k + 1) (nI (w (k + 1) - 1)) = ν2 at g2 F2 H2 E2 P2 ⊢
  refine z_rcs hc hH 5 (pc' := 271) (lv' := [(6, .int x6), (5, .int (nI k)), (0, .ref 50), (1, .int x1), (2, .int (nI md)), (3, .int (nI p)), (4, .int 1)]) (st' := [.int ((nI k) + 2), .ref 51]) (μ' := ν2) (by rfl) ?_
  rw [a2]
  refine z_rcs hc hH 1 (pc' := 272) (lv' := [(6, .int x6), (5, .int (nI k)), (0, .ref 50), (1, .int x1), (2, .int (nI md)), (3, .int (nI p)), (4, .int 1)]) (st' := [.int (nI (k + 2)), .ref 51, .int (nI (k + 2)), .ref 51]) (μ' := ν2) (by rfl) ?_
  refine zq_iald hc hH (by rfl) 34 (by decide +kernel) (in2) ?_
  rw [ek2, g2, if_neg (by omega), g1, if_neg (by omega), wk2.1]
  refine z_rcs hc hH 2 (pc' := 275) (lv' := [(6, .int x6), (5, .int (nI k)), (0, .ref 50), (1, .int x1), (2, .int (nI md)), (3, .int (nI p)), (4, .int 1)]) (st' := [.int ((nI (w (k + 2))) - 1), .int (nI (k + 2)), .ref 51]) (μ' := ν2) (by rfl) ?_
  rw [s_1 (w (k + 2)) (by omega) h2]
  refine zq_iast hc hH (by rfl) 34 (by decide +kernel) (in2) ?_
  rw [ek2]
  have g3 : ∀ j, (z_ui ν2 51 (k + 2) (nI (w (k + 2) - 1))).1 51 j = if j = k + 2 then nI (w (k + 2) - 1) else ν2.1 51 j := fun j => by
    rw [z_ui_rd]
    by_cases e : j = k + 2
    · rw [if_pos ⟨rfl, e⟩, if_pos e]
    · rw [if_neg (fun z => e z.2), if_neg e]
  have F3 : a_Fz mdR μ0 (z_ui ν2 51 (k + 2) (nI (w (k + 2) - 1))) := a_Fz_ui F2 (a_mda_md (by decide +kernel) _)
  have H3 : a_H (z_ui ν2 51 (k + 2) (nI (w (k + 2) - 1))) := a_H_ui H2 (bI_top _)
  have E3 : bq (z_ui ν2 51 (k + 2) (nI (w (k + 2) - 1))) = bq μ0 := by rw [bq_ui (by decide), E2]
  have P3 : ∀ r i, r ≠ 51 → (z_ui ν2 51 (k + 2) (nI (w (k + 2) - 1))).1 r i = μ0.1 r i := fun r i h => by rw [z_ui_rd, if_neg (fun z => h z.1), P2 r i h]
  generalize z_ui ν2 51 (k + 2) (nI (w (k + 2) - 1)) = ν3 at g3 F3 H3 E3 P3 ⊢
  refine z_rcs hc hH 4 (pc' := 282) (lv' := [(6, .int x6), (5, .int (nI k)), (0, .ref 50), (1, .int x1), (2, .int (nI md)), (3, .int (nI p)), (4, .int 1)]) (st' := [.int 0, .int (nI md), .ref 54]) (μ' := ν3) (by rfl) ?_
  refine zq_iast hc hH (by rfl) 5 (by decide +kernel) (inm) ?_
  refine z_rcs hc hH 4 (pc' := 290) (lv' := [(6, .int x6), (5, .int (nI k)), (0, .ref 50), (1, .int x1), (2, .int (nI md)), (3, .int (nI p)), (4, .int 1)]) (st' := [.int (nI k), .int (nI md), .ref 55]) (μ' := z_ui (ν3) 54 ((nI md).toNatClampNeg) 0) (by rfl) ?_
  refine zq_iast hc hH (by rfl) 5 (by decide +kernel) (inm) ?_
  rw [em]
  have f1 : a_Fz mdR μ0 (z_ui (z_ui ν3 54 md 0) 55 md (nI k)) := a_Fz_ui (a_Fz_ui F3 (a_mda_md (by decide +kernel) _)) (a_mda_md (by decide +kernel) _)
  have H4 : a_H (z_ui (z_ui ν3 54 md 0) 55 md (nI k)) := a_H_ui (a_H_ui H3 (bI_top _)) (bI_top _)
  have r51 : ∀ j, (z_ui (z_ui ν3 54 md 0) 55 md (nI k)).1 51 j = ν3.1 51 j := fun j => by rw [z_ui_rd, if_neg (by omega), z_ui_rd, if_neg (by omega)]
  have c54 : (z_ui (z_ui ν3 54 md 0) 55 md (nI k)).1 54 md = 0 := by rw [z_ui_rd, if_neg (by omega), z_ui_rd, if_pos ⟨rfl, rfl⟩]
  have c55 : (z_ui (z_ui ν3 54 md 0) 55 md (nI k)).1 55 md = nI k := by rw [z_ui_rd, if_pos ⟨rfl, rfl⟩]
  have px : ∀ i, i < md → (z_ui (z_ui ν3 54 md 0) 55 md (nI k)).1 54 i = μ0.1 54 i ∧ (z_ui (z_ui ν3 54 md 0) 55 md (nI k)).1 55 i = μ0.1 55 i := fun i hi => ⟨by rw [z_ui_rd, if_neg (by omega), z_ui_rd, if_neg (by omega)]; exact P3 54 i (by decide), by rw [z_ui_rd, if_neg (by omega), z_ui_rd, if_neg (by omega)]; exact P3 55 i (by decide)⟩
  have eb : bq (z_ui (z_ui ν3 54 md 0) 55 md (nI k)) = bq μ0 := by rw [bq_ui (by decide), bq_ui (by decide), E3]
  generalize z_ui (z_ui ν3 54 md 0) 55 md (nI k) = μ1 at f1 H4 r51 c54 c55 px eb ⊢
  have w1 : RW μ1 51 (subr w k) := fun j hj => by
    rw [r51, g3, g2, g1]; unfold subr
    by_cases c0 : j = k
    · rw [if_neg (by omega), if_neg (by omega), if_pos c0, if_pos (Or.inl c0), c0]; exact ⟨rfl, by omega⟩
    · by_cases c1 : j = k + 1
      · rw [if_neg (by omega), if_pos c1, if_pos (Or.inr (Or.inl c1)), c1]; exact ⟨rfl, by omega⟩
      · by_cases c2 : j = k + 2
        · rw [if_pos c2, if_pos (Or.inr (Or.inr c2)), c2]; exact ⟨rfl, by omega⟩
        · rw [if_neg c2, if_neg c1, if_neg c0, if_neg (by omega)]; exact hw j hj
  refine z_rcs hc hH 7 (pc' := 300) (lv' := [(6, .int x6), (5, .int (nI k)), (0, .ref 50), (1, .int x1), (2, .int (nI md)), (3, .int (nI p)), (4, .int 1)]) (st' := [.int 1, .int (nI p), .int ((nI md) + 1), .int (nI k), .ref 50]) (μ' := μ1) (by rfl) ?_
  rw [nI_1]
  refine zq_call hc (z_cx_ok hH (by rfl)) (ih μ1 (subr w k) k (md + 1) (k + 1) (pf ++ [(0, k)]) H4 (a_Fz_tr (by decide +kernel) hF0 f1) w1 (by omega) (by omega) (fun j hj => by unfold subr; rw [if_neg (by omega)]; exact hzk j hj) (Or.inr rfl) (by rw [List.length_append, hpl]; rfl) (PX_add hpx (fun i hi => px i (by omega)) (by rw [hpl]; exact c54) (by rw [hpl]; exact c55)) (PV_add hpv (by decide +kernel) hk (fun _ => hrs)) (fun j hj => ⟨fun z => by rw [Nat.add_sub_cancel, c55] at z; have := (nI_eq (by omega) (by omega)).mp z.2.2; omega, fun z => ⟨by omega, by rw [Nat.add_sub_cancel, c54], by rw [Nat.add_sub_cancel, c55, show j = k by omega]⟩⟩)) (by decide +kernel) (fun r2 μ2 hq => ?_)
  obtain ⟨rfl, hs⟩ := hq
  have R2 : ∀ j, μ2.1 51 j = ν3.1 51 j := fun j => (hs.1 j).trans (r51 j)
  show Z 0 303 [(6, .int x6), (5, .int (nI k)), (0, .ref 50), (1, .int x1), (2, .int (nI md)), (3, .int (nI p)), (4, .int 1)] [] μ2
  refine z_rcs hc hH 4 (pc' := 310) (lv' := [(6, .int x6), (5, .int (nI k)), (0, .ref 50), (1, .int x1), (2, .int (nI md)), (3, .int (nI p)), (4, .int 1)]) (st' := [.int (nI k), .ref 51, .int (nI k), .ref 51]) (μ' := μ2) (by rfl) ?_
  refine zq_iald hc hH (by rfl) 34 (by decide +kernel) (ink) ?_
  rw [ek, R2, g3, if_neg (by omega), g2, if_neg (by omega), g1, if_pos rfl]
  refine z_rcs hc hH 2 (pc' := 313) (lv' := [(6, .int x6), (5, .int (nI k)), (0, .ref 50), (1, .int x1), (2, .int (nI md)), (3, .int (nI p)), (4, .int 1)]) (st' := [.int ((nI (w (k) - 1)) + 1), .int (nI k), .ref 51]) (μ' := μ2) (by rfl) ?_
  rw [show nI (w (k) - 1) + 1 = nI (w (k)) from (nI_add (w (k) - 1) 1).trans (by rw [show w (k) - 1 + 1 = w (k) by omega])]
  refine zq_iast hc hH (by rfl) 34 (by decide +kernel) (ink) ?_
  rw [ek]
  have u1 : ∀ j, (z_ui μ2 51 (k) (nI (w (k)))).1 51 j = if j = k then nI (w (k)) else μ2.1 51 j := fun j => by
    rw [z_ui_rd]
    by_cases e : j = k
    · rw [if_pos ⟨rfl, e⟩, if_pos e]
    · rw [if_neg (fun z => e z.2), if_neg e]
  have Fu1 : a_Fz mdR μ0 (z_ui μ2 51 (k) (nI (w (k)))) := a_Fz_ui (a_Fz_tr (by decide +kernel) f1 hs.2.2.1) (a_mda_md (by decide +kernel) _)
  have Hu1 : a_H (z_ui μ2 51 (k) (nI (w (k)))) := a_H_ui hs.2.2.2.1 (bI_top _)
  have Eu1 : bq (z_ui μ2 51 (k) (nI (w (k)))) = bq μ2 := by rw [bq_ui (by decide)]
  have Pu1 : ∀ r i, r ≠ 51 → (z_ui μ2 51 (k) (nI (w (k)))).1 r i = μ2.1 r i := fun r i h => by rw [z_ui_rd, if_neg (fun z => h z.1)]
  generalize z_ui μ2 51 (k) (nI (w (k))) = ν4 at u1 Fu1 Hu1 Eu1 Pu1 ⊢
  refine z_rcs hc hH 5 (pc' := 322) (lv' := [(6, .int x6), (5, .int (nI k)), (0, .ref 50), (1, .int x1), (2, .int (nI md)), (3, .int (nI p)), (4, .int 1)]) (st' := [.int ((nI k) + 1), .ref 51]) (μ' := ν4) (by rfl) ?_
  rw [nI_1]
  refine z_rcs hc hH 1 (pc' := 323) (lv' := [(6, .int x6), (5, .int (nI k)), (0, .ref 50), (1, .int x1), (2, .int (nI md)), (3, .int (nI p)), (4, .int 1)]) (st' := [.int (nI (k + 1)), .ref 51, .int (nI (k + 1)), .ref 51]) (μ' := ν4) (by rfl) ?_
  refine zq_iald hc hH (by rfl) 34 (by decide +kernel) (in1) ?_
  rw [ek1, u1, if_neg (by omega), R2, g3, if_neg (by omega), g2, if_pos rfl]
  refine z_rcs hc hH 2 (pc' := 326) (lv' := [(6, .int x6), (5, .int (nI k)), (0, .ref 50), (1, .int x1), (2, .int (nI md)), (3, .int (nI p)), (4, .int 1)]) (st' := [.int ((nI (w (k + 1) - 1)) + 1), .int (nI (k + 1)), .ref 51]) (μ' := ν4) (by rfl) ?_
  rw [show nI (w (k + 1) - 1) + 1 = nI (w (k + 1)) from (nI_add (w (k + 1) - 1) 1).trans (by rw [show w (k + 1) - 1 + 1 = w (k + 1) by omega])]
  refine zq_iast hc hH (by rfl) 34 (by decide +kernel) (in1) ?_
  rw [ek1]
  have u2 : ∀ j, (z_ui ν4 51 (k + 1) (nI (w (k + 1)))).1 51 j = if j = k + 1 then nI (w (k + 1)) else ν4.1 51 j := fun j => by
    rw [z_ui_rd]
    by_cases e : j = k + 1
    · rw [if_pos ⟨rfl, e⟩, if_pos e]
    · rw [if_neg (fun z => e z.2), if_neg e]
  have Fu2 : a_Fz mdR μ0 (z_ui ν4 51 (k + 1) (nI (w (k + 1)))) := a_Fz_ui Fu1 (a_mda_md (by decide +kernel) _)
  have Hu2 : a_H (z_ui ν4 51 (k + 1) (nI (w (k + 1)))) := a_H_ui Hu1 (bI_top _)
  have Eu2 : bq (z_ui ν4 51 (k + 1) (nI (w (k + 1)))) = bq μ2 := by rw [bq_ui (by decide), Eu1]
  have Pu2 : ∀ r i, r ≠ 51 → (z_ui ν4 51 (k + 1) (nI (w (k + 1)))).1 r i = μ2.1 r i := fun r i h => by rw [z_ui_rd, if_neg (fun z => h z.1), Pu1 r i h]
  generalize z_ui ν4 51 (k + 1) (nI (w (k + 1))) = ν5 at u2 Fu2 Hu2 Eu2 Pu2 ⊢
  refine z_rcs hc hH 5 (pc' := 335) (lv' := [(6, .int x6), (5, .int (nI k)), (0, .ref 50), (1, .int x1), (2, .int (nI md)), (3, .int (nI p)), (4, .int 1)]) (st' := [.int ((nI k) + 2), .ref 51]) (μ' := ν5) (by rfl) ?_
  rw [a2]
  refine z_rcs hc hH 1 (pc' := 336) (lv' := [(6, .int x6), (5, .int (nI k)), (0, .ref 50), (1, .int x1), (2, .int (nI md)), (3, .int (nI p)), (4, .int 1)]) (st' := [.int (nI (k + 2)), .ref 51, .int (nI (k + 2)), .ref 51]) (μ' := ν5) (by rfl) ?_
  refine zq_iald hc hH (by rfl) 34 (by decide +kernel) (in2) ?_
  rw [ek2, u2, if_neg (by omega), u1, if_neg (by omega), R2, g3, if_pos rfl]
  refine z_rcs hc hH 2 (pc' := 339) (lv' := [(6, .int x6), (5, .int (nI k)), (0, .ref 50), (1, .int x1), (2, .int (nI md)), (3, .int (nI p)), (4, .int 1)]) (st' := [.int ((nI (w (k + 2) - 1)) + 1), .int (nI (k + 2)), .ref 51]) (μ' := ν5) (by rfl) ?_
  rw [show nI (w (k + 2) - 1) + 1 = nI (w (k + 2)) from (nI_add (w (k + 2) - 1) 1).trans (by rw [show w (k + 2) - 1 + 1 = w (k + 2) by omega])]
  refine zq_iast hc hH (by rfl) 34 (by decide +kernel) (in2) ?_
  rw [ek2]
  have u3 : ∀ j, (z_ui ν5 51 (k + 2) (nI (w (k + 2)))).1 51 j = if j = k + 2 then nI (w (k + 2)) else ν5.1 51 j := fun j => by
    rw [z_ui_rd]
    by_cases e : j = k + 2
    · rw [if_pos ⟨rfl, e⟩, if_pos e]
    · rw [if_neg (fun z => e z.2), if_neg e]
  have Fu3 : a_Fz mdR μ0 (z_ui ν5 51 (k + 2) (nI (w (k + 2)))) := a_Fz_ui Fu2 (a_mda_md (by decide +kernel) _)
  have Hu3 : a_H (z_ui ν5 51 (k + 2) (nI (w (k + 2)))) := a_H_ui Hu2 (bI_top _)
  have Eu3 : bq (z_ui ν5 51 (k + 2) (nI (w (k + 2)))) = bq μ2 := by rw [bq_ui (by decide), Eu2]
  have Pu3 : ∀ r i, r ≠ 51 → (z_ui ν5 51 (k + 2) (nI (w (k + 2)))).1 r i = μ2.1 r i := fun r i h => by rw [z_ui_rd, if_neg (fun z => h z.1), Pu2 r i h]
  generalize z_ui ν5 51 (k + 2) (nI (w (k + 2))) = ν6 at u3 Fu3 Hu3 Eu3 Pu3 ⊢
  refine K _ ⟨fun j => ?_, fun i hi => ?_, Fu3, Hu3, ?_⟩
  · rw [u3, u2, u1, R2, g3, g2, g1]
    by_cases c0 : j = k
    · rw [if_neg (by omega), if_neg (by omega), if_pos c0, c0, wk.1]
    · by_cases c1 : j = k + 1
      · rw [if_neg (by omega), if_pos c1, c1, wk1.1]
      · by_cases c2 : j = k + 2
        · rw [if_pos c2, c2, wk2.1]
        · rw [if_neg c2, if_neg c1, if_neg c0, if_neg c2, if_neg c1, if_neg c0]
  · rw [Pu3 54 i (by decide), Pu3 55 i (by decide), (hs.2.1 i (by omega)).1, (hs.2.1 i (by omega)).2]; exact px i hi
  · rw [Eu3, ← eb]; exact hs.2.2.2.2
theorem re16 (d' : Nat) (Z : zK) (μ : zM) (B : Q4 → Prop) (md : Nat) (hc : z_clo z_x0 mi_X7_sets (z_C d') Z) (hr : z_ret mi_X7_sets (fun r μ' => r = none ∧ SV md μ μ' B) Z) (κ : zM) (q p : Nat) (O : SL → Q4 → Prop) (eκ : κ.1 50 4 = nI q) (dw : Nat) (hway : HW dw κ q p O) (hdw : dw ≤ d') (x1 : Int32) (w : Nat → Nat) (pf : SL) (hH0 : a_H μ) (hF0 : a_Fz mdR κ μ) (hw : RW μ 51 w) (hpl : pf.length = md) (hm : md + q = 4) (hpx : PX μ pf) (hpv : PV pf) (hB : (∀ k, k < 34 → w k = 0) → ∀ x, B x ↔ O pf x) (hN : (∃ k, k < 34 ∧ w k ≠ 0) → ∀ x, ¬ B x) : ∀ n i, i + n = 34 → ∀ x : Int32, (x = 1 ∧ ∀ j, j < i → w j = 0) ∨ (x = 0 ∧ ∃ j, j < 34 ∧ w j ≠ 0) → Z 0 16 [(6, .int (nI i)), (5, .int x), (0, .ref 50), (1, .int x1), (2, .int (nI md)), (3, .int (nI p)), (4, .int 1)] [] μ := by
  have hH := zh_X7_sets
  intro n
  induction n with
  | zero =>
    intro i hi x hx
    have hi : i = 34 := by omega
    subst hi
    rcases hx with ⟨rfl, hz⟩ | ⟨rfl, j, hj, hz⟩
    · skip
      refine z_rcs hc hH 2 (pc' := 20) (lv' := [(6, .int (nI 34)), (5, .int 1), (0, .ref 50), (1, .int x1), (2, .int (nI md)), (3, .int (nI p)), (4, .int 1)]) (st' := [.int 34, .int (nI 34)]) (μ' := μ) (by rfl) ?_
      refine zq_ic hc hH (by rfl) (tg := 51) (by rfl) (fun _ => ?_) (fun h9 => (zb_t (ge_nIt (n := 34) (i := 34) (by decide) (by decide)) h9).elim)
      refine z_rcs hc hH 9 (pc' := 69) (lv' := [(6, .int (nI 34)), (5, .int 1), (0, .ref 50), (1, .int x1), (2, .int (nI md)), (3, .int (nI p)), (4, .int 1)]) (st' := [.int (nI p), .ref 50]) (μ' := z_ui μ 50 18 1) (by rfl) ?_
      have F1 : a_Fz mdR μ (z_ui μ 50 18 1) := a_Fz_ui (a_Fz_rf _ _) (by decide +kernel)
      have H1 : a_H (z_ui μ 50 18 1) := a_H_ui hH0 ⟨by decide, by decide⟩
      have R1 : ∀ r i, r ≠ 50 → (z_ui μ 50 18 1).1 r i = μ.1 r i := fun r i h => by rw [z_ui_rd, if_neg (fun z => h z.1)]
      have E1 : bq (z_ui μ 50 18 1) = bq μ := bq_18
      generalize z_ui μ 50 18 1 = μ1 at F1 H1 R1 E1 ⊢
      refine zq_call hc (z_cx_ok hH (by rfl)) (hway d' μ1 pf hdw H1 (a_Fz_tr (by decide +kernel) hF0 F1) (by omega) (fun i hi => by rw [R1 54 i (by decide +kernel), R1 55 i (by decide +kernel)]; exact hpx i hi) hpv) (by decide +kernel) (fun r2 μ2 hq => ?_)
      obtain ⟨rfl, y1, y2, y3⟩ := hq
      have hE : SV md μ μ2 B := ⟨fun j => by rw [a_Fz_at y2 51 j (a_md_row (by decide +kernel)), R1 51 j (by decide +kernel)], fun i hi => ⟨by rw [a_Fz_at y2 54 i (a_md_row (by decide +kernel)), R1 54 i (by decide +kernel)], by rw [a_Fz_at y2 55 i (a_md_row (by decide +kernel)), R1 55 i (by decide +kernel)]⟩, a_Fz_tr (by decide +kernel) F1 y2, y1, (by rw [E1] at y3; exact y3.iff (fun x => (hB hz x).symm))⟩
      show Z 0 72 [(6, .int (nI 34)), (5, .int 1), (0, .ref 50), (1, .int x1), (2, .int (nI md)), (3, .int (nI p)), (4, .int 1)] [] μ2
      exact hr 0 72 _ _ _ none (by decide +kernel) (by rfl) (⟨rfl, hE⟩)
    · skip
      refine z_rcs hc hH 2 (pc' := 20) (lv' := [(6, .int (nI 34)), (5, .int 0), (0, .ref 50), (1, .int x1), (2, .int (nI md)), (3, .int (nI p)), (4, .int 1)]) (st' := [.int 34, .int (nI 34)]) (μ' := μ) (by rfl) ?_
      refine zq_ic hc hH (by rfl) (tg := 51) (by rfl) (fun _ => ?_) (fun h9 => (zb_t (ge_nIt (n := 34) (i := 34) (by decide) (by decide)) h9).elim)
      refine z_rcs hc hH 2 (pc' := 56) (lv' := [(6, .int (nI 34)), (5, .int 0), (0, .ref 50), (1, .int x1), (2, .int (nI md)), (3, .int (nI p)), (4, .int 1)]) (st' := []) (μ' := μ) (by rfl) ?_
      exact hr 0 56 _ _ _ none (by decide +kernel) (by rfl) (⟨rfl, SV_rf hH0 (hN ⟨j, hj, hz⟩)⟩)
  | succ n ih =>
    intro i hi x hx
    have hin : vp_in (nI i) 34 := vp_in_nI (by omega) (by decide)
    have b5 := hw i (by omega)
    rcases hx with ⟨rfl, hz⟩ | ⟨rfl, hz⟩
    · skip
      refine z_rcs hc hH 2 (pc' := 20) (lv' := [(6, .int (nI i)), (5, .int 1), (0, .ref 50), (1, .int x1), (2, .int (nI md)), (3, .int (nI p)), (4, .int 1)]) (st' := [.int 34, .int (nI i)]) (μ' := μ) (by rfl) ?_
      refine zq_ic hc hH (by rfl) (tg := 51) (by rfl) (fun h9 => (zb_t h9 (ge_nI (n := 34) (i := i) (by omega) (by decide))).elim) (fun _ => ?_)
      refine z_rcs hc hH 5 (pc' := 34) (lv' := [(6, .int (nI i)), (5, .int 1), (0, .ref 50), (1, .int x1), (2, .int (nI md)), (3, .int (nI p)), (4, .int 1)]) (st' := [.int (nI i), .ref 51]) (μ' := μ) (by rfl) ?_
      refine zq_iald hc hH (by rfl) 34 (by decide +kernel) (hin) ?_
      rw [nI_clamp (n := i) (by omega), b5.1]
      refine zq_if hc hH (by rfl) (tg := 42) (by rfl) (fun h1 => ?_) (fun h1 => ?_)
      · have h1 := cm_ne.mp h1
        refine z_rcs hc hH 4 (pc' := 16) (lv' := [(6, .int ((nI i) + 1)), (5, .int 0), (0, .ref 50), (1, .int x1), (2, .int (nI md)), (3, .int (nI p)), (4, .int 1)]) (st' := []) (μ' := μ) (by rfl) ?_
        rw [nI_1]
        exact ih (i + 1) (by omega) 0 (Or.inr ⟨rfl, i, by omega, fun e => h1 (by rw [e]; rfl)⟩)
      · have h1 := cn_ne.mp h1
        refine z_rcs hc hH 5 (pc' := 16) (lv' := [(6, .int ((nI i) + 1)), (5, .int 1), (0, .ref 50), (1, .int x1), (2, .int (nI md)), (3, .int (nI p)), (4, .int 1)]) (st' := []) (μ' := μ) (by rfl) ?_
        rw [nI_1]
        exact ih (i + 1) (by omega) 1 (Or.inl ⟨rfl, fun j hj => if e : j = i then (by rw [e]; exact (nI_eq (by omega) (by omega)).mp h1) else hz j (by omega)⟩)
    · skip
      refine z_rcs hc hH 2 (pc' := 20) (lv' := [(6, .int (nI i)), (5, .int 0), (0, .ref 50), (1, .int x1), (2, .int (nI md)), (3, .int (nI p)), (4, .int 1)]) (st' := [.int 34, .int (nI i)]) (μ' := μ) (by rfl) ?_
      refine zq_ic hc hH (by rfl) (tg := 51) (by rfl) (fun h9 => (zb_t h9 (ge_nI (n := 34) (i := i) (by omega) (by decide))).elim) (fun _ => ?_)
      refine z_rcs hc hH 6 (pc' := 16) (lv' := [(6, .int ((nI i) + 1)), (5, .int 0), (0, .ref 50), (1, .int x1), (2, .int (nI md)), (3, .int (nI p)), (4, .int 1)]) (st' := []) (μ' := μ) (by rfl) ?_
      rw [nI_1]
      exact ih (i + 1) (by omega) 0 (Or.inr ⟨rfl, hz⟩)
theorem r340 (d' : Nat) (Z : zK) (μ : zM) (B : Q4 → Prop) (md : Nat) (hc : z_clo z_x0 mi_X7_sets (z_C d') Z) (hr : z_ret mi_X7_sets (fun r μ' => r = none ∧ SV md μ μ' B) Z) (p k : Nat) (x1 x6 : Int32) (μ4 : zM) (h : SV md μ μ4 B) : Z 0 340 [(6, .int x6), (5, .int (nI k)), (0, .ref 50), (1, .int x1), (2, .int (nI md)), (3, .int (nI p)), (4, .int 1)] [] μ4 := hr 0 340 _ _ _ none (by decide +kernel) (by rfl) ⟨rfl, h⟩
theorem r207 (d' : Nat) (Z : zK) (μ : zM) (B : Q4 → Prop) (md : Nat) (hc : z_clo z_x0 mi_X7_sets (z_C d') Z) (hr : z_ret mi_X7_sets (fun r μ' => r = none ∧ SV md μ μ' B) Z) (κ : zM) (q p : Nat) (O : SL → Q4 → Prop) (eκ : κ.1 50 4 = nI q) (m k last : Nat) (x1 : Int32) (hd : 1 ≤ d') (hm : md + (m + 1) + q = 4) (hk : k < 34) (ih : ∀ (μ : zM) (w : Nat → Nat) (fr md last : Nat) (pf : SL), a_H μ → a_Fz mdR κ μ → RW μ 51 w → md + m + q = 4 → fr ≤ 34 → (∀ j, j < fr → w j = 0) → (last = 0 ∨ last = fr + 1) → pf.length = md → PX μ pf → PV pf → (∀ k, k < 34 → ((0 < md ∧ μ.1 54 (md - 1) = 0 ∧ μ.1 55 (md - 1) = nI k) ↔ last = k + 1)) → z_C d' mi_X7_sets [.ref 50, .int (nI fr), .int (nI md), .int (nI p), .int 1] μ (fun r μ' => r = none ∧ SV md μ μ' (SS O pf w m last))) (w : Nat → Nat) (pf : SL) (hH0 : a_H μ) (hF0 : a_Fz mdR κ μ) (hw : RW μ 51 w) (hpl : pf.length = md) (hpx : PX μ pf) (hpv : PV pf) (hzk : ∀ j, j < k → w j = 0) (hwk : w k ≠ 0) (hB : ∀ x, B x ↔ ((fun x => (3 ≤ w k ∧ last ≠ k + 1) ∧ SS O (pf ++ [(1, k)]) (sub3 w k) m 0 x) x ∨ (fun x => (rs k ∧ 0 < w (k + 1) ∧ 0 < w (k + 2)) ∧ SS O (pf ++ [(0, k)]) (subr w k) m (k + 1) x) x)) (x6 : Int32) (μ3 : zM) (hS : SV md μ μ3 (fun x => (3 ≤ w k ∧ last ≠ k + 1) ∧ SS O (pf ++ [(1, k)]) (sub3 w k) m 0 x)) : Z 0 207 [(6, .int x6), (5, .int (nI k)), (0, .ref 50), (1, .int x1), (2, .int (nI md)), (3, .int (nI p)), (4, .int 1)] [] μ3 := by
  have hH := zh_X7_sets
  have hw3 := hS.rw hw
  refine z_rcs hc hH 1 (pc' := 209) (lv' := [(6, .int x6), (5, .int (nI k)), (0, .ref 50), (1, .int x1), (2, .int (nI md)), (3, .int (nI p)), (4, .int 1)]) (st' := [.int (nI k)]) (μ' := μ3) (by rfl) ?_
  refine zq_call hc (z_cx_ok hH (by rfl)) (fc_X7_isRun d' (by omega) μ3 (nI k)) (by decide +kernel) (fun r9 μ9 hq => ?_)
  obtain ⟨hμ9, hq⟩ := hq
  rw [hμ9]
  clear hμ9 μ9
  rw [sr_rs k hk] at hq
  obtain ⟨rfl, hk9⟩ | ⟨rfl, hk9⟩ := hq
  · show Z 0 212 [(6, .int x6), (5, .int (nI k)), (0, .ref 50), (1, .int x1), (2, .int (nI md)), (3, .int (nI p)), (4, .int 1)] [.int 1] μ3
    have k27 := hk9.1
    have in1 : vp_in (nI (k + 1)) 34 := vp_in_nI (by omega) (by decide)
    have in2 : vp_in (nI (k + 2)) 34 := vp_in_nI (by omega) (by decide)
    refine z_rcs hc hH 6 (pc' := 223) (lv' := [(6, .int x6), (5, .int (nI k)), (0, .ref 50), (1, .int x1), (2, .int (nI md)), (3, .int (nI p)), (4, .int 1)]) (st' := [.int ((nI k) + 1), .ref 51]) (μ' := μ3) (by rfl) ?_
    rw [nI_1]
    refine zq_iald hc hH (by rfl) 34 (by decide +kernel) (in1) ?_
    rw [nI_clamp (n := k + 1) (by omega), (hw3 (k + 1) (by omega)).1]
    refine zq_if hc hH (by rfl) (tg := 340) (by rfl) (fun h1 => ?_) (fun h1 => ?_)
    · have h1 := cm_le.mp h1
      have b9 := (hw3 (k + 1) (by omega)).2
      have n9 : ¬ 0 < w (k + 1) := fun z9 => by
        have z := h1
        rw [Int32.le_iff_toInt_le, nI_toInt (by omega)] at z
        have z : ((w (k + 1) : Nat) : Int) ≤ 0 := z
        omega
      exact hr 0 340 _ _ _ none (by decide +kernel) (by rfl) (⟨rfl, hS.iff (fun x => ⟨fun z => (hB x).mpr (Or.inl z), fun z => ((hB x).mp z).resolve_right ((fun x z => n9 z.1.2.1) x)⟩)⟩)
    · have h1 := cn_le.mp h1
      refine z_rcs hc hH 5 (pc' := 235) (lv' := [(6, .int x6), (5, .int (nI k)), (0, .ref 50), (1, .int x1), (2, .int (nI md)), (3, .int (nI p)), (4, .int 1)]) (st' := [.int ((nI k) + 2), .ref 51]) (μ' := μ3) (by rfl) ?_
      rw [show nI k + 2 = nI (k + 2) from nI_add k 2]
      refine zq_iald hc hH (by rfl) 34 (by decide +kernel) (in2) ?_
      rw [nI_clamp (n := k + 2) (by omega), (hw3 (k + 2) (by omega)).1]
      refine zq_if hc hH (by rfl) (tg := 340) (by rfl) (fun h2 => ?_) (fun h2 => ?_)
      · have h2 := cm_le.mp h2
        have b9 := (hw3 (k + 2) (by omega)).2
        have n9 : ¬ 0 < w (k + 2) := fun z9 => by
          have z := h2
          rw [Int32.le_iff_toInt_le, nI_toInt (by omega)] at z
          have z : ((w (k + 2) : Nat) : Int) ≤ 0 := z
          omega
        exact hr 0 340 _ _ _ none (by decide +kernel) (by rfl) (⟨rfl, hS.iff (fun x => ⟨fun z => (hB x).mpr (Or.inl z), fun z => ((hB x).mp z).resolve_right ((fun x z => n9 z.1.2.2) x)⟩)⟩)
      · have h2 := cn_le.mp h2
        have b1 := (hw3 (k + 1) (by omega)).2
        have p1 : 0 < w (k + 1) := by
          have z := h1
          rw [Int32.not_le, Int32.lt_iff_toInt_lt, nI_toInt (by omega)] at z
          have z : (0 : Int) < ((w (k + 1) : Nat) : Int) := z
          omega
        have b2 := (hw3 (k + 2) (by omega)).2
        have p2 : 0 < w (k + 2) := by
          have z := h2
          rw [Int32.not_le, Int32.lt_iff_toInt_lt, nI_toInt (by omega)] at z
          have z : (0 : Int) < ((w (k + 2) : Nat) : Int) := z
          omega
        exact rtR d' Z μ B md hc hr κ q p O eκ m k x1 x6 hm hk ih μ3 w pf hS.2.2.2.1 (a_Fz_tr (by decide +kernel) hF0 hS.2.2.1) hw3 hpl (hS.px hpl hpx) hpv hzk (by omega) (by omega) p1 p2 hk9 (fun μ4 h4 => r340 d' Z μ B md hc hr p k x1 x6 μ4 ((hS.tr h4).iff (fun x => ⟨fun z => (hB x).mpr (z.imp id (fun y => ⟨⟨hk9, p1, p2⟩, y⟩)), fun z => ((hB x).mp z).imp id (fun y => y.2)⟩)))
  · show Z 0 212 [(6, .int x6), (5, .int (nI k)), (0, .ref 50), (1, .int x1), (2, .int (nI md)), (3, .int (nI p)), (4, .int 1)] [.int 0] μ3
    have nR : ∀ x, ¬ (fun x => (rs k ∧ 0 < w (k + 1) ∧ 0 < w (k + 2)) ∧ SS O (pf ++ [(0, k)]) (subr w k) m (k + 1) x) x := fun x z => hk9 z.1.1
    refine z_rcs hc hH 1 (pc' := 340) (lv' := [(6, .int x6), (5, .int (nI k)), (0, .ref 50), (1, .int x1), (2, .int (nI md)), (3, .int (nI p)), (4, .int 1)]) (st' := []) (μ' := μ3) (by rfl) ?_
    exact hr 0 340 _ _ _ none (by decide +kernel) (by rfl) (⟨rfl, hS.iff (fun x => ⟨fun z => (hB x).mpr (Or.inl z), fun z => ((hB x).mp z).resolve_right (nR x)⟩)⟩)
theorem r107 (d' : Nat) (Z : zK) (μ : zM) (B : Q4 → Prop) (md : Nat) (hc : z_clo z_x0 mi_X7_sets (z_C d') Z) (hr : z_ret mi_X7_sets (fun r μ' => r = none ∧ SV md μ μ' B) Z) (κ : zM) (q p : Nat) (O : SL → Q4 → Prop) (eκ : κ.1 50 4 = nI q) (m k last : Nat) (x1 : Int32) (hd : 1 ≤ d') (hm : md + (m + 1) + q = 4) (hk : k < 34) (ih : ∀ (μ : zM) (w : Nat → Nat) (fr md last : Nat) (pf : SL), a_H μ → a_Fz mdR κ μ → RW μ 51 w → md + m + q = 4 → fr ≤ 34 → (∀ j, j < fr → w j = 0) → (last = 0 ∨ last = fr + 1) → pf.length = md → PX μ pf → PV pf → (∀ k, k < 34 → ((0 < md ∧ μ.1 54 (md - 1) = 0 ∧ μ.1 55 (md - 1) = nI k) ↔ last = k + 1)) → z_C d' mi_X7_sets [.ref 50, .int (nI fr), .int (nI md), .int (nI p), .int 1] μ (fun r μ' => r = none ∧ SV md μ μ' (SS O pf w m last))) (w : Nat → Nat) (pf : SL) (hH0 : a_H μ) (hF0 : a_Fz mdR κ μ) (hw : RW μ 51 w) (hpl : pf.length = md) (hpx : PX μ pf) (hpv : PV pf) (hzk : ∀ j, j < k → w j = 0) (hwk : w k ≠ 0) (hB : ∀ x, B x ↔ ((fun x => (3 ≤ w k ∧ last ≠ k + 1) ∧ SS O (pf ++ [(1, k)]) (sub3 w k) m 0 x) x ∨ (fun x => (rs k ∧ 0 < w (k + 1) ∧ 0 < w (k + 2)) ∧ SS O (pf ++ [(0, k)]) (subr w k) m (k + 1) x) x)) (hl : (0 < md ∧ μ.1 54 (md - 1) = 0 ∧ μ.1 55 (md - 1) = nI k) ↔ last = k + 1) : Z 0 107 [(5, .int (nI k)), (0, .ref 50), (1, .int x1), (2, .int (nI md)), (3, .int (nI p)), (4, .int 1)] [] μ := by
  have hH := zh_X7_sets
  have ink : vp_in (nI k) 34 := vp_in_nI hk (by decide)
  have t140 : ∀ x : Int32, (x = 1 ∧ last = k + 1) ∨ (x = 0 ∧ ¬ last = k + 1) → Z 0 140 [(5, .int (nI k)), (0, .ref 50), (1, .int x1), (2, .int (nI md)), (3, .int (nI p)), (4, .int 1)] [.int x] μ := by
    rintro x (⟨rfl, hx⟩ | ⟨rfl, hx⟩)
    · skip
      refine z_rcs hc hH 4 (pc' := 148) (lv' := [(6, .int 1), (5, .int (nI k)), (0, .ref 50), (1, .int x1), (2, .int (nI md)), (3, .int (nI p)), (4, .int 1)]) (st' := [.int (nI k), .ref 51]) (μ' := μ) (by rfl) ?_
      refine zq_iald hc hH (by rfl) 34 (by decide +kernel) (ink) ?_
      rw [nI_clamp (n := k) (by omega), (hw k hk).1]
      refine z_rcs hc hH 1 (pc' := 150) (lv' := [(6, .int 1), (5, .int (nI k)), (0, .ref 50), (1, .int x1), (2, .int (nI md)), (3, .int (nI p)), (4, .int 1)]) (st' := [.int 3, .int (nI (w k))]) (μ' := μ) (by rfl) ?_
      refine zq_ic hc hH (by rfl) (tg := 207) (by rfl) (fun h1 => ?_) (fun h1 => ?_)
      · have h1 := cm_lt.mp h1
        exact r207 d' Z μ B md hc hr κ q p O eκ m k last x1 hd hm hk ih w pf hH0 hF0 hw hpl hpx hpv hzk hwk hB 1 μ (SV_rf hH0 (fun x z => z.1.2 hx))
      · have h1 := cn_lt.mp h1
        refine z_rcs hc hH 2 (pc' := 207) (lv' := [(6, .int 1), (5, .int (nI k)), (0, .ref 50), (1, .int x1), (2, .int (nI md)), (3, .int (nI p)), (4, .int 1)]) (st' := []) (μ' := μ) (by rfl) ?_
        exact r207 d' Z μ B md hc hr κ q p O eκ m k last x1 hd hm hk ih w pf hH0 hF0 hw hpl hpx hpv hzk hwk hB 1 μ (SV_rf hH0 (fun x z => z.1.2 hx))
    · skip
      refine z_rcs hc hH 4 (pc' := 148) (lv' := [(6, .int 0), (5, .int (nI k)), (0, .ref 50), (1, .int x1), (2, .int (nI md)), (3, .int (nI p)), (4, .int 1)]) (st' := [.int (nI k), .ref 51]) (μ' := μ) (by rfl) ?_
      refine zq_iald hc hH (by rfl) 34 (by decide +kernel) (ink) ?_
      rw [nI_clamp (n := k) (by omega), (hw k hk).1]
      refine z_rcs hc hH 1 (pc' := 150) (lv' := [(6, .int 0), (5, .int (nI k)), (0, .ref 50), (1, .int x1), (2, .int (nI md)), (3, .int (nI p)), (4, .int 1)]) (st' := [.int 3, .int (nI (w k))]) (μ' := μ) (by rfl) ?_
      refine zq_ic hc hH (by rfl) (tg := 207) (by rfl) (fun h1 => ?_) (fun h1 => ?_)
      · have h1 := cm_lt.mp h1
        have n9 : ¬ 3 ≤ w k := fun z9 => by
          have z := h1
          rw [Int32.lt_iff_toInt_lt, nI_toInt (by have := (hw k hk).2; omega)] at z
          have z : ((w k : Nat) : Int) < 3 := z
          omega
        exact r207 d' Z μ B md hc hr κ q p O eκ m k last x1 hd hm hk ih w pf hH0 hF0 hw hpl hpx hpv hzk hwk hB 0 μ (SV_rf hH0 (fun x z => n9 z.1.1))
      · have h1 := cn_lt.mp h1
        refine z_rcs hc hH 2 (pc' := 158) (lv' := [(6, .int 0), (5, .int (nI k)), (0, .ref 50), (1, .int x1), (2, .int (nI md)), (3, .int (nI p)), (4, .int 1)]) (st' := []) (μ' := μ) (by rfl) ?_
        have h3 : 3 ≤ w k := by
          have z := h1
          rw [Int32.not_lt, Int32.le_iff_toInt_le, nI_toInt (by have := (hw k hk).2; omega)] at z
          have z : (3 : Int) ≤ ((w k : Nat) : Int) := z
          omega
        exact rt3 d' Z μ B md hc hr κ q p O eκ m k x1 0 hm hk ih μ w pf hH0 hF0 hw hpl hpx hpv hzk h3 (fun μ3 h9 => r207 d' Z μ B md hc hr κ q p O eκ m k last x1 hd hm hk ih w pf hH0 hF0 hw hpl hpx hpv hzk hwk hB 0 μ3 (h9.iff (fun x => ⟨fun z => ⟨⟨h3, hx⟩, z⟩, fun z => z.2⟩)))
  refine z_rcs hc hH 1 (pc' := 108) (lv' := [(5, .int (nI k)), (0, .ref 50), (1, .int x1), (2, .int (nI md)), (3, .int (nI p)), (4, .int 1)]) (st' := [.int (nI md)]) (μ' := μ) (by rfl) ?_
  refine zq_if hc hH (by rfl) (tg := 139) (by rfl) (fun h1 => ?_) (fun h1 => ?_)
  · have h1 := cm_le.mp h1
    have n0 : ¬ 0 < md := fun z9 => by
      have z := h1
      rw [Int32.le_iff_toInt_le, nI_toInt (by omega)] at z
      have z : ((md : Nat) : Int) ≤ 0 := z
      omega
    refine z_rcs hc hH 1 (pc' := 140) (lv' := [(5, .int (nI k)), (0, .ref 50), (1, .int x1), (2, .int (nI md)), (3, .int (nI p)), (4, .int 1)]) (st' := [.int 0]) (μ' := μ) (by rfl) ?_
    exact t140 0 (Or.inr ⟨rfl, fun z => n0 (hl.mpr z).1⟩)
  · have h1 := cn_le.mp h1
    have g0 : 0 < md := by
      have z := h1
      rw [Int32.not_le, Int32.lt_iff_toInt_lt, nI_toInt (by omega)] at z
      have z : (0 : Int) < ((md : Nat) : Int) := z
      omega
    have em : nI md - 1 = nI (md - 1) := s_1 md (by omega) (by omega)
    have inm : vp_in (nI (md - 1)) 5 := vp_in_nI (by omega) (by decide)
    refine z_rcs hc hH 5 (pc' := 118) (lv' := [(5, .int (nI k)), (0, .ref 50), (1, .int x1), (2, .int (nI md)), (3, .int (nI p)), (4, .int 1)]) (st' := [.int ((nI md) - 1), .ref 54]) (μ' := μ) (by rfl) ?_
    rw [em]
    refine zq_iald hc hH (by rfl) 5 (by decide +kernel) (inm) ?_
    rw [nI_clamp (n := md - 1) (by omega)]
    refine zq_if hc hH (by rfl) (tg := 139) (by rfl) (fun h2 => ?_) (fun h2 => ?_)
    · have h2 := cm_ne.mp h2
      have n1 := h2
      refine z_rcs hc hH 1 (pc' := 140) (lv' := [(5, .int (nI k)), (0, .ref 50), (1, .int x1), (2, .int (nI md)), (3, .int (nI p)), (4, .int 1)]) (st' := [.int 0]) (μ' := μ) (by rfl) ?_
      exact t140 0 (Or.inr ⟨rfl, fun z => n1 (hl.mpr z).2.1⟩)
    · have h2 := cn_ne.mp h2
      have g1 := h2
      refine z_rcs hc hH 5 (pc' := 129) (lv' := [(5, .int (nI k)), (0, .ref 50), (1, .int x1), (2, .int (nI md)), (3, .int (nI p)), (4, .int 1)]) (st' := [.int ((nI md) - 1), .ref 55]) (μ' := μ) (by rfl) ?_
      rw [em]
      refine zq_iald hc hH (by rfl) 5 (by decide +kernel) (inm) ?_
      rw [nI_clamp (n := md - 1) (by omega)]
      refine z_rcs hc hH 1 (pc' := 132) (lv' := [(5, .int (nI k)), (0, .ref 50), (1, .int x1), (2, .int (nI md)), (3, .int (nI p)), (4, .int 1)]) (st' := [.int (nI k), .int (μ.1 55 (md - 1))]) (μ' := μ) (by rfl) ?_
      refine zq_ic hc hH (by rfl) (tg := 139) (by rfl) (fun h3 => ?_) (fun h3 => ?_)
      · have h3 := cm_ne.mp h3
        have n2 := h3
        refine z_rcs hc hH 1 (pc' := 140) (lv' := [(5, .int (nI k)), (0, .ref 50), (1, .int x1), (2, .int (nI md)), (3, .int (nI p)), (4, .int 1)]) (st' := [.int 0]) (μ' := μ) (by rfl) ?_
        exact t140 0 (Or.inr ⟨rfl, fun z => n2 (hl.mpr z).2.2⟩)
      · have h3 := cn_ne.mp h3
        have g2 := h3
        refine z_rcs hc hH 2 (pc' := 140) (lv' := [(5, .int (nI k)), (0, .ref 50), (1, .int x1), (2, .int (nI md)), (3, .int (nI p)), (4, .int 1)]) (st' := [.int 1]) (μ' := μ) (by rfl) ?_
        exact t140 1 (Or.inl ⟨rfl, hl.mp ⟨g0, g1, g2⟩⟩)
theorem r76 (d' : Nat) (Z : zK) (μ : zM) (B : Q4 → Prop) (md : Nat) (hc : z_clo z_x0 mi_X7_sets (z_C d') Z) (hr : z_ret mi_X7_sets (fun r μ' => r = none ∧ SV md μ μ' B) Z) (κ : zM) (q p : Nat) (O : SL → Q4 → Prop) (eκ : κ.1 50 4 = nI q) (m fr last : Nat) (x1 : Int32) (hd : 1 ≤ d') (hm : md + (m + 1) + q = 4) (ih : ∀ (μ : zM) (w : Nat → Nat) (fr md last : Nat) (pf : SL), a_H μ → a_Fz mdR κ μ → RW μ 51 w → md + m + q = 4 → fr ≤ 34 → (∀ j, j < fr → w j = 0) → (last = 0 ∨ last = fr + 1) → pf.length = md → PX μ pf → PV pf → (∀ k, k < 34 → ((0 < md ∧ μ.1 54 (md - 1) = 0 ∧ μ.1 55 (md - 1) = nI k) ↔ last = k + 1)) → z_C d' mi_X7_sets [.ref 50, .int (nI fr), .int (nI md), .int (nI p), .int 1] μ (fun r μ' => r = none ∧ SV md μ μ' (SS O pf w m last))) (w : Nat → Nat) (pf : SL) (hH0 : a_H μ) (hF0 : a_Fz mdR κ μ) (hw : RW μ 51 w) (hpl : pf.length = md) (hpx : PX μ pf) (hpv : PV pf) (hzf : ∀ j, j < fr → w j = 0) (hla : last = 0 ∨ last = fr + 1) (hB : ∀ x, B x ↔ SS O pf w (m + 1) last x) (hl : ∀ k, k < 34 → ((0 < md ∧ μ.1 54 (md - 1) = 0 ∧ μ.1 55 (md - 1) = nI k) ↔ last = k + 1)) : ∀ n i, i + n = 34 → fr ≤ i → (∀ j, j < i → w j = 0) → Z 0 76 [(5, .int (nI i)), (0, .ref 50), (1, .int x1), (2, .int (nI md)), (3, .int (nI p)), (4, .int 1)] [] μ := by
  have hH := zh_X7_sets
  intro n
  induction n with
  | zero =>
    intro i hi hfi hz
    have hi : i = 34 := by omega
    subst hi
    refine z_rcs hc hH 2 (pc' := 80) (lv' := [(5, .int (nI 34)), (0, .ref 50), (1, .int x1), (2, .int (nI md)), (3, .int (nI p)), (4, .int 1)]) (st' := [.int 34, .int (nI 34)]) (μ' := μ) (by rfl) ?_
    refine zq_ic hc hH (by rfl) (tg := 99) (by rfl) (fun _ => ?_) (fun h9 => (zb_t (ge_nIt (n := 34) (i := 34) (by decide) (by decide)) h9).elim)
    refine z_rcs hc hH 2 (pc' := 103) (lv' := [(5, .int (nI 34)), (0, .ref 50), (1, .int x1), (2, .int (nI md)), (3, .int (nI p)), (4, .int 1)]) (st' := [.int 34, .int (nI 34)]) (μ' := μ) (by rfl) ?_
    refine zq_ic hc hH (by rfl) (tg := 107) (by rfl) (fun h9 => (zb_t h9 (cn_ne.mpr rfl)).elim) (fun _ => ?_)
    exact hr 0 106 _ _ _ none (by decide +kernel) (by rfl) (⟨rfl, SV_rf hH0 (fun x z => SS_e hz ((hB x).mp z))⟩)
  | succ n ihn =>
    intro i hi hfi hz
    have hin : vp_in (nI i) 34 := vp_in_nI (by omega) (by decide)
    refine z_rcs hc hH 2 (pc' := 80) (lv' := [(5, .int (nI i)), (0, .ref 50), (1, .int x1), (2, .int (nI md)), (3, .int (nI p)), (4, .int 1)]) (st' := [.int 34, .int (nI i)]) (μ' := μ) (by rfl) ?_
    refine zq_ic hc hH (by rfl) (tg := 99) (by rfl) (fun h9 => (zb_t h9 (ge_nI (n := 34) (i := i) (by omega) (by decide))).elim) (fun _ => ?_)
    refine z_rcs hc hH 3 (pc' := 89) (lv' := [(5, .int (nI i)), (0, .ref 50), (1, .int x1), (2, .int (nI md)), (3, .int (nI p)), (4, .int 1)]) (st' := [.int (nI i), .ref 51]) (μ' := μ) (by rfl) ?_
    refine zq_iald hc hH (by rfl) 34 (by decide +kernel) (hin) ?_
    rw [nI_clamp (n := i) (by omega), (hw i (by omega)).1]
    refine zq_if hc hH (by rfl) (tg := 99) (by rfl) (fun h1 => ?_) (fun h1 => ?_)
    · have h1 := cm_ne.mp h1
      have wi : w i ≠ 0 := fun e => h1 (by rw [e]; rfl)
      refine z_rcs hc hH 2 (pc' := 103) (lv' := [(5, .int (nI i)), (0, .ref 50), (1, .int x1), (2, .int (nI md)), (3, .int (nI p)), (4, .int 1)]) (st' := [.int 34, .int (nI i)]) (μ' := μ) (by rfl) ?_
      refine zq_ic hc hH (by rfl) (tg := 107) (by rfl) (fun _ => ?_) (fun h9 => (zb_t (cm_ne.mpr (fun z => by have := (nI_eq (a := i) (b := 34) (by omega) (by omega)).mp z; omega)) h9).elim)
      exact r107 d' Z μ B md hc hr κ q p O eκ m i last x1 hd hm (by omega) ih w pf hH0 hF0 hw hpl hpx hpv hz wi (fun x => (hB x).trans (SS_s (by omega) wi hz (by omega))) (hl i (by omega))
    · have h1 := cn_ne.mp h1
      refine z_rcs hc hH 2 (pc' := 76) (lv' := [(5, .int ((nI i) + 1)), (0, .ref 50), (1, .int x1), (2, .int (nI md)), (3, .int (nI p)), (4, .int 1)]) (st' := []) (μ' := μ) (by rfl) ?_
      have wi : w i = 0 := (nI_eq (by have := (hw i (by omega)).2; omega) (by omega)).mp h1
      rw [nI_1]
      exact ihn (i + 1) (by omega) (by omega) (fun j hj => if e : j = i then (by rw [e]; exact wi) else hz j (by omega))
theorem fr_X7_sets (κ : zM) (q p : Nat) (O : SL → Q4 → Prop) (eκ : κ.1 50 4 = nI q) (hq : q ≤ 4) (dw : Nat) (hdw : 1 ≤ dw) (hway : HW dw κ q p O) : ∀ (m d : Nat), m + 1 + dw ≤ d → ∀ (μ : zM) (w : Nat → Nat) (fr md last : Nat) (pf : SL), a_H μ → a_Fz mdR κ μ → RW μ 51 w → md + m + q = 4 → fr ≤ 34 → (∀ j, j < fr → w j = 0) → (last = 0 ∨ last = fr + 1) → pf.length = md → PX μ pf → PV pf → (∀ k, k < 34 → ((0 < md ∧ μ.1 54 (md - 1) = 0 ∧ μ.1 55 (md - 1) = nI k) ↔ last = k + 1)) → z_C d mi_X7_sets [.ref 50, .int (nI fr), .int (nI md), .int (nI p), .int 1] μ (fun r μ' => r = none ∧ SV md μ μ' (SS O pf w m last)) := by
  intro m
  induction m with
  | zero =>
    intro d hd μ w fr md last pf hH0 hF0 hw hm hf hzf hla hpl hpx hpv hl
    have e4 : μ.1 50 4 = nI q := (a_Fz_at hF0 50 4 (by decide +kernel)).trans eκ
    refine z_C_in (by decide) (by omega) (fun d' Z ed hc hr => ?_)
    have hH := zh_X7_sets
    refine z_rcs hc hH 5 (pc' := 7) (lv' := [(0, .ref 50), (1, .int (nI fr)), (2, .int (nI md)), (3, .int (nI p)), (4, .int 1)]) (st' := [.int (4 - (μ.1 50 4)), .int (nI md)]) (μ' := μ) (by rfl) ?_
    refine zq_ic hc hH (by rfl) (tg := 73) (by rfl) (fun h9 => (zb_t h9 (cn_ne.mpr (by rw [e4, s_4 q (by omega), show 4 - q = md by omega]))).elim) (fun _ => ?_)
    refine z_rcs hc hH 4 (pc' := 16) (lv' := [(6, .int 0), (5, .int 1), (0, .ref 50), (1, .int (nI fr)), (2, .int (nI md)), (3, .int (nI p)), (4, .int 1)]) (st' := []) (μ' := μ) (by rfl) ?_
    exact re16 d' Z μ _ md hc hr κ q p O eκ dw hway (by omega) _ w pf hH0 hF0 hw hpl (by omega) hpx hpv (fun h x => SS_0 h) (fun h x => SS_n h) 34 0 (by omega) 1 (Or.inl ⟨rfl, fun j hj => absurd hj (by omega)⟩)
  | succ m ih =>
    intro d hd μ w fr md last pf hH0 hF0 hw hm hf hzf hla hpl hpx hpv hl
    have e4 : μ.1 50 4 = nI q := (a_Fz_at hF0 50 4 (by decide +kernel)).trans eκ
    refine z_C_in (by decide) (by omega) (fun d' Z ed hc hr => ?_)
    have hH := zh_X7_sets
    refine z_rcs hc hH 5 (pc' := 7) (lv' := [(0, .ref 50), (1, .int (nI fr)), (2, .int (nI md)), (3, .int (nI p)), (4, .int 1)]) (st' := [.int (4 - (μ.1 50 4)), .int (nI md)]) (μ' := μ) (by rfl) ?_
    refine zq_ic hc hH (by rfl) (tg := 73) (by rfl) (fun _ => ?_) (fun h9 => (zb_t (cm_ne.mpr (fun z => by rw [e4, s_4 q (by omega)] at z; have := (nI_eq (by omega) (by omega)).mp z; omega)) h9).elim)
    refine z_rcs hc hH 2 (pc' := 76) (lv' := [(5, .int (nI fr)), (0, .ref 50), (1, .int (nI fr)), (2, .int (nI md)), (3, .int (nI p)), (4, .int 1)]) (st' := []) (μ' := μ) (by rfl) ?_
    exact r76 d' Z μ _ md hc hr κ q p O eκ m fr last _ (by omega) hm (fun μ w fr md last pf a b c e f g h i j k l => ih d' (by omega) μ w fr md last pf a b c e f g h i j k l) w pf hH0 hF0 hw hpl hpx hpv hzf hla (fun x => Iff.rfl) hl (34 - fr) fr (by omega) (Nat.le_refl _) hzf
/-! the reference's reckoning: its leaves -/
/-- a way's SETS as the reference has them -/
noncomputable def AY (μ : zM) (s l : Nat → Nat) : Prop := ∀ i, i < 4 → μ.1 56 i = nI (s i) ∧ s i ≤ 3 ∧ μ.1 57 i = nI (l i) ∧ l i < 34
noncomputable def t4 (s l : Nat → Nat) (c : Nat) : Prop := ∃ j, j < 4 ∧ s j ≠ 0 ∧ l j = c
noncomputable def r4 (s l : Nat → Nat) (c : Nat) : Prop := ∃ j, j < 4 ∧ s j = 0 ∧ l j = c
theorem zh_X7_isDragon : zH mi_X7_isDragon zt_X7_isDragon 79 7 1 := hh_X7_isDragon
theorem fc_X7_isDragon (d : Nat) (hd : 1 ≤ d) (μ : zM) (k : Int32) : z_C d mi_X7_isDragon [.int k] μ (zB μ (¬ k ≤ 30)) := by
  refine z_C_in (by decide) (by omega) (fun d' Z ed hc hr => ?_)
  have hH := zh_X7_isDragon
  refine z_rcs hc hH 2 (pc' := 3) (lv' := [(0, .int k)]) (st' := [.int 30, .int k]) (μ' := μ) (by rfl) ?_
  refine zq_ic hc hH (by rfl) (tg := 10) (by rfl) (fun h1 => ?_) (fun h1 => ?_)
  · have h1 := cm_le.mp h1
    refine z_rcs hc hH 1 (pc' := 11) (lv' := [(0, .int k)]) (st' := [.int 0]) (μ' := μ) (by rfl) ?_
    exact hr 0 11 _ _ _ (some (.int 0)) (by decide +kernel) (z_rx_ok hH (by rfl)) (⟨rfl, Or.inr ⟨rfl, fun q => q h1⟩⟩)
  · have h1 := cn_le.mp h1
    refine z_rcs hc hH 2 (pc' := 11) (lv' := [(0, .int k)]) (st' := [.int 1]) (μ' := μ) (by rfl) ?_
    exact hr 0 11 _ _ _ (some (.int 1)) (by decide +kernel) (z_rx_ok hH (by rfl)) (⟨rfl, Or.inl ⟨rfl, h1⟩⟩)
theorem zh_X7_bit : zH mi_X7_bit zt_X7_bit 79 7 1 := hh_X7_bit
theorem fc_X7_bit (d : Nat) (hd : 1 ≤ d) (μ : zM) (k : Int32) : z_C d mi_X7_bit [.int k] μ (zR μ (.long ((1 : Int64) <<< (k.toInt64 &&& 63)))) := by
  refine z_C_in (by decide) (by omega) (fun d' Z ed hc hr => ?_)
  have hH := zh_X7_bit
  refine z_rcs hc hH 3 (pc' := 3) (lv' := [(0, .int k)]) (st' := [.long (1 <<< (k.toInt64 &&& 63))]) (μ' := μ) (by rfl) ?_
  exact hr 0 3 _ _ _ (some (.long (1 <<< (k.toInt64 &&& 63)))) (by decide +kernel) (z_rx_ok hH (by rfl)) (⟨rfl, rfl⟩)
theorem zh_X7_hasThree : zH mi_X7_hasThree zt_X7_hasThree 79 7 4 := hh_X7_hasThree
theorem fc_X7_hasThree (d : Nat) (hd : 1 ≤ d) (μ : zM) (s l : Nat → Nat) (hA : AY μ s l) (c : Nat) (hcc : c < 100) : z_C d mi_X7_hasThree [.ref 50, .int (nI c)] μ (zB μ (t4 s l c)) := by
  refine z_C_in (by decide) (by omega) (fun d' Z ed hc hr => ?_)
  have hH := zh_X7_hasThree
  have lp : ∀ (n i : Nat), i + n = 4 → ∀ x : Int32, (x = 1 ∧ ∃ j, j < i ∧ (s j ≠ 0 ∧ l j = c)) ∨ (x = 0 ∧ ¬ ∃ j, j < i ∧ (s j ≠ 0 ∧ l j = c)) → Z 0 4 [(3, .int (nI i)), (2, .int x), (0, .ref 50), (1, .int (nI c))] [] μ := by
    intro n
    induction n with
    | zero =>
      intro i hi x hx
      have hi : i = 4 := by omega
      subst hi
      rcases hx with ⟨rfl, hz⟩ | ⟨rfl, hz⟩
      · skip
        refine z_rcs hc hH 2 (pc' := 6) (lv' := [(3, .int (nI 4)), (2, .int 1), (0, .ref 50), (1, .int (nI c))]) (st' := [.int 4, .int (nI 4)]) (μ' := μ) (by rfl) ?_
        refine zq_ic hc hH (by rfl) (tg := 44) (by rfl) (fun _ => ?_) (fun h9 => (zb_t (ge_nIt (n := 4) (i := 4) (by decide) (by decide)) h9).elim)
        refine z_rcs hc hH 1 (pc' := 45) (lv' := [(3, .int (nI 4)), (2, .int 1), (0, .ref 50), (1, .int (nI c))]) (st' := [.int 1]) (μ' := μ) (by rfl) ?_
        exact hr 0 45 _ _ _ (some (.int 1)) (by decide +kernel) (z_rx_ok hH (by rfl)) (⟨rfl, Or.inl ⟨rfl, hz⟩⟩)
      · skip
        refine z_rcs hc hH 2 (pc' := 6) (lv' := [(3, .int (nI 4)), (2, .int 0), (0, .ref 50), (1, .int (nI c))]) (st' := [.int 4, .int (nI 4)]) (μ' := μ) (by rfl) ?_
        refine zq_ic hc hH (by rfl) (tg := 44) (by rfl) (fun _ => ?_) (fun h9 => (zb_t (ge_nIt (n := 4) (i := 4) (by decide) (by decide)) h9).elim)
        refine z_rcs hc hH 1 (pc' := 45) (lv' := [(3, .int (nI 4)), (2, .int 0), (0, .ref 50), (1, .int (nI c))]) (st' := [.int 0]) (μ' := μ) (by rfl) ?_
        exact hr 0 45 _ _ _ (some (.int 0)) (by decide +kernel) (z_rx_ok hH (by rfl)) (⟨rfl, Or.inr ⟨rfl, hz⟩⟩)
    | succ n ih =>
      intro i hi x hx
      have hin : vp_in (nI i) 4 := vp_in_nI (by omega) (by decide)
      have a := hA i (by omega)
      rcases hx with ⟨rfl, hz⟩ | ⟨rfl, hz⟩
      · skip
        refine z_rcs hc hH 2 (pc' := 6) (lv' := [(3, .int (nI i)), (2, .int 1), (0, .ref 50), (1, .int (nI c))]) (st' := [.int 4, .int (nI i)]) (μ' := μ) (by rfl) ?_
        refine zq_ic hc hH (by rfl) (tg := 44) (by rfl) (fun h9 => (zb_t h9 (ge_nI (n := 4) (i := i) (by omega) (by decide))).elim) (fun _ => ?_)
        refine z_rcs hc hH 7 (pc' := 4) (lv' := [(3, .int ((nI i) + 1)), (2, .int 1), (0, .ref 50), (1, .int (nI c))]) (st' := []) (μ' := μ) (by rfl) ?_
        rw [nI_1]
        exact ih (i + 1) (by omega) 1 (Or.inl ⟨rfl, hz.elim fun j hj => ⟨j, by omega, hj.2⟩⟩)
      · skip
        refine z_rcs hc hH 2 (pc' := 6) (lv' := [(3, .int (nI i)), (2, .int 0), (0, .ref 50), (1, .int (nI c))]) (st' := [.int 4, .int (nI i)]) (μ' := μ) (by rfl) ?_
        refine zq_ic hc hH (by rfl) (tg := 44) (by rfl) (fun h9 => (zb_t h9 (ge_nI (n := 4) (i := i) (by omega) (by decide))).elim) (fun _ => ?_)
        refine z_rcs hc hH 5 (pc' := 18) (lv' := [(3, .int (nI i)), (2, .int 0), (0, .ref 50), (1, .int (nI c))]) (st' := [.int (nI i), .ref 56]) (μ' := μ) (by rfl) ?_
        refine zq_iald hc hH (by rfl) 4 (by decide +kernel) (hin) ?_
        rw [nI_clamp (n := i) (by omega), a.1]
        refine zq_if hc hH (by rfl) (tg := 36) (by rfl) (fun h1 => ?_) (fun h1 => ?_)
        · have h1 := cm_eq9.mp h1
          refine z_rcs hc hH 4 (pc' := 4) (lv' := [(3, .int ((nI i) + 1)), (2, .int 0), (0, .ref 50), (1, .int (nI c))]) (st' := []) (μ' := μ) (by rfl) ?_
          rw [nI_1]
          have g : s i = 0 := (nI_eq (by omega) (by decide)).mp h1
          exact ih (i + 1) (by omega) 0 (Or.inr ⟨rfl, fun ⟨j, hj, hp⟩ => if e : j = i then (by rw [e] at hp; exact hp.1 g) else hz ⟨j, by omega, hp⟩⟩)
        · have h1 := cn_eq.mp h1
          refine z_rcs hc hH 3 (pc' := 27) (lv' := [(3, .int (nI i)), (2, .int 0), (0, .ref 50), (1, .int (nI c))]) (st' := [.int (nI i), .ref 57]) (μ' := μ) (by rfl) ?_
          refine zq_iald hc hH (by rfl) 4 (by decide +kernel) (hin) ?_
          rw [nI_clamp (n := i) (by omega), a.2.2.1]
          refine z_rcs hc hH 1 (pc' := 29) (lv' := [(3, .int (nI i)), (2, .int 0), (0, .ref 50), (1, .int (nI c))]) (st' := [.int (nI c), .int (nI (l i))]) (μ' := μ) (by rfl) ?_
          refine zq_ic hc hH (by rfl) (tg := 36) (by rfl) (fun h2 => ?_) (fun h2 => ?_)
          · have h2 := cm_ne.mp h2
            refine z_rcs hc hH 4 (pc' := 4) (lv' := [(3, .int ((nI i) + 1)), (2, .int 0), (0, .ref 50), (1, .int (nI c))]) (st' := []) (μ' := μ) (by rfl) ?_
            rw [nI_1]
            have g : s i ≠ 0 := fun e => h1 (by rw [e]; rfl)
            exact ih (i + 1) (by omega) 0 (Or.inr ⟨rfl, fun ⟨j, hj, hp⟩ => if e : j = i then (by rw [e] at hp; exact h2 (by rw [hp.2])) else hz ⟨j, by omega, hp⟩⟩)
          · have h2 := cn_ne.mp h2
            refine z_rcs hc hH 5 (pc' := 4) (lv' := [(3, .int ((nI i) + 1)), (2, .int 1), (0, .ref 50), (1, .int (nI c))]) (st' := []) (μ' := μ) (by rfl) ?_
            rw [nI_1]
            have g : s i ≠ 0 := fun e => h1 (by rw [e]; rfl)
            exact ih (i + 1) (by omega) 1 (Or.inl ⟨rfl, i, by omega, g, (nI_eq (by omega) (by omega)).mp h2⟩)
  refine z_rcs hc hH 4 (pc' := 4) (lv' := [(3, .int 0), (2, .int 0), (0, .ref 50), (1, .int (nI c))]) (st' := []) (μ' := μ) (by rfl) ?_
  exact lp 4 0 rfl 0 (Or.inr ⟨rfl, fun ⟨j, hj, _⟩ => absurd hj (by omega)⟩)
theorem zh_X7_hasRun : zH mi_X7_hasRun zt_X7_hasRun 79 7 4 := hh_X7_hasRun
theorem fc_X7_hasRun (d : Nat) (hd : 1 ≤ d) (μ : zM) (s l : Nat → Nat) (hA : AY μ s l) (c : Nat) (hcc : c < 100) : z_C d mi_X7_hasRun [.ref 50, .int (nI c)] μ (zB μ (r4 s l c)) := by
  refine z_C_in (by decide) (by omega) (fun d' Z ed hc hr => ?_)
  have hH := zh_X7_hasRun
  have lp : ∀ (n i : Nat), i + n = 4 → ∀ x : Int32, (x = 1 ∧ ∃ j, j < i ∧ (s j = 0 ∧ l j = c)) ∨ (x = 0 ∧ ¬ ∃ j, j < i ∧ (s j = 0 ∧ l j = c)) → Z 0 4 [(3, .int (nI i)), (2, .int x), (0, .ref 50), (1, .int (nI c))] [] μ := by
    intro n
    induction n with
    | zero =>
      intro i hi x hx
      have hi : i = 4 := by omega
      subst hi
      rcases hx with ⟨rfl, hz⟩ | ⟨rfl, hz⟩
      · skip
        refine z_rcs hc hH 2 (pc' := 6) (lv' := [(3, .int (nI 4)), (2, .int 1), (0, .ref 50), (1, .int (nI c))]) (st' := [.int 4, .int (nI 4)]) (μ' := μ) (by rfl) ?_
        refine zq_ic hc hH (by rfl) (tg := 44) (by rfl) (fun _ => ?_) (fun h9 => (zb_t (ge_nIt (n := 4) (i := 4) (by decide) (by decide)) h9).elim)
        refine z_rcs hc hH 1 (pc' := 45) (lv' := [(3, .int (nI 4)), (2, .int 1), (0, .ref 50), (1, .int (nI c))]) (st' := [.int 1]) (μ' := μ) (by rfl) ?_
        exact hr 0 45 _ _ _ (some (.int 1)) (by decide +kernel) (z_rx_ok hH (by rfl)) (⟨rfl, Or.inl ⟨rfl, hz⟩⟩)
      · skip
        refine z_rcs hc hH 2 (pc' := 6) (lv' := [(3, .int (nI 4)), (2, .int 0), (0, .ref 50), (1, .int (nI c))]) (st' := [.int 4, .int (nI 4)]) (μ' := μ) (by rfl) ?_
        refine zq_ic hc hH (by rfl) (tg := 44) (by rfl) (fun _ => ?_) (fun h9 => (zb_t (ge_nIt (n := 4) (i := 4) (by decide) (by decide)) h9).elim)
        refine z_rcs hc hH 1 (pc' := 45) (lv' := [(3, .int (nI 4)), (2, .int 0), (0, .ref 50), (1, .int (nI c))]) (st' := [.int 0]) (μ' := μ) (by rfl) ?_
        exact hr 0 45 _ _ _ (some (.int 0)) (by decide +kernel) (z_rx_ok hH (by rfl)) (⟨rfl, Or.inr ⟨rfl, hz⟩⟩)
    | succ n ih =>
      intro i hi x hx
      have hin : vp_in (nI i) 4 := vp_in_nI (by omega) (by decide)
      have a := hA i (by omega)
      rcases hx with ⟨rfl, hz⟩ | ⟨rfl, hz⟩
      · skip
        refine z_rcs hc hH 2 (pc' := 6) (lv' := [(3, .int (nI i)), (2, .int 1), (0, .ref 50), (1, .int (nI c))]) (st' := [.int 4, .int (nI i)]) (μ' := μ) (by rfl) ?_
        refine zq_ic hc hH (by rfl) (tg := 44) (by rfl) (fun h9 => (zb_t h9 (ge_nI (n := 4) (i := i) (by omega) (by decide))).elim) (fun _ => ?_)
        refine z_rcs hc hH 7 (pc' := 4) (lv' := [(3, .int ((nI i) + 1)), (2, .int 1), (0, .ref 50), (1, .int (nI c))]) (st' := []) (μ' := μ) (by rfl) ?_
        rw [nI_1]
        exact ih (i + 1) (by omega) 1 (Or.inl ⟨rfl, hz.elim fun j hj => ⟨j, by omega, hj.2⟩⟩)
      · skip
        refine z_rcs hc hH 2 (pc' := 6) (lv' := [(3, .int (nI i)), (2, .int 0), (0, .ref 50), (1, .int (nI c))]) (st' := [.int 4, .int (nI i)]) (μ' := μ) (by rfl) ?_
        refine zq_ic hc hH (by rfl) (tg := 44) (by rfl) (fun h9 => (zb_t h9 (ge_nI (n := 4) (i := i) (by omega) (by decide))).elim) (fun _ => ?_)
        refine z_rcs hc hH 5 (pc' := 18) (lv' := [(3, .int (nI i)), (2, .int 0), (0, .ref 50), (1, .int (nI c))]) (st' := [.int (nI i), .ref 56]) (μ' := μ) (by rfl) ?_
        refine zq_iald hc hH (by rfl) 4 (by decide +kernel) (hin) ?_
        rw [nI_clamp (n := i) (by omega), a.1]
        refine zq_if hc hH (by rfl) (tg := 36) (by rfl) (fun h1 => ?_) (fun h1 => ?_)
        · have h1 := cm_ne.mp h1
          refine z_rcs hc hH 4 (pc' := 4) (lv' := [(3, .int ((nI i) + 1)), (2, .int 0), (0, .ref 50), (1, .int (nI c))]) (st' := []) (μ' := μ) (by rfl) ?_
          rw [nI_1]
          have g : s i ≠ 0 := fun e => h1 (by rw [e]; rfl)
          exact ih (i + 1) (by omega) 0 (Or.inr ⟨rfl, fun ⟨j, hj, hp⟩ => if e : j = i then (by rw [e] at hp; exact g hp.1) else hz ⟨j, by omega, hp⟩⟩)
        · have h1 := cn_ne.mp h1
          refine z_rcs hc hH 3 (pc' := 27) (lv' := [(3, .int (nI i)), (2, .int 0), (0, .ref 50), (1, .int (nI c))]) (st' := [.int (nI i), .ref 57]) (μ' := μ) (by rfl) ?_
          refine zq_iald hc hH (by rfl) 4 (by decide +kernel) (hin) ?_
          rw [nI_clamp (n := i) (by omega), a.2.2.1]
          refine z_rcs hc hH 1 (pc' := 29) (lv' := [(3, .int (nI i)), (2, .int 0), (0, .ref 50), (1, .int (nI c))]) (st' := [.int (nI c), .int (nI (l i))]) (μ' := μ) (by rfl) ?_
          refine zq_ic hc hH (by rfl) (tg := 36) (by rfl) (fun h2 => ?_) (fun h2 => ?_)
          · have h2 := cm_ne.mp h2
            refine z_rcs hc hH 4 (pc' := 4) (lv' := [(3, .int ((nI i) + 1)), (2, .int 0), (0, .ref 50), (1, .int (nI c))]) (st' := []) (μ' := μ) (by rfl) ?_
            rw [nI_1]
            have g : s i = 0 := (nI_eq (by omega) (by decide)).mp h1
            exact ih (i + 1) (by omega) 0 (Or.inr ⟨rfl, fun ⟨j, hj, hp⟩ => if e : j = i then (by rw [e] at hp; exact h2 (by rw [hp.2])) else hz ⟨j, by omega, hp⟩⟩)
          · have h2 := cn_ne.mp h2
            refine z_rcs hc hH 5 (pc' := 4) (lv' := [(3, .int ((nI i) + 1)), (2, .int 1), (0, .ref 50), (1, .int (nI c))]) (st' := []) (μ' := μ) (by rfl) ?_
            rw [nI_1]
            have g : s i = 0 := (nI_eq (by omega) (by decide)).mp h1
            exact ih (i + 1) (by omega) 1 (Or.inl ⟨rfl, i, by omega, g, (nI_eq (by omega) (by omega)).mp h2⟩)
  refine z_rcs hc hH 4 (pc' := 4) (lv' := [(3, .int 0), (2, .int 0), (0, .ref 50), (1, .int (nI c))]) (st' := []) (μ' := μ) (by rfl) ?_
  exact lp 4 0 rfl 0 (Or.inr ⟨rfl, fun ⟨j, hj, _⟩ => absurd hj (by omega)⟩)
noncomputable def hid (s : Nat → Nat) (q co : Nat) (dr : Prop) (i : Nat) : Prop := s i = 3 ∨ (q ≤ i ∧ s i = 1 ∧ (dr ∨ co ≠ i))
theorem zh_X7_isHidden : zH mi_X7_isHidden zt_X7_isHidden 79 7 2 := hh_X7_isHidden
theorem fc_X7_isHidden (d : Nat) (hd : 1 ≤ d) (μ : zM) (s l : Nat → Nat) (hA : AY μ s l) (q co i : Nat) (hq : q ≤ 4) (hco : co ≤ 4) (hi : i < 4) (e4 : μ.1 50 4 = nI q) (ec : μ.1 50 22 = nI co) : z_C d mi_X7_isHidden [.ref 50, .int (nI i)] μ (zB μ (hid s q co (¬ μ.1 50 11 = 0) i)) := by
  refine z_C_in (by decide) (by omega) (fun d' Z ed hc hr => ?_)
  have hH := zh_X7_isHidden
  have hin : vp_in (nI i) 4 := vp_in_nI hi (by decide)
  have a := hA i hi
  refine z_rcs hc hH 3 (pc' := 5) (lv' := [(0, .ref 50), (1, .int (nI i))]) (st' := [.int (nI i), .ref 56]) (μ' := μ) (by rfl) ?_
  refine zq_iald hc hH (by rfl) 4 (by decide +kernel) (hin) ?_
  rw [nI_clamp (n := i) (by omega), a.1]
  refine z_rcs hc hH 1 (pc' := 7) (lv' := [(0, .ref 50), (1, .int (nI i))]) (st' := [.int 3, .int (nI (s i))]) (μ' := μ) (by rfl) ?_
  refine zq_ic hc hH (by rfl) (tg := 12) (by rfl) (fun h1 => ?_) (fun h1 => ?_)
  · have h1 := cm_ne.mp h1
    refine z_rcs hc hH 3 (pc' := 17) (lv' := [(0, .ref 50), (1, .int (nI i))]) (st' := [.int (μ.1 50 4), .int (nI i)]) (μ' := μ) (by rfl) ?_
    refine zq_ic hc hH (by rfl) (tg := 49) (by rfl) (fun h2 => ?_) (fun h2 => ?_)
    · have h2 := cm_lt.mp h2
      refine z_rcs hc hH 1 (pc' := 50) (lv' := [(0, .ref 50), (1, .int (nI i))]) (st' := [.int 0]) (μ' := μ) (by rfl) ?_
      have lt : i < q := by
        have z := h2
        rw [e4, Int32.lt_iff_toInt_lt, nI_toInt (by omega), nI_toInt (by omega)] at z
        omega
      exact hr 0 50 _ _ _ (some (.int 0)) (by decide +kernel) (z_rx_ok hH (by rfl)) (⟨rfl, Or.inr ⟨rfl, fun z => z.elim (fun e => h1 (by rw [e]; rfl)) (fun y => absurd y.1 (by omega))⟩⟩)
    · have h2 := cn_lt.mp h2
      refine z_rcs hc hH 3 (pc' := 25) (lv' := [(0, .ref 50), (1, .int (nI i))]) (st' := [.int (nI i), .ref 56]) (μ' := μ) (by rfl) ?_
      refine zq_iald hc hH (by rfl) 4 (by decide +kernel) (hin) ?_
      rw [nI_clamp (n := i) (by omega), a.1]
      refine z_rcs hc hH 1 (pc' := 27) (lv' := [(0, .ref 50), (1, .int (nI i))]) (st' := [.int 1, .int (nI (s i))]) (μ' := μ) (by rfl) ?_
      refine zq_ic hc hH (by rfl) (tg := 49) (by rfl) (fun h3 => ?_) (fun h3 => ?_)
      · have h3 := cm_ne.mp h3
        refine z_rcs hc hH 1 (pc' := 50) (lv' := [(0, .ref 50), (1, .int (nI i))]) (st' := [.int 0]) (μ' := μ) (by rfl) ?_
        have le : q ≤ i := by
          have z := h2
          rw [e4, Int32.not_lt, Int32.le_iff_toInt_le, nI_toInt (by omega), nI_toInt (by omega)] at z
          omega
        exact hr 0 50 _ _ _ (some (.int 0)) (by decide +kernel) (z_rx_ok hH (by rfl)) (⟨rfl, Or.inr ⟨rfl, fun z => z.elim (fun e => h1 (by rw [e]; rfl)) (fun y => h3 (by rw [y.2.1]; rfl))⟩⟩)
      · have h3 := cn_ne.mp h3
        refine z_rcs hc hH 2 (pc' := 34) (lv' := [(0, .ref 50), (1, .int (nI i))]) (st' := [.int (μ.1 50 11)]) (μ' := μ) (by rfl) ?_
        refine zq_if hc hH (by rfl) (tg := 45) (by rfl) (fun h4 => ?_) (fun h4 => ?_)
        · have h4 := cm_ne.mp h4
          refine z_rcs hc hH 2 (pc' := 50) (lv' := [(0, .ref 50), (1, .int (nI i))]) (st' := [.int 1]) (μ' := μ) (by rfl) ?_
          have le : q ≤ i := by
            have z := h2
            rw [e4, Int32.not_lt, Int32.le_iff_toInt_le, nI_toInt (by omega), nI_toInt (by omega)] at z
            omega
          exact hr 0 50 _ _ _ (some (.int 1)) (by decide +kernel) (z_rx_ok hH (by rfl)) (⟨rfl, Or.inl ⟨rfl, Or.inr ⟨le, (nI_eq (by omega) (by decide)).mp h3, Or.inl h4⟩⟩⟩)
        · have h4 := cn_ne.mp h4
          refine z_rcs hc hH 3 (pc' := 42) (lv' := [(0, .ref 50), (1, .int (nI i))]) (st' := [.int (nI i), .int (μ.1 50 22)]) (μ' := μ) (by rfl) ?_
          refine zq_ic hc hH (by rfl) (tg := 49) (by rfl) (fun h5 => ?_) (fun h5 => ?_)
          · have h5 := cm_eq9.mp h5
            refine z_rcs hc hH 1 (pc' := 50) (lv' := [(0, .ref 50), (1, .int (nI i))]) (st' := [.int 0]) (μ' := μ) (by rfl) ?_
            have le : q ≤ i := by
              have z := h2
              rw [e4, Int32.not_lt, Int32.le_iff_toInt_le, nI_toInt (by omega), nI_toInt (by omega)] at z
              omega
            exact hr 0 50 _ _ _ (some (.int 0)) (by decide +kernel) (z_rx_ok hH (by rfl)) (⟨rfl, Or.inr ⟨rfl, fun z => z.elim (fun e => h1 (by rw [e]; rfl)) (fun y => y.2.2.elim (fun u => u h4) (fun u => u ((nI_eq (by omega) (by omega)).mp (ec.symm.trans h5))))⟩⟩)
          · have h5 := cn_eq.mp h5
            refine z_rcs hc hH 2 (pc' := 50) (lv' := [(0, .ref 50), (1, .int (nI i))]) (st' := [.int 1]) (μ' := μ) (by rfl) ?_
            have le : q ≤ i := by
              have z := h2
              rw [e4, Int32.not_lt, Int32.le_iff_toInt_le, nI_toInt (by omega), nI_toInt (by omega)] at z
              omega
            exact hr 0 50 _ _ _ (some (.int 1)) (by decide +kernel) (z_rx_ok hH (by rfl)) (⟨rfl, Or.inl ⟨rfl, Or.inr ⟨le, (nI_eq (by omega) (by decide)).mp h3, Or.inr (fun e => h5 (by rw [ec, e]))⟩⟩⟩)
  · have h1 := cn_ne.mp h1
    refine z_rcs hc hH 1 (pc' := 11) (lv' := [(0, .ref 50), (1, .int (nI i))]) (st' := [.int 1]) (μ' := μ) (by rfl) ?_
    exact hr 0 11 _ _ _ (some (.int 1)) (by decide +kernel) (z_rx_ok hH (by rfl)) (⟨rfl, Or.inl ⟨rfl, Or.inl ((nI_eq (by omega) (by decide)).mp h1)⟩⟩)
theorem zh_X7_isOpen : zH mi_X7_isOpen zt_X7_isOpen 79 7 3 := hh_X7_isOpen
theorem fc_X7_isOpen (d : Nat) (hd : 1 ≤ d) (μ : zM) (q : Nat) (hq : q ≤ 4) (e4 : μ.1 50 4 = nI q) : z_C d mi_X7_isOpen [.ref 50] μ (zB μ (∃ j, j < q ∧ ¬ μ.1 52 j = 3)) := by
  refine z_C_in (by decide) (by omega) (fun d' Z ed hc hr => ?_)
  have hH := zh_X7_isOpen
  have lp : ∀ (n i : Nat), i + n = q → ∀ x : Int32, (x = 1 ∧ ∃ j, j < i ∧ ¬ μ.1 52 j = 3) ∨ (x = 0 ∧ ¬ ∃ j, j < i ∧ ¬ μ.1 52 j = 3) → Z 0 4 [(2, .int (nI i)), (1, .int x), (0, .ref 50)] [] μ := by
    intro n
    induction n with
    | zero =>
      intro i hi x hx
      have hi : i = q := by omega
      subst hi
      rcases hx with ⟨rfl, hz⟩ | ⟨rfl, hz⟩
      · skip
        refine z_rcs hc hH 3 (pc' := 9) (lv' := [(2, .int (nI i)), (1, .int 1), (0, .ref 50)]) (st' := [.int (μ.1 50 4), .int (nI i)]) (μ' := μ) (by rfl) ?_
        refine zq_ic hc hH (by rfl) (tg := 38) (by rfl) (fun _ => ?_) (fun h9 => (zb_t (by rw [e4]; exact ge_nIt (Nat.le_refl _) (by omega)) h9).elim)
        refine z_rcs hc hH 1 (pc' := 39) (lv' := [(2, .int (nI i)), (1, .int 1), (0, .ref 50)]) (st' := [.int 1]) (μ' := μ) (by rfl) ?_
        exact hr 0 39 _ _ _ (some (.int 1)) (by decide +kernel) (z_rx_ok hH (by rfl)) (⟨rfl, Or.inl ⟨rfl, hz⟩⟩)
      · skip
        refine z_rcs hc hH 3 (pc' := 9) (lv' := [(2, .int (nI i)), (1, .int 0), (0, .ref 50)]) (st' := [.int (μ.1 50 4), .int (nI i)]) (μ' := μ) (by rfl) ?_
        refine zq_ic hc hH (by rfl) (tg := 38) (by rfl) (fun _ => ?_) (fun h9 => (zb_t (by rw [e4]; exact ge_nIt (Nat.le_refl _) (by omega)) h9).elim)
        refine z_rcs hc hH 1 (pc' := 39) (lv' := [(2, .int (nI i)), (1, .int 0), (0, .ref 50)]) (st' := [.int 0]) (μ' := μ) (by rfl) ?_
        exact hr 0 39 _ _ _ (some (.int 0)) (by decide +kernel) (z_rx_ok hH (by rfl)) (⟨rfl, Or.inr ⟨rfl, hz⟩⟩)
    | succ n ih =>
      intro i hi x hx
      have hin : vp_in (nI i) 8 := vp_in_nI (by omega) (by decide)
      rcases hx with ⟨rfl, hz⟩ | ⟨rfl, hz⟩
      · skip
        refine z_rcs hc hH 3 (pc' := 9) (lv' := [(2, .int (nI i)), (1, .int 1), (0, .ref 50)]) (st' := [.int (μ.1 50 4), .int (nI i)]) (μ' := μ) (by rfl) ?_
        refine zq_ic hc hH (by rfl) (tg := 38) (by rfl) (fun h9 => (zb_t h9 (by rw [e4]; exact ge_nI (by omega) (by omega))).elim) (fun _ => ?_)
        refine z_rcs hc hH 7 (pc' := 4) (lv' := [(2, .int ((nI i) + 1)), (1, .int 1), (0, .ref 50)]) (st' := []) (μ' := μ) (by rfl) ?_
        rw [nI_1]
        exact ih (i + 1) (by omega) 1 (Or.inl ⟨rfl, hz.elim fun j hj => ⟨j, by omega, hj.2⟩⟩)
      · skip
        refine z_rcs hc hH 3 (pc' := 9) (lv' := [(2, .int (nI i)), (1, .int 0), (0, .ref 50)]) (st' := [.int (μ.1 50 4), .int (nI i)]) (μ' := μ) (by rfl) ?_
        refine zq_ic hc hH (by rfl) (tg := 38) (by rfl) (fun h9 => (zb_t h9 (by rw [e4]; exact ge_nI (by omega) (by omega))).elim) (fun _ => ?_)
        refine z_rcs hc hH 5 (pc' := 21) (lv' := [(2, .int (nI i)), (1, .int 0), (0, .ref 50)]) (st' := [.int (nI i), .ref 52]) (μ' := μ) (by rfl) ?_
        refine zq_iald hc hH (by rfl) 8 (by decide +kernel) (hin) ?_
        rw [nI_clamp (n := i) (by omega)]
        refine z_rcs hc hH 1 (pc' := 23) (lv' := [(2, .int (nI i)), (1, .int 0), (0, .ref 50)]) (st' := [.int 3, .int (μ.1 52 i)]) (μ' := μ) (by rfl) ?_
        refine zq_ic hc hH (by rfl) (tg := 30) (by rfl) (fun h1 => ?_) (fun h1 => ?_)
        · have h1 := cm_eq9.mp h1
          refine z_rcs hc hH 4 (pc' := 4) (lv' := [(2, .int ((nI i) + 1)), (1, .int 0), (0, .ref 50)]) (st' := []) (μ' := μ) (by rfl) ?_
          rw [nI_1]
          exact ih (i + 1) (by omega) 0 (Or.inr ⟨rfl, fun ⟨j, hj, hp⟩ => if e : j = i then (by rw [e] at hp; exact hp h1) else hz ⟨j, by omega, hp⟩⟩)
        · have h1 := cn_eq.mp h1
          refine z_rcs hc hH 5 (pc' := 4) (lv' := [(2, .int ((nI i) + 1)), (1, .int 1), (0, .ref 50)]) (st' := []) (μ' := μ) (by rfl) ?_
          rw [nI_1]
          exact ih (i + 1) (by omega) 1 (Or.inl ⟨rfl, i, by omega, h1⟩)
  refine z_rcs hc hH 4 (pc' := 4) (lv' := [(2, .int 0), (1, .int 0), (0, .ref 50)]) (st' := []) (μ' := μ) (by rfl) ?_
  exact lp q 0 (by omega) 0 (Or.inr ⟨rfl, fun ⟨j, hj, _⟩ => absurd hj (by omega)⟩)
/-! like RUNS, ends in each SET: as the reference has them -/
/-- a form's bit -/
noncomputable abbrev fbt (f : Nat) : Int64 := (1 : Int64) <<< ((nI f).toInt64 &&& 63)
noncomputable def orb (x : Int64) (c : Prop) (f : Nat) : Int64 := @ite Int64 c (Classical.propDecidable c) (x ||| fbt f) x
theorem orb_t {x : Int64} {c : Prop} {f : Nat} (h : c) : orb x c f = x ||| fbt f := by unfold orb; rw [if_pos h]
theorem orb_f {x : Int64} {c : Prop} {f : Nat} (h : ¬ c) : orb x c f = x := by unfold orb; rw [if_neg h]
/-- only GREAT and plain forms change -/
noncomputable def LG (μ μ' : zM) (g pl : Int64) : Prop := μ'.1 = μ.1 ∧ μ'.2.1 50 24 = g ∧ μ'.2.1 50 25 = pl ∧ a_Fz [(50, 24), (50, 25)] μ μ'
theorem z_uj_1 (μ : zM) (r k : Nat) (x : Int64) : (z_uj μ r k x).1 = μ.1 := rfl
theorem z_uj_rd (μ : zM) (r k : Nat) (x : Int64) (r' k' : Nat) : (z_uj μ r k x).2.1 r' k' = if r' = r ∧ k' = k then x else μ.2.1 r' k' := by
  by_cases h : r' = r ∧ k' = k
  · rw [if_pos h, h.1, h.2, z_uj_at]
    exact if_pos rfl
  · rw [if_neg h]
    by_cases hr : r' = r
    · subst hr
      rw [z_uj_at, if_neg (fun e => h ⟨rfl, e⟩)]
    · rw [z_uj_ne hr]
theorem LG_rf (μ : zM) : LG μ μ (μ.2.1 50 24) (μ.2.1 50 25) := ⟨rfl, rfl, rfl, a_Fz_rf _ _⟩
theorem LG.pl {μ μ' : zM} {g pl x : Int64} (h : LG μ μ' g pl) : LG μ (z_uj μ' 50 25 x) g x := ⟨(z_uj_1 _ _ _ _).trans h.1, by rw [z_uj_rd, if_neg (by omega)]; exact h.2.1, by rw [z_uj_rd, if_pos ⟨rfl, rfl⟩], a_Fz_uj h.2.2.2 (by decide +kernel)⟩
theorem LG.gr {μ μ' : zM} {g pl x : Int64} (h : LG μ μ' g pl) : LG μ (z_uj μ' 50 24 x) x pl := ⟨(z_uj_1 _ _ _ _).trans h.1, by rw [z_uj_rd, if_pos ⟨rfl, rfl⟩], by rw [z_uj_rd, if_neg (by omega)]; exact h.2.2.1, a_Fz_uj h.2.2.2 (by decide +kernel)⟩
theorem AY.k {μ μ' : zM} {s l : Nat → Nat} (h : AY μ s l) (e : μ'.1 = μ.1) : AY μ' s l := fun i hi => by rw [e]; exact h i hi
/-- like RUNS -/
noncomputable def nr4 (s l : Nat → Nat) (c n : Nat) : Nat := cn (fun i => decide (s i = 0 ∧ l i = c)) n
noncomputable def twn (s l : Nat → Nat) (n : Nat) : Nat := sn (fun c => nr4 s l c 4 / 2) n
theorem cn_ub (b : Nat → Bool) : ∀ n, cn b n ≤ n := by
  intro n
  induction n with
  | zero => exact Nat.le_refl _
  | succ n ih => show cn b n + (if b n = true then 1 else 0) ≤ n + 1; split <;> omega
theorem d_2 : ∀ a, a < 5 → nI a / 2 = nI (a / 2) := by decide +kernel
theorem zh_X7_twins : zH mi_X7_twins zt_X7_twins 79 7 5 := hh_X7_twins
theorem tw15 (d' : Nat) (Z : zK) (hd : 1 ≤ d') (μ : zM) (s l : Nat → Nat) (hA : AY μ s l) (hc : z_clo z_x0 mi_X7_twins (z_C d') Z) (c : Nat) (hcc : c < 27) (x1 : Int32) (K : Z 0 56 [(4, .int (nI 4)), (3, .int (nI (nr4 s l c 4))), (2, .int (nI c)), (1, .int x1), (0, .ref 50)] [] μ) : ∀ n i, i + n = 4 → Z 0 15 [(4, .int (nI i)), (3, .int (nI (nr4 s l c i))), (2, .int (nI c)), (1, .int x1), (0, .ref 50)] [] μ := by
  have hH := zh_X7_twins
  intro n
  induction n with
  | zero =>
    intro i hi
    have hi : i = 4 := by omega
    subst hi
    refine z_rcs hc hH 2 (pc' := 18) (lv' := [(4, .int (nI 4)), (3, .int (nI (nr4 s l c 4))), (2, .int (nI c)), (1, .int x1), (0, .ref 50)]) (st' := [.int 4, .int (nI 4)]) (μ' := μ) (by rfl) ?_
    refine zq_ic hc hH (by rfl) (tg := 56) (by rfl) (fun _ => ?_) (fun h9 => (zb_t (ge_nIt (n := 4) (i := 4) (by decide) (by decide)) h9).elim)
    exact K
  | succ n ih =>
    intro i hi
    have hin : vp_in (nI i) 4 := vp_in_nI (by omega) (by decide)
    have a := hA i (by omega)
    have e : nr4 s l c (i + 1) = nr4 s l c i + (if decide (s i = 0 ∧ l i = c) = true then 1 else 0) := rfl
    refine z_rcs hc hH 2 (pc' := 18) (lv' := [(4, .int (nI i)), (3, .int (nI (nr4 s l c i))), (2, .int (nI c)), (1, .int x1), (0, .ref 50)]) (st' := [.int 4, .int (nI i)]) (μ' := μ) (by rfl) ?_
    refine zq_ic hc hH (by rfl) (tg := 56) (by rfl) (fun h9 => (zb_t h9 (ge_nI (n := 4) (i := i) (by omega) (by decide))).elim) (fun _ => ?_)
    refine z_rcs hc hH 4 (pc' := 28) (lv' := [(4, .int (nI i)), (3, .int (nI (nr4 s l c i))), (2, .int (nI c)), (1, .int x1), (0, .ref 50)]) (st' := [.int (nI i), .ref 56, .int (nI (nr4 s l c i))]) (μ' := μ) (by rfl) ?_
    refine zq_iald hc hH (by rfl) 4 (by decide +kernel) (hin) ?_
    rw [nI_clamp (n := i) (by omega), a.1]
    refine zq_if hc hH (by rfl) (tg := 47) (by rfl) (fun h1 => ?_) (fun h1 => ?_)
    · have h1 := cm_ne.mp h1
      refine z_rcs hc hH 2 (pc' := 49) (lv' := [(4, .int (nI i)), (3, .int (nI (nr4 s l c i))), (2, .int (nI c)), (1, .int x1), (0, .ref 50)]) (st' := [.int ((nI (nr4 s l c i)) + 0)]) (μ' := μ) (by rfl) ?_
      rw [if_neg (by rw [decide_eq_true_iff]; exact fun z => h1 (by rw [z.1]; rfl))] at e
      rw [Int32.add_zero, ← show nr4 s l c (i + 1) = nr4 s l c i from e]
      refine z_rcs hc hH 3 (pc' := 15) (lv' := [(4, .int ((nI i) + 1)), (3, .int (nI (nr4 s l c (i + 1)))), (2, .int (nI c)), (1, .int x1), (0, .ref 50)]) (st' := []) (μ' := μ) (by rfl) ?_
      rw [nI_1]
      exact ih (i + 1) (by omega)
    · have h1 := cn_ne.mp h1
      refine z_rcs hc hH 3 (pc' := 38) (lv' := [(4, .int (nI i)), (3, .int (nI (nr4 s l c i))), (2, .int (nI c)), (1, .int x1), (0, .ref 50)]) (st' := [.int (nI i), .ref 57, .int (nI (nr4 s l c i))]) (μ' := μ) (by rfl) ?_
      refine zq_iald hc hH (by rfl) 4 (by decide +kernel) (hin) ?_
      rw [nI_clamp (n := i) (by omega), a.2.2.1]
      refine z_rcs hc hH 1 (pc' := 40) (lv' := [(4, .int (nI i)), (3, .int (nI (nr4 s l c i))), (2, .int (nI c)), (1, .int x1), (0, .ref 50)]) (st' := [.int (nI c), .int (nI (l i)), .int (nI (nr4 s l c i))]) (μ' := μ) (by rfl) ?_
      refine zq_ic hc hH (by rfl) (tg := 47) (by rfl) (fun h2 => ?_) (fun h2 => ?_)
      · have h2 := cm_ne.mp h2
        refine z_rcs hc hH 2 (pc' := 49) (lv' := [(4, .int (nI i)), (3, .int (nI (nr4 s l c i))), (2, .int (nI c)), (1, .int x1), (0, .ref 50)]) (st' := [.int ((nI (nr4 s l c i)) + 0)]) (μ' := μ) (by rfl) ?_
        rw [if_neg (by rw [decide_eq_true_iff]; exact fun z => h2 (by rw [z.2]))] at e
        rw [Int32.add_zero, ← show nr4 s l c (i + 1) = nr4 s l c i from e]
        refine z_rcs hc hH 3 (pc' := 15) (lv' := [(4, .int ((nI i) + 1)), (3, .int (nI (nr4 s l c (i + 1)))), (2, .int (nI c)), (1, .int x1), (0, .ref 50)]) (st' := []) (μ' := μ) (by rfl) ?_
        rw [nI_1]
        exact ih (i + 1) (by omega)
      · have h2 := cn_ne.mp h2
        refine z_rcs hc hH 3 (pc' := 49) (lv' := [(4, .int (nI i)), (3, .int (nI (nr4 s l c i))), (2, .int (nI c)), (1, .int x1), (0, .ref 50)]) (st' := [.int ((nI (nr4 s l c i)) + 1)]) (μ' := μ) (by rfl) ?_
        rw [if_pos (decide_eq_true ⟨(nI_eq (show s i < 2 ^ 31 by omega) (show 0 < 2 ^ 31 by decide)).mp h1, (nI_eq (by omega) (by omega)).mp h2⟩)] at e
        rw [nI_1, ← e]
        refine z_rcs hc hH 3 (pc' := 15) (lv' := [(4, .int ((nI i) + 1)), (3, .int (nI (nr4 s l c (i + 1)))), (2, .int (nI c)), (1, .int x1), (0, .ref 50)]) (st' := []) (μ' := μ) (by rfl) ?_
        rw [nI_1]
        exact ih (i + 1) (by omega)
theorem tw4 (d' : Nat) (Z : zK) (hd : 1 ≤ d') (μ : zM) (s l : Nat → Nat) (hA : AY μ s l) (hc : z_clo z_x0 mi_X7_twins (z_C d') Z) (K : ∀ x3, Z 0 68 [(2, .int (nI 27)), (1, .int (nI (twn s l 27))), (4, .int (nI 4)), (3, .int x3), (0, .ref 50)] [] μ) : ∀ n c, c + n = 27 → (0 < c → ∀ x3, Z 0 4 [(2, .int (nI c)), (1, .int (nI (twn s l c))), (4, .int (nI 4)), (3, .int x3), (0, .ref 50)] [] μ) ∧ (c = 0 → Z 0 4 [(2, .int (nI 0)), (1, .int (nI 0)), (0, .ref 50)] [] μ) := by
  have hH := zh_X7_twins
  intro n
  induction n with
  | zero =>
    intro c hc0
    have hc0 : c = 27 := by omega
    subst hc0
    refine ⟨fun _ x3 => ?_, fun e => absurd e (by decide)⟩
    refine z_rcs hc hH 2 (pc' := 7) (lv' := [(2, .int (nI 27)), (1, .int (nI (twn s l 27))), (4, .int (nI 4)), (3, .int x3), (0, .ref 50)]) (st' := [.int 27, .int (nI 27)]) (μ' := μ) (by rfl) ?_
    refine zq_ic hc hH (by rfl) (tg := 68) (by rfl) (fun _ => ?_) (fun h9 => (zb_t (ge_nIt (n := 27) (i := 27) (by decide) (by decide)) h9).elim)
    exact K x3
  | succ n ih =>
    intro c hc0
    have ub := cn_ub (fun i => decide (s i = 0 ∧ l i = c)) 4
    have bd : Z 0 15 [(4, .int (nI 0)), (3, .int (nI 0)), (2, .int (nI c)), (1, .int (nI (twn s l c))), (0, .ref 50)] [] μ := by
      refine tw15 d' Z hd μ s l hA hc c (by omega) (nI (twn s l c)) ?_ 4 0 (by omega)
      refine z_rcs hc hH 4 (pc' := 60) (lv' := [(4, .int (nI 4)), (3, .int (nI (nr4 s l c 4))), (2, .int (nI c)), (1, .int (nI (twn s l c))), (0, .ref 50)]) (st' := [.int ((nI (nr4 s l c 4)) / 2), .int (nI (twn s l c))]) (μ' := μ) (by rfl) ?_
      rw [d_2 (nr4 s l c 4) (by show cn _ 4 < 5; omega)]
      refine z_rcs hc hH 1 (pc' := 61) (lv' := [(4, .int (nI 4)), (3, .int (nI (nr4 s l c 4))), (2, .int (nI c)), (1, .int (nI (twn s l c))), (0, .ref 50)]) (st' := [.int ((nI (twn s l c)) + (nI (nr4 s l c 4 / 2)))]) (μ' := μ) (by rfl) ?_
      rw [nI_add]
      refine z_rcs hc hH 3 (pc' := 4) (lv' := [(2, .int ((nI c) + 1)), (1, .int (nI (twn s l c + nr4 s l c 4 / 2))), (4, .int (nI 4)), (3, .int (nI (nr4 s l c 4))), (0, .ref 50)]) (st' := []) (μ' := μ) (by rfl) ?_
      rw [nI_1]
      exact (ih (c + 1) (by omega)).1 (by omega) _
    refine ⟨fun _ x3 => ?_, fun e => ?_⟩
    · skip
      refine z_rcs hc hH 2 (pc' := 7) (lv' := [(2, .int (nI c)), (1, .int (nI (twn s l c))), (4, .int (nI 4)), (3, .int x3), (0, .ref 50)]) (st' := [.int 27, .int (nI c)]) (μ' := μ) (by rfl) ?_
      refine zq_ic hc hH (by rfl) (tg := 68) (by rfl) (fun h9 => (zb_t h9 (ge_nI (n := 27) (i := c) (by omega) (by decide))).elim) (fun _ => ?_)
      refine z_rcs hc hH 4 (pc' := 15) (lv' := [(4, .int 0), (3, .int 0), (2, .int (nI c)), (1, .int (nI (twn s l c))), (0, .ref 50)]) (st' := []) (μ' := μ) (by rfl) ?_
      exact bd
    · subst e
      refine z_rcs hc hH 2 (pc' := 7) (lv' := [(2, .int (nI 0)), (1, .int (nI 0)), (0, .ref 50)]) (st' := [.int 27, .int (nI 0)]) (μ' := μ) (by rfl) ?_
      refine zq_ic hc hH (by rfl) (tg := 68) (by rfl) (fun h9 => (zb_t h9 (ge_nI (n := 27) (i := 0) (by omega) (by decide))).elim) (fun _ => ?_)
      refine z_rcs hc hH 4 (pc' := 15) (lv' := [(4, .int 0), (3, .int 0), (2, .int (nI 0)), (1, .int (nI 0)), (0, .ref 50)]) (st' := []) (μ' := μ) (by rfl) ?_
      exact bd
theorem tw_ub (s l : Nat → Nat) : twn s l 27 < 1000 := by
  have := sn_ub (w := fun c => nr4 s l c 4 / 2) (c := 4) 27 (fun k _ => by have := cn_ub (fun i => decide (s i = 0 ∧ l i = k)) 4; show cn _ 4 / 2 ≤ 4; omega)
  unfold twn
  omega
theorem fc_X7_twins (d : Nat) (hd : 2 ≤ d) (μ : zM) (s l : Nat → Nat) (hA : AY μ s l) : z_C d mi_X7_twins [.ref 50] μ (fun r μ' => r = none ∧ LG μ μ' (μ.2.1 50 24) (orb (orb (μ.2.1 50 25) (twn s l 27 = 1) 10) (twn s l 27 = 2) 28)) := by
  refine z_C_in (by decide) (by omega) (fun d' Z ed hc hr => ?_)
  have hH := zh_X7_twins
  have ub := tw_ub s l
  refine z_rcs hc hH 4 (pc' := 4) (lv' := [(2, .int 0), (1, .int 0), (0, .ref 50)]) (st' := []) (μ' := μ) (by rfl) ?_
  refine (tw4 d' Z (by omega) μ s l hA hc (fun x3 => ?_) 27 0 (by omega)).2 rfl
  have t87 : ∀ μ1, LG μ μ1 (μ.2.1 50 24) (orb (μ.2.1 50 25) (twn s l 27 = 1) 10) → Z 0 87 [(2, .int (nI 27)), (1, .int (nI (twn s l 27))), (4, .int (nI 4)), (3, .int x3), (0, .ref 50)] [] μ1 := by
    intro μ1 g1
    refine z_rcs hc hH 2 (pc' := 89) (lv' := [(2, .int (nI 27)), (1, .int (nI (twn s l 27))), (4, .int (nI 4)), (3, .int x3), (0, .ref 50)]) (st' := [.int 2, .int (nI (twn s l 27))]) (μ' := μ1) (by rfl) ?_
    refine zq_ic hc hH (by rfl) (tg := 106) (by rfl) (fun h1 => ?_) (fun h1 => ?_)
    · have h1 := cm_ne.mp h1
      exact hr 0 106 _ _ _ none (by decide +kernel) (by rfl) (⟨rfl, by rw [orb_f (fun e => h1 (by rw [e]; rfl))]; exact g1⟩)
    · have h1 := cn_ne.mp h1
      refine z_rcs hc hH 3 (pc' := 97) (lv' := [(2, .int (nI 27)), (1, .int (nI (twn s l 27))), (4, .int (nI 4)), (3, .int x3), (0, .ref 50)]) (st' := [.long (μ1.2.1 50 25), .ref 50]) (μ' := μ1) (by rfl) ?_
      rw [g1.2.2.1]
      refine z_rcs hc hH 1 (pc' := 99) (lv' := [(2, .int (nI 27)), (1, .int (nI (twn s l 27))), (4, .int (nI 4)), (3, .int x3), (0, .ref 50)]) (st' := [.int 28, .long (orb (μ.2.1 50 25) (twn s l 27 = 1) 10), .ref 50]) (μ' := μ1) (by rfl) ?_
      refine zq_call hc (z_cx_ok hH (by rfl)) (fc_X7_bit d' (by omega) μ1 28) (by decide +kernel) (fun r9 μ9 hq => ?_)
      obtain ⟨hμ9, rfl⟩ := hq
      rw [hμ9]
      clear hμ9 μ9
      show Z 0 102 [(2, .int (nI 27)), (1, .int (nI (twn s l 27))), (4, .int (nI 4)), (3, .int x3), (0, .ref 50)] [.long (fbt 28), .long (orb (μ.2.1 50 25) (twn s l 27 = 1) 10), .ref 50] μ1
      refine z_rcs hc hH 2 (pc' := 106) (lv' := [(2, .int (nI 27)), (1, .int (nI (twn s l 27))), (4, .int (nI 4)), (3, .int x3), (0, .ref 50)]) (st' := []) (μ' := z_uj μ1 50 25 ((orb (μ.2.1 50 25) (twn s l 27 = 1) 10) ||| (fbt 28))) (by rfl) ?_
      have e2 : twn s l 27 = 2 := (nI_eq (by omega) (by decide)).mp h1
      exact hr 0 106 _ _ _ none (by decide +kernel) (by rfl) (⟨rfl, by rw [orb_t e2]; exact g1.pl⟩)
  refine z_rcs hc hH 2 (pc' := 70) (lv' := [(2, .int (nI 27)), (1, .int (nI (twn s l 27))), (4, .int (nI 4)), (3, .int x3), (0, .ref 50)]) (st' := [.int 1, .int (nI (twn s l 27))]) (μ' := μ) (by rfl) ?_
  refine zq_ic hc hH (by rfl) (tg := 87) (by rfl) (fun h1 => ?_) (fun h1 => ?_)
  · have h1 := cm_ne.mp h1
    exact t87 _ (by rw [orb_f (fun e => h1 (by rw [e]; rfl))]; exact LG_rf μ)
  · have h1 := cn_ne.mp h1
    refine z_rcs hc hH 4 (pc' := 80) (lv' := [(2, .int (nI 27)), (1, .int (nI (twn s l 27))), (4, .int (nI 4)), (3, .int x3), (0, .ref 50)]) (st' := [.int 10, .long (μ.2.1 50 25), .ref 50]) (μ' := μ) (by rfl) ?_
    refine zq_call hc (z_cx_ok hH (by rfl)) (fc_X7_bit d' (by omega) μ 10) (by decide +kernel) (fun r9 μ9 hq => ?_)
    obtain ⟨hμ9, rfl⟩ := hq
    rw [hμ9]
    clear hμ9 μ9
    show Z 0 83 [(2, .int (nI 27)), (1, .int (nI (twn s l 27))), (4, .int (nI 4)), (3, .int x3), (0, .ref 50)] [.long (fbt 10), .long (μ.2.1 50 25), .ref 50] μ
    refine z_rcs hc hH 2 (pc' := 87) (lv' := [(2, .int (nI 27)), (1, .int (nI (twn s l 27))), (4, .int (nI 4)), (3, .int x3), (0, .ref 50)]) (st' := []) (μ' := z_uj μ 50 25 ((μ.2.1 50 25) ||| (fbt 10))) (by rfl) ?_
    have e1 : twn s l 27 = 1 := (nI_eq (by omega) (by decide)).mp h1
    exact t87 _ (by rw [orb_t e1]; exact (LG_rf μ).pl)
/-! the reference's reckoning: its leaves as expressions -/
set_option maxRecDepth 8000
noncomputable def nB (b : Bool) : Int32 := bif b then 1 else 0
theorem nB_z {b : Bool} : nB b = 0 ↔ b = false := by cases b <;> decide
theorem nB_n {b : Bool} : ¬ nB b = 0 ↔ b = true := by cases b <;> decide
theorem nB_t : nB true = 1 := rfl
theorem nB_f : nB false = 0 := rfl
noncomputable def lb (b : Bool) (k : Int32) : Int64 := bif b then (1 : Int64) <<< (k.toInt64 &&& 63) else 0
theorem lb_f {k : Int32} : lb false k = 0 := rfl
theorem zJ {Z : zK} {b pc : Nat} {lv lv' : zL} {st st' : List Value} {μ μ' : zM} (h : Z b pc lv st μ) (e1 : lv = lv') (e2 : st = st') (e3 : μ = μ') : Z b pc lv' st' μ' := by subst e1; subst e2; subst e3; exact h
/-- GREAT, plain forms and FU -/
noncomputable def mGP (μ : zM) (g p : Int64) (f : Int32) : zM := (fun r k => bif Nat.beq r 50 && Nat.beq k 23 then f else μ.1 r k, fun r k => bif Nat.beq r 50 && Nat.beq k 24 then g else (bif Nat.beq r 50 && Nat.beq k 25 then p else μ.2.1 r k), μ.2.2)
theorem bq_t {a b : Nat} : Nat.beq a b = true ↔ a = b := ⟨Nat.eq_of_beq_eq_true, fun h => by rw [h]; exact Nat.beq_refl b⟩
theorem mGP_rf (μ : zM) : mGP μ (μ.2.1 50 24) (μ.2.1 50 25) (μ.1 50 23) = μ := by
  unfold mGP
  refine Prod.ext ?_ (Prod.ext ?_ rfl)
  · funext r k
    show (bif Nat.beq r 50 && Nat.beq k 23 then μ.1 50 23 else μ.1 r k) = μ.1 r k
    cases h : Nat.beq r 50 && Nat.beq k 23
    · rfl
    · rw [Bool.and_eq_true, bq_t, bq_t] at h
      rw [h.1, h.2]; rfl
  · funext r k
    show (bif Nat.beq r 50 && Nat.beq k 24 then μ.2.1 50 24 else (bif Nat.beq r 50 && Nat.beq k 25 then μ.2.1 50 25 else μ.2.1 r k)) = μ.2.1 r k
    cases h : Nat.beq r 50 && Nat.beq k 24
    · cases h2 : Nat.beq r 50 && Nat.beq k 25
      · rfl
      · rw [Bool.and_eq_true, bq_t, bq_t] at h2
        rw [h2.1, h2.2]; rfl
    · rw [Bool.and_eq_true, bq_t, bq_t] at h
      rw [h.1, h.2]; rfl
theorem mGP_g {μ : zM} {g p x : Int64} {f : Int32} : z_uj (mGP μ g p f) 50 24 x = mGP μ x p f := by
  unfold mGP z_uj
  refine Prod.ext rfl (Prod.ext ?_ rfl)
  funext r k
  show (bif Nat.beq r 50 && Nat.beq k 24 then x else (bif Nat.beq r 50 && Nat.beq k 24 then g else _)) = bif Nat.beq r 50 && Nat.beq k 24 then x else _
  cases Nat.beq r 50 && Nat.beq k 24 <;> rfl
theorem mGP_p {μ : zM} {g p x : Int64} {f : Int32} : z_uj (mGP μ g p f) 50 25 x = mGP μ g x f := by
  unfold mGP z_uj
  refine Prod.ext rfl (Prod.ext ?_ rfl)
  funext r k
  show (bif Nat.beq r 50 && Nat.beq k 25 then x else (bif Nat.beq r 50 && Nat.beq k 24 then g else (bif Nat.beq r 50 && Nat.beq k 25 then p else μ.2.1 r k))) = bif Nat.beq r 50 && Nat.beq k 24 then g else (bif Nat.beq r 50 && Nat.beq k 25 then x else μ.2.1 r k)
  cases h : Nat.beq r 50 && Nat.beq k 25
  · cases Nat.beq r 50 && Nat.beq k 24 <;> rfl
  · rw [Bool.and_eq_true, bq_t, bq_t] at h
    rw [h.2, show (Nat.beq 25 24) = false from rfl, Bool.and_false]; rfl
theorem mGP_f {μ : zM} {g p : Int64} {f x : Int32} : z_ui (mGP μ g p f) 50 23 x = mGP μ g p x := by
  unfold mGP z_ui
  refine Prod.ext ?_ rfl
  funext r k
  show (bif Nat.beq r 50 && Nat.beq k 23 then x else (bif Nat.beq r 50 && Nat.beq k 23 then f else μ.1 r k)) = bif Nat.beq r 50 && Nat.beq k 23 then x else μ.1 r k
  cases Nat.beq r 50 && Nat.beq k 23 <;> rfl
noncomputable def xDr (k : Int32) : Bool := !(decide (k ≤ 30))
theorem fb_X7_isDragon (d : Nat) (hd : 1 ≤ d) (μ : zM) (k : Int32) : z_C d mi_X7_isDragon [.int k] μ (zR μ (.int (nB (xDr k)))) := by
  refine z_C_in (by decide) (by omega) (fun d' Z ed hc hr => ?_)
  have hH : zH mi_X7_isDragon zt_X7_isDragon 79 7 1 := hh_X7_isDragon
  refine z_rcs hc hH 2 (pc' := 3) (lv' := [(0, .int k)]) (st' := [.int 30, .int k]) (μ' := μ) (by rfl) ?_
  have hJ1 : Z 0 11 [(0, .int k)] [.int (nB (!(decide (k ≤ 30))))] μ := by
    exact hr 0 11 _ _ _ (some (.int (nB (!(decide (k ≤ 30)))))) (by decide +kernel) ((fun b : Bool => (by cases b <;> rfl : z_rn mi_X7_isDragon 11 [.int (nB b)] = some (some (.int (nB b))))) (!(decide (k ≤ 30)))) (⟨rfl, (by rfl)⟩)
  refine zq_ic hc hH (by rfl) (tg := 10) (by rfl) (fun h2 => ?_) (fun h2 => ?_)
  · have h2 : (decide (k ≤ 30)) = true := decide_eq_true (cm_le.mp h2)
    refine z_rcs hc hH 1 (pc' := 11) (lv' := [(0, .int k)]) (st' := [.int 0]) (μ' := μ) (by rfl) ?_
    exact zJ hJ1 rfl (by simp only [h2, lb_f, Int64.or_zero, nB_t, nB_f, Bool.not_true, Bool.not_false, Bool.and_true, Bool.true_and, Bool.false_and, Bool.and_false, Bool.or_true, Bool.true_or, Bool.false_or, Bool.or_false, cond_true, cond_false]) rfl
  · have h2 : (decide (k ≤ 30)) = false := decide_eq_false (cn_le.mp h2)
    refine z_rcs hc hH 2 (pc' := 11) (lv' := [(0, .int k)]) (st' := [.int 1]) (μ' := μ) (by rfl) ?_
    exact zJ hJ1 rfl (by simp only [h2, lb_f, Int64.or_zero, nB_t, nB_f, Bool.not_true, Bool.not_false, Bool.and_true, Bool.true_and, Bool.false_and, Bool.and_false, Bool.or_true, Bool.true_or, Bool.false_or, Bool.or_false, cond_true, cond_false]) rfl
noncomputable def xHo (k : Int32) : Bool := !(decide (k ≤ 26))
theorem fb_X7_isHonour (d : Nat) (hd : 1 ≤ d) (μ : zM) (k : Int32) : z_C d mi_X7_isHonour [.int k] μ (zR μ (.int (nB (xHo k)))) := by
  refine z_C_in (by decide) (by omega) (fun d' Z ed hc hr => ?_)
  have hH : zH mi_X7_isHonour zt_X7_isHonour 79 7 1 := hh_X7_isHonour
  refine z_rcs hc hH 2 (pc' := 3) (lv' := [(0, .int k)]) (st' := [.int 26, .int k]) (μ' := μ) (by rfl) ?_
  have hJ1 : Z 0 11 [(0, .int k)] [.int (nB (!(decide (k ≤ 26))))] μ := by
    exact hr 0 11 _ _ _ (some (.int (nB (!(decide (k ≤ 26)))))) (by decide +kernel) ((fun b : Bool => (by cases b <;> rfl : z_rn mi_X7_isHonour 11 [.int (nB b)] = some (some (.int (nB b))))) (!(decide (k ≤ 26)))) (⟨rfl, (by rfl)⟩)
  refine zq_ic hc hH (by rfl) (tg := 10) (by rfl) (fun h2 => ?_) (fun h2 => ?_)
  · have h2 : (decide (k ≤ 26)) = true := decide_eq_true (cm_le.mp h2)
    refine z_rcs hc hH 1 (pc' := 11) (lv' := [(0, .int k)]) (st' := [.int 0]) (μ' := μ) (by rfl) ?_
    exact zJ hJ1 rfl (by simp only [h2, lb_f, Int64.or_zero, nB_t, nB_f, Bool.not_true, Bool.not_false, Bool.and_true, Bool.true_and, Bool.false_and, Bool.and_false, Bool.or_true, Bool.true_or, Bool.false_or, Bool.or_false, cond_true, cond_false]) rfl
  · have h2 : (decide (k ≤ 26)) = false := decide_eq_false (cn_le.mp h2)
    refine z_rcs hc hH 2 (pc' := 11) (lv' := [(0, .int k)]) (st' := [.int 1]) (μ' := μ) (by rfl) ?_
    exact zJ hJ1 rfl (by simp only [h2, lb_f, Int64.or_zero, nB_t, nB_f, Bool.not_true, Bool.not_false, Bool.and_true, Bool.true_and, Bool.false_and, Bool.and_false, Bool.or_true, Bool.true_or, Bool.false_or, Bool.or_false, cond_true, cond_false]) rfl
noncomputable def xTe (k : Int32) : Bool := !(decide (27 ≤ k)) && ((decide ((k - k / 9 * 9) = 0)) || (decide ((k - k / 9 * 9) = 8)))
theorem fb_X7_isTerminal (d : Nat) (hd : 1 ≤ d) (μ : zM) (k : Int32) : z_C d mi_X7_isTerminal [.int k] μ (zR μ (.int (nB (xTe k)))) := by
  refine z_C_in (by decide) (by omega) (fun d' Z ed hc hr => ?_)
  have hH : zH mi_X7_isTerminal zt_X7_isTerminal 79 7 1 := hh_X7_isTerminal
  refine z_rcs hc hH 2 (pc' := 3) (lv' := [(0, .int k)]) (st' := [.int 27, .int k]) (μ' := μ) (by rfl) ?_
  have hJ1 : Z 0 27 [(0, .int k)] [.int (nB (!(decide (27 ≤ k)) && ((decide ((k - k / 9 * 9) = 0)) || (decide ((k - k / 9 * 9) = 8)))))] μ := by
    generalize he2 : (!(decide (27 ≤ k)) && ((decide ((k - k / 9 * 9) = 0)) || (decide ((k - k / 9 * 9) = 8)))) = e2
    exact hr 0 27 _ _ _ (some (.int (nB e2))) (by decide +kernel) ((fun b : Bool => (by cases b <;> rfl : z_rn mi_X7_isTerminal 27 [.int (nB b)] = some (some (.int (nB b))))) e2) (⟨rfl, (by subst he2; rfl)⟩)
  refine zq_ic hc hH (by rfl) (tg := 26) (by rfl) (fun h3 => ?_) (fun h3 => ?_)
  · have h3 : (decide (27 ≤ k)) = true := decide_eq_true (cm_ge.mp h3)
    refine z_rcs hc hH 1 (pc' := 27) (lv' := [(0, .int k)]) (st' := [.int 0]) (μ' := μ) (by rfl) ?_
    exact zJ hJ1 rfl (by simp only [h3, lb_f, Int64.or_zero, nB_t, nB_f, Bool.not_true, Bool.not_false, Bool.and_true, Bool.true_and, Bool.false_and, Bool.and_false, Bool.or_true, Bool.true_or, Bool.false_or, Bool.or_false, cond_true, cond_false]) rfl
  · have h3 : (decide (27 ≤ k)) = false := decide_eq_false (cn_ge.mp h3)
    refine z_rcs hc hH 3 (pc' := 10) (lv' := [(0, .int k)]) (st' := [.int (k - k / 9 * 9)]) (μ' := μ) (by rfl) ?_
    refine zq_if hc hH (by rfl) (tg := 22) (by rfl) (fun h4 => ?_) (fun h4 => ?_)
    · have h4 : (decide ((k - k / 9 * 9) = 0)) = true := decide_eq_true (cm_eq9.mp h4)
      refine z_rcs hc hH 2 (pc' := 27) (lv' := [(0, .int k)]) (st' := [.int 1]) (μ' := μ) (by rfl) ?_
      exact zJ hJ1 rfl (by simp only [h3, h4, lb_f, Int64.or_zero, nB_t, nB_f, Bool.not_true, Bool.not_false, Bool.and_true, Bool.true_and, Bool.false_and, Bool.and_false, Bool.or_true, Bool.true_or, Bool.false_or, Bool.or_false, cond_true, cond_false]) rfl
    · have h4 : (decide ((k - k / 9 * 9) = 0)) = false := decide_eq_false (cn_eq.mp h4)
      refine z_rcs hc hH 4 (pc' := 19) (lv' := [(0, .int k)]) (st' := [.int 8, .int (k - k / 9 * 9)]) (μ' := μ) (by rfl) ?_
      refine zq_ic hc hH (by rfl) (tg := 26) (by rfl) (fun h5 => ?_) (fun h5 => ?_)
      · have h5 : (decide ((k - k / 9 * 9) = 8)) = false := decide_eq_false (cm_ne.mp h5)
        refine z_rcs hc hH 1 (pc' := 27) (lv' := [(0, .int k)]) (st' := [.int 0]) (μ' := μ) (by rfl) ?_
        exact zJ hJ1 rfl (by simp only [h3, h4, h5, lb_f, Int64.or_zero, nB_t, nB_f, Bool.not_true, Bool.not_false, Bool.and_true, Bool.true_and, Bool.false_and, Bool.and_false, Bool.or_true, Bool.true_or, Bool.false_or, Bool.or_false, cond_true, cond_false]) rfl
      · have h5 : (decide ((k - k / 9 * 9) = 8)) = true := decide_eq_true (cn_ne.mp h5)
        refine z_rcs hc hH 2 (pc' := 27) (lv' := [(0, .int k)]) (st' := [.int 1]) (μ' := μ) (by rfl) ?_
        exact zJ hJ1 rfl (by simp only [h3, h4, h5, lb_f, Int64.or_zero, nB_t, nB_f, Bool.not_true, Bool.not_false, Bool.and_true, Bool.true_and, Bool.false_and, Bool.and_false, Bool.or_true, Bool.true_or, Bool.false_or, Bool.or_false, cond_true, cond_false]) rfl
noncomputable def xEn (k : Int32) : Bool := (xHo k) || (xTe k)
theorem fb_X7_isEnd (d : Nat) (hd : 2 ≤ d) (μ : zM) (k : Int32) : z_C d mi_X7_isEnd [.int k] μ (zR μ (.int (nB (xEn k)))) := by
  refine z_C_in (by decide) (by omega) (fun d' Z ed hc hr => ?_)
  have hH : zH mi_X7_isEnd zt_X7_isEnd 79 7 1 := hh_X7_isEnd
  refine z_rcs hc hH 1 (pc' := 1) (lv' := [(0, .int k)]) (st' := [.int k]) (μ' := μ) (by rfl) ?_
  refine zq_call hc (z_cx_ok hH (by rfl)) (fb_X7_isHonour d' (by omega) μ k) (by decide +kernel) (fun r9 μ9 hq => ?_)
  obtain ⟨hμ9, rfl⟩ := hq
  rw [hμ9]
  clear hμ9 μ9
  show Z 0 4 [(0, .int k)] [.int (nB (xHo k))] μ
  have hJ1 : Z 0 19 [(0, .int k)] [.int (nB ((xHo k) || (xTe k)))] μ := by
    exact hr 0 19 _ _ _ (some (.int (nB ((xHo k) || (xTe k))))) (by decide +kernel) ((fun b : Bool => (by cases b <;> rfl : z_rn mi_X7_isEnd 19 [.int (nB b)] = some (some (.int (nB b))))) ((xHo k) || (xTe k))) (⟨rfl, (by rfl)⟩)
  refine zq_if hc hH (by rfl) (tg := 14) (by rfl) (fun h2 => ?_) (fun h2 => ?_)
  · have h2 : (xHo k) = true := nB_n.mp (cm_ne.mp h2)
    refine z_rcs hc hH 2 (pc' := 19) (lv' := [(0, .int k)]) (st' := [.int 1]) (μ' := μ) (by rfl) ?_
    exact zJ hJ1 rfl (by simp only [h2, lb_f, Int64.or_zero, nB_t, nB_f, Bool.not_true, Bool.not_false, Bool.and_true, Bool.true_and, Bool.false_and, Bool.and_false, Bool.or_true, Bool.true_or, Bool.false_or, Bool.or_false, cond_true, cond_false]) rfl
  · have h2 : (xHo k) = false := nB_z.mp (cn_ne.mp h2)
    refine z_rcs hc hH 1 (pc' := 8) (lv' := [(0, .int k)]) (st' := [.int k]) (μ' := μ) (by rfl) ?_
    refine zq_call hc (z_cx_ok hH (by rfl)) (fb_X7_isTerminal d' (by omega) μ k) (by decide +kernel) (fun r9 μ9 hq => ?_)
    obtain ⟨hμ9, rfl⟩ := hq
    rw [hμ9]
    clear hμ9 μ9
    show Z 0 11 [(0, .int k)] [.int (nB (xTe k))] μ
    refine zq_if hc hH (by rfl) (tg := 18) (by rfl) (fun h3 => ?_) (fun h3 => ?_)
    · have h3 : (xTe k) = false := nB_z.mp (cm_eq9.mp h3)
      refine z_rcs hc hH 1 (pc' := 19) (lv' := [(0, .int k)]) (st' := [.int 0]) (μ' := μ) (by rfl) ?_
      exact zJ hJ1 rfl (by simp only [h2, h3, lb_f, Int64.or_zero, nB_t, nB_f, Bool.not_true, Bool.not_false, Bool.and_true, Bool.true_and, Bool.false_and, Bool.and_false, Bool.or_true, Bool.true_or, Bool.false_or, Bool.or_false, cond_true, cond_false]) rfl
    · have h3 : (xTe k) = true := nB_n.mp (cn_eq.mp h3)
      refine z_rcs hc hH 2 (pc' := 19) (lv' := [(0, .int k)]) (st' := [.int 1]) (μ' := μ) (by rfl) ?_
      exact zJ hJ1 rfl (by simp only [h2, h3, lb_f, Int64.or_zero, nB_t, nB_f, Bool.not_true, Bool.not_false, Bool.and_true, Bool.true_and, Bool.false_and, Bool.and_false, Bool.or_true, Bool.true_or, Bool.false_or, Bool.or_false, cond_true, cond_false]) rfl
noncomputable def xT (μ : zM) (k : Int32) : Bool := (((!(decide ((μ.1 56 0) = 0)) && (decide ((μ.1 57 0) = k))) || (!(decide ((μ.1 56 1) = 0)) && (decide ((μ.1 57 1) = k)))) || (!(decide ((μ.1 56 2) = 0)) && (decide ((μ.1 57 2) = k)))) || (!(decide ((μ.1 56 3) = 0)) && (decide ((μ.1 57 3) = k)))
theorem fb_X7_hasThree (d : Nat) (hd : 1 ≤ d) (μ : zM) (k : Int32) : z_C d mi_X7_hasThree [.ref 50, .int k] μ (zR μ (.int (nB (xT μ k)))) := by
  refine z_C_in (by decide) (by omega) (fun d' Z ed hc hr => ?_)
  have hH : zH mi_X7_hasThree zt_X7_hasThree 79 7 4 := hh_X7_hasThree
  refine z_rcs hc hH 12 (pc' := 18) (lv' := [(3, .int 0), (2, .int 0), (0, .ref 50), (1, .int k)]) (st' := [.int 0, .ref 56]) (μ' := μ) (by rfl) ?_
  refine zq_iald hc hH (by rfl) 4 (by decide +kernel) (show vp_in (nI 0) 4 from vp_in_nI (by decide) (by decide)) ?_
  show Z 0 19 [(3, .int 0), (2, .int 0), (0, .ref 50), (1, .int k)] [.int (μ.1 56 0)] μ
  have hJ1 : Z 0 37 [(3, .int 0), (2, .int 0), (0, .ref 50), (1, .int k)] [.int (nB (!(decide ((μ.1 56 0) = 0)) && (decide ((μ.1 57 0) = k))))] μ := by
    refine z_rcs hc hH 7 (pc' := 10) (lv' := [(3, .int 1), (2, .int (nB (!(decide ((μ.1 56 0) = 0)) && (decide ((μ.1 57 0) = k))))), (0, .ref 50), (1, .int k)]) (st' := [.int (nB (!(decide ((μ.1 56 0) = 0)) && (decide ((μ.1 57 0) = k))))]) (μ' := μ) (by rfl) ?_
    have hJ2 : Z 0 37 [(3, .int 1), (2, .int (nB (!(decide ((μ.1 56 0) = 0)) && (decide ((μ.1 57 0) = k))))), (0, .ref 50), (1, .int k)] [.int (nB ((!(decide ((μ.1 56 0) = 0)) && (decide ((μ.1 57 0) = k))) || (!(decide ((μ.1 56 1) = 0)) && (decide ((μ.1 57 1) = k)))))] μ := by
      generalize he3 : ((!(decide ((μ.1 56 0) = 0)) && (decide ((μ.1 57 0) = k))) || (!(decide ((μ.1 56 1) = 0)) && (decide ((μ.1 57 1) = k)))) = e3
      refine z_rcs hc hH 7 (pc' := 10) (lv' := [(3, .int 2), (2, .int (nB e3)), (0, .ref 50), (1, .int k)]) (st' := [.int (nB e3)]) (μ' := μ) (by rfl) ?_
      have hJ4 : Z 0 37 [(3, .int 2), (2, .int (nB e3)), (0, .ref 50), (1, .int k)] [.int (nB (e3 || (!(decide ((μ.1 56 2) = 0)) && (decide ((μ.1 57 2) = k)))))] μ := by
        refine z_rcs hc hH 7 (pc' := 10) (lv' := [(3, .int 3), (2, .int (nB (e3 || (!(decide ((μ.1 56 2) = 0)) && (decide ((μ.1 57 2) = k)))))), (0, .ref 50), (1, .int k)]) (st' := [.int (nB (e3 || (!(decide ((μ.1 56 2) = 0)) && (decide ((μ.1 57 2) = k)))))]) (μ' := μ) (by rfl) ?_
        have hJ5 : Z 0 37 [(3, .int 3), (2, .int (nB (e3 || (!(decide ((μ.1 56 2) = 0)) && (decide ((μ.1 57 2) = k)))))), (0, .ref 50), (1, .int k)] [.int (nB ((e3 || (!(decide ((μ.1 56 2) = 0)) && (decide ((μ.1 57 2) = k)))) || (!(decide ((μ.1 56 3) = 0)) && (decide ((μ.1 57 3) = k)))))] μ := by
          generalize he6 : ((e3 || (!(decide ((μ.1 56 2) = 0)) && (decide ((μ.1 57 2) = k)))) || (!(decide ((μ.1 56 3) = 0)) && (decide ((μ.1 57 3) = k)))) = e6
          refine z_rcs hc hH 7 (pc' := 45) (lv' := [(3, .int 4), (2, .int (nB e6)), (0, .ref 50), (1, .int k)]) (st' := [.int (nB e6)]) (μ' := μ) (by rfl) ?_
          exact hr 0 45 _ _ _ (some (.int (nB e6))) (by decide +kernel) ((fun b : Bool => (by cases b <;> rfl : z_rn mi_X7_hasThree 45 [.int (nB b)] = some (some (.int (nB b))))) e6) (⟨rfl, (by subst he6; subst he3; rfl)⟩)
        refine zq_if hc hH (by rfl) (tg := 32) (by rfl) (fun h7 => ?_) (fun h7 => ?_)
        · have h7 : (e3 || (!(decide ((μ.1 56 2) = 0)) && (decide ((μ.1 57 2) = k)))) = true := nB_n.mp (cm_ne.mp h7)
          refine z_rcs hc hH 2 (pc' := 37) (lv' := [(3, .int 3), (2, .int (nB (e3 || (!(decide ((μ.1 56 2) = 0)) && (decide ((μ.1 57 2) = k)))))), (0, .ref 50), (1, .int k)]) (st' := [.int 1]) (μ' := μ) (by rfl) ?_
          exact zJ hJ5 rfl (by simp only [h7, lb_f, Int64.or_zero, nB_t, nB_f, Bool.not_true, Bool.not_false, Bool.and_true, Bool.true_and, Bool.false_and, Bool.and_false, Bool.or_true, Bool.true_or, Bool.false_or, Bool.or_false, cond_true, cond_false]) rfl
        · have h7 : (e3 || (!(decide ((μ.1 56 2) = 0)) && (decide ((μ.1 57 2) = k)))) = false := nB_z.mp (cn_ne.mp h7)
          refine z_rcs hc hH 3 (pc' := 18) (lv' := [(3, .int 3), (2, .int (nB (e3 || (!(decide ((μ.1 56 2) = 0)) && (decide ((μ.1 57 2) = k)))))), (0, .ref 50), (1, .int k)]) (st' := [.int 3, .ref 56]) (μ' := μ) (by rfl) ?_
          refine zq_iald hc hH (by rfl) 4 (by decide +kernel) (show vp_in (nI 3) 4 from vp_in_nI (by decide) (by decide)) ?_
          show Z 0 19 [(3, .int 3), (2, .int (nB (e3 || (!(decide ((μ.1 56 2) = 0)) && (decide ((μ.1 57 2) = k)))))), (0, .ref 50), (1, .int k)] [.int (μ.1 56 3)] μ
          refine zq_if hc hH (by rfl) (tg := 36) (by rfl) (fun h8 => ?_) (fun h8 => ?_)
          · have h8 : (decide ((μ.1 56 3) = 0)) = true := decide_eq_true (cm_eq9.mp h8)
            refine z_rcs hc hH 1 (pc' := 37) (lv' := [(3, .int 3), (2, .int (nB (e3 || (!(decide ((μ.1 56 2) = 0)) && (decide ((μ.1 57 2) = k)))))), (0, .ref 50), (1, .int k)]) (st' := [.int 0]) (μ' := μ) (by rfl) ?_
            exact zJ hJ5 rfl (by simp only [h7, h8, lb_f, Int64.or_zero, nB_t, nB_f, Bool.not_true, Bool.not_false, Bool.and_true, Bool.true_and, Bool.false_and, Bool.and_false, Bool.or_true, Bool.true_or, Bool.false_or, Bool.or_false, cond_true, cond_false]) rfl
          · have h8 : (decide ((μ.1 56 3) = 0)) = false := decide_eq_false (cn_eq.mp h8)
            refine z_rcs hc hH 3 (pc' := 27) (lv' := [(3, .int 3), (2, .int (nB (e3 || (!(decide ((μ.1 56 2) = 0)) && (decide ((μ.1 57 2) = k)))))), (0, .ref 50), (1, .int k)]) (st' := [.int 3, .ref 57]) (μ' := μ) (by rfl) ?_
            refine zq_iald hc hH (by rfl) 4 (by decide +kernel) (show vp_in (nI 3) 4 from vp_in_nI (by decide) (by decide)) ?_
            show Z 0 28 [(3, .int 3), (2, .int (nB (e3 || (!(decide ((μ.1 56 2) = 0)) && (decide ((μ.1 57 2) = k)))))), (0, .ref 50), (1, .int k)] [.int (μ.1 57 3)] μ
            refine z_rcs hc hH 1 (pc' := 29) (lv' := [(3, .int 3), (2, .int (nB (e3 || (!(decide ((μ.1 56 2) = 0)) && (decide ((μ.1 57 2) = k)))))), (0, .ref 50), (1, .int k)]) (st' := [.int k, .int (μ.1 57 3)]) (μ' := μ) (by rfl) ?_
            refine zq_ic hc hH (by rfl) (tg := 36) (by rfl) (fun h9 => ?_) (fun h9 => ?_)
            · have h9 : (decide ((μ.1 57 3) = k)) = false := decide_eq_false (cm_ne.mp h9)
              refine z_rcs hc hH 1 (pc' := 37) (lv' := [(3, .int 3), (2, .int (nB (e3 || (!(decide ((μ.1 56 2) = 0)) && (decide ((μ.1 57 2) = k)))))), (0, .ref 50), (1, .int k)]) (st' := [.int 0]) (μ' := μ) (by rfl) ?_
              exact zJ hJ5 rfl (by simp only [h7, h8, h9, lb_f, Int64.or_zero, nB_t, nB_f, Bool.not_true, Bool.not_false, Bool.and_true, Bool.true_and, Bool.false_and, Bool.and_false, Bool.or_true, Bool.true_or, Bool.false_or, Bool.or_false, cond_true, cond_false]) rfl
            · have h9 : (decide ((μ.1 57 3) = k)) = true := decide_eq_true (cn_ne.mp h9)
              refine z_rcs hc hH 2 (pc' := 37) (lv' := [(3, .int 3), (2, .int (nB (e3 || (!(decide ((μ.1 56 2) = 0)) && (decide ((μ.1 57 2) = k)))))), (0, .ref 50), (1, .int k)]) (st' := [.int 1]) (μ' := μ) (by rfl) ?_
              exact zJ hJ5 rfl (by simp only [h7, h8, h9, lb_f, Int64.or_zero, nB_t, nB_f, Bool.not_true, Bool.not_false, Bool.and_true, Bool.true_and, Bool.false_and, Bool.and_false, Bool.or_true, Bool.true_or, Bool.false_or, Bool.or_false, cond_true, cond_false]) rfl
      refine zq_if hc hH (by rfl) (tg := 32) (by rfl) (fun h10 => ?_) (fun h10 => ?_)
      · have h10 : (e3) = true := nB_n.mp (cm_ne.mp h10)
        refine z_rcs hc hH 2 (pc' := 37) (lv' := [(3, .int 2), (2, .int (nB e3)), (0, .ref 50), (1, .int k)]) (st' := [.int 1]) (μ' := μ) (by rfl) ?_
        exact zJ hJ4 rfl (by simp only [h10, lb_f, Int64.or_zero, nB_t, nB_f, Bool.not_true, Bool.not_false, Bool.and_true, Bool.true_and, Bool.false_and, Bool.and_false, Bool.or_true, Bool.true_or, Bool.false_or, Bool.or_false, cond_true, cond_false]) rfl
      · have h10 : (e3) = false := nB_z.mp (cn_ne.mp h10)
        refine z_rcs hc hH 3 (pc' := 18) (lv' := [(3, .int 2), (2, .int (nB e3)), (0, .ref 50), (1, .int k)]) (st' := [.int 2, .ref 56]) (μ' := μ) (by rfl) ?_
        refine zq_iald hc hH (by rfl) 4 (by decide +kernel) (show vp_in (nI 2) 4 from vp_in_nI (by decide) (by decide)) ?_
        show Z 0 19 [(3, .int 2), (2, .int (nB e3)), (0, .ref 50), (1, .int k)] [.int (μ.1 56 2)] μ
        refine zq_if hc hH (by rfl) (tg := 36) (by rfl) (fun h11 => ?_) (fun h11 => ?_)
        · have h11 : (decide ((μ.1 56 2) = 0)) = true := decide_eq_true (cm_eq9.mp h11)
          refine z_rcs hc hH 1 (pc' := 37) (lv' := [(3, .int 2), (2, .int (nB e3)), (0, .ref 50), (1, .int k)]) (st' := [.int 0]) (μ' := μ) (by rfl) ?_
          exact zJ hJ4 rfl (by simp only [h10, h11, lb_f, Int64.or_zero, nB_t, nB_f, Bool.not_true, Bool.not_false, Bool.and_true, Bool.true_and, Bool.false_and, Bool.and_false, Bool.or_true, Bool.true_or, Bool.false_or, Bool.or_false, cond_true, cond_false]) rfl
        · have h11 : (decide ((μ.1 56 2) = 0)) = false := decide_eq_false (cn_eq.mp h11)
          refine z_rcs hc hH 3 (pc' := 27) (lv' := [(3, .int 2), (2, .int (nB e3)), (0, .ref 50), (1, .int k)]) (st' := [.int 2, .ref 57]) (μ' := μ) (by rfl) ?_
          refine zq_iald hc hH (by rfl) 4 (by decide +kernel) (show vp_in (nI 2) 4 from vp_in_nI (by decide) (by decide)) ?_
          show Z 0 28 [(3, .int 2), (2, .int (nB e3)), (0, .ref 50), (1, .int k)] [.int (μ.1 57 2)] μ
          refine z_rcs hc hH 1 (pc' := 29) (lv' := [(3, .int 2), (2, .int (nB e3)), (0, .ref 50), (1, .int k)]) (st' := [.int k, .int (μ.1 57 2)]) (μ' := μ) (by rfl) ?_
          refine zq_ic hc hH (by rfl) (tg := 36) (by rfl) (fun h12 => ?_) (fun h12 => ?_)
          · have h12 : (decide ((μ.1 57 2) = k)) = false := decide_eq_false (cm_ne.mp h12)
            refine z_rcs hc hH 1 (pc' := 37) (lv' := [(3, .int 2), (2, .int (nB e3)), (0, .ref 50), (1, .int k)]) (st' := [.int 0]) (μ' := μ) (by rfl) ?_
            exact zJ hJ4 rfl (by simp only [h10, h11, h12, lb_f, Int64.or_zero, nB_t, nB_f, Bool.not_true, Bool.not_false, Bool.and_true, Bool.true_and, Bool.false_and, Bool.and_false, Bool.or_true, Bool.true_or, Bool.false_or, Bool.or_false, cond_true, cond_false]) rfl
          · have h12 : (decide ((μ.1 57 2) = k)) = true := decide_eq_true (cn_ne.mp h12)
            refine z_rcs hc hH 2 (pc' := 37) (lv' := [(3, .int 2), (2, .int (nB e3)), (0, .ref 50), (1, .int k)]) (st' := [.int 1]) (μ' := μ) (by rfl) ?_
            exact zJ hJ4 rfl (by simp only [h10, h11, h12, lb_f, Int64.or_zero, nB_t, nB_f, Bool.not_true, Bool.not_false, Bool.and_true, Bool.true_and, Bool.false_and, Bool.and_false, Bool.or_true, Bool.true_or, Bool.false_or, Bool.or_false, cond_true, cond_false]) rfl
    refine zq_if hc hH (by rfl) (tg := 32) (by rfl) (fun h13 => ?_) (fun h13 => ?_)
    · have h13 : (!(decide ((μ.1 56 0) = 0)) && (decide ((μ.1 57 0) = k))) = true := nB_n.mp (cm_ne.mp h13)
      refine z_rcs hc hH 2 (pc' := 37) (lv' := [(3, .int 1), (2, .int (nB (!(decide ((μ.1 56 0) = 0)) && (decide ((μ.1 57 0) = k))))), (0, .ref 50), (1, .int k)]) (st' := [.int 1]) (μ' := μ) (by rfl) ?_
      exact zJ hJ2 rfl (by simp only [h13, lb_f, Int64.or_zero, nB_t, nB_f, Bool.not_true, Bool.not_false, Bool.and_true, Bool.true_and, Bool.false_and, Bool.and_false, Bool.or_true, Bool.true_or, Bool.false_or, Bool.or_false, cond_true, cond_false]) rfl
    · have h13 : (!(decide ((μ.1 56 0) = 0)) && (decide ((μ.1 57 0) = k))) = false := nB_z.mp (cn_ne.mp h13)
      refine z_rcs hc hH 3 (pc' := 18) (lv' := [(3, .int 1), (2, .int (nB (!(decide ((μ.1 56 0) = 0)) && (decide ((μ.1 57 0) = k))))), (0, .ref 50), (1, .int k)]) (st' := [.int 1, .ref 56]) (μ' := μ) (by rfl) ?_
      refine zq_iald hc hH (by rfl) 4 (by decide +kernel) (show vp_in (nI 1) 4 from vp_in_nI (by decide) (by decide)) ?_
      show Z 0 19 [(3, .int 1), (2, .int (nB (!(decide ((μ.1 56 0) = 0)) && (decide ((μ.1 57 0) = k))))), (0, .ref 50), (1, .int k)] [.int (μ.1 56 1)] μ
      refine zq_if hc hH (by rfl) (tg := 36) (by rfl) (fun h14 => ?_) (fun h14 => ?_)
      · have h14 : (decide ((μ.1 56 1) = 0)) = true := decide_eq_true (cm_eq9.mp h14)
        refine z_rcs hc hH 1 (pc' := 37) (lv' := [(3, .int 1), (2, .int (nB (!(decide ((μ.1 56 0) = 0)) && (decide ((μ.1 57 0) = k))))), (0, .ref 50), (1, .int k)]) (st' := [.int 0]) (μ' := μ) (by rfl) ?_
        exact zJ hJ2 rfl (by simp only [h13, h14, lb_f, Int64.or_zero, nB_t, nB_f, Bool.not_true, Bool.not_false, Bool.and_true, Bool.true_and, Bool.false_and, Bool.and_false, Bool.or_true, Bool.true_or, Bool.false_or, Bool.or_false, cond_true, cond_false]) rfl
      · have h14 : (decide ((μ.1 56 1) = 0)) = false := decide_eq_false (cn_eq.mp h14)
        refine z_rcs hc hH 3 (pc' := 27) (lv' := [(3, .int 1), (2, .int (nB (!(decide ((μ.1 56 0) = 0)) && (decide ((μ.1 57 0) = k))))), (0, .ref 50), (1, .int k)]) (st' := [.int 1, .ref 57]) (μ' := μ) (by rfl) ?_
        refine zq_iald hc hH (by rfl) 4 (by decide +kernel) (show vp_in (nI 1) 4 from vp_in_nI (by decide) (by decide)) ?_
        show Z 0 28 [(3, .int 1), (2, .int (nB (!(decide ((μ.1 56 0) = 0)) && (decide ((μ.1 57 0) = k))))), (0, .ref 50), (1, .int k)] [.int (μ.1 57 1)] μ
        refine z_rcs hc hH 1 (pc' := 29) (lv' := [(3, .int 1), (2, .int (nB (!(decide ((μ.1 56 0) = 0)) && (decide ((μ.1 57 0) = k))))), (0, .ref 50), (1, .int k)]) (st' := [.int k, .int (μ.1 57 1)]) (μ' := μ) (by rfl) ?_
        refine zq_ic hc hH (by rfl) (tg := 36) (by rfl) (fun h15 => ?_) (fun h15 => ?_)
        · have h15 : (decide ((μ.1 57 1) = k)) = false := decide_eq_false (cm_ne.mp h15)
          refine z_rcs hc hH 1 (pc' := 37) (lv' := [(3, .int 1), (2, .int (nB (!(decide ((μ.1 56 0) = 0)) && (decide ((μ.1 57 0) = k))))), (0, .ref 50), (1, .int k)]) (st' := [.int 0]) (μ' := μ) (by rfl) ?_
          exact zJ hJ2 rfl (by simp only [h13, h14, h15, lb_f, Int64.or_zero, nB_t, nB_f, Bool.not_true, Bool.not_false, Bool.and_true, Bool.true_and, Bool.false_and, Bool.and_false, Bool.or_true, Bool.true_or, Bool.false_or, Bool.or_false, cond_true, cond_false]) rfl
        · have h15 : (decide ((μ.1 57 1) = k)) = true := decide_eq_true (cn_ne.mp h15)
          refine z_rcs hc hH 2 (pc' := 37) (lv' := [(3, .int 1), (2, .int (nB (!(decide ((μ.1 56 0) = 0)) && (decide ((μ.1 57 0) = k))))), (0, .ref 50), (1, .int k)]) (st' := [.int 1]) (μ' := μ) (by rfl) ?_
          exact zJ hJ2 rfl (by simp only [h13, h14, h15, lb_f, Int64.or_zero, nB_t, nB_f, Bool.not_true, Bool.not_false, Bool.and_true, Bool.true_and, Bool.false_and, Bool.and_false, Bool.or_true, Bool.true_or, Bool.false_or, Bool.or_false, cond_true, cond_false]) rfl
  refine zq_if hc hH (by rfl) (tg := 36) (by rfl) (fun h16 => ?_) (fun h16 => ?_)
  · have h16 : (decide ((μ.1 56 0) = 0)) = true := decide_eq_true (cm_eq9.mp h16)
    refine z_rcs hc hH 1 (pc' := 37) (lv' := [(3, .int 0), (2, .int 0), (0, .ref 50), (1, .int k)]) (st' := [.int 0]) (μ' := μ) (by rfl) ?_
    exact zJ hJ1 rfl (by simp only [h16, lb_f, Int64.or_zero, nB_t, nB_f, Bool.not_true, Bool.not_false, Bool.and_true, Bool.true_and, Bool.false_and, Bool.and_false, Bool.or_true, Bool.true_or, Bool.false_or, Bool.or_false, cond_true, cond_false]) rfl
  · have h16 : (decide ((μ.1 56 0) = 0)) = false := decide_eq_false (cn_eq.mp h16)
    refine z_rcs hc hH 3 (pc' := 27) (lv' := [(3, .int 0), (2, .int 0), (0, .ref 50), (1, .int k)]) (st' := [.int 0, .ref 57]) (μ' := μ) (by rfl) ?_
    refine zq_iald hc hH (by rfl) 4 (by decide +kernel) (show vp_in (nI 0) 4 from vp_in_nI (by decide) (by decide)) ?_
    show Z 0 28 [(3, .int 0), (2, .int 0), (0, .ref 50), (1, .int k)] [.int (μ.1 57 0)] μ
    refine z_rcs hc hH 1 (pc' := 29) (lv' := [(3, .int 0), (2, .int 0), (0, .ref 50), (1, .int k)]) (st' := [.int k, .int (μ.1 57 0)]) (μ' := μ) (by rfl) ?_
    refine zq_ic hc hH (by rfl) (tg := 36) (by rfl) (fun h17 => ?_) (fun h17 => ?_)
    · have h17 : (decide ((μ.1 57 0) = k)) = false := decide_eq_false (cm_ne.mp h17)
      refine z_rcs hc hH 1 (pc' := 37) (lv' := [(3, .int 0), (2, .int 0), (0, .ref 50), (1, .int k)]) (st' := [.int 0]) (μ' := μ) (by rfl) ?_
      exact zJ hJ1 rfl (by simp only [h16, h17, lb_f, Int64.or_zero, nB_t, nB_f, Bool.not_true, Bool.not_false, Bool.and_true, Bool.true_and, Bool.false_and, Bool.and_false, Bool.or_true, Bool.true_or, Bool.false_or, Bool.or_false, cond_true, cond_false]) rfl
    · have h17 : (decide ((μ.1 57 0) = k)) = true := decide_eq_true (cn_ne.mp h17)
      refine z_rcs hc hH 2 (pc' := 37) (lv' := [(3, .int 0), (2, .int 0), (0, .ref 50), (1, .int k)]) (st' := [.int 1]) (μ' := μ) (by rfl) ?_
      exact zJ hJ1 rfl (by simp only [h16, h17, lb_f, Int64.or_zero, nB_t, nB_f, Bool.not_true, Bool.not_false, Bool.and_true, Bool.true_and, Bool.false_and, Bool.and_false, Bool.or_true, Bool.true_or, Bool.false_or, Bool.or_false, cond_true, cond_false]) rfl
noncomputable def xR (μ : zM) (k : Int32) : Bool := ((((decide ((μ.1 56 0) = 0)) && (decide ((μ.1 57 0) = k))) || ((decide ((μ.1 56 1) = 0)) && (decide ((μ.1 57 1) = k)))) || ((decide ((μ.1 56 2) = 0)) && (decide ((μ.1 57 2) = k)))) || ((decide ((μ.1 56 3) = 0)) && (decide ((μ.1 57 3) = k)))
theorem fb_X7_hasRun (d : Nat) (hd : 1 ≤ d) (μ : zM) (k : Int32) : z_C d mi_X7_hasRun [.ref 50, .int k] μ (zR μ (.int (nB (xR μ k)))) := by
  refine z_C_in (by decide) (by omega) (fun d' Z ed hc hr => ?_)
  have hH : zH mi_X7_hasRun zt_X7_hasRun 79 7 4 := hh_X7_hasRun
  refine z_rcs hc hH 12 (pc' := 18) (lv' := [(3, .int 0), (2, .int 0), (0, .ref 50), (1, .int k)]) (st' := [.int 0, .ref 56]) (μ' := μ) (by rfl) ?_
  refine zq_iald hc hH (by rfl) 4 (by decide +kernel) (show vp_in (nI 0) 4 from vp_in_nI (by decide) (by decide)) ?_
  show Z 0 19 [(3, .int 0), (2, .int 0), (0, .ref 50), (1, .int k)] [.int (μ.1 56 0)] μ
  have hJ1 : Z 0 37 [(3, .int 0), (2, .int 0), (0, .ref 50), (1, .int k)] [.int (nB ((decide ((μ.1 56 0) = 0)) && (decide ((μ.1 57 0) = k))))] μ := by
    refine z_rcs hc hH 7 (pc' := 10) (lv' := [(3, .int 1), (2, .int (nB ((decide ((μ.1 56 0) = 0)) && (decide ((μ.1 57 0) = k))))), (0, .ref 50), (1, .int k)]) (st' := [.int (nB ((decide ((μ.1 56 0) = 0)) && (decide ((μ.1 57 0) = k))))]) (μ' := μ) (by rfl) ?_
    have hJ2 : Z 0 37 [(3, .int 1), (2, .int (nB ((decide ((μ.1 56 0) = 0)) && (decide ((μ.1 57 0) = k))))), (0, .ref 50), (1, .int k)] [.int (nB (((decide ((μ.1 56 0) = 0)) && (decide ((μ.1 57 0) = k))) || ((decide ((μ.1 56 1) = 0)) && (decide ((μ.1 57 1) = k)))))] μ := by
      generalize he3 : (((decide ((μ.1 56 0) = 0)) && (decide ((μ.1 57 0) = k))) || ((decide ((μ.1 56 1) = 0)) && (decide ((μ.1 57 1) = k)))) = e3
      refine z_rcs hc hH 7 (pc' := 10) (lv' := [(3, .int 2), (2, .int (nB e3)), (0, .ref 50), (1, .int k)]) (st' := [.int (nB e3)]) (μ' := μ) (by rfl) ?_
      have hJ4 : Z 0 37 [(3, .int 2), (2, .int (nB e3)), (0, .ref 50), (1, .int k)] [.int (nB (e3 || ((decide ((μ.1 56 2) = 0)) && (decide ((μ.1 57 2) = k)))))] μ := by
        refine z_rcs hc hH 7 (pc' := 10) (lv' := [(3, .int 3), (2, .int (nB (e3 || ((decide ((μ.1 56 2) = 0)) && (decide ((μ.1 57 2) = k)))))), (0, .ref 50), (1, .int k)]) (st' := [.int (nB (e3 || ((decide ((μ.1 56 2) = 0)) && (decide ((μ.1 57 2) = k)))))]) (μ' := μ) (by rfl) ?_
        have hJ5 : Z 0 37 [(3, .int 3), (2, .int (nB (e3 || ((decide ((μ.1 56 2) = 0)) && (decide ((μ.1 57 2) = k)))))), (0, .ref 50), (1, .int k)] [.int (nB ((e3 || ((decide ((μ.1 56 2) = 0)) && (decide ((μ.1 57 2) = k)))) || ((decide ((μ.1 56 3) = 0)) && (decide ((μ.1 57 3) = k)))))] μ := by
          generalize he6 : ((e3 || ((decide ((μ.1 56 2) = 0)) && (decide ((μ.1 57 2) = k)))) || ((decide ((μ.1 56 3) = 0)) && (decide ((μ.1 57 3) = k)))) = e6
          refine z_rcs hc hH 7 (pc' := 45) (lv' := [(3, .int 4), (2, .int (nB e6)), (0, .ref 50), (1, .int k)]) (st' := [.int (nB e6)]) (μ' := μ) (by rfl) ?_
          exact hr 0 45 _ _ _ (some (.int (nB e6))) (by decide +kernel) ((fun b : Bool => (by cases b <;> rfl : z_rn mi_X7_hasRun 45 [.int (nB b)] = some (some (.int (nB b))))) e6) (⟨rfl, (by subst he6; subst he3; rfl)⟩)
        refine zq_if hc hH (by rfl) (tg := 32) (by rfl) (fun h7 => ?_) (fun h7 => ?_)
        · have h7 : (e3 || ((decide ((μ.1 56 2) = 0)) && (decide ((μ.1 57 2) = k)))) = true := nB_n.mp (cm_ne.mp h7)
          refine z_rcs hc hH 2 (pc' := 37) (lv' := [(3, .int 3), (2, .int (nB (e3 || ((decide ((μ.1 56 2) = 0)) && (decide ((μ.1 57 2) = k)))))), (0, .ref 50), (1, .int k)]) (st' := [.int 1]) (μ' := μ) (by rfl) ?_
          exact zJ hJ5 rfl (by simp only [h7, lb_f, Int64.or_zero, nB_t, nB_f, Bool.not_true, Bool.not_false, Bool.and_true, Bool.true_and, Bool.false_and, Bool.and_false, Bool.or_true, Bool.true_or, Bool.false_or, Bool.or_false, cond_true, cond_false]) rfl
        · have h7 : (e3 || ((decide ((μ.1 56 2) = 0)) && (decide ((μ.1 57 2) = k)))) = false := nB_z.mp (cn_ne.mp h7)
          refine z_rcs hc hH 3 (pc' := 18) (lv' := [(3, .int 3), (2, .int (nB (e3 || ((decide ((μ.1 56 2) = 0)) && (decide ((μ.1 57 2) = k)))))), (0, .ref 50), (1, .int k)]) (st' := [.int 3, .ref 56]) (μ' := μ) (by rfl) ?_
          refine zq_iald hc hH (by rfl) 4 (by decide +kernel) (show vp_in (nI 3) 4 from vp_in_nI (by decide) (by decide)) ?_
          show Z 0 19 [(3, .int 3), (2, .int (nB (e3 || ((decide ((μ.1 56 2) = 0)) && (decide ((μ.1 57 2) = k)))))), (0, .ref 50), (1, .int k)] [.int (μ.1 56 3)] μ
          refine zq_if hc hH (by rfl) (tg := 36) (by rfl) (fun h8 => ?_) (fun h8 => ?_)
          · have h8 : (decide ((μ.1 56 3) = 0)) = false := decide_eq_false (cm_ne.mp h8)
            refine z_rcs hc hH 1 (pc' := 37) (lv' := [(3, .int 3), (2, .int (nB (e3 || ((decide ((μ.1 56 2) = 0)) && (decide ((μ.1 57 2) = k)))))), (0, .ref 50), (1, .int k)]) (st' := [.int 0]) (μ' := μ) (by rfl) ?_
            exact zJ hJ5 rfl (by simp only [h7, h8, lb_f, Int64.or_zero, nB_t, nB_f, Bool.not_true, Bool.not_false, Bool.and_true, Bool.true_and, Bool.false_and, Bool.and_false, Bool.or_true, Bool.true_or, Bool.false_or, Bool.or_false, cond_true, cond_false]) rfl
          · have h8 : (decide ((μ.1 56 3) = 0)) = true := decide_eq_true (cn_ne.mp h8)
            refine z_rcs hc hH 3 (pc' := 27) (lv' := [(3, .int 3), (2, .int (nB (e3 || ((decide ((μ.1 56 2) = 0)) && (decide ((μ.1 57 2) = k)))))), (0, .ref 50), (1, .int k)]) (st' := [.int 3, .ref 57]) (μ' := μ) (by rfl) ?_
            refine zq_iald hc hH (by rfl) 4 (by decide +kernel) (show vp_in (nI 3) 4 from vp_in_nI (by decide) (by decide)) ?_
            show Z 0 28 [(3, .int 3), (2, .int (nB (e3 || ((decide ((μ.1 56 2) = 0)) && (decide ((μ.1 57 2) = k)))))), (0, .ref 50), (1, .int k)] [.int (μ.1 57 3)] μ
            refine z_rcs hc hH 1 (pc' := 29) (lv' := [(3, .int 3), (2, .int (nB (e3 || ((decide ((μ.1 56 2) = 0)) && (decide ((μ.1 57 2) = k)))))), (0, .ref 50), (1, .int k)]) (st' := [.int k, .int (μ.1 57 3)]) (μ' := μ) (by rfl) ?_
            refine zq_ic hc hH (by rfl) (tg := 36) (by rfl) (fun h9 => ?_) (fun h9 => ?_)
            · have h9 : (decide ((μ.1 57 3) = k)) = false := decide_eq_false (cm_ne.mp h9)
              refine z_rcs hc hH 1 (pc' := 37) (lv' := [(3, .int 3), (2, .int (nB (e3 || ((decide ((μ.1 56 2) = 0)) && (decide ((μ.1 57 2) = k)))))), (0, .ref 50), (1, .int k)]) (st' := [.int 0]) (μ' := μ) (by rfl) ?_
              exact zJ hJ5 rfl (by simp only [h7, h8, h9, lb_f, Int64.or_zero, nB_t, nB_f, Bool.not_true, Bool.not_false, Bool.and_true, Bool.true_and, Bool.false_and, Bool.and_false, Bool.or_true, Bool.true_or, Bool.false_or, Bool.or_false, cond_true, cond_false]) rfl
            · have h9 : (decide ((μ.1 57 3) = k)) = true := decide_eq_true (cn_ne.mp h9)
              refine z_rcs hc hH 2 (pc' := 37) (lv' := [(3, .int 3), (2, .int (nB (e3 || ((decide ((μ.1 56 2) = 0)) && (decide ((μ.1 57 2) = k)))))), (0, .ref 50), (1, .int k)]) (st' := [.int 1]) (μ' := μ) (by rfl) ?_
              exact zJ hJ5 rfl (by simp only [h7, h8, h9, lb_f, Int64.or_zero, nB_t, nB_f, Bool.not_true, Bool.not_false, Bool.and_true, Bool.true_and, Bool.false_and, Bool.and_false, Bool.or_true, Bool.true_or, Bool.false_or, Bool.or_false, cond_true, cond_false]) rfl
      refine zq_if hc hH (by rfl) (tg := 32) (by rfl) (fun h10 => ?_) (fun h10 => ?_)
      · have h10 : (e3) = true := nB_n.mp (cm_ne.mp h10)
        refine z_rcs hc hH 2 (pc' := 37) (lv' := [(3, .int 2), (2, .int (nB e3)), (0, .ref 50), (1, .int k)]) (st' := [.int 1]) (μ' := μ) (by rfl) ?_
        exact zJ hJ4 rfl (by simp only [h10, lb_f, Int64.or_zero, nB_t, nB_f, Bool.not_true, Bool.not_false, Bool.and_true, Bool.true_and, Bool.false_and, Bool.and_false, Bool.or_true, Bool.true_or, Bool.false_or, Bool.or_false, cond_true, cond_false]) rfl
      · have h10 : (e3) = false := nB_z.mp (cn_ne.mp h10)
        refine z_rcs hc hH 3 (pc' := 18) (lv' := [(3, .int 2), (2, .int (nB e3)), (0, .ref 50), (1, .int k)]) (st' := [.int 2, .ref 56]) (μ' := μ) (by rfl) ?_
        refine zq_iald hc hH (by rfl) 4 (by decide +kernel) (show vp_in (nI 2) 4 from vp_in_nI (by decide) (by decide)) ?_
        show Z 0 19 [(3, .int 2), (2, .int (nB e3)), (0, .ref 50), (1, .int k)] [.int (μ.1 56 2)] μ
        refine zq_if hc hH (by rfl) (tg := 36) (by rfl) (fun h11 => ?_) (fun h11 => ?_)
        · have h11 : (decide ((μ.1 56 2) = 0)) = false := decide_eq_false (cm_ne.mp h11)
          refine z_rcs hc hH 1 (pc' := 37) (lv' := [(3, .int 2), (2, .int (nB e3)), (0, .ref 50), (1, .int k)]) (st' := [.int 0]) (μ' := μ) (by rfl) ?_
          exact zJ hJ4 rfl (by simp only [h10, h11, lb_f, Int64.or_zero, nB_t, nB_f, Bool.not_true, Bool.not_false, Bool.and_true, Bool.true_and, Bool.false_and, Bool.and_false, Bool.or_true, Bool.true_or, Bool.false_or, Bool.or_false, cond_true, cond_false]) rfl
        · have h11 : (decide ((μ.1 56 2) = 0)) = true := decide_eq_true (cn_ne.mp h11)
          refine z_rcs hc hH 3 (pc' := 27) (lv' := [(3, .int 2), (2, .int (nB e3)), (0, .ref 50), (1, .int k)]) (st' := [.int 2, .ref 57]) (μ' := μ) (by rfl) ?_
          refine zq_iald hc hH (by rfl) 4 (by decide +kernel) (show vp_in (nI 2) 4 from vp_in_nI (by decide) (by decide)) ?_
          show Z 0 28 [(3, .int 2), (2, .int (nB e3)), (0, .ref 50), (1, .int k)] [.int (μ.1 57 2)] μ
          refine z_rcs hc hH 1 (pc' := 29) (lv' := [(3, .int 2), (2, .int (nB e3)), (0, .ref 50), (1, .int k)]) (st' := [.int k, .int (μ.1 57 2)]) (μ' := μ) (by rfl) ?_
          refine zq_ic hc hH (by rfl) (tg := 36) (by rfl) (fun h12 => ?_) (fun h12 => ?_)
          · have h12 : (decide ((μ.1 57 2) = k)) = false := decide_eq_false (cm_ne.mp h12)
            refine z_rcs hc hH 1 (pc' := 37) (lv' := [(3, .int 2), (2, .int (nB e3)), (0, .ref 50), (1, .int k)]) (st' := [.int 0]) (μ' := μ) (by rfl) ?_
            exact zJ hJ4 rfl (by simp only [h10, h11, h12, lb_f, Int64.or_zero, nB_t, nB_f, Bool.not_true, Bool.not_false, Bool.and_true, Bool.true_and, Bool.false_and, Bool.and_false, Bool.or_true, Bool.true_or, Bool.false_or, Bool.or_false, cond_true, cond_false]) rfl
          · have h12 : (decide ((μ.1 57 2) = k)) = true := decide_eq_true (cn_ne.mp h12)
            refine z_rcs hc hH 2 (pc' := 37) (lv' := [(3, .int 2), (2, .int (nB e3)), (0, .ref 50), (1, .int k)]) (st' := [.int 1]) (μ' := μ) (by rfl) ?_
            exact zJ hJ4 rfl (by simp only [h10, h11, h12, lb_f, Int64.or_zero, nB_t, nB_f, Bool.not_true, Bool.not_false, Bool.and_true, Bool.true_and, Bool.false_and, Bool.and_false, Bool.or_true, Bool.true_or, Bool.false_or, Bool.or_false, cond_true, cond_false]) rfl
    refine zq_if hc hH (by rfl) (tg := 32) (by rfl) (fun h13 => ?_) (fun h13 => ?_)
    · have h13 : ((decide ((μ.1 56 0) = 0)) && (decide ((μ.1 57 0) = k))) = true := nB_n.mp (cm_ne.mp h13)
      refine z_rcs hc hH 2 (pc' := 37) (lv' := [(3, .int 1), (2, .int (nB ((decide ((μ.1 56 0) = 0)) && (decide ((μ.1 57 0) = k))))), (0, .ref 50), (1, .int k)]) (st' := [.int 1]) (μ' := μ) (by rfl) ?_
      exact zJ hJ2 rfl (by simp only [h13, lb_f, Int64.or_zero, nB_t, nB_f, Bool.not_true, Bool.not_false, Bool.and_true, Bool.true_and, Bool.false_and, Bool.and_false, Bool.or_true, Bool.true_or, Bool.false_or, Bool.or_false, cond_true, cond_false]) rfl
    · have h13 : ((decide ((μ.1 56 0) = 0)) && (decide ((μ.1 57 0) = k))) = false := nB_z.mp (cn_ne.mp h13)
      refine z_rcs hc hH 3 (pc' := 18) (lv' := [(3, .int 1), (2, .int (nB ((decide ((μ.1 56 0) = 0)) && (decide ((μ.1 57 0) = k))))), (0, .ref 50), (1, .int k)]) (st' := [.int 1, .ref 56]) (μ' := μ) (by rfl) ?_
      refine zq_iald hc hH (by rfl) 4 (by decide +kernel) (show vp_in (nI 1) 4 from vp_in_nI (by decide) (by decide)) ?_
      show Z 0 19 [(3, .int 1), (2, .int (nB ((decide ((μ.1 56 0) = 0)) && (decide ((μ.1 57 0) = k))))), (0, .ref 50), (1, .int k)] [.int (μ.1 56 1)] μ
      refine zq_if hc hH (by rfl) (tg := 36) (by rfl) (fun h14 => ?_) (fun h14 => ?_)
      · have h14 : (decide ((μ.1 56 1) = 0)) = false := decide_eq_false (cm_ne.mp h14)
        refine z_rcs hc hH 1 (pc' := 37) (lv' := [(3, .int 1), (2, .int (nB ((decide ((μ.1 56 0) = 0)) && (decide ((μ.1 57 0) = k))))), (0, .ref 50), (1, .int k)]) (st' := [.int 0]) (μ' := μ) (by rfl) ?_
        exact zJ hJ2 rfl (by simp only [h13, h14, lb_f, Int64.or_zero, nB_t, nB_f, Bool.not_true, Bool.not_false, Bool.and_true, Bool.true_and, Bool.false_and, Bool.and_false, Bool.or_true, Bool.true_or, Bool.false_or, Bool.or_false, cond_true, cond_false]) rfl
      · have h14 : (decide ((μ.1 56 1) = 0)) = true := decide_eq_true (cn_ne.mp h14)
        refine z_rcs hc hH 3 (pc' := 27) (lv' := [(3, .int 1), (2, .int (nB ((decide ((μ.1 56 0) = 0)) && (decide ((μ.1 57 0) = k))))), (0, .ref 50), (1, .int k)]) (st' := [.int 1, .ref 57]) (μ' := μ) (by rfl) ?_
        refine zq_iald hc hH (by rfl) 4 (by decide +kernel) (show vp_in (nI 1) 4 from vp_in_nI (by decide) (by decide)) ?_
        show Z 0 28 [(3, .int 1), (2, .int (nB ((decide ((μ.1 56 0) = 0)) && (decide ((μ.1 57 0) = k))))), (0, .ref 50), (1, .int k)] [.int (μ.1 57 1)] μ
        refine z_rcs hc hH 1 (pc' := 29) (lv' := [(3, .int 1), (2, .int (nB ((decide ((μ.1 56 0) = 0)) && (decide ((μ.1 57 0) = k))))), (0, .ref 50), (1, .int k)]) (st' := [.int k, .int (μ.1 57 1)]) (μ' := μ) (by rfl) ?_
        refine zq_ic hc hH (by rfl) (tg := 36) (by rfl) (fun h15 => ?_) (fun h15 => ?_)
        · have h15 : (decide ((μ.1 57 1) = k)) = false := decide_eq_false (cm_ne.mp h15)
          refine z_rcs hc hH 1 (pc' := 37) (lv' := [(3, .int 1), (2, .int (nB ((decide ((μ.1 56 0) = 0)) && (decide ((μ.1 57 0) = k))))), (0, .ref 50), (1, .int k)]) (st' := [.int 0]) (μ' := μ) (by rfl) ?_
          exact zJ hJ2 rfl (by simp only [h13, h14, h15, lb_f, Int64.or_zero, nB_t, nB_f, Bool.not_true, Bool.not_false, Bool.and_true, Bool.true_and, Bool.false_and, Bool.and_false, Bool.or_true, Bool.true_or, Bool.false_or, Bool.or_false, cond_true, cond_false]) rfl
        · have h15 : (decide ((μ.1 57 1) = k)) = true := decide_eq_true (cn_ne.mp h15)
          refine z_rcs hc hH 2 (pc' := 37) (lv' := [(3, .int 1), (2, .int (nB ((decide ((μ.1 56 0) = 0)) && (decide ((μ.1 57 0) = k))))), (0, .ref 50), (1, .int k)]) (st' := [.int 1]) (μ' := μ) (by rfl) ?_
          exact zJ hJ2 rfl (by simp only [h13, h14, h15, lb_f, Int64.or_zero, nB_t, nB_f, Bool.not_true, Bool.not_false, Bool.and_true, Bool.true_and, Bool.false_and, Bool.and_false, Bool.or_true, Bool.true_or, Bool.false_or, Bool.or_false, cond_true, cond_false]) rfl
  refine zq_if hc hH (by rfl) (tg := 36) (by rfl) (fun h16 => ?_) (fun h16 => ?_)
  · have h16 : (decide ((μ.1 56 0) = 0)) = false := decide_eq_false (cm_ne.mp h16)
    refine z_rcs hc hH 1 (pc' := 37) (lv' := [(3, .int 0), (2, .int 0), (0, .ref 50), (1, .int k)]) (st' := [.int 0]) (μ' := μ) (by rfl) ?_
    exact zJ hJ1 rfl (by simp only [h16, lb_f, Int64.or_zero, nB_t, nB_f, Bool.not_true, Bool.not_false, Bool.and_true, Bool.true_and, Bool.false_and, Bool.and_false, Bool.or_true, Bool.true_or, Bool.false_or, Bool.or_false, cond_true, cond_false]) rfl
  · have h16 : (decide ((μ.1 56 0) = 0)) = true := decide_eq_true (cn_ne.mp h16)
    refine z_rcs hc hH 3 (pc' := 27) (lv' := [(3, .int 0), (2, .int 0), (0, .ref 50), (1, .int k)]) (st' := [.int 0, .ref 57]) (μ' := μ) (by rfl) ?_
    refine zq_iald hc hH (by rfl) 4 (by decide +kernel) (show vp_in (nI 0) 4 from vp_in_nI (by decide) (by decide)) ?_
    show Z 0 28 [(3, .int 0), (2, .int 0), (0, .ref 50), (1, .int k)] [.int (μ.1 57 0)] μ
    refine z_rcs hc hH 1 (pc' := 29) (lv' := [(3, .int 0), (2, .int 0), (0, .ref 50), (1, .int k)]) (st' := [.int k, .int (μ.1 57 0)]) (μ' := μ) (by rfl) ?_
    refine zq_ic hc hH (by rfl) (tg := 36) (by rfl) (fun h17 => ?_) (fun h17 => ?_)
    · have h17 : (decide ((μ.1 57 0) = k)) = false := decide_eq_false (cm_ne.mp h17)
      refine z_rcs hc hH 1 (pc' := 37) (lv' := [(3, .int 0), (2, .int 0), (0, .ref 50), (1, .int k)]) (st' := [.int 0]) (μ' := μ) (by rfl) ?_
      exact zJ hJ1 rfl (by simp only [h16, h17, lb_f, Int64.or_zero, nB_t, nB_f, Bool.not_true, Bool.not_false, Bool.and_true, Bool.true_and, Bool.false_and, Bool.and_false, Bool.or_true, Bool.true_or, Bool.false_or, Bool.or_false, cond_true, cond_false]) rfl
    · have h17 : (decide ((μ.1 57 0) = k)) = true := decide_eq_true (cn_ne.mp h17)
      refine z_rcs hc hH 2 (pc' := 37) (lv' := [(3, .int 0), (2, .int 0), (0, .ref 50), (1, .int k)]) (st' := [.int 1]) (μ' := μ) (by rfl) ?_
      exact zJ hJ1 rfl (by simp only [h16, h17, lb_f, Int64.or_zero, nB_t, nB_f, Bool.not_true, Bool.not_false, Bool.and_true, Bool.true_and, Bool.false_and, Bool.and_false, Bool.or_true, Bool.true_or, Bool.false_or, Bool.or_false, cond_true, cond_false]) rfl
theorem fb_X7_bit (d : Nat) (hd : 1 ≤ d) (μ : zM) (k : Int32) : z_C d mi_X7_bit [.int k] μ (zR μ (.long (lb true k))) := by
  refine z_C_in (by decide) (by omega) (fun d' Z ed hc hr => ?_)
  have hH : zH mi_X7_bit zt_X7_bit 79 7 1 := hh_X7_bit
  refine z_rcs hc hH 3 (pc' := 3) (lv' := [(0, .int k)]) (st' := [.long (1 <<< (k.toInt64 &&& 63))]) (μ' := μ) (by rfl) ?_
  exact hr 0 3 _ _ _ (some (.long (1 <<< (k.toInt64 &&& 63)))) (by decide +kernel) (z_rx_ok hH (by rfl)) (⟨rfl, (by rfl)⟩)
noncomputable def xE1 (μ : zM) (ru : Int32) : Bool := (((((xEn (μ.1 50 21)) && ((xEn (μ.1 57 0)) || ((decide ((μ.1 56 0) = 0)) && (xEn ((μ.1 57 0) + 2))))) && ((xEn (μ.1 57 1)) || ((decide ((μ.1 56 1) = 0)) && (xEn ((μ.1 57 1) + 2))))) && ((xEn (μ.1 57 2)) || ((decide ((μ.1 56 2) = 0)) && (xEn ((μ.1 57 2) + 2))))) && ((xEn (μ.1 57 3)) || ((decide ((μ.1 56 3) = 0)) && (xEn ((μ.1 57 3) + 2))))) && (!(decide (ru ≤ 0)) && (((((xHo (μ.1 50 21)) || (xHo (μ.1 57 0))) || (xHo (μ.1 57 1))) || (xHo (μ.1 57 2))) || (xHo (μ.1 57 3))))
noncomputable def xE2 (μ : zM) (ru : Int32) : Bool := (((((xTe (μ.1 50 21)) && ((xTe (μ.1 57 0)) || ((decide ((μ.1 56 0) = 0)) && (xTe ((μ.1 57 0) + 2))))) && ((xTe (μ.1 57 1)) || ((decide ((μ.1 56 1) = 0)) && (xTe ((μ.1 57 1) + 2))))) && ((xTe (μ.1 57 2)) || ((decide ((μ.1 56 2) = 0)) && (xTe ((μ.1 57 2) + 2))))) && ((xTe (μ.1 57 3)) || ((decide ((μ.1 56 3) = 0)) && (xTe ((μ.1 57 3) + 2))))) && (!(decide (ru ≤ 0)))
theorem fb_X7_edges (d : Nat) (hd : 3 ≤ d) (μ : zM) (ru : Int32) : z_C d mi_X7_edges [.ref 50, .int ru] μ (fun r μ' => r = none ∧ μ' = mGP μ (μ.2.1 50 24) (((μ.2.1 50 25) ||| (lb (xE1 μ ru) 23)) ||| (lb (xE2 μ ru) 27)) (μ.1 50 23)) := by
  refine z_C_in (by decide) (by omega) (fun d' Z ed hc hr => ?_)
  have hH : zH mi_X7_edges zt_X7_edges 79 7 9 := hh_X7_edges
  refine zJ (μ := (mGP μ (μ.2.1 50 24) (μ.2.1 50 25) (μ.1 50 23))) ?_ rfl rfl (mGP_rf μ)
  refine z_rcs hc hH 2 (pc' := 4) (lv' := [(0, .ref 50), (1, .int ru)]) (st' := [.int (μ.1 50 21)]) (μ' := mGP μ (μ.2.1 50 24) (μ.2.1 50 25) (μ.1 50 23)) (by rfl) ?_
  refine zq_call hc (z_cx_ok hH (by rfl)) (fb_X7_isEnd d' (by omega) (mGP μ (μ.2.1 50 24) (μ.2.1 50 25) (μ.1 50 23)) (μ.1 50 21)) (by decide +kernel) (fun r9 μ9 hq => ?_)
  obtain ⟨hμ9, rfl⟩ := hq
  rw [hμ9]
  clear hμ9 μ9
  show Z 0 7 [(0, .ref 50), (1, .int ru)] [.int (nB (xEn (μ.1 50 21)))] _
  refine z_rcs0 hc hH 3 (pc' := 12) (lv' := [(2, .int (nB (xEn (μ.1 50 21)))), (0, .ref 50), (1, .int ru)]) (st' := [.int (μ.1 50 21)]) (by rfl) ?_
  refine zq_call hc (z_cx_ok hH (by rfl)) (fb_X7_isTerminal d' (by omega) (mGP μ (μ.2.1 50 24) (μ.2.1 50 25) (μ.1 50 23)) (μ.1 50 21)) (by decide +kernel) (fun r9 μ9 hq => ?_)
  obtain ⟨hμ9, rfl⟩ := hq
  rw [hμ9]
  clear hμ9 μ9
  show Z 0 15 [(2, .int (nB (xEn (μ.1 50 21)))), (0, .ref 50), (1, .int ru)] [.int (nB (xTe (μ.1 50 21)))] _
  refine z_rcs0 hc hH 3 (pc' := 20) (lv' := [(3, .int (nB (xTe (μ.1 50 21)))), (2, .int (nB (xEn (μ.1 50 21)))), (0, .ref 50), (1, .int ru)]) (st' := [.int (μ.1 50 21)]) (by rfl) ?_
  refine zq_call hc (z_cx_ok hH (by rfl)) (fb_X7_isHonour d' (by omega) (mGP μ (μ.2.1 50 24) (μ.2.1 50 25) (μ.1 50 23)) (μ.1 50 21)) (by decide +kernel) (fun r9 μ9 hq => ?_)
  obtain ⟨hμ9, rfl⟩ := hq
  rw [hμ9]
  clear hμ9 μ9
  show Z 0 23 [(3, .int (nB (xTe (μ.1 50 21)))), (2, .int (nB (xEn (μ.1 50 21)))), (0, .ref 50), (1, .int ru)] [.int (nB (xHo (μ.1 50 21)))] _
  refine z_rcs0 hc hH 9 (pc' := 40) (lv' := [(5, .int 0), (4, .int (nB (xHo (μ.1 50 21)))), (3, .int (nB (xTe (μ.1 50 21)))), (2, .int (nB (xEn (μ.1 50 21)))), (0, .ref 50), (1, .int ru)]) (st' := [.int 0, .ref 57]) (by rfl) ?_
  refine zq_iald hc hH (by rfl) 4 (by decide +kernel) (show vp_in (nI 0) 4 from vp_in_nI (by decide) (by decide)) ?_
  show Z 0 41 [(5, .int 0), (4, .int (nB (xHo (μ.1 50 21)))), (3, .int (nB (xTe (μ.1 50 21)))), (2, .int (nB (xEn (μ.1 50 21)))), (0, .ref 50), (1, .int ru)] [.int (μ.1 57 0)] _
  refine z_rcs0 hc hH 2 (pc' := 45) (lv' := [(6, .int (μ.1 57 0)), (5, .int 0), (4, .int (nB (xHo (μ.1 50 21)))), (3, .int (nB (xTe (μ.1 50 21)))), (2, .int (nB (xEn (μ.1 50 21)))), (0, .ref 50), (1, .int ru)]) (st' := [.int (μ.1 57 0)]) (by rfl) ?_
  refine zq_call hc (z_cx_ok hH (by rfl)) (fb_X7_isEnd d' (by omega) (mGP μ (μ.2.1 50 24) (μ.2.1 50 25) (μ.1 50 23)) (μ.1 57 0)) (by decide +kernel) (fun r9 μ9 hq => ?_)
  obtain ⟨hμ9, rfl⟩ := hq
  rw [hμ9]
  clear hμ9 μ9
  show Z 0 48 [(6, .int (μ.1 57 0)), (5, .int 0), (4, .int (nB (xHo (μ.1 50 21)))), (3, .int (nB (xTe (μ.1 50 21)))), (2, .int (nB (xEn (μ.1 50 21)))), (0, .ref 50), (1, .int ru)] [.int (nB (xEn (μ.1 57 0)))] _
  have hJ1 : Z 0 76 [(6, .int (μ.1 57 0)), (5, .int 0), (4, .int (nB (xHo (μ.1 50 21)))), (3, .int (nB (xTe (μ.1 50 21)))), (2, .int (nB (xEn (μ.1 50 21)))), (0, .ref 50), (1, .int ru)] [.int (nB ((xEn (μ.1 57 0)) || ((decide ((μ.1 56 0) = 0)) && (xEn ((μ.1 57 0) + 2)))))] (mGP μ (μ.2.1 50 24) (μ.2.1 50 25) (μ.1 50 23)) := by
    generalize he2 : ((xEn (μ.1 57 0)) || ((decide ((μ.1 56 0) = 0)) && (xEn ((μ.1 57 0) + 2)))) = e2
    refine z_rcs0 hc hH 2 (pc' := 80) (lv' := [(7, .int (nB e2)), (6, .int (μ.1 57 0)), (5, .int 0), (4, .int (nB (xHo (μ.1 50 21)))), (3, .int (nB (xTe (μ.1 50 21)))), (2, .int (nB (xEn (μ.1 50 21)))), (0, .ref 50), (1, .int ru)]) (st' := [.int (μ.1 57 0)]) (by rfl) ?_
    refine zq_call hc (z_cx_ok hH (by rfl)) (fb_X7_isTerminal d' (by omega) (mGP μ (μ.2.1 50 24) (μ.2.1 50 25) (μ.1 50 23)) (μ.1 57 0)) (by decide +kernel) (fun r9 μ9 hq => ?_)
    obtain ⟨hμ9, rfl⟩ := hq
    rw [hμ9]
    clear hμ9 μ9
    show Z 0 83 [(7, .int (nB e2)), (6, .int (μ.1 57 0)), (5, .int 0), (4, .int (nB (xHo (μ.1 50 21)))), (3, .int (nB (xTe (μ.1 50 21)))), (2, .int (nB (xEn (μ.1 50 21)))), (0, .ref 50), (1, .int ru)] [.int (nB (xTe (μ.1 57 0)))] _
    have hJ3 : Z 0 111 [(7, .int (nB e2)), (6, .int (μ.1 57 0)), (5, .int 0), (4, .int (nB (xHo (μ.1 50 21)))), (3, .int (nB (xTe (μ.1 50 21)))), (2, .int (nB (xEn (μ.1 50 21)))), (0, .ref 50), (1, .int ru)] [.int (nB ((xTe (μ.1 57 0)) || ((decide ((μ.1 56 0) = 0)) && (xTe ((μ.1 57 0) + 2)))))] (mGP μ (μ.2.1 50 24) (μ.2.1 50 25) (μ.1 50 23)) := by
      generalize he4 : ((xTe (μ.1 57 0)) || ((decide ((μ.1 56 0) = 0)) && (xTe ((μ.1 57 0) + 2)))) = e4
      refine z_rcs0 hc hH 2 (pc' := 114) (lv' := [(8, .int (nB e4)), (7, .int (nB e2)), (6, .int (μ.1 57 0)), (5, .int 0), (4, .int (nB (xHo (μ.1 50 21)))), (3, .int (nB (xTe (μ.1 50 21)))), (2, .int (nB (xEn (μ.1 50 21)))), (0, .ref 50), (1, .int ru)]) (st' := [.int (nB (xEn (μ.1 50 21)))]) (by rfl) ?_
      have hJ5 : Z 0 127 [(8, .int (nB e4)), (7, .int (nB e2)), (6, .int (μ.1 57 0)), (5, .int 0), (4, .int (nB (xHo (μ.1 50 21)))), (3, .int (nB (xTe (μ.1 50 21)))), (2, .int (nB (xEn (μ.1 50 21)))), (0, .ref 50), (1, .int ru)] [.int (nB ((xEn (μ.1 50 21)) && e2))] (mGP μ (μ.2.1 50 24) (μ.2.1 50 25) (μ.1 50 23)) := by
        refine z_rcs0 hc hH 2 (pc' := 129) (lv' := [(2, .int (nB ((xEn (μ.1 50 21)) && e2))), (8, .int (nB e4)), (7, .int (nB e2)), (6, .int (μ.1 57 0)), (5, .int 0), (4, .int (nB (xHo (μ.1 50 21)))), (3, .int (nB (xTe (μ.1 50 21)))), (0, .ref 50), (1, .int ru)]) (st' := [.int (nB (xTe (μ.1 50 21)))]) (by rfl) ?_
        have hJ6 : Z 0 142 [(2, .int (nB ((xEn (μ.1 50 21)) && e2))), (8, .int (nB e4)), (7, .int (nB e2)), (6, .int (μ.1 57 0)), (5, .int 0), (4, .int (nB (xHo (μ.1 50 21)))), (3, .int (nB (xTe (μ.1 50 21)))), (0, .ref 50), (1, .int ru)] [.int (nB ((xTe (μ.1 50 21)) && e4))] (mGP μ (μ.2.1 50 24) (μ.2.1 50 25) (μ.1 50 23)) := by
          refine z_rcs0 hc hH 2 (pc' := 145) (lv' := [(3, .int (nB ((xTe (μ.1 50 21)) && e4))), (2, .int (nB ((xEn (μ.1 50 21)) && e2))), (8, .int (nB e4)), (7, .int (nB e2)), (6, .int (μ.1 57 0)), (5, .int 0), (4, .int (nB (xHo (μ.1 50 21)))), (0, .ref 50), (1, .int ru)]) (st' := [.int (nB (xHo (μ.1 50 21)))]) (by rfl) ?_
          have hJ7 : Z 0 161 [(3, .int (nB ((xTe (μ.1 50 21)) && e4))), (2, .int (nB ((xEn (μ.1 50 21)) && e2))), (8, .int (nB e4)), (7, .int (nB e2)), (6, .int (μ.1 57 0)), (5, .int 0), (4, .int (nB (xHo (μ.1 50 21)))), (0, .ref 50), (1, .int ru)] [.int (nB ((xHo (μ.1 50 21)) || (xHo (μ.1 57 0))))] (mGP μ (μ.2.1 50 24) (μ.2.1 50 25) (μ.1 50 23)) := by
            refine z_rcs0 hc hH 9 (pc' := 40) (lv' := [(5, .int 1), (4, .int (nB ((xHo (μ.1 50 21)) || (xHo (μ.1 57 0))))), (3, .int (nB ((xTe (μ.1 50 21)) && e4))), (2, .int (nB ((xEn (μ.1 50 21)) && e2))), (8, .int (nB e4)), (7, .int (nB e2)), (6, .int (μ.1 57 0)), (0, .ref 50), (1, .int ru)]) (st' := [.int 1, .ref 57]) (by rfl) ?_
            refine zq_iald hc hH (by rfl) 4 (by decide +kernel) (show vp_in (nI 1) 4 from vp_in_nI (by decide) (by decide)) ?_
            show Z 0 41 [(5, .int 1), (4, .int (nB ((xHo (μ.1 50 21)) || (xHo (μ.1 57 0))))), (3, .int (nB ((xTe (μ.1 50 21)) && e4))), (2, .int (nB ((xEn (μ.1 50 21)) && e2))), (8, .int (nB e4)), (7, .int (nB e2)), (6, .int (μ.1 57 0)), (0, .ref 50), (1, .int ru)] [.int (μ.1 57 1)] _
            refine z_rcs0 hc hH 2 (pc' := 45) (lv' := [(6, .int (μ.1 57 1)), (5, .int 1), (4, .int (nB ((xHo (μ.1 50 21)) || (xHo (μ.1 57 0))))), (3, .int (nB ((xTe (μ.1 50 21)) && e4))), (2, .int (nB ((xEn (μ.1 50 21)) && e2))), (8, .int (nB e4)), (7, .int (nB e2)), (0, .ref 50), (1, .int ru)]) (st' := [.int (μ.1 57 1)]) (by rfl) ?_
            refine zq_call hc (z_cx_ok hH (by rfl)) (fb_X7_isEnd d' (by omega) (mGP μ (μ.2.1 50 24) (μ.2.1 50 25) (μ.1 50 23)) (μ.1 57 1)) (by decide +kernel) (fun r9 μ9 hq => ?_)
            obtain ⟨hμ9, rfl⟩ := hq
            rw [hμ9]
            clear hμ9 μ9
            show Z 0 48 [(6, .int (μ.1 57 1)), (5, .int 1), (4, .int (nB ((xHo (μ.1 50 21)) || (xHo (μ.1 57 0))))), (3, .int (nB ((xTe (μ.1 50 21)) && e4))), (2, .int (nB ((xEn (μ.1 50 21)) && e2))), (8, .int (nB e4)), (7, .int (nB e2)), (0, .ref 50), (1, .int ru)] [.int (nB (xEn (μ.1 57 1)))] _
            have hJ8 : Z 0 76 [(6, .int (μ.1 57 1)), (5, .int 1), (4, .int (nB ((xHo (μ.1 50 21)) || (xHo (μ.1 57 0))))), (3, .int (nB ((xTe (μ.1 50 21)) && e4))), (2, .int (nB ((xEn (μ.1 50 21)) && e2))), (8, .int (nB e4)), (7, .int (nB e2)), (0, .ref 50), (1, .int ru)] [.int (nB ((xEn (μ.1 57 1)) || ((decide ((μ.1 56 1) = 0)) && (xEn ((μ.1 57 1) + 2)))))] (mGP μ (μ.2.1 50 24) (μ.2.1 50 25) (μ.1 50 23)) := by
              generalize he9 : ((xEn (μ.1 57 1)) || ((decide ((μ.1 56 1) = 0)) && (xEn ((μ.1 57 1) + 2)))) = e9
              refine z_rcs0 hc hH 2 (pc' := 80) (lv' := [(7, .int (nB e9)), (6, .int (μ.1 57 1)), (5, .int 1), (4, .int (nB ((xHo (μ.1 50 21)) || (xHo (μ.1 57 0))))), (3, .int (nB ((xTe (μ.1 50 21)) && e4))), (2, .int (nB ((xEn (μ.1 50 21)) && e2))), (8, .int (nB e4)), (0, .ref 50), (1, .int ru)]) (st' := [.int (μ.1 57 1)]) (by rfl) ?_
              refine zq_call hc (z_cx_ok hH (by rfl)) (fb_X7_isTerminal d' (by omega) (mGP μ (μ.2.1 50 24) (μ.2.1 50 25) (μ.1 50 23)) (μ.1 57 1)) (by decide +kernel) (fun r9 μ9 hq => ?_)
              obtain ⟨hμ9, rfl⟩ := hq
              rw [hμ9]
              clear hμ9 μ9
              show Z 0 83 [(7, .int (nB e9)), (6, .int (μ.1 57 1)), (5, .int 1), (4, .int (nB ((xHo (μ.1 50 21)) || (xHo (μ.1 57 0))))), (3, .int (nB ((xTe (μ.1 50 21)) && e4))), (2, .int (nB ((xEn (μ.1 50 21)) && e2))), (8, .int (nB e4)), (0, .ref 50), (1, .int ru)] [.int (nB (xTe (μ.1 57 1)))] _
              have hJ10 : Z 0 111 [(7, .int (nB e9)), (6, .int (μ.1 57 1)), (5, .int 1), (4, .int (nB ((xHo (μ.1 50 21)) || (xHo (μ.1 57 0))))), (3, .int (nB ((xTe (μ.1 50 21)) && e4))), (2, .int (nB ((xEn (μ.1 50 21)) && e2))), (8, .int (nB e4)), (0, .ref 50), (1, .int ru)] [.int (nB ((xTe (μ.1 57 1)) || ((decide ((μ.1 56 1) = 0)) && (xTe ((μ.1 57 1) + 2)))))] (mGP μ (μ.2.1 50 24) (μ.2.1 50 25) (μ.1 50 23)) := by
                generalize he11 : ((xTe (μ.1 57 1)) || ((decide ((μ.1 56 1) = 0)) && (xTe ((μ.1 57 1) + 2)))) = e11
                refine z_rcs0 hc hH 2 (pc' := 114) (lv' := [(8, .int (nB e11)), (7, .int (nB e9)), (6, .int (μ.1 57 1)), (5, .int 1), (4, .int (nB ((xHo (μ.1 50 21)) || (xHo (μ.1 57 0))))), (3, .int (nB ((xTe (μ.1 50 21)) && e4))), (2, .int (nB ((xEn (μ.1 50 21)) && e2))), (0, .ref 50), (1, .int ru)]) (st' := [.int (nB ((xEn (μ.1 50 21)) && e2))]) (by rfl) ?_
                have hJ12 : Z 0 127 [(8, .int (nB e11)), (7, .int (nB e9)), (6, .int (μ.1 57 1)), (5, .int 1), (4, .int (nB ((xHo (μ.1 50 21)) || (xHo (μ.1 57 0))))), (3, .int (nB ((xTe (μ.1 50 21)) && e4))), (2, .int (nB ((xEn (μ.1 50 21)) && e2))), (0, .ref 50), (1, .int ru)] [.int (nB (((xEn (μ.1 50 21)) && e2) && e9))] (mGP μ (μ.2.1 50 24) (μ.2.1 50 25) (μ.1 50 23)) := by
                  refine z_rcs0 hc hH 2 (pc' := 129) (lv' := [(2, .int (nB (((xEn (μ.1 50 21)) && e2) && e9))), (8, .int (nB e11)), (7, .int (nB e9)), (6, .int (μ.1 57 1)), (5, .int 1), (4, .int (nB ((xHo (μ.1 50 21)) || (xHo (μ.1 57 0))))), (3, .int (nB ((xTe (μ.1 50 21)) && e4))), (0, .ref 50), (1, .int ru)]) (st' := [.int (nB ((xTe (μ.1 50 21)) && e4))]) (by rfl) ?_
                  have hJ13 : Z 0 142 [(2, .int (nB (((xEn (μ.1 50 21)) && e2) && e9))), (8, .int (nB e11)), (7, .int (nB e9)), (6, .int (μ.1 57 1)), (5, .int 1), (4, .int (nB ((xHo (μ.1 50 21)) || (xHo (μ.1 57 0))))), (3, .int (nB ((xTe (μ.1 50 21)) && e4))), (0, .ref 50), (1, .int ru)] [.int (nB (((xTe (μ.1 50 21)) && e4) && e11))] (mGP μ (μ.2.1 50 24) (μ.2.1 50 25) (μ.1 50 23)) := by
                    refine z_rcs0 hc hH 2 (pc' := 145) (lv' := [(3, .int (nB (((xTe (μ.1 50 21)) && e4) && e11))), (2, .int (nB (((xEn (μ.1 50 21)) && e2) && e9))), (8, .int (nB e11)), (7, .int (nB e9)), (6, .int (μ.1 57 1)), (5, .int 1), (4, .int (nB ((xHo (μ.1 50 21)) || (xHo (μ.1 57 0))))), (0, .ref 50), (1, .int ru)]) (st' := [.int (nB ((xHo (μ.1 50 21)) || (xHo (μ.1 57 0))))]) (by rfl) ?_
                    have hJ14 : Z 0 161 [(3, .int (nB (((xTe (μ.1 50 21)) && e4) && e11))), (2, .int (nB (((xEn (μ.1 50 21)) && e2) && e9))), (8, .int (nB e11)), (7, .int (nB e9)), (6, .int (μ.1 57 1)), (5, .int 1), (4, .int (nB ((xHo (μ.1 50 21)) || (xHo (μ.1 57 0))))), (0, .ref 50), (1, .int ru)] [.int (nB (((xHo (μ.1 50 21)) || (xHo (μ.1 57 0))) || (xHo (μ.1 57 1))))] (mGP μ (μ.2.1 50 24) (μ.2.1 50 25) (μ.1 50 23)) := by
                      refine z_rcs0 hc hH 9 (pc' := 40) (lv' := [(5, .int 2), (4, .int (nB (((xHo (μ.1 50 21)) || (xHo (μ.1 57 0))) || (xHo (μ.1 57 1))))), (3, .int (nB (((xTe (μ.1 50 21)) && e4) && e11))), (2, .int (nB (((xEn (μ.1 50 21)) && e2) && e9))), (8, .int (nB e11)), (7, .int (nB e9)), (6, .int (μ.1 57 1)), (0, .ref 50), (1, .int ru)]) (st' := [.int 2, .ref 57]) (by rfl) ?_
                      refine zq_iald hc hH (by rfl) 4 (by decide +kernel) (show vp_in (nI 2) 4 from vp_in_nI (by decide) (by decide)) ?_
                      show Z 0 41 [(5, .int 2), (4, .int (nB (((xHo (μ.1 50 21)) || (xHo (μ.1 57 0))) || (xHo (μ.1 57 1))))), (3, .int (nB (((xTe (μ.1 50 21)) && e4) && e11))), (2, .int (nB (((xEn (μ.1 50 21)) && e2) && e9))), (8, .int (nB e11)), (7, .int (nB e9)), (6, .int (μ.1 57 1)), (0, .ref 50), (1, .int ru)] [.int (μ.1 57 2)] _
                      refine z_rcs0 hc hH 2 (pc' := 45) (lv' := [(6, .int (μ.1 57 2)), (5, .int 2), (4, .int (nB (((xHo (μ.1 50 21)) || (xHo (μ.1 57 0))) || (xHo (μ.1 57 1))))), (3, .int (nB (((xTe (μ.1 50 21)) && e4) && e11))), (2, .int (nB (((xEn (μ.1 50 21)) && e2) && e9))), (8, .int (nB e11)), (7, .int (nB e9)), (0, .ref 50), (1, .int ru)]) (st' := [.int (μ.1 57 2)]) (by rfl) ?_
                      refine zq_call hc (z_cx_ok hH (by rfl)) (fb_X7_isEnd d' (by omega) (mGP μ (μ.2.1 50 24) (μ.2.1 50 25) (μ.1 50 23)) (μ.1 57 2)) (by decide +kernel) (fun r9 μ9 hq => ?_)
                      obtain ⟨hμ9, rfl⟩ := hq
                      rw [hμ9]
                      clear hμ9 μ9
                      show Z 0 48 [(6, .int (μ.1 57 2)), (5, .int 2), (4, .int (nB (((xHo (μ.1 50 21)) || (xHo (μ.1 57 0))) || (xHo (μ.1 57 1))))), (3, .int (nB (((xTe (μ.1 50 21)) && e4) && e11))), (2, .int (nB (((xEn (μ.1 50 21)) && e2) && e9))), (8, .int (nB e11)), (7, .int (nB e9)), (0, .ref 50), (1, .int ru)] [.int (nB (xEn (μ.1 57 2)))] _
                      have hJ15 : Z 0 76 [(6, .int (μ.1 57 2)), (5, .int 2), (4, .int (nB (((xHo (μ.1 50 21)) || (xHo (μ.1 57 0))) || (xHo (μ.1 57 1))))), (3, .int (nB (((xTe (μ.1 50 21)) && e4) && e11))), (2, .int (nB (((xEn (μ.1 50 21)) && e2) && e9))), (8, .int (nB e11)), (7, .int (nB e9)), (0, .ref 50), (1, .int ru)] [.int (nB ((xEn (μ.1 57 2)) || ((decide ((μ.1 56 2) = 0)) && (xEn ((μ.1 57 2) + 2)))))] (mGP μ (μ.2.1 50 24) (μ.2.1 50 25) (μ.1 50 23)) := by
                        generalize he16 : ((xEn (μ.1 57 2)) || ((decide ((μ.1 56 2) = 0)) && (xEn ((μ.1 57 2) + 2)))) = e16
                        refine z_rcs0 hc hH 2 (pc' := 80) (lv' := [(7, .int (nB e16)), (6, .int (μ.1 57 2)), (5, .int 2), (4, .int (nB (((xHo (μ.1 50 21)) || (xHo (μ.1 57 0))) || (xHo (μ.1 57 1))))), (3, .int (nB (((xTe (μ.1 50 21)) && e4) && e11))), (2, .int (nB (((xEn (μ.1 50 21)) && e2) && e9))), (8, .int (nB e11)), (0, .ref 50), (1, .int ru)]) (st' := [.int (μ.1 57 2)]) (by rfl) ?_
                        refine zq_call hc (z_cx_ok hH (by rfl)) (fb_X7_isTerminal d' (by omega) (mGP μ (μ.2.1 50 24) (μ.2.1 50 25) (μ.1 50 23)) (μ.1 57 2)) (by decide +kernel) (fun r9 μ9 hq => ?_)
                        obtain ⟨hμ9, rfl⟩ := hq
                        rw [hμ9]
                        clear hμ9 μ9
                        show Z 0 83 [(7, .int (nB e16)), (6, .int (μ.1 57 2)), (5, .int 2), (4, .int (nB (((xHo (μ.1 50 21)) || (xHo (μ.1 57 0))) || (xHo (μ.1 57 1))))), (3, .int (nB (((xTe (μ.1 50 21)) && e4) && e11))), (2, .int (nB (((xEn (μ.1 50 21)) && e2) && e9))), (8, .int (nB e11)), (0, .ref 50), (1, .int ru)] [.int (nB (xTe (μ.1 57 2)))] _
                        have hJ17 : Z 0 111 [(7, .int (nB e16)), (6, .int (μ.1 57 2)), (5, .int 2), (4, .int (nB (((xHo (μ.1 50 21)) || (xHo (μ.1 57 0))) || (xHo (μ.1 57 1))))), (3, .int (nB (((xTe (μ.1 50 21)) && e4) && e11))), (2, .int (nB (((xEn (μ.1 50 21)) && e2) && e9))), (8, .int (nB e11)), (0, .ref 50), (1, .int ru)] [.int (nB ((xTe (μ.1 57 2)) || ((decide ((μ.1 56 2) = 0)) && (xTe ((μ.1 57 2) + 2)))))] (mGP μ (μ.2.1 50 24) (μ.2.1 50 25) (μ.1 50 23)) := by
                          generalize he18 : ((xTe (μ.1 57 2)) || ((decide ((μ.1 56 2) = 0)) && (xTe ((μ.1 57 2) + 2)))) = e18
                          refine z_rcs0 hc hH 2 (pc' := 114) (lv' := [(8, .int (nB e18)), (7, .int (nB e16)), (6, .int (μ.1 57 2)), (5, .int 2), (4, .int (nB (((xHo (μ.1 50 21)) || (xHo (μ.1 57 0))) || (xHo (μ.1 57 1))))), (3, .int (nB (((xTe (μ.1 50 21)) && e4) && e11))), (2, .int (nB (((xEn (μ.1 50 21)) && e2) && e9))), (0, .ref 50), (1, .int ru)]) (st' := [.int (nB (((xEn (μ.1 50 21)) && e2) && e9))]) (by rfl) ?_
                          have hJ19 : Z 0 127 [(8, .int (nB e18)), (7, .int (nB e16)), (6, .int (μ.1 57 2)), (5, .int 2), (4, .int (nB (((xHo (μ.1 50 21)) || (xHo (μ.1 57 0))) || (xHo (μ.1 57 1))))), (3, .int (nB (((xTe (μ.1 50 21)) && e4) && e11))), (2, .int (nB (((xEn (μ.1 50 21)) && e2) && e9))), (0, .ref 50), (1, .int ru)] [.int (nB ((((xEn (μ.1 50 21)) && e2) && e9) && e16))] (mGP μ (μ.2.1 50 24) (μ.2.1 50 25) (μ.1 50 23)) := by
                            refine z_rcs0 hc hH 2 (pc' := 129) (lv' := [(2, .int (nB ((((xEn (μ.1 50 21)) && e2) && e9) && e16))), (8, .int (nB e18)), (7, .int (nB e16)), (6, .int (μ.1 57 2)), (5, .int 2), (4, .int (nB (((xHo (μ.1 50 21)) || (xHo (μ.1 57 0))) || (xHo (μ.1 57 1))))), (3, .int (nB (((xTe (μ.1 50 21)) && e4) && e11))), (0, .ref 50), (1, .int ru)]) (st' := [.int (nB (((xTe (μ.1 50 21)) && e4) && e11))]) (by rfl) ?_
                            have hJ20 : Z 0 142 [(2, .int (nB ((((xEn (μ.1 50 21)) && e2) && e9) && e16))), (8, .int (nB e18)), (7, .int (nB e16)), (6, .int (μ.1 57 2)), (5, .int 2), (4, .int (nB (((xHo (μ.1 50 21)) || (xHo (μ.1 57 0))) || (xHo (μ.1 57 1))))), (3, .int (nB (((xTe (μ.1 50 21)) && e4) && e11))), (0, .ref 50), (1, .int ru)] [.int (nB ((((xTe (μ.1 50 21)) && e4) && e11) && e18))] (mGP μ (μ.2.1 50 24) (μ.2.1 50 25) (μ.1 50 23)) := by
                              refine z_rcs0 hc hH 2 (pc' := 145) (lv' := [(3, .int (nB ((((xTe (μ.1 50 21)) && e4) && e11) && e18))), (2, .int (nB ((((xEn (μ.1 50 21)) && e2) && e9) && e16))), (8, .int (nB e18)), (7, .int (nB e16)), (6, .int (μ.1 57 2)), (5, .int 2), (4, .int (nB (((xHo (μ.1 50 21)) || (xHo (μ.1 57 0))) || (xHo (μ.1 57 1))))), (0, .ref 50), (1, .int ru)]) (st' := [.int (nB (((xHo (μ.1 50 21)) || (xHo (μ.1 57 0))) || (xHo (μ.1 57 1))))]) (by rfl) ?_
                              have hJ21 : Z 0 161 [(3, .int (nB ((((xTe (μ.1 50 21)) && e4) && e11) && e18))), (2, .int (nB ((((xEn (μ.1 50 21)) && e2) && e9) && e16))), (8, .int (nB e18)), (7, .int (nB e16)), (6, .int (μ.1 57 2)), (5, .int 2), (4, .int (nB (((xHo (μ.1 50 21)) || (xHo (μ.1 57 0))) || (xHo (μ.1 57 1))))), (0, .ref 50), (1, .int ru)] [.int (nB ((((xHo (μ.1 50 21)) || (xHo (μ.1 57 0))) || (xHo (μ.1 57 1))) || (xHo (μ.1 57 2))))] (mGP μ (μ.2.1 50 24) (μ.2.1 50 25) (μ.1 50 23)) := by
                                generalize he22 : ((((xHo (μ.1 50 21)) || (xHo (μ.1 57 0))) || (xHo (μ.1 57 1))) || (xHo (μ.1 57 2))) = e22
                                refine z_rcs0 hc hH 9 (pc' := 40) (lv' := [(5, .int 3), (4, .int (nB e22)), (3, .int (nB ((((xTe (μ.1 50 21)) && e4) && e11) && e18))), (2, .int (nB ((((xEn (μ.1 50 21)) && e2) && e9) && e16))), (8, .int (nB e18)), (7, .int (nB e16)), (6, .int (μ.1 57 2)), (0, .ref 50), (1, .int ru)]) (st' := [.int 3, .ref 57]) (by rfl) ?_
                                refine zq_iald hc hH (by rfl) 4 (by decide +kernel) (show vp_in (nI 3) 4 from vp_in_nI (by decide) (by decide)) ?_
                                show Z 0 41 [(5, .int 3), (4, .int (nB e22)), (3, .int (nB ((((xTe (μ.1 50 21)) && e4) && e11) && e18))), (2, .int (nB ((((xEn (μ.1 50 21)) && e2) && e9) && e16))), (8, .int (nB e18)), (7, .int (nB e16)), (6, .int (μ.1 57 2)), (0, .ref 50), (1, .int ru)] [.int (μ.1 57 3)] _
                                refine z_rcs0 hc hH 2 (pc' := 45) (lv' := [(6, .int (μ.1 57 3)), (5, .int 3), (4, .int (nB e22)), (3, .int (nB ((((xTe (μ.1 50 21)) && e4) && e11) && e18))), (2, .int (nB ((((xEn (μ.1 50 21)) && e2) && e9) && e16))), (8, .int (nB e18)), (7, .int (nB e16)), (0, .ref 50), (1, .int ru)]) (st' := [.int (μ.1 57 3)]) (by rfl) ?_
                                refine zq_call hc (z_cx_ok hH (by rfl)) (fb_X7_isEnd d' (by omega) (mGP μ (μ.2.1 50 24) (μ.2.1 50 25) (μ.1 50 23)) (μ.1 57 3)) (by decide +kernel) (fun r9 μ9 hq => ?_)
                                obtain ⟨hμ9, rfl⟩ := hq
                                rw [hμ9]
                                clear hμ9 μ9
                                show Z 0 48 [(6, .int (μ.1 57 3)), (5, .int 3), (4, .int (nB e22)), (3, .int (nB ((((xTe (μ.1 50 21)) && e4) && e11) && e18))), (2, .int (nB ((((xEn (μ.1 50 21)) && e2) && e9) && e16))), (8, .int (nB e18)), (7, .int (nB e16)), (0, .ref 50), (1, .int ru)] [.int (nB (xEn (μ.1 57 3)))] _
                                have hJ23 : Z 0 76 [(6, .int (μ.1 57 3)), (5, .int 3), (4, .int (nB e22)), (3, .int (nB ((((xTe (μ.1 50 21)) && e4) && e11) && e18))), (2, .int (nB ((((xEn (μ.1 50 21)) && e2) && e9) && e16))), (8, .int (nB e18)), (7, .int (nB e16)), (0, .ref 50), (1, .int ru)] [.int (nB ((xEn (μ.1 57 3)) || ((decide ((μ.1 56 3) = 0)) && (xEn ((μ.1 57 3) + 2)))))] (mGP μ (μ.2.1 50 24) (μ.2.1 50 25) (μ.1 50 23)) := by
                                  generalize he24 : ((xEn (μ.1 57 3)) || ((decide ((μ.1 56 3) = 0)) && (xEn ((μ.1 57 3) + 2)))) = e24
                                  refine z_rcs0 hc hH 2 (pc' := 80) (lv' := [(7, .int (nB e24)), (6, .int (μ.1 57 3)), (5, .int 3), (4, .int (nB e22)), (3, .int (nB ((((xTe (μ.1 50 21)) && e4) && e11) && e18))), (2, .int (nB ((((xEn (μ.1 50 21)) && e2) && e9) && e16))), (8, .int (nB e18)), (0, .ref 50), (1, .int ru)]) (st' := [.int (μ.1 57 3)]) (by rfl) ?_
                                  refine zq_call hc (z_cx_ok hH (by rfl)) (fb_X7_isTerminal d' (by omega) (mGP μ (μ.2.1 50 24) (μ.2.1 50 25) (μ.1 50 23)) (μ.1 57 3)) (by decide +kernel) (fun r9 μ9 hq => ?_)
                                  obtain ⟨hμ9, rfl⟩ := hq
                                  rw [hμ9]
                                  clear hμ9 μ9
                                  show Z 0 83 [(7, .int (nB e24)), (6, .int (μ.1 57 3)), (5, .int 3), (4, .int (nB e22)), (3, .int (nB ((((xTe (μ.1 50 21)) && e4) && e11) && e18))), (2, .int (nB ((((xEn (μ.1 50 21)) && e2) && e9) && e16))), (8, .int (nB e18)), (0, .ref 50), (1, .int ru)] [.int (nB (xTe (μ.1 57 3)))] _
                                  have hJ25 : Z 0 111 [(7, .int (nB e24)), (6, .int (μ.1 57 3)), (5, .int 3), (4, .int (nB e22)), (3, .int (nB ((((xTe (μ.1 50 21)) && e4) && e11) && e18))), (2, .int (nB ((((xEn (μ.1 50 21)) && e2) && e9) && e16))), (8, .int (nB e18)), (0, .ref 50), (1, .int ru)] [.int (nB ((xTe (μ.1 57 3)) || ((decide ((μ.1 56 3) = 0)) && (xTe ((μ.1 57 3) + 2)))))] (mGP μ (μ.2.1 50 24) (μ.2.1 50 25) (μ.1 50 23)) := by
                                    generalize he26 : ((xTe (μ.1 57 3)) || ((decide ((μ.1 56 3) = 0)) && (xTe ((μ.1 57 3) + 2)))) = e26
                                    refine z_rcs0 hc hH 2 (pc' := 114) (lv' := [(8, .int (nB e26)), (7, .int (nB e24)), (6, .int (μ.1 57 3)), (5, .int 3), (4, .int (nB e22)), (3, .int (nB ((((xTe (μ.1 50 21)) && e4) && e11) && e18))), (2, .int (nB ((((xEn (μ.1 50 21)) && e2) && e9) && e16))), (0, .ref 50), (1, .int ru)]) (st' := [.int (nB ((((xEn (μ.1 50 21)) && e2) && e9) && e16))]) (by rfl) ?_
                                    have hJ27 : Z 0 127 [(8, .int (nB e26)), (7, .int (nB e24)), (6, .int (μ.1 57 3)), (5, .int 3), (4, .int (nB e22)), (3, .int (nB ((((xTe (μ.1 50 21)) && e4) && e11) && e18))), (2, .int (nB ((((xEn (μ.1 50 21)) && e2) && e9) && e16))), (0, .ref 50), (1, .int ru)] [.int (nB (((((xEn (μ.1 50 21)) && e2) && e9) && e16) && e24))] (mGP μ (μ.2.1 50 24) (μ.2.1 50 25) (μ.1 50 23)) := by
                                      refine z_rcs0 hc hH 2 (pc' := 129) (lv' := [(2, .int (nB (((((xEn (μ.1 50 21)) && e2) && e9) && e16) && e24))), (8, .int (nB e26)), (7, .int (nB e24)), (6, .int (μ.1 57 3)), (5, .int 3), (4, .int (nB e22)), (3, .int (nB ((((xTe (μ.1 50 21)) && e4) && e11) && e18))), (0, .ref 50), (1, .int ru)]) (st' := [.int (nB ((((xTe (μ.1 50 21)) && e4) && e11) && e18))]) (by rfl) ?_
                                      have hJ28 : Z 0 142 [(2, .int (nB (((((xEn (μ.1 50 21)) && e2) && e9) && e16) && e24))), (8, .int (nB e26)), (7, .int (nB e24)), (6, .int (μ.1 57 3)), (5, .int 3), (4, .int (nB e22)), (3, .int (nB ((((xTe (μ.1 50 21)) && e4) && e11) && e18))), (0, .ref 50), (1, .int ru)] [.int (nB (((((xTe (μ.1 50 21)) && e4) && e11) && e18) && e26))] (mGP μ (μ.2.1 50 24) (μ.2.1 50 25) (μ.1 50 23)) := by
                                        refine z_rcs0 hc hH 2 (pc' := 145) (lv' := [(3, .int (nB (((((xTe (μ.1 50 21)) && e4) && e11) && e18) && e26))), (2, .int (nB (((((xEn (μ.1 50 21)) && e2) && e9) && e16) && e24))), (8, .int (nB e26)), (7, .int (nB e24)), (6, .int (μ.1 57 3)), (5, .int 3), (4, .int (nB e22)), (0, .ref 50), (1, .int ru)]) (st' := [.int (nB e22)]) (by rfl) ?_
                                        have hJ29 : Z 0 161 [(3, .int (nB (((((xTe (μ.1 50 21)) && e4) && e11) && e18) && e26))), (2, .int (nB (((((xEn (μ.1 50 21)) && e2) && e9) && e16) && e24))), (8, .int (nB e26)), (7, .int (nB e24)), (6, .int (μ.1 57 3)), (5, .int 3), (4, .int (nB e22)), (0, .ref 50), (1, .int ru)] [.int (nB (e22 || (xHo (μ.1 57 3))))] (mGP μ (μ.2.1 50 24) (μ.2.1 50 25) (μ.1 50 23)) := by
                                          refine z_rcs0 hc hH 7 (pc' := 170) (lv' := [(5, .int 4), (4, .int (nB (e22 || (xHo (μ.1 57 3))))), (3, .int (nB (((((xTe (μ.1 50 21)) && e4) && e11) && e18) && e26))), (2, .int (nB (((((xEn (μ.1 50 21)) && e2) && e9) && e16) && e24))), (8, .int (nB e26)), (7, .int (nB e24)), (6, .int (μ.1 57 3)), (0, .ref 50), (1, .int ru)]) (st' := [.int (nB (((((xEn (μ.1 50 21)) && e2) && e9) && e16) && e24))]) (by rfl) ?_
                                          have hJ30 : Z 0 196 [(5, .int 4), (4, .int (nB (e22 || (xHo (μ.1 57 3))))), (3, .int (nB (((((xTe (μ.1 50 21)) && e4) && e11) && e18) && e26))), (2, .int (nB (((((xEn (μ.1 50 21)) && e2) && e9) && e16) && e24))), (8, .int (nB e26)), (7, .int (nB e24)), (6, .int (μ.1 57 3)), (0, .ref 50), (1, .int ru)] [] (mGP μ (μ.2.1 50 24) ((μ.2.1 50 25) ||| (lb ((((((xEn (μ.1 50 21)) && e2) && e9) && e16) && e24) && (!(decide (ru ≤ 0)) && (e22 || (xHo (μ.1 57 3))))) 23)) (μ.1 50 23)) := by
                                            generalize hy31 : ((μ.2.1 50 25) ||| (lb ((((((xEn (μ.1 50 21)) && e2) && e9) && e16) && e24) && (!(decide (ru ≤ 0)) && (e22 || (xHo (μ.1 57 3))))) 23) : Int64) = y31
                                            refine z_rcs hc hH 1 (pc' := 197) (lv' := [(5, .int 4), (4, .int (nB (e22 || (xHo (μ.1 57 3))))), (3, .int (nB (((((xTe (μ.1 50 21)) && e4) && e11) && e18) && e26))), (2, .int (nB (((((xEn (μ.1 50 21)) && e2) && e9) && e16) && e24))), (8, .int (nB e26)), (7, .int (nB e24)), (6, .int (μ.1 57 3)), (0, .ref 50), (1, .int ru)]) (st' := [.int (nB (((((xTe (μ.1 50 21)) && e4) && e11) && e18) && e26))]) (μ' := mGP μ (μ.2.1 50 24) y31 (μ.1 50 23)) (by rfl) ?_
                                            generalize he32 : (((((xTe (μ.1 50 21)) && e4) && e11) && e18) && e26) = e32
                                            refine zq_if hc hH (by rfl) (tg := 218) (by rfl) (fun h33 => ?_) (fun h33 => ?_)
                                            · have h33 : (e32) = false := nB_z.mp (cm_eq9.mp h33)
                                              exact hr 0 218 _ _ _ none (by decide +kernel) (by rfl) (⟨rfl, (by unfold xE1 xE2; try rw [he2]; try rw [he4]; try rw [he9]; try rw [he11]; try rw [he16]; try rw [he18]; try rw [he22]; try rw [he24]; try rw [he26]; try rw [hy31]; try rw [he32]; simp only [h33, lb_f, Int64.or_zero, nB_t, nB_f, Bool.not_true, Bool.not_false, Bool.and_true, Bool.true_and, Bool.false_and, Bool.and_false, Bool.or_true, Bool.true_or, Bool.false_or, Bool.or_false, cond_true, cond_false])⟩)
                                            · have h33 : (e32) = true := nB_n.mp (cn_eq.mp h33)
                                              refine z_rcs0 hc hH 1 (pc' := 201) (lv' := [(5, .int 4), (4, .int (nB (e22 || (xHo (μ.1 57 3))))), (3, .int (nB e32)), (2, .int (nB (((((xEn (μ.1 50 21)) && e2) && e9) && e16) && e24))), (8, .int (nB e26)), (7, .int (nB e24)), (6, .int (μ.1 57 3)), (0, .ref 50), (1, .int ru)]) (st' := [.int ru]) (by rfl) ?_
                                              refine zq_if hc hH (by rfl) (tg := 218) (by rfl) (fun h34 => ?_) (fun h34 => ?_)
                                              · have h34 : (decide (ru ≤ 0)) = true := decide_eq_true (cm_le.mp h34)
                                                exact hr 0 218 _ _ _ none (by decide +kernel) (by rfl) (⟨rfl, (by unfold xE1 xE2; try rw [he2]; try rw [he4]; try rw [he9]; try rw [he11]; try rw [he16]; try rw [he18]; try rw [he22]; try rw [he24]; try rw [he26]; try rw [hy31]; try rw [he32]; simp only [h33, h34, lb_f, Int64.or_zero, nB_t, nB_f, Bool.not_true, Bool.not_false, Bool.and_true, Bool.true_and, Bool.false_and, Bool.and_false, Bool.or_true, Bool.true_or, Bool.false_or, Bool.or_false, cond_true, cond_false])⟩)
                                              · have h34 : (decide (ru ≤ 0)) = false := decide_eq_false (cn_le.mp h34)
                                                refine z_rcs0 hc hH 4 (pc' := 211) (lv' := [(5, .int 4), (4, .int (nB (e22 || (xHo (μ.1 57 3))))), (3, .int (nB e32)), (2, .int (nB (((((xEn (μ.1 50 21)) && e2) && e9) && e16) && e24))), (8, .int (nB e26)), (7, .int (nB e24)), (6, .int (μ.1 57 3)), (0, .ref 50), (1, .int ru)]) (st' := [.int 27, .long y31, .ref 50]) (by rfl) ?_
                                                refine zq_call hc (z_cx_ok hH (by rfl)) (fb_X7_bit d' (by omega) (mGP μ (μ.2.1 50 24) y31 (μ.1 50 23)) 27) (by decide +kernel) (fun r9 μ9 hq => ?_)
                                                obtain ⟨hμ9, rfl⟩ := hq
                                                rw [hμ9]
                                                clear hμ9 μ9
                                                show Z 0 214 [(5, .int 4), (4, .int (nB (e22 || (xHo (μ.1 57 3))))), (3, .int (nB e32)), (2, .int (nB (((((xEn (μ.1 50 21)) && e2) && e9) && e16) && e24))), (8, .int (nB e26)), (7, .int (nB e24)), (6, .int (μ.1 57 3)), (0, .ref 50), (1, .int ru)] [.long (lb true 27), .long y31, .ref 50] _
                                                refine z_rcs hc hH 2 (pc' := 218) (lv' := [(5, .int 4), (4, .int (nB (e22 || (xHo (μ.1 57 3))))), (3, .int (nB e32)), (2, .int (nB (((((xEn (μ.1 50 21)) && e2) && e9) && e16) && e24))), (8, .int (nB e26)), (7, .int (nB e24)), (6, .int (μ.1 57 3)), (0, .ref 50), (1, .int ru)]) (st' := []) (μ' := z_uj (mGP μ (μ.2.1 50 24) y31 (μ.1 50 23)) 50 25 (y31 ||| (lb true 27))) (by rfl) ?_
                                                rw [mGP_p]
                                                exact hr 0 218 _ _ _ none (by decide +kernel) (by rfl) (⟨rfl, (by unfold xE1 xE2; try rw [he2]; try rw [he4]; try rw [he9]; try rw [he11]; try rw [he16]; try rw [he18]; try rw [he22]; try rw [he24]; try rw [he26]; try rw [hy31]; try rw [he32]; simp only [h33, h34, lb_f, Int64.or_zero, nB_t, nB_f, Bool.not_true, Bool.not_false, Bool.and_true, Bool.true_and, Bool.false_and, Bool.and_false, Bool.or_true, Bool.true_or, Bool.false_or, Bool.or_false, cond_true, cond_false])⟩)
                                          refine zq_if hc hH (by rfl) (tg := 196) (by rfl) (fun h35 => ?_) (fun h35 => ?_)
                                          · have h35 : (((((xEn (μ.1 50 21)) && e2) && e9) && e16) && e24) = false := nB_z.mp (cm_eq9.mp h35)
                                            exact zJ hJ30 rfl rfl (by simp only [h35, lb_f, Int64.or_zero, nB_t, nB_f, Bool.not_true, Bool.not_false, Bool.and_true, Bool.true_and, Bool.false_and, Bool.and_false, Bool.or_true, Bool.true_or, Bool.false_or, Bool.or_false, cond_true, cond_false])
                                          · have h35 : (((((xEn (μ.1 50 21)) && e2) && e9) && e16) && e24) = true := nB_n.mp (cn_eq.mp h35)
                                            refine z_rcs hc hH 1 (pc' := 174) (lv' := [(5, .int 4), (4, .int (nB (e22 || (xHo (μ.1 57 3))))), (3, .int (nB (((((xTe (μ.1 50 21)) && e4) && e11) && e18) && e26))), (2, .int (nB (((((xEn (μ.1 50 21)) && e2) && e9) && e16) && e24))), (8, .int (nB e26)), (7, .int (nB e24)), (6, .int (μ.1 57 3)), (0, .ref 50), (1, .int ru)]) (st' := [.int ru]) (μ' := mGP μ (μ.2.1 50 24) (μ.2.1 50 25) (μ.1 50 23)) (by rfl) ?_
                                            refine zq_if hc hH (by rfl) (tg := 196) (by rfl) (fun h36 => ?_) (fun h36 => ?_)
                                            · have h36 : (decide (ru ≤ 0)) = true := decide_eq_true (cm_le.mp h36)
                                              exact zJ hJ30 rfl rfl (by simp only [h35, h36, lb_f, Int64.or_zero, nB_t, nB_f, Bool.not_true, Bool.not_false, Bool.and_true, Bool.true_and, Bool.false_and, Bool.and_false, Bool.or_true, Bool.true_or, Bool.false_or, Bool.or_false, cond_true, cond_false])
                                            · have h36 : (decide (ru ≤ 0)) = false := decide_eq_false (cn_le.mp h36)
                                              refine z_rcs0 hc hH 1 (pc' := 179) (lv' := [(5, .int 4), (4, .int (nB (e22 || (xHo (μ.1 57 3))))), (3, .int (nB (((((xTe (μ.1 50 21)) && e4) && e11) && e18) && e26))), (2, .int (nB (((((xEn (μ.1 50 21)) && e2) && e9) && e16) && e24))), (8, .int (nB e26)), (7, .int (nB e24)), (6, .int (μ.1 57 3)), (0, .ref 50), (1, .int ru)]) (st' := [.int (nB (e22 || (xHo (μ.1 57 3))))]) (by rfl) ?_
                                              refine zq_if hc hH (by rfl) (tg := 196) (by rfl) (fun h37 => ?_) (fun h37 => ?_)
                                              · have h37 : (e22 || (xHo (μ.1 57 3))) = false := nB_z.mp (cm_eq9.mp h37)
                                                exact zJ hJ30 rfl rfl (by simp only [h35, h36, h37, lb_f, Int64.or_zero, nB_t, nB_f, Bool.not_true, Bool.not_false, Bool.and_true, Bool.true_and, Bool.false_and, Bool.and_false, Bool.or_true, Bool.true_or, Bool.false_or, Bool.or_false, cond_true, cond_false])
                                              · have h37 : (e22 || (xHo (μ.1 57 3))) = true := nB_n.mp (cn_eq.mp h37)
                                                refine z_rcs0 hc hH 4 (pc' := 189) (lv' := [(5, .int 4), (4, .int (nB (e22 || (xHo (μ.1 57 3))))), (3, .int (nB (((((xTe (μ.1 50 21)) && e4) && e11) && e18) && e26))), (2, .int (nB (((((xEn (μ.1 50 21)) && e2) && e9) && e16) && e24))), (8, .int (nB e26)), (7, .int (nB e24)), (6, .int (μ.1 57 3)), (0, .ref 50), (1, .int ru)]) (st' := [.int 23, .long (μ.2.1 50 25), .ref 50]) (by rfl) ?_
                                                refine zq_call hc (z_cx_ok hH (by rfl)) (fb_X7_bit d' (by omega) (mGP μ (μ.2.1 50 24) (μ.2.1 50 25) (μ.1 50 23)) 23) (by decide +kernel) (fun r9 μ9 hq => ?_)
                                                obtain ⟨hμ9, rfl⟩ := hq
                                                rw [hμ9]
                                                clear hμ9 μ9
                                                show Z 0 192 [(5, .int 4), (4, .int (nB (e22 || (xHo (μ.1 57 3))))), (3, .int (nB (((((xTe (μ.1 50 21)) && e4) && e11) && e18) && e26))), (2, .int (nB (((((xEn (μ.1 50 21)) && e2) && e9) && e16) && e24))), (8, .int (nB e26)), (7, .int (nB e24)), (6, .int (μ.1 57 3)), (0, .ref 50), (1, .int ru)] [.long (lb true 23), .long (μ.2.1 50 25), .ref 50] _
                                                refine z_rcs hc hH 2 (pc' := 196) (lv' := [(5, .int 4), (4, .int (nB (e22 || (xHo (μ.1 57 3))))), (3, .int (nB (((((xTe (μ.1 50 21)) && e4) && e11) && e18) && e26))), (2, .int (nB (((((xEn (μ.1 50 21)) && e2) && e9) && e16) && e24))), (8, .int (nB e26)), (7, .int (nB e24)), (6, .int (μ.1 57 3)), (0, .ref 50), (1, .int ru)]) (st' := []) (μ' := z_uj (mGP μ (μ.2.1 50 24) (μ.2.1 50 25) (μ.1 50 23)) 50 25 ((μ.2.1 50 25) ||| (lb true 23))) (by rfl) ?_
                                                rw [mGP_p]
                                                exact zJ hJ30 rfl rfl (by simp only [h35, h36, h37, lb_f, Int64.or_zero, nB_t, nB_f, Bool.not_true, Bool.not_false, Bool.and_true, Bool.true_and, Bool.false_and, Bool.and_false, Bool.or_true, Bool.true_or, Bool.false_or, Bool.or_false, cond_true, cond_false])
                                        refine zq_if hc hH (by rfl) (tg := 156) (by rfl) (fun h38 => ?_) (fun h38 => ?_)
                                        · have h38 : (e22) = true := nB_n.mp (cm_ne.mp h38)
                                          refine z_rcs hc hH 2 (pc' := 161) (lv' := [(3, .int (nB (((((xTe (μ.1 50 21)) && e4) && e11) && e18) && e26))), (2, .int (nB (((((xEn (μ.1 50 21)) && e2) && e9) && e16) && e24))), (8, .int (nB e26)), (7, .int (nB e24)), (6, .int (μ.1 57 3)), (5, .int 3), (4, .int (nB e22)), (0, .ref 50), (1, .int ru)]) (st' := [.int 1]) (μ' := mGP μ (μ.2.1 50 24) (μ.2.1 50 25) (μ.1 50 23)) (by rfl) ?_
                                          exact zJ hJ29 rfl (by simp only [h38, lb_f, Int64.or_zero, nB_t, nB_f, Bool.not_true, Bool.not_false, Bool.and_true, Bool.true_and, Bool.false_and, Bool.and_false, Bool.or_true, Bool.true_or, Bool.false_or, Bool.or_false, cond_true, cond_false]) rfl
                                        · have h38 : (e22) = false := nB_z.mp (cn_ne.mp h38)
                                          refine z_rcs0 hc hH 1 (pc' := 150) (lv' := [(3, .int (nB (((((xTe (μ.1 50 21)) && e4) && e11) && e18) && e26))), (2, .int (nB (((((xEn (μ.1 50 21)) && e2) && e9) && e16) && e24))), (8, .int (nB e26)), (7, .int (nB e24)), (6, .int (μ.1 57 3)), (5, .int 3), (4, .int (nB e22)), (0, .ref 50), (1, .int ru)]) (st' := [.int (μ.1 57 3)]) (by rfl) ?_
                                          refine zq_call hc (z_cx_ok hH (by rfl)) (fb_X7_isHonour d' (by omega) (mGP μ (μ.2.1 50 24) (μ.2.1 50 25) (μ.1 50 23)) (μ.1 57 3)) (by decide +kernel) (fun r9 μ9 hq => ?_)
                                          obtain ⟨hμ9, rfl⟩ := hq
                                          rw [hμ9]
                                          clear hμ9 μ9
                                          show Z 0 153 [(3, .int (nB (((((xTe (μ.1 50 21)) && e4) && e11) && e18) && e26))), (2, .int (nB (((((xEn (μ.1 50 21)) && e2) && e9) && e16) && e24))), (8, .int (nB e26)), (7, .int (nB e24)), (6, .int (μ.1 57 3)), (5, .int 3), (4, .int (nB e22)), (0, .ref 50), (1, .int ru)] [.int (nB (xHo (μ.1 57 3)))] _
                                          refine zq_if hc hH (by rfl) (tg := 160) (by rfl) (fun h39 => ?_) (fun h39 => ?_)
                                          · have h39 : (xHo (μ.1 57 3)) = false := nB_z.mp (cm_eq9.mp h39)
                                            refine z_rcs0 hc hH 1 (pc' := 161) (lv' := [(3, .int (nB (((((xTe (μ.1 50 21)) && e4) && e11) && e18) && e26))), (2, .int (nB (((((xEn (μ.1 50 21)) && e2) && e9) && e16) && e24))), (8, .int (nB e26)), (7, .int (nB e24)), (6, .int (μ.1 57 3)), (5, .int 3), (4, .int (nB e22)), (0, .ref 50), (1, .int ru)]) (st' := [.int 0]) (by rfl) ?_
                                            exact zJ hJ29 rfl (by simp only [h38, h39, lb_f, Int64.or_zero, nB_t, nB_f, Bool.not_true, Bool.not_false, Bool.and_true, Bool.true_and, Bool.false_and, Bool.and_false, Bool.or_true, Bool.true_or, Bool.false_or, Bool.or_false, cond_true, cond_false]) rfl
                                          · have h39 : (xHo (μ.1 57 3)) = true := nB_n.mp (cn_eq.mp h39)
                                            refine z_rcs0 hc hH 2 (pc' := 161) (lv' := [(3, .int (nB (((((xTe (μ.1 50 21)) && e4) && e11) && e18) && e26))), (2, .int (nB (((((xEn (μ.1 50 21)) && e2) && e9) && e16) && e24))), (8, .int (nB e26)), (7, .int (nB e24)), (6, .int (μ.1 57 3)), (5, .int 3), (4, .int (nB e22)), (0, .ref 50), (1, .int ru)]) (st' := [.int 1]) (by rfl) ?_
                                            exact zJ hJ29 rfl (by simp only [h38, h39, lb_f, Int64.or_zero, nB_t, nB_f, Bool.not_true, Bool.not_false, Bool.and_true, Bool.true_and, Bool.false_and, Bool.and_false, Bool.or_true, Bool.true_or, Bool.false_or, Bool.or_false, cond_true, cond_false]) rfl
                                      refine zq_if hc hH (by rfl) (tg := 141) (by rfl) (fun h40 => ?_) (fun h40 => ?_)
                                      · have h40 : ((((xTe (μ.1 50 21)) && e4) && e11) && e18) = false := nB_z.mp (cm_eq9.mp h40)
                                        refine z_rcs0 hc hH 1 (pc' := 142) (lv' := [(2, .int (nB (((((xEn (μ.1 50 21)) && e2) && e9) && e16) && e24))), (8, .int (nB e26)), (7, .int (nB e24)), (6, .int (μ.1 57 3)), (5, .int 3), (4, .int (nB e22)), (3, .int (nB ((((xTe (μ.1 50 21)) && e4) && e11) && e18))), (0, .ref 50), (1, .int ru)]) (st' := [.int 0]) (by rfl) ?_
                                        exact zJ hJ28 rfl (by simp only [h40, lb_f, Int64.or_zero, nB_t, nB_f, Bool.not_true, Bool.not_false, Bool.and_true, Bool.true_and, Bool.false_and, Bool.and_false, Bool.or_true, Bool.true_or, Bool.false_or, Bool.or_false, cond_true, cond_false]) rfl
                                      · have h40 : ((((xTe (μ.1 50 21)) && e4) && e11) && e18) = true := nB_n.mp (cn_eq.mp h40)
                                        refine z_rcs0 hc hH 1 (pc' := 134) (lv' := [(2, .int (nB (((((xEn (μ.1 50 21)) && e2) && e9) && e16) && e24))), (8, .int (nB e26)), (7, .int (nB e24)), (6, .int (μ.1 57 3)), (5, .int 3), (4, .int (nB e22)), (3, .int (nB ((((xTe (μ.1 50 21)) && e4) && e11) && e18))), (0, .ref 50), (1, .int ru)]) (st' := [.int (nB e26)]) (by rfl) ?_
                                        refine zq_if hc hH (by rfl) (tg := 141) (by rfl) (fun h41 => ?_) (fun h41 => ?_)
                                        · have h41 : (e26) = false := nB_z.mp (cm_eq9.mp h41)
                                          refine z_rcs0 hc hH 1 (pc' := 142) (lv' := [(2, .int (nB (((((xEn (μ.1 50 21)) && e2) && e9) && e16) && e24))), (8, .int (nB e26)), (7, .int (nB e24)), (6, .int (μ.1 57 3)), (5, .int 3), (4, .int (nB e22)), (3, .int (nB ((((xTe (μ.1 50 21)) && e4) && e11) && e18))), (0, .ref 50), (1, .int ru)]) (st' := [.int 0]) (by rfl) ?_
                                          exact zJ hJ28 rfl (by simp only [h40, h41, lb_f, Int64.or_zero, nB_t, nB_f, Bool.not_true, Bool.not_false, Bool.and_true, Bool.true_and, Bool.false_and, Bool.and_false, Bool.or_true, Bool.true_or, Bool.false_or, Bool.or_false, cond_true, cond_false]) rfl
                                        · have h41 : (e26) = true := nB_n.mp (cn_eq.mp h41)
                                          refine z_rcs0 hc hH 2 (pc' := 142) (lv' := [(2, .int (nB (((((xEn (μ.1 50 21)) && e2) && e9) && e16) && e24))), (8, .int (nB e26)), (7, .int (nB e24)), (6, .int (μ.1 57 3)), (5, .int 3), (4, .int (nB e22)), (3, .int (nB ((((xTe (μ.1 50 21)) && e4) && e11) && e18))), (0, .ref 50), (1, .int ru)]) (st' := [.int 1]) (by rfl) ?_
                                          exact zJ hJ28 rfl (by simp only [h40, h41, lb_f, Int64.or_zero, nB_t, nB_f, Bool.not_true, Bool.not_false, Bool.and_true, Bool.true_and, Bool.false_and, Bool.and_false, Bool.or_true, Bool.true_or, Bool.false_or, Bool.or_false, cond_true, cond_false]) rfl
                                    refine zq_if hc hH (by rfl) (tg := 126) (by rfl) (fun h42 => ?_) (fun h42 => ?_)
                                    · have h42 : ((((xEn (μ.1 50 21)) && e2) && e9) && e16) = false := nB_z.mp (cm_eq9.mp h42)
                                      refine z_rcs0 hc hH 1 (pc' := 127) (lv' := [(8, .int (nB e26)), (7, .int (nB e24)), (6, .int (μ.1 57 3)), (5, .int 3), (4, .int (nB e22)), (3, .int (nB ((((xTe (μ.1 50 21)) && e4) && e11) && e18))), (2, .int (nB ((((xEn (μ.1 50 21)) && e2) && e9) && e16))), (0, .ref 50), (1, .int ru)]) (st' := [.int 0]) (by rfl) ?_
                                      exact zJ hJ27 rfl (by simp only [h42, lb_f, Int64.or_zero, nB_t, nB_f, Bool.not_true, Bool.not_false, Bool.and_true, Bool.true_and, Bool.false_and, Bool.and_false, Bool.or_true, Bool.true_or, Bool.false_or, Bool.or_false, cond_true, cond_false]) rfl
                                    · have h42 : ((((xEn (μ.1 50 21)) && e2) && e9) && e16) = true := nB_n.mp (cn_eq.mp h42)
                                      refine z_rcs0 hc hH 1 (pc' := 119) (lv' := [(8, .int (nB e26)), (7, .int (nB e24)), (6, .int (μ.1 57 3)), (5, .int 3), (4, .int (nB e22)), (3, .int (nB ((((xTe (μ.1 50 21)) && e4) && e11) && e18))), (2, .int (nB ((((xEn (μ.1 50 21)) && e2) && e9) && e16))), (0, .ref 50), (1, .int ru)]) (st' := [.int (nB e24)]) (by rfl) ?_
                                      refine zq_if hc hH (by rfl) (tg := 126) (by rfl) (fun h43 => ?_) (fun h43 => ?_)
                                      · have h43 : (e24) = false := nB_z.mp (cm_eq9.mp h43)
                                        refine z_rcs0 hc hH 1 (pc' := 127) (lv' := [(8, .int (nB e26)), (7, .int (nB e24)), (6, .int (μ.1 57 3)), (5, .int 3), (4, .int (nB e22)), (3, .int (nB ((((xTe (μ.1 50 21)) && e4) && e11) && e18))), (2, .int (nB ((((xEn (μ.1 50 21)) && e2) && e9) && e16))), (0, .ref 50), (1, .int ru)]) (st' := [.int 0]) (by rfl) ?_
                                        exact zJ hJ27 rfl (by simp only [h42, h43, lb_f, Int64.or_zero, nB_t, nB_f, Bool.not_true, Bool.not_false, Bool.and_true, Bool.true_and, Bool.false_and, Bool.and_false, Bool.or_true, Bool.true_or, Bool.false_or, Bool.or_false, cond_true, cond_false]) rfl
                                      · have h43 : (e24) = true := nB_n.mp (cn_eq.mp h43)
                                        refine z_rcs0 hc hH 2 (pc' := 127) (lv' := [(8, .int (nB e26)), (7, .int (nB e24)), (6, .int (μ.1 57 3)), (5, .int 3), (4, .int (nB e22)), (3, .int (nB ((((xTe (μ.1 50 21)) && e4) && e11) && e18))), (2, .int (nB ((((xEn (μ.1 50 21)) && e2) && e9) && e16))), (0, .ref 50), (1, .int ru)]) (st' := [.int 1]) (by rfl) ?_
                                        exact zJ hJ27 rfl (by simp only [h42, h43, lb_f, Int64.or_zero, nB_t, nB_f, Bool.not_true, Bool.not_false, Bool.and_true, Bool.true_and, Bool.false_and, Bool.and_false, Bool.or_true, Bool.true_or, Bool.false_or, Bool.or_false, cond_true, cond_false]) rfl
                                  refine zq_if hc hH (by rfl) (tg := 106) (by rfl) (fun h44 => ?_) (fun h44 => ?_)
                                  · have h44 : (xTe (μ.1 57 3)) = true := nB_n.mp (cm_ne.mp h44)
                                    refine z_rcs0 hc hH 2 (pc' := 111) (lv' := [(7, .int (nB e24)), (6, .int (μ.1 57 3)), (5, .int 3), (4, .int (nB e22)), (3, .int (nB ((((xTe (μ.1 50 21)) && e4) && e11) && e18))), (2, .int (nB ((((xEn (μ.1 50 21)) && e2) && e9) && e16))), (8, .int (nB e18)), (0, .ref 50), (1, .int ru)]) (st' := [.int 1]) (by rfl) ?_
                                    exact zJ hJ25 rfl (by simp only [h44, lb_f, Int64.or_zero, nB_t, nB_f, Bool.not_true, Bool.not_false, Bool.and_true, Bool.true_and, Bool.false_and, Bool.and_false, Bool.or_true, Bool.true_or, Bool.false_or, Bool.or_false, cond_true, cond_false]) rfl
                                  · have h44 : (xTe (μ.1 57 3)) = false := nB_z.mp (cn_ne.mp h44)
                                    refine z_rcs0 hc hH 3 (pc' := 92) (lv' := [(7, .int (nB e24)), (6, .int (μ.1 57 3)), (5, .int 3), (4, .int (nB e22)), (3, .int (nB ((((xTe (μ.1 50 21)) && e4) && e11) && e18))), (2, .int (nB ((((xEn (μ.1 50 21)) && e2) && e9) && e16))), (8, .int (nB e18)), (0, .ref 50), (1, .int ru)]) (st' := [.int 3, .ref 56]) (by rfl) ?_
                                    refine zq_iald hc hH (by rfl) 4 (by decide +kernel) (show vp_in (nI 3) 4 from vp_in_nI (by decide) (by decide)) ?_
                                    show Z 0 93 [(7, .int (nB e24)), (6, .int (μ.1 57 3)), (5, .int 3), (4, .int (nB e22)), (3, .int (nB ((((xTe (μ.1 50 21)) && e4) && e11) && e18))), (2, .int (nB ((((xEn (μ.1 50 21)) && e2) && e9) && e16))), (8, .int (nB e18)), (0, .ref 50), (1, .int ru)] [.int (μ.1 56 3)] _
                                    refine zq_if hc hH (by rfl) (tg := 110) (by rfl) (fun h45 => ?_) (fun h45 => ?_)
                                    · have h45 : (decide ((μ.1 56 3) = 0)) = false := decide_eq_false (cm_ne.mp h45)
                                      refine z_rcs0 hc hH 1 (pc' := 111) (lv' := [(7, .int (nB e24)), (6, .int (μ.1 57 3)), (5, .int 3), (4, .int (nB e22)), (3, .int (nB ((((xTe (μ.1 50 21)) && e4) && e11) && e18))), (2, .int (nB ((((xEn (μ.1 50 21)) && e2) && e9) && e16))), (8, .int (nB e18)), (0, .ref 50), (1, .int ru)]) (st' := [.int 0]) (by rfl) ?_
                                      exact zJ hJ25 rfl (by simp only [h44, h45, lb_f, Int64.or_zero, nB_t, nB_f, Bool.not_true, Bool.not_false, Bool.and_true, Bool.true_and, Bool.false_and, Bool.and_false, Bool.or_true, Bool.true_or, Bool.false_or, Bool.or_false, cond_true, cond_false]) rfl
                                    · have h45 : (decide ((μ.1 56 3) = 0)) = true := decide_eq_true (cn_ne.mp h45)
                                      refine z_rcs0 hc hH 3 (pc' := 100) (lv' := [(7, .int (nB e24)), (6, .int (μ.1 57 3)), (5, .int 3), (4, .int (nB e22)), (3, .int (nB ((((xTe (μ.1 50 21)) && e4) && e11) && e18))), (2, .int (nB ((((xEn (μ.1 50 21)) && e2) && e9) && e16))), (8, .int (nB e18)), (0, .ref 50), (1, .int ru)]) (st' := [.int ((μ.1 57 3) + 2)]) (by rfl) ?_
                                      refine zq_call hc (z_cx_ok hH (by rfl)) (fb_X7_isTerminal d' (by omega) (mGP μ (μ.2.1 50 24) (μ.2.1 50 25) (μ.1 50 23)) ((μ.1 57 3) + 2)) (by decide +kernel) (fun r9 μ9 hq => ?_)
                                      obtain ⟨hμ9, rfl⟩ := hq
                                      rw [hμ9]
                                      clear hμ9 μ9
                                      show Z 0 103 [(7, .int (nB e24)), (6, .int (μ.1 57 3)), (5, .int 3), (4, .int (nB e22)), (3, .int (nB ((((xTe (μ.1 50 21)) && e4) && e11) && e18))), (2, .int (nB ((((xEn (μ.1 50 21)) && e2) && e9) && e16))), (8, .int (nB e18)), (0, .ref 50), (1, .int ru)] [.int (nB (xTe ((μ.1 57 3) + 2)))] _
                                      refine zq_if hc hH (by rfl) (tg := 110) (by rfl) (fun h46 => ?_) (fun h46 => ?_)
                                      · have h46 : (xTe ((μ.1 57 3) + 2)) = false := nB_z.mp (cm_eq9.mp h46)
                                        refine z_rcs0 hc hH 1 (pc' := 111) (lv' := [(7, .int (nB e24)), (6, .int (μ.1 57 3)), (5, .int 3), (4, .int (nB e22)), (3, .int (nB ((((xTe (μ.1 50 21)) && e4) && e11) && e18))), (2, .int (nB ((((xEn (μ.1 50 21)) && e2) && e9) && e16))), (8, .int (nB e18)), (0, .ref 50), (1, .int ru)]) (st' := [.int 0]) (by rfl) ?_
                                        exact zJ hJ25 rfl (by simp only [h44, h45, h46, lb_f, Int64.or_zero, nB_t, nB_f, Bool.not_true, Bool.not_false, Bool.and_true, Bool.true_and, Bool.false_and, Bool.and_false, Bool.or_true, Bool.true_or, Bool.false_or, Bool.or_false, cond_true, cond_false]) rfl
                                      · have h46 : (xTe ((μ.1 57 3) + 2)) = true := nB_n.mp (cn_eq.mp h46)
                                        refine z_rcs0 hc hH 2 (pc' := 111) (lv' := [(7, .int (nB e24)), (6, .int (μ.1 57 3)), (5, .int 3), (4, .int (nB e22)), (3, .int (nB ((((xTe (μ.1 50 21)) && e4) && e11) && e18))), (2, .int (nB ((((xEn (μ.1 50 21)) && e2) && e9) && e16))), (8, .int (nB e18)), (0, .ref 50), (1, .int ru)]) (st' := [.int 1]) (by rfl) ?_
                                        exact zJ hJ25 rfl (by simp only [h44, h45, h46, lb_f, Int64.or_zero, nB_t, nB_f, Bool.not_true, Bool.not_false, Bool.and_true, Bool.true_and, Bool.false_and, Bool.and_false, Bool.or_true, Bool.true_or, Bool.false_or, Bool.or_false, cond_true, cond_false]) rfl
                                refine zq_if hc hH (by rfl) (tg := 71) (by rfl) (fun h47 => ?_) (fun h47 => ?_)
                                · have h47 : (xEn (μ.1 57 3)) = true := nB_n.mp (cm_ne.mp h47)
                                  refine z_rcs0 hc hH 2 (pc' := 76) (lv' := [(6, .int (μ.1 57 3)), (5, .int 3), (4, .int (nB e22)), (3, .int (nB ((((xTe (μ.1 50 21)) && e4) && e11) && e18))), (2, .int (nB ((((xEn (μ.1 50 21)) && e2) && e9) && e16))), (8, .int (nB e18)), (7, .int (nB e16)), (0, .ref 50), (1, .int ru)]) (st' := [.int 1]) (by rfl) ?_
                                  exact zJ hJ23 rfl (by simp only [h47, lb_f, Int64.or_zero, nB_t, nB_f, Bool.not_true, Bool.not_false, Bool.and_true, Bool.true_and, Bool.false_and, Bool.and_false, Bool.or_true, Bool.true_or, Bool.false_or, Bool.or_false, cond_true, cond_false]) rfl
                                · have h47 : (xEn (μ.1 57 3)) = false := nB_z.mp (cn_ne.mp h47)
                                  refine z_rcs0 hc hH 3 (pc' := 57) (lv' := [(6, .int (μ.1 57 3)), (5, .int 3), (4, .int (nB e22)), (3, .int (nB ((((xTe (μ.1 50 21)) && e4) && e11) && e18))), (2, .int (nB ((((xEn (μ.1 50 21)) && e2) && e9) && e16))), (8, .int (nB e18)), (7, .int (nB e16)), (0, .ref 50), (1, .int ru)]) (st' := [.int 3, .ref 56]) (by rfl) ?_
                                  refine zq_iald hc hH (by rfl) 4 (by decide +kernel) (show vp_in (nI 3) 4 from vp_in_nI (by decide) (by decide)) ?_
                                  show Z 0 58 [(6, .int (μ.1 57 3)), (5, .int 3), (4, .int (nB e22)), (3, .int (nB ((((xTe (μ.1 50 21)) && e4) && e11) && e18))), (2, .int (nB ((((xEn (μ.1 50 21)) && e2) && e9) && e16))), (8, .int (nB e18)), (7, .int (nB e16)), (0, .ref 50), (1, .int ru)] [.int (μ.1 56 3)] _
                                  refine zq_if hc hH (by rfl) (tg := 75) (by rfl) (fun h48 => ?_) (fun h48 => ?_)
                                  · have h48 : (decide ((μ.1 56 3) = 0)) = false := decide_eq_false (cm_ne.mp h48)
                                    refine z_rcs0 hc hH 1 (pc' := 76) (lv' := [(6, .int (μ.1 57 3)), (5, .int 3), (4, .int (nB e22)), (3, .int (nB ((((xTe (μ.1 50 21)) && e4) && e11) && e18))), (2, .int (nB ((((xEn (μ.1 50 21)) && e2) && e9) && e16))), (8, .int (nB e18)), (7, .int (nB e16)), (0, .ref 50), (1, .int ru)]) (st' := [.int 0]) (by rfl) ?_
                                    exact zJ hJ23 rfl (by simp only [h47, h48, lb_f, Int64.or_zero, nB_t, nB_f, Bool.not_true, Bool.not_false, Bool.and_true, Bool.true_and, Bool.false_and, Bool.and_false, Bool.or_true, Bool.true_or, Bool.false_or, Bool.or_false, cond_true, cond_false]) rfl
                                  · have h48 : (decide ((μ.1 56 3) = 0)) = true := decide_eq_true (cn_ne.mp h48)
                                    refine z_rcs0 hc hH 3 (pc' := 65) (lv' := [(6, .int (μ.1 57 3)), (5, .int 3), (4, .int (nB e22)), (3, .int (nB ((((xTe (μ.1 50 21)) && e4) && e11) && e18))), (2, .int (nB ((((xEn (μ.1 50 21)) && e2) && e9) && e16))), (8, .int (nB e18)), (7, .int (nB e16)), (0, .ref 50), (1, .int ru)]) (st' := [.int ((μ.1 57 3) + 2)]) (by rfl) ?_
                                    refine zq_call hc (z_cx_ok hH (by rfl)) (fb_X7_isEnd d' (by omega) (mGP μ (μ.2.1 50 24) (μ.2.1 50 25) (μ.1 50 23)) ((μ.1 57 3) + 2)) (by decide +kernel) (fun r9 μ9 hq => ?_)
                                    obtain ⟨hμ9, rfl⟩ := hq
                                    rw [hμ9]
                                    clear hμ9 μ9
                                    show Z 0 68 [(6, .int (μ.1 57 3)), (5, .int 3), (4, .int (nB e22)), (3, .int (nB ((((xTe (μ.1 50 21)) && e4) && e11) && e18))), (2, .int (nB ((((xEn (μ.1 50 21)) && e2) && e9) && e16))), (8, .int (nB e18)), (7, .int (nB e16)), (0, .ref 50), (1, .int ru)] [.int (nB (xEn ((μ.1 57 3) + 2)))] _
                                    refine zq_if hc hH (by rfl) (tg := 75) (by rfl) (fun h49 => ?_) (fun h49 => ?_)
                                    · have h49 : (xEn ((μ.1 57 3) + 2)) = false := nB_z.mp (cm_eq9.mp h49)
                                      refine z_rcs0 hc hH 1 (pc' := 76) (lv' := [(6, .int (μ.1 57 3)), (5, .int 3), (4, .int (nB e22)), (3, .int (nB ((((xTe (μ.1 50 21)) && e4) && e11) && e18))), (2, .int (nB ((((xEn (μ.1 50 21)) && e2) && e9) && e16))), (8, .int (nB e18)), (7, .int (nB e16)), (0, .ref 50), (1, .int ru)]) (st' := [.int 0]) (by rfl) ?_
                                      exact zJ hJ23 rfl (by simp only [h47, h48, h49, lb_f, Int64.or_zero, nB_t, nB_f, Bool.not_true, Bool.not_false, Bool.and_true, Bool.true_and, Bool.false_and, Bool.and_false, Bool.or_true, Bool.true_or, Bool.false_or, Bool.or_false, cond_true, cond_false]) rfl
                                    · have h49 : (xEn ((μ.1 57 3) + 2)) = true := nB_n.mp (cn_eq.mp h49)
                                      refine z_rcs0 hc hH 2 (pc' := 76) (lv' := [(6, .int (μ.1 57 3)), (5, .int 3), (4, .int (nB e22)), (3, .int (nB ((((xTe (μ.1 50 21)) && e4) && e11) && e18))), (2, .int (nB ((((xEn (μ.1 50 21)) && e2) && e9) && e16))), (8, .int (nB e18)), (7, .int (nB e16)), (0, .ref 50), (1, .int ru)]) (st' := [.int 1]) (by rfl) ?_
                                      exact zJ hJ23 rfl (by simp only [h47, h48, h49, lb_f, Int64.or_zero, nB_t, nB_f, Bool.not_true, Bool.not_false, Bool.and_true, Bool.true_and, Bool.false_and, Bool.and_false, Bool.or_true, Bool.true_or, Bool.false_or, Bool.or_false, cond_true, cond_false]) rfl
                              refine zq_if hc hH (by rfl) (tg := 156) (by rfl) (fun h50 => ?_) (fun h50 => ?_)
                              · have h50 : (((xHo (μ.1 50 21)) || (xHo (μ.1 57 0))) || (xHo (μ.1 57 1))) = true := nB_n.mp (cm_ne.mp h50)
                                refine z_rcs0 hc hH 2 (pc' := 161) (lv' := [(3, .int (nB ((((xTe (μ.1 50 21)) && e4) && e11) && e18))), (2, .int (nB ((((xEn (μ.1 50 21)) && e2) && e9) && e16))), (8, .int (nB e18)), (7, .int (nB e16)), (6, .int (μ.1 57 2)), (5, .int 2), (4, .int (nB (((xHo (μ.1 50 21)) || (xHo (μ.1 57 0))) || (xHo (μ.1 57 1))))), (0, .ref 50), (1, .int ru)]) (st' := [.int 1]) (by rfl) ?_
                                exact zJ hJ21 rfl (by simp only [h50, lb_f, Int64.or_zero, nB_t, nB_f, Bool.not_true, Bool.not_false, Bool.and_true, Bool.true_and, Bool.false_and, Bool.and_false, Bool.or_true, Bool.true_or, Bool.false_or, Bool.or_false, cond_true, cond_false]) rfl
                              · have h50 : (((xHo (μ.1 50 21)) || (xHo (μ.1 57 0))) || (xHo (μ.1 57 1))) = false := nB_z.mp (cn_ne.mp h50)
                                refine z_rcs0 hc hH 1 (pc' := 150) (lv' := [(3, .int (nB ((((xTe (μ.1 50 21)) && e4) && e11) && e18))), (2, .int (nB ((((xEn (μ.1 50 21)) && e2) && e9) && e16))), (8, .int (nB e18)), (7, .int (nB e16)), (6, .int (μ.1 57 2)), (5, .int 2), (4, .int (nB (((xHo (μ.1 50 21)) || (xHo (μ.1 57 0))) || (xHo (μ.1 57 1))))), (0, .ref 50), (1, .int ru)]) (st' := [.int (μ.1 57 2)]) (by rfl) ?_
                                refine zq_call hc (z_cx_ok hH (by rfl)) (fb_X7_isHonour d' (by omega) (mGP μ (μ.2.1 50 24) (μ.2.1 50 25) (μ.1 50 23)) (μ.1 57 2)) (by decide +kernel) (fun r9 μ9 hq => ?_)
                                obtain ⟨hμ9, rfl⟩ := hq
                                rw [hμ9]
                                clear hμ9 μ9
                                show Z 0 153 [(3, .int (nB ((((xTe (μ.1 50 21)) && e4) && e11) && e18))), (2, .int (nB ((((xEn (μ.1 50 21)) && e2) && e9) && e16))), (8, .int (nB e18)), (7, .int (nB e16)), (6, .int (μ.1 57 2)), (5, .int 2), (4, .int (nB (((xHo (μ.1 50 21)) || (xHo (μ.1 57 0))) || (xHo (μ.1 57 1))))), (0, .ref 50), (1, .int ru)] [.int (nB (xHo (μ.1 57 2)))] _
                                refine zq_if hc hH (by rfl) (tg := 160) (by rfl) (fun h51 => ?_) (fun h51 => ?_)
                                · have h51 : (xHo (μ.1 57 2)) = false := nB_z.mp (cm_eq9.mp h51)
                                  refine z_rcs0 hc hH 1 (pc' := 161) (lv' := [(3, .int (nB ((((xTe (μ.1 50 21)) && e4) && e11) && e18))), (2, .int (nB ((((xEn (μ.1 50 21)) && e2) && e9) && e16))), (8, .int (nB e18)), (7, .int (nB e16)), (6, .int (μ.1 57 2)), (5, .int 2), (4, .int (nB (((xHo (μ.1 50 21)) || (xHo (μ.1 57 0))) || (xHo (μ.1 57 1))))), (0, .ref 50), (1, .int ru)]) (st' := [.int 0]) (by rfl) ?_
                                  exact zJ hJ21 rfl (by simp only [h50, h51, lb_f, Int64.or_zero, nB_t, nB_f, Bool.not_true, Bool.not_false, Bool.and_true, Bool.true_and, Bool.false_and, Bool.and_false, Bool.or_true, Bool.true_or, Bool.false_or, Bool.or_false, cond_true, cond_false]) rfl
                                · have h51 : (xHo (μ.1 57 2)) = true := nB_n.mp (cn_eq.mp h51)
                                  refine z_rcs0 hc hH 2 (pc' := 161) (lv' := [(3, .int (nB ((((xTe (μ.1 50 21)) && e4) && e11) && e18))), (2, .int (nB ((((xEn (μ.1 50 21)) && e2) && e9) && e16))), (8, .int (nB e18)), (7, .int (nB e16)), (6, .int (μ.1 57 2)), (5, .int 2), (4, .int (nB (((xHo (μ.1 50 21)) || (xHo (μ.1 57 0))) || (xHo (μ.1 57 1))))), (0, .ref 50), (1, .int ru)]) (st' := [.int 1]) (by rfl) ?_
                                  exact zJ hJ21 rfl (by simp only [h50, h51, lb_f, Int64.or_zero, nB_t, nB_f, Bool.not_true, Bool.not_false, Bool.and_true, Bool.true_and, Bool.false_and, Bool.and_false, Bool.or_true, Bool.true_or, Bool.false_or, Bool.or_false, cond_true, cond_false]) rfl
                            refine zq_if hc hH (by rfl) (tg := 141) (by rfl) (fun h52 => ?_) (fun h52 => ?_)
                            · have h52 : (((xTe (μ.1 50 21)) && e4) && e11) = false := nB_z.mp (cm_eq9.mp h52)
                              refine z_rcs0 hc hH 1 (pc' := 142) (lv' := [(2, .int (nB ((((xEn (μ.1 50 21)) && e2) && e9) && e16))), (8, .int (nB e18)), (7, .int (nB e16)), (6, .int (μ.1 57 2)), (5, .int 2), (4, .int (nB (((xHo (μ.1 50 21)) || (xHo (μ.1 57 0))) || (xHo (μ.1 57 1))))), (3, .int (nB (((xTe (μ.1 50 21)) && e4) && e11))), (0, .ref 50), (1, .int ru)]) (st' := [.int 0]) (by rfl) ?_
                              exact zJ hJ20 rfl (by simp only [h52, lb_f, Int64.or_zero, nB_t, nB_f, Bool.not_true, Bool.not_false, Bool.and_true, Bool.true_and, Bool.false_and, Bool.and_false, Bool.or_true, Bool.true_or, Bool.false_or, Bool.or_false, cond_true, cond_false]) rfl
                            · have h52 : (((xTe (μ.1 50 21)) && e4) && e11) = true := nB_n.mp (cn_eq.mp h52)
                              refine z_rcs0 hc hH 1 (pc' := 134) (lv' := [(2, .int (nB ((((xEn (μ.1 50 21)) && e2) && e9) && e16))), (8, .int (nB e18)), (7, .int (nB e16)), (6, .int (μ.1 57 2)), (5, .int 2), (4, .int (nB (((xHo (μ.1 50 21)) || (xHo (μ.1 57 0))) || (xHo (μ.1 57 1))))), (3, .int (nB (((xTe (μ.1 50 21)) && e4) && e11))), (0, .ref 50), (1, .int ru)]) (st' := [.int (nB e18)]) (by rfl) ?_
                              refine zq_if hc hH (by rfl) (tg := 141) (by rfl) (fun h53 => ?_) (fun h53 => ?_)
                              · have h53 : (e18) = false := nB_z.mp (cm_eq9.mp h53)
                                refine z_rcs0 hc hH 1 (pc' := 142) (lv' := [(2, .int (nB ((((xEn (μ.1 50 21)) && e2) && e9) && e16))), (8, .int (nB e18)), (7, .int (nB e16)), (6, .int (μ.1 57 2)), (5, .int 2), (4, .int (nB (((xHo (μ.1 50 21)) || (xHo (μ.1 57 0))) || (xHo (μ.1 57 1))))), (3, .int (nB (((xTe (μ.1 50 21)) && e4) && e11))), (0, .ref 50), (1, .int ru)]) (st' := [.int 0]) (by rfl) ?_
                                exact zJ hJ20 rfl (by simp only [h52, h53, lb_f, Int64.or_zero, nB_t, nB_f, Bool.not_true, Bool.not_false, Bool.and_true, Bool.true_and, Bool.false_and, Bool.and_false, Bool.or_true, Bool.true_or, Bool.false_or, Bool.or_false, cond_true, cond_false]) rfl
                              · have h53 : (e18) = true := nB_n.mp (cn_eq.mp h53)
                                refine z_rcs0 hc hH 2 (pc' := 142) (lv' := [(2, .int (nB ((((xEn (μ.1 50 21)) && e2) && e9) && e16))), (8, .int (nB e18)), (7, .int (nB e16)), (6, .int (μ.1 57 2)), (5, .int 2), (4, .int (nB (((xHo (μ.1 50 21)) || (xHo (μ.1 57 0))) || (xHo (μ.1 57 1))))), (3, .int (nB (((xTe (μ.1 50 21)) && e4) && e11))), (0, .ref 50), (1, .int ru)]) (st' := [.int 1]) (by rfl) ?_
                                exact zJ hJ20 rfl (by simp only [h52, h53, lb_f, Int64.or_zero, nB_t, nB_f, Bool.not_true, Bool.not_false, Bool.and_true, Bool.true_and, Bool.false_and, Bool.and_false, Bool.or_true, Bool.true_or, Bool.false_or, Bool.or_false, cond_true, cond_false]) rfl
                          refine zq_if hc hH (by rfl) (tg := 126) (by rfl) (fun h54 => ?_) (fun h54 => ?_)
                          · have h54 : (((xEn (μ.1 50 21)) && e2) && e9) = false := nB_z.mp (cm_eq9.mp h54)
                            refine z_rcs0 hc hH 1 (pc' := 127) (lv' := [(8, .int (nB e18)), (7, .int (nB e16)), (6, .int (μ.1 57 2)), (5, .int 2), (4, .int (nB (((xHo (μ.1 50 21)) || (xHo (μ.1 57 0))) || (xHo (μ.1 57 1))))), (3, .int (nB (((xTe (μ.1 50 21)) && e4) && e11))), (2, .int (nB (((xEn (μ.1 50 21)) && e2) && e9))), (0, .ref 50), (1, .int ru)]) (st' := [.int 0]) (by rfl) ?_
                            exact zJ hJ19 rfl (by simp only [h54, lb_f, Int64.or_zero, nB_t, nB_f, Bool.not_true, Bool.not_false, Bool.and_true, Bool.true_and, Bool.false_and, Bool.and_false, Bool.or_true, Bool.true_or, Bool.false_or, Bool.or_false, cond_true, cond_false]) rfl
                          · have h54 : (((xEn (μ.1 50 21)) && e2) && e9) = true := nB_n.mp (cn_eq.mp h54)
                            refine z_rcs0 hc hH 1 (pc' := 119) (lv' := [(8, .int (nB e18)), (7, .int (nB e16)), (6, .int (μ.1 57 2)), (5, .int 2), (4, .int (nB (((xHo (μ.1 50 21)) || (xHo (μ.1 57 0))) || (xHo (μ.1 57 1))))), (3, .int (nB (((xTe (μ.1 50 21)) && e4) && e11))), (2, .int (nB (((xEn (μ.1 50 21)) && e2) && e9))), (0, .ref 50), (1, .int ru)]) (st' := [.int (nB e16)]) (by rfl) ?_
                            refine zq_if hc hH (by rfl) (tg := 126) (by rfl) (fun h55 => ?_) (fun h55 => ?_)
                            · have h55 : (e16) = false := nB_z.mp (cm_eq9.mp h55)
                              refine z_rcs0 hc hH 1 (pc' := 127) (lv' := [(8, .int (nB e18)), (7, .int (nB e16)), (6, .int (μ.1 57 2)), (5, .int 2), (4, .int (nB (((xHo (μ.1 50 21)) || (xHo (μ.1 57 0))) || (xHo (μ.1 57 1))))), (3, .int (nB (((xTe (μ.1 50 21)) && e4) && e11))), (2, .int (nB (((xEn (μ.1 50 21)) && e2) && e9))), (0, .ref 50), (1, .int ru)]) (st' := [.int 0]) (by rfl) ?_
                              exact zJ hJ19 rfl (by simp only [h54, h55, lb_f, Int64.or_zero, nB_t, nB_f, Bool.not_true, Bool.not_false, Bool.and_true, Bool.true_and, Bool.false_and, Bool.and_false, Bool.or_true, Bool.true_or, Bool.false_or, Bool.or_false, cond_true, cond_false]) rfl
                            · have h55 : (e16) = true := nB_n.mp (cn_eq.mp h55)
                              refine z_rcs0 hc hH 2 (pc' := 127) (lv' := [(8, .int (nB e18)), (7, .int (nB e16)), (6, .int (μ.1 57 2)), (5, .int 2), (4, .int (nB (((xHo (μ.1 50 21)) || (xHo (μ.1 57 0))) || (xHo (μ.1 57 1))))), (3, .int (nB (((xTe (μ.1 50 21)) && e4) && e11))), (2, .int (nB (((xEn (μ.1 50 21)) && e2) && e9))), (0, .ref 50), (1, .int ru)]) (st' := [.int 1]) (by rfl) ?_
                              exact zJ hJ19 rfl (by simp only [h54, h55, lb_f, Int64.or_zero, nB_t, nB_f, Bool.not_true, Bool.not_false, Bool.and_true, Bool.true_and, Bool.false_and, Bool.and_false, Bool.or_true, Bool.true_or, Bool.false_or, Bool.or_false, cond_true, cond_false]) rfl
                        refine zq_if hc hH (by rfl) (tg := 106) (by rfl) (fun h56 => ?_) (fun h56 => ?_)
                        · have h56 : (xTe (μ.1 57 2)) = true := nB_n.mp (cm_ne.mp h56)
                          refine z_rcs0 hc hH 2 (pc' := 111) (lv' := [(7, .int (nB e16)), (6, .int (μ.1 57 2)), (5, .int 2), (4, .int (nB (((xHo (μ.1 50 21)) || (xHo (μ.1 57 0))) || (xHo (μ.1 57 1))))), (3, .int (nB (((xTe (μ.1 50 21)) && e4) && e11))), (2, .int (nB (((xEn (μ.1 50 21)) && e2) && e9))), (8, .int (nB e11)), (0, .ref 50), (1, .int ru)]) (st' := [.int 1]) (by rfl) ?_
                          exact zJ hJ17 rfl (by simp only [h56, lb_f, Int64.or_zero, nB_t, nB_f, Bool.not_true, Bool.not_false, Bool.and_true, Bool.true_and, Bool.false_and, Bool.and_false, Bool.or_true, Bool.true_or, Bool.false_or, Bool.or_false, cond_true, cond_false]) rfl
                        · have h56 : (xTe (μ.1 57 2)) = false := nB_z.mp (cn_ne.mp h56)
                          refine z_rcs0 hc hH 3 (pc' := 92) (lv' := [(7, .int (nB e16)), (6, .int (μ.1 57 2)), (5, .int 2), (4, .int (nB (((xHo (μ.1 50 21)) || (xHo (μ.1 57 0))) || (xHo (μ.1 57 1))))), (3, .int (nB (((xTe (μ.1 50 21)) && e4) && e11))), (2, .int (nB (((xEn (μ.1 50 21)) && e2) && e9))), (8, .int (nB e11)), (0, .ref 50), (1, .int ru)]) (st' := [.int 2, .ref 56]) (by rfl) ?_
                          refine zq_iald hc hH (by rfl) 4 (by decide +kernel) (show vp_in (nI 2) 4 from vp_in_nI (by decide) (by decide)) ?_
                          show Z 0 93 [(7, .int (nB e16)), (6, .int (μ.1 57 2)), (5, .int 2), (4, .int (nB (((xHo (μ.1 50 21)) || (xHo (μ.1 57 0))) || (xHo (μ.1 57 1))))), (3, .int (nB (((xTe (μ.1 50 21)) && e4) && e11))), (2, .int (nB (((xEn (μ.1 50 21)) && e2) && e9))), (8, .int (nB e11)), (0, .ref 50), (1, .int ru)] [.int (μ.1 56 2)] _
                          refine zq_if hc hH (by rfl) (tg := 110) (by rfl) (fun h57 => ?_) (fun h57 => ?_)
                          · have h57 : (decide ((μ.1 56 2) = 0)) = false := decide_eq_false (cm_ne.mp h57)
                            refine z_rcs0 hc hH 1 (pc' := 111) (lv' := [(7, .int (nB e16)), (6, .int (μ.1 57 2)), (5, .int 2), (4, .int (nB (((xHo (μ.1 50 21)) || (xHo (μ.1 57 0))) || (xHo (μ.1 57 1))))), (3, .int (nB (((xTe (μ.1 50 21)) && e4) && e11))), (2, .int (nB (((xEn (μ.1 50 21)) && e2) && e9))), (8, .int (nB e11)), (0, .ref 50), (1, .int ru)]) (st' := [.int 0]) (by rfl) ?_
                            exact zJ hJ17 rfl (by simp only [h56, h57, lb_f, Int64.or_zero, nB_t, nB_f, Bool.not_true, Bool.not_false, Bool.and_true, Bool.true_and, Bool.false_and, Bool.and_false, Bool.or_true, Bool.true_or, Bool.false_or, Bool.or_false, cond_true, cond_false]) rfl
                          · have h57 : (decide ((μ.1 56 2) = 0)) = true := decide_eq_true (cn_ne.mp h57)
                            refine z_rcs0 hc hH 3 (pc' := 100) (lv' := [(7, .int (nB e16)), (6, .int (μ.1 57 2)), (5, .int 2), (4, .int (nB (((xHo (μ.1 50 21)) || (xHo (μ.1 57 0))) || (xHo (μ.1 57 1))))), (3, .int (nB (((xTe (μ.1 50 21)) && e4) && e11))), (2, .int (nB (((xEn (μ.1 50 21)) && e2) && e9))), (8, .int (nB e11)), (0, .ref 50), (1, .int ru)]) (st' := [.int ((μ.1 57 2) + 2)]) (by rfl) ?_
                            refine zq_call hc (z_cx_ok hH (by rfl)) (fb_X7_isTerminal d' (by omega) (mGP μ (μ.2.1 50 24) (μ.2.1 50 25) (μ.1 50 23)) ((μ.1 57 2) + 2)) (by decide +kernel) (fun r9 μ9 hq => ?_)
                            obtain ⟨hμ9, rfl⟩ := hq
                            rw [hμ9]
                            clear hμ9 μ9
                            show Z 0 103 [(7, .int (nB e16)), (6, .int (μ.1 57 2)), (5, .int 2), (4, .int (nB (((xHo (μ.1 50 21)) || (xHo (μ.1 57 0))) || (xHo (μ.1 57 1))))), (3, .int (nB (((xTe (μ.1 50 21)) && e4) && e11))), (2, .int (nB (((xEn (μ.1 50 21)) && e2) && e9))), (8, .int (nB e11)), (0, .ref 50), (1, .int ru)] [.int (nB (xTe ((μ.1 57 2) + 2)))] _
                            refine zq_if hc hH (by rfl) (tg := 110) (by rfl) (fun h58 => ?_) (fun h58 => ?_)
                            · have h58 : (xTe ((μ.1 57 2) + 2)) = false := nB_z.mp (cm_eq9.mp h58)
                              refine z_rcs0 hc hH 1 (pc' := 111) (lv' := [(7, .int (nB e16)), (6, .int (μ.1 57 2)), (5, .int 2), (4, .int (nB (((xHo (μ.1 50 21)) || (xHo (μ.1 57 0))) || (xHo (μ.1 57 1))))), (3, .int (nB (((xTe (μ.1 50 21)) && e4) && e11))), (2, .int (nB (((xEn (μ.1 50 21)) && e2) && e9))), (8, .int (nB e11)), (0, .ref 50), (1, .int ru)]) (st' := [.int 0]) (by rfl) ?_
                              exact zJ hJ17 rfl (by simp only [h56, h57, h58, lb_f, Int64.or_zero, nB_t, nB_f, Bool.not_true, Bool.not_false, Bool.and_true, Bool.true_and, Bool.false_and, Bool.and_false, Bool.or_true, Bool.true_or, Bool.false_or, Bool.or_false, cond_true, cond_false]) rfl
                            · have h58 : (xTe ((μ.1 57 2) + 2)) = true := nB_n.mp (cn_eq.mp h58)
                              refine z_rcs0 hc hH 2 (pc' := 111) (lv' := [(7, .int (nB e16)), (6, .int (μ.1 57 2)), (5, .int 2), (4, .int (nB (((xHo (μ.1 50 21)) || (xHo (μ.1 57 0))) || (xHo (μ.1 57 1))))), (3, .int (nB (((xTe (μ.1 50 21)) && e4) && e11))), (2, .int (nB (((xEn (μ.1 50 21)) && e2) && e9))), (8, .int (nB e11)), (0, .ref 50), (1, .int ru)]) (st' := [.int 1]) (by rfl) ?_
                              exact zJ hJ17 rfl (by simp only [h56, h57, h58, lb_f, Int64.or_zero, nB_t, nB_f, Bool.not_true, Bool.not_false, Bool.and_true, Bool.true_and, Bool.false_and, Bool.and_false, Bool.or_true, Bool.true_or, Bool.false_or, Bool.or_false, cond_true, cond_false]) rfl
                      refine zq_if hc hH (by rfl) (tg := 71) (by rfl) (fun h59 => ?_) (fun h59 => ?_)
                      · have h59 : (xEn (μ.1 57 2)) = true := nB_n.mp (cm_ne.mp h59)
                        refine z_rcs0 hc hH 2 (pc' := 76) (lv' := [(6, .int (μ.1 57 2)), (5, .int 2), (4, .int (nB (((xHo (μ.1 50 21)) || (xHo (μ.1 57 0))) || (xHo (μ.1 57 1))))), (3, .int (nB (((xTe (μ.1 50 21)) && e4) && e11))), (2, .int (nB (((xEn (μ.1 50 21)) && e2) && e9))), (8, .int (nB e11)), (7, .int (nB e9)), (0, .ref 50), (1, .int ru)]) (st' := [.int 1]) (by rfl) ?_
                        exact zJ hJ15 rfl (by simp only [h59, lb_f, Int64.or_zero, nB_t, nB_f, Bool.not_true, Bool.not_false, Bool.and_true, Bool.true_and, Bool.false_and, Bool.and_false, Bool.or_true, Bool.true_or, Bool.false_or, Bool.or_false, cond_true, cond_false]) rfl
                      · have h59 : (xEn (μ.1 57 2)) = false := nB_z.mp (cn_ne.mp h59)
                        refine z_rcs0 hc hH 3 (pc' := 57) (lv' := [(6, .int (μ.1 57 2)), (5, .int 2), (4, .int (nB (((xHo (μ.1 50 21)) || (xHo (μ.1 57 0))) || (xHo (μ.1 57 1))))), (3, .int (nB (((xTe (μ.1 50 21)) && e4) && e11))), (2, .int (nB (((xEn (μ.1 50 21)) && e2) && e9))), (8, .int (nB e11)), (7, .int (nB e9)), (0, .ref 50), (1, .int ru)]) (st' := [.int 2, .ref 56]) (by rfl) ?_
                        refine zq_iald hc hH (by rfl) 4 (by decide +kernel) (show vp_in (nI 2) 4 from vp_in_nI (by decide) (by decide)) ?_
                        show Z 0 58 [(6, .int (μ.1 57 2)), (5, .int 2), (4, .int (nB (((xHo (μ.1 50 21)) || (xHo (μ.1 57 0))) || (xHo (μ.1 57 1))))), (3, .int (nB (((xTe (μ.1 50 21)) && e4) && e11))), (2, .int (nB (((xEn (μ.1 50 21)) && e2) && e9))), (8, .int (nB e11)), (7, .int (nB e9)), (0, .ref 50), (1, .int ru)] [.int (μ.1 56 2)] _
                        refine zq_if hc hH (by rfl) (tg := 75) (by rfl) (fun h60 => ?_) (fun h60 => ?_)
                        · have h60 : (decide ((μ.1 56 2) = 0)) = false := decide_eq_false (cm_ne.mp h60)
                          refine z_rcs0 hc hH 1 (pc' := 76) (lv' := [(6, .int (μ.1 57 2)), (5, .int 2), (4, .int (nB (((xHo (μ.1 50 21)) || (xHo (μ.1 57 0))) || (xHo (μ.1 57 1))))), (3, .int (nB (((xTe (μ.1 50 21)) && e4) && e11))), (2, .int (nB (((xEn (μ.1 50 21)) && e2) && e9))), (8, .int (nB e11)), (7, .int (nB e9)), (0, .ref 50), (1, .int ru)]) (st' := [.int 0]) (by rfl) ?_
                          exact zJ hJ15 rfl (by simp only [h59, h60, lb_f, Int64.or_zero, nB_t, nB_f, Bool.not_true, Bool.not_false, Bool.and_true, Bool.true_and, Bool.false_and, Bool.and_false, Bool.or_true, Bool.true_or, Bool.false_or, Bool.or_false, cond_true, cond_false]) rfl
                        · have h60 : (decide ((μ.1 56 2) = 0)) = true := decide_eq_true (cn_ne.mp h60)
                          refine z_rcs0 hc hH 3 (pc' := 65) (lv' := [(6, .int (μ.1 57 2)), (5, .int 2), (4, .int (nB (((xHo (μ.1 50 21)) || (xHo (μ.1 57 0))) || (xHo (μ.1 57 1))))), (3, .int (nB (((xTe (μ.1 50 21)) && e4) && e11))), (2, .int (nB (((xEn (μ.1 50 21)) && e2) && e9))), (8, .int (nB e11)), (7, .int (nB e9)), (0, .ref 50), (1, .int ru)]) (st' := [.int ((μ.1 57 2) + 2)]) (by rfl) ?_
                          refine zq_call hc (z_cx_ok hH (by rfl)) (fb_X7_isEnd d' (by omega) (mGP μ (μ.2.1 50 24) (μ.2.1 50 25) (μ.1 50 23)) ((μ.1 57 2) + 2)) (by decide +kernel) (fun r9 μ9 hq => ?_)
                          obtain ⟨hμ9, rfl⟩ := hq
                          rw [hμ9]
                          clear hμ9 μ9
                          show Z 0 68 [(6, .int (μ.1 57 2)), (5, .int 2), (4, .int (nB (((xHo (μ.1 50 21)) || (xHo (μ.1 57 0))) || (xHo (μ.1 57 1))))), (3, .int (nB (((xTe (μ.1 50 21)) && e4) && e11))), (2, .int (nB (((xEn (μ.1 50 21)) && e2) && e9))), (8, .int (nB e11)), (7, .int (nB e9)), (0, .ref 50), (1, .int ru)] [.int (nB (xEn ((μ.1 57 2) + 2)))] _
                          refine zq_if hc hH (by rfl) (tg := 75) (by rfl) (fun h61 => ?_) (fun h61 => ?_)
                          · have h61 : (xEn ((μ.1 57 2) + 2)) = false := nB_z.mp (cm_eq9.mp h61)
                            refine z_rcs0 hc hH 1 (pc' := 76) (lv' := [(6, .int (μ.1 57 2)), (5, .int 2), (4, .int (nB (((xHo (μ.1 50 21)) || (xHo (μ.1 57 0))) || (xHo (μ.1 57 1))))), (3, .int (nB (((xTe (μ.1 50 21)) && e4) && e11))), (2, .int (nB (((xEn (μ.1 50 21)) && e2) && e9))), (8, .int (nB e11)), (7, .int (nB e9)), (0, .ref 50), (1, .int ru)]) (st' := [.int 0]) (by rfl) ?_
                            exact zJ hJ15 rfl (by simp only [h59, h60, h61, lb_f, Int64.or_zero, nB_t, nB_f, Bool.not_true, Bool.not_false, Bool.and_true, Bool.true_and, Bool.false_and, Bool.and_false, Bool.or_true, Bool.true_or, Bool.false_or, Bool.or_false, cond_true, cond_false]) rfl
                          · have h61 : (xEn ((μ.1 57 2) + 2)) = true := nB_n.mp (cn_eq.mp h61)
                            refine z_rcs0 hc hH 2 (pc' := 76) (lv' := [(6, .int (μ.1 57 2)), (5, .int 2), (4, .int (nB (((xHo (μ.1 50 21)) || (xHo (μ.1 57 0))) || (xHo (μ.1 57 1))))), (3, .int (nB (((xTe (μ.1 50 21)) && e4) && e11))), (2, .int (nB (((xEn (μ.1 50 21)) && e2) && e9))), (8, .int (nB e11)), (7, .int (nB e9)), (0, .ref 50), (1, .int ru)]) (st' := [.int 1]) (by rfl) ?_
                            exact zJ hJ15 rfl (by simp only [h59, h60, h61, lb_f, Int64.or_zero, nB_t, nB_f, Bool.not_true, Bool.not_false, Bool.and_true, Bool.true_and, Bool.false_and, Bool.and_false, Bool.or_true, Bool.true_or, Bool.false_or, Bool.or_false, cond_true, cond_false]) rfl
                    refine zq_if hc hH (by rfl) (tg := 156) (by rfl) (fun h62 => ?_) (fun h62 => ?_)
                    · have h62 : ((xHo (μ.1 50 21)) || (xHo (μ.1 57 0))) = true := nB_n.mp (cm_ne.mp h62)
                      refine z_rcs0 hc hH 2 (pc' := 161) (lv' := [(3, .int (nB (((xTe (μ.1 50 21)) && e4) && e11))), (2, .int (nB (((xEn (μ.1 50 21)) && e2) && e9))), (8, .int (nB e11)), (7, .int (nB e9)), (6, .int (μ.1 57 1)), (5, .int 1), (4, .int (nB ((xHo (μ.1 50 21)) || (xHo (μ.1 57 0))))), (0, .ref 50), (1, .int ru)]) (st' := [.int 1]) (by rfl) ?_
                      exact zJ hJ14 rfl (by simp only [h62, lb_f, Int64.or_zero, nB_t, nB_f, Bool.not_true, Bool.not_false, Bool.and_true, Bool.true_and, Bool.false_and, Bool.and_false, Bool.or_true, Bool.true_or, Bool.false_or, Bool.or_false, cond_true, cond_false]) rfl
                    · have h62 : ((xHo (μ.1 50 21)) || (xHo (μ.1 57 0))) = false := nB_z.mp (cn_ne.mp h62)
                      refine z_rcs0 hc hH 1 (pc' := 150) (lv' := [(3, .int (nB (((xTe (μ.1 50 21)) && e4) && e11))), (2, .int (nB (((xEn (μ.1 50 21)) && e2) && e9))), (8, .int (nB e11)), (7, .int (nB e9)), (6, .int (μ.1 57 1)), (5, .int 1), (4, .int (nB ((xHo (μ.1 50 21)) || (xHo (μ.1 57 0))))), (0, .ref 50), (1, .int ru)]) (st' := [.int (μ.1 57 1)]) (by rfl) ?_
                      refine zq_call hc (z_cx_ok hH (by rfl)) (fb_X7_isHonour d' (by omega) (mGP μ (μ.2.1 50 24) (μ.2.1 50 25) (μ.1 50 23)) (μ.1 57 1)) (by decide +kernel) (fun r9 μ9 hq => ?_)
                      obtain ⟨hμ9, rfl⟩ := hq
                      rw [hμ9]
                      clear hμ9 μ9
                      show Z 0 153 [(3, .int (nB (((xTe (μ.1 50 21)) && e4) && e11))), (2, .int (nB (((xEn (μ.1 50 21)) && e2) && e9))), (8, .int (nB e11)), (7, .int (nB e9)), (6, .int (μ.1 57 1)), (5, .int 1), (4, .int (nB ((xHo (μ.1 50 21)) || (xHo (μ.1 57 0))))), (0, .ref 50), (1, .int ru)] [.int (nB (xHo (μ.1 57 1)))] _
                      refine zq_if hc hH (by rfl) (tg := 160) (by rfl) (fun h63 => ?_) (fun h63 => ?_)
                      · have h63 : (xHo (μ.1 57 1)) = false := nB_z.mp (cm_eq9.mp h63)
                        refine z_rcs0 hc hH 1 (pc' := 161) (lv' := [(3, .int (nB (((xTe (μ.1 50 21)) && e4) && e11))), (2, .int (nB (((xEn (μ.1 50 21)) && e2) && e9))), (8, .int (nB e11)), (7, .int (nB e9)), (6, .int (μ.1 57 1)), (5, .int 1), (4, .int (nB ((xHo (μ.1 50 21)) || (xHo (μ.1 57 0))))), (0, .ref 50), (1, .int ru)]) (st' := [.int 0]) (by rfl) ?_
                        exact zJ hJ14 rfl (by simp only [h62, h63, lb_f, Int64.or_zero, nB_t, nB_f, Bool.not_true, Bool.not_false, Bool.and_true, Bool.true_and, Bool.false_and, Bool.and_false, Bool.or_true, Bool.true_or, Bool.false_or, Bool.or_false, cond_true, cond_false]) rfl
                      · have h63 : (xHo (μ.1 57 1)) = true := nB_n.mp (cn_eq.mp h63)
                        refine z_rcs0 hc hH 2 (pc' := 161) (lv' := [(3, .int (nB (((xTe (μ.1 50 21)) && e4) && e11))), (2, .int (nB (((xEn (μ.1 50 21)) && e2) && e9))), (8, .int (nB e11)), (7, .int (nB e9)), (6, .int (μ.1 57 1)), (5, .int 1), (4, .int (nB ((xHo (μ.1 50 21)) || (xHo (μ.1 57 0))))), (0, .ref 50), (1, .int ru)]) (st' := [.int 1]) (by rfl) ?_
                        exact zJ hJ14 rfl (by simp only [h62, h63, lb_f, Int64.or_zero, nB_t, nB_f, Bool.not_true, Bool.not_false, Bool.and_true, Bool.true_and, Bool.false_and, Bool.and_false, Bool.or_true, Bool.true_or, Bool.false_or, Bool.or_false, cond_true, cond_false]) rfl
                  refine zq_if hc hH (by rfl) (tg := 141) (by rfl) (fun h64 => ?_) (fun h64 => ?_)
                  · have h64 : ((xTe (μ.1 50 21)) && e4) = false := nB_z.mp (cm_eq9.mp h64)
                    refine z_rcs0 hc hH 1 (pc' := 142) (lv' := [(2, .int (nB (((xEn (μ.1 50 21)) && e2) && e9))), (8, .int (nB e11)), (7, .int (nB e9)), (6, .int (μ.1 57 1)), (5, .int 1), (4, .int (nB ((xHo (μ.1 50 21)) || (xHo (μ.1 57 0))))), (3, .int (nB ((xTe (μ.1 50 21)) && e4))), (0, .ref 50), (1, .int ru)]) (st' := [.int 0]) (by rfl) ?_
                    exact zJ hJ13 rfl (by simp only [h64, lb_f, Int64.or_zero, nB_t, nB_f, Bool.not_true, Bool.not_false, Bool.and_true, Bool.true_and, Bool.false_and, Bool.and_false, Bool.or_true, Bool.true_or, Bool.false_or, Bool.or_false, cond_true, cond_false]) rfl
                  · have h64 : ((xTe (μ.1 50 21)) && e4) = true := nB_n.mp (cn_eq.mp h64)
                    refine z_rcs0 hc hH 1 (pc' := 134) (lv' := [(2, .int (nB (((xEn (μ.1 50 21)) && e2) && e9))), (8, .int (nB e11)), (7, .int (nB e9)), (6, .int (μ.1 57 1)), (5, .int 1), (4, .int (nB ((xHo (μ.1 50 21)) || (xHo (μ.1 57 0))))), (3, .int (nB ((xTe (μ.1 50 21)) && e4))), (0, .ref 50), (1, .int ru)]) (st' := [.int (nB e11)]) (by rfl) ?_
                    refine zq_if hc hH (by rfl) (tg := 141) (by rfl) (fun h65 => ?_) (fun h65 => ?_)
                    · have h65 : (e11) = false := nB_z.mp (cm_eq9.mp h65)
                      refine z_rcs0 hc hH 1 (pc' := 142) (lv' := [(2, .int (nB (((xEn (μ.1 50 21)) && e2) && e9))), (8, .int (nB e11)), (7, .int (nB e9)), (6, .int (μ.1 57 1)), (5, .int 1), (4, .int (nB ((xHo (μ.1 50 21)) || (xHo (μ.1 57 0))))), (3, .int (nB ((xTe (μ.1 50 21)) && e4))), (0, .ref 50), (1, .int ru)]) (st' := [.int 0]) (by rfl) ?_
                      exact zJ hJ13 rfl (by simp only [h64, h65, lb_f, Int64.or_zero, nB_t, nB_f, Bool.not_true, Bool.not_false, Bool.and_true, Bool.true_and, Bool.false_and, Bool.and_false, Bool.or_true, Bool.true_or, Bool.false_or, Bool.or_false, cond_true, cond_false]) rfl
                    · have h65 : (e11) = true := nB_n.mp (cn_eq.mp h65)
                      refine z_rcs0 hc hH 2 (pc' := 142) (lv' := [(2, .int (nB (((xEn (μ.1 50 21)) && e2) && e9))), (8, .int (nB e11)), (7, .int (nB e9)), (6, .int (μ.1 57 1)), (5, .int 1), (4, .int (nB ((xHo (μ.1 50 21)) || (xHo (μ.1 57 0))))), (3, .int (nB ((xTe (μ.1 50 21)) && e4))), (0, .ref 50), (1, .int ru)]) (st' := [.int 1]) (by rfl) ?_
                      exact zJ hJ13 rfl (by simp only [h64, h65, lb_f, Int64.or_zero, nB_t, nB_f, Bool.not_true, Bool.not_false, Bool.and_true, Bool.true_and, Bool.false_and, Bool.and_false, Bool.or_true, Bool.true_or, Bool.false_or, Bool.or_false, cond_true, cond_false]) rfl
                refine zq_if hc hH (by rfl) (tg := 126) (by rfl) (fun h66 => ?_) (fun h66 => ?_)
                · have h66 : ((xEn (μ.1 50 21)) && e2) = false := nB_z.mp (cm_eq9.mp h66)
                  refine z_rcs0 hc hH 1 (pc' := 127) (lv' := [(8, .int (nB e11)), (7, .int (nB e9)), (6, .int (μ.1 57 1)), (5, .int 1), (4, .int (nB ((xHo (μ.1 50 21)) || (xHo (μ.1 57 0))))), (3, .int (nB ((xTe (μ.1 50 21)) && e4))), (2, .int (nB ((xEn (μ.1 50 21)) && e2))), (0, .ref 50), (1, .int ru)]) (st' := [.int 0]) (by rfl) ?_
                  exact zJ hJ12 rfl (by simp only [h66, lb_f, Int64.or_zero, nB_t, nB_f, Bool.not_true, Bool.not_false, Bool.and_true, Bool.true_and, Bool.false_and, Bool.and_false, Bool.or_true, Bool.true_or, Bool.false_or, Bool.or_false, cond_true, cond_false]) rfl
                · have h66 : ((xEn (μ.1 50 21)) && e2) = true := nB_n.mp (cn_eq.mp h66)
                  refine z_rcs0 hc hH 1 (pc' := 119) (lv' := [(8, .int (nB e11)), (7, .int (nB e9)), (6, .int (μ.1 57 1)), (5, .int 1), (4, .int (nB ((xHo (μ.1 50 21)) || (xHo (μ.1 57 0))))), (3, .int (nB ((xTe (μ.1 50 21)) && e4))), (2, .int (nB ((xEn (μ.1 50 21)) && e2))), (0, .ref 50), (1, .int ru)]) (st' := [.int (nB e9)]) (by rfl) ?_
                  refine zq_if hc hH (by rfl) (tg := 126) (by rfl) (fun h67 => ?_) (fun h67 => ?_)
                  · have h67 : (e9) = false := nB_z.mp (cm_eq9.mp h67)
                    refine z_rcs0 hc hH 1 (pc' := 127) (lv' := [(8, .int (nB e11)), (7, .int (nB e9)), (6, .int (μ.1 57 1)), (5, .int 1), (4, .int (nB ((xHo (μ.1 50 21)) || (xHo (μ.1 57 0))))), (3, .int (nB ((xTe (μ.1 50 21)) && e4))), (2, .int (nB ((xEn (μ.1 50 21)) && e2))), (0, .ref 50), (1, .int ru)]) (st' := [.int 0]) (by rfl) ?_
                    exact zJ hJ12 rfl (by simp only [h66, h67, lb_f, Int64.or_zero, nB_t, nB_f, Bool.not_true, Bool.not_false, Bool.and_true, Bool.true_and, Bool.false_and, Bool.and_false, Bool.or_true, Bool.true_or, Bool.false_or, Bool.or_false, cond_true, cond_false]) rfl
                  · have h67 : (e9) = true := nB_n.mp (cn_eq.mp h67)
                    refine z_rcs0 hc hH 2 (pc' := 127) (lv' := [(8, .int (nB e11)), (7, .int (nB e9)), (6, .int (μ.1 57 1)), (5, .int 1), (4, .int (nB ((xHo (μ.1 50 21)) || (xHo (μ.1 57 0))))), (3, .int (nB ((xTe (μ.1 50 21)) && e4))), (2, .int (nB ((xEn (μ.1 50 21)) && e2))), (0, .ref 50), (1, .int ru)]) (st' := [.int 1]) (by rfl) ?_
                    exact zJ hJ12 rfl (by simp only [h66, h67, lb_f, Int64.or_zero, nB_t, nB_f, Bool.not_true, Bool.not_false, Bool.and_true, Bool.true_and, Bool.false_and, Bool.and_false, Bool.or_true, Bool.true_or, Bool.false_or, Bool.or_false, cond_true, cond_false]) rfl
              refine zq_if hc hH (by rfl) (tg := 106) (by rfl) (fun h68 => ?_) (fun h68 => ?_)
              · have h68 : (xTe (μ.1 57 1)) = true := nB_n.mp (cm_ne.mp h68)
                refine z_rcs0 hc hH 2 (pc' := 111) (lv' := [(7, .int (nB e9)), (6, .int (μ.1 57 1)), (5, .int 1), (4, .int (nB ((xHo (μ.1 50 21)) || (xHo (μ.1 57 0))))), (3, .int (nB ((xTe (μ.1 50 21)) && e4))), (2, .int (nB ((xEn (μ.1 50 21)) && e2))), (8, .int (nB e4)), (0, .ref 50), (1, .int ru)]) (st' := [.int 1]) (by rfl) ?_
                exact zJ hJ10 rfl (by simp only [h68, lb_f, Int64.or_zero, nB_t, nB_f, Bool.not_true, Bool.not_false, Bool.and_true, Bool.true_and, Bool.false_and, Bool.and_false, Bool.or_true, Bool.true_or, Bool.false_or, Bool.or_false, cond_true, cond_false]) rfl
              · have h68 : (xTe (μ.1 57 1)) = false := nB_z.mp (cn_ne.mp h68)
                refine z_rcs0 hc hH 3 (pc' := 92) (lv' := [(7, .int (nB e9)), (6, .int (μ.1 57 1)), (5, .int 1), (4, .int (nB ((xHo (μ.1 50 21)) || (xHo (μ.1 57 0))))), (3, .int (nB ((xTe (μ.1 50 21)) && e4))), (2, .int (nB ((xEn (μ.1 50 21)) && e2))), (8, .int (nB e4)), (0, .ref 50), (1, .int ru)]) (st' := [.int 1, .ref 56]) (by rfl) ?_
                refine zq_iald hc hH (by rfl) 4 (by decide +kernel) (show vp_in (nI 1) 4 from vp_in_nI (by decide) (by decide)) ?_
                show Z 0 93 [(7, .int (nB e9)), (6, .int (μ.1 57 1)), (5, .int 1), (4, .int (nB ((xHo (μ.1 50 21)) || (xHo (μ.1 57 0))))), (3, .int (nB ((xTe (μ.1 50 21)) && e4))), (2, .int (nB ((xEn (μ.1 50 21)) && e2))), (8, .int (nB e4)), (0, .ref 50), (1, .int ru)] [.int (μ.1 56 1)] _
                refine zq_if hc hH (by rfl) (tg := 110) (by rfl) (fun h69 => ?_) (fun h69 => ?_)
                · have h69 : (decide ((μ.1 56 1) = 0)) = false := decide_eq_false (cm_ne.mp h69)
                  refine z_rcs0 hc hH 1 (pc' := 111) (lv' := [(7, .int (nB e9)), (6, .int (μ.1 57 1)), (5, .int 1), (4, .int (nB ((xHo (μ.1 50 21)) || (xHo (μ.1 57 0))))), (3, .int (nB ((xTe (μ.1 50 21)) && e4))), (2, .int (nB ((xEn (μ.1 50 21)) && e2))), (8, .int (nB e4)), (0, .ref 50), (1, .int ru)]) (st' := [.int 0]) (by rfl) ?_
                  exact zJ hJ10 rfl (by simp only [h68, h69, lb_f, Int64.or_zero, nB_t, nB_f, Bool.not_true, Bool.not_false, Bool.and_true, Bool.true_and, Bool.false_and, Bool.and_false, Bool.or_true, Bool.true_or, Bool.false_or, Bool.or_false, cond_true, cond_false]) rfl
                · have h69 : (decide ((μ.1 56 1) = 0)) = true := decide_eq_true (cn_ne.mp h69)
                  refine z_rcs0 hc hH 3 (pc' := 100) (lv' := [(7, .int (nB e9)), (6, .int (μ.1 57 1)), (5, .int 1), (4, .int (nB ((xHo (μ.1 50 21)) || (xHo (μ.1 57 0))))), (3, .int (nB ((xTe (μ.1 50 21)) && e4))), (2, .int (nB ((xEn (μ.1 50 21)) && e2))), (8, .int (nB e4)), (0, .ref 50), (1, .int ru)]) (st' := [.int ((μ.1 57 1) + 2)]) (by rfl) ?_
                  refine zq_call hc (z_cx_ok hH (by rfl)) (fb_X7_isTerminal d' (by omega) (mGP μ (μ.2.1 50 24) (μ.2.1 50 25) (μ.1 50 23)) ((μ.1 57 1) + 2)) (by decide +kernel) (fun r9 μ9 hq => ?_)
                  obtain ⟨hμ9, rfl⟩ := hq
                  rw [hμ9]
                  clear hμ9 μ9
                  show Z 0 103 [(7, .int (nB e9)), (6, .int (μ.1 57 1)), (5, .int 1), (4, .int (nB ((xHo (μ.1 50 21)) || (xHo (μ.1 57 0))))), (3, .int (nB ((xTe (μ.1 50 21)) && e4))), (2, .int (nB ((xEn (μ.1 50 21)) && e2))), (8, .int (nB e4)), (0, .ref 50), (1, .int ru)] [.int (nB (xTe ((μ.1 57 1) + 2)))] _
                  refine zq_if hc hH (by rfl) (tg := 110) (by rfl) (fun h70 => ?_) (fun h70 => ?_)
                  · have h70 : (xTe ((μ.1 57 1) + 2)) = false := nB_z.mp (cm_eq9.mp h70)
                    refine z_rcs0 hc hH 1 (pc' := 111) (lv' := [(7, .int (nB e9)), (6, .int (μ.1 57 1)), (5, .int 1), (4, .int (nB ((xHo (μ.1 50 21)) || (xHo (μ.1 57 0))))), (3, .int (nB ((xTe (μ.1 50 21)) && e4))), (2, .int (nB ((xEn (μ.1 50 21)) && e2))), (8, .int (nB e4)), (0, .ref 50), (1, .int ru)]) (st' := [.int 0]) (by rfl) ?_
                    exact zJ hJ10 rfl (by simp only [h68, h69, h70, lb_f, Int64.or_zero, nB_t, nB_f, Bool.not_true, Bool.not_false, Bool.and_true, Bool.true_and, Bool.false_and, Bool.and_false, Bool.or_true, Bool.true_or, Bool.false_or, Bool.or_false, cond_true, cond_false]) rfl
                  · have h70 : (xTe ((μ.1 57 1) + 2)) = true := nB_n.mp (cn_eq.mp h70)
                    refine z_rcs0 hc hH 2 (pc' := 111) (lv' := [(7, .int (nB e9)), (6, .int (μ.1 57 1)), (5, .int 1), (4, .int (nB ((xHo (μ.1 50 21)) || (xHo (μ.1 57 0))))), (3, .int (nB ((xTe (μ.1 50 21)) && e4))), (2, .int (nB ((xEn (μ.1 50 21)) && e2))), (8, .int (nB e4)), (0, .ref 50), (1, .int ru)]) (st' := [.int 1]) (by rfl) ?_
                    exact zJ hJ10 rfl (by simp only [h68, h69, h70, lb_f, Int64.or_zero, nB_t, nB_f, Bool.not_true, Bool.not_false, Bool.and_true, Bool.true_and, Bool.false_and, Bool.and_false, Bool.or_true, Bool.true_or, Bool.false_or, Bool.or_false, cond_true, cond_false]) rfl
            refine zq_if hc hH (by rfl) (tg := 71) (by rfl) (fun h71 => ?_) (fun h71 => ?_)
            · have h71 : (xEn (μ.1 57 1)) = true := nB_n.mp (cm_ne.mp h71)
              refine z_rcs0 hc hH 2 (pc' := 76) (lv' := [(6, .int (μ.1 57 1)), (5, .int 1), (4, .int (nB ((xHo (μ.1 50 21)) || (xHo (μ.1 57 0))))), (3, .int (nB ((xTe (μ.1 50 21)) && e4))), (2, .int (nB ((xEn (μ.1 50 21)) && e2))), (8, .int (nB e4)), (7, .int (nB e2)), (0, .ref 50), (1, .int ru)]) (st' := [.int 1]) (by rfl) ?_
              exact zJ hJ8 rfl (by simp only [h71, lb_f, Int64.or_zero, nB_t, nB_f, Bool.not_true, Bool.not_false, Bool.and_true, Bool.true_and, Bool.false_and, Bool.and_false, Bool.or_true, Bool.true_or, Bool.false_or, Bool.or_false, cond_true, cond_false]) rfl
            · have h71 : (xEn (μ.1 57 1)) = false := nB_z.mp (cn_ne.mp h71)
              refine z_rcs0 hc hH 3 (pc' := 57) (lv' := [(6, .int (μ.1 57 1)), (5, .int 1), (4, .int (nB ((xHo (μ.1 50 21)) || (xHo (μ.1 57 0))))), (3, .int (nB ((xTe (μ.1 50 21)) && e4))), (2, .int (nB ((xEn (μ.1 50 21)) && e2))), (8, .int (nB e4)), (7, .int (nB e2)), (0, .ref 50), (1, .int ru)]) (st' := [.int 1, .ref 56]) (by rfl) ?_
              refine zq_iald hc hH (by rfl) 4 (by decide +kernel) (show vp_in (nI 1) 4 from vp_in_nI (by decide) (by decide)) ?_
              show Z 0 58 [(6, .int (μ.1 57 1)), (5, .int 1), (4, .int (nB ((xHo (μ.1 50 21)) || (xHo (μ.1 57 0))))), (3, .int (nB ((xTe (μ.1 50 21)) && e4))), (2, .int (nB ((xEn (μ.1 50 21)) && e2))), (8, .int (nB e4)), (7, .int (nB e2)), (0, .ref 50), (1, .int ru)] [.int (μ.1 56 1)] _
              refine zq_if hc hH (by rfl) (tg := 75) (by rfl) (fun h72 => ?_) (fun h72 => ?_)
              · have h72 : (decide ((μ.1 56 1) = 0)) = false := decide_eq_false (cm_ne.mp h72)
                refine z_rcs0 hc hH 1 (pc' := 76) (lv' := [(6, .int (μ.1 57 1)), (5, .int 1), (4, .int (nB ((xHo (μ.1 50 21)) || (xHo (μ.1 57 0))))), (3, .int (nB ((xTe (μ.1 50 21)) && e4))), (2, .int (nB ((xEn (μ.1 50 21)) && e2))), (8, .int (nB e4)), (7, .int (nB e2)), (0, .ref 50), (1, .int ru)]) (st' := [.int 0]) (by rfl) ?_
                exact zJ hJ8 rfl (by simp only [h71, h72, lb_f, Int64.or_zero, nB_t, nB_f, Bool.not_true, Bool.not_false, Bool.and_true, Bool.true_and, Bool.false_and, Bool.and_false, Bool.or_true, Bool.true_or, Bool.false_or, Bool.or_false, cond_true, cond_false]) rfl
              · have h72 : (decide ((μ.1 56 1) = 0)) = true := decide_eq_true (cn_ne.mp h72)
                refine z_rcs0 hc hH 3 (pc' := 65) (lv' := [(6, .int (μ.1 57 1)), (5, .int 1), (4, .int (nB ((xHo (μ.1 50 21)) || (xHo (μ.1 57 0))))), (3, .int (nB ((xTe (μ.1 50 21)) && e4))), (2, .int (nB ((xEn (μ.1 50 21)) && e2))), (8, .int (nB e4)), (7, .int (nB e2)), (0, .ref 50), (1, .int ru)]) (st' := [.int ((μ.1 57 1) + 2)]) (by rfl) ?_
                refine zq_call hc (z_cx_ok hH (by rfl)) (fb_X7_isEnd d' (by omega) (mGP μ (μ.2.1 50 24) (μ.2.1 50 25) (μ.1 50 23)) ((μ.1 57 1) + 2)) (by decide +kernel) (fun r9 μ9 hq => ?_)
                obtain ⟨hμ9, rfl⟩ := hq
                rw [hμ9]
                clear hμ9 μ9
                show Z 0 68 [(6, .int (μ.1 57 1)), (5, .int 1), (4, .int (nB ((xHo (μ.1 50 21)) || (xHo (μ.1 57 0))))), (3, .int (nB ((xTe (μ.1 50 21)) && e4))), (2, .int (nB ((xEn (μ.1 50 21)) && e2))), (8, .int (nB e4)), (7, .int (nB e2)), (0, .ref 50), (1, .int ru)] [.int (nB (xEn ((μ.1 57 1) + 2)))] _
                refine zq_if hc hH (by rfl) (tg := 75) (by rfl) (fun h73 => ?_) (fun h73 => ?_)
                · have h73 : (xEn ((μ.1 57 1) + 2)) = false := nB_z.mp (cm_eq9.mp h73)
                  refine z_rcs0 hc hH 1 (pc' := 76) (lv' := [(6, .int (μ.1 57 1)), (5, .int 1), (4, .int (nB ((xHo (μ.1 50 21)) || (xHo (μ.1 57 0))))), (3, .int (nB ((xTe (μ.1 50 21)) && e4))), (2, .int (nB ((xEn (μ.1 50 21)) && e2))), (8, .int (nB e4)), (7, .int (nB e2)), (0, .ref 50), (1, .int ru)]) (st' := [.int 0]) (by rfl) ?_
                  exact zJ hJ8 rfl (by simp only [h71, h72, h73, lb_f, Int64.or_zero, nB_t, nB_f, Bool.not_true, Bool.not_false, Bool.and_true, Bool.true_and, Bool.false_and, Bool.and_false, Bool.or_true, Bool.true_or, Bool.false_or, Bool.or_false, cond_true, cond_false]) rfl
                · have h73 : (xEn ((μ.1 57 1) + 2)) = true := nB_n.mp (cn_eq.mp h73)
                  refine z_rcs0 hc hH 2 (pc' := 76) (lv' := [(6, .int (μ.1 57 1)), (5, .int 1), (4, .int (nB ((xHo (μ.1 50 21)) || (xHo (μ.1 57 0))))), (3, .int (nB ((xTe (μ.1 50 21)) && e4))), (2, .int (nB ((xEn (μ.1 50 21)) && e2))), (8, .int (nB e4)), (7, .int (nB e2)), (0, .ref 50), (1, .int ru)]) (st' := [.int 1]) (by rfl) ?_
                  exact zJ hJ8 rfl (by simp only [h71, h72, h73, lb_f, Int64.or_zero, nB_t, nB_f, Bool.not_true, Bool.not_false, Bool.and_true, Bool.true_and, Bool.false_and, Bool.and_false, Bool.or_true, Bool.true_or, Bool.false_or, Bool.or_false, cond_true, cond_false]) rfl
          refine zq_if hc hH (by rfl) (tg := 156) (by rfl) (fun h74 => ?_) (fun h74 => ?_)
          · have h74 : (xHo (μ.1 50 21)) = true := nB_n.mp (cm_ne.mp h74)
            refine z_rcs0 hc hH 2 (pc' := 161) (lv' := [(3, .int (nB ((xTe (μ.1 50 21)) && e4))), (2, .int (nB ((xEn (μ.1 50 21)) && e2))), (8, .int (nB e4)), (7, .int (nB e2)), (6, .int (μ.1 57 0)), (5, .int 0), (4, .int (nB (xHo (μ.1 50 21)))), (0, .ref 50), (1, .int ru)]) (st' := [.int 1]) (by rfl) ?_
            exact zJ hJ7 rfl (by simp only [h74, lb_f, Int64.or_zero, nB_t, nB_f, Bool.not_true, Bool.not_false, Bool.and_true, Bool.true_and, Bool.false_and, Bool.and_false, Bool.or_true, Bool.true_or, Bool.false_or, Bool.or_false, cond_true, cond_false]) rfl
          · have h74 : (xHo (μ.1 50 21)) = false := nB_z.mp (cn_ne.mp h74)
            refine z_rcs0 hc hH 1 (pc' := 150) (lv' := [(3, .int (nB ((xTe (μ.1 50 21)) && e4))), (2, .int (nB ((xEn (μ.1 50 21)) && e2))), (8, .int (nB e4)), (7, .int (nB e2)), (6, .int (μ.1 57 0)), (5, .int 0), (4, .int (nB (xHo (μ.1 50 21)))), (0, .ref 50), (1, .int ru)]) (st' := [.int (μ.1 57 0)]) (by rfl) ?_
            refine zq_call hc (z_cx_ok hH (by rfl)) (fb_X7_isHonour d' (by omega) (mGP μ (μ.2.1 50 24) (μ.2.1 50 25) (μ.1 50 23)) (μ.1 57 0)) (by decide +kernel) (fun r9 μ9 hq => ?_)
            obtain ⟨hμ9, rfl⟩ := hq
            rw [hμ9]
            clear hμ9 μ9
            show Z 0 153 [(3, .int (nB ((xTe (μ.1 50 21)) && e4))), (2, .int (nB ((xEn (μ.1 50 21)) && e2))), (8, .int (nB e4)), (7, .int (nB e2)), (6, .int (μ.1 57 0)), (5, .int 0), (4, .int (nB (xHo (μ.1 50 21)))), (0, .ref 50), (1, .int ru)] [.int (nB (xHo (μ.1 57 0)))] _
            refine zq_if hc hH (by rfl) (tg := 160) (by rfl) (fun h75 => ?_) (fun h75 => ?_)
            · have h75 : (xHo (μ.1 57 0)) = false := nB_z.mp (cm_eq9.mp h75)
              refine z_rcs0 hc hH 1 (pc' := 161) (lv' := [(3, .int (nB ((xTe (μ.1 50 21)) && e4))), (2, .int (nB ((xEn (μ.1 50 21)) && e2))), (8, .int (nB e4)), (7, .int (nB e2)), (6, .int (μ.1 57 0)), (5, .int 0), (4, .int (nB (xHo (μ.1 50 21)))), (0, .ref 50), (1, .int ru)]) (st' := [.int 0]) (by rfl) ?_
              exact zJ hJ7 rfl (by simp only [h74, h75, lb_f, Int64.or_zero, nB_t, nB_f, Bool.not_true, Bool.not_false, Bool.and_true, Bool.true_and, Bool.false_and, Bool.and_false, Bool.or_true, Bool.true_or, Bool.false_or, Bool.or_false, cond_true, cond_false]) rfl
            · have h75 : (xHo (μ.1 57 0)) = true := nB_n.mp (cn_eq.mp h75)
              refine z_rcs0 hc hH 2 (pc' := 161) (lv' := [(3, .int (nB ((xTe (μ.1 50 21)) && e4))), (2, .int (nB ((xEn (μ.1 50 21)) && e2))), (8, .int (nB e4)), (7, .int (nB e2)), (6, .int (μ.1 57 0)), (5, .int 0), (4, .int (nB (xHo (μ.1 50 21)))), (0, .ref 50), (1, .int ru)]) (st' := [.int 1]) (by rfl) ?_
              exact zJ hJ7 rfl (by simp only [h74, h75, lb_f, Int64.or_zero, nB_t, nB_f, Bool.not_true, Bool.not_false, Bool.and_true, Bool.true_and, Bool.false_and, Bool.and_false, Bool.or_true, Bool.true_or, Bool.false_or, Bool.or_false, cond_true, cond_false]) rfl
        refine zq_if hc hH (by rfl) (tg := 141) (by rfl) (fun h76 => ?_) (fun h76 => ?_)
        · have h76 : (xTe (μ.1 50 21)) = false := nB_z.mp (cm_eq9.mp h76)
          refine z_rcs0 hc hH 1 (pc' := 142) (lv' := [(2, .int (nB ((xEn (μ.1 50 21)) && e2))), (8, .int (nB e4)), (7, .int (nB e2)), (6, .int (μ.1 57 0)), (5, .int 0), (4, .int (nB (xHo (μ.1 50 21)))), (3, .int (nB (xTe (μ.1 50 21)))), (0, .ref 50), (1, .int ru)]) (st' := [.int 0]) (by rfl) ?_
          exact zJ hJ6 rfl (by simp only [h76, lb_f, Int64.or_zero, nB_t, nB_f, Bool.not_true, Bool.not_false, Bool.and_true, Bool.true_and, Bool.false_and, Bool.and_false, Bool.or_true, Bool.true_or, Bool.false_or, Bool.or_false, cond_true, cond_false]) rfl
        · have h76 : (xTe (μ.1 50 21)) = true := nB_n.mp (cn_eq.mp h76)
          refine z_rcs0 hc hH 1 (pc' := 134) (lv' := [(2, .int (nB ((xEn (μ.1 50 21)) && e2))), (8, .int (nB e4)), (7, .int (nB e2)), (6, .int (μ.1 57 0)), (5, .int 0), (4, .int (nB (xHo (μ.1 50 21)))), (3, .int (nB (xTe (μ.1 50 21)))), (0, .ref 50), (1, .int ru)]) (st' := [.int (nB e4)]) (by rfl) ?_
          refine zq_if hc hH (by rfl) (tg := 141) (by rfl) (fun h77 => ?_) (fun h77 => ?_)
          · have h77 : (e4) = false := nB_z.mp (cm_eq9.mp h77)
            refine z_rcs0 hc hH 1 (pc' := 142) (lv' := [(2, .int (nB ((xEn (μ.1 50 21)) && e2))), (8, .int (nB e4)), (7, .int (nB e2)), (6, .int (μ.1 57 0)), (5, .int 0), (4, .int (nB (xHo (μ.1 50 21)))), (3, .int (nB (xTe (μ.1 50 21)))), (0, .ref 50), (1, .int ru)]) (st' := [.int 0]) (by rfl) ?_
            exact zJ hJ6 rfl (by simp only [h76, h77, lb_f, Int64.or_zero, nB_t, nB_f, Bool.not_true, Bool.not_false, Bool.and_true, Bool.true_and, Bool.false_and, Bool.and_false, Bool.or_true, Bool.true_or, Bool.false_or, Bool.or_false, cond_true, cond_false]) rfl
          · have h77 : (e4) = true := nB_n.mp (cn_eq.mp h77)
            refine z_rcs0 hc hH 2 (pc' := 142) (lv' := [(2, .int (nB ((xEn (μ.1 50 21)) && e2))), (8, .int (nB e4)), (7, .int (nB e2)), (6, .int (μ.1 57 0)), (5, .int 0), (4, .int (nB (xHo (μ.1 50 21)))), (3, .int (nB (xTe (μ.1 50 21)))), (0, .ref 50), (1, .int ru)]) (st' := [.int 1]) (by rfl) ?_
            exact zJ hJ6 rfl (by simp only [h76, h77, lb_f, Int64.or_zero, nB_t, nB_f, Bool.not_true, Bool.not_false, Bool.and_true, Bool.true_and, Bool.false_and, Bool.and_false, Bool.or_true, Bool.true_or, Bool.false_or, Bool.or_false, cond_true, cond_false]) rfl
      refine zq_if hc hH (by rfl) (tg := 126) (by rfl) (fun h78 => ?_) (fun h78 => ?_)
      · have h78 : (xEn (μ.1 50 21)) = false := nB_z.mp (cm_eq9.mp h78)
        refine z_rcs0 hc hH 1 (pc' := 127) (lv' := [(8, .int (nB e4)), (7, .int (nB e2)), (6, .int (μ.1 57 0)), (5, .int 0), (4, .int (nB (xHo (μ.1 50 21)))), (3, .int (nB (xTe (μ.1 50 21)))), (2, .int (nB (xEn (μ.1 50 21)))), (0, .ref 50), (1, .int ru)]) (st' := [.int 0]) (by rfl) ?_
        exact zJ hJ5 rfl (by simp only [h78, lb_f, Int64.or_zero, nB_t, nB_f, Bool.not_true, Bool.not_false, Bool.and_true, Bool.true_and, Bool.false_and, Bool.and_false, Bool.or_true, Bool.true_or, Bool.false_or, Bool.or_false, cond_true, cond_false]) rfl
      · have h78 : (xEn (μ.1 50 21)) = true := nB_n.mp (cn_eq.mp h78)
        refine z_rcs0 hc hH 1 (pc' := 119) (lv' := [(8, .int (nB e4)), (7, .int (nB e2)), (6, .int (μ.1 57 0)), (5, .int 0), (4, .int (nB (xHo (μ.1 50 21)))), (3, .int (nB (xTe (μ.1 50 21)))), (2, .int (nB (xEn (μ.1 50 21)))), (0, .ref 50), (1, .int ru)]) (st' := [.int (nB e2)]) (by rfl) ?_
        refine zq_if hc hH (by rfl) (tg := 126) (by rfl) (fun h79 => ?_) (fun h79 => ?_)
        · have h79 : (e2) = false := nB_z.mp (cm_eq9.mp h79)
          refine z_rcs0 hc hH 1 (pc' := 127) (lv' := [(8, .int (nB e4)), (7, .int (nB e2)), (6, .int (μ.1 57 0)), (5, .int 0), (4, .int (nB (xHo (μ.1 50 21)))), (3, .int (nB (xTe (μ.1 50 21)))), (2, .int (nB (xEn (μ.1 50 21)))), (0, .ref 50), (1, .int ru)]) (st' := [.int 0]) (by rfl) ?_
          exact zJ hJ5 rfl (by simp only [h78, h79, lb_f, Int64.or_zero, nB_t, nB_f, Bool.not_true, Bool.not_false, Bool.and_true, Bool.true_and, Bool.false_and, Bool.and_false, Bool.or_true, Bool.true_or, Bool.false_or, Bool.or_false, cond_true, cond_false]) rfl
        · have h79 : (e2) = true := nB_n.mp (cn_eq.mp h79)
          refine z_rcs0 hc hH 2 (pc' := 127) (lv' := [(8, .int (nB e4)), (7, .int (nB e2)), (6, .int (μ.1 57 0)), (5, .int 0), (4, .int (nB (xHo (μ.1 50 21)))), (3, .int (nB (xTe (μ.1 50 21)))), (2, .int (nB (xEn (μ.1 50 21)))), (0, .ref 50), (1, .int ru)]) (st' := [.int 1]) (by rfl) ?_
          exact zJ hJ5 rfl (by simp only [h78, h79, lb_f, Int64.or_zero, nB_t, nB_f, Bool.not_true, Bool.not_false, Bool.and_true, Bool.true_and, Bool.false_and, Bool.and_false, Bool.or_true, Bool.true_or, Bool.false_or, Bool.or_false, cond_true, cond_false]) rfl
    refine zq_if hc hH (by rfl) (tg := 106) (by rfl) (fun h80 => ?_) (fun h80 => ?_)
    · have h80 : (xTe (μ.1 57 0)) = true := nB_n.mp (cm_ne.mp h80)
      refine z_rcs0 hc hH 2 (pc' := 111) (lv' := [(7, .int (nB e2)), (6, .int (μ.1 57 0)), (5, .int 0), (4, .int (nB (xHo (μ.1 50 21)))), (3, .int (nB (xTe (μ.1 50 21)))), (2, .int (nB (xEn (μ.1 50 21)))), (0, .ref 50), (1, .int ru)]) (st' := [.int 1]) (by rfl) ?_
      exact zJ hJ3 rfl (by simp only [h80, lb_f, Int64.or_zero, nB_t, nB_f, Bool.not_true, Bool.not_false, Bool.and_true, Bool.true_and, Bool.false_and, Bool.and_false, Bool.or_true, Bool.true_or, Bool.false_or, Bool.or_false, cond_true, cond_false]) rfl
    · have h80 : (xTe (μ.1 57 0)) = false := nB_z.mp (cn_ne.mp h80)
      refine z_rcs0 hc hH 3 (pc' := 92) (lv' := [(7, .int (nB e2)), (6, .int (μ.1 57 0)), (5, .int 0), (4, .int (nB (xHo (μ.1 50 21)))), (3, .int (nB (xTe (μ.1 50 21)))), (2, .int (nB (xEn (μ.1 50 21)))), (0, .ref 50), (1, .int ru)]) (st' := [.int 0, .ref 56]) (by rfl) ?_
      refine zq_iald hc hH (by rfl) 4 (by decide +kernel) (show vp_in (nI 0) 4 from vp_in_nI (by decide) (by decide)) ?_
      show Z 0 93 [(7, .int (nB e2)), (6, .int (μ.1 57 0)), (5, .int 0), (4, .int (nB (xHo (μ.1 50 21)))), (3, .int (nB (xTe (μ.1 50 21)))), (2, .int (nB (xEn (μ.1 50 21)))), (0, .ref 50), (1, .int ru)] [.int (μ.1 56 0)] _
      refine zq_if hc hH (by rfl) (tg := 110) (by rfl) (fun h81 => ?_) (fun h81 => ?_)
      · have h81 : (decide ((μ.1 56 0) = 0)) = false := decide_eq_false (cm_ne.mp h81)
        refine z_rcs0 hc hH 1 (pc' := 111) (lv' := [(7, .int (nB e2)), (6, .int (μ.1 57 0)), (5, .int 0), (4, .int (nB (xHo (μ.1 50 21)))), (3, .int (nB (xTe (μ.1 50 21)))), (2, .int (nB (xEn (μ.1 50 21)))), (0, .ref 50), (1, .int ru)]) (st' := [.int 0]) (by rfl) ?_
        exact zJ hJ3 rfl (by simp only [h80, h81, lb_f, Int64.or_zero, nB_t, nB_f, Bool.not_true, Bool.not_false, Bool.and_true, Bool.true_and, Bool.false_and, Bool.and_false, Bool.or_true, Bool.true_or, Bool.false_or, Bool.or_false, cond_true, cond_false]) rfl
      · have h81 : (decide ((μ.1 56 0) = 0)) = true := decide_eq_true (cn_ne.mp h81)
        refine z_rcs0 hc hH 3 (pc' := 100) (lv' := [(7, .int (nB e2)), (6, .int (μ.1 57 0)), (5, .int 0), (4, .int (nB (xHo (μ.1 50 21)))), (3, .int (nB (xTe (μ.1 50 21)))), (2, .int (nB (xEn (μ.1 50 21)))), (0, .ref 50), (1, .int ru)]) (st' := [.int ((μ.1 57 0) + 2)]) (by rfl) ?_
        refine zq_call hc (z_cx_ok hH (by rfl)) (fb_X7_isTerminal d' (by omega) (mGP μ (μ.2.1 50 24) (μ.2.1 50 25) (μ.1 50 23)) ((μ.1 57 0) + 2)) (by decide +kernel) (fun r9 μ9 hq => ?_)
        obtain ⟨hμ9, rfl⟩ := hq
        rw [hμ9]
        clear hμ9 μ9
        show Z 0 103 [(7, .int (nB e2)), (6, .int (μ.1 57 0)), (5, .int 0), (4, .int (nB (xHo (μ.1 50 21)))), (3, .int (nB (xTe (μ.1 50 21)))), (2, .int (nB (xEn (μ.1 50 21)))), (0, .ref 50), (1, .int ru)] [.int (nB (xTe ((μ.1 57 0) + 2)))] _
        refine zq_if hc hH (by rfl) (tg := 110) (by rfl) (fun h82 => ?_) (fun h82 => ?_)
        · have h82 : (xTe ((μ.1 57 0) + 2)) = false := nB_z.mp (cm_eq9.mp h82)
          refine z_rcs0 hc hH 1 (pc' := 111) (lv' := [(7, .int (nB e2)), (6, .int (μ.1 57 0)), (5, .int 0), (4, .int (nB (xHo (μ.1 50 21)))), (3, .int (nB (xTe (μ.1 50 21)))), (2, .int (nB (xEn (μ.1 50 21)))), (0, .ref 50), (1, .int ru)]) (st' := [.int 0]) (by rfl) ?_
          exact zJ hJ3 rfl (by simp only [h80, h81, h82, lb_f, Int64.or_zero, nB_t, nB_f, Bool.not_true, Bool.not_false, Bool.and_true, Bool.true_and, Bool.false_and, Bool.and_false, Bool.or_true, Bool.true_or, Bool.false_or, Bool.or_false, cond_true, cond_false]) rfl
        · have h82 : (xTe ((μ.1 57 0) + 2)) = true := nB_n.mp (cn_eq.mp h82)
          refine z_rcs0 hc hH 2 (pc' := 111) (lv' := [(7, .int (nB e2)), (6, .int (μ.1 57 0)), (5, .int 0), (4, .int (nB (xHo (μ.1 50 21)))), (3, .int (nB (xTe (μ.1 50 21)))), (2, .int (nB (xEn (μ.1 50 21)))), (0, .ref 50), (1, .int ru)]) (st' := [.int 1]) (by rfl) ?_
          exact zJ hJ3 rfl (by simp only [h80, h81, h82, lb_f, Int64.or_zero, nB_t, nB_f, Bool.not_true, Bool.not_false, Bool.and_true, Bool.true_and, Bool.false_and, Bool.and_false, Bool.or_true, Bool.true_or, Bool.false_or, Bool.or_false, cond_true, cond_false]) rfl
  refine zq_if hc hH (by rfl) (tg := 71) (by rfl) (fun h83 => ?_) (fun h83 => ?_)
  · have h83 : (xEn (μ.1 57 0)) = true := nB_n.mp (cm_ne.mp h83)
    refine z_rcs0 hc hH 2 (pc' := 76) (lv' := [(6, .int (μ.1 57 0)), (5, .int 0), (4, .int (nB (xHo (μ.1 50 21)))), (3, .int (nB (xTe (μ.1 50 21)))), (2, .int (nB (xEn (μ.1 50 21)))), (0, .ref 50), (1, .int ru)]) (st' := [.int 1]) (by rfl) ?_
    exact zJ hJ1 rfl (by simp only [h83, lb_f, Int64.or_zero, nB_t, nB_f, Bool.not_true, Bool.not_false, Bool.and_true, Bool.true_and, Bool.false_and, Bool.and_false, Bool.or_true, Bool.true_or, Bool.false_or, Bool.or_false, cond_true, cond_false]) rfl
  · have h83 : (xEn (μ.1 57 0)) = false := nB_z.mp (cn_ne.mp h83)
    refine z_rcs0 hc hH 3 (pc' := 57) (lv' := [(6, .int (μ.1 57 0)), (5, .int 0), (4, .int (nB (xHo (μ.1 50 21)))), (3, .int (nB (xTe (μ.1 50 21)))), (2, .int (nB (xEn (μ.1 50 21)))), (0, .ref 50), (1, .int ru)]) (st' := [.int 0, .ref 56]) (by rfl) ?_
    refine zq_iald hc hH (by rfl) 4 (by decide +kernel) (show vp_in (nI 0) 4 from vp_in_nI (by decide) (by decide)) ?_
    show Z 0 58 [(6, .int (μ.1 57 0)), (5, .int 0), (4, .int (nB (xHo (μ.1 50 21)))), (3, .int (nB (xTe (μ.1 50 21)))), (2, .int (nB (xEn (μ.1 50 21)))), (0, .ref 50), (1, .int ru)] [.int (μ.1 56 0)] _
    refine zq_if hc hH (by rfl) (tg := 75) (by rfl) (fun h84 => ?_) (fun h84 => ?_)
    · have h84 : (decide ((μ.1 56 0) = 0)) = false := decide_eq_false (cm_ne.mp h84)
      refine z_rcs0 hc hH 1 (pc' := 76) (lv' := [(6, .int (μ.1 57 0)), (5, .int 0), (4, .int (nB (xHo (μ.1 50 21)))), (3, .int (nB (xTe (μ.1 50 21)))), (2, .int (nB (xEn (μ.1 50 21)))), (0, .ref 50), (1, .int ru)]) (st' := [.int 0]) (by rfl) ?_
      exact zJ hJ1 rfl (by simp only [h83, h84, lb_f, Int64.or_zero, nB_t, nB_f, Bool.not_true, Bool.not_false, Bool.and_true, Bool.true_and, Bool.false_and, Bool.and_false, Bool.or_true, Bool.true_or, Bool.false_or, Bool.or_false, cond_true, cond_false]) rfl
    · have h84 : (decide ((μ.1 56 0) = 0)) = true := decide_eq_true (cn_ne.mp h84)
      refine z_rcs0 hc hH 3 (pc' := 65) (lv' := [(6, .int (μ.1 57 0)), (5, .int 0), (4, .int (nB (xHo (μ.1 50 21)))), (3, .int (nB (xTe (μ.1 50 21)))), (2, .int (nB (xEn (μ.1 50 21)))), (0, .ref 50), (1, .int ru)]) (st' := [.int ((μ.1 57 0) + 2)]) (by rfl) ?_
      refine zq_call hc (z_cx_ok hH (by rfl)) (fb_X7_isEnd d' (by omega) (mGP μ (μ.2.1 50 24) (μ.2.1 50 25) (μ.1 50 23)) ((μ.1 57 0) + 2)) (by decide +kernel) (fun r9 μ9 hq => ?_)
      obtain ⟨hμ9, rfl⟩ := hq
      rw [hμ9]
      clear hμ9 μ9
      show Z 0 68 [(6, .int (μ.1 57 0)), (5, .int 0), (4, .int (nB (xHo (μ.1 50 21)))), (3, .int (nB (xTe (μ.1 50 21)))), (2, .int (nB (xEn (μ.1 50 21)))), (0, .ref 50), (1, .int ru)] [.int (nB (xEn ((μ.1 57 0) + 2)))] _
      refine zq_if hc hH (by rfl) (tg := 75) (by rfl) (fun h85 => ?_) (fun h85 => ?_)
      · have h85 : (xEn ((μ.1 57 0) + 2)) = false := nB_z.mp (cm_eq9.mp h85)
        refine z_rcs0 hc hH 1 (pc' := 76) (lv' := [(6, .int (μ.1 57 0)), (5, .int 0), (4, .int (nB (xHo (μ.1 50 21)))), (3, .int (nB (xTe (μ.1 50 21)))), (2, .int (nB (xEn (μ.1 50 21)))), (0, .ref 50), (1, .int ru)]) (st' := [.int 0]) (by rfl) ?_
        exact zJ hJ1 rfl (by simp only [h83, h84, h85, lb_f, Int64.or_zero, nB_t, nB_f, Bool.not_true, Bool.not_false, Bool.and_true, Bool.true_and, Bool.false_and, Bool.and_false, Bool.or_true, Bool.true_or, Bool.false_or, Bool.or_false, cond_true, cond_false]) rfl
      · have h85 : (xEn ((μ.1 57 0) + 2)) = true := nB_n.mp (cn_eq.mp h85)
        refine z_rcs0 hc hH 2 (pc' := 76) (lv' := [(6, .int (μ.1 57 0)), (5, .int 0), (4, .int (nB (xHo (μ.1 50 21)))), (3, .int (nB (xTe (μ.1 50 21)))), (2, .int (nB (xEn (μ.1 50 21)))), (0, .ref 50), (1, .int ru)]) (st' := [.int 1]) (by rfl) ?_
        exact zJ hJ1 rfl (by simp only [h83, h84, h85, lb_f, Int64.or_zero, nB_t, nB_f, Bool.not_true, Bool.not_false, Bool.and_true, Bool.true_and, Bool.false_and, Bool.and_false, Bool.or_true, Bool.true_or, Bool.false_or, Bool.or_false, cond_true, cond_false]) rfl
/-! the forms that the tiles alone give: the reference -/
set_option maxRecDepth 8000
noncomputable abbrev T7 : Type := Bool × Bool × Bool × Bool × Bool × Bool × Int32
noncomputable def xGr (k : Int32) : Bool := decide (k = 19) || (decide (k = 20) || (decide (k = 21) || (decide (k = 23) || (decide (k = 25) || decide (k = 32)))))
noncomputable def tSt (μ : zM) (q i : Nat) (t : T7) : T7 := bif decide (ofv (μ.1 58 i) (μ.1 52) (μ.1 53) (nI i) q = 0) then t else (t.1 && xEn (nI i), t.2.1 && !xEn (nI i), t.2.2.1 && xHo (nI i), t.2.2.2.1 || xHo (nI i), t.2.2.2.2.1 && xTe (nI i), t.2.2.2.2.2.1 && xGr (nI i), bif decide (27 ≤ nI i) then t.2.2.2.2.2.2 else t.2.2.2.2.2.2 ||| 1 <<< (nI i / 9 &&& 31))
noncomputable def tF (μ : zM) (q : Nat) : Nat → Nat → T7 → T7
  | 0, _, t => t
  | n + 1, i, t => tF μ q n (i + 1) (tSt μ q i t)
noncomputable def tKA (Z : zK) (μ : zM) (pc : Nat) (i : Int32) (t : T7) : Prop := Z 0 pc [(8, .int i), (7, .int t.2.2.2.2.2.2), (6, .int (nB t.2.2.2.2.2.1)), (5, .int (nB t.2.2.2.2.1)), (4, .int (nB t.2.2.2.1)), (3, .int (nB t.2.2.1)), (2, .int (nB t.2.1)), (1, .int (nB t.1)), (0, .ref 50)] [] μ ∧ Z 0 pc [(8, .int i), (6, .int (nB t.2.2.2.2.2.1)), (5, .int (nB t.2.2.2.2.1)), (4, .int (nB t.2.2.2.1)), (3, .int (nB t.2.2.1)), (2, .int (nB t.2.1)), (1, .int (nB t.1)), (7, .int t.2.2.2.2.2.2), (0, .ref 50)] [] μ
theorem tl21 (d' : Nat) (Z : zK) (hd : 2 ≤ d') (μ : zM) (q : Nat) (hq : q ≤ 4) (e4 : μ.1 50 4 = nI q) (hc : z_clo z_x0 mi_X7_tiles (z_C d') Z) : ∀ n i (t : T7), i + n = 34 → tKA Z μ 213 (nI 34) (tF μ q n i t) → tKA Z μ 21 (nI i) t := by
  have hH : zH mi_X7_tiles zt_X7_tiles 79 7 12 := hh_X7_tiles
  intro n
  induction n with
  | zero =>
    intro i t hi K
    have hi : i = 34 := by omega
    subst hi
    obtain ⟨a1, a2, a3, a4, a5, a6, su⟩ := t
    have b1 : Z 0 21 [(8, .int (nI 34)), (7, .int su), (6, .int (nB a6)), (5, .int (nB a5)), (4, .int (nB a4)), (3, .int (nB a3)), (2, .int (nB a2)), (1, .int (nB a1)), (0, .ref 50)] [] μ := by
      refine z_rcs hc hH 2 (pc' := 25) (lv' := [(8, .int (nI 34)), (7, .int su), (6, .int (nB a6)), (5, .int (nB a5)), (4, .int (nB a4)), (3, .int (nB a3)), (2, .int (nB a2)), (1, .int (nB a1)), (0, .ref 50)]) (st' := [.int 34, .int (nI 34)]) (μ' := μ) (by rfl) ?_
      refine zq_ic hc hH (by rfl) (tg := 213) (by rfl) (fun _ => ?_) (fun h9 => (zb_t (ge_nIt (n := 34) (i := 34) (by decide) (by decide)) h9).elim)
      exact K.1
    have b2 : Z 0 21 [(8, .int (nI 34)), (6, .int (nB a6)), (5, .int (nB a5)), (4, .int (nB a4)), (3, .int (nB a3)), (2, .int (nB a2)), (1, .int (nB a1)), (7, .int su), (0, .ref 50)] [] μ := by
      refine z_rcs hc hH 2 (pc' := 25) (lv' := [(8, .int (nI 34)), (6, .int (nB a6)), (5, .int (nB a5)), (4, .int (nB a4)), (3, .int (nB a3)), (2, .int (nB a2)), (1, .int (nB a1)), (7, .int su), (0, .ref 50)]) (st' := [.int 34, .int (nI 34)]) (μ' := μ) (by rfl) ?_
      refine zq_ic hc hH (by rfl) (tg := 213) (by rfl) (fun _ => ?_) (fun h9 => (zb_t (ge_nIt (n := 34) (i := 34) (by decide) (by decide)) h9).elim)
      exact K.2
    exact ⟨b1, b2⟩
  | succ n ih =>
    intro i t hi K
    have hin : vp_in (nI i) 34 := vp_in_nI (by omega) (by decide)
    obtain ⟨a1, a2, a3, a4, a5, a6, su⟩ := t
    have cl : (nI i).toNatClampNeg = i := nI_clamp (by omega)
    have K : tKA Z μ 213 (nI 34) (tF μ q n (i + 1) (tSt μ q i (a1, a2, a3, a4, a5, a6, su))) := K
    have b1 : Z 0 21 [(8, .int (nI i)), (7, .int su), (6, .int (nB a6)), (5, .int (nB a5)), (4, .int (nB a4)), (3, .int (nB a3)), (2, .int (nB a2)), (1, .int (nB a1)), (0, .ref 50)] [] μ := by
      refine z_rcs hc hH 2 (pc' := 25) (lv' := [(8, .int (nI i)), (7, .int su), (6, .int (nB a6)), (5, .int (nB a5)), (4, .int (nB a4)), (3, .int (nB a3)), (2, .int (nB a2)), (1, .int (nB a1)), (0, .ref 50)]) (st' := [.int 34, .int (nI i)]) (μ' := μ) (by rfl) ?_
      refine zq_ic hc hH (by rfl) (tg := 213) (by rfl) (fun h9 => (zb_t h9 (ge_nI (n := 34) (i := i) (by omega) (by decide))).elim) (fun _ => ?_)
      refine z_rcs hc hH 2 (pc' := 31) (lv' := [(8, .int (nI i)), (7, .int su), (6, .int (nB a6)), (5, .int (nB a5)), (4, .int (nB a4)), (3, .int (nB a3)), (2, .int (nB a2)), (1, .int (nB a1)), (0, .ref 50)]) (st' := [.int (nI i), .ref 50]) (μ' := μ) (by rfl) ?_
      refine zq_call hc (z_cx_ok hH (by rfl)) (fc_X7_of d' (by omega) μ (nI i) hin q hq e4) (by decide +kernel) (fun r9 μ9 hq => ?_)
      obtain ⟨hμ9, rfl⟩ := hq
      rw [hμ9]
      clear hμ9 μ9
      show Z 0 34 [(8, .int (nI i)), (7, .int su), (6, .int (nB a6)), (5, .int (nB a5)), (4, .int (nB a4)), (3, .int (nB a3)), (2, .int (nB a2)), (1, .int (nB a1)), (0, .ref 50)] [.int (ofv (μ.1 58 (nI i).toNatClampNeg) (μ.1 52) (μ.1 53) (nI i) q)] μ
      rw [cl]
      refine zq_if hc hH (by rfl) (tg := 40) (by rfl) (fun h1 => ?_) (fun h1 => ?_)
      · have h1 : (decide ((ofv (μ.1 58 i) (μ.1 52) (μ.1 53) (nI i) q) = 0)) = false := decide_eq_false (cm_ne.mp h1)
        refine z_rcs hc hH 1 (pc' := 41) (lv' := [(8, .int (nI i)), (7, .int su), (6, .int (nB a6)), (5, .int (nB a5)), (4, .int (nB a4)), (3, .int (nB a3)), (2, .int (nB a2)), (1, .int (nB a1)), (0, .ref 50)]) (st' := [.int (nB a1)]) (μ' := μ) (by rfl) ?_
        have hJ2 : Z 0 57 [(8, .int (nI i)), (7, .int su), (6, .int (nB a6)), (5, .int (nB a5)), (4, .int (nB a4)), (3, .int (nB a3)), (2, .int (nB a2)), (1, .int (nB a1)), (0, .ref 50)] [.int (nB (a1 && (xEn (nI i))))] μ := by
          refine z_rcs hc hH 2 (pc' := 59) (lv' := [(1, .int (nB (a1 && (xEn (nI i))))), (8, .int (nI i)), (7, .int su), (6, .int (nB a6)), (5, .int (nB a5)), (4, .int (nB a4)), (3, .int (nB a3)), (2, .int (nB a2)), (0, .ref 50)]) (st' := [.int (nB a2)]) (μ' := μ) (by rfl) ?_
          have hJ3 : Z 0 75 [(1, .int (nB (a1 && (xEn (nI i))))), (8, .int (nI i)), (7, .int su), (6, .int (nB a6)), (5, .int (nB a5)), (4, .int (nB a4)), (3, .int (nB a3)), (2, .int (nB a2)), (0, .ref 50)] [.int (nB (a2 && (!(xEn (nI i)))))] μ := by
            refine z_rcs hc hH 2 (pc' := 77) (lv' := [(2, .int (nB (a2 && (!(xEn (nI i)))))), (1, .int (nB (a1 && (xEn (nI i))))), (8, .int (nI i)), (7, .int su), (6, .int (nB a6)), (5, .int (nB a5)), (4, .int (nB a4)), (3, .int (nB a3)), (0, .ref 50)]) (st' := [.int (nB a3)]) (μ' := μ) (by rfl) ?_
            have hJ4 : Z 0 93 [(2, .int (nB (a2 && (!(xEn (nI i)))))), (1, .int (nB (a1 && (xEn (nI i))))), (8, .int (nI i)), (7, .int su), (6, .int (nB a6)), (5, .int (nB a5)), (4, .int (nB a4)), (3, .int (nB a3)), (0, .ref 50)] [.int (nB (a3 && (xHo (nI i))))] μ := by
              refine z_rcs hc hH 2 (pc' := 96) (lv' := [(3, .int (nB (a3 && (xHo (nI i))))), (2, .int (nB (a2 && (!(xEn (nI i)))))), (1, .int (nB (a1 && (xEn (nI i))))), (8, .int (nI i)), (7, .int su), (6, .int (nB a6)), (5, .int (nB a5)), (4, .int (nB a4)), (0, .ref 50)]) (st' := [.int (nB a4)]) (μ' := μ) (by rfl) ?_
              have hJ5 : Z 0 112 [(3, .int (nB (a3 && (xHo (nI i))))), (2, .int (nB (a2 && (!(xEn (nI i)))))), (1, .int (nB (a1 && (xEn (nI i))))), (8, .int (nI i)), (7, .int su), (6, .int (nB a6)), (5, .int (nB a5)), (4, .int (nB a4)), (0, .ref 50)] [.int (nB (a4 || (xHo (nI i))))] μ := by
                refine z_rcs hc hH 2 (pc' := 116) (lv' := [(4, .int (nB (a4 || (xHo (nI i))))), (3, .int (nB (a3 && (xHo (nI i))))), (2, .int (nB (a2 && (!(xEn (nI i)))))), (1, .int (nB (a1 && (xEn (nI i))))), (8, .int (nI i)), (7, .int su), (6, .int (nB a6)), (5, .int (nB a5)), (0, .ref 50)]) (st' := [.int (nB a5)]) (μ' := μ) (by rfl) ?_
                have hJ6 : Z 0 132 [(4, .int (nB (a4 || (xHo (nI i))))), (3, .int (nB (a3 && (xHo (nI i))))), (2, .int (nB (a2 && (!(xEn (nI i)))))), (1, .int (nB (a1 && (xEn (nI i))))), (8, .int (nI i)), (7, .int su), (6, .int (nB a6)), (5, .int (nB a5)), (0, .ref 50)] [.int (nB (a5 && (xTe (nI i))))] μ := by
                  refine z_rcs hc hH 2 (pc' := 136) (lv' := [(5, .int (nB (a5 && (xTe (nI i))))), (4, .int (nB (a4 || (xHo (nI i))))), (3, .int (nB (a3 && (xHo (nI i))))), (2, .int (nB (a2 && (!(xEn (nI i)))))), (1, .int (nB (a1 && (xEn (nI i))))), (8, .int (nI i)), (7, .int su), (6, .int (nB a6)), (0, .ref 50)]) (st' := [.int (nB a6)]) (μ' := μ) (by rfl) ?_
                  have hJ7 : Z 0 186 [(5, .int (nB (a5 && (xTe (nI i))))), (4, .int (nB (a4 || (xHo (nI i))))), (3, .int (nB (a3 && (xHo (nI i))))), (2, .int (nB (a2 && (!(xEn (nI i)))))), (1, .int (nB (a1 && (xEn (nI i))))), (8, .int (nI i)), (7, .int su), (6, .int (nB a6)), (0, .ref 50)] [.int (nB (a6 && ((decide ((nI i) = 19)) || ((decide ((nI i) = 20)) || ((decide ((nI i) = 21)) || ((decide ((nI i) = 23)) || ((decide ((nI i) = 25)) || (decide ((nI i) = 32)))))))))] μ := by
                    refine z_rcs hc hH 3 (pc' := 192) (lv' := [(6, .int (nB (a6 && ((decide ((nI i) = 19)) || ((decide ((nI i) = 20)) || ((decide ((nI i) = 21)) || ((decide ((nI i) = 23)) || ((decide ((nI i) = 25)) || (decide ((nI i) = 32)))))))))), (5, .int (nB (a5 && (xTe (nI i))))), (4, .int (nB (a4 || (xHo (nI i))))), (3, .int (nB (a3 && (xHo (nI i))))), (2, .int (nB (a2 && (!(xEn (nI i)))))), (1, .int (nB (a1 && (xEn (nI i))))), (8, .int (nI i)), (7, .int su), (0, .ref 50)]) (st' := [.int 27, .int (nI i)]) (μ' := μ) (by rfl) ?_
                    refine zq_ic hc hH (by rfl) (tg := 207) (by rfl) (fun h8 => ?_) (fun h8 => ?_)
                    · have h8 : (decide (27 ≤ (nI i))) = true := decide_eq_true (cm_ge.mp h8)
                      refine z_rcs hc hH 2 (pc' := 21) (lv' := [(8, .int ((nI i) + 1)), (6, .int (nB (a6 && ((decide ((nI i) = 19)) || ((decide ((nI i) = 20)) || ((decide ((nI i) = 21)) || ((decide ((nI i) = 23)) || ((decide ((nI i) = 25)) || (decide ((nI i) = 32)))))))))), (5, .int (nB (a5 && (xTe (nI i))))), (4, .int (nB (a4 || (xHo (nI i))))), (3, .int (nB (a3 && (xHo (nI i))))), (2, .int (nB (a2 && (!(xEn (nI i)))))), (1, .int (nB (a1 && (xEn (nI i))))), (7, .int su), (0, .ref 50)]) (st' := []) (μ' := μ) (by rfl) ?_
                      rw [nI_1]
                      refine (ih (i + 1) (a1 && (xEn (nI i)), a2 && (!(xEn (nI i))), a3 && (xHo (nI i)), a4 || (xHo (nI i)), a5 && (xTe (nI i)), a6 && ((decide ((nI i) = 19)) || ((decide ((nI i) = 20)) || ((decide ((nI i) = 21)) || ((decide ((nI i) = 23)) || ((decide ((nI i) = 25)) || (decide ((nI i) = 32))))))), su) (by omega) ?_).2
                      have e : tSt μ q i (a1, a2, a3, a4, a5, a6, su) = (a1 && (xEn (nI i)), a2 && (!(xEn (nI i))), a3 && (xHo (nI i)), a4 || (xHo (nI i)), a5 && (xTe (nI i)), a6 && ((decide ((nI i) = 19)) || ((decide ((nI i) = 20)) || ((decide ((nI i) = 21)) || ((decide ((nI i) = 23)) || ((decide ((nI i) = 25)) || (decide ((nI i) = 32))))))), su) := by unfold tSt; simp only [h1, h8, cond_true, cond_false] <;> rfl
                      rw [e] at K; exact K
                    · have h8 : (decide (27 ≤ (nI i))) = false := decide_eq_false (cn_ge.mp h8)
                      refine z_rcs hc hH 10 (pc' := 21) (lv' := [(8, .int ((nI i) + 1)), (7, .int (su ||| (1 <<< (((nI i) / 9) &&& 31)))), (6, .int (nB (a6 && ((decide ((nI i) = 19)) || ((decide ((nI i) = 20)) || ((decide ((nI i) = 21)) || ((decide ((nI i) = 23)) || ((decide ((nI i) = 25)) || (decide ((nI i) = 32)))))))))), (5, .int (nB (a5 && (xTe (nI i))))), (4, .int (nB (a4 || (xHo (nI i))))), (3, .int (nB (a3 && (xHo (nI i))))), (2, .int (nB (a2 && (!(xEn (nI i)))))), (1, .int (nB (a1 && (xEn (nI i))))), (0, .ref 50)]) (st' := []) (μ' := μ) (by rfl) ?_
                      rw [nI_1]
                      refine (ih (i + 1) (a1 && (xEn (nI i)), a2 && (!(xEn (nI i))), a3 && (xHo (nI i)), a4 || (xHo (nI i)), a5 && (xTe (nI i)), a6 && ((decide ((nI i) = 19)) || ((decide ((nI i) = 20)) || ((decide ((nI i) = 21)) || ((decide ((nI i) = 23)) || ((decide ((nI i) = 25)) || (decide ((nI i) = 32))))))), su ||| (1 <<< (((nI i) / 9) &&& 31))) (by omega) ?_).1
                      have e : tSt μ q i (a1, a2, a3, a4, a5, a6, su) = (a1 && (xEn (nI i)), a2 && (!(xEn (nI i))), a3 && (xHo (nI i)), a4 || (xHo (nI i)), a5 && (xTe (nI i)), a6 && ((decide ((nI i) = 19)) || ((decide ((nI i) = 20)) || ((decide ((nI i) = 21)) || ((decide ((nI i) = 23)) || ((decide ((nI i) = 25)) || (decide ((nI i) = 32))))))), su ||| (1 <<< (((nI i) / 9) &&& 31))) := by unfold tSt; simp only [h1, h8, cond_true, cond_false] <;> rfl
                      rw [e] at K; exact K
                  refine zq_if hc hH (by rfl) (tg := 185) (by rfl) (fun h9 => ?_) (fun h9 => ?_)
                  · have h9 : (a6) = false := nB_z.mp (cm_eq9.mp h9)
                    refine z_rcs hc hH 1 (pc' := 186) (lv' := [(5, .int (nB (a5 && (xTe (nI i))))), (4, .int (nB (a4 || (xHo (nI i))))), (3, .int (nB (a3 && (xHo (nI i))))), (2, .int (nB (a2 && (!(xEn (nI i)))))), (1, .int (nB (a1 && (xEn (nI i))))), (8, .int (nI i)), (7, .int su), (6, .int (nB a6)), (0, .ref 50)]) (st' := [.int 0]) (μ' := μ) (by rfl) ?_
                    exact zJ hJ7 rfl (by simp only [h9, lb_f, Int64.or_zero, nB_t, nB_f, Bool.not_true, Bool.not_false, Bool.and_true, Bool.true_and, Bool.false_and, Bool.and_false, Bool.or_true, Bool.true_or, Bool.false_or, Bool.or_false, cond_true, cond_false]) rfl
                  · have h9 : (a6) = true := nB_n.mp (cn_eq.mp h9)
                    refine z_rcs hc hH 2 (pc' := 143) (lv' := [(5, .int (nB (a5 && (xTe (nI i))))), (4, .int (nB (a4 || (xHo (nI i))))), (3, .int (nB (a3 && (xHo (nI i))))), (2, .int (nB (a2 && (!(xEn (nI i)))))), (1, .int (nB (a1 && (xEn (nI i))))), (8, .int (nI i)), (7, .int su), (6, .int (nB a6)), (0, .ref 50)]) (st' := [.int 19, .int (nI i)]) (μ' := μ) (by rfl) ?_
                    refine zq_ic hc hH (by rfl) (tg := 181) (by rfl) (fun h10 => ?_) (fun h10 => ?_)
                    · have h10 : (decide ((nI i) = 19)) = true := decide_eq_true (cm_eq9.mp h10)
                      refine z_rcs hc hH 2 (pc' := 186) (lv' := [(5, .int (nB (a5 && (xTe (nI i))))), (4, .int (nB (a4 || (xHo (nI i))))), (3, .int (nB (a3 && (xHo (nI i))))), (2, .int (nB (a2 && (!(xEn (nI i)))))), (1, .int (nB (a1 && (xEn (nI i))))), (8, .int (nI i)), (7, .int su), (6, .int (nB a6)), (0, .ref 50)]) (st' := [.int 1]) (μ' := μ) (by rfl) ?_
                      exact zJ hJ7 rfl (by simp only [h9, h10, lb_f, Int64.or_zero, nB_t, nB_f, Bool.not_true, Bool.not_false, Bool.and_true, Bool.true_and, Bool.false_and, Bool.and_false, Bool.or_true, Bool.true_or, Bool.false_or, Bool.or_false, cond_true, cond_false]) rfl
                    · have h10 : (decide ((nI i) = 19)) = false := decide_eq_false (cn_eq.mp h10)
                      refine z_rcs hc hH 2 (pc' := 150) (lv' := [(5, .int (nB (a5 && (xTe (nI i))))), (4, .int (nB (a4 || (xHo (nI i))))), (3, .int (nB (a3 && (xHo (nI i))))), (2, .int (nB (a2 && (!(xEn (nI i)))))), (1, .int (nB (a1 && (xEn (nI i))))), (8, .int (nI i)), (7, .int su), (6, .int (nB a6)), (0, .ref 50)]) (st' := [.int 20, .int (nI i)]) (μ' := μ) (by rfl) ?_
                      refine zq_ic hc hH (by rfl) (tg := 181) (by rfl) (fun h11 => ?_) (fun h11 => ?_)
                      · have h11 : (decide ((nI i) = 20)) = true := decide_eq_true (cm_eq9.mp h11)
                        refine z_rcs hc hH 2 (pc' := 186) (lv' := [(5, .int (nB (a5 && (xTe (nI i))))), (4, .int (nB (a4 || (xHo (nI i))))), (3, .int (nB (a3 && (xHo (nI i))))), (2, .int (nB (a2 && (!(xEn (nI i)))))), (1, .int (nB (a1 && (xEn (nI i))))), (8, .int (nI i)), (7, .int su), (6, .int (nB a6)), (0, .ref 50)]) (st' := [.int 1]) (μ' := μ) (by rfl) ?_
                        exact zJ hJ7 rfl (by simp only [h9, h10, h11, lb_f, Int64.or_zero, nB_t, nB_f, Bool.not_true, Bool.not_false, Bool.and_true, Bool.true_and, Bool.false_and, Bool.and_false, Bool.or_true, Bool.true_or, Bool.false_or, Bool.or_false, cond_true, cond_false]) rfl
                      · have h11 : (decide ((nI i) = 20)) = false := decide_eq_false (cn_eq.mp h11)
                        refine z_rcs hc hH 2 (pc' := 157) (lv' := [(5, .int (nB (a5 && (xTe (nI i))))), (4, .int (nB (a4 || (xHo (nI i))))), (3, .int (nB (a3 && (xHo (nI i))))), (2, .int (nB (a2 && (!(xEn (nI i)))))), (1, .int (nB (a1 && (xEn (nI i))))), (8, .int (nI i)), (7, .int su), (6, .int (nB a6)), (0, .ref 50)]) (st' := [.int 21, .int (nI i)]) (μ' := μ) (by rfl) ?_
                        refine zq_ic hc hH (by rfl) (tg := 181) (by rfl) (fun h12 => ?_) (fun h12 => ?_)
                        · have h12 : (decide ((nI i) = 21)) = true := decide_eq_true (cm_eq9.mp h12)
                          refine z_rcs hc hH 2 (pc' := 186) (lv' := [(5, .int (nB (a5 && (xTe (nI i))))), (4, .int (nB (a4 || (xHo (nI i))))), (3, .int (nB (a3 && (xHo (nI i))))), (2, .int (nB (a2 && (!(xEn (nI i)))))), (1, .int (nB (a1 && (xEn (nI i))))), (8, .int (nI i)), (7, .int su), (6, .int (nB a6)), (0, .ref 50)]) (st' := [.int 1]) (μ' := μ) (by rfl) ?_
                          exact zJ hJ7 rfl (by simp only [h9, h10, h11, h12, lb_f, Int64.or_zero, nB_t, nB_f, Bool.not_true, Bool.not_false, Bool.and_true, Bool.true_and, Bool.false_and, Bool.and_false, Bool.or_true, Bool.true_or, Bool.false_or, Bool.or_false, cond_true, cond_false]) rfl
                        · have h12 : (decide ((nI i) = 21)) = false := decide_eq_false (cn_eq.mp h12)
                          refine z_rcs hc hH 2 (pc' := 164) (lv' := [(5, .int (nB (a5 && (xTe (nI i))))), (4, .int (nB (a4 || (xHo (nI i))))), (3, .int (nB (a3 && (xHo (nI i))))), (2, .int (nB (a2 && (!(xEn (nI i)))))), (1, .int (nB (a1 && (xEn (nI i))))), (8, .int (nI i)), (7, .int su), (6, .int (nB a6)), (0, .ref 50)]) (st' := [.int 23, .int (nI i)]) (μ' := μ) (by rfl) ?_
                          refine zq_ic hc hH (by rfl) (tg := 181) (by rfl) (fun h13 => ?_) (fun h13 => ?_)
                          · have h13 : (decide ((nI i) = 23)) = true := decide_eq_true (cm_eq9.mp h13)
                            refine z_rcs hc hH 2 (pc' := 186) (lv' := [(5, .int (nB (a5 && (xTe (nI i))))), (4, .int (nB (a4 || (xHo (nI i))))), (3, .int (nB (a3 && (xHo (nI i))))), (2, .int (nB (a2 && (!(xEn (nI i)))))), (1, .int (nB (a1 && (xEn (nI i))))), (8, .int (nI i)), (7, .int su), (6, .int (nB a6)), (0, .ref 50)]) (st' := [.int 1]) (μ' := μ) (by rfl) ?_
                            exact zJ hJ7 rfl (by simp only [h9, h10, h11, h12, h13, lb_f, Int64.or_zero, nB_t, nB_f, Bool.not_true, Bool.not_false, Bool.and_true, Bool.true_and, Bool.false_and, Bool.and_false, Bool.or_true, Bool.true_or, Bool.false_or, Bool.or_false, cond_true, cond_false]) rfl
                          · have h13 : (decide ((nI i) = 23)) = false := decide_eq_false (cn_eq.mp h13)
                            refine z_rcs hc hH 2 (pc' := 171) (lv' := [(5, .int (nB (a5 && (xTe (nI i))))), (4, .int (nB (a4 || (xHo (nI i))))), (3, .int (nB (a3 && (xHo (nI i))))), (2, .int (nB (a2 && (!(xEn (nI i)))))), (1, .int (nB (a1 && (xEn (nI i))))), (8, .int (nI i)), (7, .int su), (6, .int (nB a6)), (0, .ref 50)]) (st' := [.int 25, .int (nI i)]) (μ' := μ) (by rfl) ?_
                            refine zq_ic hc hH (by rfl) (tg := 181) (by rfl) (fun h14 => ?_) (fun h14 => ?_)
                            · have h14 : (decide ((nI i) = 25)) = true := decide_eq_true (cm_eq9.mp h14)
                              refine z_rcs hc hH 2 (pc' := 186) (lv' := [(5, .int (nB (a5 && (xTe (nI i))))), (4, .int (nB (a4 || (xHo (nI i))))), (3, .int (nB (a3 && (xHo (nI i))))), (2, .int (nB (a2 && (!(xEn (nI i)))))), (1, .int (nB (a1 && (xEn (nI i))))), (8, .int (nI i)), (7, .int su), (6, .int (nB a6)), (0, .ref 50)]) (st' := [.int 1]) (μ' := μ) (by rfl) ?_
                              exact zJ hJ7 rfl (by simp only [h9, h10, h11, h12, h13, h14, lb_f, Int64.or_zero, nB_t, nB_f, Bool.not_true, Bool.not_false, Bool.and_true, Bool.true_and, Bool.false_and, Bool.and_false, Bool.or_true, Bool.true_or, Bool.false_or, Bool.or_false, cond_true, cond_false]) rfl
                            · have h14 : (decide ((nI i) = 25)) = false := decide_eq_false (cn_eq.mp h14)
                              refine z_rcs hc hH 2 (pc' := 178) (lv' := [(5, .int (nB (a5 && (xTe (nI i))))), (4, .int (nB (a4 || (xHo (nI i))))), (3, .int (nB (a3 && (xHo (nI i))))), (2, .int (nB (a2 && (!(xEn (nI i)))))), (1, .int (nB (a1 && (xEn (nI i))))), (8, .int (nI i)), (7, .int su), (6, .int (nB a6)), (0, .ref 50)]) (st' := [.int 32, .int (nI i)]) (μ' := μ) (by rfl) ?_
                              refine zq_ic hc hH (by rfl) (tg := 185) (by rfl) (fun h15 => ?_) (fun h15 => ?_)
                              · have h15 : (decide ((nI i) = 32)) = false := decide_eq_false (cm_ne.mp h15)
                                refine z_rcs hc hH 1 (pc' := 186) (lv' := [(5, .int (nB (a5 && (xTe (nI i))))), (4, .int (nB (a4 || (xHo (nI i))))), (3, .int (nB (a3 && (xHo (nI i))))), (2, .int (nB (a2 && (!(xEn (nI i)))))), (1, .int (nB (a1 && (xEn (nI i))))), (8, .int (nI i)), (7, .int su), (6, .int (nB a6)), (0, .ref 50)]) (st' := [.int 0]) (μ' := μ) (by rfl) ?_
                                exact zJ hJ7 rfl (by simp only [h9, h10, h11, h12, h13, h14, h15, lb_f, Int64.or_zero, nB_t, nB_f, Bool.not_true, Bool.not_false, Bool.and_true, Bool.true_and, Bool.false_and, Bool.and_false, Bool.or_true, Bool.true_or, Bool.false_or, Bool.or_false, cond_true, cond_false]) rfl
                              · have h15 : (decide ((nI i) = 32)) = true := decide_eq_true (cn_ne.mp h15)
                                refine z_rcs hc hH 2 (pc' := 186) (lv' := [(5, .int (nB (a5 && (xTe (nI i))))), (4, .int (nB (a4 || (xHo (nI i))))), (3, .int (nB (a3 && (xHo (nI i))))), (2, .int (nB (a2 && (!(xEn (nI i)))))), (1, .int (nB (a1 && (xEn (nI i))))), (8, .int (nI i)), (7, .int su), (6, .int (nB a6)), (0, .ref 50)]) (st' := [.int 1]) (μ' := μ) (by rfl) ?_
                                exact zJ hJ7 rfl (by simp only [h9, h10, h11, h12, h13, h14, h15, lb_f, Int64.or_zero, nB_t, nB_f, Bool.not_true, Bool.not_false, Bool.and_true, Bool.true_and, Bool.false_and, Bool.and_false, Bool.or_true, Bool.true_or, Bool.false_or, Bool.or_false, cond_true, cond_false]) rfl
                refine zq_if hc hH (by rfl) (tg := 131) (by rfl) (fun h16 => ?_) (fun h16 => ?_)
                · have h16 : (a5) = false := nB_z.mp (cm_eq9.mp h16)
                  refine z_rcs hc hH 1 (pc' := 132) (lv' := [(4, .int (nB (a4 || (xHo (nI i))))), (3, .int (nB (a3 && (xHo (nI i))))), (2, .int (nB (a2 && (!(xEn (nI i)))))), (1, .int (nB (a1 && (xEn (nI i))))), (8, .int (nI i)), (7, .int su), (6, .int (nB a6)), (5, .int (nB a5)), (0, .ref 50)]) (st' := [.int 0]) (μ' := μ) (by rfl) ?_
                  exact zJ hJ6 rfl (by simp only [h16, lb_f, Int64.or_zero, nB_t, nB_f, Bool.not_true, Bool.not_false, Bool.and_true, Bool.true_and, Bool.false_and, Bool.and_false, Bool.or_true, Bool.true_or, Bool.false_or, Bool.or_false, cond_true, cond_false]) rfl
                · have h16 : (a5) = true := nB_n.mp (cn_eq.mp h16)
                  refine z_rcs hc hH 1 (pc' := 121) (lv' := [(4, .int (nB (a4 || (xHo (nI i))))), (3, .int (nB (a3 && (xHo (nI i))))), (2, .int (nB (a2 && (!(xEn (nI i)))))), (1, .int (nB (a1 && (xEn (nI i))))), (8, .int (nI i)), (7, .int su), (6, .int (nB a6)), (5, .int (nB a5)), (0, .ref 50)]) (st' := [.int (nI i)]) (μ' := μ) (by rfl) ?_
                  refine zq_call hc (z_cx_ok hH (by rfl)) (fb_X7_isTerminal d' (by omega) μ (nI i)) (by decide +kernel) (fun r9 μ9 hq => ?_)
                  obtain ⟨hμ9, rfl⟩ := hq
                  rw [hμ9]
                  clear hμ9 μ9
                  show Z 0 124 [(4, .int (nB (a4 || (xHo (nI i))))), (3, .int (nB (a3 && (xHo (nI i))))), (2, .int (nB (a2 && (!(xEn (nI i)))))), (1, .int (nB (a1 && (xEn (nI i))))), (8, .int (nI i)), (7, .int su), (6, .int (nB a6)), (5, .int (nB a5)), (0, .ref 50)] [.int (nB (xTe (nI i)))] μ
                  refine zq_if hc hH (by rfl) (tg := 131) (by rfl) (fun h17 => ?_) (fun h17 => ?_)
                  · have h17 : (xTe (nI i)) = false := nB_z.mp (cm_eq9.mp h17)
                    refine z_rcs hc hH 1 (pc' := 132) (lv' := [(4, .int (nB (a4 || (xHo (nI i))))), (3, .int (nB (a3 && (xHo (nI i))))), (2, .int (nB (a2 && (!(xEn (nI i)))))), (1, .int (nB (a1 && (xEn (nI i))))), (8, .int (nI i)), (7, .int su), (6, .int (nB a6)), (5, .int (nB a5)), (0, .ref 50)]) (st' := [.int 0]) (μ' := μ) (by rfl) ?_
                    exact zJ hJ6 rfl (by simp only [h16, h17, lb_f, Int64.or_zero, nB_t, nB_f, Bool.not_true, Bool.not_false, Bool.and_true, Bool.true_and, Bool.false_and, Bool.and_false, Bool.or_true, Bool.true_or, Bool.false_or, Bool.or_false, cond_true, cond_false]) rfl
                  · have h17 : (xTe (nI i)) = true := nB_n.mp (cn_eq.mp h17)
                    refine z_rcs hc hH 2 (pc' := 132) (lv' := [(4, .int (nB (a4 || (xHo (nI i))))), (3, .int (nB (a3 && (xHo (nI i))))), (2, .int (nB (a2 && (!(xEn (nI i)))))), (1, .int (nB (a1 && (xEn (nI i))))), (8, .int (nI i)), (7, .int su), (6, .int (nB a6)), (5, .int (nB a5)), (0, .ref 50)]) (st' := [.int 1]) (μ' := μ) (by rfl) ?_
                    exact zJ hJ6 rfl (by simp only [h16, h17, lb_f, Int64.or_zero, nB_t, nB_f, Bool.not_true, Bool.not_false, Bool.and_true, Bool.true_and, Bool.false_and, Bool.and_false, Bool.or_true, Bool.true_or, Bool.false_or, Bool.or_false, cond_true, cond_false]) rfl
              refine zq_if hc hH (by rfl) (tg := 107) (by rfl) (fun h18 => ?_) (fun h18 => ?_)
              · have h18 : (a4) = true := nB_n.mp (cm_ne.mp h18)
                refine z_rcs hc hH 2 (pc' := 112) (lv' := [(3, .int (nB (a3 && (xHo (nI i))))), (2, .int (nB (a2 && (!(xEn (nI i)))))), (1, .int (nB (a1 && (xEn (nI i))))), (8, .int (nI i)), (7, .int su), (6, .int (nB a6)), (5, .int (nB a5)), (4, .int (nB a4)), (0, .ref 50)]) (st' := [.int 1]) (μ' := μ) (by rfl) ?_
                exact zJ hJ5 rfl (by simp only [h18, lb_f, Int64.or_zero, nB_t, nB_f, Bool.not_true, Bool.not_false, Bool.and_true, Bool.true_and, Bool.false_and, Bool.and_false, Bool.or_true, Bool.true_or, Bool.false_or, Bool.or_false, cond_true, cond_false]) rfl
              · have h18 : (a4) = false := nB_z.mp (cn_ne.mp h18)
                refine z_rcs hc hH 1 (pc' := 101) (lv' := [(3, .int (nB (a3 && (xHo (nI i))))), (2, .int (nB (a2 && (!(xEn (nI i)))))), (1, .int (nB (a1 && (xEn (nI i))))), (8, .int (nI i)), (7, .int su), (6, .int (nB a6)), (5, .int (nB a5)), (4, .int (nB a4)), (0, .ref 50)]) (st' := [.int (nI i)]) (μ' := μ) (by rfl) ?_
                refine zq_call hc (z_cx_ok hH (by rfl)) (fb_X7_isHonour d' (by omega) μ (nI i)) (by decide +kernel) (fun r9 μ9 hq => ?_)
                obtain ⟨hμ9, rfl⟩ := hq
                rw [hμ9]
                clear hμ9 μ9
                show Z 0 104 [(3, .int (nB (a3 && (xHo (nI i))))), (2, .int (nB (a2 && (!(xEn (nI i)))))), (1, .int (nB (a1 && (xEn (nI i))))), (8, .int (nI i)), (7, .int su), (6, .int (nB a6)), (5, .int (nB a5)), (4, .int (nB a4)), (0, .ref 50)] [.int (nB (xHo (nI i)))] μ
                refine zq_if hc hH (by rfl) (tg := 111) (by rfl) (fun h19 => ?_) (fun h19 => ?_)
                · have h19 : (xHo (nI i)) = false := nB_z.mp (cm_eq9.mp h19)
                  refine z_rcs hc hH 1 (pc' := 112) (lv' := [(3, .int (nB (a3 && (xHo (nI i))))), (2, .int (nB (a2 && (!(xEn (nI i)))))), (1, .int (nB (a1 && (xEn (nI i))))), (8, .int (nI i)), (7, .int su), (6, .int (nB a6)), (5, .int (nB a5)), (4, .int (nB a4)), (0, .ref 50)]) (st' := [.int 0]) (μ' := μ) (by rfl) ?_
                  exact zJ hJ5 rfl (by simp only [h18, h19, lb_f, Int64.or_zero, nB_t, nB_f, Bool.not_true, Bool.not_false, Bool.and_true, Bool.true_and, Bool.false_and, Bool.and_false, Bool.or_true, Bool.true_or, Bool.false_or, Bool.or_false, cond_true, cond_false]) rfl
                · have h19 : (xHo (nI i)) = true := nB_n.mp (cn_eq.mp h19)
                  refine z_rcs hc hH 2 (pc' := 112) (lv' := [(3, .int (nB (a3 && (xHo (nI i))))), (2, .int (nB (a2 && (!(xEn (nI i)))))), (1, .int (nB (a1 && (xEn (nI i))))), (8, .int (nI i)), (7, .int su), (6, .int (nB a6)), (5, .int (nB a5)), (4, .int (nB a4)), (0, .ref 50)]) (st' := [.int 1]) (μ' := μ) (by rfl) ?_
                  exact zJ hJ5 rfl (by simp only [h18, h19, lb_f, Int64.or_zero, nB_t, nB_f, Bool.not_true, Bool.not_false, Bool.and_true, Bool.true_and, Bool.false_and, Bool.and_false, Bool.or_true, Bool.true_or, Bool.false_or, Bool.or_false, cond_true, cond_false]) rfl
            refine zq_if hc hH (by rfl) (tg := 92) (by rfl) (fun h20 => ?_) (fun h20 => ?_)
            · have h20 : (a3) = false := nB_z.mp (cm_eq9.mp h20)
              refine z_rcs hc hH 1 (pc' := 93) (lv' := [(2, .int (nB (a2 && (!(xEn (nI i)))))), (1, .int (nB (a1 && (xEn (nI i))))), (8, .int (nI i)), (7, .int su), (6, .int (nB a6)), (5, .int (nB a5)), (4, .int (nB a4)), (3, .int (nB a3)), (0, .ref 50)]) (st' := [.int 0]) (μ' := μ) (by rfl) ?_
              exact zJ hJ4 rfl (by simp only [h20, lb_f, Int64.or_zero, nB_t, nB_f, Bool.not_true, Bool.not_false, Bool.and_true, Bool.true_and, Bool.false_and, Bool.and_false, Bool.or_true, Bool.true_or, Bool.false_or, Bool.or_false, cond_true, cond_false]) rfl
            · have h20 : (a3) = true := nB_n.mp (cn_eq.mp h20)
              refine z_rcs hc hH 1 (pc' := 82) (lv' := [(2, .int (nB (a2 && (!(xEn (nI i)))))), (1, .int (nB (a1 && (xEn (nI i))))), (8, .int (nI i)), (7, .int su), (6, .int (nB a6)), (5, .int (nB a5)), (4, .int (nB a4)), (3, .int (nB a3)), (0, .ref 50)]) (st' := [.int (nI i)]) (μ' := μ) (by rfl) ?_
              refine zq_call hc (z_cx_ok hH (by rfl)) (fb_X7_isHonour d' (by omega) μ (nI i)) (by decide +kernel) (fun r9 μ9 hq => ?_)
              obtain ⟨hμ9, rfl⟩ := hq
              rw [hμ9]
              clear hμ9 μ9
              show Z 0 85 [(2, .int (nB (a2 && (!(xEn (nI i)))))), (1, .int (nB (a1 && (xEn (nI i))))), (8, .int (nI i)), (7, .int su), (6, .int (nB a6)), (5, .int (nB a5)), (4, .int (nB a4)), (3, .int (nB a3)), (0, .ref 50)] [.int (nB (xHo (nI i)))] μ
              refine zq_if hc hH (by rfl) (tg := 92) (by rfl) (fun h21 => ?_) (fun h21 => ?_)
              · have h21 : (xHo (nI i)) = false := nB_z.mp (cm_eq9.mp h21)
                refine z_rcs hc hH 1 (pc' := 93) (lv' := [(2, .int (nB (a2 && (!(xEn (nI i)))))), (1, .int (nB (a1 && (xEn (nI i))))), (8, .int (nI i)), (7, .int su), (6, .int (nB a6)), (5, .int (nB a5)), (4, .int (nB a4)), (3, .int (nB a3)), (0, .ref 50)]) (st' := [.int 0]) (μ' := μ) (by rfl) ?_
                exact zJ hJ4 rfl (by simp only [h20, h21, lb_f, Int64.or_zero, nB_t, nB_f, Bool.not_true, Bool.not_false, Bool.and_true, Bool.true_and, Bool.false_and, Bool.and_false, Bool.or_true, Bool.true_or, Bool.false_or, Bool.or_false, cond_true, cond_false]) rfl
              · have h21 : (xHo (nI i)) = true := nB_n.mp (cn_eq.mp h21)
                refine z_rcs hc hH 2 (pc' := 93) (lv' := [(2, .int (nB (a2 && (!(xEn (nI i)))))), (1, .int (nB (a1 && (xEn (nI i))))), (8, .int (nI i)), (7, .int su), (6, .int (nB a6)), (5, .int (nB a5)), (4, .int (nB a4)), (3, .int (nB a3)), (0, .ref 50)]) (st' := [.int 1]) (μ' := μ) (by rfl) ?_
                exact zJ hJ4 rfl (by simp only [h20, h21, lb_f, Int64.or_zero, nB_t, nB_f, Bool.not_true, Bool.not_false, Bool.and_true, Bool.true_and, Bool.false_and, Bool.and_false, Bool.or_true, Bool.true_or, Bool.false_or, Bool.or_false, cond_true, cond_false]) rfl
          refine zq_if hc hH (by rfl) (tg := 74) (by rfl) (fun h22 => ?_) (fun h22 => ?_)
          · have h22 : (a2) = false := nB_z.mp (cm_eq9.mp h22)
            refine z_rcs hc hH 1 (pc' := 75) (lv' := [(1, .int (nB (a1 && (xEn (nI i))))), (8, .int (nI i)), (7, .int su), (6, .int (nB a6)), (5, .int (nB a5)), (4, .int (nB a4)), (3, .int (nB a3)), (2, .int (nB a2)), (0, .ref 50)]) (st' := [.int 0]) (μ' := μ) (by rfl) ?_
            exact zJ hJ3 rfl (by simp only [h22, lb_f, Int64.or_zero, nB_t, nB_f, Bool.not_true, Bool.not_false, Bool.and_true, Bool.true_and, Bool.false_and, Bool.and_false, Bool.or_true, Bool.true_or, Bool.false_or, Bool.or_false, cond_true, cond_false]) rfl
          · have h22 : (a2) = true := nB_n.mp (cn_eq.mp h22)
            refine z_rcs hc hH 1 (pc' := 64) (lv' := [(1, .int (nB (a1 && (xEn (nI i))))), (8, .int (nI i)), (7, .int su), (6, .int (nB a6)), (5, .int (nB a5)), (4, .int (nB a4)), (3, .int (nB a3)), (2, .int (nB a2)), (0, .ref 50)]) (st' := [.int (nI i)]) (μ' := μ) (by rfl) ?_
            refine zq_call hc (z_cx_ok hH (by rfl)) (fb_X7_isEnd d' (by omega) μ (nI i)) (by decide +kernel) (fun r9 μ9 hq => ?_)
            obtain ⟨hμ9, rfl⟩ := hq
            rw [hμ9]
            clear hμ9 μ9
            show Z 0 67 [(1, .int (nB (a1 && (xEn (nI i))))), (8, .int (nI i)), (7, .int su), (6, .int (nB a6)), (5, .int (nB a5)), (4, .int (nB a4)), (3, .int (nB a3)), (2, .int (nB a2)), (0, .ref 50)] [.int (nB (xEn (nI i)))] μ
            refine zq_if hc hH (by rfl) (tg := 74) (by rfl) (fun h23 => ?_) (fun h23 => ?_)
            · have h23 : (xEn (nI i)) = true := nB_n.mp (cm_ne.mp h23)
              refine z_rcs hc hH 1 (pc' := 75) (lv' := [(1, .int (nB (a1 && (xEn (nI i))))), (8, .int (nI i)), (7, .int su), (6, .int (nB a6)), (5, .int (nB a5)), (4, .int (nB a4)), (3, .int (nB a3)), (2, .int (nB a2)), (0, .ref 50)]) (st' := [.int 0]) (μ' := μ) (by rfl) ?_
              exact zJ hJ3 rfl (by simp only [h22, h23, lb_f, Int64.or_zero, nB_t, nB_f, Bool.not_true, Bool.not_false, Bool.and_true, Bool.true_and, Bool.false_and, Bool.and_false, Bool.or_true, Bool.true_or, Bool.false_or, Bool.or_false, cond_true, cond_false]) rfl
            · have h23 : (xEn (nI i)) = false := nB_z.mp (cn_ne.mp h23)
              refine z_rcs hc hH 2 (pc' := 75) (lv' := [(1, .int (nB (a1 && (xEn (nI i))))), (8, .int (nI i)), (7, .int su), (6, .int (nB a6)), (5, .int (nB a5)), (4, .int (nB a4)), (3, .int (nB a3)), (2, .int (nB a2)), (0, .ref 50)]) (st' := [.int 1]) (μ' := μ) (by rfl) ?_
              exact zJ hJ3 rfl (by simp only [h22, h23, lb_f, Int64.or_zero, nB_t, nB_f, Bool.not_true, Bool.not_false, Bool.and_true, Bool.true_and, Bool.false_and, Bool.and_false, Bool.or_true, Bool.true_or, Bool.false_or, Bool.or_false, cond_true, cond_false]) rfl
        refine zq_if hc hH (by rfl) (tg := 56) (by rfl) (fun h24 => ?_) (fun h24 => ?_)
        · have h24 : (a1) = false := nB_z.mp (cm_eq9.mp h24)
          refine z_rcs hc hH 1 (pc' := 57) (lv' := [(8, .int (nI i)), (7, .int su), (6, .int (nB a6)), (5, .int (nB a5)), (4, .int (nB a4)), (3, .int (nB a3)), (2, .int (nB a2)), (1, .int (nB a1)), (0, .ref 50)]) (st' := [.int 0]) (μ' := μ) (by rfl) ?_
          exact zJ hJ2 rfl (by simp only [h24, lb_f, Int64.or_zero, nB_t, nB_f, Bool.not_true, Bool.not_false, Bool.and_true, Bool.true_and, Bool.false_and, Bool.and_false, Bool.or_true, Bool.true_or, Bool.false_or, Bool.or_false, cond_true, cond_false]) rfl
        · have h24 : (a1) = true := nB_n.mp (cn_eq.mp h24)
          refine z_rcs hc hH 1 (pc' := 46) (lv' := [(8, .int (nI i)), (7, .int su), (6, .int (nB a6)), (5, .int (nB a5)), (4, .int (nB a4)), (3, .int (nB a3)), (2, .int (nB a2)), (1, .int (nB a1)), (0, .ref 50)]) (st' := [.int (nI i)]) (μ' := μ) (by rfl) ?_
          refine zq_call hc (z_cx_ok hH (by rfl)) (fb_X7_isEnd d' (by omega) μ (nI i)) (by decide +kernel) (fun r9 μ9 hq => ?_)
          obtain ⟨hμ9, rfl⟩ := hq
          rw [hμ9]
          clear hμ9 μ9
          show Z 0 49 [(8, .int (nI i)), (7, .int su), (6, .int (nB a6)), (5, .int (nB a5)), (4, .int (nB a4)), (3, .int (nB a3)), (2, .int (nB a2)), (1, .int (nB a1)), (0, .ref 50)] [.int (nB (xEn (nI i)))] μ
          refine zq_if hc hH (by rfl) (tg := 56) (by rfl) (fun h25 => ?_) (fun h25 => ?_)
          · have h25 : (xEn (nI i)) = false := nB_z.mp (cm_eq9.mp h25)
            refine z_rcs hc hH 1 (pc' := 57) (lv' := [(8, .int (nI i)), (7, .int su), (6, .int (nB a6)), (5, .int (nB a5)), (4, .int (nB a4)), (3, .int (nB a3)), (2, .int (nB a2)), (1, .int (nB a1)), (0, .ref 50)]) (st' := [.int 0]) (μ' := μ) (by rfl) ?_
            exact zJ hJ2 rfl (by simp only [h24, h25, lb_f, Int64.or_zero, nB_t, nB_f, Bool.not_true, Bool.not_false, Bool.and_true, Bool.true_and, Bool.false_and, Bool.and_false, Bool.or_true, Bool.true_or, Bool.false_or, Bool.or_false, cond_true, cond_false]) rfl
          · have h25 : (xEn (nI i)) = true := nB_n.mp (cn_eq.mp h25)
            refine z_rcs hc hH 2 (pc' := 57) (lv' := [(8, .int (nI i)), (7, .int su), (6, .int (nB a6)), (5, .int (nB a5)), (4, .int (nB a4)), (3, .int (nB a3)), (2, .int (nB a2)), (1, .int (nB a1)), (0, .ref 50)]) (st' := [.int 1]) (μ' := μ) (by rfl) ?_
            exact zJ hJ2 rfl (by simp only [h24, h25, lb_f, Int64.or_zero, nB_t, nB_f, Bool.not_true, Bool.not_false, Bool.and_true, Bool.true_and, Bool.false_and, Bool.and_false, Bool.or_true, Bool.true_or, Bool.false_or, Bool.or_false, cond_true, cond_false]) rfl
      · have h1 : (decide ((ofv (μ.1 58 i) (μ.1 52) (μ.1 53) (nI i) q) = 0)) = true := decide_eq_true (cn_ne.mp h1)
        refine z_rcs hc hH 3 (pc' := 21) (lv' := [(8, .int ((nI i) + 1)), (7, .int su), (6, .int (nB a6)), (5, .int (nB a5)), (4, .int (nB a4)), (3, .int (nB a3)), (2, .int (nB a2)), (1, .int (nB a1)), (0, .ref 50)]) (st' := []) (μ' := μ) (by rfl) ?_
        rw [nI_1]
        refine (ih (i + 1) (a1, a2, a3, a4, a5, a6, su) (by omega) ?_).1
        have e : tSt μ q i (a1, a2, a3, a4, a5, a6, su) = (a1, a2, a3, a4, a5, a6, su) := by unfold tSt; simp only [h1, cond_true, cond_false] <;> rfl
        rw [e] at K; exact K
    have b2 : Z 0 21 [(8, .int (nI i)), (6, .int (nB a6)), (5, .int (nB a5)), (4, .int (nB a4)), (3, .int (nB a3)), (2, .int (nB a2)), (1, .int (nB a1)), (7, .int su), (0, .ref 50)] [] μ := by
      refine z_rcs hc hH 2 (pc' := 25) (lv' := [(8, .int (nI i)), (6, .int (nB a6)), (5, .int (nB a5)), (4, .int (nB a4)), (3, .int (nB a3)), (2, .int (nB a2)), (1, .int (nB a1)), (7, .int su), (0, .ref 50)]) (st' := [.int 34, .int (nI i)]) (μ' := μ) (by rfl) ?_
      refine zq_ic hc hH (by rfl) (tg := 213) (by rfl) (fun h9 => (zb_t h9 (ge_nI (n := 34) (i := i) (by omega) (by decide))).elim) (fun _ => ?_)
      refine z_rcs hc hH 2 (pc' := 31) (lv' := [(8, .int (nI i)), (6, .int (nB a6)), (5, .int (nB a5)), (4, .int (nB a4)), (3, .int (nB a3)), (2, .int (nB a2)), (1, .int (nB a1)), (7, .int su), (0, .ref 50)]) (st' := [.int (nI i), .ref 50]) (μ' := μ) (by rfl) ?_
      refine zq_call hc (z_cx_ok hH (by rfl)) (fc_X7_of d' (by omega) μ (nI i) hin q hq e4) (by decide +kernel) (fun r9 μ9 hq => ?_)
      obtain ⟨hμ9, rfl⟩ := hq
      rw [hμ9]
      clear hμ9 μ9
      show Z 0 34 [(8, .int (nI i)), (6, .int (nB a6)), (5, .int (nB a5)), (4, .int (nB a4)), (3, .int (nB a3)), (2, .int (nB a2)), (1, .int (nB a1)), (7, .int su), (0, .ref 50)] [.int (ofv (μ.1 58 (nI i).toNatClampNeg) (μ.1 52) (μ.1 53) (nI i) q)] μ
      rw [cl]
      refine zq_if hc hH (by rfl) (tg := 40) (by rfl) (fun h1 => ?_) (fun h1 => ?_)
      · have h1 : (decide ((ofv (μ.1 58 i) (μ.1 52) (μ.1 53) (nI i) q) = 0)) = false := decide_eq_false (cm_ne.mp h1)
        refine z_rcs hc hH 1 (pc' := 41) (lv' := [(8, .int (nI i)), (6, .int (nB a6)), (5, .int (nB a5)), (4, .int (nB a4)), (3, .int (nB a3)), (2, .int (nB a2)), (1, .int (nB a1)), (7, .int su), (0, .ref 50)]) (st' := [.int (nB a1)]) (μ' := μ) (by rfl) ?_
        have hJ2 : Z 0 57 [(8, .int (nI i)), (6, .int (nB a6)), (5, .int (nB a5)), (4, .int (nB a4)), (3, .int (nB a3)), (2, .int (nB a2)), (1, .int (nB a1)), (7, .int su), (0, .ref 50)] [.int (nB (a1 && (xEn (nI i))))] μ := by
          refine z_rcs hc hH 2 (pc' := 59) (lv' := [(1, .int (nB (a1 && (xEn (nI i))))), (8, .int (nI i)), (6, .int (nB a6)), (5, .int (nB a5)), (4, .int (nB a4)), (3, .int (nB a3)), (2, .int (nB a2)), (7, .int su), (0, .ref 50)]) (st' := [.int (nB a2)]) (μ' := μ) (by rfl) ?_
          have hJ3 : Z 0 75 [(1, .int (nB (a1 && (xEn (nI i))))), (8, .int (nI i)), (6, .int (nB a6)), (5, .int (nB a5)), (4, .int (nB a4)), (3, .int (nB a3)), (2, .int (nB a2)), (7, .int su), (0, .ref 50)] [.int (nB (a2 && (!(xEn (nI i)))))] μ := by
            refine z_rcs hc hH 2 (pc' := 77) (lv' := [(2, .int (nB (a2 && (!(xEn (nI i)))))), (1, .int (nB (a1 && (xEn (nI i))))), (8, .int (nI i)), (6, .int (nB a6)), (5, .int (nB a5)), (4, .int (nB a4)), (3, .int (nB a3)), (7, .int su), (0, .ref 50)]) (st' := [.int (nB a3)]) (μ' := μ) (by rfl) ?_
            have hJ4 : Z 0 93 [(2, .int (nB (a2 && (!(xEn (nI i)))))), (1, .int (nB (a1 && (xEn (nI i))))), (8, .int (nI i)), (6, .int (nB a6)), (5, .int (nB a5)), (4, .int (nB a4)), (3, .int (nB a3)), (7, .int su), (0, .ref 50)] [.int (nB (a3 && (xHo (nI i))))] μ := by
              refine z_rcs hc hH 2 (pc' := 96) (lv' := [(3, .int (nB (a3 && (xHo (nI i))))), (2, .int (nB (a2 && (!(xEn (nI i)))))), (1, .int (nB (a1 && (xEn (nI i))))), (8, .int (nI i)), (6, .int (nB a6)), (5, .int (nB a5)), (4, .int (nB a4)), (7, .int su), (0, .ref 50)]) (st' := [.int (nB a4)]) (μ' := μ) (by rfl) ?_
              have hJ5 : Z 0 112 [(3, .int (nB (a3 && (xHo (nI i))))), (2, .int (nB (a2 && (!(xEn (nI i)))))), (1, .int (nB (a1 && (xEn (nI i))))), (8, .int (nI i)), (6, .int (nB a6)), (5, .int (nB a5)), (4, .int (nB a4)), (7, .int su), (0, .ref 50)] [.int (nB (a4 || (xHo (nI i))))] μ := by
                refine z_rcs hc hH 2 (pc' := 116) (lv' := [(4, .int (nB (a4 || (xHo (nI i))))), (3, .int (nB (a3 && (xHo (nI i))))), (2, .int (nB (a2 && (!(xEn (nI i)))))), (1, .int (nB (a1 && (xEn (nI i))))), (8, .int (nI i)), (6, .int (nB a6)), (5, .int (nB a5)), (7, .int su), (0, .ref 50)]) (st' := [.int (nB a5)]) (μ' := μ) (by rfl) ?_
                have hJ6 : Z 0 132 [(4, .int (nB (a4 || (xHo (nI i))))), (3, .int (nB (a3 && (xHo (nI i))))), (2, .int (nB (a2 && (!(xEn (nI i)))))), (1, .int (nB (a1 && (xEn (nI i))))), (8, .int (nI i)), (6, .int (nB a6)), (5, .int (nB a5)), (7, .int su), (0, .ref 50)] [.int (nB (a5 && (xTe (nI i))))] μ := by
                  refine z_rcs hc hH 2 (pc' := 136) (lv' := [(5, .int (nB (a5 && (xTe (nI i))))), (4, .int (nB (a4 || (xHo (nI i))))), (3, .int (nB (a3 && (xHo (nI i))))), (2, .int (nB (a2 && (!(xEn (nI i)))))), (1, .int (nB (a1 && (xEn (nI i))))), (8, .int (nI i)), (6, .int (nB a6)), (7, .int su), (0, .ref 50)]) (st' := [.int (nB a6)]) (μ' := μ) (by rfl) ?_
                  have hJ7 : Z 0 186 [(5, .int (nB (a5 && (xTe (nI i))))), (4, .int (nB (a4 || (xHo (nI i))))), (3, .int (nB (a3 && (xHo (nI i))))), (2, .int (nB (a2 && (!(xEn (nI i)))))), (1, .int (nB (a1 && (xEn (nI i))))), (8, .int (nI i)), (6, .int (nB a6)), (7, .int su), (0, .ref 50)] [.int (nB (a6 && ((decide ((nI i) = 19)) || ((decide ((nI i) = 20)) || ((decide ((nI i) = 21)) || ((decide ((nI i) = 23)) || ((decide ((nI i) = 25)) || (decide ((nI i) = 32)))))))))] μ := by
                    refine z_rcs hc hH 3 (pc' := 192) (lv' := [(6, .int (nB (a6 && ((decide ((nI i) = 19)) || ((decide ((nI i) = 20)) || ((decide ((nI i) = 21)) || ((decide ((nI i) = 23)) || ((decide ((nI i) = 25)) || (decide ((nI i) = 32)))))))))), (5, .int (nB (a5 && (xTe (nI i))))), (4, .int (nB (a4 || (xHo (nI i))))), (3, .int (nB (a3 && (xHo (nI i))))), (2, .int (nB (a2 && (!(xEn (nI i)))))), (1, .int (nB (a1 && (xEn (nI i))))), (8, .int (nI i)), (7, .int su), (0, .ref 50)]) (st' := [.int 27, .int (nI i)]) (μ' := μ) (by rfl) ?_
                    refine zq_ic hc hH (by rfl) (tg := 207) (by rfl) (fun h8 => ?_) (fun h8 => ?_)
                    · have h8 : (decide (27 ≤ (nI i))) = true := decide_eq_true (cm_ge.mp h8)
                      refine z_rcs hc hH 2 (pc' := 21) (lv' := [(8, .int ((nI i) + 1)), (6, .int (nB (a6 && ((decide ((nI i) = 19)) || ((decide ((nI i) = 20)) || ((decide ((nI i) = 21)) || ((decide ((nI i) = 23)) || ((decide ((nI i) = 25)) || (decide ((nI i) = 32)))))))))), (5, .int (nB (a5 && (xTe (nI i))))), (4, .int (nB (a4 || (xHo (nI i))))), (3, .int (nB (a3 && (xHo (nI i))))), (2, .int (nB (a2 && (!(xEn (nI i)))))), (1, .int (nB (a1 && (xEn (nI i))))), (7, .int su), (0, .ref 50)]) (st' := []) (μ' := μ) (by rfl) ?_
                      rw [nI_1]
                      refine (ih (i + 1) (a1 && (xEn (nI i)), a2 && (!(xEn (nI i))), a3 && (xHo (nI i)), a4 || (xHo (nI i)), a5 && (xTe (nI i)), a6 && ((decide ((nI i) = 19)) || ((decide ((nI i) = 20)) || ((decide ((nI i) = 21)) || ((decide ((nI i) = 23)) || ((decide ((nI i) = 25)) || (decide ((nI i) = 32))))))), su) (by omega) ?_).2
                      have e : tSt μ q i (a1, a2, a3, a4, a5, a6, su) = (a1 && (xEn (nI i)), a2 && (!(xEn (nI i))), a3 && (xHo (nI i)), a4 || (xHo (nI i)), a5 && (xTe (nI i)), a6 && ((decide ((nI i) = 19)) || ((decide ((nI i) = 20)) || ((decide ((nI i) = 21)) || ((decide ((nI i) = 23)) || ((decide ((nI i) = 25)) || (decide ((nI i) = 32))))))), su) := by unfold tSt; simp only [h1, h8, cond_true, cond_false] <;> rfl
                      rw [e] at K; exact K
                    · have h8 : (decide (27 ≤ (nI i))) = false := decide_eq_false (cn_ge.mp h8)
                      refine z_rcs hc hH 10 (pc' := 21) (lv' := [(8, .int ((nI i) + 1)), (7, .int (su ||| (1 <<< (((nI i) / 9) &&& 31)))), (6, .int (nB (a6 && ((decide ((nI i) = 19)) || ((decide ((nI i) = 20)) || ((decide ((nI i) = 21)) || ((decide ((nI i) = 23)) || ((decide ((nI i) = 25)) || (decide ((nI i) = 32)))))))))), (5, .int (nB (a5 && (xTe (nI i))))), (4, .int (nB (a4 || (xHo (nI i))))), (3, .int (nB (a3 && (xHo (nI i))))), (2, .int (nB (a2 && (!(xEn (nI i)))))), (1, .int (nB (a1 && (xEn (nI i))))), (0, .ref 50)]) (st' := []) (μ' := μ) (by rfl) ?_
                      rw [nI_1]
                      refine (ih (i + 1) (a1 && (xEn (nI i)), a2 && (!(xEn (nI i))), a3 && (xHo (nI i)), a4 || (xHo (nI i)), a5 && (xTe (nI i)), a6 && ((decide ((nI i) = 19)) || ((decide ((nI i) = 20)) || ((decide ((nI i) = 21)) || ((decide ((nI i) = 23)) || ((decide ((nI i) = 25)) || (decide ((nI i) = 32))))))), su ||| (1 <<< (((nI i) / 9) &&& 31))) (by omega) ?_).1
                      have e : tSt μ q i (a1, a2, a3, a4, a5, a6, su) = (a1 && (xEn (nI i)), a2 && (!(xEn (nI i))), a3 && (xHo (nI i)), a4 || (xHo (nI i)), a5 && (xTe (nI i)), a6 && ((decide ((nI i) = 19)) || ((decide ((nI i) = 20)) || ((decide ((nI i) = 21)) || ((decide ((nI i) = 23)) || ((decide ((nI i) = 25)) || (decide ((nI i) = 32))))))), su ||| (1 <<< (((nI i) / 9) &&& 31))) := by unfold tSt; simp only [h1, h8, cond_true, cond_false] <;> rfl
                      rw [e] at K; exact K
                  refine zq_if hc hH (by rfl) (tg := 185) (by rfl) (fun h9 => ?_) (fun h9 => ?_)
                  · have h9 : (a6) = false := nB_z.mp (cm_eq9.mp h9)
                    refine z_rcs hc hH 1 (pc' := 186) (lv' := [(5, .int (nB (a5 && (xTe (nI i))))), (4, .int (nB (a4 || (xHo (nI i))))), (3, .int (nB (a3 && (xHo (nI i))))), (2, .int (nB (a2 && (!(xEn (nI i)))))), (1, .int (nB (a1 && (xEn (nI i))))), (8, .int (nI i)), (6, .int (nB a6)), (7, .int su), (0, .ref 50)]) (st' := [.int 0]) (μ' := μ) (by rfl) ?_
                    exact zJ hJ7 rfl (by simp only [h9, lb_f, Int64.or_zero, nB_t, nB_f, Bool.not_true, Bool.not_false, Bool.and_true, Bool.true_and, Bool.false_and, Bool.and_false, Bool.or_true, Bool.true_or, Bool.false_or, Bool.or_false, cond_true, cond_false]) rfl
                  · have h9 : (a6) = true := nB_n.mp (cn_eq.mp h9)
                    refine z_rcs hc hH 2 (pc' := 143) (lv' := [(5, .int (nB (a5 && (xTe (nI i))))), (4, .int (nB (a4 || (xHo (nI i))))), (3, .int (nB (a3 && (xHo (nI i))))), (2, .int (nB (a2 && (!(xEn (nI i)))))), (1, .int (nB (a1 && (xEn (nI i))))), (8, .int (nI i)), (6, .int (nB a6)), (7, .int su), (0, .ref 50)]) (st' := [.int 19, .int (nI i)]) (μ' := μ) (by rfl) ?_
                    refine zq_ic hc hH (by rfl) (tg := 181) (by rfl) (fun h10 => ?_) (fun h10 => ?_)
                    · have h10 : (decide ((nI i) = 19)) = true := decide_eq_true (cm_eq9.mp h10)
                      refine z_rcs hc hH 2 (pc' := 186) (lv' := [(5, .int (nB (a5 && (xTe (nI i))))), (4, .int (nB (a4 || (xHo (nI i))))), (3, .int (nB (a3 && (xHo (nI i))))), (2, .int (nB (a2 && (!(xEn (nI i)))))), (1, .int (nB (a1 && (xEn (nI i))))), (8, .int (nI i)), (6, .int (nB a6)), (7, .int su), (0, .ref 50)]) (st' := [.int 1]) (μ' := μ) (by rfl) ?_
                      exact zJ hJ7 rfl (by simp only [h9, h10, lb_f, Int64.or_zero, nB_t, nB_f, Bool.not_true, Bool.not_false, Bool.and_true, Bool.true_and, Bool.false_and, Bool.and_false, Bool.or_true, Bool.true_or, Bool.false_or, Bool.or_false, cond_true, cond_false]) rfl
                    · have h10 : (decide ((nI i) = 19)) = false := decide_eq_false (cn_eq.mp h10)
                      refine z_rcs hc hH 2 (pc' := 150) (lv' := [(5, .int (nB (a5 && (xTe (nI i))))), (4, .int (nB (a4 || (xHo (nI i))))), (3, .int (nB (a3 && (xHo (nI i))))), (2, .int (nB (a2 && (!(xEn (nI i)))))), (1, .int (nB (a1 && (xEn (nI i))))), (8, .int (nI i)), (6, .int (nB a6)), (7, .int su), (0, .ref 50)]) (st' := [.int 20, .int (nI i)]) (μ' := μ) (by rfl) ?_
                      refine zq_ic hc hH (by rfl) (tg := 181) (by rfl) (fun h11 => ?_) (fun h11 => ?_)
                      · have h11 : (decide ((nI i) = 20)) = true := decide_eq_true (cm_eq9.mp h11)
                        refine z_rcs hc hH 2 (pc' := 186) (lv' := [(5, .int (nB (a5 && (xTe (nI i))))), (4, .int (nB (a4 || (xHo (nI i))))), (3, .int (nB (a3 && (xHo (nI i))))), (2, .int (nB (a2 && (!(xEn (nI i)))))), (1, .int (nB (a1 && (xEn (nI i))))), (8, .int (nI i)), (6, .int (nB a6)), (7, .int su), (0, .ref 50)]) (st' := [.int 1]) (μ' := μ) (by rfl) ?_
                        exact zJ hJ7 rfl (by simp only [h9, h10, h11, lb_f, Int64.or_zero, nB_t, nB_f, Bool.not_true, Bool.not_false, Bool.and_true, Bool.true_and, Bool.false_and, Bool.and_false, Bool.or_true, Bool.true_or, Bool.false_or, Bool.or_false, cond_true, cond_false]) rfl
                      · have h11 : (decide ((nI i) = 20)) = false := decide_eq_false (cn_eq.mp h11)
                        refine z_rcs hc hH 2 (pc' := 157) (lv' := [(5, .int (nB (a5 && (xTe (nI i))))), (4, .int (nB (a4 || (xHo (nI i))))), (3, .int (nB (a3 && (xHo (nI i))))), (2, .int (nB (a2 && (!(xEn (nI i)))))), (1, .int (nB (a1 && (xEn (nI i))))), (8, .int (nI i)), (6, .int (nB a6)), (7, .int su), (0, .ref 50)]) (st' := [.int 21, .int (nI i)]) (μ' := μ) (by rfl) ?_
                        refine zq_ic hc hH (by rfl) (tg := 181) (by rfl) (fun h12 => ?_) (fun h12 => ?_)
                        · have h12 : (decide ((nI i) = 21)) = true := decide_eq_true (cm_eq9.mp h12)
                          refine z_rcs hc hH 2 (pc' := 186) (lv' := [(5, .int (nB (a5 && (xTe (nI i))))), (4, .int (nB (a4 || (xHo (nI i))))), (3, .int (nB (a3 && (xHo (nI i))))), (2, .int (nB (a2 && (!(xEn (nI i)))))), (1, .int (nB (a1 && (xEn (nI i))))), (8, .int (nI i)), (6, .int (nB a6)), (7, .int su), (0, .ref 50)]) (st' := [.int 1]) (μ' := μ) (by rfl) ?_
                          exact zJ hJ7 rfl (by simp only [h9, h10, h11, h12, lb_f, Int64.or_zero, nB_t, nB_f, Bool.not_true, Bool.not_false, Bool.and_true, Bool.true_and, Bool.false_and, Bool.and_false, Bool.or_true, Bool.true_or, Bool.false_or, Bool.or_false, cond_true, cond_false]) rfl
                        · have h12 : (decide ((nI i) = 21)) = false := decide_eq_false (cn_eq.mp h12)
                          refine z_rcs hc hH 2 (pc' := 164) (lv' := [(5, .int (nB (a5 && (xTe (nI i))))), (4, .int (nB (a4 || (xHo (nI i))))), (3, .int (nB (a3 && (xHo (nI i))))), (2, .int (nB (a2 && (!(xEn (nI i)))))), (1, .int (nB (a1 && (xEn (nI i))))), (8, .int (nI i)), (6, .int (nB a6)), (7, .int su), (0, .ref 50)]) (st' := [.int 23, .int (nI i)]) (μ' := μ) (by rfl) ?_
                          refine zq_ic hc hH (by rfl) (tg := 181) (by rfl) (fun h13 => ?_) (fun h13 => ?_)
                          · have h13 : (decide ((nI i) = 23)) = true := decide_eq_true (cm_eq9.mp h13)
                            refine z_rcs hc hH 2 (pc' := 186) (lv' := [(5, .int (nB (a5 && (xTe (nI i))))), (4, .int (nB (a4 || (xHo (nI i))))), (3, .int (nB (a3 && (xHo (nI i))))), (2, .int (nB (a2 && (!(xEn (nI i)))))), (1, .int (nB (a1 && (xEn (nI i))))), (8, .int (nI i)), (6, .int (nB a6)), (7, .int su), (0, .ref 50)]) (st' := [.int 1]) (μ' := μ) (by rfl) ?_
                            exact zJ hJ7 rfl (by simp only [h9, h10, h11, h12, h13, lb_f, Int64.or_zero, nB_t, nB_f, Bool.not_true, Bool.not_false, Bool.and_true, Bool.true_and, Bool.false_and, Bool.and_false, Bool.or_true, Bool.true_or, Bool.false_or, Bool.or_false, cond_true, cond_false]) rfl
                          · have h13 : (decide ((nI i) = 23)) = false := decide_eq_false (cn_eq.mp h13)
                            refine z_rcs hc hH 2 (pc' := 171) (lv' := [(5, .int (nB (a5 && (xTe (nI i))))), (4, .int (nB (a4 || (xHo (nI i))))), (3, .int (nB (a3 && (xHo (nI i))))), (2, .int (nB (a2 && (!(xEn (nI i)))))), (1, .int (nB (a1 && (xEn (nI i))))), (8, .int (nI i)), (6, .int (nB a6)), (7, .int su), (0, .ref 50)]) (st' := [.int 25, .int (nI i)]) (μ' := μ) (by rfl) ?_
                            refine zq_ic hc hH (by rfl) (tg := 181) (by rfl) (fun h14 => ?_) (fun h14 => ?_)
                            · have h14 : (decide ((nI i) = 25)) = true := decide_eq_true (cm_eq9.mp h14)
                              refine z_rcs hc hH 2 (pc' := 186) (lv' := [(5, .int (nB (a5 && (xTe (nI i))))), (4, .int (nB (a4 || (xHo (nI i))))), (3, .int (nB (a3 && (xHo (nI i))))), (2, .int (nB (a2 && (!(xEn (nI i)))))), (1, .int (nB (a1 && (xEn (nI i))))), (8, .int (nI i)), (6, .int (nB a6)), (7, .int su), (0, .ref 50)]) (st' := [.int 1]) (μ' := μ) (by rfl) ?_
                              exact zJ hJ7 rfl (by simp only [h9, h10, h11, h12, h13, h14, lb_f, Int64.or_zero, nB_t, nB_f, Bool.not_true, Bool.not_false, Bool.and_true, Bool.true_and, Bool.false_and, Bool.and_false, Bool.or_true, Bool.true_or, Bool.false_or, Bool.or_false, cond_true, cond_false]) rfl
                            · have h14 : (decide ((nI i) = 25)) = false := decide_eq_false (cn_eq.mp h14)
                              refine z_rcs hc hH 2 (pc' := 178) (lv' := [(5, .int (nB (a5 && (xTe (nI i))))), (4, .int (nB (a4 || (xHo (nI i))))), (3, .int (nB (a3 && (xHo (nI i))))), (2, .int (nB (a2 && (!(xEn (nI i)))))), (1, .int (nB (a1 && (xEn (nI i))))), (8, .int (nI i)), (6, .int (nB a6)), (7, .int su), (0, .ref 50)]) (st' := [.int 32, .int (nI i)]) (μ' := μ) (by rfl) ?_
                              refine zq_ic hc hH (by rfl) (tg := 185) (by rfl) (fun h15 => ?_) (fun h15 => ?_)
                              · have h15 : (decide ((nI i) = 32)) = false := decide_eq_false (cm_ne.mp h15)
                                refine z_rcs hc hH 1 (pc' := 186) (lv' := [(5, .int (nB (a5 && (xTe (nI i))))), (4, .int (nB (a4 || (xHo (nI i))))), (3, .int (nB (a3 && (xHo (nI i))))), (2, .int (nB (a2 && (!(xEn (nI i)))))), (1, .int (nB (a1 && (xEn (nI i))))), (8, .int (nI i)), (6, .int (nB a6)), (7, .int su), (0, .ref 50)]) (st' := [.int 0]) (μ' := μ) (by rfl) ?_
                                exact zJ hJ7 rfl (by simp only [h9, h10, h11, h12, h13, h14, h15, lb_f, Int64.or_zero, nB_t, nB_f, Bool.not_true, Bool.not_false, Bool.and_true, Bool.true_and, Bool.false_and, Bool.and_false, Bool.or_true, Bool.true_or, Bool.false_or, Bool.or_false, cond_true, cond_false]) rfl
                              · have h15 : (decide ((nI i) = 32)) = true := decide_eq_true (cn_ne.mp h15)
                                refine z_rcs hc hH 2 (pc' := 186) (lv' := [(5, .int (nB (a5 && (xTe (nI i))))), (4, .int (nB (a4 || (xHo (nI i))))), (3, .int (nB (a3 && (xHo (nI i))))), (2, .int (nB (a2 && (!(xEn (nI i)))))), (1, .int (nB (a1 && (xEn (nI i))))), (8, .int (nI i)), (6, .int (nB a6)), (7, .int su), (0, .ref 50)]) (st' := [.int 1]) (μ' := μ) (by rfl) ?_
                                exact zJ hJ7 rfl (by simp only [h9, h10, h11, h12, h13, h14, h15, lb_f, Int64.or_zero, nB_t, nB_f, Bool.not_true, Bool.not_false, Bool.and_true, Bool.true_and, Bool.false_and, Bool.and_false, Bool.or_true, Bool.true_or, Bool.false_or, Bool.or_false, cond_true, cond_false]) rfl
                refine zq_if hc hH (by rfl) (tg := 131) (by rfl) (fun h16 => ?_) (fun h16 => ?_)
                · have h16 : (a5) = false := nB_z.mp (cm_eq9.mp h16)
                  refine z_rcs hc hH 1 (pc' := 132) (lv' := [(4, .int (nB (a4 || (xHo (nI i))))), (3, .int (nB (a3 && (xHo (nI i))))), (2, .int (nB (a2 && (!(xEn (nI i)))))), (1, .int (nB (a1 && (xEn (nI i))))), (8, .int (nI i)), (6, .int (nB a6)), (5, .int (nB a5)), (7, .int su), (0, .ref 50)]) (st' := [.int 0]) (μ' := μ) (by rfl) ?_
                  exact zJ hJ6 rfl (by simp only [h16, lb_f, Int64.or_zero, nB_t, nB_f, Bool.not_true, Bool.not_false, Bool.and_true, Bool.true_and, Bool.false_and, Bool.and_false, Bool.or_true, Bool.true_or, Bool.false_or, Bool.or_false, cond_true, cond_false]) rfl
                · have h16 : (a5) = true := nB_n.mp (cn_eq.mp h16)
                  refine z_rcs hc hH 1 (pc' := 121) (lv' := [(4, .int (nB (a4 || (xHo (nI i))))), (3, .int (nB (a3 && (xHo (nI i))))), (2, .int (nB (a2 && (!(xEn (nI i)))))), (1, .int (nB (a1 && (xEn (nI i))))), (8, .int (nI i)), (6, .int (nB a6)), (5, .int (nB a5)), (7, .int su), (0, .ref 50)]) (st' := [.int (nI i)]) (μ' := μ) (by rfl) ?_
                  refine zq_call hc (z_cx_ok hH (by rfl)) (fb_X7_isTerminal d' (by omega) μ (nI i)) (by decide +kernel) (fun r9 μ9 hq => ?_)
                  obtain ⟨hμ9, rfl⟩ := hq
                  rw [hμ9]
                  clear hμ9 μ9
                  show Z 0 124 [(4, .int (nB (a4 || (xHo (nI i))))), (3, .int (nB (a3 && (xHo (nI i))))), (2, .int (nB (a2 && (!(xEn (nI i)))))), (1, .int (nB (a1 && (xEn (nI i))))), (8, .int (nI i)), (6, .int (nB a6)), (5, .int (nB a5)), (7, .int su), (0, .ref 50)] [.int (nB (xTe (nI i)))] μ
                  refine zq_if hc hH (by rfl) (tg := 131) (by rfl) (fun h17 => ?_) (fun h17 => ?_)
                  · have h17 : (xTe (nI i)) = false := nB_z.mp (cm_eq9.mp h17)
                    refine z_rcs hc hH 1 (pc' := 132) (lv' := [(4, .int (nB (a4 || (xHo (nI i))))), (3, .int (nB (a3 && (xHo (nI i))))), (2, .int (nB (a2 && (!(xEn (nI i)))))), (1, .int (nB (a1 && (xEn (nI i))))), (8, .int (nI i)), (6, .int (nB a6)), (5, .int (nB a5)), (7, .int su), (0, .ref 50)]) (st' := [.int 0]) (μ' := μ) (by rfl) ?_
                    exact zJ hJ6 rfl (by simp only [h16, h17, lb_f, Int64.or_zero, nB_t, nB_f, Bool.not_true, Bool.not_false, Bool.and_true, Bool.true_and, Bool.false_and, Bool.and_false, Bool.or_true, Bool.true_or, Bool.false_or, Bool.or_false, cond_true, cond_false]) rfl
                  · have h17 : (xTe (nI i)) = true := nB_n.mp (cn_eq.mp h17)
                    refine z_rcs hc hH 2 (pc' := 132) (lv' := [(4, .int (nB (a4 || (xHo (nI i))))), (3, .int (nB (a3 && (xHo (nI i))))), (2, .int (nB (a2 && (!(xEn (nI i)))))), (1, .int (nB (a1 && (xEn (nI i))))), (8, .int (nI i)), (6, .int (nB a6)), (5, .int (nB a5)), (7, .int su), (0, .ref 50)]) (st' := [.int 1]) (μ' := μ) (by rfl) ?_
                    exact zJ hJ6 rfl (by simp only [h16, h17, lb_f, Int64.or_zero, nB_t, nB_f, Bool.not_true, Bool.not_false, Bool.and_true, Bool.true_and, Bool.false_and, Bool.and_false, Bool.or_true, Bool.true_or, Bool.false_or, Bool.or_false, cond_true, cond_false]) rfl
              refine zq_if hc hH (by rfl) (tg := 107) (by rfl) (fun h18 => ?_) (fun h18 => ?_)
              · have h18 : (a4) = true := nB_n.mp (cm_ne.mp h18)
                refine z_rcs hc hH 2 (pc' := 112) (lv' := [(3, .int (nB (a3 && (xHo (nI i))))), (2, .int (nB (a2 && (!(xEn (nI i)))))), (1, .int (nB (a1 && (xEn (nI i))))), (8, .int (nI i)), (6, .int (nB a6)), (5, .int (nB a5)), (4, .int (nB a4)), (7, .int su), (0, .ref 50)]) (st' := [.int 1]) (μ' := μ) (by rfl) ?_
                exact zJ hJ5 rfl (by simp only [h18, lb_f, Int64.or_zero, nB_t, nB_f, Bool.not_true, Bool.not_false, Bool.and_true, Bool.true_and, Bool.false_and, Bool.and_false, Bool.or_true, Bool.true_or, Bool.false_or, Bool.or_false, cond_true, cond_false]) rfl
              · have h18 : (a4) = false := nB_z.mp (cn_ne.mp h18)
                refine z_rcs hc hH 1 (pc' := 101) (lv' := [(3, .int (nB (a3 && (xHo (nI i))))), (2, .int (nB (a2 && (!(xEn (nI i)))))), (1, .int (nB (a1 && (xEn (nI i))))), (8, .int (nI i)), (6, .int (nB a6)), (5, .int (nB a5)), (4, .int (nB a4)), (7, .int su), (0, .ref 50)]) (st' := [.int (nI i)]) (μ' := μ) (by rfl) ?_
                refine zq_call hc (z_cx_ok hH (by rfl)) (fb_X7_isHonour d' (by omega) μ (nI i)) (by decide +kernel) (fun r9 μ9 hq => ?_)
                obtain ⟨hμ9, rfl⟩ := hq
                rw [hμ9]
                clear hμ9 μ9
                show Z 0 104 [(3, .int (nB (a3 && (xHo (nI i))))), (2, .int (nB (a2 && (!(xEn (nI i)))))), (1, .int (nB (a1 && (xEn (nI i))))), (8, .int (nI i)), (6, .int (nB a6)), (5, .int (nB a5)), (4, .int (nB a4)), (7, .int su), (0, .ref 50)] [.int (nB (xHo (nI i)))] μ
                refine zq_if hc hH (by rfl) (tg := 111) (by rfl) (fun h19 => ?_) (fun h19 => ?_)
                · have h19 : (xHo (nI i)) = false := nB_z.mp (cm_eq9.mp h19)
                  refine z_rcs hc hH 1 (pc' := 112) (lv' := [(3, .int (nB (a3 && (xHo (nI i))))), (2, .int (nB (a2 && (!(xEn (nI i)))))), (1, .int (nB (a1 && (xEn (nI i))))), (8, .int (nI i)), (6, .int (nB a6)), (5, .int (nB a5)), (4, .int (nB a4)), (7, .int su), (0, .ref 50)]) (st' := [.int 0]) (μ' := μ) (by rfl) ?_
                  exact zJ hJ5 rfl (by simp only [h18, h19, lb_f, Int64.or_zero, nB_t, nB_f, Bool.not_true, Bool.not_false, Bool.and_true, Bool.true_and, Bool.false_and, Bool.and_false, Bool.or_true, Bool.true_or, Bool.false_or, Bool.or_false, cond_true, cond_false]) rfl
                · have h19 : (xHo (nI i)) = true := nB_n.mp (cn_eq.mp h19)
                  refine z_rcs hc hH 2 (pc' := 112) (lv' := [(3, .int (nB (a3 && (xHo (nI i))))), (2, .int (nB (a2 && (!(xEn (nI i)))))), (1, .int (nB (a1 && (xEn (nI i))))), (8, .int (nI i)), (6, .int (nB a6)), (5, .int (nB a5)), (4, .int (nB a4)), (7, .int su), (0, .ref 50)]) (st' := [.int 1]) (μ' := μ) (by rfl) ?_
                  exact zJ hJ5 rfl (by simp only [h18, h19, lb_f, Int64.or_zero, nB_t, nB_f, Bool.not_true, Bool.not_false, Bool.and_true, Bool.true_and, Bool.false_and, Bool.and_false, Bool.or_true, Bool.true_or, Bool.false_or, Bool.or_false, cond_true, cond_false]) rfl
            refine zq_if hc hH (by rfl) (tg := 92) (by rfl) (fun h20 => ?_) (fun h20 => ?_)
            · have h20 : (a3) = false := nB_z.mp (cm_eq9.mp h20)
              refine z_rcs hc hH 1 (pc' := 93) (lv' := [(2, .int (nB (a2 && (!(xEn (nI i)))))), (1, .int (nB (a1 && (xEn (nI i))))), (8, .int (nI i)), (6, .int (nB a6)), (5, .int (nB a5)), (4, .int (nB a4)), (3, .int (nB a3)), (7, .int su), (0, .ref 50)]) (st' := [.int 0]) (μ' := μ) (by rfl) ?_
              exact zJ hJ4 rfl (by simp only [h20, lb_f, Int64.or_zero, nB_t, nB_f, Bool.not_true, Bool.not_false, Bool.and_true, Bool.true_and, Bool.false_and, Bool.and_false, Bool.or_true, Bool.true_or, Bool.false_or, Bool.or_false, cond_true, cond_false]) rfl
            · have h20 : (a3) = true := nB_n.mp (cn_eq.mp h20)
              refine z_rcs hc hH 1 (pc' := 82) (lv' := [(2, .int (nB (a2 && (!(xEn (nI i)))))), (1, .int (nB (a1 && (xEn (nI i))))), (8, .int (nI i)), (6, .int (nB a6)), (5, .int (nB a5)), (4, .int (nB a4)), (3, .int (nB a3)), (7, .int su), (0, .ref 50)]) (st' := [.int (nI i)]) (μ' := μ) (by rfl) ?_
              refine zq_call hc (z_cx_ok hH (by rfl)) (fb_X7_isHonour d' (by omega) μ (nI i)) (by decide +kernel) (fun r9 μ9 hq => ?_)
              obtain ⟨hμ9, rfl⟩ := hq
              rw [hμ9]
              clear hμ9 μ9
              show Z 0 85 [(2, .int (nB (a2 && (!(xEn (nI i)))))), (1, .int (nB (a1 && (xEn (nI i))))), (8, .int (nI i)), (6, .int (nB a6)), (5, .int (nB a5)), (4, .int (nB a4)), (3, .int (nB a3)), (7, .int su), (0, .ref 50)] [.int (nB (xHo (nI i)))] μ
              refine zq_if hc hH (by rfl) (tg := 92) (by rfl) (fun h21 => ?_) (fun h21 => ?_)
              · have h21 : (xHo (nI i)) = false := nB_z.mp (cm_eq9.mp h21)
                refine z_rcs hc hH 1 (pc' := 93) (lv' := [(2, .int (nB (a2 && (!(xEn (nI i)))))), (1, .int (nB (a1 && (xEn (nI i))))), (8, .int (nI i)), (6, .int (nB a6)), (5, .int (nB a5)), (4, .int (nB a4)), (3, .int (nB a3)), (7, .int su), (0, .ref 50)]) (st' := [.int 0]) (μ' := μ) (by rfl) ?_
                exact zJ hJ4 rfl (by simp only [h20, h21, lb_f, Int64.or_zero, nB_t, nB_f, Bool.not_true, Bool.not_false, Bool.and_true, Bool.true_and, Bool.false_and, Bool.and_false, Bool.or_true, Bool.true_or, Bool.false_or, Bool.or_false, cond_true, cond_false]) rfl
              · have h21 : (xHo (nI i)) = true := nB_n.mp (cn_eq.mp h21)
                refine z_rcs hc hH 2 (pc' := 93) (lv' := [(2, .int (nB (a2 && (!(xEn (nI i)))))), (1, .int (nB (a1 && (xEn (nI i))))), (8, .int (nI i)), (6, .int (nB a6)), (5, .int (nB a5)), (4, .int (nB a4)), (3, .int (nB a3)), (7, .int su), (0, .ref 50)]) (st' := [.int 1]) (μ' := μ) (by rfl) ?_
                exact zJ hJ4 rfl (by simp only [h20, h21, lb_f, Int64.or_zero, nB_t, nB_f, Bool.not_true, Bool.not_false, Bool.and_true, Bool.true_and, Bool.false_and, Bool.and_false, Bool.or_true, Bool.true_or, Bool.false_or, Bool.or_false, cond_true, cond_false]) rfl
          refine zq_if hc hH (by rfl) (tg := 74) (by rfl) (fun h22 => ?_) (fun h22 => ?_)
          · have h22 : (a2) = false := nB_z.mp (cm_eq9.mp h22)
            refine z_rcs hc hH 1 (pc' := 75) (lv' := [(1, .int (nB (a1 && (xEn (nI i))))), (8, .int (nI i)), (6, .int (nB a6)), (5, .int (nB a5)), (4, .int (nB a4)), (3, .int (nB a3)), (2, .int (nB a2)), (7, .int su), (0, .ref 50)]) (st' := [.int 0]) (μ' := μ) (by rfl) ?_
            exact zJ hJ3 rfl (by simp only [h22, lb_f, Int64.or_zero, nB_t, nB_f, Bool.not_true, Bool.not_false, Bool.and_true, Bool.true_and, Bool.false_and, Bool.and_false, Bool.or_true, Bool.true_or, Bool.false_or, Bool.or_false, cond_true, cond_false]) rfl
          · have h22 : (a2) = true := nB_n.mp (cn_eq.mp h22)
            refine z_rcs hc hH 1 (pc' := 64) (lv' := [(1, .int (nB (a1 && (xEn (nI i))))), (8, .int (nI i)), (6, .int (nB a6)), (5, .int (nB a5)), (4, .int (nB a4)), (3, .int (nB a3)), (2, .int (nB a2)), (7, .int su), (0, .ref 50)]) (st' := [.int (nI i)]) (μ' := μ) (by rfl) ?_
            refine zq_call hc (z_cx_ok hH (by rfl)) (fb_X7_isEnd d' (by omega) μ (nI i)) (by decide +kernel) (fun r9 μ9 hq => ?_)
            obtain ⟨hμ9, rfl⟩ := hq
            rw [hμ9]
            clear hμ9 μ9
            show Z 0 67 [(1, .int (nB (a1 && (xEn (nI i))))), (8, .int (nI i)), (6, .int (nB a6)), (5, .int (nB a5)), (4, .int (nB a4)), (3, .int (nB a3)), (2, .int (nB a2)), (7, .int su), (0, .ref 50)] [.int (nB (xEn (nI i)))] μ
            refine zq_if hc hH (by rfl) (tg := 74) (by rfl) (fun h23 => ?_) (fun h23 => ?_)
            · have h23 : (xEn (nI i)) = true := nB_n.mp (cm_ne.mp h23)
              refine z_rcs hc hH 1 (pc' := 75) (lv' := [(1, .int (nB (a1 && (xEn (nI i))))), (8, .int (nI i)), (6, .int (nB a6)), (5, .int (nB a5)), (4, .int (nB a4)), (3, .int (nB a3)), (2, .int (nB a2)), (7, .int su), (0, .ref 50)]) (st' := [.int 0]) (μ' := μ) (by rfl) ?_
              exact zJ hJ3 rfl (by simp only [h22, h23, lb_f, Int64.or_zero, nB_t, nB_f, Bool.not_true, Bool.not_false, Bool.and_true, Bool.true_and, Bool.false_and, Bool.and_false, Bool.or_true, Bool.true_or, Bool.false_or, Bool.or_false, cond_true, cond_false]) rfl
            · have h23 : (xEn (nI i)) = false := nB_z.mp (cn_ne.mp h23)
              refine z_rcs hc hH 2 (pc' := 75) (lv' := [(1, .int (nB (a1 && (xEn (nI i))))), (8, .int (nI i)), (6, .int (nB a6)), (5, .int (nB a5)), (4, .int (nB a4)), (3, .int (nB a3)), (2, .int (nB a2)), (7, .int su), (0, .ref 50)]) (st' := [.int 1]) (μ' := μ) (by rfl) ?_
              exact zJ hJ3 rfl (by simp only [h22, h23, lb_f, Int64.or_zero, nB_t, nB_f, Bool.not_true, Bool.not_false, Bool.and_true, Bool.true_and, Bool.false_and, Bool.and_false, Bool.or_true, Bool.true_or, Bool.false_or, Bool.or_false, cond_true, cond_false]) rfl
        refine zq_if hc hH (by rfl) (tg := 56) (by rfl) (fun h24 => ?_) (fun h24 => ?_)
        · have h24 : (a1) = false := nB_z.mp (cm_eq9.mp h24)
          refine z_rcs hc hH 1 (pc' := 57) (lv' := [(8, .int (nI i)), (6, .int (nB a6)), (5, .int (nB a5)), (4, .int (nB a4)), (3, .int (nB a3)), (2, .int (nB a2)), (1, .int (nB a1)), (7, .int su), (0, .ref 50)]) (st' := [.int 0]) (μ' := μ) (by rfl) ?_
          exact zJ hJ2 rfl (by simp only [h24, lb_f, Int64.or_zero, nB_t, nB_f, Bool.not_true, Bool.not_false, Bool.and_true, Bool.true_and, Bool.false_and, Bool.and_false, Bool.or_true, Bool.true_or, Bool.false_or, Bool.or_false, cond_true, cond_false]) rfl
        · have h24 : (a1) = true := nB_n.mp (cn_eq.mp h24)
          refine z_rcs hc hH 1 (pc' := 46) (lv' := [(8, .int (nI i)), (6, .int (nB a6)), (5, .int (nB a5)), (4, .int (nB a4)), (3, .int (nB a3)), (2, .int (nB a2)), (1, .int (nB a1)), (7, .int su), (0, .ref 50)]) (st' := [.int (nI i)]) (μ' := μ) (by rfl) ?_
          refine zq_call hc (z_cx_ok hH (by rfl)) (fb_X7_isEnd d' (by omega) μ (nI i)) (by decide +kernel) (fun r9 μ9 hq => ?_)
          obtain ⟨hμ9, rfl⟩ := hq
          rw [hμ9]
          clear hμ9 μ9
          show Z 0 49 [(8, .int (nI i)), (6, .int (nB a6)), (5, .int (nB a5)), (4, .int (nB a4)), (3, .int (nB a3)), (2, .int (nB a2)), (1, .int (nB a1)), (7, .int su), (0, .ref 50)] [.int (nB (xEn (nI i)))] μ
          refine zq_if hc hH (by rfl) (tg := 56) (by rfl) (fun h25 => ?_) (fun h25 => ?_)
          · have h25 : (xEn (nI i)) = false := nB_z.mp (cm_eq9.mp h25)
            refine z_rcs hc hH 1 (pc' := 57) (lv' := [(8, .int (nI i)), (6, .int (nB a6)), (5, .int (nB a5)), (4, .int (nB a4)), (3, .int (nB a3)), (2, .int (nB a2)), (1, .int (nB a1)), (7, .int su), (0, .ref 50)]) (st' := [.int 0]) (μ' := μ) (by rfl) ?_
            exact zJ hJ2 rfl (by simp only [h24, h25, lb_f, Int64.or_zero, nB_t, nB_f, Bool.not_true, Bool.not_false, Bool.and_true, Bool.true_and, Bool.false_and, Bool.and_false, Bool.or_true, Bool.true_or, Bool.false_or, Bool.or_false, cond_true, cond_false]) rfl
          · have h25 : (xEn (nI i)) = true := nB_n.mp (cn_eq.mp h25)
            refine z_rcs hc hH 2 (pc' := 57) (lv' := [(8, .int (nI i)), (6, .int (nB a6)), (5, .int (nB a5)), (4, .int (nB a4)), (3, .int (nB a3)), (2, .int (nB a2)), (1, .int (nB a1)), (7, .int su), (0, .ref 50)]) (st' := [.int 1]) (μ' := μ) (by rfl) ?_
            exact zJ hJ2 rfl (by simp only [h24, h25, lb_f, Int64.or_zero, nB_t, nB_f, Bool.not_true, Bool.not_false, Bool.and_true, Bool.true_and, Bool.false_and, Bool.and_false, Bool.or_true, Bool.true_or, Bool.false_or, Bool.or_false, cond_true, cond_false]) rfl
      · have h1 : (decide ((ofv (μ.1 58 i) (μ.1 52) (μ.1 53) (nI i) q) = 0)) = true := decide_eq_true (cn_ne.mp h1)
        refine z_rcs hc hH 3 (pc' := 21) (lv' := [(8, .int ((nI i) + 1)), (6, .int (nB a6)), (5, .int (nB a5)), (4, .int (nB a4)), (3, .int (nB a3)), (2, .int (nB a2)), (1, .int (nB a1)), (7, .int su), (0, .ref 50)]) (st' := []) (μ' := μ) (by rfl) ?_
        rw [nI_1]
        refine (ih (i + 1) (a1, a2, a3, a4, a5, a6, su) (by omega) ?_).2
        have e : tSt μ q i (a1, a2, a3, a4, a5, a6, su) = (a1, a2, a3, a4, a5, a6, su) := by unfold tSt; simp only [h1, cond_true, cond_false] <;> rfl
        rw [e] at K; exact K
    exact ⟨b1, b2⟩
