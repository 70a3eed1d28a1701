/-! further contracts by kinds; the end of a hand -/
def a_Zd : List (Nat × Nat × List Nat) := [(179, 50, [118]), (179, 120, [121])]
def bk_X7_canDiscard : aQ := (103, [(2, (0, 0), [50], (0, 0)), (0, (0, 3), [], (0, 0))], [], [], (0, (0, 1), [], (0, 0)))
def bc_X7_canDiscard : List aC := [(4, [(0, (2, (0, 0), [50], (0, 0))), (1, (0, (0, 3), [], (0, 0))), (2, (0, (0, 1), [], (0, 0))), (3, (0, (0, 34), [], (0, 0)))], [], [], [(26, 0, 0), (34, 1, 3), (1000, 0, 0), (0, 0, 0), (0, 0, 0), (0, 0, 0), (0, 0, 0)]), (39, [(0, (2, (0, 0), [50], (0, 0))), (1, (0, (0, 3), [], (0, 0))), (3, (0, (0, 33), [], (0, 0)))], [], [], [(26, 0, 0), (34, 1, 3), (7, 0, 0), (0, 0, 0), (0, 0, 0), (0, 0, 0), (0, 0, 0)]), (43, [(0, (2, (0, 0), [50], (0, 0))), (1, (0, (0, 3), [], (0, 0))), (3, (0, (0, 33), [], (0, 0)))], [], [], [(26, 0, 0), (34, 1, 3), (8, 0, 0), (0, 0, 0), (0, 0, 0), (0, 0, 0), (0, 0, 0)]), (44, [(0, (2, (0, 0), [50], (0, 0))), (1, (0, (0, 3), [], (0, 0))), (3, (0, (0, 33), [], (0, 0)))], [(0, (0, 1), [], (0, 0))], [], [(26, 0, 0), (34, 1, 3), (5, 0, 0), (0, 0, 0), (0, 0, 0), (0, 0, 0), (0, 0, 0)])]
set_option maxRecDepth 1000000 in
theorem bg_X7_canDiscard : a_good (a_Ks.take 139) (a_Zd, a_Zs) bk_X7_canDiscard bc_X7_canDiscard 2000 4 6 = true := by decide +kernel
theorem bs_X7_canDiscard {d : Nat} (hd : 700 ≤ d) : a_sound d bk_X7_canDiscard := a_sound_up (a_good_ok aK_all bg_X7_canDiscard) hd
def bk_X7_anySays : aQ := (36, [(2, (0, 0), [50], (0, 0))], [], [], (0, (0, 1), [], (0, 0)))
def bc_X7_anySays : List aC := []
set_option maxRecDepth 1000000 in
theorem bg_X7_anySays : a_good (a_Ks.take 139) (a_Zd, a_Zs) bk_X7_anySays bc_X7_anySays 2000 4 6 = true := by decide +kernel
theorem bs_X7_anySays {d : Nat} (hd : 700 ≤ d) : a_sound d bk_X7_anySays := a_sound_up (a_good_ok aK_all bg_X7_anySays) hd
def bk_X7_claim_a : aQ := (179, [(2, (0, 0), [50], (0, 0)), ai], [(0, 49, (0, (0, 33), [], (0, 0)))], [(50, 0), (50, 4), (50, 7), (50, 8), (50, 9), (50, 10), (50, 11), (50, 12), (50, 13), (50, 14), (50, 15), (50, 16), (50, 17), (50, 18), (50, 21), (50, 22), (50, 23), (50, 24), (50, 25), (51, 9999), (52, 9999), (53, 9999), (54, 9999), (55, 9999), (56, 9999), (57, 9999), (58, 9999), (71, 9999)], (0, (0, 1), [], (0, 0)))
def bc_X7_claim_a : List aC := [(72, [(0, (2, (0, 0), [50], (0, 0))), (1, (0, (0, 3), [], (0, 0))), (2, aj), (4, (0, (0, 135), [], (0, 0)))], [], [(0, 44, (0, (2, 3), [], (0, 0))), (0, 45, (0, (0, 3), [], (0, 0))), (0, 49, (0, (0, 33), [], (0, 0)))], [(45, 0, 0), (135, 1, 4), (1000, 0, 0), (0, 0, 0), (0, 0, 0), (0, 0, 0), (0, 0, 0)])]
set_option maxRecDepth 1000000 in
theorem bg_X7_claim_a : a_good (a_Ks.take 139) (a_Zd, a_Zs) bk_X7_claim_a bc_X7_claim_a 2000 4 6 = true := by decide +kernel
theorem bs_X7_claim_a {d : Nat} (hd : 700 ≤ d) : a_sound d bk_X7_claim_a := a_sound_up (a_good_ok aK_all bg_X7_claim_a) hd
def bk_X7_claim_b : aQ := (179, [(2, (0, 0), [50], (0, 0)), ai], [(0, 44, (0, (0, 1), [], (0, 0)))], [(50, 0)], (0, (0, 0), [], (0, 0)))
def bc_X7_claim_b : List aC := []
set_option maxRecDepth 1000000 in
theorem bg_X7_claim_b : a_good (a_Ks.take 139) (a_Zd, a_Zs) bk_X7_claim_b bc_X7_claim_b 2000 4 6 = true := by decide +kernel
theorem bs_X7_claim_b {d : Nat} (hd : 700 ≤ d) : a_sound d bk_X7_claim_b := a_sound_up (a_good_ok aK_all bg_X7_claim_b) hd
def bk_X7_up : aQ := (67, [ai], [], [], ai)
def bc_X7_up : List aC := []
set_option maxRecDepth 1000000 in
theorem bg_X7_up : a_good (a_Ks.take 139) (a_Zd, a_Zs) bk_X7_up bc_X7_up 2000 4 6 = true := by decide +kernel
theorem bs_X7_up {d : Nat} (hd : 700 ≤ d) : a_sound d bk_X7_up := a_sound_up (a_good_ok aK_all bg_X7_up) hd
def aLoc (lv : zL) : List (Nat × aI) → Prop
  | [] => True
  | p :: r => (∃ v, z_lk lv p.1 = some v ∧ a_ok p.2 v) ∧ aLoc lv r
theorem aLoc_all {lv : zL} : ∀ (ps : List (Nat × aI)), aLoc lv ps → ∀ p ∈ ps, ∃ v, z_lk lv p.1 = some v ∧ a_ok p.2 v := by
  intro ps
  induction ps with
  | nil => intro _ p hp; cases hp
  | cons q r ih =>
    intro h p hp
    rcases List.mem_cons.mp hp with rfl | hp
    · exact h.1
    · exact ih h.2 p hp
def aFac (lv : zL) (μ : zM) : List (Nat × Nat × aI) → Prop
  | [] => True
  | f :: r => (∃ r, z_lk lv f.1 = some (.ref r) ∧ (z_sh r).1 = 0 ∧ a_ok f.2.2 (z_gv μ (z_sh r).2.1 r f.2.1)) ∧ aFac lv μ r
theorem aFac_all {lv : zL} {μ : zM} : ∀ (ps : List (Nat × Nat × aI)), aFac lv μ ps → ∀ f ∈ ps, ∃ r, z_lk lv f.1 = some (.ref r) ∧ (z_sh r).1 = 0 ∧ a_ok f.2.2 (z_gv μ (z_sh r).2.1 r f.2.1) := by
  intro ps
  induction ps with
  | nil => intro _ p hp; cases hp
  | cons q r ih =>
    intro h p hp
    rcases List.mem_cons.mp hp with rfl | hp
    · exact h.1
    · exact ih h.2 p hp
theorem a_At_mk {md : List (Nat × Nat)} {μ0 μ : zM} {c : aC} {lv : zL} {st : List Value} (h1 : aLoc lv c.2.1) (h2 : aArg c.2.2.1 st) (h3 : aFac lv μ c.2.2.2.1) (h4 : a_H μ) (h5 : a_Fz md μ0 μ) : a_At md μ0 c lv st μ := by
  obtain ⟨k1, k2, -⟩ := aArg_pre (K := (0, c.2.2.1, [], [], ai)) (μ := μ) h2 rfl
  exact ⟨aLoc_all _ h1, ⟨k1, k2⟩, aFac_all _ h3, h4, h5⟩
def bk_ends : aQ := (42, [(2, (0, 0), [50], (0, 0)), (0, (0, 1), [], (0, 0)), (0, (0, 1), [], (0, 0))], [], [(50, 40), (50, 41), (50, 42), (50, 43), (50, 52), (50, 54), (61, 9999)], (9, (0, 0), [], (0, 0)))
def bc_ends : List aC := [(25, [(0, (2, (0, 0), [50], (0, 0))), (1, (0, (0, 1), [], (0, 0))), (2, (0, (0, 1), [], (0, 0))), (3, (0, (0, 1), [], (0, 0))), (4, (0, (0, 4), [], (0, 0)))], [], [(0, 44, (0, (0, 0), [], (0, 0))), (0, 49, (0, (-1, -1), [], (0, 0)))], [(107, 0, 0), (4, 1, 4), (1000, 0, 0), (0, 0, 0), (0, 0, 0), (0, 0, 0), (0, 0, 0)]), (45, [(0, (2, (0, 0), [50], (0, 0))), (1, (0, (0, 1), [], (0, 0))), (2, (0, (0, 1), [], (0, 0))), (4, (0, (0, 3), [], (0, 0)))], [], [(0, 44, (0, (0, 0), [], (0, 0))), (0, 49, (0, (-1, -1), [], (0, 0)))], [(107, 0, 0), (4, 1, 4), (96, 0, 0), (0, 0, 0), (0, 0, 0), (0, 0, 0), (0, 0, 0)]), (50, [(0, (2, (0, 0), [50], (0, 0))), (1, (0, (0, 1), [], (0, 0))), (2, (0, (0, 1), [], (0, 0))), (4, (0, (0, 3), [], (0, 0)))], [(0, (0, 1), [], (0, 0))], [(0, 44, (0, (0, 0), [], (0, 0))), (0, 49, (0, (-1, -1), [], (0, 0)))], [(107, 0, 0), (4, 1, 4), (94, 0, 0), (0, 0, 0), (0, 0, 0), (0, 0, 0), (0, 0, 0)]), (81, [(0, (2, (0, 0), [50], (0, 0))), (1, (0, (0, 1), [], (0, 0))), (2, (0, (0, 1), [], (0, 0))), (3, (0, (0, 1), [], (0, 0)))], [], [(0, 44, (0, (0, 0), [], (0, 0))), (0, 49, (0, (-1, -1), [], (0, 0)))], [(79, 0, 0), (0, 0, 0), (0, 0, 0), (0, 0, 0), (0, 0, 0), (0, 0, 0), (0, 0, 0)]), (82, [(0, (2, (0, 0), [50], (0, 0))), (1, (0, (0, 1), [], (0, 0))), (2, (0, (0, 1), [], (0, 0))), (3, (0, (0, 1), [], (0, 0)))], [(0, (0, 1), [], (0, 0))], [(0, 44, (0, (0, 0), [], (0, 0))), (0, 49, (0, (-1, -1), [], (0, 0)))], [(78, 0, 0), (0, 0, 0), (0, 0, 0), (0, 0, 0), (0, 0, 0), (0, 0, 0), (0, 0, 0)]), (93, [(0, (2, (0, 0), [50], (0, 0)))], [], [(0, 44, (0, (0, 0), [], (0, 0))), (0, 49, (0, (-1, -1), [], (0, 0)))], [(40, 0, 0), (0, 0, 0), (0, 0, 0), (0, 0, 0), (0, 0, 0), (0, 0, 0), (0, 0, 0)]), (104, [(0, (2, (0, 0), [50], (0, 0))), (5, (0, (0, 3), [], (0, 0))), (6, (0, (1, 4), [], (0, 0)))], [], [(0, 44, (0, (0, 0), [], (0, 0))), (0, 49, (0, (-1, -1), [], (0, 0)))], [(33, 0, 0), (4, 1, 6), (1000, 0, 0), (0, 0, 0), (0, 0, 0), (0, 0, 0), (0, 0, 0)]), (134, [(0, (2, (0, 0), [50], (0, 0))), (6, (0, (1, 3), [], (0, 0)))], [(0, (0, 3), [], (0, 0))], [(0, 44, (0, (0, 0), [], (0, 0))), (0, 49, (0, (-1, -1), [], (0, 0)))], [(33, 0, 0), (4, 1, 6), (18, 0, 0), (0, 0, 0), (0, 0, 0), (0, 0, 0), (0, 0, 0)]), (188, [(0, (2, (0, 0), [50], (0, 0))), (2, (0, (0, 1), [], (0, 0)))], [(0, (0, 1), [], (0, 0)), ai, (2, (0, 0), [50], (0, 0))], [(0, 44, (0, (0, 0), [], (0, 0))), (0, 49, (0, (-1, -1), [], (0, 0)))], [(61, 0, 0), (0, 0, 0), (0, 0, 0), (0, 0, 0), (0, 0, 0), (0, 0, 0), (0, 0, 0)]), (204, [(0, (2, (0, 0), [50], (0, 0))), (2, (0, (0, 1), [], (0, 0)))], [], [(0, 44, (0, (0, 0), [], (0, 0))), (0, 49, (0, (-1, -1), [], (0, 0)))], [(51, 0, 0), (0, 0, 0), (0, 0, 0), (0, 0, 0), (0, 0, 0), (0, 0, 0), (0, 0, 0)]), (219, [(0, (2, (0, 0), [50], (0, 0)))], [ai, (2, (0, 0), [50], (0, 0))], [(0, 44, (0, (0, 0), [], (0, 0))), (0, 49, (0, (-1, -1), [], (0, 0)))], [(42, 0, 0), (0, 0, 0), (0, 0, 0), (0, 0, 0), (0, 0, 0), (0, 0, 0), (0, 0, 0)])]
set_option maxRecDepth 1000000 in
theorem bg_ends : a_goodx (a_Ks.take 139) (a_Zd, a_Zs) bk_ends bc_ends [] 2000 4 6 = true := by decide +kernel
abbrev md_ends : List (Nat × Nat) := [(50, 40), (50, 41), (50, 42), (50, 43), (50, 44), (50, 49), (50, 52), (50, 54), (61, 9999)]
theorem zh_X7_ends : zH mi_X7_ends zt_X7_ends 79 7 7 := hh_X7_ends
theorem fc_X7_ends (d : Nat) (hd : 701 ≤ d) (μ : zM) (x y : Int32) (hx : bI 0 1 x) (hy : bI 0 1 y) (ha : a_H μ) : z_C d mi_X7_ends [.ref 50, .int x, .int y] μ (fun r μ' => r = none ∧ μ'.1 50 44 = 0 ∧ a_H μ' ∧ a_Fz md_ends μ μ') := by
  refine z_C_in (by decide) (by omega) (fun d' Z ed hc hr => ?_)
  have hH := zh_X7_ends
  refine z_rcs hc hH 16 (pc' := 25) (lv' := [(4, .int 0), (3, .int 0), (0, .ref 50), (1, .int x), (2, .int y)]) (st' := []) (μ' := z_ui (z_ui (z_ui μ 50 44 0) 50 49 (-1)) 50 52 ((μ.1 50 52) + 1)) (by rfl) ?_
  have h0 : a_H (z_ui (z_ui (z_ui μ 50 44 0) 50 49 (-1)) 50 52 ((μ.1 50 52) + 1)) := a_H_ui (a_H_ui (a_H_ui ha ⟨by decide, by decide⟩) ⟨by decide, by decide⟩) (bI_top _)
  refine a_from (K := bk_ends) aK_all bg_ends (by omega) hc (z_ui (z_ui (z_ui μ 50 44 0) 50 49 (-1)) 50 52 ((μ.1 50 52) + 1)) ?_ ?_ _ (List.mem_cons_self) _ _ _ (a_At_mk ⟨⟨_, rfl, 50, by decide, rfl⟩, ⟨_, rfl, x, rfl, hx⟩, ⟨_, rfl, y, rfl, hy⟩, ⟨_, rfl, 0, rfl, by decide, by decide⟩, ⟨_, rfl, 0, rfl, by decide, by decide⟩, trivial⟩ trivial ⟨⟨50, rfl, rfl, 0, rfl, by decide, by decide⟩, ⟨50, rfl, rfl, -1, rfl, by decide, by decide⟩, trivial⟩ h0 (a_Fz_rf _ _))
  · intro pc lv st μ' v hv h1 h2 h3
    refine hr 0 pc lv st μ' v (Nat.zero_le _) hv ⟨h3, ?_, h1, ?_⟩
    · rw [a_Fz_at h2 50 44 (by decide)]; rfl
    · exact a_Fz_tr (m1 := bk_ends.2.2.2.1) (by decide) (a_Fz_ui (a_Fz_ui (a_Fz_ui (a_Fz_rf _ _) (by decide)) (by decide)) (by decide)) h2
  · intro c _ hc2; exact absurd hc2 (by simp)
