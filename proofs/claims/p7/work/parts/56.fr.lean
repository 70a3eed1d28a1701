/-! the two desks hold the same tiles: lay, set and clear keep it, and answer alike -/
def RD (μ : zM) (q : Nat) : Prop := q ≤ 4 ∧ μ.1 50 66 = nI q ∧ μ.1 9 4 = nI q ∧ (∀ k, k < 34 → μ.1 10 k = μ.1 74 k) ∧ μ.1 9 5 = sm (μ.1 74) 34 ∧ (∀ k, k < 34 → μ.1 11 k = ofv (μ.1 74 k) (μ.1 75) (μ.1 76) (nI k) q) ∧ (∀ k, k < 34 → bI 0 4 (μ.1 74 k))
theorem sm_b {f : Nat → Int32} {n : Nat} (hn : n ≤ 34) (h : ∀ k, k < n → bI 0 4 (f k)) : bI 0 (4 * n) (sm f n) := by
  induction n with
  | zero => exact (show bI 0 (4 * (0 : Nat)) 0 from ⟨by decide, by decide⟩)
  | succ n ih => exact bI_add rfl (ih (by omega) (fun k hk => h k (by omega))) (h n (by omega)) ⟨by omega, by omega, by omega, by omega⟩
theorem ct_b (s l k : Int32) : bI 0 4 (ct s l k) := by
  unfold ct
  split
  · split <;> exact ⟨by decide, by decide⟩
  · split
    · split <;> exact ⟨by decide, by decide⟩
    · exact ⟨by decide, by decide⟩
theorem ofv_b {w : Int32} {so lo : Nat → Int32} {k : Int32} {s : Nat} (hs : s ≤ 4) (hw : bI 0 4 w) : bI w.toInt (w.toInt + 4 * s) (ofv w so lo k s) := by
  induction s with
  | zero => exact ⟨by show w.toInt ≤ w.toInt; omega, by show w.toInt ≤ _; omega⟩
  | succ s ih => exact bI_add rfl (ih (by omega)) (ct_b _ _ _) ⟨by have := hw.1; omega, by omega, by omega, by have := hw.2; omega⟩
theorem RD3 {x : Int32} {q : Nat} (hx : bI 0 136 x) (hq : q ≤ 4) (h : x + 3 * nI q + 3 ≤ 14) : q ≤ 3 := by
  have h1 : bI q q (nI q) := bI_k (nI_toInt (by omega))
  have h2 : bI (q * 3) (q * 3) (3 * nI q) := bI_mull (y := 3) rfl h1 (bI_k (n := 3) rfl) ⟨by omega, by omega, by omega, by omega, by omega⟩
  have h3 : bI (q * 3) (136 + q * 3) (x + 3 * nI q) := bI_add rfl hx h2 ⟨by omega, by omega, by omega, by omega⟩
  have h4 : bI (q * 3 + 3) (139 + q * 3) (x + 3 * nI q + 3) := bI_add rfl h3 (bI_k (n := 3) rfl) ⟨by omega, by omega, by omega, by omega⟩
  have h5 := Int32.le_iff_toInt_le.mp h
  rw [show (14 : Int32).toInt = 14 from rfl] at h5
  have := h4.1
  omega
theorem sm_upd {f g : Nat → Int32} {x : Int32} {a n : Nat} (ha : a < n) (h : ∀ i, g i = if i = a then f i + x else f i) : sm g n = sm f n + x := by
  induction n with
  | zero => omega
  | succ n ih =>
    show sm g n + g n = sm f n + f n + x
    by_cases e : n = a
    · subst e
      rw [h n, if_pos rfl, sm_congr (g := f) (fun i hi => by rw [h i, if_neg (by omega)]), Int32.add_assoc]
    · rw [ih (by omega), h n, if_neg e, Int32.add_assoc, Int32.add_comm x, Int32.add_assoc]
theorem ofv_upd {w x : Int32} {so lo : Nat → Int32} {k : Int32} {s : Nat} : ofv (w + x) so lo k s = ofv w so lo k s + x := by
  induction s with
  | zero => rfl
  | succ s ih =>
    show ofv (w + x) so lo k s + ct (so s) (lo s) k = ofv w so lo k s + ct (so s) (lo s) k + x
    rw [ih, Int32.add_assoc, Int32.add_comm x, Int32.add_assoc]
theorem ofv_app {w s l k : Int32} {so lo so' lo' : Nat → Int32} {q : Nat} (h1 : ∀ i, so' i = if i = q then s else so i) (h2 : ∀ i, lo' i = if i = q then l else lo i) : ofv w so' lo' k (q + 1) = ofv w so lo k q + ct s l k := by
  show ofv w so' lo' k q + ct (so' q) (lo' q) k = _
  rw [h1 q, h2 q, if_pos rfl, if_pos rfl, ofv_congr rfl (fun i hi => ⟨by rw [h1 i, if_neg (by omega)], by rw [h2 i, if_neg (by omega)]⟩)]
theorem ct_set {s : Int32} {a i : Nat} (ha : a < 34) (hi : i < 34) : ct s (nI a) (nI i) = if a ≤ i ∧ i < a + (zl s + 1) then se s else 0 := by
  by_cases h0 : s = 0
  · rw [zl_0 h0, se_0 h0]
    by_cases h : a ≤ i ∧ i < a + (2 + 1)
    · rw [if_pos h]
      exact ct_z1 h0 ⟨nI_le h.1 (by omega), by rw [show nI a + 2 = nI (a + 2) from nI_add a 2]; exact nI_le (by omega) (by omega)⟩
    · rw [if_neg h]
      refine ct_z0 h0 (fun z => h ?_)
      rw [show nI a + 2 = nI (a + 2) from nI_add a 2] at z
      have z1 := (nI_leI (by omega) (by omega)).mp z.1
      have z2 := (nI_leI (by omega) (by omega)).mp z.2
      omega
  · rw [zl_1 h0]
    by_cases h : a = i
    · rw [if_pos (by omega)]
      by_cases h1 : s = 1
      · rw [se_1 h0 h1]; exact ct_3 h0 (by rw [h]) h1
      · rw [se_2 h0 h1]; exact ct_4 h0 (by rw [h]) h1
    · rw [if_neg (by omega)]
      exact ct_n h0 (fun z => h ((nI_eq (by omega) (by omega)).mp z))
theorem RD.sm3 {μ : zM} {q : Nat} (h : RD μ q) : sm (μ.1 74) 34 + 3 * μ.1 50 66 + 3 ≤ 14 → q ≤ 3 := by
  obtain ⟨h1, h2, h3, h4, h5, h6, h7⟩ := h
  rw [h2]
  exact RD3 (sm_b (Nat.le_refl _) h7) h1
/-- the class's side is left alone, or the model's -/
def FX (μ μ' : zM) : Prop := (∀ r k, r ≠ 9 → r ≠ 10 → r ≠ 11 → r ≠ 12 → r ≠ 13 → μ'.1 r k = μ.1 r k) ∧ μ'.2 = μ.2
theorem FX_put (μ : zM) (k n : Int32) : FX μ (z_put μ k n) := ⟨fun r i r1 r2 r3 _ _ => by unfold z_put; rw [z_ui_rd, if_neg (fun z => r1 z.1), z_ui_rd, if_neg (fun z => r3 z.1), z_ui_rd, if_neg (fun z => r2 z.1)], rfl⟩
theorem zMf.X {μ μ' : zM} (h : zMf μ μ') {r k : Nat} (hr : r < 50) : μ'.1 r k = μ.1 r k := h.1 r k (by omega) (by omega) (by omega) (by omega) (by omega) (by omega) (by omega) (by omega)
theorem RD_lay {μ μ1 μ2 : zM} {q : Nat} {k n : Int32} {r1 r2 : Option Value} (h : RD μ q) (hx : (r1 = some (.int 1) ∧ z_layok μ k n ∧ μ1 = z_put μ k n) ∨ (r1 = some (.int 0) ∧ ¬ z_layok μ k n ∧ μ1 = μ))
    (hm : zMf μ1 μ2 ∧ μ2.1 75 = μ1.1 75 ∧ μ2.1 76 = μ1.1 76 ∧ μ2.1 50 66 = μ1.1 50 66 ∧ ((r2 = some (.int 1) ∧ z_layM μ1 q k n ∧ ∀ i, μ2.1 74 i = if i = k.toNatClampNeg then μ1.1 74 i + n else μ1.1 74 i) ∨ (r2 = some (.int 0) ∧ ¬ z_layM μ1 q k n ∧ μ2.1 74 = μ1.1 74))) :
    RD μ2 q ∧ ((r1 = some (.int 1) ∧ r2 = some (.int 1)) ∨ (r1 = some (.int 0) ∧ r2 = some (.int 0))) := by
  obtain ⟨h1, h2, h3, h4, h5, h6, h7⟩ := h
  obtain ⟨m1, m2, m3, m4, m5⟩ := hm
  have hF : FX μ μ1 := by
    rcases hx with ⟨-, -, rfl⟩ | ⟨-, -, rfl⟩
    · exact FX_put _ _ _
    · exact ⟨fun _ _ _ _ _ _ _ => rfl, rfl⟩
  have f74 : μ1.1 74 = μ.1 74 := funext fun i => hF.1 74 i (by decide) (by decide) (by decide) (by decide) (by decide)
  have f75 : μ1.1 75 = μ.1 75 := funext fun i => hF.1 75 i (by decide) (by decide) (by decide) (by decide) (by decide)
  have f76 : μ1.1 76 = μ.1 76 := funext fun i => hF.1 76 i (by decide) (by decide) (by decide) (by decide) (by decide)
  have f66 : μ1.1 50 66 = μ.1 50 66 := hF.1 50 66 (by decide) (by decide) (by decide) (by decide) (by decide)
  have eq : z_layok μ k n ↔ z_layM μ1 q k n := by
    unfold z_layok z_layM
    rw [f74, f75, f76, f66, h5, h3, h2]
    refine and_congr_right fun hk => ?_
    obtain ⟨a, ha, rfl⟩ := vp_in_of hk (by decide)
    rw [nI_clamp (by omega), h6 a ha]
  rw [f75] at m2
  rw [f76] at m3
  rw [f66] at m4
  rw [f74] at m5
  rcases hx with ⟨rfl, hx, rfl⟩ | ⟨rfl, hx, rfl⟩
  · rcases m5 with ⟨rfl, hy, m5⟩ | ⟨rfl, hy, m5⟩
    · obtain ⟨hk, n1, n4, hle, hsz⟩ := hx
      obtain ⟨a, ha, rfl⟩ := vp_in_of hk (by decide)
      have ca : (nI a).toNatClampNeg = a := nI_clamp (by omega)
      rw [ca] at hle m5
      have rx : ∀ r i, r < 50 → μ2.1 r i = (z_put μ (nI a) n).1 r i := fun r i hr => m1.X hr
      refine ⟨⟨h1, by rw [m4, h2], ?_, fun i hi => ?_, ?_, fun i hi => ?_, fun i hi => ?_⟩, Or.inl ⟨rfl, rfl⟩⟩
      · rw [rx 9 4 (by decide)]; unfold z_put; rw [z_ui_rd, if_neg (by decide), z_ui_rd, if_neg (by omega), z_ui_rd, if_neg (by omega), h3]
      · rw [rx 10 i (by decide), m5]; unfold z_put; rw [ca, z_ui_rd, if_neg (by omega), z_ui_rd, if_neg (by omega), z_ui_rd]
        by_cases e : i = a
        · rw [if_pos ⟨rfl, e⟩, if_pos e, h4 a ha, e]
        · rw [if_neg (fun z => e z.2), if_neg e, h4 i hi]
      · rw [rx 9 5 (by decide)]; unfold z_put; rw [z_ui_rd, if_pos ⟨rfl, rfl⟩, h5, sm_upd ha m5]
      · rw [rx 11 i (by decide), m5, m2, m3]; unfold z_put; rw [ca, z_ui_rd, if_neg (by omega), z_ui_rd]
        by_cases e : i = a
        · rw [if_pos ⟨rfl, e⟩, if_pos e, h6 a ha, e, ofv_upd]
        · rw [if_neg (fun z => e z.2), if_neg e, z_ui_rd, if_neg (by omega), h6 i hi]
      · rw [m5]
        by_cases e : i = a
        · rw [if_pos e, e]
          have b := ofv_b (so := μ.1 75) (lo := μ.1 76) (k := nI a) h1 (h7 a ha)
          rw [h6 a ha] at hle
          have b0 := h7 a ha
          have hle := Int32.le_iff_toInt_le.mp (Int32.not_lt.mp hle)
          have n1 := Int32.le_iff_toInt_le.mp (Int32.not_lt.mp n1)
          have n4 := Int32.le_iff_toInt_le.mp n4
          rw [show (1 : Int32).toInt = 1 from rfl] at n1
          rw [show (4 : Int32).toInt = 4 from rfl] at n4 hle
          have bn : bI n.toInt n.toInt n := ⟨by omega, by omega⟩
          have s1 : bI ((ofv (μ.1 74 a) (μ.1 75) (μ.1 76) (nI a) q).toInt + n.toInt) ((ofv (μ.1 74 a) (μ.1 75) (μ.1 76) (nI a) q).toInt + n.toInt) (ofv (μ.1 74 a) (μ.1 75) (μ.1 76) (nI a) q + n) := bI_add rfl ⟨Int.le_refl _, Int.le_refl _⟩ bn ⟨by have := b.1; have := b0.1; omega, by omega, by omega, by have := b.2; have := b0.2; omega⟩
          exact bI_add (a := (μ.1 74 a).toInt) (b := (μ.1 74 a).toInt) rfl ⟨by omega, by omega⟩ bn ⟨by omega, by have := b0.1; omega, by have := s1.1; have := b.1; omega, by omega⟩
        · rw [if_neg e]; exact h7 i hi
    · exact absurd (eq.mp hx) hy
  · rcases m5 with ⟨rfl, hy, m5⟩ | ⟨rfl, hy, m5⟩
    · exact absurd (eq.mpr hy) hx
    · refine ⟨⟨h1, by rw [m4, h2], by rw [m1.X (by decide), h3], fun i hi => by rw [m1.X (by decide), m5, h4 i hi], by rw [m1.X (by decide), m5, h5], fun i hi => by rw [m1.X (by decide), m5, m2, m3, h6 i hi], fun i hi => by rw [m5]; exact h7 i hi⟩, Or.inr ⟨rfl, rfl⟩⟩
theorem RD_set {μ μ1 μ2 : zM} {q : Nat} {s k : Int32} {r1 r2 : Option Value} (h : RD μ q) (hx : (r1 = some (.int 1) ∧ z_setX μ s k ∧ zSX μ s k q μ1) ∨ (r1 = some (.int 0) ∧ ¬ z_setX μ s k ∧ μ1 = μ))
    (hm : zMf μ1 μ2 ∧ μ2.1 74 = μ1.1 74 ∧ ((r2 = some (.int 1) ∧ z_setM μ1 q s k ∧ (∀ i, μ2.1 75 i = if i = q then s else μ1.1 75 i) ∧ (∀ i, μ2.1 76 i = if i = q then k else μ1.1 76 i) ∧ μ2.1 50 66 = nI (q + 1)) ∨ (r2 = some (.int 0) ∧ ¬ z_setM μ1 q s k ∧ μ2.1 75 = μ1.1 75 ∧ μ2.1 76 = μ1.1 76 ∧ μ2.1 50 66 = μ1.1 50 66))) :
    (∃ q', RD μ2 q') ∧ ((r1 = some (.int 1) ∧ r2 = some (.int 1)) ∨ (r1 = some (.int 0) ∧ r2 = some (.int 0))) := by
  have hq3 := h.sm3
  obtain ⟨h1, h2, h3, h4, h5, h6, h7⟩ := h
  obtain ⟨m1, m2, m5⟩ := hm
  have hF : FX μ μ1 := by
    rcases hx with ⟨-, -, g⟩ | ⟨-, -, rfl⟩
    · exact ⟨fun r i r1 r2 r3 r4 r5 => g.2.2.2.2.2.2.1 r i r2 r3 r4 r5 (fun z => r1 z.1), g.2.2.2.2.2.2.2⟩
    · exact ⟨fun _ _ _ _ _ _ _ => rfl, rfl⟩
  have f74 : μ1.1 74 = μ.1 74 := funext fun i => hF.1 74 i (by decide) (by decide) (by decide) (by decide) (by decide)
  have f75 : μ1.1 75 = μ.1 75 := funext fun i => hF.1 75 i (by decide) (by decide) (by decide) (by decide) (by decide)
  have f76 : μ1.1 76 = μ.1 76 := funext fun i => hF.1 76 i (by decide) (by decide) (by decide) (by decide) (by decide)
  have f66 : μ1.1 50 66 = μ.1 50 66 := hF.1 50 66 (by decide) (by decide) (by decide) (by decide) (by decide)
  have eq : z_setX μ s k ↔ z_setM μ1 q s k := by
    unfold z_setX z_setM
    rw [f74, f75, f76, f66, h5, h3, h2]
    refine and_congr_right fun hk => and_congr_right fun _ => and_congr_right fun _ => and_congr_right fun hs => and_congr_right fun _ => ?_
    obtain ⟨a, ha, rfl⟩ := vp_in_of hk (by decide)
    have ham := zl_ok ha hs
    rw [nI_clamp (by omega)]
    refine forall_congr' fun j => forall_congr' fun hj => ?_
    rw [h6 (a + j) (by omega)]
  rw [f74] at m2
  rw [f75, f76, f66] at m5
  rcases hx with ⟨rfl, hx, g⟩ | ⟨rfl, hx, rfl⟩
  · rcases m5 with ⟨rfl, hy, m3, m4, m5⟩ | ⟨rfl, hy, m5⟩
    · obtain ⟨g1, g2, g3, g4, -, -, -, -⟩ := g
      obtain ⟨hk, s0, s3, hs, hsz, -⟩ := hx
      obtain ⟨a, ha, rfl⟩ := vp_in_of hk (by decide)
      rw [nI_clamp (by omega)] at g2
      rw [h5, h3, ← h2] at hsz
      have hq := hq3 hsz
      refine ⟨⟨q + 1, by omega, m5, by rw [m1.X (by decide), g4], fun i hi => by rw [m1.X (by decide), g1, m2, h4 i hi], by rw [m1.X (by decide), g3, h5, m2], fun i hi => ?_, fun i hi => by rw [m2]; exact h7 i hi⟩, Or.inl ⟨rfl, rfl⟩⟩
      rw [m1.X (by decide), g2, m2, ofv_app m3 m4, ct_set ha hi, h6 i hi]
      by_cases e : a ≤ i ∧ i < a + (zl s + 1)
      · rw [if_pos e, if_pos e]
      · rw [if_neg e, if_neg e, Int32.add_zero]
    · exact absurd (eq.mp hx) hy
  · rcases m5 with ⟨rfl, hy, m5⟩ | ⟨rfl, hy, m3, m4, m5⟩
    · exact absurd (eq.mpr hy) hx
    · refine ⟨⟨q, h1, by rw [m5, h2], by rw [m1.X (by decide), h3], fun i hi => by rw [m1.X (by decide), m2, h4 i hi], by rw [m1.X (by decide), m2, h5], fun i hi => by rw [m1.X (by decide), m2, m3, m4, h6 i hi], fun i hi => by rw [m2]; exact h7 i hi⟩, Or.inr ⟨rfl, rfl⟩⟩
theorem sm_0 {f : Nat → Int32} {n : Nat} (h : ∀ i, i < n → f i = 0) : sm f n = 0 := by
  induction n with
  | zero => rfl
  | succ n ih =>
    show sm f n + f n = 0
    rw [ih (fun i hi => h i (by omega)), h n (by omega)]
    rfl
theorem RD_clear {μ μ1 μ2 : zM} (hx : (∀ k, k < 34 → μ1.1 10 k = 0 ∧ μ1.1 11 k = 0) ∧ μ1.1 9 4 = 0 ∧ μ1.1 9 5 = 0) (hm : (∀ k, k < 34 → μ2.1 74 k = 0) ∧ μ2.1 50 66 = 0 ∧ (∀ r k, r ≠ 74 → ¬ (r = 50 ∧ (k = 0 ∨ k = 66)) → μ2.1 r k = μ1.1 r k)) : RD μ2 0 := by
  obtain ⟨x1, x2, x3⟩ := hx
  obtain ⟨m1, m2, m3⟩ := hm
  have r : ∀ r k, r < 50 → μ2.1 r k = μ1.1 r k := fun r k hr => m3 r k (by omega) (by omega)
  refine ⟨by decide, m2, by rw [r 9 4 (by decide), x2]; rfl, fun k hk => by rw [r 10 k (by decide), (x1 k hk).1, m1 k hk], by rw [r 9 5 (by decide), x3, sm_0 m1], fun k hk => ?_, fun k hk => by rw [m1 k hk]; exact ⟨by decide, by decide⟩⟩
  show μ2.1 11 k = μ2.1 74 k
  rw [r 11 k (by decide), (x1 k hk).2, m1 k hk]
/-- what leaves the desks alone keeps it -/
theorem RD.keep {μ μ' : zM} {q : Nat} (h : RD μ q) (hk : ∀ r k, (9 ≤ r ∧ r ≤ 11) ∨ (74 ≤ r ∧ r ≤ 76) ∨ (r = 50 ∧ k = 66) → μ'.1 r k = μ.1 r k) : RD μ' q := by
  obtain ⟨h1, h2, h3, h4, h5, h6, h7⟩ := h
  have e74 : μ'.1 74 = μ.1 74 := funext fun i => hk 74 i (by omega)
  have e75 : μ'.1 75 = μ.1 75 := funext fun i => hk 75 i (by omega)
  have e76 : μ'.1 76 = μ.1 76 := funext fun i => hk 76 i (by omega)
  refine ⟨h1, by rw [hk 50 66 (by omega), h2], by rw [hk 9 4 (by omega), h3], fun k h => by rw [hk 10 k (by omega), e74, h4 k h], by rw [hk 9 5 (by omega), e74, h5], fun k h => by rw [hk 11 k (by omega), e74, e75, e76, h6 k h], fun k h => by rw [e74]; exact h7 k h⟩
/-- and the bounds of the memory -/
theorem a_H_Mf {μ μ' : zM} (h : a_H μ) (hm : zMf μ μ') (h6 : bI 0 4 (μ'.1 50 66)) : a_H μ' := by
  intro r k
  by_cases e1 : r = 51 ∨ r = 52 ∨ r = 53 ∨ r = 58 ∨ r = 74 ∨ r = 75 ∨ r = 76
  · rcases e1 with rfl | rfl | rfl | rfl | rfl | rfl | rfl <;> exact bI_top _
  · by_cases e2 : r = 50 ∧ (k = 0 ∨ k = 4 ∨ k = 66)
    · obtain ⟨rfl, rfl | rfl | rfl⟩ := e2
      · exact bI_top _
      · rcases hm.2.1 with e | e
        · rw [e]; exact h 50 4
        · rw [e]; exact h 50 66
      · exact h6
    · rw [hm.1 r k (by omega) (by omega) (by omega) (by omega) (by omega) (by omega) (by omega) e2]
      exact h r k
