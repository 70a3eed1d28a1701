/-! a SEAT's hand on both sides; the WAITS agree -/
set_option maxRecDepth 8000
theorem ct_nat (s l k : Int32) : ∃ c, c ≤ 4 ∧ ct s l k = nI c := by
  unfold ct
  split
  · split
    · exact ⟨1, by decide, rfl⟩
    · exact ⟨0, by decide, rfl⟩
  · split
    · split
      · exact ⟨3, by decide, rfl⟩
      · exact ⟨4, by decide, rfl⟩
    · exact ⟨0, by decide, rfl⟩
theorem ofv_nat {so lo : Nat → Int32} {k : Int32} {w : Nat} : ∀ n, ∃ c, c ≤ 4 * n ∧ ofv (nI w) so lo k n = nI (w + c)
  | 0 => ⟨0, by decide, rfl⟩
  | n + 1 => by
    obtain ⟨c, h1, h2⟩ := ofv_nat (so := so) (lo := lo) (k := k) (w := w) n
    obtain ⟨d, h3, h4⟩ := ct_nat (so n) (lo n) k
    refine ⟨c + d, by omega, ?_⟩
    show ofv (nI w) so lo k n + ct (so n) (lo n) k = _
    rw [h2, h4, nI_add, Nat.add_assoc]
def HF (x m : zM) (s : Nat) (w aw : Nat → Nat) (q : Nat) (sL lL : Nat → Nat) : Prop := HM m s w q sL lL ∧ RW x (20 + 8 * s) w ∧ RW x (21 + 8 * s) aw ∧ x.1 (19 + 8 * s) 4 = nI q ∧ (q = 0 → ∀ k, k < 34 → aw k = w k) ∧ (∀ k, k < 34 → aw k ≤ 4) ∧ x.1 (19 + 8 * s) 5 = nI (sn w 34) ∧ (∀ k, k < 34 → nI (aw k) = ofv (nI (w k)) (fun i => m.1 62 (4 * s + i)) (fun i => m.1 63 (4 * s + i)) (nI k) q)
theorem i_nat {v : Int32} {n : Nat} (h0 : 0 ≤ v.toInt) (h1 : v.toInt ≤ n) (hn : n < 1000) : ∃ a, a ≤ n ∧ v = nI a := by
  obtain ⟨t, ht, e⟩ := a_nI (x := v) (n := n + 1) h0 (by omega) (by omega)
  exact ⟨t, by omega, e⟩
abbrev hs9 (m : zM) (s : Nat) : Int := hs m s
theorem hf_of {x m : zM} {p t c : Nat} (R : RCl x m) (P : RPh x m p t c) (hA : a_H m) (hG : GP m) {s : Nat} (hs : s < 4) : ∃ w aw q sL lL, HF x m s w aw q sL lL := by
  have g14 : ∀ j, j < 4 → glim m j ≤ 14 := fun j _ => by unfold glim; split <;> decide
  obtain ⟨g1, g2, g3, -, -, -⟩ := hG
  have hmI : 0 ≤ mI m s := (hA 64 s).1
  have hsum : hs9 m s ≤ 14 := by
    have := g1.2 s hs
    have := g14 s hs
    show hs9 m s ≤ 14
    unfold hs9
    omega
  have hw : ∀ k, k < 34 → ∃ a, a ≤ 14 ∧ m.1 60 (34 * s + k) = nI a := fun k hk => i_nat (g1.1 _ (by omega)) (by have := g1.le hs hk; show hI m (34 * s + k) ≤ 14; unfold hs9 at hsum; omega) (by decide)
  obtain ⟨q, hq4, hq⟩ : ∃ q, q ≤ 4 ∧ m.1 64 s = nI q := i_nat (hA 64 s).1 (hA 64 s).2 (by decide)
  obtain ⟨a, ha1, ha2⟩ := P.tc
  obtain ⟨sd, hsd⟩ := R.wp P.is
  have hnx : (m.1 50 46).toNatClampNeg ≤ 122 := by
    obtain ⟨n, h1, h2⟩ := i_nat (v := m.1 50 46) (n := 122) (hA 50 46).1 (hA 50 46).2 (by decide)
    rw [h2, nI_clamp (by omega)]; exact h1
  have hbk : (m.1 50 48).toNatClampNeg ≤ 14 := by
    obtain ⟨n, h1, h2⟩ := i_nat (v := m.1 50 48) (n := 4) (hA 50 48).1 (hA 50 48).2 (by decide)
    rw [h2, nI_clamp (by omega)]; omega
  have ha4 : ∀ k, k < 34 → a s k ≤ 4 := fun k hk => by
    have h1 := ha2 k hk
    have h2 := cW_4 sd (f := fW m) hsd hk hnx hbk
    obtain rfl | rfl | rfl | rfl : s = 0 ∨ s = 1 ∨ s = 2 ∨ s = 3 := by omega
    all_goals omega
  let w : Nat → Nat := fun k => (m.1 60 (34 * s + k)).toNatClampNeg
  have hw9 : ∀ k, k < 34 → m.1 60 (34 * s + k) = nI (w k) ∧ w k ≤ 14 := fun k hk => by
    obtain ⟨b, h1, h2⟩ := hw k hk
    show m.1 60 (34 * s + k) = nI (m.1 60 (34 * s + k)).toNatClampNeg ∧ (m.1 60 (34 * s + k)).toNatClampNeg ≤ 14
    rw [h2, nI_clamp (by omega)]; exact ⟨rfl, h1⟩
  have hal : ∀ k, k < 34 → nI (a s k) = ofv (nI (w k)) (fun i => m.1 62 (4 * s + i)) (fun i => m.1 63 (4 * s + i)) (nI k) q := fun k hk => by
    rw [← ha1 s k hs hk, R.al s k hs hk, (hw9 k hk).1, hq, nI_clamp (by omega)]
  have hwa : ∀ k, k < 34 → w k ≤ a s k ∧ (q = 0 → a s k = w k) := fun k hk => by
    obtain ⟨d, h1, h2⟩ := ofv_nat (so := fun i => m.1 62 (4 * s + i)) (lo := fun i => m.1 63 (4 * s + i)) (k := nI k) (w := w k) q
    have h3 := (hal k hk).trans h2
    have h4 := ha4 k hk
    have h5 := (hw9 k hk).2
    have h6 := (nI_eq (a := a s k) (b := w k + d) (by omega) (by omega)).mp h3
    exact ⟨by omega, fun e => by omega⟩
  refine ⟨w, a s, q, fun i => (m.1 62 (4 * s + i)).toNatClampNeg, fun i => (m.1 63 (4 * s + i)).toNatClampNeg, ⟨fun k hk => ⟨(hw9 k hk).1, by have := (hwa k hk).1; have := ha4 k hk; omega⟩, hq, hq4, fun j hj => ?_⟩, fun k hk => ?_, fun k hk => ⟨ha1 s k hs hk, by have := ha4 k hk; omega⟩, (R.lm s hs).trans hq, fun e k hk => (hwa k hk).2 e, ha4, ?_, hal⟩
  · have z := R.sv s j hs (by rw [hq, nI_clamp (by omega)]; exact hj)
    obtain ⟨n1, h1, h2⟩ := i_nat (n := 3) z.1.1 z.1.2 (by decide)
    obtain ⟨n2, h3, h4⟩ := i_nat (n := 33) z.2.1.1 z.2.1.2 (by decide)
    have z3 := z.2.2
    rw [h2, h4] at z3
    show m.1 62 (4 * s + j) = nI (m.1 62 (4 * s + j)).toNatClampNeg ∧ (m.1 62 (4 * s + j)).toNatClampNeg ≤ 3 ∧ m.1 63 (4 * s + j) = nI (m.1 63 (4 * s + j)).toNatClampNeg ∧ (m.1 63 (4 * s + j)).toNatClampNeg < 34 ∧ ((m.1 62 (4 * s + j)).toNatClampNeg = 0 → rs (m.1 63 (4 * s + j)).toNatClampNeg)
    rw [h2, h4, nI_clamp (by omega), nI_clamp (by omega)]
    exact ⟨rfl, h1, rfl, by omega, fun e => (sr_rs n2 (by omega)).mp (z3 (by rw [e]; rfl))⟩
  · rw [R.hd s k hs hk]; exact ⟨(hw9 k hk).1, by have := (hwa k hk).1; have := ha4 k hk; omega⟩
  · rw [R.lz s hs]; exact sm_sn 34 (fun k hk => (hw9 k hk).1)
theorem wt_iff {x m : zM} {s : Nat} {w aw : Nat → Nat} {q : Nat} {sL lL : Nat → Nat} (H : HF x m s w aw q sL lL) (hs : s < 4) {c : Nat} (hc : c < 34) : WX (sMm s x) w q c ↔ WMs m s w q c := by
  obtain ⟨h1, -, h3, h4, -, -, h7, h8⟩ := H
  unfold WX WMs
  rw [sM9 hs, sM9 hs, sM11 hs, h4, h7, (h3 c hc).1, h8 c hc, size_nI]
  have hw4 : sn w 34 ≤ 4 * 34 := sn_ub 34 (fun k hk => (h1.1 k hk).2)
  have hq4 := h1.2.2.1
  have e : nI (sn w 34 + 3 * q) = 13 ↔ sn w 34 + 3 * q = 13 := by rw [show (13 : Int32) = nI 13 from rfl]; exact nI_eq (by omega) (by omega)
  constructor
  · rintro ⟨a, b, d⟩
    have a := e.mp a
    exact ⟨a, b, (FU_FM hq4 (by rw [sn_ad1 hc]; omega)).mp d⟩
  · rintro ⟨a, b, d⟩
    exact ⟨e.mpr a, b, (FU_FM hq4 (by rw [sn_ad1 hc]; omega)).mpr d⟩
theorem wt_kb {x m : zM} {s : Nat} {w aw : Nat → Nat} {q : Nat} {sL lL : Nat → Nat} (H : HF x m s w aw q sL lL) (hs : s < 4) : kb (wb (WX (sMm s x) w q)) 34 = kb (wb (WMs m s w q)) 34 := kb_congr (fun k hk => wb_iff (wt_iff H hs hk))
