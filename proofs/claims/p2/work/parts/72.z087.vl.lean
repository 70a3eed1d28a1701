/-! the reference's WAITS as its contracts ask for them -/
set_option maxRecDepth 8000
theorem WMs_se {μ M : zM} (h : SE μ M) {s : Nat} {w : Nat → Nat} {q : Nat} : WMs M s w q = WMs μ s w q := by
  funext c
  unfold WMs
  rw [show (fun i => M.1 62 (4 * s + i)) = (fun i => μ.1 62 (4 * s + i)) from funext fun i => h 62 _ (by omega), show (fun i => M.1 63 (4 * s + i)) = (fun i => μ.1 63 (4 * s + i)) from funext fun i => h 63 _ (by omega)]
theorem mw_wait {μ : zM} {s : Nat} {w : Nat → Nat} {q : Nat} {sL lL : Nat → Nat} (H : HM μ s w q sL lL) (hs : s < 4) : ∀ M, SE μ M → a_H M → ∀ d, 699 ≤ d → z_C d mi_X7_waitsAt [.ref 50, .int (nI s)] M (fun r W => r = some (.long (WV μ s w q)) ∧ SMj M W ∧ a_H W) := fun M hM hA d hd => by
  have z := gm_waitsAt d (by omega) M hA s hs w q sL lL (H.se hM)
  rw [WMs_se hM] at z
  exact z
theorem HM.m {m m' : zM} {s : Nat} {w : Nat → Nat} {q : Nat} {sL lL : Nat → Nat} (h : HM m s w q sL lL) (e : EqM m m') : HM m' s w q sL lL := h.se (fun r k g => (e r k (Or.inl (by omega))).1)
theorem WV_m {m m' : zM} (e : EqM m m') {s : Nat} {w : Nat → Nat} {q : Nat} : WV m' s w q = WV m s w q := by
  unfold WV
  rw [WMs_se (μ := m) (M := m') (fun r k g => (e r k (Or.inl (by omega))).1)]
theorem HF.m {x m m' : zM} {s : Nat} {w aw : Nat → Nat} {q : Nat} {sL lL : Nat → Nat} (H : HF x m s w aw q sL lL) (e : EqM m m') : HF x m' s w aw q sL lL := by
  obtain ⟨h1, h2, h3, h4, h5, h6, h7, h8⟩ := H
  refine ⟨h1.m e, h2, h3, h4, h5, h6, h7, fun k hk => ?_⟩
  rw [h8 k hk, show (fun i => m'.1 62 (4 * s + i)) = (fun i => m.1 62 (4 * s + i)) from funext fun i => (e 62 _ (Or.inl ⟨by omega, by omega⟩)).1, show (fun i => m'.1 63 (4 * s + i)) = (fun i => m.1 63 (4 * s + i)) from funext fun i => (e 63 _ (Or.inl ⟨by omega, by omega⟩)).1]
