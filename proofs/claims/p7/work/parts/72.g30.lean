/-! the relation is kept: laying down -/
set_option maxRecDepth 8000
/-- a SET is laid down: what the cells have in common -/
def LAY (x m x' m' : zM) (s q a : Nat) (so : Int32) (dt : Nat → Int32) : Prop := (∀ r k, r ≠ 19 + 8 * s → r ≠ 20 + 8 * s → r ≠ 21 + 8 * s → r ≠ 22 + 8 * s → r ≠ 23 + 8 * s → x'.1 r k = x.1 r k) ∧ (x'.2.1 = x.2.1) ∧ (∀ r k, r ≠ 60 → r ≠ 62 → r ≠ 63 → r ≠ 64 → m'.1 r k = m.1 r k) ∧ (m'.2.1 = m.2.1) ∧ (x'.1 (19 + 8 * s) 4 = nI (q + 1)) ∧ (m'.1 64 s = nI (q + 1)) ∧ (∀ j, j ≠ s → m'.1 64 j = m.1 64 j) ∧ (∀ k, k < 34 → x'.1 (20 + 8 * s) k = x.1 (20 + 8 * s) k + dt k) ∧ (∀ k, k < 34 → m'.1 60 (34 * s + k) = m.1 60 (34 * s + k) + dt k) ∧ (∀ j k, j < 4 → k < 34 → j ≠ s → m'.1 60 (34 * j + k) = m.1 60 (34 * j + k)) ∧ (∀ k, k < 34 → x'.1 (21 + 8 * s) k = x.1 (21 + 8 * s) k + (dt k + ct so (nI a) (nI k))) ∧ (x'.1 (19 + 8 * s) 5 = x.1 (19 + 8 * s) 5 + sm dt 34) ∧ (∀ i, i < 4 → x'.1 (22 + 8 * s) i = (if i = q then so else x.1 (22 + 8 * s) i)) ∧ (∀ i, i < 4 → x'.1 (23 + 8 * s) i = (if i = q then nI a else x.1 (23 + 8 * s) i)) ∧ (∀ j i, j < 4 → i < 4 → m'.1 62 (4 * j + i) = (if j = s ∧ i = q then so else m.1 62 (4 * j + i))) ∧ (∀ j i, j < 4 → i < 4 → m'.1 63 (4 * j + i) = (if j = s ∧ i = q then nI a else m.1 63 (4 * j + i)))
theorem LAY.fx {x m x' m' : zM} {s q a : Nat} {so : Int32} {dt : Nat → Int32} (h : LAY x m x' m' s q a so dt) : ∀ r k, r ≠ 19 + 8 * s → r ≠ 20 + 8 * s → r ≠ 21 + 8 * s → r ≠ 22 + 8 * s → r ≠ 23 + 8 * s → x'.1 r k = x.1 r k := h.1
theorem LAY.fj {x m x' m' : zM} {s q a : Nat} {so : Int32} {dt : Nat → Int32} (h : LAY x m x' m' s q a so dt) : x'.2.1 = x.2.1 := h.2.1
theorem LAY.fm {x m x' m' : zM} {s q a : Nat} {so : Int32} {dt : Nat → Int32} (h : LAY x m x' m' s q a so dt) : ∀ r k, r ≠ 60 → r ≠ 62 → r ≠ 63 → r ≠ 64 → m'.1 r k = m.1 r k := h.2.2.1
theorem LAY.fk {x m x' m' : zM} {s q a : Nat} {so : Int32} {dt : Nat → Int32} (h : LAY x m x' m' s q a so dt) : m'.2.1 = m.2.1 := h.2.2.2.1
theorem LAY.x4 {x m x' m' : zM} {s q a : Nat} {so : Int32} {dt : Nat → Int32} (h : LAY x m x' m' s q a so dt) : x'.1 (19 + 8 * s) 4 = nI (q + 1) := h.2.2.2.2.1
theorem LAY.m4 {x m x' m' : zM} {s q a : Nat} {so : Int32} {dt : Nat → Int32} (h : LAY x m x' m' s q a so dt) : m'.1 64 s = nI (q + 1) := h.2.2.2.2.2.1
theorem LAY.n4 {x m x' m' : zM} {s q a : Nat} {so : Int32} {dt : Nat → Int32} (h : LAY x m x' m' s q a so dt) : ∀ j, j ≠ s → m'.1 64 j = m.1 64 j := h.2.2.2.2.2.2.1
theorem LAY.xf {x m x' m' : zM} {s q a : Nat} {so : Int32} {dt : Nat → Int32} (h : LAY x m x' m' s q a so dt) : ∀ k, k < 34 → x'.1 (20 + 8 * s) k = x.1 (20 + 8 * s) k + dt k := h.2.2.2.2.2.2.2.1
theorem LAY.mf {x m x' m' : zM} {s q a : Nat} {so : Int32} {dt : Nat → Int32} (h : LAY x m x' m' s q a so dt) : ∀ k, k < 34 → m'.1 60 (34 * s + k) = m.1 60 (34 * s + k) + dt k := h.2.2.2.2.2.2.2.2.1
theorem LAY.nf {x m x' m' : zM} {s q a : Nat} {so : Int32} {dt : Nat → Int32} (h : LAY x m x' m' s q a so dt) : ∀ j k, j < 4 → k < 34 → j ≠ s → m'.1 60 (34 * j + k) = m.1 60 (34 * j + k) := h.2.2.2.2.2.2.2.2.2.1
theorem LAY.xa {x m x' m' : zM} {s q a : Nat} {so : Int32} {dt : Nat → Int32} (h : LAY x m x' m' s q a so dt) : ∀ k, k < 34 → x'.1 (21 + 8 * s) k = x.1 (21 + 8 * s) k + (dt k + ct so (nI a) (nI k)) := h.2.2.2.2.2.2.2.2.2.2.1
theorem LAY.x5 {x m x' m' : zM} {s q a : Nat} {so : Int32} {dt : Nat → Int32} (h : LAY x m x' m' s q a so dt) : x'.1 (19 + 8 * s) 5 = x.1 (19 + 8 * s) 5 + sm dt 34 := h.2.2.2.2.2.2.2.2.2.2.2.1
theorem LAY.xs {x m x' m' : zM} {s q a : Nat} {so : Int32} {dt : Nat → Int32} (h : LAY x m x' m' s q a so dt) : ∀ i, i < 4 → x'.1 (22 + 8 * s) i = (if i = q then so else x.1 (22 + 8 * s) i) := h.2.2.2.2.2.2.2.2.2.2.2.2.1
theorem LAY.xl {x m x' m' : zM} {s q a : Nat} {so : Int32} {dt : Nat → Int32} (h : LAY x m x' m' s q a so dt) : ∀ i, i < 4 → x'.1 (23 + 8 * s) i = (if i = q then nI a else x.1 (23 + 8 * s) i) := h.2.2.2.2.2.2.2.2.2.2.2.2.2.1
theorem LAY.ms {x m x' m' : zM} {s q a : Nat} {so : Int32} {dt : Nat → Int32} (h : LAY x m x' m' s q a so dt) : ∀ j i, j < 4 → i < 4 → m'.1 62 (4 * j + i) = (if j = s ∧ i = q then so else m.1 62 (4 * j + i)) := h.2.2.2.2.2.2.2.2.2.2.2.2.2.2.1
theorem LAY.ml {x m x' m' : zM} {s q a : Nat} {so : Int32} {dt : Nat → Int32} (h : LAY x m x' m' s q a so dt) : ∀ j i, j < 4 → i < 4 → m'.1 63 (4 * j + i) = (if j = s ∧ i = q then nI a else m.1 63 (4 * j + i)) := h.2.2.2.2.2.2.2.2.2.2.2.2.2.2.2
theorem sm_ad9 {f g h : Nat → Int32} : ∀ n, (∀ j, j < n → h j = f j + g j) → sm h n = sm f n + sm g n
  | 0, _ => rfl
  | n + 1, e => by
    show sm h n + h n = (sm f n + f n) + (sm g n + g n)
    rw [sm_ad9 n (fun j hj => e j (by omega)), e n (by omega)]
    ac_rfl
theorem ofv_c9 {w k : Int32} {s s' l l' : Nat → Int32} : ∀ n, (∀ i, i < n → s i = s' i ∧ l i = l' i) → ofv w s l k n = ofv w s' l' k n := fun n h => ofv_cg n h
theorem rc_lay {x m x' m' : zM} (R : RCl x m) {s q a : Nat} {so : Int32} {dt : Nat → Int32} (A : LAY x m x' m' s q a so dt) (hs : s < 4) (hq : q ≤ 3) (e64 : m.1 64 s = nI q) (hv : SVd so (nI a)) (hm4 : ∀ j, j < 4 → (m.1 64 j).toNatClampNeg ≤ 4) : RCl x' m' := by
  have X := A.fx
  have M := A.fm
  exact ⟨(by rw [A.fx _ _ (by omega) (by omega) (by omega) (by omega) (by omega), A.fm _ _ (by omega) (by omega) (by omega) (by omega)]; exact R.dl), (by rw [A.fx _ _ (by omega) (by omega) (by omega) (by omega) (by omega), A.fm _ _ (by omega) (by omega) (by omega) (by omega)]; exact R.rn), (by rw [A.fx _ _ (by omega) (by omega) (by omega) (by omega) (by omega), A.fm _ _ (by omega) (by omega) (by omega) (by omega)]; exact R.st), (by rw [A.fx _ _ (by omega) (by omega) (by omega) (by omega) (by omega), A.fm _ _ (by omega) (by omega) (by omega) (by omega)]; exact R.bt), (by rw [A.fx _ _ (by omega) (by omega) (by omega) (by omega) (by omega), A.fm _ _ (by omega) (by omega) (by omega) (by omega)]; exact R.en), (by rw [A.fx _ _ (by omega) (by omega) (by omega) (by omega) (by omega), A.fm _ _ (by omega) (by omega) (by omega) (by omega)]; exact R.he), (by rw [A.fx _ _ (by omega) (by omega) (by omega) (by omega) (by omega), A.fm _ _ (by omega) (by omega) (by omega) (by omega)]; exact R.wc), (by rw [A.fx _ _ (by omega) (by omega) (by omega) (by omega) (by omega), A.fm _ _ (by omega) (by omega) (by omega) (by omega)]; exact R.sd), (by rw [A.fx _ _ (by omega) (by omega) (by omega) (by omega) (by omega), A.fm _ _ (by omega) (by omega) (by omega) (by omega)]; exact R.nx), fun i h0 => by rw [A.fx _ _ (by omega) (by omega) (by omega) (by omega) (by omega), A.fm _ _ (by omega) (by omega) (by omega) (by omega)]; exact R.wl i h0, fun s h0 => by rw [A.fx _ _ (by omega) (by omega) (by omega) (by omega) (by omega), A.fm _ _ (by omega) (by omega) (by omega) (by omega)]; exact R.pt s h0, fun s h0 => by rw [A.fx _ _ (by omega) (by omega) (by omega) (by omega) (by omega), A.fm _ _ (by omega) (by omega) (by omega) (by omega)]; exact R.be s h0, fun s h0 => by rw [A.fx _ _ (by omega) (by omega) (by omega) (by omega) (by omega), A.fm _ _ (by omega) (by omega) (by omega) (by omega)]; exact R.ao s h0, fun s h0 => by rw [A.fx _ _ (by omega) (by omega) (by omega) (by omega) (by omega), A.fm _ _ (by omega) (by omega) (by omega) (by omega)]; exact R.lg s h0, fun s h0 => by rw [A.fx _ _ (by omega) (by omega) (by omega) (by omega) (by omega), A.fm _ _ (by omega) (by omega) (by omega) (by omega)]; exact R.sy s h0, fun s h0 => by rw [A.fx _ _ (by omega) (by omega) (by omega) (by omega) (by omega), A.fm _ _ (by omega) (by omega) (by omega) (by omega)]; exact R.ds s h0, (fun j h0 => by
      by_cases e : j = s
      · subst e; rw [A.x4, A.m4]
      · rw [A.fx _ _ (by omega) (by omega) (by omega) (by omega) (by omega), A.n4 j e]; exact R.lm j h0), (fun j k h0 h1 => by
      by_cases e : j = s
      · subst e; rw [A.xf k h1, A.mf k h1, R.hd j k h0 h1]
      · rw [A.fx _ _ (by omega) (by omega) (by omega) (by omega) (by omega), A.nf j k h0 h1 e]; exact R.hd j k h0 h1), (fun j i h0 h1 => by
      rw [A.ms j i h0 h1]
      by_cases e : j = s
      · subst e; rw [A.xs i h1, R.so j i h0 h1]
        by_cases e2 : i = q
        · rw [if_pos e2, if_pos ⟨rfl, e2⟩]
        · rw [if_neg e2, if_neg (fun z => e2 z.2)]
      · rw [A.fx _ _ (by omega) (by omega) (by omega) (by omega) (by omega), if_neg (fun z => e z.1)]; exact R.so j i h0 h1), (fun j i h0 h1 => by
      rw [A.ml j i h0 h1]
      by_cases e : j = s
      · subst e; rw [A.xl i h1, R.lo j i h0 h1]
        by_cases e2 : i = q
        · rw [if_pos e2, if_pos ⟨rfl, e2⟩]
        · rw [if_neg e2, if_neg (fun z => e2 z.2)]
      · rw [A.fx _ _ (by omega) (by omega) (by omega) (by omega) (by omega), if_neg (fun z => e z.1)]; exact R.lo j i h0 h1), fun s i h0 h1 => by rw [A.fx _ _ (by omega) (by omega) (by omega) (by omega) (by omega), A.fm _ _ (by omega) (by omega) (by omega) (by omega)]; exact R.rv s i h0 h1, fun i f h0 h1 h2 => by rw [A.fx _ _ (by omega) (by omega) (by omega) (by omega) (by omega), A.fm _ _ (by omega) (by omega) (by omega) (by omega)]; exact R.wi i f h0 h1 h2, fun i h0 => by rw [A.fj, A.fk]; exact R.wf i h0, (fun j k h0 h1 => by
      by_cases e : j = s
      · subst e
        rw [A.xa k h1, A.mf k h1, A.m4, nI_clamp (by omega), R.al j k h0 h1, e64, nI_clamp (by omega)]
        show _ = ofv _ _ _ _ q + ct (m'.1 62 (4 * j + q)) (m'.1 63 (4 * j + q)) (nI k)
        rw [A.ms j q h0 (by omega), A.ml j q h0 (by omega), if_pos ⟨rfl, rfl⟩, if_pos ⟨rfl, rfl⟩, ofv_add]
        rw [ofv_cg (s := fun i => m'.1 62 (4 * j + i)) (l := fun i => m'.1 63 (4 * j + i)) (s' := fun i => m.1 62 (4 * j + i)) (l' := fun i => m.1 63 (4 * j + i)) q (fun i hi => by
          show m'.1 62 (4 * j + i) = _ ∧ m'.1 63 (4 * j + i) = _
          rw [A.ms j i h0 (by omega), A.ml j i h0 (by omega), if_neg (by omega), if_neg (by omega)]; exact ⟨rfl, rfl⟩)]
        ac_rfl
      · rw [A.fx _ _ (by omega) (by omega) (by omega) (by omega) (by omega), A.nf j k h0 h1 e, A.n4 j e, R.al j k h0 h1]
        exact (ofv_cg _ (fun i hi => by
          show m'.1 62 (4 * j + i) = _ ∧ m'.1 63 (4 * j + i) = _
          have hi4 : i < 4 := Nat.lt_of_lt_of_le hi (hm4 j h0)
          rw [A.ms j i h0 hi4, A.ml j i h0 hi4, if_neg (fun z => e z.1), if_neg (fun z => e z.1)]; exact ⟨rfl, rfl⟩)).symm), (fun j h0 => by
      by_cases e : j = s
      · subst e
        rw [A.x5, R.lz j h0]
        exact (sm_ad9 34 (fun k hk => A.mf k hk)).symm
      · rw [A.fx _ _ (by omega) (by omega) (by omega) (by omega) (by omega), R.lz j h0]
        exact sm_cg (fun k hk => (A.nf j k h0 hk e).symm)), (fun j i h0 h1 => by
      by_cases e : j = s
      · subst e
        rw [A.m4, nI_clamp (by omega)] at h1
        rw [A.ms j i h0 (by omega), A.ml j i h0 (by omega)]
        by_cases e2 : i = q
        · rw [if_pos ⟨rfl, e2⟩, if_pos ⟨rfl, e2⟩]; exact hv
        · rw [if_neg (fun z => e2 z.2), if_neg (fun z => e2 z.2)]
          exact R.sv j i h0 (by rw [e64, nI_clamp (by omega)]; omega)
      · rw [A.n4 j e] at h1
        have hi4 : i < 4 := Nat.lt_of_lt_of_le h1 (hm4 j h0)
        rw [A.ms j i h0 hi4, A.ml j i h0 hi4, if_neg (fun z => e z.1), if_neg (fun z => e z.1)]
        exact R.sv j i h0 h1), fun j h0 => by rw [A.fj, R.tk j h0]; exact congrArg (fun f => kb f 34) (tkM_cg (R.rb j h0) (fun i hi => A.fm _ _ (by omega) (by omega) (by omega) (by omega)) (A.fm _ _ (by omega) (by omega) (by omega) (by omega))), fun j h0 => by rw [A.fm _ _ (by omega) (by omega) (by omega) (by omega)]; exact R.rb j h0, fun j i h0 h1 => by rw [A.fm 66 j (by omega) (by omega) (by omega) (by omega)] at h1; rw [A.fm 65 (136 * j + i) (by omega) (by omega) (by omega) (by omega)]; exact R.rk j i h0 h1, (by rw [A.fm _ _ (by omega) (by omega) (by omega) (by omega)]; exact R.rd), fun j h0 => by rw [A.fm _ _ (by omega) (by omega) (by omega) (by omega)]; exact R.bb j h0, (fun z => by
      rw [A.fm _ _ (by omega) (by omega) (by omega) (by omega)] at z
      exact (R.wp z).elim fun sd y => ⟨sd, fun i hi => by rw [A.fm _ _ (by omega) (by omega) (by omega) (by omega)]; exact y i hi⟩)⟩
/-! laying down: hide, three, four, run -/
set_option maxRecDepth 8000
theorem ldS_20 {μ : zM} {j a q k : Nat} {s : Int32} : (ldS μ j s a q).1 (20 + 8 * j) k = (if a ≤ k ∧ k < a + (zl s + 1) then μ.1 (20 + 8 * j) k - se s else μ.1 (20 + 8 * j) k) := by
  unfold ldS
  show (if 20 + 8 * j = 20 + 8 * j then _ else _) = _
  rw [if_pos rfl]
theorem ldS_5 {μ : zM} {j a q : Nat} {s : Int32} : (ldS μ j s a q).1 (19 + 8 * j) 5 = μ.1 (19 + 8 * j) 5 - nI (zl s + 1) * se s := by
  unfold ldS
  show (if 19 + 8 * j = 20 + 8 * j then _ else if 19 + 8 * j = 19 + 8 * j ∧ 5 = 5 then _ else _) = _
  rw [if_neg (by omega), if_pos ⟨rfl, rfl⟩]
theorem ldS_4 {μ : zM} {j a q : Nat} {s : Int32} : (ldS μ j s a q).1 (19 + 8 * j) 4 = nI (q + 1) := by
  unfold ldS
  show (if 19 + 8 * j = 20 + 8 * j then _ else if 19 + 8 * j = 19 + 8 * j ∧ 4 = 5 then _ else if 19 + 8 * j = 19 + 8 * j ∧ 4 = 4 then _ else _) = _
  rw [if_neg (by omega), if_neg (by omega), if_pos ⟨rfl, rfl⟩]
theorem ldS_22 {μ : zM} {j a q k : Nat} {s : Int32} : (ldS μ j s a q).1 (22 + 8 * j) k = (if k = q then s else μ.1 (22 + 8 * j) k) := by
  unfold ldS
  show (if 22 + 8 * j = 20 + 8 * j then _ else if 22 + 8 * j = 19 + 8 * j ∧ k = 5 then _ else if 22 + 8 * j = 19 + 8 * j ∧ k = 4 then _ else if 22 + 8 * j = 22 + 8 * j ∧ k = q then _ else if 22 + 8 * j = 23 + 8 * j ∧ k = q then _ else _) = _
  rw [if_neg (by omega), if_neg (by omega), if_neg (by omega)]
  by_cases e : k = q
  · rw [if_pos ⟨rfl, e⟩, if_pos e]
  · rw [if_neg (fun z => e z.2), if_neg (fun z => e z.2), if_neg e]
theorem ldS_23 {μ : zM} {j a q k : Nat} {s : Int32} : (ldS μ j s a q).1 (23 + 8 * j) k = (if k = q then nI a else μ.1 (23 + 8 * j) k) := by
  unfold ldS
  show (if 23 + 8 * j = 20 + 8 * j then _ else if 23 + 8 * j = 19 + 8 * j ∧ k = 5 then _ else if 23 + 8 * j = 19 + 8 * j ∧ k = 4 then _ else if 23 + 8 * j = 22 + 8 * j ∧ k = q then _ else if 23 + 8 * j = 23 + 8 * j ∧ k = q then _ else _) = _
  rw [if_neg (by omega), if_neg (by omega), if_neg (by omega), if_neg (by omega)]
  by_cases e : k = q
  · rw [if_pos ⟨rfl, e⟩, if_pos e]
  · rw [if_neg (fun z => e z.2), if_neg e]
theorem ldS_21 {μ : zM} {j a q k : Nat} {s : Int32} : (ldS μ j s a q).1 (21 + 8 * j) k = μ.1 (21 + 8 * j) k := ldS_o (by omega)
theorem lys_62 {μ : zM} {a q k : Nat} {so kk : Int32} : (z_lys μ a q so kk).1 62 k = (if k = 4 * a + q then so else μ.1 62 k) := by
  unfold z_lys
  rw [ui_o (by decide), ui_o (by decide)]
  by_cases e : k = 4 * a + q
  · rw [if_pos e, e, ui_s]
  · rw [if_neg e, ui_k e]
theorem lys_63 {μ : zM} {a q k : Nat} {so kk : Int32} : (z_lys μ a q so kk).1 63 k = (if k = 4 * a + q then kk else μ.1 63 k) := by
  unfold z_lys
  rw [ui_o (by decide)]
  by_cases e : k = 4 * a + q
  · rw [if_pos e, e, ui_s]
  · rw [if_neg e, ui_k e, ui_o (by decide)]
theorem lys_64s {μ : zM} {a q : Nat} {so kk : Int32} : (z_lys μ a q so kk).1 64 a = nI (q + 1) := by unfold z_lys; rw [ui_s]
theorem lys_64o {μ : zM} {a q k : Nat} {so kk : Int32} (h : k ≠ a) : (z_lys μ a q so kk).1 64 k = μ.1 64 k := by unfold z_lys; rw [ui_k h, ui_o (by decide), ui_o (by decide)]
theorem ct_n9 {so : Int32} {a k : Nat} (h : ¬ so = 0) (ha : a < 34) (hk : k < 34) : ct so (nI a) (nI k) = (if k = a then (if so = 1 then 3 else 4) else 0) := by
  unfold ct
  rw [if_neg h]
  by_cases e : k = a
  · rw [if_pos e, if_pos (by rw [e])]
  · rw [if_neg e, if_neg (fun z => e ((nI_eq (a := a) (b := k) (by omega) (by omega)).mp z).symm)]
theorem ct_r {l k : Nat} (hl : l + 2 < 34) (hk : k < 34) : ct 0 (nI l) (nI k) = (if l ≤ k ∧ k ≤ l + 2 then 1 else 0) := by
  unfold ct
  rw [if_pos rfl]
  have e1 : nI l ≤ nI k ↔ l ≤ k := by rw [Int32.le_iff_toInt_le, nI_toInt (by omega), nI_toInt (by omega)]; omega
  have e2 : nI k ≤ nI l + 2 ↔ k ≤ l + 2 := by rw [show nI l + 2 = nI (l + 2) from nI_add l 2, Int32.le_iff_toInt_le, nI_toInt (by omega), nI_toInt (by omega)]; omega
  simp only [e1, e2]
theorem i3 {x a b c : Int32} (h : a - b = c) : x + a - b = x + c := by rw [← h, Int32.sub_eq_add_neg, Int32.sub_eq_add_neg, Int32.add_assoc]
theorem i2 {x b c : Int32} (h : -b = c) : x - b = x + c := by rw [← h, Int32.sub_eq_add_neg]
theorem i0 {x c : Int32} (h : c = 0) : x = x + c := by rw [h, Int32.add_zero]
theorem sm_z9 : ∀ n, sm (fun _ => 0) n = 0
  | 0 => rfl
  | n + 1 => by show sm _ n + 0 = 0; rw [sm_z9 n]; rfl
theorem sm_p9 {c : Nat} {d : Int32} (hc : c < 34) : sm (fun j => if j = c then d else 0) 34 = d := by
  rw [sm_up9 (g := fun _ => 0) (d := d) hc (fun j _ e => if_neg e) (by rw [if_pos rfl, Int32.zero_add]), sm_z9, Int32.zero_add]
theorem sm_p2 {a b : Nat} (ha : a < 34) (hb : b < 34) (hab : a ≠ b) : sm (fun j => if j = a ∨ j = b then (-1 : Int32) else 0) 34 = -2 := by
  rw [sm_up9 (g := fun j => if j = a then (-1 : Int32) else 0) (d := -1) hb (fun j _ e => by simp only [e, or_false]) (by rw [if_pos (Or.inr rfl), if_neg (fun z => hab z.symm), Int32.zero_add]), sm_p9 ha]
  rfl
theorem svd_n {so : Int32} {a : Nat} (h : bI 0 3 so) (h0 : ¬ so = 0) (ha : a < 34) : SVd so (nI a) := ⟨h, bd_nI (by omega) ⟨by omega, by omega⟩, fun z => absurd z h0⟩
theorem lay_hide {x m : zM} {s c q : Nat} (hs : s < 4) (hc : c < 34) (hq : q ≤ 3) : LAY x m (ldS x s 3 c q) (z_lys (z_giv m s c (-4)) s q 3 (nI c)) s q c 3 (fun j => if j = c then (-4 : Int32) else 0) := by
  have z1 : zl 3 = 0 := by decide
  have z2 : se 3 = 4 := by decide
  exact ⟨fun r k h1 h2 h3 h4 h5 => by rw [ldS_o ⟨h1, h2, h4, h5⟩], rfl, fun r k h1 h2 h3 h4 => by rw [lys_o ⟨h2, h3, h4⟩, giv_o (by first | decide | omega)], rfl, ldS_4, lys_64s, fun j e => by rw [lys_64o e, giv_o (by first | decide | omega)], (fun k h1 => by
      rw [ldS_20, z1, z2]
      show _ = x.1 (20 + 8 * s) k + (if k = c then (-4 : Int32) else 0)
      by_cases e : k = c
      · rw [if_pos (by omega), if_pos e]; exact i2 (by decide)
      · rw [if_neg (by omega), if_neg e, Int32.add_zero]), (fun k h1 => by
      rw [lys_o (by decide), giv_60]
      show _ = m.1 60 (34 * s + k) + (if k = c then (-4 : Int32) else 0)
      by_cases e : k = c
      · rw [if_pos (by rw [e]), if_pos e]
      · rw [if_neg (by omega), if_neg e, Int32.add_zero]), fun j k h0 h1 e => by rw [lys_o (by decide), giv_60, if_neg (by omega)], (fun k h1 => by
      rw [ldS_21, ct_n9 (by decide) hc h1]
      show _ = x.1 (21 + 8 * s) k + ((if k = c then (-4 : Int32) else 0) + _)
      by_cases e : k = c
      · rw [if_pos e, if_pos e]; exact i0 (by decide)
      · rw [if_neg e, if_neg e]; exact i0 (by decide)), (by
      rw [ldS_5, z1, z2, sm_p9 hc]
      exact i2 (by decide)), fun i _ => by rw [ldS_22], fun i _ => by rw [ldS_23], (fun j i h0 h1 => by
      rw [lys_62, giv_o (by first | decide | omega)]
      by_cases e : j = s ∧ i = q
      · rw [if_pos e, if_pos (by rw [e.1, e.2])]
      · rw [if_neg e, if_neg (by omega)]), (fun j i h0 h1 => by
      rw [lys_63, giv_o (by first | decide | omega)]
      by_cases e : j = s ∧ i = q
      · rw [if_pos e, if_pos (by rw [e.1, e.2])]
      · rw [if_neg e, if_neg (by omega)])⟩
theorem lay_three {x m : zM} {s c q : Nat} (hs : s < 4) (hc : c < 34) (hq : q ≤ 3) : LAY x m (ldS (pS x s c 1) s 1 c q) (z_lys (z_giv m s c (-2)) s q 1 (nI c)) s q c 1 (fun j => if j = c then (-2 : Int32) else 0) := by
  have z1 : zl 1 = 0 := by decide
  have z2 : se 1 = 3 := by decide
  exact ⟨fun r k h1 h2 h3 h4 h5 => by rw [ldS_o ⟨h1, h2, h4, h5⟩, pS_g (by omega)], rfl, fun r k h1 h2 h3 h4 => by rw [lys_o ⟨h2, h3, h4⟩, giv_o (by first | decide | omega)], rfl, ldS_4, lys_64s, fun j e => by rw [lys_64o e, giv_o (by first | decide | omega)], (fun k h1 => by
      rw [ldS_20, pS_20, z1, z2]
      show _ = x.1 (20 + 8 * s) k + (if k = c then (-2 : Int32) else 0)
      by_cases e : k = c
      · rw [if_pos (by omega), if_pos e, if_pos e, e]; exact i3 (by decide)
      · rw [if_neg (by omega), if_neg e, if_neg e, Int32.add_zero]), (fun k h1 => by
      rw [lys_o (by decide), giv_60]
      show _ = m.1 60 (34 * s + k) + (if k = c then (-2 : Int32) else 0)
      by_cases e : k = c
      · rw [if_pos (by rw [e]), if_pos e]
      · rw [if_neg (by omega), if_neg e, Int32.add_zero]), fun j k h0 h1 e => by rw [lys_o (by decide), giv_60, if_neg (by omega)], (fun k h1 => by
      rw [ldS_21, pS_21, ct_n9 (by decide) hc h1]
      show _ = x.1 (21 + 8 * s) k + ((if k = c then (-2 : Int32) else 0) + _)
      by_cases e : k = c
      · rw [if_pos e, if_pos e, if_pos e, e]; rfl
      · rw [if_neg e, if_neg e, if_neg e]; exact i0 (by decide)), (by
      rw [ldS_5, pS_5, z1, z2, sm_p9 hc]
      exact i3 (by decide)), fun i _ => by rw [ldS_22, pS_g (by omega)], fun i _ => by rw [ldS_23, pS_g (by omega)], (fun j i h0 h1 => by
      rw [lys_62, giv_o (by first | decide | omega)]
      by_cases e : j = s ∧ i = q
      · rw [if_pos e, if_pos (by rw [e.1, e.2])]
      · rw [if_neg e, if_neg (by omega)]), (fun j i h0 h1 => by
      rw [lys_63, giv_o (by first | decide | omega)]
      by_cases e : j = s ∧ i = q
      · rw [if_pos e, if_pos (by rw [e.1, e.2])]
      · rw [if_neg e, if_neg (by omega)])⟩
theorem lay_four {x m : zM} {s c q : Nat} (hs : s < 4) (hc : c < 34) (hq : q ≤ 3) : LAY x m (ldS (pS x s c 1) s 2 c q) (z_lys (z_giv m s c (-3)) s q 2 (nI c)) s q c 2 (fun j => if j = c then (-3 : Int32) else 0) := by
  have z1 : zl 2 = 0 := by decide
  have z2 : se 2 = 4 := by decide
  exact ⟨fun r k h1 h2 h3 h4 h5 => by rw [ldS_o ⟨h1, h2, h4, h5⟩, pS_g (by omega)], rfl, fun r k h1 h2 h3 h4 => by rw [lys_o ⟨h2, h3, h4⟩, giv_o (by first | decide | omega)], rfl, ldS_4, lys_64s, fun j e => by rw [lys_64o e, giv_o (by first | decide | omega)], (fun k h1 => by
      rw [ldS_20, pS_20, z1, z2]
      show _ = x.1 (20 + 8 * s) k + (if k = c then (-3 : Int32) else 0)
      by_cases e : k = c
      · rw [if_pos (by omega), if_pos e, if_pos e, e]; exact i3 (by decide)
      · rw [if_neg (by omega), if_neg e, if_neg e, Int32.add_zero]), (fun k h1 => by
      rw [lys_o (by decide), giv_60]
      show _ = m.1 60 (34 * s + k) + (if k = c then (-3 : Int32) else 0)
      by_cases e : k = c
      · rw [if_pos (by rw [e]), if_pos e]
      · rw [if_neg (by omega), if_neg e, Int32.add_zero]), fun j k h0 h1 e => by rw [lys_o (by decide), giv_60, if_neg (by omega)], (fun k h1 => by
      rw [ldS_21, pS_21, ct_n9 (by decide) hc h1]
      show _ = x.1 (21 + 8 * s) k + ((if k = c then (-3 : Int32) else 0) + _)
      by_cases e : k = c
      · rw [if_pos e, if_pos e, if_pos e, e]; rfl
      · rw [if_neg e, if_neg e, if_neg e]; exact i0 (by decide)), (by
      rw [ldS_5, pS_5, z1, z2, sm_p9 hc]
      exact i3 (by decide)), fun i _ => by rw [ldS_22, pS_g (by omega)], fun i _ => by rw [ldS_23, pS_g (by omega)], (fun j i h0 h1 => by
      rw [lys_62, giv_o (by first | decide | omega)]
      by_cases e : j = s ∧ i = q
      · rw [if_pos e, if_pos (by rw [e.1, e.2])]
      · rw [if_neg e, if_neg (by omega)]), (fun j i h0 h1 => by
      rw [lys_63, giv_o (by first | decide | omega)]
      by_cases e : j = s ∧ i = q
      · rw [if_pos e, if_pos (by rw [e.1, e.2])]
      · rw [if_neg e, if_neg (by omega)])⟩
theorem lay_run0 {x m : zM} {s l q : Nat} (hs : s < 4) (hl : l + 2 < 34) (hq : q ≤ 3) : LAY x m (ldS (pS x s l 1) s 0 l q) (z_lys (z_giv (z_giv m s (l + 1) (-1)) s (l + 2) (-1)) s q 0 (nI l)) s q l 0 (fun j => if j = (l + 1) ∨ j = (l + 2) then (-1 : Int32) else 0) := by
  have z1 : zl 0 = 2 := by decide
  have z2 : se 0 = 1 := by decide
  exact ⟨fun r k h1 h2 h3 h4 h5 => by rw [ldS_o ⟨h1, h2, h4, h5⟩, pS_g (by omega)], rfl, fun r k h1 h2 h3 h4 => by rw [lys_o ⟨h2, h3, h4⟩, giv_o (by first | decide | omega), giv_o (by first | decide | omega)], rfl, ldS_4, lys_64s, fun j e => by rw [lys_64o e, giv_o (by first | decide | omega), giv_o (by first | decide | omega)], (fun k h1 => by
      rw [ldS_20, pS_20, z1, z2]
      show _ = x.1 (20 + 8 * s) k + (if k = (l + 1) ∨ k = (l + 2) then (-1 : Int32) else 0)
      by_cases e : k = l
      · rw [if_pos (by omega), if_pos e, if_neg (by omega), e, Int32.add_zero]; exact (i3 (by decide)).trans (Int32.add_zero _)
      · by_cases e2 : k = (l + 1) ∨ k = (l + 2)
        · rw [if_pos (by omega), if_neg e, if_pos e2]; exact i2 (by decide)
        · rw [if_neg (by omega), if_neg e, if_neg e2, Int32.add_zero]), (fun k h1 => by
      rw [lys_o (by decide), giv_60, giv_60]
      show _ = m.1 60 (34 * s + k) + (if k = (l + 1) ∨ k = (l + 2) then (-1 : Int32) else 0)
      by_cases e : k = (l + 2)
      · rw [if_pos (by rw [e]), if_neg (by omega), if_pos (Or.inr e)]
      · rw [if_neg (by omega)]
        by_cases e2 : k = (l + 1)
        · rw [if_pos (by rw [e2]), if_pos (Or.inl e2)]
        · rw [if_neg (by omega), if_neg (by omega), Int32.add_zero]), fun j k h0 h1 e => by rw [lys_o (by decide), giv_60, giv_60, if_neg (by omega), if_neg (by omega)], (fun k h1 => by
      rw [ldS_21, pS_21, ct_r hl h1]
      show _ = x.1 (21 + 8 * s) k + ((if k = (l + 1) ∨ k = (l + 2) then (-1 : Int32) else 0) + _)
      by_cases e : k = l
      · rw [if_pos e, if_neg (by omega), if_pos (by omega), e]; rfl
      · by_cases e2 : k = (l + 1) ∨ k = (l + 2)
        · rw [if_neg e, if_pos e2, if_pos (by omega)]; exact i0 (by decide)
        · rw [if_neg e, if_neg e2, if_neg (by omega)]; exact i0 (by decide)), (by
      rw [ldS_5, pS_5, z1, z2, sm_p2 (by omega) (by omega) (by omega)]
      exact i3 (by decide)), fun i _ => by rw [ldS_22, pS_g (by omega)], fun i _ => by rw [ldS_23, pS_g (by omega)], (fun j i h0 h1 => by
      rw [lys_62, giv_o (by first | decide | omega), giv_o (by first | decide | omega)]
      by_cases e : j = s ∧ i = q
      · rw [if_pos e, if_pos (by rw [e.1, e.2])]
      · rw [if_neg e, if_neg (by omega)]), (fun j i h0 h1 => by
      rw [lys_63, giv_o (by first | decide | omega), giv_o (by first | decide | omega)]
      by_cases e : j = s ∧ i = q
      · rw [if_pos e, if_pos (by rw [e.1, e.2])]
      · rw [if_neg e, if_neg (by omega)])⟩
theorem lay_run1 {x m : zM} {s l q : Nat} (hs : s < 4) (hl : l + 2 < 34) (hq : q ≤ 3) : LAY x m (ldS (pS x s (l + 1) 1) s 0 l q) (z_lys (z_giv (z_giv m s l (-1)) s (l + 2) (-1)) s q 0 (nI l)) s q l 0 (fun j => if j = l ∨ j = (l + 2) then (-1 : Int32) else 0) := by
  have z1 : zl 0 = 2 := by decide
  have z2 : se 0 = 1 := by decide
  exact ⟨fun r k h1 h2 h3 h4 h5 => by rw [ldS_o ⟨h1, h2, h4, h5⟩, pS_g (by omega)], rfl, fun r k h1 h2 h3 h4 => by rw [lys_o ⟨h2, h3, h4⟩, giv_o (by first | decide | omega), giv_o (by first | decide | omega)], rfl, ldS_4, lys_64s, fun j e => by rw [lys_64o e, giv_o (by first | decide | omega), giv_o (by first | decide | omega)], (fun k h1 => by
      rw [ldS_20, pS_20, z1, z2]
      show _ = x.1 (20 + 8 * s) k + (if k = l ∨ k = (l + 2) then (-1 : Int32) else 0)
      by_cases e : k = (l + 1)
      · rw [if_pos (by omega), if_pos e, if_neg (by omega), e, Int32.add_zero]; exact (i3 (by decide)).trans (Int32.add_zero _)
      · by_cases e2 : k = l ∨ k = (l + 2)
        · rw [if_pos (by omega), if_neg e, if_pos e2]; exact i2 (by decide)
        · rw [if_neg (by omega), if_neg e, if_neg e2, Int32.add_zero]), (fun k h1 => by
      rw [lys_o (by decide), giv_60, giv_60]
      show _ = m.1 60 (34 * s + k) + (if k = l ∨ k = (l + 2) then (-1 : Int32) else 0)
      by_cases e : k = (l + 2)
      · rw [if_pos (by rw [e]), if_neg (by omega), if_pos (Or.inr e)]
      · rw [if_neg (by omega)]
        by_cases e2 : k = l
        · rw [if_pos (by rw [e2]), if_pos (Or.inl e2)]
        · rw [if_neg (by omega), if_neg (by omega), Int32.add_zero]), fun j k h0 h1 e => by rw [lys_o (by decide), giv_60, giv_60, if_neg (by omega), if_neg (by omega)], (fun k h1 => by
      rw [ldS_21, pS_21, ct_r hl h1]
      show _ = x.1 (21 + 8 * s) k + ((if k = l ∨ k = (l + 2) then (-1 : Int32) else 0) + _)
      by_cases e : k = (l + 1)
      · rw [if_pos e, if_neg (by omega), if_pos (by omega), e]; rfl
      · by_cases e2 : k = l ∨ k = (l + 2)
        · rw [if_neg e, if_pos e2, if_pos (by omega)]; exact i0 (by decide)
        · rw [if_neg e, if_neg e2, if_neg (by omega)]; exact i0 (by decide)), (by
      rw [ldS_5, pS_5, z1, z2, sm_p2 (by omega) (by omega) (by omega)]
      exact i3 (by decide)), fun i _ => by rw [ldS_22, pS_g (by omega)], fun i _ => by rw [ldS_23, pS_g (by omega)], (fun j i h0 h1 => by
      rw [lys_62, giv_o (by first | decide | omega), giv_o (by first | decide | omega)]
      by_cases e : j = s ∧ i = q
      · rw [if_pos e, if_pos (by rw [e.1, e.2])]
      · rw [if_neg e, if_neg (by omega)]), (fun j i h0 h1 => by
      rw [lys_63, giv_o (by first | decide | omega), giv_o (by first | decide | omega)]
      by_cases e : j = s ∧ i = q
      · rw [if_pos e, if_pos (by rw [e.1, e.2])]
      · rw [if_neg e, if_neg (by omega)])⟩
theorem lay_run2 {x m : zM} {s l q : Nat} (hs : s < 4) (hl : l + 2 < 34) (hq : q ≤ 3) : LAY x m (ldS (pS x s (l + 2) 1) s 0 l q) (z_lys (z_giv (z_giv m s l (-1)) s (l + 1) (-1)) s q 0 (nI l)) s q l 0 (fun j => if j = l ∨ j = (l + 1) then (-1 : Int32) else 0) := by
  have z1 : zl 0 = 2 := by decide
  have z2 : se 0 = 1 := by decide
  exact ⟨fun r k h1 h2 h3 h4 h5 => by rw [ldS_o ⟨h1, h2, h4, h5⟩, pS_g (by omega)], rfl, fun r k h1 h2 h3 h4 => by rw [lys_o ⟨h2, h3, h4⟩, giv_o (by first | decide | omega), giv_o (by first | decide | omega)], rfl, ldS_4, lys_64s, fun j e => by rw [lys_64o e, giv_o (by first | decide | omega), giv_o (by first | decide | omega)], (fun k h1 => by
      rw [ldS_20, pS_20, z1, z2]
      show _ = x.1 (20 + 8 * s) k + (if k = l ∨ k = (l + 1) then (-1 : Int32) else 0)
      by_cases e : k = (l + 2)
      · rw [if_pos (by omega), if_pos e, if_neg (by omega), e, Int32.add_zero]; exact (i3 (by decide)).trans (Int32.add_zero _)
      · by_cases e2 : k = l ∨ k = (l + 1)
        · rw [if_pos (by omega), if_neg e, if_pos e2]; exact i2 (by decide)
        · rw [if_neg (by omega), if_neg e, if_neg e2, Int32.add_zero]), (fun k h1 => by
      rw [lys_o (by decide), giv_60, giv_60]
      show _ = m.1 60 (34 * s + k) + (if k = l ∨ k = (l + 1) then (-1 : Int32) else 0)
      by_cases e : k = (l + 1)
      · rw [if_pos (by rw [e]), if_neg (by omega), if_pos (Or.inr e)]
      · rw [if_neg (by omega)]
        by_cases e2 : k = l
        · rw [if_pos (by rw [e2]), if_pos (Or.inl e2)]
        · rw [if_neg (by omega), if_neg (by omega), Int32.add_zero]), fun j k h0 h1 e => by rw [lys_o (by decide), giv_60, giv_60, if_neg (by omega), if_neg (by omega)], (fun k h1 => by
      rw [ldS_21, pS_21, ct_r hl h1]
      show _ = x.1 (21 + 8 * s) k + ((if k = l ∨ k = (l + 1) then (-1 : Int32) else 0) + _)
      by_cases e : k = (l + 2)
      · rw [if_pos e, if_neg (by omega), if_pos (by omega), e]; rfl
      · by_cases e2 : k = l ∨ k = (l + 1)
        · rw [if_neg e, if_pos e2, if_pos (by omega)]; exact i0 (by decide)
        · rw [if_neg e, if_neg e2, if_neg (by omega)]; exact i0 (by decide)), (by
      rw [ldS_5, pS_5, z1, z2, sm_p2 (by omega) (by omega) (by omega)]
      exact i3 (by decide)), fun i _ => by rw [ldS_22, pS_g (by omega)], fun i _ => by rw [ldS_23, pS_g (by omega)], (fun j i h0 h1 => by
      rw [lys_62, giv_o (by first | decide | omega), giv_o (by first | decide | omega)]
      by_cases e : j = s ∧ i = q
      · rw [if_pos e, if_pos (by rw [e.1, e.2])]
      · rw [if_neg e, if_neg (by omega)]), (fun j i h0 h1 => by
      rw [lys_63, giv_o (by first | decide | omega), giv_o (by first | decide | omega)]
      by_cases e : j = s ∧ i = q
      · rw [if_pos e, if_pos (by rw [e.1, e.2])]
      · rw [if_neg e, if_neg (by omega)])⟩
/-! the relation is kept: the end of a hand -/
set_option maxRecDepth 8000
def fX (x : zM) (b : Nat) : zM := z_ui (z_ui (z_ui (z_ui (z_ui x 0 7 0) 0 14 ((x.1 0 14) + 1)) 0 13 1) (18 + 8 * b) 4 ((x.1 (18 + 8 * b) 4) + ((x.1 0 12) * 1000))) 0 12 0
def fM (m : zM) (b : Nat) : zM := z_ui (z_ui (z_ui (z_ui (z_ui (z_ui m 50 44 0) 50 49 (-1)) 50 52 ((m.1 50 52) + 1)) 50 54 1) 61 b ((m.1 61 b) + (1000 * (m.1 50 43)))) 50 43 0
def gX (x : zM) (d r s : Int32) : zM := z_ui (z_ui (z_ui (z_ui (z_ui x 0 7 0) 0 14 ((x.1 0 14) + 1)) 0 9 d) 0 10 r) 0 11 s
def brM (m : zM) : Bool := (((!(decide (0 ≤ (m.1 61 0)))) || (!(decide (0 ≤ (m.1 61 1))))) || (!(decide (0 ≤ (m.1 61 2))))) || (!(decide (0 ≤ (m.1 61 3))))
theorem tree_fM (m : zM) : (bif decide ((m.1 61 1) ≤ (m.1 61 0)) then (bif decide ((m.1 61 2) ≤ (m.1 61 0)) then (bif decide ((m.1 61 3) ≤ (m.1 61 0)) then z_ui (z_ui (z_ui (z_ui (z_ui (z_ui m 50 44 0) 50 49 (-1)) 50 52 ((m.1 50 52) + 1)) 50 54 1) 61 0 ((m.1 61 0) + (1000 * (m.1 50 43)))) 50 43 0 else z_ui (z_ui (z_ui (z_ui (z_ui (z_ui m 50 44 0) 50 49 (-1)) 50 52 ((m.1 50 52) + 1)) 50 54 1) 61 3 ((m.1 61 3) + (1000 * (m.1 50 43)))) 50 43 0) else (bif decide ((m.1 61 3) ≤ (m.1 61 2)) then z_ui (z_ui (z_ui (z_ui (z_ui (z_ui m 50 44 0) 50 49 (-1)) 50 52 ((m.1 50 52) + 1)) 50 54 1) 61 2 ((m.1 61 2) + (1000 * (m.1 50 43)))) 50 43 0 else z_ui (z_ui (z_ui (z_ui (z_ui (z_ui m 50 44 0) 50 49 (-1)) 50 52 ((m.1 50 52) + 1)) 50 54 1) 61 3 ((m.1 61 3) + (1000 * (m.1 50 43)))) 50 43 0)) else (bif decide ((m.1 61 2) ≤ (m.1 61 1)) then (bif decide ((m.1 61 3) ≤ (m.1 61 1)) then z_ui (z_ui (z_ui (z_ui (z_ui (z_ui m 50 44 0) 50 49 (-1)) 50 52 ((m.1 50 52) + 1)) 50 54 1) 61 1 ((m.1 61 1) + (1000 * (m.1 50 43)))) 50 43 0 else z_ui (z_ui (z_ui (z_ui (z_ui (z_ui m 50 44 0) 50 49 (-1)) 50 52 ((m.1 50 52) + 1)) 50 54 1) 61 3 ((m.1 61 3) + (1000 * (m.1 50 43)))) 50 43 0) else (bif decide ((m.1 61 3) ≤ (m.1 61 2)) then z_ui (z_ui (z_ui (z_ui (z_ui (z_ui m 50 44 0) 50 49 (-1)) 50 52 ((m.1 50 52) + 1)) 50 54 1) 61 2 ((m.1 61 2) + (1000 * (m.1 50 43)))) 50 43 0 else z_ui (z_ui (z_ui (z_ui (z_ui (z_ui m 50 44 0) 50 49 (-1)) 50 52 ((m.1 50 52) + 1)) 50 54 1) 61 3 ((m.1 61 3) + (1000 * (m.1 50 43)))) 50 43 0))) = fM m (rcB (m.1 61 0) (m.1 61 1) (m.1 61 2) (m.1 61 3)) := by
  unfold rcB
  generalize decide ((m.1 61 1) ≤ (m.1 61 0)) = b0
  generalize decide ((m.1 61 2) ≤ (m.1 61 0)) = b1
  generalize decide ((m.1 61 3) ≤ (m.1 61 0)) = b2
  generalize decide ((m.1 61 3) ≤ (m.1 61 2)) = b3
  generalize decide ((m.1 61 2) ≤ (m.1 61 1)) = b4
  generalize decide ((m.1 61 3) ≤ (m.1 61 1)) = b5
  cases b0
  · cases b4
    · cases b3 <;> rfl
    · cases b5 <;> rfl
  · cases b1
    · cases b3 <;> rfl
    · cases b2 <;> rfl
theorem rc_fin {x m : zM} (R : RCl x m) {b : Nat} (hb : b < 4) : RCl (fX x b) (fM m b) := by
  unfold fX fM
  exact ⟨(by simp (disch := first | decide | omega) only [ui_s, uj_s, ui_o, ui_k, uj_o, uj_k, ui_j, uj_i]; exact R.dl), (by simp (disch := first | decide | omega) only [ui_s, uj_s, ui_o, ui_k, uj_o, uj_k, ui_j, uj_i]; exact R.rn), (by simp (disch := first | decide | omega) only [ui_s, uj_s, ui_o, ui_k, uj_o, uj_k, ui_j, uj_i]; exact R.st), (by simp (disch := first | decide | omega) only [ui_s, uj_s, ui_o, ui_k, uj_o, uj_k, ui_j, uj_i]), (by simp (disch := first | decide | omega) only [ui_s, uj_s, ui_o, ui_k, uj_o, uj_k, ui_j, uj_i]), (by simp (disch := first | decide | omega) only [ui_s, uj_s, ui_o, ui_k, uj_o, uj_k, ui_j, uj_i]; rw [R.he]), (by simp (disch := first | decide | omega) only [ui_s, uj_s, ui_o, ui_k, uj_o, uj_k, ui_j, uj_i]; exact R.wc), (by simp (disch := first | decide | omega) only [ui_s, uj_s, ui_o, ui_k, uj_o, uj_k, ui_j, uj_i]; exact R.sd), (by simp (disch := first | decide | omega) only [ui_s, uj_s, ui_o, ui_k, uj_o, uj_k, ui_j, uj_i]; exact R.nx), fun i h0 => by simp (disch := first | decide | omega) only [ui_s, uj_s, ui_o, ui_k, uj_o, uj_k, ui_j, uj_i]; exact R.wl i h0, (fun s h0 => by
      by_cases e : s = b
      · subst e; simp (disch := first | decide | omega) only [ui_s, uj_s, ui_o, ui_k, uj_o, uj_k, ui_j, uj_i]; rw [R.pt s h0, R.bt, Int32.mul_comm]
      · simp (disch := first | decide | omega) only [ui_s, uj_s, ui_o, ui_k, uj_o, uj_k, ui_j, uj_i]; exact R.pt s h0), fun s h0 => by simp (disch := first | decide | omega) only [ui_s, uj_s, ui_o, ui_k, uj_o, uj_k, ui_j, uj_i]; exact R.be s h0, fun s h0 => by simp (disch := first | decide | omega) only [ui_s, uj_s, ui_o, ui_k, uj_o, uj_k, ui_j, uj_i]; exact R.ao s h0, fun s h0 => by simp (disch := first | decide | omega) only [ui_s, uj_s, ui_o, ui_k, uj_o, uj_k, ui_j, uj_i]; exact R.lg s h0, fun s h0 => by simp (disch := first | decide | omega) only [ui_s, uj_s, ui_o, ui_k, uj_o, uj_k, ui_j, uj_i]; exact R.sy s h0, fun s h0 => by simp (disch := first | decide | omega) only [ui_s, uj_s, ui_o, ui_k, uj_o, uj_k, ui_j, uj_i]; exact R.ds s h0, fun s h0 => by simp (disch := first | decide | omega) only [ui_s, uj_s, ui_o, ui_k, uj_o, uj_k, ui_j, uj_i]; exact R.lm s h0, fun s k h0 h1 => by simp (disch := first | decide | omega) only [ui_s, uj_s, ui_o, ui_k, uj_o, uj_k, ui_j, uj_i]; exact R.hd s k h0 h1, fun s i h0 h1 => by simp (disch := first | decide | omega) only [ui_s, uj_s, ui_o, ui_k, uj_o, uj_k, ui_j, uj_i]; exact R.so s i h0 h1, fun s i h0 h1 => by simp (disch := first | decide | omega) only [ui_s, uj_s, ui_o, ui_k, uj_o, uj_k, ui_j, uj_i]; exact R.lo s i h0 h1, fun s i h0 h1 => by simp (disch := first | decide | omega) only [ui_s, uj_s, ui_o, ui_k, uj_o, uj_k, ui_j, uj_i]; exact R.rv s i h0 h1, fun i f h0 h1 h2 => by simp (disch := first | decide | omega) only [ui_s, uj_s, ui_o, ui_k, uj_o, uj_k, ui_j, uj_i]; exact R.wi i f h0 h1 h2, fun i h0 => by simp (disch := first | decide | omega) only [ui_s, uj_s, ui_o, ui_k, uj_o, uj_k, ui_j, uj_i]; exact R.wf i h0, fun s k2 h0 h1 => by simp (disch := first | decide | omega) only [ui_s, uj_s, ui_o, ui_k, uj_o, uj_k, ui_j, uj_i]; exact R.al s k2 h0 h1, fun s h0 => by simp (disch := first | decide | omega) only [ui_s, uj_s, ui_o, ui_k, uj_o, uj_k, ui_j, uj_i]; exact R.lz s h0, fun s i h0 h1 => by simp (disch := first | decide | omega) only [ui_s, uj_s, ui_o, ui_k, uj_o, uj_k, ui_j, uj_i] at h1 ⊢; exact R.sv s i h0 h1, fun s h0 => by simp (disch := first | decide | omega) only [ui_s, uj_s, ui_o, ui_k, uj_o, uj_k, ui_j, uj_i]; rw [R.tk s h0]; exact congrArg (fun f => kb f 34) (tkM_cg (R.rb s h0) (fun i hi => by simp (disch := first | decide | omega) only [ui_s, uj_s, ui_o, ui_k, uj_o, uj_k, ui_j, uj_i]) (by simp (disch := first | decide | omega) only [ui_s, uj_s, ui_o, ui_k, uj_o, uj_k, ui_j, uj_i])), fun s h0 => by simp (disch := first | decide | omega) only [ui_s, uj_s, ui_o, ui_k, uj_o, uj_k, ui_j, uj_i]; exact R.rb s h0, fun s i h0 h1 => by simp (disch := first | decide | omega) only [ui_s, uj_s, ui_o, ui_k, uj_o, uj_k, ui_j, uj_i] at h1 ⊢; exact R.rk s i h0 h1, (by simp (disch := first | decide | omega) only [ui_s, uj_s, ui_o, ui_k, uj_o, uj_k, ui_j, uj_i]; exact R.rd), fun s h0 => by simp (disch := first | decide | omega) only [ui_s, uj_s, ui_o, ui_k, uj_o, uj_k, ui_j, uj_i]; exact R.bb s h0, fun z => by simp (disch := first | decide | omega) only [ui_s, uj_s, ui_o, ui_k, uj_o, uj_k, ui_j, uj_i] at z ⊢; exact R.wp z⟩
theorem rc_nxt0 {x m : zM} (R : RCl x m) {e : Nat} {r s s' : Int32} (hr : r = 0 ∨ r = 1) (hs : s = s') : RCl (gX x (nI e) r s) (z_ui (z_ui (z_ui (z_ui (z_ui (z_ui m 50 44 0) 50 49 (-1)) 50 52 ((m.1 50 52) + 1)) 50 41 r) 50 40 (nI e)) 50 42 s') := by
  unfold gX
  exact ⟨(by simp (disch := first | decide | omega) only [ui_s, uj_s, ui_o, ui_k, uj_o, uj_k, ui_j, uj_i]), (by simp (disch := first | decide | omega) only [ui_s, uj_s, ui_o, ui_k, uj_o, uj_k, ui_j, uj_i]), (by simp (disch := first | decide | omega) only [ui_s, uj_s, ui_o, ui_k, uj_o, uj_k, ui_j, uj_i]; exact hs), (by simp (disch := first | decide | omega) only [ui_s, uj_s, ui_o, ui_k, uj_o, uj_k, ui_j, uj_i]; exact R.bt), (by simp (disch := first | decide | omega) only [ui_s, uj_s, ui_o, ui_k, uj_o, uj_k, ui_j, uj_i]; exact R.en), (by simp (disch := first | decide | omega) only [ui_s, uj_s, ui_o, ui_k, uj_o, uj_k, ui_j, uj_i]; rw [R.he]), (by simp (disch := first | decide | omega) only [ui_s, uj_s, ui_o, ui_k, uj_o, uj_k, ui_j, uj_i]; exact R.wc), (by simp (disch := first | decide | omega) only [ui_s, uj_s, ui_o, ui_k, uj_o, uj_k, ui_j, uj_i]; exact R.sd), (by simp (disch := first | decide | omega) only [ui_s, uj_s, ui_o, ui_k, uj_o, uj_k, ui_j, uj_i]; exact R.nx), fun i h0 => by simp (disch := first | decide | omega) only [ui_s, uj_s, ui_o, ui_k, uj_o, uj_k, ui_j, uj_i]; exact R.wl i h0, fun s h0 => by simp (disch := first | decide | omega) only [ui_s, uj_s, ui_o, ui_k, uj_o, uj_k, ui_j, uj_i]; exact R.pt s h0, fun s h0 => by simp (disch := first | decide | omega) only [ui_s, uj_s, ui_o, ui_k, uj_o, uj_k, ui_j, uj_i]; exact R.be s h0, fun s h0 => by simp (disch := first | decide | omega) only [ui_s, uj_s, ui_o, ui_k, uj_o, uj_k, ui_j, uj_i]; exact R.ao s h0, fun s h0 => by simp (disch := first | decide | omega) only [ui_s, uj_s, ui_o, ui_k, uj_o, uj_k, ui_j, uj_i]; exact R.lg s h0, fun s h0 => by simp (disch := first | decide | omega) only [ui_s, uj_s, ui_o, ui_k, uj_o, uj_k, ui_j, uj_i]; exact R.sy s h0, fun s h0 => by simp (disch := first | decide | omega) only [ui_s, uj_s, ui_o, ui_k, uj_o, uj_k, ui_j, uj_i]; exact R.ds s h0, fun s h0 => by simp (disch := first | decide | omega) only [ui_s, uj_s, ui_o, ui_k, uj_o, uj_k, ui_j, uj_i]; exact R.lm s h0, fun s k h0 h1 => by simp (disch := first | decide | omega) only [ui_s, uj_s, ui_o, ui_k, uj_o, uj_k, ui_j, uj_i]; exact R.hd s k h0 h1, fun s i h0 h1 => by simp (disch := first | decide | omega) only [ui_s, uj_s, ui_o, ui_k, uj_o, uj_k, ui_j, uj_i]; exact R.so s i h0 h1, fun s i h0 h1 => by simp (disch := first | decide | omega) only [ui_s, uj_s, ui_o, ui_k, uj_o, uj_k, ui_j, uj_i]; exact R.lo s i h0 h1, fun s i h0 h1 => by simp (disch := first | decide | omega) only [ui_s, uj_s, ui_o, ui_k, uj_o, uj_k, ui_j, uj_i]; exact R.rv s i h0 h1, fun i f h0 h1 h2 => by simp (disch := first | decide | omega) only [ui_s, uj_s, ui_o, ui_k, uj_o, uj_k, ui_j, uj_i]; exact R.wi i f h0 h1 h2, fun i h0 => by simp (disch := first | decide | omega) only [ui_s, uj_s, ui_o, ui_k, uj_o, uj_k, ui_j, uj_i]; exact R.wf i h0, fun s k2 h0 h1 => by simp (disch := first | decide | omega) only [ui_s, uj_s, ui_o, ui_k, uj_o, uj_k, ui_j, uj_i]; exact R.al s k2 h0 h1, fun s h0 => by simp (disch := first | decide | omega) only [ui_s, uj_s, ui_o, ui_k, uj_o, uj_k, ui_j, uj_i]; exact R.lz s h0, fun s i h0 h1 => by simp (disch := first | decide | omega) only [ui_s, uj_s, ui_o, ui_k, uj_o, uj_k, ui_j, uj_i] at h1 ⊢; exact R.sv s i h0 h1, fun s h0 => by simp (disch := first | decide | omega) only [ui_s, uj_s, ui_o, ui_k, uj_o, uj_k, ui_j, uj_i]; rw [R.tk s h0]; exact congrArg (fun f => kb f 34) (tkM_cg (R.rb s h0) (fun i hi => by simp (disch := first | decide | omega) only [ui_s, uj_s, ui_o, ui_k, uj_o, uj_k, ui_j, uj_i]) (by simp (disch := first | decide | omega) only [ui_s, uj_s, ui_o, ui_k, uj_o, uj_k, ui_j, uj_i])), fun s h0 => by simp (disch := first | decide | omega) only [ui_s, uj_s, ui_o, ui_k, uj_o, uj_k, ui_j, uj_i]; exact R.rb s h0, fun s i h0 h1 => by simp (disch := first | decide | omega) only [ui_s, uj_s, ui_o, ui_k, uj_o, uj_k, ui_j, uj_i] at h1 ⊢; exact R.rk s i h0 h1, (by simp (disch := first | decide | omega) only [ui_s, uj_s, ui_o, ui_k, uj_o, uj_k, ui_j, uj_i]; exact hr), fun s h0 => by simp (disch := first | decide | omega) only [ui_s, uj_s, ui_o, ui_k, uj_o, uj_k, ui_j, uj_i]; exact R.bb s h0, fun z => by simp (disch := first | decide | omega) only [ui_s, uj_s, ui_o, ui_k, uj_o, uj_k, ui_j, uj_i] at z ⊢; exact R.wp z⟩
theorem rc_nxt1 {x m : zM} (R : RCl x m) {s s' : Int32} (hs : s = s') : RCl (gX x (x.1 0 9) (x.1 0 10) s) (z_ui (z_ui (z_ui (z_ui m 50 44 0) 50 49 (-1)) 50 52 ((m.1 50 52) + 1)) 50 42 s') := by
  unfold gX
  exact ⟨(by simp (disch := first | decide | omega) only [ui_s, uj_s, ui_o, ui_k, uj_o, uj_k, ui_j, uj_i]; exact R.dl), (by simp (disch := first | decide | omega) only [ui_s, uj_s, ui_o, ui_k, uj_o, uj_k, ui_j, uj_i]; exact R.rn), (by simp (disch := first | decide | omega) only [ui_s, uj_s, ui_o, ui_k, uj_o, uj_k, ui_j, uj_i]; exact hs), (by simp (disch := first | decide | omega) only [ui_s, uj_s, ui_o, ui_k, uj_o, uj_k, ui_j, uj_i]; exact R.bt), (by simp (disch := first | decide | omega) only [ui_s, uj_s, ui_o, ui_k, uj_o, uj_k, ui_j, uj_i]; exact R.en), (by simp (disch := first | decide | omega) only [ui_s, uj_s, ui_o, ui_k, uj_o, uj_k, ui_j, uj_i]; rw [R.he]), (by simp (disch := first | decide | omega) only [ui_s, uj_s, ui_o, ui_k, uj_o, uj_k, ui_j, uj_i]; exact R.wc), (by simp (disch := first | decide | omega) only [ui_s, uj_s, ui_o, ui_k, uj_o, uj_k, ui_j, uj_i]; exact R.sd), (by simp (disch := first | decide | omega) only [ui_s, uj_s, ui_o, ui_k, uj_o, uj_k, ui_j, uj_i]; exact R.nx), fun i h0 => by simp (disch := first | decide | omega) only [ui_s, uj_s, ui_o, ui_k, uj_o, uj_k, ui_j, uj_i]; exact R.wl i h0, fun s h0 => by simp (disch := first | decide | omega) only [ui_s, uj_s, ui_o, ui_k, uj_o, uj_k, ui_j, uj_i]; exact R.pt s h0, fun s h0 => by simp (disch := first | decide | omega) only [ui_s, uj_s, ui_o, ui_k, uj_o, uj_k, ui_j, uj_i]; exact R.be s h0, fun s h0 => by simp (disch := first | decide | omega) only [ui_s, uj_s, ui_o, ui_k, uj_o, uj_k, ui_j, uj_i]; exact R.ao s h0, fun s h0 => by simp (disch := first | decide | omega) only [ui_s, uj_s, ui_o, ui_k, uj_o, uj_k, ui_j, uj_i]; exact R.lg s h0, fun s h0 => by simp (disch := first | decide | omega) only [ui_s, uj_s, ui_o, ui_k, uj_o, uj_k, ui_j, uj_i]; exact R.sy s h0, fun s h0 => by simp (disch := first | decide | omega) only [ui_s, uj_s, ui_o, ui_k, uj_o, uj_k, ui_j, uj_i]; exact R.ds s h0, fun s h0 => by simp (disch := first | decide | omega) only [ui_s, uj_s, ui_o, ui_k, uj_o, uj_k, ui_j, uj_i]; exact R.lm s h0, fun s k h0 h1 => by simp (disch := first | decide | omega) only [ui_s, uj_s, ui_o, ui_k, uj_o, uj_k, ui_j, uj_i]; exact R.hd s k h0 h1, fun s i h0 h1 => by simp (disch := first | decide | omega) only [ui_s, uj_s, ui_o, ui_k, uj_o, uj_k, ui_j, uj_i]; exact R.so s i h0 h1, fun s i h0 h1 => by simp (disch := first | decide | omega) only [ui_s, uj_s, ui_o, ui_k, uj_o, uj_k, ui_j, uj_i]; exact R.lo s i h0 h1, fun s i h0 h1 => by simp (disch := first | decide | omega) only [ui_s, uj_s, ui_o, ui_k, uj_o, uj_k, ui_j, uj_i]; exact R.rv s i h0 h1, fun i f h0 h1 h2 => by simp (disch := first | decide | omega) only [ui_s, uj_s, ui_o, ui_k, uj_o, uj_k, ui_j, uj_i]; exact R.wi i f h0 h1 h2, fun i h0 => by simp (disch := first | decide | omega) only [ui_s, uj_s, ui_o, ui_k, uj_o, uj_k, ui_j, uj_i]; exact R.wf i h0, fun s k2 h0 h1 => by simp (disch := first | decide | omega) only [ui_s, uj_s, ui_o, ui_k, uj_o, uj_k, ui_j, uj_i]; exact R.al s k2 h0 h1, fun s h0 => by simp (disch := first | decide | omega) only [ui_s, uj_s, ui_o, ui_k, uj_o, uj_k, ui_j, uj_i]; exact R.lz s h0, fun s i h0 h1 => by simp (disch := first | decide | omega) only [ui_s, uj_s, ui_o, ui_k, uj_o, uj_k, ui_j, uj_i] at h1 ⊢; exact R.sv s i h0 h1, fun s h0 => by simp (disch := first | decide | omega) only [ui_s, uj_s, ui_o, ui_k, uj_o, uj_k, ui_j, uj_i]; rw [R.tk s h0]; exact congrArg (fun f => kb f 34) (tkM_cg (R.rb s h0) (fun i hi => by simp (disch := first | decide | omega) only [ui_s, uj_s, ui_o, ui_k, uj_o, uj_k, ui_j, uj_i]) (by simp (disch := first | decide | omega) only [ui_s, uj_s, ui_o, ui_k, uj_o, uj_k, ui_j, uj_i])), fun s h0 => by simp (disch := first | decide | omega) only [ui_s, uj_s, ui_o, ui_k, uj_o, uj_k, ui_j, uj_i]; exact R.rb s h0, fun s i h0 h1 => by simp (disch := first | decide | omega) only [ui_s, uj_s, ui_o, ui_k, uj_o, uj_k, ui_j, uj_i] at h1 ⊢; exact R.rk s i h0 h1, (by simp (disch := first | decide | omega) only [ui_s, uj_s, ui_o, ui_k, uj_o, uj_k, ui_j, uj_i]; exact R.rd), fun s h0 => by simp (disch := first | decide | omega) only [ui_s, uj_s, ui_o, ui_k, uj_o, uj_k, ui_j, uj_i]; exact R.bb s h0, fun z => by simp (disch := first | decide | omega) only [ui_s, uj_s, ui_o, ui_k, uj_o, uj_k, ui_j, uj_i] at z ⊢; exact R.wp z⟩
theorem xBk_brM {x m : zM} (R : RCl x m) : xBk x = brM m := by
  have p0 : x.1 18 4 = m.1 61 0 := R.pt 0 (by decide)
  have p1 : x.1 26 4 = m.1 61 1 := R.pt 1 (by decide)
  have p2 : x.1 34 4 = m.1 61 2 := R.pt 2 (by decide)
  have p3 : x.1 42 4 = m.1 61 3 := R.pt 3 (by decide)
  unfold xBk brM
  simp only [p0, p1, p2, p3, Bool.or_assoc]
theorem rcM_m {x m : zM} (R : RCl x m) : rcM x = rcB (m.1 61 0) (m.1 61 1) (m.1 61 2) (m.1 61 3) := by
  have p0 : x.1 18 4 = m.1 61 0 := R.pt 0 (by decide)
  have p1 : x.1 26 4 = m.1 61 1 := R.pt 1 (by decide)
  have p2 : x.1 34 4 = m.1 61 2 := R.pt 2 (by decide)
  have p3 : x.1 42 4 = m.1 61 3 := R.pt 3 (by decide)
  unfold rcM
  rw [p0, p1, p2, p3]
/-- phase 0 -/
def PH0 (x m X M : zM) : Prop := X.1 0 7 = 0 ∧ M.1 50 44 = 0 ∧ M.1 50 49 = -1 ∧ X.1 2 3 = x.1 2 3 ∧ M.1 50 47 = m.1 50 47 ∧ X.1 0 8 = x.1 0 8 ∧ M.1 50 45 = m.1 50 45
theorem ph_fin (x m : zM) (b : Nat) : PH0 x m (fX x b) (fM m b) := by
  unfold PH0 fX fM
  refine ⟨?_, ?_, ?_, ?_, ?_, ?_, ?_⟩ <;> (simp (disch := first | decide | omega) only [ui_s, uj_s, ui_o, ui_k, uj_o, uj_k, ui_j, uj_i])
theorem ph_nx0 (x m : zM) (d r s r' s' : Int32) (e : Nat) : PH0 x m (gX x d r s) (z_ui (z_ui (z_ui (z_ui (z_ui (z_ui m 50 44 0) 50 49 (-1)) 50 52 ((m.1 50 52) + 1)) 50 41 r') 50 40 (nI e)) 50 42 s') := by
  unfold PH0 gX
  refine ⟨?_, ?_, ?_, ?_, ?_, ?_, ?_⟩ <;> (simp (disch := first | decide | omega) only [ui_s, uj_s, ui_o, ui_k, uj_o, uj_k, ui_j, uj_i])
theorem ph_nx1 (x m : zM) (d r s s' : Int32) : PH0 x m (gX x d r s) (z_ui (z_ui (z_ui (z_ui m 50 44 0) 50 49 (-1)) 50 52 ((m.1 50 52) + 1)) 50 42 s') := by
  unfold PH0 gX
  refine ⟨?_, ?_, ?_, ?_, ?_, ?_, ?_⟩ <;> (simp (disch := first | decide | omega) only [ui_s, uj_s, ui_o, ui_k, uj_o, uj_k, ui_j, uj_i])
theorem e0_3 : ∀ dl, dl < 4 → decide (nI ((dl + 1) % 4) = 0) = decide (nI dl = 3) := by decide +kernel
theorem rc_ends {x m : zM} (R : RCl x m) {dl e : Nat} (hdl : m.1 50 40 = nI dl) (hdl4 : dl < 4) (he : (dl + 1) % 4 = e) (ds ow : Bool) : RCl (eHB x ds ow (xBk x) dl e (rcM x)) (eMB m ds (!ow) dl e) ∧ PH0 x m (eHB x ds ow (xBk x) dl e (rcM x)) (eMB m ds (!ow) dl e) := by
  have hb4 : rcB (m.1 61 0) (m.1 61 1) (m.1 61 2) (m.1 61 3) < 4 := rcB_lt _ _ _ _
  have F : ∀ b, b < 4 → RCl (fX x b) (fM m b) ∧ PH0 x m (fX x b) (fM m b) := fun b hb => ⟨rc_fin R hb, ph_fin x m b⟩
  have es : x.1 0 11 = m.1 50 42 := R.st
  rw [xBk_brM R, rcM_m R]
  have hs : ∀ s, s = (bif ow then (0 : Int32) else x.1 0 11 + 1) → s = (bif !ow then m.1 50 42 + 1 else 0) := fun s q => by rw [q, es]; cases ow <;> rfl
  cases ds with
  | true =>
    show RCl (eH1 x ow (brM m) dl e _) (eM1 m (!ow) dl e) ∧ PH0 x m (eH1 x ow (brM m) dl e _) (eM1 m (!ow) dl e)
    have eM : eM1 m (!ow) dl e = (bif brM m then fM m (rcB (m.1 61 0) (m.1 61 1) (m.1 61 2) (m.1 61 3)) else z_ui (z_ui (z_ui (z_ui m 50 44 0) 50 49 (-1)) 50 52 ((m.1 50 52) + 1)) 50 42 (bif !ow then (m.1 50 42) + 1 else 0)) := by
      unfold eM1
      rw [tree_fM]
      rfl
    have eX : eH1 x ow (brM m) dl e (rcB (m.1 61 0) (m.1 61 1) (m.1 61 2) (m.1 61 3)) = (bif brM m then fX x (rcB (m.1 61 0) (m.1 61 1) (m.1 61 2) (m.1 61 3)) else gX x (x.1 0 9) (x.1 0 10) (bif ow then 0 else x.1 0 11 + 1)) := by
      unfold eH1
      rw [show decide (x.1 0 10 ≤ 1) = true from decide_eq_true (by rw [R.rn]; rcases R.rd with q | q <;> rw [q] <;> decide), cond_true, R.dl, hdl]
      cases brM m
      · rw [cond_false, cond_false]; cases ow <;> rfl
      · rfl
    rw [eM, eX]
    cases brM m
    · rw [cond_false, cond_false]; exact ⟨rc_nxt1 R (hs _ rfl), ph_nx1 _ _ _ _ _ _⟩
    · rw [cond_true, cond_true]; exact F _ hb4
  | false =>
    show RCl (eH0 x ow (brM m) dl e _) (eM0 m (!ow) dl e) ∧ PH0 x m (eH0 x ow (brM m) dl e _) (eM0 m (!ow) dl e)
    have eM : eM0 m (!ow) dl e = (bif brM m then fM m (rcB (m.1 61 0) (m.1 61 1) (m.1 61 2) (m.1 61 3)) else (bif (decide ((nI dl) = 3)) && (decide ((m.1 50 41) = 1)) then fM m (rcB (m.1 61 0) (m.1 61 1) (m.1 61 2) (m.1 61 3)) else z_ui (z_ui (z_ui (z_ui (z_ui (z_ui m 50 44 0) 50 49 (-1)) 50 52 ((m.1 50 52) + 1)) 50 41 ((m.1 50 41) + (nB (decide ((nI dl) = 3))))) 50 40 (nI e)) 50 42 (bif !ow then (m.1 50 42) + 1 else 0))) := by
      unfold eM0
      rw [tree_fM]
      rfl
    have e3 := e0_3 dl hdl4
    rw [he] at e3
    rw [eM]
    unfold eH0
    rw [e3, R.rn]
    cases brM m with
    | true => rw [cond_true, cond_true, cond_true, Bool.cond_self]; exact F _ hb4
    | false =>
      rw [cond_false, cond_false, cond_false]
      cases h3 : decide (nI dl = 3) with
      | true =>
        rw [cond_true, Bool.true_and]
        rcases R.rd with q | q
        · rw [q, show decide ((0 : Int32) + 1 ≤ 1) = true from by decide, show decide ((0 : Int32) = 1) = false from by decide, cond_true, cond_false]
          have z := rc_nxt0 R (e := e) (r := 0 + 1) (Or.inr rfl) (hs _ rfl)
          have y := ph_nx0 x m (nI e) (0 + 1) (bif ow then (0 : Int32) else x.1 0 11 + 1) (0 + 1) (bif !ow then m.1 50 42 + 1 else 0) e
          cases ow
          · exact ⟨z, y⟩
          · exact ⟨z, y⟩
        · rw [q, show decide ((1 : Int32) + 1 ≤ 1) = false from by decide, show decide ((1 : Int32) = 1) = true from by decide, cond_false, cond_true]
          exact F _ hb4
      | false =>
        rw [cond_false, Bool.false_and, cond_false, show nB false = 0 from rfl, Int32.add_zero, show decide (m.1 50 41 ≤ 1) = true from decide_eq_true (by rcases R.rd with q | q <;> rw [q] <;> decide), cond_true]
        have z := rc_nxt0 R (e := e) (r := m.1 50 41) R.rd (hs _ rfl)
        have y := ph_nx0 x m (nI e) (m.1 50 41) (bif ow then (0 : Int32) else x.1 0 11 + 1) (m.1 50 41) (bif !ow then m.1 50 42 + 1 else 0) e
        cases ow
        · exact ⟨z, y⟩
        · exact ⟨z, y⟩
/-! the games cells that are alike at all times -/
set_option maxRecDepth 8000
def gX2 (r k : Nat) : Prop := (r = 0 ∧ (k = 6 ∨ (9 ≤ k ∧ k ≤ 14))) ∨ (r = 2 ∧ (k = 1 ∨ k = 2)) ∨ r = 3 ∨ (18 ≤ r ∧ r < 50 ∧ (r % 8 ≠ 2 ∨ k ≠ 6))
def gM2 (r k : Nat) : Prop := (59 ≤ r ∧ r ≤ 73 ∧ r ≠ 68) ∨ (r = 50 ∧ ((40 ≤ k ∧ k ≤ 43) ∨ k = 46 ∨ (52 ≤ k ∧ k ≤ 55)))
def EqX2 (x x' : zM) : Prop := ∀ r k, gX2 r k → x'.1 r k = x.1 r k ∧ x'.2.1 r k = x.2.1 r k
def EqM2 (m m' : zM) : Prop := ∀ r k, gM2 r k → m'.1 r k = m.1 r k ∧ m'.2.1 r k = m.2.1 r k
theorem RCl.cg2 {x : zM} {x' : zM} {m : zM} {m' : zM} (hx : EqX2 x x') (hm : EqM2 m m') (h : RCl x m) : RCl x' m' := by
  have X : ∀ r k, gX2 r k → x'.1 r k = x.1 r k := fun r k q => (hx r k q).1
  have Y : ∀ r k, gX2 r k → x'.2.1 r k = x.2.1 r k := fun r k q => (hx r k q).2
  have M : ∀ r k, gM2 r k → m'.1 r k = m.1 r k := fun r k q => (hm r k q).1
  have N : ∀ r k, gM2 r k → m'.2.1 r k = m.2.1 r k := fun r k q => (hm r k q).2
  unfold gX2 at X Y
  unfold gM2 at M N
  have e66 : ∀ s, m'.1 66 s = m.1 66 s := fun s => M 66 s (by omega)
  have eT : ∀ s, tkM m' s = tkM m s := fun s => by
    funext b
    unfold tkM
    rw [e66 s, show (fun i => decide (m'.1 65 (136 * s + i) = nI b)) = (fun i => decide (m.1 65 (136 * s + i) = nI b)) from funext fun i => by rw [M 65 _ (by omega)]]
  exact ⟨(by rw [X _ _ (by omega), M _ _ (by omega)]; exact h.dl), (by rw [X _ _ (by omega), M _ _ (by omega)]; exact h.rn), (by rw [X _ _ (by omega), M _ _ (by omega)]; exact h.st), (by rw [X _ _ (by omega), M _ _ (by omega)]; exact h.bt), (by rw [X _ _ (by omega), M _ _ (by omega)]; exact h.en), (by rw [X _ _ (by omega), M _ _ (by omega)]; exact h.he), (by rw [X _ _ (by omega), M _ _ (by omega)]; exact h.wc), (by rw [X _ _ (by omega), M _ _ (by omega)]; exact h.sd), (by rw [X _ _ (by omega), M _ _ (by omega)]; exact h.nx), fun i h0 => by rw [X _ _ (by omega), M _ _ (by omega)]; exact h.wl i h0, fun s h0 => by rw [X _ _ (by omega), M _ _ (by omega)]; exact h.pt s h0, fun s h0 => by rw [X _ _ (by omega), M _ _ (by omega)]; exact h.be s h0, fun s h0 => by rw [X _ _ (by omega), M _ _ (by omega)]; exact h.ao s h0, fun s h0 => by rw [X _ _ (by omega), M _ _ (by omega)]; exact h.lg s h0, fun s h0 => by rw [X _ _ (by omega), M _ _ (by omega)]; exact h.sy s h0, fun s h0 => by rw [X _ _ (by omega), M _ _ (by omega)]; exact h.ds s h0, fun s h0 => by rw [X _ _ (by omega), M _ _ (by omega)]; exact h.lm s h0, fun s k h0 h1 => by rw [X _ _ (by omega), M _ _ (by omega)]; exact h.hd s k h0 h1, fun s i h0 h1 => by rw [X _ _ (by omega), M _ _ (by omega)]; exact h.so s i h0 h1, fun s i h0 h1 => by rw [X _ _ (by omega), M _ _ (by omega)]; exact h.lo s i h0 h1, fun s i h0 h1 => by rw [X _ _ (by omega), M _ _ (by omega)]; exact h.rv s i h0 h1, fun i f h0 h1 h2 => by rw [X _ _ (by omega), M _ _ (by omega)]; exact h.wi i f h0 h1 h2, fun i hi => by rw [Y _ _ (by omega), N 73 i (by omega)]; exact h.wf i hi, fun s k hs hk => by rw [X _ _ (by omega), M 60 _ (by omega), M 64 s (by omega), show (fun i => m'.1 62 (4 * s + i)) = (fun i => m.1 62 (4 * s + i)) from funext fun i => M 62 _ (by omega), show (fun i => m'.1 63 (4 * s + i)) = (fun i => m.1 63 (4 * s + i)) from funext fun i => M 63 _ (by omega)]; exact h.al s k hs hk, fun s hs => by rw [X _ _ (by omega), show (fun k => m'.1 60 (34 * s + k)) = (fun k => m.1 60 (34 * s + k)) from funext fun i => M 60 _ (by omega)]; exact h.lz s hs, fun s i hs hi => by rw [M 62 _ (by omega), M 63 _ (by omega)]; exact h.sv s i hs (by rw [M 64 s (by omega)] at hi; exact hi), fun s hs => by rw [Y _ _ (by omega), eT s]; exact h.tk s hs, fun s hs => by rw [e66 s]; exact h.rb s hs, fun s i hs hi => by rw [e66 s] at hi; rw [M 65 (136 * s + i) (by omega)]; exact h.rk s i hs hi, (by rw [M 50 41 (by omega)]; exact h.rd), fun s hs => by rw [M 67 s (by omega)]; exact h.bb s hs, fun q => by rw [M 50 55 (by omega)] at q; exact (h.wp q).elim fun sd z => ⟨sd, fun i hi => by rw [M 59 i (by omega)]; exact z i hi⟩⟩
theorem q2_x (μ : zM) : EqX2 μ μ := fun _ _ _ => ⟨rfl, rfl⟩
theorem q2_m (μ : zM) : EqM2 μ μ := fun _ _ _ => ⟨rfl, rfl⟩
theorem q2_xu {a b : zM} (h : EqX2 a b) {r k : Nat} {v : Int32} (hn : ¬ gX2 r k) : EqX2 a (z_ui b r k v) := fun r' k' q => ⟨by
  refine Eq.trans ?_ (h r' k' q).1
  by_cases e : r' = r
  · exact ui_k (fun e2 => hn (by rw [← e, ← e2]; exact q))
  · exact ui_o e, (h r' k' q).2⟩
theorem q2_xj {a b : zM} (h : EqX2 a b) {r k : Nat} {v : Int64} (hn : ¬ gX2 r k) : EqX2 a (z_uj b r k v) := fun r' k' q => ⟨(h r' k' q).1, by
  refine Eq.trans ?_ (h r' k' q).2
  by_cases e : r' = r
  · exact uj_k (fun e2 => hn (by rw [← e, ← e2]; exact q))
  · exact uj_o e⟩
theorem q2_mu {a b : zM} (h : EqM2 a b) {r k : Nat} {v : Int32} (hn : ¬ gM2 r k) : EqM2 a (z_ui b r k v) := fun r' k' q => ⟨by
  refine Eq.trans ?_ (h r' k' q).1
  by_cases e : r' = r
  · exact ui_k (fun e2 => hn (by rw [← e, ← e2]; exact q))
  · exact ui_o e, (h r' k' q).2⟩
theorem z_ui_cm {μ : zM} {r k r' k' : Nat} {v w : Int32} (h : r ≠ r') : z_ui (z_ui μ r k v) r' k' w = z_ui (z_ui μ r' k' w) r k v := by
  refine Prod.ext ?_ rfl
  funext a b
  by_cases e1 : a = r
  · rw [ui_o (show a ≠ r' by omega), e1]
    by_cases e2 : b = k
    · rw [e2, ui_s, ui_s]
    · rw [ui_k e2, ui_k e2, ui_o h]
  · rw [ui_o (r := r) e1]
    by_cases e3 : a = r'
    · rw [e3]
      by_cases e2 : b = k'
      · rw [e2, ui_s, ui_s]
      · rw [ui_k e2, ui_k e2, ui_o (by first | decide | omega)]
    · rw [ui_o e3, ui_o e3, ui_o e1]
theorem toM_ui {μ : zM} {r k : Nat} {v : Int32} (h1 : r ≠ 50) (h2 : r ≠ 69) : toM (z_ui μ r k v) = z_ui (toM μ) r k v := by
  unfold toM
  rw [z_ui_cm h1, z_ui_cm h2, z_ui_cm h2, z_ui_cm h2, z_ui_cm h2]
theorem toM_lys {μ : zM} {a q : Nat} {so kk : Int32} : toM (z_lys μ a q so kk) = z_lys (toM μ) a q so kk := by
  unfold z_lys
  rw [toM_ui (by decide) (by decide), toM_ui (by decide) (by decide), toM_ui (by decide) (by decide)]
theorem toM_giv {μ : zM} {a c : Nat} {n : Int32} : toM (z_giv μ a c n) = z_giv (toM μ) a c n := by
  unfold z_giv
  rw [toM_ui (by decide) (by decide), toM_o ⟨by decide, Or.inl (by decide)⟩]
theorem z_ui_ck {μ : zM} {r k k' : Nat} {v w : Int32} (h : k ≠ k') : z_ui (z_ui μ r k v) r k' w = z_ui (z_ui μ r k' w) r k v := by
  refine Prod.ext ?_ rfl
  funext a b
  by_cases e1 : a = r
  · rw [e1]
    by_cases e2 : b = k
    · rw [e2, ui_k h, ui_s, ui_s]
    · rw [ui_k (k := k) e2]
      by_cases e3 : b = k'
      · rw [e3, ui_s, ui_s]
      · rw [ui_k e3, ui_k e3, ui_k e2]
  · rw [ui_o e1, ui_o e1, ui_o e1, ui_o e1]
theorem toM_47 {μ : zM} {v : Int32} : toM (z_ui μ 50 47 v) = z_ui (toM μ) 50 47 v := by
  unfold toM
  rw [z_ui_ck (k := 47) (by decide), z_ui_cm (r := 50) (k := 47) (by decide), z_ui_cm (r := 50) (k := 47) (by decide), z_ui_cm (r := 50) (k := 47) (by decide), z_ui_cm (r := 50) (k := 47) (by decide)]
/-! within a hand, between its steps -/
set_option maxRecDepth 8000
def TC (x m : zM) (f : Nat → Nat) : Prop := ∃ a : Nat → Nat → Nat, (∀ s k, s < 4 → k < 34 → x.1 (21 + 8 * s) k = nI (a s k)) ∧ ∀ k, k < 34 → a 0 k + a 1 k + a 2 k + a 3 k + f k ≤ cW (fW m) 0 k (m.1 50 46).toNatClampNeg + cW (fW m) 122 k (m.1 50 48).toNatClampNeg
def DNm (m : zM) : Prop := ∀ s, s < 4 → ∃ n, m.1 68 s = nI n ∧ (n : Int) + 52 ≤ (m.1 50 46).toInt + (m.1 50 48).toInt ∧ (m.1 50 40 = nI s → 1 ≤ n)
def RQ (x m : zM) (lb : Nat) : Prop := (x.1 0 17 = nB (decide (m.1 50 56 = 0))) ∧ (¬ m.1 50 56 = 0 → ∀ s, s < 4 → m.1 64 s = 0) ∧ (∀ s, s < 4 → x.1 (18 + 8 * s) 6 = 0) ∧ (m.1 50 59 = 0) ∧ (m.1 50 55 = 1) ∧ (∀ s, s < 4 → m.1 71 s = 0) ∧ (m.1 50 53 = 0) ∧ (DNm m) ∧ (¬ m.1 50 56 = 0 → ∀ s, s < 4 → m.1 68 s = m.1 66 s) ∧ (TC x m (fun k => if lb = k then 1 else 0))
theorem RQ.br {x m : zM} {lb : Nat} (h : RQ x m lb) : x.1 0 17 = nB (decide (m.1 50 56 = 0)) := h.1
theorem RQ.us {x m : zM} {lb : Nat} (h : RQ x m lb) : ¬ m.1 50 56 = 0 → ∀ s, s < 4 → m.1 64 s = 0 := h.2.1
theorem RQ.ow {x m : zM} {lb : Nat} (h : RQ x m lb) : ∀ s, s < 4 → x.1 (18 + 8 * s) 6 = 0 := h.2.2.1
theorem RQ.o1 {x m : zM} {lb : Nat} (h : RQ x m lb) : m.1 50 59 = 0 := h.2.2.2.1
theorem RQ.is {x m : zM} {lb : Nat} (h : RQ x m lb) : m.1 50 55 = 1 := h.2.2.2.2.1
theorem RQ.s1 {x m : zM} {lb : Nat} (h : RQ x m lb) : ∀ s, s < 4 → m.1 71 s = 0 := h.2.2.2.2.2.1
theorem RQ.w0 {x m : zM} {lb : Nat} (h : RQ x m lb) : m.1 50 53 = 0 := h.2.2.2.2.2.2.1
theorem RQ.dn {x m : zM} {lb : Nat} (h : RQ x m lb) : DNm m := h.2.2.2.2.2.2.2.1
theorem RQ.dr {x m : zM} {lb : Nat} (h : RQ x m lb) : ¬ m.1 50 56 = 0 → ∀ s, s < 4 → m.1 68 s = m.1 66 s := h.2.2.2.2.2.2.2.2.1
theorem RQ.tc {x m : zM} {lb : Nat} (h : RQ x m lb) : TC x m (fun k => if lb = k then 1 else 0) := h.2.2.2.2.2.2.2.2.2
theorem TC.cg {x m x' m' : zM} {f : Nat → Nat} (h : TC x m f) (h1 : ∀ s k, s < 4 → k < 34 → x'.1 (21 + 8 * s) k = x.1 (21 + 8 * s) k) (h2 : ∀ i, m'.1 59 i = m.1 59 i) (h3 : m'.1 50 46 = m.1 50 46) (h4 : m'.1 50 48 = m.1 50 48) : TC x' m' f := h.elim fun a z => ⟨a, fun s k hs hk => by rw [h1 s k hs hk]; exact z.1 s k hs hk, by rw [fW_cg h2, h3, h4]; exact z.2⟩
theorem DNm.cg {m m' : zM} (h : DNm m) (h1 : ∀ s, s < 4 → m'.1 68 s = m.1 68 s) (h2 : m'.1 50 46 = m.1 50 46) (h3 : m'.1 50 48 = m.1 50 48) (h4 : m'.1 50 40 = m.1 50 40) : DNm m' := fun s hs => by rw [h1 s hs, h2, h3, h4]; exact h s hs
theorem rq_over0 {x m : zM} {p c : Nat} (P : RPh x m p 0 c) (hp : p = 2 ∨ p = 3) (hs : ∀ s, s < 4 → m.1 71 s = 0) {w1 w2 w3 : Int64} : RQ (lT x 0 1 2 3 (bw w1 c) (bw w2 c) (bw w3 c)) (ovM0 m c w1 w2 w3) (if p = 2 then c else 34) ∧ (lT x 0 1 2 3 (bw w1 c) (bw w2 c) (bw w3 c)).1 2 3 = (ovM0 m c w1 w2 w3).1 50 47 := by
  have ho := P.ow 0 (by decide)
  rw [if_pos rfl] at ho
  have hdr : ¬ m.1 50 56 = 0 → ∀ s, s < 4 → m.1 68 s = m.1 66 s := fun z s h => by have y := P.dr z s h; rw [if_neg (by omega)] at y; exact y
  have htc : TC x m (fun k => if (if p = 2 then c else 34) = k then 1 else 0) := P.tc.elim fun a z => ⟨a, z.1, fun k hk => by
    have y := z.2 k hk
    rcases hp with q | q
    · subst q; simp only [if_true, true_and] at y ⊢; exact y
    · subst q; rw [if_neg (by decide)]; simp only [show ¬ 34 = k by omega, if_false]; omega⟩
  unfold bw lT ovM0
  rw [ho]
  cases hb : decide (m.1 50 59 = 0) with
  | true =>
    rw [cond_true, cond_true]
    have h59 := of_decide_eq_true hb
    refine ⟨⟨(by simp (disch := first | decide | omega) only [ui_s, uj_s, ui_o, ui_k, uj_o, uj_k, ui_j, uj_i, lgS_k, lgS_o, lgS_j, lgM_o, lgM_j]; exact P.br), (by simp (disch := first | decide | omega) only [ui_s, uj_s, ui_o, ui_k, uj_o, uj_k, ui_j, uj_i, lgS_k, lgS_o, lgS_j, lgM_o, lgM_j]; exact P.us), (fun s h0 => by
        simp (disch := first | decide | omega) only [ui_s, uj_s, ui_o, ui_k, uj_o, uj_k, ui_j, uj_i, lgS_k, lgS_o, lgS_j, lgM_o, lgM_j]
        have z := P.ow s h0
        rw [h59] at z
        rw [z]; split <;> rfl), (by simp (disch := first | decide | omega) only [ui_s, uj_s, ui_o, ui_k, uj_o, uj_k, ui_j, uj_i, lgS_k, lgS_o, lgS_j, lgM_o, lgM_j]; exact h59), (by simp (disch := first | decide | omega) only [ui_s, uj_s, ui_o, ui_k, uj_o, uj_k, ui_j, uj_i, lgS_k, lgS_o, lgS_j, lgM_o, lgM_j]; exact P.is), fun s h0 => by simp (disch := first | decide | omega) only [ui_s, uj_s, ui_o, ui_k, uj_o, uj_k, ui_j, uj_i, lgS_k, lgS_o, lgS_j, lgM_o, lgM_j]; exact hs s h0, (by simp (disch := first | decide | omega) only [ui_s, uj_s, ui_o, ui_k, uj_o, uj_k, ui_j, uj_i, lgS_k, lgS_o, lgS_j, lgM_o, lgM_j]; exact P.w0), DNm.cg (m := m) P.dn (fun s h => by simp (disch := first | decide | omega) only [ui_s, uj_s, ui_o, ui_k, uj_o, uj_k, ui_j, uj_i, lgS_k, lgS_o, lgS_j, lgM_o, lgM_j]) (by simp (disch := first | decide | omega) only [ui_s, uj_s, ui_o, ui_k, uj_o, uj_k, ui_j, uj_i, lgS_k, lgS_o, lgS_j, lgM_o, lgM_j]) (by simp (disch := first | decide | omega) only [ui_s, uj_s, ui_o, ui_k, uj_o, uj_k, ui_j, uj_i, lgS_k, lgS_o, lgS_j, lgM_o, lgM_j]) (by simp (disch := first | decide | omega) only [ui_s, uj_s, ui_o, ui_k, uj_o, uj_k, ui_j, uj_i, lgS_k, lgS_o, lgS_j, lgM_o, lgM_j]), (by simp (disch := first | decide | omega) only [ui_s, uj_s, ui_o, ui_k, uj_o, uj_k, ui_j, uj_i, lgS_k, lgS_o, lgS_j, lgM_o, lgM_j]; exact hdr), htc.cg (fun s k _ _ => by simp (disch := first | decide | omega) only [ui_s, uj_s, ui_o, ui_k, uj_o, uj_k, ui_j, uj_i, lgS_k, lgS_o, lgS_j, lgM_o, lgM_j]) (fun i => by simp (disch := first | decide | omega) only [ui_s, uj_s, ui_o, ui_k, uj_o, uj_k, ui_j, uj_i, lgS_k, lgS_o, lgS_j, lgM_o, lgM_j]) (by simp (disch := first | decide | omega) only [ui_s, uj_s, ui_o, ui_k, uj_o, uj_k, ui_j, uj_i, lgS_k, lgS_o, lgS_j, lgM_o, lgM_j]) (by simp (disch := first | decide | omega) only [ui_s, uj_s, ui_o, ui_k, uj_o, uj_k, ui_j, uj_i, lgS_k, lgS_o, lgS_j, lgM_o, lgM_j])⟩, by simp (disch := first | decide | omega) only [ui_s, uj_s, ui_o, ui_k, uj_o, uj_k, ui_j, uj_i, lgS_k, lgS_o, lgS_j, lgM_o, lgM_j]; exact P.fo⟩
  | false =>
    rw [cond_false, cond_false]
    refine ⟨⟨(by simp (disch := first | decide | omega) only [ui_s, uj_s, ui_o, ui_k, uj_o, uj_k, ui_j, uj_i, lgS_k, lgS_o, lgS_j, lgM_o, lgM_j]; exact P.br), (by simp (disch := first | decide | omega) only [ui_s, uj_s, ui_o, ui_k, uj_o, uj_k, ui_j, uj_i, lgS_k, lgS_o, lgS_j, lgM_o, lgM_j]; exact P.us), (fun s h0 => by
        by_cases e : s = 0
        · subst e; simp (disch := first | decide | omega) only [ui_s, uj_s, ui_o, ui_k, uj_o, uj_k, ui_j, uj_i, lgS_k, lgS_o, lgS_j, lgM_o, lgM_j]
        · simp (disch := first | decide | omega) only [ui_s, uj_s, ui_o, ui_k, uj_o, uj_k, ui_j, uj_i, lgS_k, lgS_o, lgS_j, lgM_o, lgM_j]; have z := P.ow s h0; rw [if_neg e] at z; exact z), (by simp (disch := first | decide | omega) only [ui_s, uj_s, ui_o, ui_k, uj_o, uj_k, ui_j, uj_i, lgS_k, lgS_o, lgS_j, lgM_o, lgM_j]), (by simp (disch := first | decide | omega) only [ui_s, uj_s, ui_o, ui_k, uj_o, uj_k, ui_j, uj_i, lgS_k, lgS_o, lgS_j, lgM_o, lgM_j]; exact P.is), fun s h0 => by simp (disch := first | decide | omega) only [ui_s, uj_s, ui_o, ui_k, uj_o, uj_k, ui_j, uj_i, lgS_k, lgS_o, lgS_j, lgM_o, lgM_j]; exact hs s h0, (by simp (disch := first | decide | omega) only [ui_s, uj_s, ui_o, ui_k, uj_o, uj_k, ui_j, uj_i, lgS_k, lgS_o, lgS_j, lgM_o, lgM_j]; exact P.w0), DNm.cg (m := m) P.dn (fun s h => by simp (disch := first | decide | omega) only [ui_s, uj_s, ui_o, ui_k, uj_o, uj_k, ui_j, uj_i, lgS_k, lgS_o, lgS_j, lgM_o, lgM_j]) (by simp (disch := first | decide | omega) only [ui_s, uj_s, ui_o, ui_k, uj_o, uj_k, ui_j, uj_i, lgS_k, lgS_o, lgS_j, lgM_o, lgM_j]) (by simp (disch := first | decide | omega) only [ui_s, uj_s, ui_o, ui_k, uj_o, uj_k, ui_j, uj_i, lgS_k, lgS_o, lgS_j, lgM_o, lgM_j]) (by simp (disch := first | decide | omega) only [ui_s, uj_s, ui_o, ui_k, uj_o, uj_k, ui_j, uj_i, lgS_k, lgS_o, lgS_j, lgM_o, lgM_j]), (by simp (disch := first | decide | omega) only [ui_s, uj_s, ui_o, ui_k, uj_o, uj_k, ui_j, uj_i, lgS_k, lgS_o, lgS_j, lgM_o, lgM_j]; exact hdr), htc.cg (fun s k _ _ => by simp (disch := first | decide | omega) only [ui_s, uj_s, ui_o, ui_k, uj_o, uj_k, ui_j, uj_i, lgS_k, lgS_o, lgS_j, lgM_o, lgM_j]) (fun i => by simp (disch := first | decide | omega) only [ui_s, uj_s, ui_o, ui_k, uj_o, uj_k, ui_j, uj_i, lgS_k, lgS_o, lgS_j, lgM_o, lgM_j]) (by simp (disch := first | decide | omega) only [ui_s, uj_s, ui_o, ui_k, uj_o, uj_k, ui_j, uj_i, lgS_k, lgS_o, lgS_j, lgM_o, lgM_j]) (by simp (disch := first | decide | omega) only [ui_s, uj_s, ui_o, ui_k, uj_o, uj_k, ui_j, uj_i, lgS_k, lgS_o, lgS_j, lgM_o, lgM_j])⟩, by simp (disch := first | decide | omega) only [ui_s, uj_s, ui_o, ui_k, uj_o, uj_k, ui_j, uj_i, lgS_k, lgS_o, lgS_j, lgM_o, lgM_j]; exact P.fo⟩
theorem rq_over1 {x m : zM} {p c : Nat} (P : RPh x m p 1 c) (hp : p = 2 ∨ p = 3) (hs : ∀ s, s < 4 → m.1 71 s = 0) {w0 w2 w3 : Int64} : RQ (lT x 1 2 3 0 (bw w2 c) (bw w3 c) (bw w0 c)) (ovM1 m c w0 w2 w3) (if p = 2 then c else 34) ∧ (lT x 1 2 3 0 (bw w2 c) (bw w3 c) (bw w0 c)).1 2 3 = (ovM1 m c w0 w2 w3).1 50 47 := by
  have ho := P.ow 1 (by decide)
  rw [if_pos rfl] at ho
  have hdr : ¬ m.1 50 56 = 0 → ∀ s, s < 4 → m.1 68 s = m.1 66 s := fun z s h => by have y := P.dr z s h; rw [if_neg (by omega)] at y; exact y
  have htc : TC x m (fun k => if (if p = 2 then c else 34) = k then 1 else 0) := P.tc.elim fun a z => ⟨a, z.1, fun k hk => by
    have y := z.2 k hk
    rcases hp with q | q
    · subst q; simp only [if_true, true_and] at y ⊢; exact y
    · subst q; rw [if_neg (by decide)]; simp only [show ¬ 34 = k by omega, if_false]; omega⟩
  unfold bw lT ovM1
  rw [ho]
  cases hb : decide (m.1 50 59 = 0) with
  | true =>
    rw [cond_true, cond_true]
    have h59 := of_decide_eq_true hb
    refine ⟨⟨(by simp (disch := first | decide | omega) only [ui_s, uj_s, ui_o, ui_k, uj_o, uj_k, ui_j, uj_i, lgS_k, lgS_o, lgS_j, lgM_o, lgM_j]; exact P.br), (by simp (disch := first | decide | omega) only [ui_s, uj_s, ui_o, ui_k, uj_o, uj_k, ui_j, uj_i, lgS_k, lgS_o, lgS_j, lgM_o, lgM_j]; exact P.us), (fun s h0 => by
        simp (disch := first | decide | omega) only [ui_s, uj_s, ui_o, ui_k, uj_o, uj_k, ui_j, uj_i, lgS_k, lgS_o, lgS_j, lgM_o, lgM_j]
        have z := P.ow s h0
        rw [h59] at z
        rw [z]; split <;> rfl), (by simp (disch := first | decide | omega) only [ui_s, uj_s, ui_o, ui_k, uj_o, uj_k, ui_j, uj_i, lgS_k, lgS_o, lgS_j, lgM_o, lgM_j]; exact h59), (by simp (disch := first | decide | omega) only [ui_s, uj_s, ui_o, ui_k, uj_o, uj_k, ui_j, uj_i, lgS_k, lgS_o, lgS_j, lgM_o, lgM_j]; exact P.is), fun s h0 => by simp (disch := first | decide | omega) only [ui_s, uj_s, ui_o, ui_k, uj_o, uj_k, ui_j, uj_i, lgS_k, lgS_o, lgS_j, lgM_o, lgM_j]; exact hs s h0, (by simp (disch := first | decide | omega) only [ui_s, uj_s, ui_o, ui_k, uj_o, uj_k, ui_j, uj_i, lgS_k, lgS_o, lgS_j, lgM_o, lgM_j]; exact P.w0), DNm.cg (m := m) P.dn (fun s h => by simp (disch := first | decide | omega) only [ui_s, uj_s, ui_o, ui_k, uj_o, uj_k, ui_j, uj_i, lgS_k, lgS_o, lgS_j, lgM_o, lgM_j]) (by simp (disch := first | decide | omega) only [ui_s, uj_s, ui_o, ui_k, uj_o, uj_k, ui_j, uj_i, lgS_k, lgS_o, lgS_j, lgM_o, lgM_j]) (by simp (disch := first | decide | omega) only [ui_s, uj_s, ui_o, ui_k, uj_o, uj_k, ui_j, uj_i, lgS_k, lgS_o, lgS_j, lgM_o, lgM_j]) (by simp (disch := first | decide | omega) only [ui_s, uj_s, ui_o, ui_k, uj_o, uj_k, ui_j, uj_i, lgS_k, lgS_o, lgS_j, lgM_o, lgM_j]), (by simp (disch := first | decide | omega) only [ui_s, uj_s, ui_o, ui_k, uj_o, uj_k, ui_j, uj_i, lgS_k, lgS_o, lgS_j, lgM_o, lgM_j]; exact hdr), htc.cg (fun s k _ _ => by simp (disch := first | decide | omega) only [ui_s, uj_s, ui_o, ui_k, uj_o, uj_k, ui_j, uj_i, lgS_k, lgS_o, lgS_j, lgM_o, lgM_j]) (fun i => by simp (disch := first | decide | omega) only [ui_s, uj_s, ui_o, ui_k, uj_o, uj_k, ui_j, uj_i, lgS_k, lgS_o, lgS_j, lgM_o, lgM_j]) (by simp (disch := first | decide | omega) only [ui_s, uj_s, ui_o, ui_k, uj_o, uj_k, ui_j, uj_i, lgS_k, lgS_o, lgS_j, lgM_o, lgM_j]) (by simp (disch := first | decide | omega) only [ui_s, uj_s, ui_o, ui_k, uj_o, uj_k, ui_j, uj_i, lgS_k, lgS_o, lgS_j, lgM_o, lgM_j])⟩, by simp (disch := first | decide | omega) only [ui_s, uj_s, ui_o, ui_k, uj_o, uj_k, ui_j, uj_i, lgS_k, lgS_o, lgS_j, lgM_o, lgM_j]; exact P.fo⟩
  | false =>
    rw [cond_false, cond_false]
    refine ⟨⟨(by simp (disch := first | decide | omega) only [ui_s, uj_s, ui_o, ui_k, uj_o, uj_k, ui_j, uj_i, lgS_k, lgS_o, lgS_j, lgM_o, lgM_j]; exact P.br), (by simp (disch := first | decide | omega) only [ui_s, uj_s, ui_o, ui_k, uj_o, uj_k, ui_j, uj_i, lgS_k, lgS_o, lgS_j, lgM_o, lgM_j]; exact P.us), (fun s h0 => by
        by_cases e : s = 1
        · subst e; simp (disch := first | decide | omega) only [ui_s, uj_s, ui_o, ui_k, uj_o, uj_k, ui_j, uj_i, lgS_k, lgS_o, lgS_j, lgM_o, lgM_j]
        · simp (disch := first | decide | omega) only [ui_s, uj_s, ui_o, ui_k, uj_o, uj_k, ui_j, uj_i, lgS_k, lgS_o, lgS_j, lgM_o, lgM_j]; have z := P.ow s h0; rw [if_neg e] at z; exact z), (by simp (disch := first | decide | omega) only [ui_s, uj_s, ui_o, ui_k, uj_o, uj_k, ui_j, uj_i, lgS_k, lgS_o, lgS_j, lgM_o, lgM_j]), (by simp (disch := first | decide | omega) only [ui_s, uj_s, ui_o, ui_k, uj_o, uj_k, ui_j, uj_i, lgS_k, lgS_o, lgS_j, lgM_o, lgM_j]; exact P.is), fun s h0 => by simp (disch := first | decide | omega) only [ui_s, uj_s, ui_o, ui_k, uj_o, uj_k, ui_j, uj_i, lgS_k, lgS_o, lgS_j, lgM_o, lgM_j]; exact hs s h0, (by simp (disch := first | decide | omega) only [ui_s, uj_s, ui_o, ui_k, uj_o, uj_k, ui_j, uj_i, lgS_k, lgS_o, lgS_j, lgM_o, lgM_j]; exact P.w0), DNm.cg (m := m) P.dn (fun s h => by simp (disch := first | decide | omega) only [ui_s, uj_s, ui_o, ui_k, uj_o, uj_k, ui_j, uj_i, lgS_k, lgS_o, lgS_j, lgM_o, lgM_j]) (by simp (disch := first | decide | omega) only [ui_s, uj_s, ui_o, ui_k, uj_o, uj_k, ui_j, uj_i, lgS_k, lgS_o, lgS_j, lgM_o, lgM_j]) (by simp (disch := first | decide | omega) only [ui_s, uj_s, ui_o, ui_k, uj_o, uj_k, ui_j, uj_i, lgS_k, lgS_o, lgS_j, lgM_o, lgM_j]) (by simp (disch := first | decide | omega) only [ui_s, uj_s, ui_o, ui_k, uj_o, uj_k, ui_j, uj_i, lgS_k, lgS_o, lgS_j, lgM_o, lgM_j]), (by simp (disch := first | decide | omega) only [ui_s, uj_s, ui_o, ui_k, uj_o, uj_k, ui_j, uj_i, lgS_k, lgS_o, lgS_j, lgM_o, lgM_j]; exact hdr), htc.cg (fun s k _ _ => by simp (disch := first | decide | omega) only [ui_s, uj_s, ui_o, ui_k, uj_o, uj_k, ui_j, uj_i, lgS_k, lgS_o, lgS_j, lgM_o, lgM_j]) (fun i => by simp (disch := first | decide | omega) only [ui_s, uj_s, ui_o, ui_k, uj_o, uj_k, ui_j, uj_i, lgS_k, lgS_o, lgS_j, lgM_o, lgM_j]) (by simp (disch := first | decide | omega) only [ui_s, uj_s, ui_o, ui_k, uj_o, uj_k, ui_j, uj_i, lgS_k, lgS_o, lgS_j, lgM_o, lgM_j]) (by simp (disch := first | decide | omega) only [ui_s, uj_s, ui_o, ui_k, uj_o, uj_k, ui_j, uj_i, lgS_k, lgS_o, lgS_j, lgM_o, lgM_j])⟩, by simp (disch := first | decide | omega) only [ui_s, uj_s, ui_o, ui_k, uj_o, uj_k, ui_j, uj_i, lgS_k, lgS_o, lgS_j, lgM_o, lgM_j]; exact P.fo⟩
theorem rq_over2 {x m : zM} {p c : Nat} (P : RPh x m p 2 c) (hp : p = 2 ∨ p = 3) (hs : ∀ s, s < 4 → m.1 71 s = 0) {w0 w1 w3 : Int64} : RQ (lT x 2 3 0 1 (bw w3 c) (bw w0 c) (bw w1 c)) (ovM2 m c w0 w1 w3) (if p = 2 then c else 34) ∧ (lT x 2 3 0 1 (bw w3 c) (bw w0 c) (bw w1 c)).1 2 3 = (ovM2 m c w0 w1 w3).1 50 47 := by
  have ho := P.ow 2 (by decide)
  rw [if_pos rfl] at ho
  have hdr : ¬ m.1 50 56 = 0 → ∀ s, s < 4 → m.1 68 s = m.1 66 s := fun z s h => by have y := P.dr z s h; rw [if_neg (by omega)] at y; exact y
  have htc : TC x m (fun k => if (if p = 2 then c else 34) = k then 1 else 0) := P.tc.elim fun a z => ⟨a, z.1, fun k hk => by
    have y := z.2 k hk
    rcases hp with q | q
    · subst q; simp only [if_true, true_and] at y ⊢; exact y
    · subst q; rw [if_neg (by decide)]; simp only [show ¬ 34 = k by omega, if_false]; omega⟩
  unfold bw lT ovM2
  rw [ho]
  cases hb : decide (m.1 50 59 = 0) with
  | true =>
    rw [cond_true, cond_true]
    have h59 := of_decide_eq_true hb
    refine ⟨⟨(by simp (disch := first | decide | omega) only [ui_s, uj_s, ui_o, ui_k, uj_o, uj_k, ui_j, uj_i, lgS_k, lgS_o, lgS_j, lgM_o, lgM_j]; exact P.br), (by simp (disch := first | decide | omega) only [ui_s, uj_s, ui_o, ui_k, uj_o, uj_k, ui_j, uj_i, lgS_k, lgS_o, lgS_j, lgM_o, lgM_j]; exact P.us), (fun s h0 => by
        simp (disch := first | decide | omega) only [ui_s, uj_s, ui_o, ui_k, uj_o, uj_k, ui_j, uj_i, lgS_k, lgS_o, lgS_j, lgM_o, lgM_j]
        have z := P.ow s h0
        rw [h59] at z
        rw [z]; split <;> rfl), (by simp (disch := first | decide | omega) only [ui_s, uj_s, ui_o, ui_k, uj_o, uj_k, ui_j, uj_i, lgS_k, lgS_o, lgS_j, lgM_o, lgM_j]; exact h59), (by simp (disch := first | decide | omega) only [ui_s, uj_s, ui_o, ui_k, uj_o, uj_k, ui_j, uj_i, lgS_k, lgS_o, lgS_j, lgM_o, lgM_j]; exact P.is), fun s h0 => by simp (disch := first | decide | omega) only [ui_s, uj_s, ui_o, ui_k, uj_o, uj_k, ui_j, uj_i, lgS_k, lgS_o, lgS_j, lgM_o, lgM_j]; exact hs s h0, (by simp (disch := first | decide | omega) only [ui_s, uj_s, ui_o, ui_k, uj_o, uj_k, ui_j, uj_i, lgS_k, lgS_o, lgS_j, lgM_o, lgM_j]; exact P.w0), DNm.cg (m := m) P.dn (fun s h => by simp (disch := first | decide | omega) only [ui_s, uj_s, ui_o, ui_k, uj_o, uj_k, ui_j, uj_i, lgS_k, lgS_o, lgS_j, lgM_o, lgM_j]) (by simp (disch := first | decide | omega) only [ui_s, uj_s, ui_o, ui_k, uj_o, uj_k, ui_j, uj_i, lgS_k, lgS_o, lgS_j, lgM_o, lgM_j]) (by simp (disch := first | decide | omega) only [ui_s, uj_s, ui_o, ui_k, uj_o, uj_k, ui_j, uj_i, lgS_k, lgS_o, lgS_j, lgM_o, lgM_j]) (by simp (disch := first | decide | omega) only [ui_s, uj_s, ui_o, ui_k, uj_o, uj_k, ui_j, uj_i, lgS_k, lgS_o, lgS_j, lgM_o, lgM_j]), (by simp (disch := first | decide | omega) only [ui_s, uj_s, ui_o, ui_k, uj_o, uj_k, ui_j, uj_i, lgS_k, lgS_o, lgS_j, lgM_o, lgM_j]; exact hdr), htc.cg (fun s k _ _ => by simp (disch := first | decide | omega) only [ui_s, uj_s, ui_o, ui_k, uj_o, uj_k, ui_j, uj_i, lgS_k, lgS_o, lgS_j, lgM_o, lgM_j]) (fun i => by simp (disch := first | decide | omega) only [ui_s, uj_s, ui_o, ui_k, uj_o, uj_k, ui_j, uj_i, lgS_k, lgS_o, lgS_j, lgM_o, lgM_j]) (by simp (disch := first | decide | omega) only [ui_s, uj_s, ui_o, ui_k, uj_o, uj_k, ui_j, uj_i, lgS_k, lgS_o, lgS_j, lgM_o, lgM_j]) (by simp (disch := first | decide | omega) only [ui_s, uj_s, ui_o, ui_k, uj_o, uj_k, ui_j, uj_i, lgS_k, lgS_o, lgS_j, lgM_o, lgM_j])⟩, by simp (disch := first | decide | omega) only [ui_s, uj_s, ui_o, ui_k, uj_o, uj_k, ui_j, uj_i, lgS_k, lgS_o, lgS_j, lgM_o, lgM_j]; exact P.fo⟩
  | false =>
    rw [cond_false, cond_false]
    refine ⟨⟨(by simp (disch := first | decide | omega) only [ui_s, uj_s, ui_o, ui_k, uj_o, uj_k, ui_j, uj_i, lgS_k, lgS_o, lgS_j, lgM_o, lgM_j]; exact P.br), (by simp (disch := first | decide | omega) only [ui_s, uj_s, ui_o, ui_k, uj_o, uj_k, ui_j, uj_i, lgS_k, lgS_o, lgS_j, lgM_o, lgM_j]; exact P.us), (fun s h0 => by
        by_cases e : s = 2
        · subst e; simp (disch := first | decide | omega) only [ui_s, uj_s, ui_o, ui_k, uj_o, uj_k, ui_j, uj_i, lgS_k, lgS_o, lgS_j, lgM_o, lgM_j]
        · simp (disch := first | decide | omega) only [ui_s, uj_s, ui_o, ui_k, uj_o, uj_k, ui_j, uj_i, lgS_k, lgS_o, lgS_j, lgM_o, lgM_j]; have z := P.ow s h0; rw [if_neg e] at z; exact z), (by simp (disch := first | decide | omega) only [ui_s, uj_s, ui_o, ui_k, uj_o, uj_k, ui_j, uj_i, lgS_k, lgS_o, lgS_j, lgM_o, lgM_j]), (by simp (disch := first | decide | omega) only [ui_s, uj_s, ui_o, ui_k, uj_o, uj_k, ui_j, uj_i, lgS_k, lgS_o, lgS_j, lgM_o, lgM_j]; exact P.is), fun s h0 => by simp (disch := first | decide | omega) only [ui_s, uj_s, ui_o, ui_k, uj_o, uj_k, ui_j, uj_i, lgS_k, lgS_o, lgS_j, lgM_o, lgM_j]; exact hs s h0, (by simp (disch := first | decide | omega) only [ui_s, uj_s, ui_o, ui_k, uj_o, uj_k, ui_j, uj_i, lgS_k, lgS_o, lgS_j, lgM_o, lgM_j]; exact P.w0), DNm.cg (m := m) P.dn (fun s h => by simp (disch := first | decide | omega) only [ui_s, uj_s, ui_o, ui_k, uj_o, uj_k, ui_j, uj_i, lgS_k, lgS_o, lgS_j, lgM_o, lgM_j]) (by simp (disch := first | decide | omega) only [ui_s, uj_s, ui_o, ui_k, uj_o, uj_k, ui_j, uj_i, lgS_k, lgS_o, lgS_j, lgM_o, lgM_j]) (by simp (disch := first | decide | omega) only [ui_s, uj_s, ui_o, ui_k, uj_o, uj_k, ui_j, uj_i, lgS_k, lgS_o, lgS_j, lgM_o, lgM_j]) (by simp (disch := first | decide | omega) only [ui_s, uj_s, ui_o, ui_k, uj_o, uj_k, ui_j, uj_i, lgS_k, lgS_o, lgS_j, lgM_o, lgM_j]), (by simp (disch := first | decide | omega) only [ui_s, uj_s, ui_o, ui_k, uj_o, uj_k, ui_j, uj_i, lgS_k, lgS_o, lgS_j, lgM_o, lgM_j]; exact hdr), htc.cg (fun s k _ _ => by simp (disch := first | decide | omega) only [ui_s, uj_s, ui_o, ui_k, uj_o, uj_k, ui_j, uj_i, lgS_k, lgS_o, lgS_j, lgM_o, lgM_j]) (fun i => by simp (disch := first | decide | omega) only [ui_s, uj_s, ui_o, ui_k, uj_o, uj_k, ui_j, uj_i, lgS_k, lgS_o, lgS_j, lgM_o, lgM_j]) (by simp (disch := first | decide | omega) only [ui_s, uj_s, ui_o, ui_k, uj_o, uj_k, ui_j, uj_i, lgS_k, lgS_o, lgS_j, lgM_o, lgM_j]) (by simp (disch := first | decide | omega) only [ui_s, uj_s, ui_o, ui_k, uj_o, uj_k, ui_j, uj_i, lgS_k, lgS_o, lgS_j, lgM_o, lgM_j])⟩, by simp (disch := first | decide | omega) only [ui_s, uj_s, ui_o, ui_k, uj_o, uj_k, ui_j, uj_i, lgS_k, lgS_o, lgS_j, lgM_o, lgM_j]; exact P.fo⟩
theorem rq_over3 {x m : zM} {p c : Nat} (P : RPh x m p 3 c) (hp : p = 2 ∨ p = 3) (hs : ∀ s, s < 4 → m.1 71 s = 0) {w0 w1 w2 : Int64} : RQ (lT x 3 0 1 2 (bw w0 c) (bw w1 c) (bw w2 c)) (ovM3 m c w0 w1 w2) (if p = 2 then c else 34) ∧ (lT x 3 0 1 2 (bw w0 c) (bw w1 c) (bw w2 c)).1 2 3 = (ovM3 m c w0 w1 w2).1 50 47 := by
  have ho := P.ow 3 (by decide)
  rw [if_pos rfl] at ho
  have hdr : ¬ m.1 50 56 = 0 → ∀ s, s < 4 → m.1 68 s = m.1 66 s := fun z s h => by have y := P.dr z s h; rw [if_neg (by omega)] at y; exact y
  have htc : TC x m (fun k => if (if p = 2 then c else 34) = k then 1 else 0) := P.tc.elim fun a z => ⟨a, z.1, fun k hk => by
    have y := z.2 k hk
    rcases hp with q | q
    · subst q; simp only [if_true, true_and] at y ⊢; exact y
    · subst q; rw [if_neg (by decide)]; simp only [show ¬ 34 = k by omega, if_false]; omega⟩
  unfold bw lT ovM3
  rw [ho]
  cases hb : decide (m.1 50 59 = 0) with
  | true =>
    rw [cond_true, cond_true]
    have h59 := of_decide_eq_true hb
    refine ⟨⟨(by simp (disch := first | decide | omega) only [ui_s, uj_s, ui_o, ui_k, uj_o, uj_k, ui_j, uj_i, lgS_k, lgS_o, lgS_j, lgM_o, lgM_j]; exact P.br), (by simp (disch := first | decide | omega) only [ui_s, uj_s, ui_o, ui_k, uj_o, uj_k, ui_j, uj_i, lgS_k, lgS_o, lgS_j, lgM_o, lgM_j]; exact P.us), (fun s h0 => by
        simp (disch := first | decide | omega) only [ui_s, uj_s, ui_o, ui_k, uj_o, uj_k, ui_j, uj_i, lgS_k, lgS_o, lgS_j, lgM_o, lgM_j]
        have z := P.ow s h0
        rw [h59] at z
        rw [z]; split <;> rfl), (by simp (disch := first | decide | omega) only [ui_s, uj_s, ui_o, ui_k, uj_o, uj_k, ui_j, uj_i, lgS_k, lgS_o, lgS_j, lgM_o, lgM_j]; exact h59), (by simp (disch := first | decide | omega) only [ui_s, uj_s, ui_o, ui_k, uj_o, uj_k, ui_j, uj_i, lgS_k, lgS_o, lgS_j, lgM_o, lgM_j]; exact P.is), fun s h0 => by simp (disch := first | decide | omega) only [ui_s, uj_s, ui_o, ui_k, uj_o, uj_k, ui_j, uj_i, lgS_k, lgS_o, lgS_j, lgM_o, lgM_j]; exact hs s h0, (by simp (disch := first | decide | omega) only [ui_s, uj_s, ui_o, ui_k, uj_o, uj_k, ui_j, uj_i, lgS_k, lgS_o, lgS_j, lgM_o, lgM_j]; exact P.w0), DNm.cg (m := m) P.dn (fun s h => by simp (disch := first | decide | omega) only [ui_s, uj_s, ui_o, ui_k, uj_o, uj_k, ui_j, uj_i, lgS_k, lgS_o, lgS_j, lgM_o, lgM_j]) (by simp (disch := first | decide | omega) only [ui_s, uj_s, ui_o, ui_k, uj_o, uj_k, ui_j, uj_i, lgS_k, lgS_o, lgS_j, lgM_o, lgM_j]) (by simp (disch := first | decide | omega) only [ui_s, uj_s, ui_o, ui_k, uj_o, uj_k, ui_j, uj_i, lgS_k, lgS_o, lgS_j, lgM_o, lgM_j]) (by simp (disch := first | decide | omega) only [ui_s, uj_s, ui_o, ui_k, uj_o, uj_k, ui_j, uj_i, lgS_k, lgS_o, lgS_j, lgM_o, lgM_j]), (by simp (disch := first | decide | omega) only [ui_s, uj_s, ui_o, ui_k, uj_o, uj_k, ui_j, uj_i, lgS_k, lgS_o, lgS_j, lgM_o, lgM_j]; exact hdr), htc.cg (fun s k _ _ => by simp (disch := first | decide | omega) only [ui_s, uj_s, ui_o, ui_k, uj_o, uj_k, ui_j, uj_i, lgS_k, lgS_o, lgS_j, lgM_o, lgM_j]) (fun i => by simp (disch := first | decide | omega) only [ui_s, uj_s, ui_o, ui_k, uj_o, uj_k, ui_j, uj_i, lgS_k, lgS_o, lgS_j, lgM_o, lgM_j]) (by simp (disch := first | decide | omega) only [ui_s, uj_s, ui_o, ui_k, uj_o, uj_k, ui_j, uj_i, lgS_k, lgS_o, lgS_j, lgM_o, lgM_j]) (by simp (disch := first | decide | omega) only [ui_s, uj_s, ui_o, ui_k, uj_o, uj_k, ui_j, uj_i, lgS_k, lgS_o, lgS_j, lgM_o, lgM_j])⟩, by simp (disch := first | decide | omega) only [ui_s, uj_s, ui_o, ui_k, uj_o, uj_k, ui_j, uj_i, lgS_k, lgS_o, lgS_j, lgM_o, lgM_j]; exact P.fo⟩
  | false =>
    rw [cond_false, cond_false]
    refine ⟨⟨(by simp (disch := first | decide | omega) only [ui_s, uj_s, ui_o, ui_k, uj_o, uj_k, ui_j, uj_i, lgS_k, lgS_o, lgS_j, lgM_o, lgM_j]; exact P.br), (by simp (disch := first | decide | omega) only [ui_s, uj_s, ui_o, ui_k, uj_o, uj_k, ui_j, uj_i, lgS_k, lgS_o, lgS_j, lgM_o, lgM_j]; exact P.us), (fun s h0 => by
        by_cases e : s = 3
        · subst e; simp (disch := first | decide | omega) only [ui_s, uj_s, ui_o, ui_k, uj_o, uj_k, ui_j, uj_i, lgS_k, lgS_o, lgS_j, lgM_o, lgM_j]
        · simp (disch := first | decide | omega) only [ui_s, uj_s, ui_o, ui_k, uj_o, uj_k, ui_j, uj_i, lgS_k, lgS_o, lgS_j, lgM_o, lgM_j]; have z := P.ow s h0; rw [if_neg e] at z; exact z), (by simp (disch := first | decide | omega) only [ui_s, uj_s, ui_o, ui_k, uj_o, uj_k, ui_j, uj_i, lgS_k, lgS_o, lgS_j, lgM_o, lgM_j]), (by simp (disch := first | decide | omega) only [ui_s, uj_s, ui_o, ui_k, uj_o, uj_k, ui_j, uj_i, lgS_k, lgS_o, lgS_j, lgM_o, lgM_j]; exact P.is), fun s h0 => by simp (disch := first | decide | omega) only [ui_s, uj_s, ui_o, ui_k, uj_o, uj_k, ui_j, uj_i, lgS_k, lgS_o, lgS_j, lgM_o, lgM_j]; exact hs s h0, (by simp (disch := first | decide | omega) only [ui_s, uj_s, ui_o, ui_k, uj_o, uj_k, ui_j, uj_i, lgS_k, lgS_o, lgS_j, lgM_o, lgM_j]; exact P.w0), DNm.cg (m := m) P.dn (fun s h => by simp (disch := first | decide | omega) only [ui_s, uj_s, ui_o, ui_k, uj_o, uj_k, ui_j, uj_i, lgS_k, lgS_o, lgS_j, lgM_o, lgM_j]) (by simp (disch := first | decide | omega) only [ui_s, uj_s, ui_o, ui_k, uj_o, uj_k, ui_j, uj_i, lgS_k, lgS_o, lgS_j, lgM_o, lgM_j]) (by simp (disch := first | decide | omega) only [ui_s, uj_s, ui_o, ui_k, uj_o, uj_k, ui_j, uj_i, lgS_k, lgS_o, lgS_j, lgM_o, lgM_j]) (by simp (disch := first | decide | omega) only [ui_s, uj_s, ui_o, ui_k, uj_o, uj_k, ui_j, uj_i, lgS_k, lgS_o, lgS_j, lgM_o, lgM_j]), (by simp (disch := first | decide | omega) only [ui_s, uj_s, ui_o, ui_k, uj_o, uj_k, ui_j, uj_i, lgS_k, lgS_o, lgS_j, lgM_o, lgM_j]; exact hdr), htc.cg (fun s k _ _ => by simp (disch := first | decide | omega) only [ui_s, uj_s, ui_o, ui_k, uj_o, uj_k, ui_j, uj_i, lgS_k, lgS_o, lgS_j, lgM_o, lgM_j]) (fun i => by simp (disch := first | decide | omega) only [ui_s, uj_s, ui_o, ui_k, uj_o, uj_k, ui_j, uj_i, lgS_k, lgS_o, lgS_j, lgM_o, lgM_j]) (by simp (disch := first | decide | omega) only [ui_s, uj_s, ui_o, ui_k, uj_o, uj_k, ui_j, uj_i, lgS_k, lgS_o, lgS_j, lgM_o, lgM_j]) (by simp (disch := first | decide | omega) only [ui_s, uj_s, ui_o, ui_k, uj_o, uj_k, ui_j, uj_i, lgS_k, lgS_o, lgS_j, lgM_o, lgM_j])⟩, by simp (disch := first | decide | omega) only [ui_s, uj_s, ui_o, ui_k, uj_o, uj_k, ui_j, uj_i, lgS_k, lgS_o, lgS_j, lgM_o, lgM_j]; exact P.fo⟩
theorem rq_brk {x m : zM} {lb : Nat} (Q : RQ x m lb) : RQ (bkH x) (toM m) lb ∧ (bkH x).1 2 3 = x.1 2 3 ∧ (toM m).1 50 47 = m.1 50 47 ∧ (toM m).1 50 56 = 0 := by
  unfold bkH toM
  refine ⟨⟨(by simp (disch := first | decide | omega) only [ui_s, uj_s, ui_o, ui_k, uj_o, uj_k, ui_j, uj_i]; rfl), fun z => absurd (by simp (disch := first | decide | omega) only [ui_s, uj_s, ui_o, ui_k, uj_o, uj_k, ui_j, uj_i]) z, fun s h0 => by simp (disch := first | decide | omega) only [ui_s, uj_s, ui_o, ui_k, uj_o, uj_k, ui_j, uj_i]; exact Q.ow s h0, (by simp (disch := first | decide | omega) only [ui_s, uj_s, ui_o, ui_k, uj_o, uj_k, ui_j, uj_i]; exact Q.o1), (by simp (disch := first | decide | omega) only [ui_s, uj_s, ui_o, ui_k, uj_o, uj_k, ui_j, uj_i]; exact Q.is), fun s h0 => by simp (disch := first | decide | omega) only [ui_s, uj_s, ui_o, ui_k, uj_o, uj_k, ui_j, uj_i]; exact Q.s1 s h0, (by simp (disch := first | decide | omega) only [ui_s, uj_s, ui_o, ui_k, uj_o, uj_k, ui_j, uj_i]; exact Q.w0), DNm.cg (m := m) Q.dn (fun s h => by simp (disch := first | decide | omega) only [ui_s, uj_s, ui_o, ui_k, uj_o, uj_k, ui_j, uj_i]) (by simp (disch := first | decide | omega) only [ui_s, uj_s, ui_o, ui_k, uj_o, uj_k, ui_j, uj_i]) (by simp (disch := first | decide | omega) only [ui_s, uj_s, ui_o, ui_k, uj_o, uj_k, ui_j, uj_i]) (by simp (disch := first | decide | omega) only [ui_s, uj_s, ui_o, ui_k, uj_o, uj_k, ui_j, uj_i]), fun z => absurd (by simp (disch := first | decide | omega) only [ui_s, uj_s, ui_o, ui_k, uj_o, uj_k, ui_j, uj_i]) z, Q.tc.cg (fun s k _ _ => by simp (disch := first | decide | omega) only [ui_s, uj_s, ui_o, ui_k, uj_o, uj_k, ui_j, uj_i]) (fun i => by simp (disch := first | decide | omega) only [ui_s, uj_s, ui_o, ui_k, uj_o, uj_k, ui_j, uj_i]) (by simp (disch := first | decide | omega) only [ui_s, uj_s, ui_o, ui_k, uj_o, uj_k, ui_j, uj_i]) (by simp (disch := first | decide | omega) only [ui_s, uj_s, ui_o, ui_k, uj_o, uj_k, ui_j, uj_i])⟩, ?_, ?_, ?_⟩ <;> (simp (disch := first | decide | omega) only [ui_s, uj_s, ui_o, ui_k, uj_o, uj_k, ui_j, uj_i])
/-! within a hand: laying down, drawing -/
set_option maxRecDepth 8000
theorem TC.lay {x m x' m' : zM} {f g : Nat → Nat} {s : Nat} (h : TC x m f) (hs : s < 4) (h1 : ∀ j k, j < 4 → k < 34 → j ≠ s → x'.1 (21 + 8 * j) k = x.1 (21 + 8 * j) k) {d : Nat → Nat} (hd : ∀ k, k < 34 → x'.1 (21 + 8 * s) k = x.1 (21 + 8 * s) k + nI (d k)) (hf : ∀ k, k < 34 → d k + g k ≤ f k) (h2 : ∀ i, m'.1 59 i = m.1 59 i) (h3 : m'.1 50 46 = m.1 50 46) (h4 : m'.1 50 48 = m.1 50 48) : TC x' m' g := h.elim fun a z => by
  refine ⟨fun j k => if j = s then a j k + d k else a j k, fun j k hj hk => ?_, fun k hk => ?_⟩
  · by_cases e : j = s
    · subst e; rw [hd k hk, z.1 j k hj hk, nI_add]; simp only [if_true]
    · rw [h1 j k hj hk e, z.1 j k hj hk]; simp only [e, if_false]
  · rw [fW_cg h2, h3, h4]
    have y := z.2 k hk
    have w := sum4 (a := fun j => a j k) (b := fun j => if j = s then a j k + d k else a j k) hs (fun j _ e => by rw [if_neg e])
    simp only [if_true] at w
    have v := hf k hk
    dsimp only
    omega
theorem rq_lay {x m x' m' : zM} {s q a c : Nat} {so : Int32} {dt : Nat → Int32} (Q : RQ x m c) (A : LAY x m x' m' s q a so dt) (hs : s < 4) (h56 : m.1 50 56 = 0) (hxa : ∀ k, k < 34 → dt k + ct so (nI a) (nI k) = nI (if k = c then 1 else 0)) : RQ x' m' 34 ∧ x'.1 2 3 = x.1 2 3 ∧ m'.1 50 47 = m.1 50 47 := by
  have e56 : m'.1 50 56 = 0 := (A.fm _ _ (by omega) (by omega) (by omega) (by omega)).trans h56
  refine ⟨⟨(by rw [A.fx _ _ (by omega) (by omega) (by omega) (by omega) (by omega), e56, Q.br, h56]), fun z => absurd e56 z, fun j h0 => by rw [A.fx _ _ (by omega) (by omega) (by omega) (by omega) (by omega)]; exact Q.ow j h0, (by rw [A.fm _ _ (by omega) (by omega) (by omega) (by omega)]; exact Q.o1), (by rw [A.fm _ _ (by omega) (by omega) (by omega) (by omega)]; exact Q.is), fun j h0 => by rw [A.fm _ _ (by omega) (by omega) (by omega) (by omega)]; exact Q.s1 j h0, (by rw [A.fm _ _ (by omega) (by omega) (by omega) (by omega)]; exact Q.w0), DNm.cg (m := m) Q.dn (fun j h => A.fm _ _ (by omega) (by omega) (by omega) (by omega)) (A.fm _ _ (by omega) (by omega) (by omega) (by omega)) (A.fm _ _ (by omega) (by omega) (by omega) (by omega)) (A.fm _ _ (by omega) (by omega) (by omega) (by omega)), fun z => absurd e56 z, (Q.tc.lay hs (fun j k _ _ e => A.fx _ _ (by omega) (by omega) (by omega) (by omega) (by omega)) (d := fun k => if k = c then 1 else 0) (fun k hk => by rw [A.xa k hk, hxa k hk]) (fun k hk => by
      simp only [show ¬ 34 = k by omega, if_false]
      by_cases e : k = c
      · rw [if_pos e, if_pos e.symm]; exact Nat.le_refl _
      · rw [if_neg e]; exact Nat.zero_le _) (fun i => A.fm _ _ (by omega) (by omega) (by omega) (by omega)) (A.fm _ _ (by omega) (by omega) (by omega) (by omega)) (A.fm _ _ (by omega) (by omega) (by omega) (by omega)))⟩, A.fx _ _ (by omega) (by omega) (by omega) (by omega) (by omega), A.fm _ _ (by omega) (by omega) (by omega) (by omega)⟩
theorem rq_hide {x m x' m' : zM} {s q a c : Nat} {so : Int32} {dt : Nat → Int32} (P : RPh x m 1 s c) (A : LAY x m x' m' s q a so dt) (hxa : ∀ k, k < 34 → dt k + ct so (nI a) (nI k) = 0) : RQ (bkH x') (toM m') 34 ∧ (bkH x').1 2 3 = x.1 2 3 ∧ (toM m').1 50 47 = m.1 50 47 := by
  have hs := P.t4
  have h59 := P.o1 (by decide)
  have e56 : (toM m').1 50 56 = 0 := by unfold toM; simp (disch := first | decide | omega) only [ui_s, uj_s, ui_o, ui_k, uj_o, uj_k, ui_j, uj_i]
  have X : ∀ r k, r ≠ 19 + 8 * s → r ≠ 20 + 8 * s → r ≠ 21 + 8 * s → r ≠ 22 + 8 * s → r ≠ 23 + 8 * s → k ≠ 7 → k ≠ 17 → (bkH x').1 r k = x.1 r k := fun r k h1 h2 h3 h4 h5 h6 h7 => (bkH_o ⟨h6, h7⟩).trans (A.fx r k h1 h2 h3 h4 h5)
  have M : ∀ r k, r ≠ 60 → r ≠ 62 → r ≠ 63 → r ≠ 64 → r ≠ 69 → (r ≠ 50 ∨ k ≠ 56) → (toM m').1 r k = m.1 r k := fun r k h1 h2 h3 h4 h5 h6 => (toM_o ⟨h5, h6⟩).trans (A.fm r k h1 h2 h3 h4)
  refine ⟨⟨(by rw [e56]; unfold bkH; simp (disch := first | decide | omega) only [ui_s, uj_s, ui_o, ui_k, uj_o, uj_k, ui_j, uj_i]; rfl), fun z => absurd e56 z, fun j h0 => by rw [X _ _ (by omega) (by omega) (by omega) (by omega) (by omega) (by omega) (by omega)]; have z := P.ow j h0; rw [h59] at z; rw [z]; split <;> rfl, (by rw [M _ _ (by omega) (by omega) (by omega) (by omega) (by omega) (by omega)]; exact h59), (by rw [M _ _ (by omega) (by omega) (by omega) (by omega) (by omega) (by omega)]; exact P.is), fun j h0 => by rw [M _ _ (by omega) (by omega) (by omega) (by omega) (by omega) (by omega)]; exact P.s1 rfl j h0, (by rw [M _ _ (by omega) (by omega) (by omega) (by omega) (by omega) (by omega)]; exact P.w0), DNm.cg (m := m) P.dn (fun j h => M _ _ (by omega) (by omega) (by omega) (by omega) (by omega) (by omega)) (M _ _ (by omega) (by omega) (by omega) (by omega) (by omega) (by omega)) (M _ _ (by omega) (by omega) (by omega) (by omega) (by omega) (by omega)) (M _ _ (by omega) (by omega) (by omega) (by omega) (by omega) (by omega)), fun z => absurd e56 z, TC.lay (x := x) (m := m) (f := fun _ => 0) (P.tc.elim fun a z => ⟨a, z.1, fun k hk => by have y := z.2 k hk; dsimp only; omega⟩) hs (fun j k _ _ e => (bkH_r (by omega)).trans (A.fx _ _ (by omega) (by omega) (by omega) (by omega) (by omega))) (d := fun _ => 0) (fun k hk => by rw [bkH_r (by omega), A.xa k hk, hxa k hk]; rfl) (fun k hk => by simp only [show ¬ 34 = k by omega, if_false]; omega) (fun i => M _ _ (by omega) (by omega) (by omega) (by omega) (by omega) (by omega)) (M _ _ (by omega) (by omega) (by omega) (by omega) (by omega) (by omega)) (M _ _ (by omega) (by omega) (by omega) (by omega) (by omega) (by omega))⟩, X _ _ (by omega) (by omega) (by omega) (by omega) (by omega) (by omega) (by omega), M _ _ (by omega) (by omega) (by omega) (by omega) (by omega) (by omega)⟩
theorem cW_up {f : Nat → Int32} {a n k v : Nat} (hv : v < 34) (hk : k < 34) (hf : f (a + n) = nI v) : cW f a k (n + 1) = cW f a k n + (if k = v then 1 else 0) := cW_s hv hk hf
theorem nI_ne1 {n : Nat} (h1 : 1 ≤ n) (h2 : n < 1000) : ¬ nI n + 1 = 1 := by
  rw [nI_s1, show (1 : Int32) = nI 1 from rfl, nI_eq (by omega) (by omega)]
  omega
theorem rp_draw0 {x m : zM} (R : RCl x m) (Q : RQ x m 34) {t n k : Nat} (ht : t < 4) (hk : k < 34) (hn : m.1 50 46 = nI n) (hn2 : n < 122) (hbk : bI 0 4 (m.1 50 48)) (hw : m.1 59 n = nI k) (hfo : x.1 2 3 = m.1 50 47) (hh : ¬ m.1 60 (34 * t + k) = -1) : RPh (dT0 x t n k) (dM0 m t n k) 1 t k := by
  have e5 := R.be t ht
  have hne : ¬ k = 34 := by omega
  have hnI : (nI n).toInt = (n : Int) := nI_toInt (by omega)
  have hnI1 : (nI (n + 1)).toInt = ((n + 1 : Nat) : Int) := nI_toInt (by omega)
  unfold dT0 dM0 pS z_giv
  rw [e5]
  cases hb : decide (m.1 67 t = 0) with
  | true =>
    rw [cond_true, cond_true]
    exact ⟨(by simp (disch := first | decide | omega) only [ui_s, uj_s, ui_o, ui_k, uj_o, uj_k, ui_j, uj_i]; exact hfo), (by simp (disch := first | decide | omega) only [ui_s, uj_s, ui_o, ui_k, uj_o, uj_k, ui_j, uj_i]; rfl), (by simp (disch := first | decide | omega) only [ui_s, uj_s, ui_o, ui_k, uj_o, uj_k, ui_j, uj_i]; rfl), (by simp (disch := first | decide | omega) only [ui_s, uj_s, ui_o, ui_k, uj_o, uj_k, ui_j, uj_i]), (by simp (disch := first | decide | omega) only [ui_s, uj_s, ui_o, ui_k, uj_o, uj_k, ui_j, uj_i]), ht, Or.inl rfl, (by simp (disch := first | decide | omega) only [ui_s, uj_s, ui_o, ui_k, uj_o, uj_k, ui_j, uj_i]; rw [if_neg hne]), (by simp (disch := first | decide | omega) only [ui_s, uj_s, ui_o, ui_k, uj_o, uj_k, ui_j, uj_i]; rw [if_neg hne]), Or.inl hk, fun _ => by simp (disch := first | decide | omega) only [ui_s, uj_s, ui_o, ui_k, uj_o, uj_k, ui_j, uj_i]; rw [if_neg hne], (by simp (disch := first | decide | omega) only [ui_s, uj_s, ui_o, ui_k, uj_o, uj_k, ui_j, uj_i]; exact Q.br), (by simp (disch := first | decide | omega) only [ui_s, uj_s, ui_o, ui_k, uj_o, uj_k, ui_j, uj_i]; exact Q.us), fun _ _ => by simp (disch := first | decide | omega) only [ui_s, uj_s, ui_o, ui_k, uj_o, uj_k, ui_j, uj_i], fun _ => by unfold barM; simp (disch := first | decide | omega) only [ui_s, uj_s, ui_o, ui_k, uj_o, uj_k, ui_j, uj_i]; rfl, fun _ e => absurd e (by omega), fun _ _ => by simp (disch := first | decide | omega) only [ui_s, uj_s, ui_o, ui_k, uj_o, uj_k, ui_j, uj_i]; exact v1_ne hh, fun z => absurd z (by decide), fun s h0 => by simp (disch := first | decide | omega) only [ui_s, uj_s, ui_o, ui_k, uj_o, uj_k, ui_j, uj_i]; rw [Q.ow s h0, Q.o1]; split <;> rfl, fun _ => by simp (disch := first | decide | omega) only [ui_s, uj_s, ui_o, ui_k, uj_o, uj_k, ui_j, uj_i]; exact Q.o1, (by simp (disch := first | decide | omega) only [ui_s, uj_s, ui_o, ui_k, uj_o, uj_k, ui_j, uj_i]; exact Q.is), (by simp (disch := first | decide | omega) only [ui_s, uj_s, ui_o, ui_k, uj_o, uj_k, ui_j, uj_i]; exact Q.s1 t ht), fun _ s h0 => by simp (disch := first | decide | omega) only [ui_s, uj_s, ui_o, ui_k, uj_o, uj_k, ui_j, uj_i]; exact Q.s1 s h0, (by simp (disch := first | decide | omega) only [ui_s, uj_s, ui_o, ui_k, uj_o, uj_k, ui_j, uj_i]; exact Q.w0), (fun s h0 => by
        obtain ⟨n0, q1, q2, q3⟩ := Q.dn s h0
        rw [hn, hnI] at q2
        by_cases e : s = t
        · subst e
          refine ⟨n0 + 1, ?_, ?_, ?_⟩
          · simp (disch := first | decide | omega) only [ui_s, uj_s, ui_o, ui_k, uj_o, uj_k, ui_j, uj_i]; rw [q1, nI_s1]
          · simp (disch := first | decide | omega) only [ui_s, uj_s, ui_o, ui_k, uj_o, uj_k, ui_j, uj_i]; rw [hnI1]; omega
          · simp (disch := first | decide | omega) only [ui_s, uj_s, ui_o, ui_k, uj_o, uj_k, ui_j, uj_i]; intro _; omega
        · refine ⟨n0, ?_, ?_, ?_⟩
          · simp (disch := first | decide | omega) only [ui_s, uj_s, ui_o, ui_k, uj_o, uj_k, ui_j, uj_i]; exact q1
          · simp (disch := first | decide | omega) only [ui_s, uj_s, ui_o, ui_k, uj_o, uj_k, ui_j, uj_i]; rw [hnI1]; omega
          · simp (disch := first | decide | omega) only [ui_s, uj_s, ui_o, ui_k, uj_o, uj_k, ui_j, uj_i]; exact q3), (fun z s h0 => by
        simp (disch := first | decide | omega) only [ui_s, uj_s, ui_o, ui_k, uj_o, uj_k, ui_j, uj_i] at z
        have y := Q.dr z s h0
        by_cases e : s = t
        · subst e
          rw [if_pos ⟨rfl, rfl⟩]
          simp (disch := first | decide | omega) only [ui_s, uj_s, ui_o, ui_k, uj_o, uj_k, ui_j, uj_i]
          rw [y]
        · rw [if_neg (fun z => e z.2)]
          simp (disch := first | decide | omega) only [ui_s, uj_s, ui_o, ui_k, uj_o, uj_k, ui_j, uj_i]
          exact y), (fun z _ z3 _ => by
        simp (disch := first | decide | omega) only [ui_s, uj_s, ui_o, ui_k, uj_o, uj_k, ui_j, uj_i] at z3 ⊢
        obtain ⟨n0, q1, q2, q3⟩ := Q.dn t ht
        rw [hn, hnI] at q2
        rw [q1]
        exact nI_ne1 (q3 z3) (by have := hbk.2; omega)), (Q.tc.elim fun a z => by
        refine ⟨fun s k2 => if s = t ∧ k2 = k then a s k2 + 1 else a s k2, fun s k2 h0 h2 => ?_, fun k2 h2 => ?_⟩
        · by_cases e : s = t
          · subst e
            by_cases e2 : k2 = k
            · subst e2; simp (disch := first | decide | omega) only [ui_s, uj_s, ui_o, ui_k, uj_o, uj_k, ui_j, uj_i]; rw [z.1 s k2 h0 h2]; simp only [and_self, if_true]; exact nI_s1 _
            · simp (disch := first | decide | omega) only [ui_s, uj_s, ui_o, ui_k, uj_o, uj_k, ui_j, uj_i]; rw [if_neg (by omega)]; exact z.1 s k2 h0 h2
          · simp (disch := first | decide | omega) only [ui_s, uj_s, ui_o, ui_k, uj_o, uj_k, ui_j, uj_i]; rw [if_neg (by omega)]; exact z.1 s k2 h0 h2
        · have y := z.2 k2 h2
          simp only [show ¬ 34 = k2 by omega, if_false] at y
          rw [if_neg (by omega), fW_cg (m := m) (fun i => by simp (disch := first | decide | omega) only [ui_s, uj_s, ui_o, ui_k, uj_o, uj_k, ui_j, uj_i])]
          simp (disch := first | decide | omega) only [ui_s, uj_s, ui_o, ui_k, uj_o, uj_k, ui_j, uj_i]
          rw [hn, nI_clamp (by omega)] at y
          rw [nI_clamp (by omega), cW_up (f := fW m) (a := 0) (v := k) hk h2 (by rw [Nat.zero_add]; exact hw)]
          have w := sum4 (a := fun s => a s k2) (b := fun s => if s = t ∧ k2 = k then a s k2 + 1 else a s k2) ht (fun s _ e => by rw [if_neg (by omega)])
          by_cases e : k2 = k
          · subst e
            simp only [and_true, if_true] at w ⊢
            omega
          · simp only [e, and_false, if_false] at w ⊢
            omega)⟩
  | false =>
    rw [cond_false, cond_false]
    exact ⟨(by simp (disch := first | decide | omega) only [ui_s, uj_s, ui_o, ui_k, uj_o, uj_k, ui_j, uj_i]; exact hfo), (by simp (disch := first | decide | omega) only [ui_s, uj_s, ui_o, ui_k, uj_o, uj_k, ui_j, uj_i]; rfl), (by simp (disch := first | decide | omega) only [ui_s, uj_s, ui_o, ui_k, uj_o, uj_k, ui_j, uj_i]; rfl), (by simp (disch := first | decide | omega) only [ui_s, uj_s, ui_o, ui_k, uj_o, uj_k, ui_j, uj_i]), (by simp (disch := first | decide | omega) only [ui_s, uj_s, ui_o, ui_k, uj_o, uj_k, ui_j, uj_i]), ht, Or.inl rfl, (by simp (disch := first | decide | omega) only [ui_s, uj_s, ui_o, ui_k, uj_o, uj_k, ui_j, uj_i]; rw [if_neg hne]), (by simp (disch := first | decide | omega) only [ui_s, uj_s, ui_o, ui_k, uj_o, uj_k, ui_j, uj_i]; rw [if_neg hne]), Or.inl hk, fun _ => by simp (disch := first | decide | omega) only [ui_s, uj_s, ui_o, ui_k, uj_o, uj_k, ui_j, uj_i]; rw [if_neg hne], (by simp (disch := first | decide | omega) only [ui_s, uj_s, ui_o, ui_k, uj_o, uj_k, ui_j, uj_i]; exact Q.br), (by simp (disch := first | decide | omega) only [ui_s, uj_s, ui_o, ui_k, uj_o, uj_k, ui_j, uj_i]; exact Q.us), fun _ _ => by simp (disch := first | decide | omega) only [ui_s, uj_s, ui_o, ui_k, uj_o, uj_k, ui_j, uj_i], fun _ => by unfold barM; simp (disch := first | decide | omega) only [ui_s, uj_s, ui_o, ui_k, uj_o, uj_k, ui_j, uj_i]; rfl, fun _ e => absurd e (by omega), fun _ _ => by simp (disch := first | decide | omega) only [ui_s, uj_s, ui_o, ui_k, uj_o, uj_k, ui_j, uj_i]; exact v1_ne hh, fun z => absurd z (by decide), fun s h0 => by simp (disch := first | decide | omega) only [ui_s, uj_s, ui_o, ui_k, uj_o, uj_k, ui_j, uj_i]; rw [Q.ow s h0, Q.o1]; split <;> rfl, fun _ => by simp (disch := first | decide | omega) only [ui_s, uj_s, ui_o, ui_k, uj_o, uj_k, ui_j, uj_i]; exact Q.o1, (by simp (disch := first | decide | omega) only [ui_s, uj_s, ui_o, ui_k, uj_o, uj_k, ui_j, uj_i]; exact Q.is), (by simp (disch := first | decide | omega) only [ui_s, uj_s, ui_o, ui_k, uj_o, uj_k, ui_j, uj_i]; exact Q.s1 t ht), fun _ s h0 => by simp (disch := first | decide | omega) only [ui_s, uj_s, ui_o, ui_k, uj_o, uj_k, ui_j, uj_i]; exact Q.s1 s h0, (by simp (disch := first | decide | omega) only [ui_s, uj_s, ui_o, ui_k, uj_o, uj_k, ui_j, uj_i]; exact Q.w0), (fun s h0 => by
        obtain ⟨n0, q1, q2, q3⟩ := Q.dn s h0
        rw [hn, hnI] at q2
        by_cases e : s = t
        · subst e
          refine ⟨n0 + 1, ?_, ?_, ?_⟩
          · simp (disch := first | decide | omega) only [ui_s, uj_s, ui_o, ui_k, uj_o, uj_k, ui_j, uj_i]; rw [q1, nI_s1]
          · simp (disch := first | decide | omega) only [ui_s, uj_s, ui_o, ui_k, uj_o, uj_k, ui_j, uj_i]; rw [hnI1]; omega
          · simp (disch := first | decide | omega) only [ui_s, uj_s, ui_o, ui_k, uj_o, uj_k, ui_j, uj_i]; intro _; omega
        · refine ⟨n0, ?_, ?_, ?_⟩
          · simp (disch := first | decide | omega) only [ui_s, uj_s, ui_o, ui_k, uj_o, uj_k, ui_j, uj_i]; exact q1
          · simp (disch := first | decide | omega) only [ui_s, uj_s, ui_o, ui_k, uj_o, uj_k, ui_j, uj_i]; rw [hnI1]; omega
          · simp (disch := first | decide | omega) only [ui_s, uj_s, ui_o, ui_k, uj_o, uj_k, ui_j, uj_i]; exact q3), (fun z s h0 => by
        simp (disch := first | decide | omega) only [ui_s, uj_s, ui_o, ui_k, uj_o, uj_k, ui_j, uj_i] at z
        have y := Q.dr z s h0
        by_cases e : s = t
        · subst e
          rw [if_pos ⟨rfl, rfl⟩]
          simp (disch := first | decide | omega) only [ui_s, uj_s, ui_o, ui_k, uj_o, uj_k, ui_j, uj_i]
          rw [y]
        · rw [if_neg (fun z => e z.2)]
          simp (disch := first | decide | omega) only [ui_s, uj_s, ui_o, ui_k, uj_o, uj_k, ui_j, uj_i]
          exact y), (fun z _ z3 _ => by
        simp (disch := first | decide | omega) only [ui_s, uj_s, ui_o, ui_k, uj_o, uj_k, ui_j, uj_i] at z3 ⊢
        obtain ⟨n0, q1, q2, q3⟩ := Q.dn t ht
        rw [hn, hnI] at q2
        rw [q1]
        exact nI_ne1 (q3 z3) (by have := hbk.2; omega)), (Q.tc.elim fun a z => by
        refine ⟨fun s k2 => if s = t ∧ k2 = k then a s k2 + 1 else a s k2, fun s k2 h0 h2 => ?_, fun k2 h2 => ?_⟩
        · by_cases e : s = t
          · subst e
            by_cases e2 : k2 = k
            · subst e2; simp (disch := first | decide | omega) only [ui_s, uj_s, ui_o, ui_k, uj_o, uj_k, ui_j, uj_i]; rw [z.1 s k2 h0 h2]; simp only [and_self, if_true]; exact nI_s1 _
            · simp (disch := first | decide | omega) only [ui_s, uj_s, ui_o, ui_k, uj_o, uj_k, ui_j, uj_i]; rw [if_neg (by omega)]; exact z.1 s k2 h0 h2
          · simp (disch := first | decide | omega) only [ui_s, uj_s, ui_o, ui_k, uj_o, uj_k, ui_j, uj_i]; rw [if_neg (by omega)]; exact z.1 s k2 h0 h2
        · have y := z.2 k2 h2
          simp only [show ¬ 34 = k2 by omega, if_false] at y
          rw [if_neg (by omega), fW_cg (m := m) (fun i => by simp (disch := first | decide | omega) only [ui_s, uj_s, ui_o, ui_k, uj_o, uj_k, ui_j, uj_i])]
          simp (disch := first | decide | omega) only [ui_s, uj_s, ui_o, ui_k, uj_o, uj_k, ui_j, uj_i]
          rw [hn, nI_clamp (by omega)] at y
          rw [nI_clamp (by omega), cW_up (f := fW m) (a := 0) (v := k) hk h2 (by rw [Nat.zero_add]; exact hw)]
          have w := sum4 (a := fun s => a s k2) (b := fun s => if s = t ∧ k2 = k then a s k2 + 1 else a s k2) ht (fun s _ e => by rw [if_neg (by omega)])
          by_cases e : k2 = k
          · subst e
            simp only [and_true, if_true] at w ⊢
            omega
          · simp only [e, and_false, if_false] at w ⊢
            omega)⟩
theorem rp_draw1 {x m : zM} (R : RCl x m) (Q : RQ x m 34) {t n k : Nat} (ht : t < 4) (hk : k < 34) (hn : m.1 50 48 = nI n) (hn2 : n < 4) (hnx : bI 0 122 (m.1 50 46)) (hw : m.1 59 (122 + n) = nI k) (h47 : m.1 50 47 = nI (n + 1)) (hh : ¬ m.1 60 (34 * t + k) = -1) : RPh (dT1 x t n k) (dM1 m t n k) 1 t k := by
  have e5 := R.be t ht
  have hne : ¬ k = 34 := by omega
  have hnI : (nI n).toInt = (n : Int) := nI_toInt (by omega)
  have hnI1 : (nI (n + 1)).toInt = ((n + 1 : Nat) : Int) := nI_toInt (by omega)
  unfold dT1 dM1 pS z_giv
  rw [e5]
  cases hb : decide (m.1 67 t = 0) with
  | true =>
    rw [cond_true, cond_true]
    exact ⟨(by simp (disch := first | decide | omega) only [ui_s, uj_s, ui_o, ui_k, uj_o, uj_k, ui_j, uj_i]; exact h47.symm), (by simp (disch := first | decide | omega) only [ui_s, uj_s, ui_o, ui_k, uj_o, uj_k, ui_j, uj_i]; rfl), (by simp (disch := first | decide | omega) only [ui_s, uj_s, ui_o, ui_k, uj_o, uj_k, ui_j, uj_i]; rfl), (by simp (disch := first | decide | omega) only [ui_s, uj_s, ui_o, ui_k, uj_o, uj_k, ui_j, uj_i]), (by simp (disch := first | decide | omega) only [ui_s, uj_s, ui_o, ui_k, uj_o, uj_k, ui_j, uj_i]), ht, Or.inl rfl, (by simp (disch := first | decide | omega) only [ui_s, uj_s, ui_o, ui_k, uj_o, uj_k, ui_j, uj_i]; rw [if_neg hne]), (by simp (disch := first | decide | omega) only [ui_s, uj_s, ui_o, ui_k, uj_o, uj_k, ui_j, uj_i]; rw [if_neg hne]), Or.inl hk, fun _ => by simp (disch := first | decide | omega) only [ui_s, uj_s, ui_o, ui_k, uj_o, uj_k, ui_j, uj_i]; rw [if_neg hne], (by simp (disch := first | decide | omega) only [ui_s, uj_s, ui_o, ui_k, uj_o, uj_k, ui_j, uj_i]; exact Q.br), (by simp (disch := first | decide | omega) only [ui_s, uj_s, ui_o, ui_k, uj_o, uj_k, ui_j, uj_i]; exact Q.us), fun _ _ => by simp (disch := first | decide | omega) only [ui_s, uj_s, ui_o, ui_k, uj_o, uj_k, ui_j, uj_i], fun _ => by unfold barM; simp (disch := first | decide | omega) only [ui_s, uj_s, ui_o, ui_k, uj_o, uj_k, ui_j, uj_i]; rfl, fun _ e => absurd e (by omega), fun _ _ => by simp (disch := first | decide | omega) only [ui_s, uj_s, ui_o, ui_k, uj_o, uj_k, ui_j, uj_i]; exact v1_ne hh, fun z => absurd z (by decide), fun s h0 => by simp (disch := first | decide | omega) only [ui_s, uj_s, ui_o, ui_k, uj_o, uj_k, ui_j, uj_i]; rw [Q.ow s h0, Q.o1]; split <;> rfl, fun _ => by simp (disch := first | decide | omega) only [ui_s, uj_s, ui_o, ui_k, uj_o, uj_k, ui_j, uj_i]; exact Q.o1, (by simp (disch := first | decide | omega) only [ui_s, uj_s, ui_o, ui_k, uj_o, uj_k, ui_j, uj_i]; exact Q.is), (by simp (disch := first | decide | omega) only [ui_s, uj_s, ui_o, ui_k, uj_o, uj_k, ui_j, uj_i]; exact Q.s1 t ht), fun _ s h0 => by simp (disch := first | decide | omega) only [ui_s, uj_s, ui_o, ui_k, uj_o, uj_k, ui_j, uj_i]; exact Q.s1 s h0, (by simp (disch := first | decide | omega) only [ui_s, uj_s, ui_o, ui_k, uj_o, uj_k, ui_j, uj_i]; exact Q.w0), (fun s h0 => by
        obtain ⟨n0, q1, q2, q3⟩ := Q.dn s h0
        rw [hn, hnI] at q2
        by_cases e : s = t
        · subst e
          refine ⟨n0 + 1, ?_, ?_, ?_⟩
          · simp (disch := first | decide | omega) only [ui_s, uj_s, ui_o, ui_k, uj_o, uj_k, ui_j, uj_i]; rw [q1, nI_s1]
          · simp (disch := first | decide | omega) only [ui_s, uj_s, ui_o, ui_k, uj_o, uj_k, ui_j, uj_i]; rw [hnI1]; omega
          · simp (disch := first | decide | omega) only [ui_s, uj_s, ui_o, ui_k, uj_o, uj_k, ui_j, uj_i]; intro _; omega
        · refine ⟨n0, ?_, ?_, ?_⟩
          · simp (disch := first | decide | omega) only [ui_s, uj_s, ui_o, ui_k, uj_o, uj_k, ui_j, uj_i]; exact q1
          · simp (disch := first | decide | omega) only [ui_s, uj_s, ui_o, ui_k, uj_o, uj_k, ui_j, uj_i]; rw [hnI1]; omega
          · simp (disch := first | decide | omega) only [ui_s, uj_s, ui_o, ui_k, uj_o, uj_k, ui_j, uj_i]; exact q3), (fun z s h0 => by
        simp (disch := first | decide | omega) only [ui_s, uj_s, ui_o, ui_k, uj_o, uj_k, ui_j, uj_i] at z
        have y := Q.dr z s h0
        by_cases e : s = t
        · subst e
          rw [if_pos ⟨rfl, rfl⟩]
          simp (disch := first | decide | omega) only [ui_s, uj_s, ui_o, ui_k, uj_o, uj_k, ui_j, uj_i]
          rw [y]
        · rw [if_neg (fun z => e z.2)]
          simp (disch := first | decide | omega) only [ui_s, uj_s, ui_o, ui_k, uj_o, uj_k, ui_j, uj_i]
          exact y), (fun z _ z3 _ => by
        simp (disch := first | decide | omega) only [ui_s, uj_s, ui_o, ui_k, uj_o, uj_k, ui_j, uj_i] at z3 ⊢
        obtain ⟨n0, q1, q2, q3⟩ := Q.dn t ht
        rw [hn, hnI] at q2
        rw [q1]
        exact nI_ne1 (q3 z3) (by have := hnx.2; omega)), (Q.tc.elim fun a z => by
        refine ⟨fun s k2 => if s = t ∧ k2 = k then a s k2 + 1 else a s k2, fun s k2 h0 h2 => ?_, fun k2 h2 => ?_⟩
        · by_cases e : s = t
          · subst e
            by_cases e2 : k2 = k
            · subst e2; simp (disch := first | decide | omega) only [ui_s, uj_s, ui_o, ui_k, uj_o, uj_k, ui_j, uj_i]; rw [z.1 s k2 h0 h2]; simp only [and_self, if_true]; exact nI_s1 _
            · simp (disch := first | decide | omega) only [ui_s, uj_s, ui_o, ui_k, uj_o, uj_k, ui_j, uj_i]; rw [if_neg (by omega)]; exact z.1 s k2 h0 h2
          · simp (disch := first | decide | omega) only [ui_s, uj_s, ui_o, ui_k, uj_o, uj_k, ui_j, uj_i]; rw [if_neg (by omega)]; exact z.1 s k2 h0 h2
        · have y := z.2 k2 h2
          simp only [show ¬ 34 = k2 by omega, if_false] at y
          rw [if_neg (by omega), fW_cg (m := m) (fun i => by simp (disch := first | decide | omega) only [ui_s, uj_s, ui_o, ui_k, uj_o, uj_k, ui_j, uj_i])]
          simp (disch := first | decide | omega) only [ui_s, uj_s, ui_o, ui_k, uj_o, uj_k, ui_j, uj_i]
          rw [hn, nI_clamp (by omega)] at y
          rw [nI_clamp (by omega), cW_up (f := fW m) (a := 122) (v := k) hk h2 (hw)]
          have w := sum4 (a := fun s => a s k2) (b := fun s => if s = t ∧ k2 = k then a s k2 + 1 else a s k2) ht (fun s _ e => by rw [if_neg (by omega)])
          by_cases e : k2 = k
          · subst e
            simp only [and_true, if_true] at w ⊢
            omega
          · simp only [e, and_false, if_false] at w ⊢
            omega)⟩
  | false =>
    rw [cond_false, cond_false]
    exact ⟨(by simp (disch := first | decide | omega) only [ui_s, uj_s, ui_o, ui_k, uj_o, uj_k, ui_j, uj_i]; exact h47.symm), (by simp (disch := first | decide | omega) only [ui_s, uj_s, ui_o, ui_k, uj_o, uj_k, ui_j, uj_i]; rfl), (by simp (disch := first | decide | omega) only [ui_s, uj_s, ui_o, ui_k, uj_o, uj_k, ui_j, uj_i]; rfl), (by simp (disch := first | decide | omega) only [ui_s, uj_s, ui_o, ui_k, uj_o, uj_k, ui_j, uj_i]), (by simp (disch := first | decide | omega) only [ui_s, uj_s, ui_o, ui_k, uj_o, uj_k, ui_j, uj_i]), ht, Or.inl rfl, (by simp (disch := first | decide | omega) only [ui_s, uj_s, ui_o, ui_k, uj_o, uj_k, ui_j, uj_i]; rw [if_neg hne]), (by simp (disch := first | decide | omega) only [ui_s, uj_s, ui_o, ui_k, uj_o, uj_k, ui_j, uj_i]; rw [if_neg hne]), Or.inl hk, fun _ => by simp (disch := first | decide | omega) only [ui_s, uj_s, ui_o, ui_k, uj_o, uj_k, ui_j, uj_i]; rw [if_neg hne], (by simp (disch := first | decide | omega) only [ui_s, uj_s, ui_o, ui_k, uj_o, uj_k, ui_j, uj_i]; exact Q.br), (by simp (disch := first | decide | omega) only [ui_s, uj_s, ui_o, ui_k, uj_o, uj_k, ui_j, uj_i]; exact Q.us), fun _ _ => by simp (disch := first | decide | omega) only [ui_s, uj_s, ui_o, ui_k, uj_o, uj_k, ui_j, uj_i], fun _ => by unfold barM; simp (disch := first | decide | omega) only [ui_s, uj_s, ui_o, ui_k, uj_o, uj_k, ui_j, uj_i]; rfl, fun _ e => absurd e (by omega), fun _ _ => by simp (disch := first | decide | omega) only [ui_s, uj_s, ui_o, ui_k, uj_o, uj_k, ui_j, uj_i]; exact v1_ne hh, fun z => absurd z (by decide), fun s h0 => by simp (disch := first | decide | omega) only [ui_s, uj_s, ui_o, ui_k, uj_o, uj_k, ui_j, uj_i]; rw [Q.ow s h0, Q.o1]; split <;> rfl, fun _ => by simp (disch := first | decide | omega) only [ui_s, uj_s, ui_o, ui_k, uj_o, uj_k, ui_j, uj_i]; exact Q.o1, (by simp (disch := first | decide | omega) only [ui_s, uj_s, ui_o, ui_k, uj_o, uj_k, ui_j, uj_i]; exact Q.is), (by simp (disch := first | decide | omega) only [ui_s, uj_s, ui_o, ui_k, uj_o, uj_k, ui_j, uj_i]; exact Q.s1 t ht), fun _ s h0 => by simp (disch := first | decide | omega) only [ui_s, uj_s, ui_o, ui_k, uj_o, uj_k, ui_j, uj_i]; exact Q.s1 s h0, (by simp (disch := first | decide | omega) only [ui_s, uj_s, ui_o, ui_k, uj_o, uj_k, ui_j, uj_i]; exact Q.w0), (fun s h0 => by
        obtain ⟨n0, q1, q2, q3⟩ := Q.dn s h0
        rw [hn, hnI] at q2
        by_cases e : s = t
        · subst e
          refine ⟨n0 + 1, ?_, ?_, ?_⟩
          · simp (disch := first | decide | omega) only [ui_s, uj_s, ui_o, ui_k, uj_o, uj_k, ui_j, uj_i]; rw [q1, nI_s1]
          · simp (disch := first | decide | omega) only [ui_s, uj_s, ui_o, ui_k, uj_o, uj_k, ui_j, uj_i]; rw [hnI1]; omega
          · simp (disch := first | decide | omega) only [ui_s, uj_s, ui_o, ui_k, uj_o, uj_k, ui_j, uj_i]; intro _; omega
        · refine ⟨n0, ?_, ?_, ?_⟩
          · simp (disch := first | decide | omega) only [ui_s, uj_s, ui_o, ui_k, uj_o, uj_k, ui_j, uj_i]; exact q1
          · simp (disch := first | decide | omega) only [ui_s, uj_s, ui_o, ui_k, uj_o, uj_k, ui_j, uj_i]; rw [hnI1]; omega
          · simp (disch := first | decide | omega) only [ui_s, uj_s, ui_o, ui_k, uj_o, uj_k, ui_j, uj_i]; exact q3), (fun z s h0 => by
        simp (disch := first | decide | omega) only [ui_s, uj_s, ui_o, ui_k, uj_o, uj_k, ui_j, uj_i] at z
        have y := Q.dr z s h0
        by_cases e : s = t
        · subst e
          rw [if_pos ⟨rfl, rfl⟩]
          simp (disch := first | decide | omega) only [ui_s, uj_s, ui_o, ui_k, uj_o, uj_k, ui_j, uj_i]
          rw [y]
        · rw [if_neg (fun z => e z.2)]
          simp (disch := first | decide | omega) only [ui_s, uj_s, ui_o, ui_k, uj_o, uj_k, ui_j, uj_i]
          exact y), (fun z _ z3 _ => by
        simp (disch := first | decide | omega) only [ui_s, uj_s, ui_o, ui_k, uj_o, uj_k, ui_j, uj_i] at z3 ⊢
        obtain ⟨n0, q1, q2, q3⟩ := Q.dn t ht
        rw [hn, hnI] at q2
        rw [q1]
        exact nI_ne1 (q3 z3) (by have := hnx.2; omega)), (Q.tc.elim fun a z => by
        refine ⟨fun s k2 => if s = t ∧ k2 = k then a s k2 + 1 else a s k2, fun s k2 h0 h2 => ?_, fun k2 h2 => ?_⟩
        · by_cases e : s = t
          · subst e
            by_cases e2 : k2 = k
            · subst e2; simp (disch := first | decide | omega) only [ui_s, uj_s, ui_o, ui_k, uj_o, uj_k, ui_j, uj_i]; rw [z.1 s k2 h0 h2]; simp only [and_self, if_true]; exact nI_s1 _
            · simp (disch := first | decide | omega) only [ui_s, uj_s, ui_o, ui_k, uj_o, uj_k, ui_j, uj_i]; rw [if_neg (by omega)]; exact z.1 s k2 h0 h2
          · simp (disch := first | decide | omega) only [ui_s, uj_s, ui_o, ui_k, uj_o, uj_k, ui_j, uj_i]; rw [if_neg (by omega)]; exact z.1 s k2 h0 h2
        · have y := z.2 k2 h2
          simp only [show ¬ 34 = k2 by omega, if_false] at y
          rw [if_neg (by omega), fW_cg (m := m) (fun i => by simp (disch := first | decide | omega) only [ui_s, uj_s, ui_o, ui_k, uj_o, uj_k, ui_j, uj_i])]
          simp (disch := first | decide | omega) only [ui_s, uj_s, ui_o, ui_k, uj_o, uj_k, ui_j, uj_i]
          rw [hn, nI_clamp (by omega)] at y
          rw [nI_clamp (by omega), cW_up (f := fW m) (a := 122) (v := k) hk h2 (hw)]
          have w := sum4 (a := fun s => a s k2) (b := fun s => if s = t ∧ k2 = k then a s k2 + 1 else a s k2) ht (fun s _ e => by rw [if_neg (by omega)])
          by_cases e : k2 = k
          · subst e
            simp only [and_true, if_true] at w ⊢
            omega
          · simp only [e, and_false, if_false] at w ⊢
            omega)⟩
/-! within a hand: claimed, added, said -/
set_option maxRecDepth 8000
def clX (y : zM) (s : Nat) (bs : Int64) : zM := z_uj (z_ui (z_ui (z_ui y 0 8 (nI s)) 0 7 1) 0 15 (-1)) 0 18 bs
def clN (n : zM) (s : Nat) : zM := z_ui (z_ui (z_ui (z_ui (z_ui n 50 45 (nI s)) 50 44 1) 50 49 (-1)) 50 57 1) 50 58 0
theorem rc_claimed {x m : zM} (R : RCl x m) {s : Nat} {bs : Int64} : RCl (clX x s bs) (clN m s) := by
  unfold clX clN
  refine R.cg2 (q2_xj (q2_xu (q2_xu (q2_xu (q2_x _) ?_) ?_) ?_) ?_) (q2_mu (q2_mu (q2_mu (q2_mu (q2_mu (q2_m _) ?_) ?_) ?_) ?_) ?_) <;> (first | unfold gX2 | unfold gM2) <;> omega
theorem rp_claimed {x m : zM} (Q : RQ x m 34) {s : Nat} (hs : s < 4) {bs : Int64} (hfo : x.1 2 3 = m.1 50 47) (h56 : m.1 50 56 = 0) (hbs : bs = (((1 : Int64) <<< ((m.1 50 50).toInt64 &&& 63)) ||| (bif decide (m.1 50 51 = -1) then (0 : Int64) else 1 <<< ((m.1 50 51).toInt64 &&& 63)))) (hbn : BN m) : RPh (clX x s bs) (clN m s) 1 s 34 := by
  unfold clX clN
  exact ⟨(by simp (disch := first | decide | omega) only [ui_s, uj_s, ui_o, ui_k, uj_o, uj_k, ui_j, uj_i]; exact hfo), (by simp (disch := first | decide | omega) only [ui_s, uj_s, ui_o, ui_k, uj_o, uj_k, ui_j, uj_i]; rfl), (by simp (disch := first | decide | omega) only [ui_s, uj_s, ui_o, ui_k, uj_o, uj_k, ui_j, uj_i]; rfl), (by simp (disch := first | decide | omega) only [ui_s, uj_s, ui_o, ui_k, uj_o, uj_k, ui_j, uj_i]), (by simp (disch := first | decide | omega) only [ui_s, uj_s, ui_o, ui_k, uj_o, uj_k, ui_j, uj_i]), hs, Or.inl rfl, (by simp (disch := first | decide | omega) only [ui_s, uj_s, ui_o, ui_k, uj_o, uj_k, ui_j, uj_i]; rfl), (by simp (disch := first | decide | omega) only [ui_s, uj_s, ui_o, ui_k, uj_o, uj_k, ui_j, uj_i]; rfl), Or.inr ⟨rfl, rfl⟩, fun _ => by simp (disch := first | decide | omega) only [ui_s, uj_s, ui_o, ui_k, uj_o, uj_k, ui_j, uj_i]; rfl, (by simp (disch := first | decide | omega) only [ui_s, uj_s, ui_o, ui_k, uj_o, uj_k, ui_j, uj_i]; exact Q.br), (by simp (disch := first | decide | omega) only [ui_s, uj_s, ui_o, ui_k, uj_o, uj_k, ui_j, uj_i]; exact Q.us), fun _ z => absurd z (by decide), fun _ => by unfold barM; simp (disch := first | decide | omega) only [ui_s, uj_s, ui_o, ui_k, uj_o, uj_k, ui_j, uj_i]; exact hbs, fun _ _ => ⟨by unfold BN; simp (disch := first | decide | omega) only [ui_s, uj_s, ui_o, ui_k, uj_o, uj_k, ui_j, uj_i]; exact hbn, by simp (disch := first | decide | omega) only [ui_s, uj_s, ui_o, ui_k, uj_o, uj_k, ui_j, uj_i]; exact h56⟩, fun _ e => absurd e (by omega), fun z => absurd z (by decide), fun j h0 => by simp (disch := first | decide | omega) only [ui_s, uj_s, ui_o, ui_k, uj_o, uj_k, ui_j, uj_i]; rw [Q.ow j h0, Q.o1]; split <;> rfl, fun _ => by simp (disch := first | decide | omega) only [ui_s, uj_s, ui_o, ui_k, uj_o, uj_k, ui_j, uj_i]; exact Q.o1, (by simp (disch := first | decide | omega) only [ui_s, uj_s, ui_o, ui_k, uj_o, uj_k, ui_j, uj_i]; exact Q.is), (by simp (disch := first | decide | omega) only [ui_s, uj_s, ui_o, ui_k, uj_o, uj_k, ui_j, uj_i]; exact Q.s1 s hs), fun _ j h0 => by simp (disch := first | decide | omega) only [ui_s, uj_s, ui_o, ui_k, uj_o, uj_k, ui_j, uj_i]; exact Q.s1 j h0, (by simp (disch := first | decide | omega) only [ui_s, uj_s, ui_o, ui_k, uj_o, uj_k, ui_j, uj_i]; exact Q.w0), DNm.cg (m := m) Q.dn (fun j h => by simp (disch := first | decide | omega) only [ui_s, uj_s, ui_o, ui_k, uj_o, uj_k, ui_j, uj_i]) (by simp (disch := first | decide | omega) only [ui_s, uj_s, ui_o, ui_k, uj_o, uj_k, ui_j, uj_i]) (by simp (disch := first | decide | omega) only [ui_s, uj_s, ui_o, ui_k, uj_o, uj_k, ui_j, uj_i]) (by simp (disch := first | decide | omega) only [ui_s, uj_s, ui_o, ui_k, uj_o, uj_k, ui_j, uj_i]), fun z => absurd (by simp (disch := first | decide | omega) only [ui_s, uj_s, ui_o, ui_k, uj_o, uj_k, ui_j, uj_i]; exact h56) z, fun _ _ _ z => absurd z (by decide), ((Q.tc.cg (x' := clX x s bs) (m' := clN m s) (fun j k _ _ => by unfold clX; simp (disch := first | decide | omega) only [ui_s, uj_s, ui_o, ui_k, uj_o, uj_k, ui_j, uj_i]) (fun i => by unfold clN; simp (disch := first | decide | omega) only [ui_s, uj_s, ui_o, ui_k, uj_o, uj_k, ui_j, uj_i]) (by unfold clN; simp (disch := first | decide | omega) only [ui_s, uj_s, ui_o, ui_k, uj_o, uj_k, ui_j, uj_i]) (by unfold clN; simp (disch := first | decide | omega) only [ui_s, uj_s, ui_o, ui_k, uj_o, uj_k, ui_j, uj_i])).elim fun a z => ⟨a, z.1, fun k hk => by
      have y := z.2 k hk
      simp only [show ¬ 34 = k by omega, if_false] at y
      rw [if_neg (by omega)]
      exact y⟩)⟩
def adX (x : zM) (t k i : Nat) : zM := z_ui (z_ui (z_ui (z_ui (z_ui x (22 + 8 * t) i 2) (20 + 8 * t) k ((x.1 (20 + 8 * t) k) - 1)) (19 + 8 * t) 5 ((x.1 (19 + 8 * t) 5) - 1)) 0 15 (nI k)) 0 7 3
def adM (m : zM) (t k i : Nat) : zM := z_ui (z_ui (z_giv (z_ui m 62 (4 * t + i) 2) t k (-1)) 50 49 (nI k)) 50 44 3
theorem sub1 (x : Int32) : x - 1 = x + -1 := i2 (by decide)
theorem ofv_3 {w k : Int32} {so so' lo : Nat → Int32} {i : Nat} : ∀ n, (∀ j, j ≠ i → so' j = so j) → so i = 1 → so' i = 2 → lo i = k → ofv w so' lo k n = (if i < n then ofv w so lo k n + 1 else ofv w so lo k n)
  | 0, _, _, _, _ => rfl
  | n + 1, h, h1, h2, h3 => by
    show ofv w so' lo k n + ct (so' n) (lo n) k = _
    rw [ofv_3 n h h1 h2 h3, show ofv w so lo k (n + 1) = ofv w so lo k n + ct (so n) (lo n) k from rfl]
    by_cases e : n = i
    · rw [if_neg (by omega), if_pos (by omega), e, h1, h2, h3, show ct 2 k k = 4 from by unfold ct; rw [if_neg (by decide), if_pos rfl, if_neg (by decide)], show ct 1 k k = 3 from by unfold ct; rw [if_neg (by decide), if_pos rfl, if_pos rfl], Int32.add_assoc]
      rfl
    · rw [h n e]
      by_cases e2 : i < n
      · rw [if_pos e2, if_pos (by omega), Int32.add_assoc, Int32.add_comm 1, ← Int32.add_assoc]
      · rw [if_neg e2, if_neg (by omega)]
theorem ofv_4 {w k : Int32} {so so' lo : Nat → Int32} {i : Nat} : ∀ n, (∀ j, j ≠ i → so' j = so j) → so i = 1 → so' i = 2 → ¬ lo i = k → ofv w so' lo k n = ofv w so lo k n
  | 0, _, _, _, _ => rfl
  | n + 1, h, h1, h2, h3 => by
    show ofv w so' lo k n + ct (so' n) (lo n) k = ofv w so lo k n + ct (so n) (lo n) k
    rw [ofv_4 n h h1 h2 h3]
    by_cases e : n = i
    · rw [e, h1, h2, show ct 2 (lo i) k = 0 from by unfold ct; rw [if_neg (by decide), if_neg h3], show ct 1 (lo i) k = 0 from by unfold ct; rw [if_neg (by decide), if_neg h3]]
    · rw [h n e]
theorem rc_added {x m : zM} (R : RCl x m) {t k i q : Nat} (ht : t < 4) (hk : k < 34) (hq : q ≤ 4) (hi : i < q) (e64 : m.1 64 t = nI q) (h62 : m.1 62 (4 * t + i) = 1) (h63 : m.1 63 (4 * t + i) = nI k) (hm4 : ∀ j, j < 4 → (m.1 64 j).toNatClampNeg ≤ 4) : RCl (adX x t k i) (adM m t k i) := by
  have e62 : ∀ j, j < 4 → j ≠ t → ∀ n, n < 4 → (adM m t k i).1 62 (4 * j + n) = m.1 62 (4 * j + n) := fun j _ _ n _ => by unfold adM z_giv; simp (disch := first | decide | omega) only [ui_s, uj_s, ui_o, ui_k, uj_o, uj_k, ui_j, uj_i]
  have e62t : ∀ n, n ≠ i → (adM m t k i).1 62 (4 * t + n) = m.1 62 (4 * t + n) := fun n _ => by unfold adM z_giv; simp (disch := first | decide | omega) only [ui_s, uj_s, ui_o, ui_k, uj_o, uj_k, ui_j, uj_i]
  have e62i : (adM m t k i).1 62 (4 * t + i) = 2 := by unfold adM z_giv; simp (disch := first | decide | omega) only [ui_s, uj_s, ui_o, ui_k, uj_o, uj_k, ui_j, uj_i]
  have e63 : ∀ n, (adM m t k i).1 63 n = m.1 63 n := fun n => by unfold adM z_giv; simp (disch := first | decide | omega) only [ui_s, uj_s, ui_o, ui_k, uj_o, uj_k, ui_j, uj_i]
  have e60 : ∀ j n, n < 34 → (¬ (j = t ∧ n = k)) → (adM m t k i).1 60 (34 * j + n) = m.1 60 (34 * j + n) := fun j n _ _ => by unfold adM z_giv; simp (disch := first | decide | omega) only [ui_s, uj_s, ui_o, ui_k, uj_o, uj_k, ui_j, uj_i]
  have e60t : (adM m t k i).1 60 (34 * t + k) = m.1 60 (34 * t + k) + -1 := by unfold adM z_giv; simp (disch := first | decide | omega) only [ui_s, uj_s, ui_o, ui_k, uj_o, uj_k, ui_j, uj_i]
  have e64' : ∀ j, (adM m t k i).1 64 j = m.1 64 j := fun j => by unfold adM z_giv; simp (disch := first | decide | omega) only [ui_s, uj_s, ui_o, ui_k, uj_o, uj_k, ui_j, uj_i]
  have hAl : ∀ s k2, s < 4 → k2 < 34 → (adX x t k i).1 (21 + 8 * s) k2 = x.1 (21 + 8 * s) k2 := fun s k2 _ _ => by unfold adX; simp (disch := first | decide | omega) only [ui_s, uj_s, ui_o, ui_k, uj_o, uj_k, ui_j, uj_i]
  have hal : ∀ s k2, s < 4 → k2 < 34 → (adX x t k i).1 (21 + 8 * s) k2 = ofv ((adM m t k i).1 60 (34 * s + k2)) (fun n => (adM m t k i).1 62 (4 * s + n)) (fun n => (adM m t k i).1 63 (4 * s + n)) (nI k2) ((adM m t k i).1 64 s).toNatClampNeg := fun s k2 h0 h1 => by
    rw [hAl s k2 h0 h1, R.al s k2 h0 h1, e64' s, show (fun n => (adM m t k i).1 63 (4 * s + n)) = (fun n => m.1 63 (4 * s + n)) from funext fun n => e63 _]
    by_cases e : s = t
    · subst e
      have hlt : i < (m.1 64 s).toNatClampNeg := by rw [e64, nI_clamp (by omega)]; exact hi
      by_cases e2 : k2 = k
      · subst e2
        rw [e60t, ofv_add, ofv_3 (so := fun n => m.1 62 (4 * s + n)) (i := i) _ (fun j hj => e62t j hj) h62 e62i h63, if_pos hlt, Int32.add_assoc, show (1 : Int32) + -1 = 0 from rfl, Int32.add_zero]
      · rw [e60 s k2 h1 (fun z => e2 z.2), ofv_4 (so := fun n => m.1 62 (4 * s + n)) (i := i) _ (fun j hj => e62t j hj) h62 e62i (fun z => e2 ((nI_eq (a := k) (b := k2) (by omega) (by omega)).mp (h63.symm.trans z)).symm)]
    · rw [e60 s k2 h1 (fun z => e z.1)]
      exact (ofv_cg _ (fun n hn => ⟨e62 s h0 e n (Nat.lt_of_lt_of_le hn (hm4 s h0)), rfl⟩)).symm
  have hsv : ∀ s n, s < 4 → n < ((adM m t k i).1 64 s).toNatClampNeg → SVd ((adM m t k i).1 62 (4 * s + n)) ((adM m t k i).1 63 (4 * s + n)) := fun s n h0 h1 => by
    rw [e64' s] at h1
    rw [e63]
    by_cases e : s = t
    · subst e
      by_cases e2 : n = i
      · rw [e2, e62i, h63]; exact svd_n ⟨by decide, by decide⟩ (by decide) hk
      · rw [e62t n e2]; exact R.sv s n h0 h1
    · rw [e62 s h0 e n (Nat.lt_of_lt_of_le h1 (hm4 s h0))]; exact R.sv s n h0 h1
  have hlz : ∀ s, s < 4 → (adX x t k i).1 (19 + 8 * s) 5 = sm (fun n => (adM m t k i).1 60 (34 * s + n)) 34 := fun s h0 => by
    by_cases e : s = t
    · subst e
      rw [show (adX x s k i).1 (19 + 8 * s) 5 = x.1 (19 + 8 * s) 5 - 1 from by unfold adX; simp (disch := first | decide | omega) only [ui_s, uj_s, ui_o, ui_k, uj_o, uj_k, ui_j, uj_i], R.lz s h0, sub1]
      exact (sm_up9 hk (fun j hj hn => e60 s j hj (fun z => hn z.2)) e60t).symm
    · rw [show (adX x t k i).1 (19 + 8 * s) 5 = x.1 (19 + 8 * s) 5 from by unfold adX; simp (disch := first | decide | omega) only [ui_s, uj_s, ui_o, ui_k, uj_o, uj_k, ui_j, uj_i], R.lz s h0]
      exact sm_cg (fun j hj => (e60 s j hj (fun z => e z.1)).symm)
  unfold adX adM z_giv at *
  exact ⟨(by simp (disch := first | decide | omega) only [ui_s, uj_s, ui_o, ui_k, uj_o, uj_k, ui_j, uj_i]; exact R.dl), (by simp (disch := first | decide | omega) only [ui_s, uj_s, ui_o, ui_k, uj_o, uj_k, ui_j, uj_i]; exact R.rn), (by simp (disch := first | decide | omega) only [ui_s, uj_s, ui_o, ui_k, uj_o, uj_k, ui_j, uj_i]; exact R.st), (by simp (disch := first | decide | omega) only [ui_s, uj_s, ui_o, ui_k, uj_o, uj_k, ui_j, uj_i]; exact R.bt), (by simp (disch := first | decide | omega) only [ui_s, uj_s, ui_o, ui_k, uj_o, uj_k, ui_j, uj_i]; exact R.en), (by simp (disch := first | decide | omega) only [ui_s, uj_s, ui_o, ui_k, uj_o, uj_k, ui_j, uj_i]; exact R.he), (by simp (disch := first | decide | omega) only [ui_s, uj_s, ui_o, ui_k, uj_o, uj_k, ui_j, uj_i]; exact R.wc), (by simp (disch := first | decide | omega) only [ui_s, uj_s, ui_o, ui_k, uj_o, uj_k, ui_j, uj_i]; exact R.sd), (by simp (disch := first | decide | omega) only [ui_s, uj_s, ui_o, ui_k, uj_o, uj_k, ui_j, uj_i]; exact R.nx), fun i h0 => by simp (disch := first | decide | omega) only [ui_s, uj_s, ui_o, ui_k, uj_o, uj_k, ui_j, uj_i]; exact R.wl i h0, fun s h0 => by simp (disch := first | decide | omega) only [ui_s, uj_s, ui_o, ui_k, uj_o, uj_k, ui_j, uj_i]; exact R.pt s h0, fun s h0 => by simp (disch := first | decide | omega) only [ui_s, uj_s, ui_o, ui_k, uj_o, uj_k, ui_j, uj_i]; exact R.be s h0, fun s h0 => by simp (disch := first | decide | omega) only [ui_s, uj_s, ui_o, ui_k, uj_o, uj_k, ui_j, uj_i]; exact R.ao s h0, fun s h0 => by simp (disch := first | decide | omega) only [ui_s, uj_s, ui_o, ui_k, uj_o, uj_k, ui_j, uj_i]; exact R.lg s h0, fun s h0 => by simp (disch := first | decide | omega) only [ui_s, uj_s, ui_o, ui_k, uj_o, uj_k, ui_j, uj_i]; exact R.sy s h0, fun s h0 => by simp (disch := first | decide | omega) only [ui_s, uj_s, ui_o, ui_k, uj_o, uj_k, ui_j, uj_i]; exact R.ds s h0, fun s h0 => by simp (disch := first | decide | omega) only [ui_s, uj_s, ui_o, ui_k, uj_o, uj_k, ui_j, uj_i]; exact R.lm s h0, (fun s k2 h0 h1 => by
      by_cases e : s = t
      · subst e
        by_cases e2 : k2 = k
        · subst e2; simp (disch := first | decide | omega) only [ui_s, uj_s, ui_o, ui_k, uj_o, uj_k, ui_j, uj_i]; rw [R.hd s k2 h0 h1, sub1]
        · simp (disch := first | decide | omega) only [ui_s, uj_s, ui_o, ui_k, uj_o, uj_k, ui_j, uj_i]; exact R.hd s k2 h0 h1
      · simp (disch := first | decide | omega) only [ui_s, uj_s, ui_o, ui_k, uj_o, uj_k, ui_j, uj_i]; exact R.hd s k2 h0 h1), (fun s n h0 h1 => by
      by_cases e : s = t
      · subst e
        by_cases e2 : n = i
        · subst e2; simp (disch := first | decide | omega) only [ui_s, uj_s, ui_o, ui_k, uj_o, uj_k, ui_j, uj_i]
        · simp (disch := first | decide | omega) only [ui_s, uj_s, ui_o, ui_k, uj_o, uj_k, ui_j, uj_i]; exact R.so s n h0 h1
      · simp (disch := first | decide | omega) only [ui_s, uj_s, ui_o, ui_k, uj_o, uj_k, ui_j, uj_i]; exact R.so s n h0 h1), fun s i h0 h1 => by simp (disch := first | decide | omega) only [ui_s, uj_s, ui_o, ui_k, uj_o, uj_k, ui_j, uj_i]; exact R.lo s i h0 h1, fun s i h0 h1 => by simp (disch := first | decide | omega) only [ui_s, uj_s, ui_o, ui_k, uj_o, uj_k, ui_j, uj_i]; exact R.rv s i h0 h1, fun i f h0 h1 h2 => by simp (disch := first | decide | omega) only [ui_s, uj_s, ui_o, ui_k, uj_o, uj_k, ui_j, uj_i]; exact R.wi i f h0 h1 h2, fun i h0 => by simp (disch := first | decide | omega) only [ui_s, uj_s, ui_o, ui_k, uj_o, uj_k, ui_j, uj_i]; exact R.wf i h0, hal, hlz, hsv, fun s h0 => by simp (disch := first | decide | omega) only [ui_s, uj_s, ui_o, ui_k, uj_o, uj_k, ui_j, uj_i]; rw [R.tk s h0]; exact congrArg (fun f => kb f 34) (tkM_cg (R.rb s h0) (fun i hi => by simp (disch := first | decide | omega) only [ui_s, uj_s, ui_o, ui_k, uj_o, uj_k, ui_j, uj_i]) (by simp (disch := first | decide | omega) only [ui_s, uj_s, ui_o, ui_k, uj_o, uj_k, ui_j, uj_i])), fun s h0 => by simp (disch := first | decide | omega) only [ui_s, uj_s, ui_o, ui_k, uj_o, uj_k, ui_j, uj_i]; exact R.rb s h0, fun s i h0 h1 => by simp (disch := first | decide | omega) only [ui_s, uj_s, ui_o, ui_k, uj_o, uj_k, ui_j, uj_i] at h1 ⊢; exact R.rk s i h0 h1, (by simp (disch := first | decide | omega) only [ui_s, uj_s, ui_o, ui_k, uj_o, uj_k, ui_j, uj_i]; exact R.rd), fun s h0 => by simp (disch := first | decide | omega) only [ui_s, uj_s, ui_o, ui_k, uj_o, uj_k, ui_j, uj_i]; exact R.bb s h0, fun z => by simp (disch := first | decide | omega) only [ui_s, uj_s, ui_o, ui_k, uj_o, uj_k, ui_j, uj_i] at z ⊢; exact R.wp z⟩
theorem rp_added {x m : zM} {t k i c : Nat} (P : RPh x m 1 t c) (hk : k < 34) (hi : i < 4) (hu : m.1 50 56 = 0) (ha3 : ¬ x.1 (21 + 8 * t) k = 0) : RPh (adX x t k i) (adM m t k i) 3 t k := by
  have ht := P.t4
  have hne : ¬ k = 34 := by omega
  unfold adX adM z_giv
  exact ⟨(by simp (disch := first | decide | omega) only [ui_s, uj_s, ui_o, ui_k, uj_o, uj_k, ui_j, uj_i]; exact P.fo), (by simp (disch := first | decide | omega) only [ui_s, uj_s, ui_o, ui_k, uj_o, uj_k, ui_j, uj_i]; rfl), (by simp (disch := first | decide | omega) only [ui_s, uj_s, ui_o, ui_k, uj_o, uj_k, ui_j, uj_i]; rfl), (by simp (disch := first | decide | omega) only [ui_s, uj_s, ui_o, ui_k, uj_o, uj_k, ui_j, uj_i]; exact P.tx), (by simp (disch := first | decide | omega) only [ui_s, uj_s, ui_o, ui_k, uj_o, uj_k, ui_j, uj_i]; exact P.tm), ht, Or.inr (Or.inr rfl), (by simp (disch := first | decide | omega) only [ui_s, uj_s, ui_o, ui_k, uj_o, uj_k, ui_j, uj_i]; rw [if_neg hne]), (by simp (disch := first | decide | omega) only [ui_s, uj_s, ui_o, ui_k, uj_o, uj_k, ui_j, uj_i]; rw [if_neg hne]), Or.inl hk, fun z => absurd z (by decide), (by simp (disch := first | decide | omega) only [ui_s, uj_s, ui_o, ui_k, uj_o, uj_k, ui_j, uj_i]; exact P.br), (by simp (disch := first | decide | omega) only [ui_s, uj_s, ui_o, ui_k, uj_o, uj_k, ui_j, uj_i]; exact P.us), fun z => absurd z (by decide), fun z => absurd z (by decide), fun z => absurd z (by decide), fun z => absurd z (by decide), fun _ => by simp (disch := first | decide | omega) only [ui_s, uj_s, ui_o, ui_k, uj_o, uj_k, ui_j, uj_i]; exact ha3, fun s h0 => by simp (disch := first | decide | omega) only [ui_s, uj_s, ui_o, ui_k, uj_o, uj_k, ui_j, uj_i]; exact P.ow s h0, fun _ => by simp (disch := first | decide | omega) only [ui_s, uj_s, ui_o, ui_k, uj_o, uj_k, ui_j, uj_i]; exact P.o1 (by decide), (by simp (disch := first | decide | omega) only [ui_s, uj_s, ui_o, ui_k, uj_o, uj_k, ui_j, uj_i]; exact P.is), (by simp (disch := first | decide | omega) only [ui_s, uj_s, ui_o, ui_k, uj_o, uj_k, ui_j, uj_i]; exact P.s0), fun z => absurd z (by decide), (by simp (disch := first | decide | omega) only [ui_s, uj_s, ui_o, ui_k, uj_o, uj_k, ui_j, uj_i]; exact P.w0), fun s h0 => by simp (disch := first | decide | omega) only [ui_s, uj_s, ui_o, ui_k, uj_o, uj_k, ui_j, uj_i]; exact P.dn s h0, fun z => absurd (by simp (disch := first | decide | omega) only [ui_s, uj_s, ui_o, ui_k, uj_o, uj_k, ui_j, uj_i]; exact hu) z, fun _ z => absurd z (by decide), (P.tc.elim fun a z => ⟨a, fun s k2 h0 h2 => by simp (disch := first | decide | omega) only [ui_s, uj_s, ui_o, ui_k, uj_o, uj_k, ui_j, uj_i]; exact z.1 s k2 h0 h2, fun k2 h2 => by
      have y := z.2 k2 h2
      rw [if_neg (by omega)] at y
      rw [if_neg (by omega), fW_cg (m := m) (fun i => by simp (disch := first | decide | omega) only [ui_s, uj_s, ui_o, ui_k, uj_o, uj_k, ui_j, uj_i])]
      simp (disch := first | decide | omega) only [ui_s, uj_s, ui_o, ui_k, uj_o, uj_k, ui_j, uj_i]
      exact y⟩)⟩
