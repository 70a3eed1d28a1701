/-! the relation is kept: laying down -/
set_option maxRecDepth 8000
/-- a SET is laid down: what the cells have in common -/
def LAY (x m x' m' : zM) (s q a : Nat) (so : Int32) (dt : Nat → Int32) : Prop := (∀ r k, r ≠ 19 + 8 * s → r ≠ 20 + 8 * s → r ≠ 21 + 8 * s → r ≠ 22 + 8 * s → r ≠ 23 + 8 * s → x'.1 r k = x.1 r k) ∧ (x'.2.1 = x.2.1) ∧ (∀ r k, r ≠ 60 → r ≠ 62 → r ≠ 63 → r ≠ 64 → m'.1 r k = m.1 r k) ∧ (m'.2.1 = m.2.1) ∧ (x'.1 (19 + 8 * s) 4 = nI (q + 1)) ∧ (m'.1 64 s = nI (q + 1)) ∧ (∀ j, j ≠ s → m'.1 64 j = m.1 64 j) ∧ (∀ k, k < 34 → x'.1 (20 + 8 * s) k = x.1 (20 + 8 * s) k + dt k) ∧ (∀ k, k < 34 → m'.1 60 (34 * s + k) = m.1 60 (34 * s + k) + dt k) ∧ (∀ j k, j < 4 → k < 34 → j ≠ s → m'.1 60 (34 * j + k) = m.1 60 (34 * j + k)) ∧ (∀ k, k < 34 → x'.1 (21 + 8 * s) k = x.1 (21 + 8 * s) k + (dt k + ct so (nI a) (nI k))) ∧ (x'.1 (19 + 8 * s) 5 = x.1 (19 + 8 * s) 5 + sm dt 34) ∧ (∀ i, i < 4 → x'.1 (22 + 8 * s) i = (if i = q then so else x.1 (22 + 8 * s) i)) ∧ (∀ i, i < 4 → x'.1 (23 + 8 * s) i = (if i = q then nI a else x.1 (23 + 8 * s) i)) ∧ (∀ j i, j < 4 → i < 4 → m'.1 62 (4 * j + i) = (if j = s ∧ i = q then so else m.1 62 (4 * j + i))) ∧ (∀ j i, j < 4 → i < 4 → m'.1 63 (4 * j + i) = (if j = s ∧ i = q then nI a else m.1 63 (4 * j + i)))
theorem LAY.fx {x m x' m' : zM} {s q a : Nat} {so : Int32} {dt : Nat → Int32} (h : LAY x m x' m' s q a so dt) : ∀ r k, r ≠ 19 + 8 * s → r ≠ 20 + 8 * s → r ≠ 21 + 8 * s → r ≠ 22 + 8 * s → r ≠ 23 + 8 * s → x'.1 r k = x.1 r k := h.1
theorem LAY.fj {x m x' m' : zM} {s q a : Nat} {so : Int32} {dt : Nat → Int32} (h : LAY x m x' m' s q a so dt) : x'.2.1 = x.2.1 := h.2.1
theorem LAY.fm {x m x' m' : zM} {s q a : Nat} {so : Int32} {dt : Nat → Int32} (h : LAY x m x' m' s q a so dt) : ∀ r k, r ≠ 60 → r ≠ 62 → r ≠ 63 → r ≠ 64 → m'.1 r k = m.1 r k := h.2.2.1
theorem LAY.fk {x m x' m' : zM} {s q a : Nat} {so : Int32} {dt : Nat → Int32} (h : LAY x m x' m' s q a so dt) : m'.2.1 = m.2.1 := h.2.2.2.1
theorem LAY.x4 {x m x' m' : zM} {s q a : Nat} {so : Int32} {dt : Nat → Int32} (h : LAY x m x' m' s q a so dt) : x'.1 (19 + 8 * s) 4 = nI (q + 1) := h.2.2.2.2.1
theorem LAY.m4 {x m x' m' : zM} {s q a : Nat} {so : Int32} {dt : Nat → Int32} (h : LAY x m x' m' s q a so dt) : m'.1 64 s = nI (q + 1) := h.2.2.2.2.2.1
theorem LAY.n4 {x m x' m' : zM} {s q a : Nat} {so : Int32} {dt : Nat → Int32} (h : LAY x m x' m' s q a so dt) : ∀ j, j ≠ s → m'.1 64 j = m.1 64 j := h.2.2.2.2.2.2.1
theorem LAY.xf {x m x' m' : zM} {s q a : Nat} {so : Int32} {dt : Nat → Int32} (h : LAY x m x' m' s q a so dt) : ∀ k, k < 34 → x'.1 (20 + 8 * s) k = x.1 (20 + 8 * s) k + dt k := h.2.2.2.2.2.2.2.1
theorem LAY.mf {x m x' m' : zM} {s q a : Nat} {so : Int32} {dt : Nat → Int32} (h : LAY x m x' m' s q a so dt) : ∀ k, k < 34 → m'.1 60 (34 * s + k) = m.1 60 (34 * s + k) + dt k := h.2.2.2.2.2.2.2.2.1
theorem LAY.nf {x m x' m' : zM} {s q a : Nat} {so : Int32} {dt : Nat → Int32} (h : LAY x m x' m' s q a so dt) : ∀ j k, j < 4 → k < 34 → j ≠ s → m'.1 60 (34 * j + k) = m.1 60 (34 * j + k) := h.2.2.2.2.2.2.2.2.2.1
theorem LAY.xa {x m x' m' : zM} {s q a : Nat} {so : Int32} {dt : Nat → Int32} (h : LAY x m x' m' s q a so dt) : ∀ k, k < 34 → x'.1 (21 + 8 * s) k = x.1 (21 + 8 * s) k + (dt k + ct so (nI a) (nI k)) := h.2.2.2.2.2.2.2.2.2.2.1
theorem LAY.x5 {x m x' m' : zM} {s q a : Nat} {so : Int32} {dt : Nat → Int32} (h : LAY x m x' m' s q a so dt) : x'.1 (19 + 8 * s) 5 = x.1 (19 + 8 * s) 5 + sm dt 34 := h.2.2.2.2.2.2.2.2.2.2.2.1
theorem LAY.xs {x m x' m' : zM} {s q a : Nat} {so : Int32} {dt : Nat → Int32} (h : LAY x m x' m' s q a so dt) : ∀ i, i < 4 → x'.1 (22 + 8 * s) i = (if i = q then so else x.1 (22 + 8 * s) i) := h.2.2.2.2.2.2.2.2.2.2.2.2.1
theorem LAY.xl {x m x' m' : zM} {s q a : Nat} {so : Int32} {dt : Nat → Int32} (h : LAY x m x' m' s q a so dt) : ∀ i, i < 4 → x'.1 (23 + 8 * s) i = (if i = q then nI a else x.1 (23 + 8 * s) i) := h.2.2.2.2.2.2.2.2.2.2.2.2.2.1
theorem LAY.ms {x m x' m' : zM} {s q a : Nat} {so : Int32} {dt : Nat → Int32} (h : LAY x m x' m' s q a so dt) : ∀ j i, j < 4 → i < 4 → m'.1 62 (4 * j + i) = (if j = s ∧ i = q then so else m.1 62 (4 * j + i)) := h.2.2.2.2.2.2.2.2.2.2.2.2.2.2.1
theorem LAY.ml {x m x' m' : zM} {s q a : Nat} {so : Int32} {dt : Nat → Int32} (h : LAY x m x' m' s q a so dt) : ∀ j i, j < 4 → i < 4 → m'.1 63 (4 * j + i) = (if j = s ∧ i = q then nI a else m.1 63 (4 * j + i)) := h.2.2.2.2.2.2.2.2.2.2.2.2.2.2.2
theorem sm_ad9 {f g h : Nat → Int32} : ∀ n, (∀ j, j < n → h j = f j + g j) → sm h n = sm f n + sm g n
  | 0, _ => rfl
  | n + 1, e => by
    show sm h n + h n = (sm f n + f n) + (sm g n + g n)
    rw [sm_ad9 n (fun j hj => e j (by omega)), e n (by omega)]
    ac_rfl
theorem ofv_c9 {w k : Int32} {s s' l l' : Nat → Int32} : ∀ n, (∀ i, i < n → s i = s' i ∧ l i = l' i) → ofv w s l k n = ofv w s' l' k n := fun n h => ofv_cg n h
theorem rc_lay {x m x' m' : zM} (R : RCl x m) {s q a : Nat} {so : Int32} {dt : Nat → Int32} (A : LAY x m x' m' s q a so dt) (hs : s < 4) (hq : q ≤ 3) (e64 : m.1 64 s = nI q) (hv : SVd so (nI a)) (hm4 : ∀ j, j < 4 → (m.1 64 j).toNatClampNeg ≤ 4) : RCl x' m' := by
  have X := A.fx
  have M := A.fm
  exact ⟨(by rw [A.fx _ _ (by omega) (by omega) (by omega) (by omega) (by omega), A.fm _ _ (by omega) (by omega) (by omega) (by omega)]; exact R.dl), (by rw [A.fx _ _ (by omega) (by omega) (by omega) (by omega) (by omega), A.fm _ _ (by omega) (by omega) (by omega) (by omega)]; exact R.rn), (by rw [A.fx _ _ (by omega) (by omega) (by omega) (by omega) (by omega), A.fm _ _ (by omega) (by omega) (by omega) (by omega)]; exact R.st), (by rw [A.fx _ _ (by omega) (by omega) (by omega) (by omega) (by omega), A.fm _ _ (by omega) (by omega) (by omega) (by omega)]; exact R.bt), (by rw [A.fx _ _ (by omega) (by omega) (by omega) (by omega) (by omega), A.fm _ _ (by omega) (by omega) (by omega) (by omega)]; exact R.en), (by rw [A.fx _ _ (by omega) (by omega) (by omega) (by omega) (by omega), A.fm _ _ (by omega) (by omega) (by omega) (by omega)]; exact R.he), (by rw [A.fx _ _ (by omega) (by omega) (by omega) (by omega) (by omega), A.fm _ _ (by omega) (by omega) (by omega) (by omega)]; exact R.wc), (by rw [A.fx _ _ (by omega) (by omega) (by omega) (by omega) (by omega), A.fm _ _ (by omega) (by omega) (by omega) (by omega)]; exact R.sd), (by rw [A.fx _ _ (by omega) (by omega) (by omega) (by omega) (by omega), A.fm _ _ (by omega) (by omega) (by omega) (by omega)]; exact R.nx), fun i h0 => by rw [A.fx _ _ (by omega) (by omega) (by omega) (by omega) (by omega), A.fm _ _ (by omega) (by omega) (by omega) (by omega)]; exact R.wl i h0, fun s h0 => by rw [A.fx _ _ (by omega) (by omega) (by omega) (by omega) (by omega), A.fm _ _ (by omega) (by omega) (by omega) (by omega)]; exact R.pt s h0, fun s h0 => by rw [A.fx _ _ (by omega) (by omega) (by omega) (by omega) (by omega), A.fm _ _ (by omega) (by omega) (by omega) (by omega)]; exact R.be s h0, fun s h0 => by rw [A.fx _ _ (by omega) (by omega) (by omega) (by omega) (by omega), A.fm _ _ (by omega) (by omega) (by omega) (by omega)]; exact R.ao s h0, fun s h0 => by rw [A.fx _ _ (by omega) (by omega) (by omega) (by omega) (by omega), A.fm _ _ (by omega) (by omega) (by omega) (by omega)]; exact R.lg s h0, fun s h0 => by rw [A.fx _ _ (by omega) (by omega) (by omega) (by omega) (by omega), A.fm _ _ (by omega) (by omega) (by omega) (by omega)]; exact R.sy s h0, fun s h0 => by rw [A.fx _ _ (by omega) (by omega) (by omega) (by omega) (by omega), A.fm _ _ (by omega) (by omega) (by omega) (by omega)]; exact R.ds s h0, (fun j h0 => by
      by_cases e : j = s
      · subst e; rw [A.x4, A.m4]
      · rw [A.fx _ _ (by omega) (by omega) (by omega) (by omega) (by omega), A.n4 j e]; exact R.lm j h0), (fun j k h0 h1 => by
      by_cases e : j = s
      · subst e; rw [A.xf k h1, A.mf k h1, R.hd j k h0 h1]
      · rw [A.fx _ _ (by omega) (by omega) (by omega) (by omega) (by omega), A.nf j k h0 h1 e]; exact R.hd j k h0 h1), (fun j i h0 h1 => by
      rw [A.ms j i h0 h1]
      by_cases e : j = s
      · subst e; rw [A.xs i h1, R.so j i h0 h1]
        by_cases e2 : i = q
        · rw [if_pos e2, if_pos ⟨rfl, e2⟩]
        · rw [if_neg e2, if_neg (fun z => e2 z.2)]
      · rw [A.fx _ _ (by omega) (by omega) (by omega) (by omega) (by omega), if_neg (fun z => e z.1)]; exact R.so j i h0 h1), (fun j i h0 h1 => by
      rw [A.ml j i h0 h1]
      by_cases e : j = s
      · subst e; rw [A.xl i h1, R.lo j i h0 h1]
        by_cases e2 : i = q
        · rw [if_pos e2, if_pos ⟨rfl, e2⟩]
        · rw [if_neg e2, if_neg (fun z => e2 z.2)]
      · rw [A.fx _ _ (by omega) (by omega) (by omega) (by omega) (by omega), if_neg (fun z => e z.1)]; exact R.lo j i h0 h1), fun s i h0 h1 => by rw [A.fx _ _ (by omega) (by omega) (by omega) (by omega) (by omega), A.fm _ _ (by omega) (by omega) (by omega) (by omega)]; exact R.rv s i h0 h1, fun i f h0 h1 h2 => by rw [A.fx _ _ (by omega) (by omega) (by omega) (by omega) (by omega), A.fm _ _ (by omega) (by omega) (by omega) (by omega)]; exact R.wi i f h0 h1 h2, fun i h0 => by rw [A.fj, A.fk]; exact R.wf i h0, (fun j k h0 h1 => by
      by_cases e : j = s
      · subst e
        rw [A.xa k h1, A.mf k h1, A.m4, nI_clamp (by omega), R.al j k h0 h1, e64, nI_clamp (by omega)]
        show _ = ofv _ _ _ _ q + ct (m'.1 62 (4 * j + q)) (m'.1 63 (4 * j + q)) (nI k)
        rw [A.ms j q h0 (by omega), A.ml j q h0 (by omega), if_pos ⟨rfl, rfl⟩, if_pos ⟨rfl, rfl⟩, ofv_add]
        rw [ofv_cg (s := fun i => m'.1 62 (4 * j + i)) (l := fun i => m'.1 63 (4 * j + i)) (s' := fun i => m.1 62 (4 * j + i)) (l' := fun i => m.1 63 (4 * j + i)) q (fun i hi => by
          show m'.1 62 (4 * j + i) = _ ∧ m'.1 63 (4 * j + i) = _
          rw [A.ms j i h0 (by omega), A.ml j i h0 (by omega), if_neg (by omega), if_neg (by omega)]; exact ⟨rfl, rfl⟩)]
        ac_rfl
      · rw [A.fx _ _ (by omega) (by omega) (by omega) (by omega) (by omega), A.nf j k h0 h1 e, A.n4 j e, R.al j k h0 h1]
        exact (ofv_cg _ (fun i hi => by
          show m'.1 62 (4 * j + i) = _ ∧ m'.1 63 (4 * j + i) = _
          have hi4 : i < 4 := Nat.lt_of_lt_of_le hi (hm4 j h0)
          rw [A.ms j i h0 hi4, A.ml j i h0 hi4, if_neg (fun z => e z.1), if_neg (fun z => e z.1)]; exact ⟨rfl, rfl⟩)).symm), (fun j h0 => by
      by_cases e : j = s
      · subst e
        rw [A.x5, R.lz j h0]
        exact (sm_ad9 34 (fun k hk => A.mf k hk)).symm
      · rw [A.fx _ _ (by omega) (by omega) (by omega) (by omega) (by omega), R.lz j h0]
        exact sm_cg (fun k hk => (A.nf j k h0 hk e).symm)), (fun j i h0 h1 => by
      by_cases e : j = s
      · subst e
        rw [A.m4, nI_clamp (by omega)] at h1
        rw [A.ms j i h0 (by omega), A.ml j i h0 (by omega)]
        by_cases e2 : i = q
        · rw [if_pos ⟨rfl, e2⟩, if_pos ⟨rfl, e2⟩]; exact hv
        · rw [if_neg (fun z => e2 z.2), if_neg (fun z => e2 z.2)]
          exact R.sv j i h0 (by rw [e64, nI_clamp (by omega)]; omega)
      · rw [A.n4 j e] at h1
        have hi4 : i < 4 := Nat.lt_of_lt_of_le h1 (hm4 j h0)
        rw [A.ms j i h0 hi4, A.ml j i h0 hi4, if_neg (fun z => e z.1), if_neg (fun z => e z.1)]
        exact R.sv j i h0 h1), fun j h0 => by rw [A.fj, R.tk j h0]; exact congrArg (fun f => kb f 34) (tkM_cg (R.rb j h0) (fun i hi => A.fm _ _ (by omega) (by omega) (by omega) (by omega)) (A.fm _ _ (by omega) (by omega) (by omega) (by omega))), fun j h0 => by rw [A.fm _ _ (by omega) (by omega) (by omega) (by omega)]; exact R.rb j h0, fun j i h0 h1 => by rw [A.fm 66 j (by omega) (by omega) (by omega) (by omega)] at h1; rw [A.fm 65 (136 * j + i) (by omega) (by omega) (by omega) (by omega)]; exact R.rk j i h0 h1, (by rw [A.fm _ _ (by omega) (by omega) (by omega) (by omega)]; exact R.rd), fun j h0 => by rw [A.fm _ _ (by omega) (by omega) (by omega) (by omega)]; exact R.bb j h0, (fun z => by
      rw [A.fm _ _ (by omega) (by omega) (by omega) (by omega)] at z
      exact (R.wp z).elim fun sd y => ⟨sd, fun i hi => by rw [A.fm _ _ (by omega) (by omega) (by omega) (by omega)]; exact y i hi⟩)⟩
