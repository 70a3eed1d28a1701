/-! FORMS of the tiles: both sides alike -/
set_option maxRecDepth 8000
def n40 (μ : zM) (t : T7) : Bool := (((decide (t.2.2.2.2.2.2 = 1)) || ((decide (t.2.2.2.2.2.2 = 2)) || (decide (t.2.2.2.2.2.2 = 4)))) && (!t.2.2.2.1 && ((decide ((μ.1 50 4) = 0)) && (((((((((!(decide ((μ.1 58 ((bif decide (t.2.2.2.2.2.2 = 1) then (0 : Int32) else bif decide (t.2.2.2.2.2.2 = 2) then (9 : Int32) else 18) + 0).toNatClampNeg) < 3))) && (!(decide ((μ.1 58 ((bif decide (t.2.2.2.2.2.2 = 1) then (0 : Int32) else bif decide (t.2.2.2.2.2.2 = 2) then (9 : Int32) else 18) + 1).toNatClampNeg) < 1)))) && (!(decide ((μ.1 58 ((bif decide (t.2.2.2.2.2.2 = 1) then (0 : Int32) else bif decide (t.2.2.2.2.2.2 = 2) then (9 : Int32) else 18) + 2).toNatClampNeg) < 1)))) && (!(decide ((μ.1 58 ((bif decide (t.2.2.2.2.2.2 = 1) then (0 : Int32) else bif decide (t.2.2.2.2.2.2 = 2) then (9 : Int32) else 18) + 3).toNatClampNeg) < 1)))) && (!(decide ((μ.1 58 ((bif decide (t.2.2.2.2.2.2 = 1) then (0 : Int32) else bif decide (t.2.2.2.2.2.2 = 2) then (9 : Int32) else 18) + 4).toNatClampNeg) < 1)))) && (!(decide ((μ.1 58 ((bif decide (t.2.2.2.2.2.2 = 1) then (0 : Int32) else bif decide (t.2.2.2.2.2.2 = 2) then (9 : Int32) else 18) + 5).toNatClampNeg) < 1)))) && (!(decide ((μ.1 58 ((bif decide (t.2.2.2.2.2.2 = 1) then (0 : Int32) else bif decide (t.2.2.2.2.2.2 = 2) then (9 : Int32) else 18) + 6).toNatClampNeg) < 1)))) && (!(decide ((μ.1 58 ((bif decide (t.2.2.2.2.2.2 = 1) then (0 : Int32) else bif decide (t.2.2.2.2.2.2 = 2) then (9 : Int32) else 18) + 7).toNatClampNeg) < 1)))) && (!(decide ((μ.1 58 ((bif decide (t.2.2.2.2.2.2 = 1) then (0 : Int32) else bif decide (t.2.2.2.2.2.2 = 2) then (9 : Int32) else 18) + 8).toNatClampNeg) < 3)))))))
def one7 (x : Int32) : Bool := (decide (x = 1)) || ((decide (x = 2)) || (decide (x = 4)))
theorem tlG_eq (μ : zM) (g : Int64) (t : T7) : tlG μ g t = (((g ||| lb t.2.2.1 37) ||| lb t.2.2.2.2.1 38) ||| lb t.2.2.2.2.2.1 39) ||| lb (n40 μ t) 40 := rfl
theorem tlP_eq (μ : zM) (g : Int64) (t : T7) : tlP μ g t = (((g ||| lb t.2.1 8) ||| lb t.1 24) ||| lb (one7 t.2.2.2.2.2.2 && t.2.2.2.1) 26) ||| lb (one7 t.2.2.2.2.2.2 && !t.2.2.2.1) 29 := rfl
theorem kb_hi (b : Nat → Bool) (j : Nat) (hj : 34 ≤ j) : ∀ n, n ≤ 34 → (kb b n).toBitVec.getLsbD j = false := by
  intro n
  induction n with
  | zero => intro _; show (0#64).getLsbD j = false; rw [BitVec.getLsbD_zero]
  | succ n ih =>
    intro hn
    show (if b n = true then kb b n ||| ((1 : Int64) <<< ((nI n).toInt64 &&& 63)) else kb b n).toBitVec.getLsbD j = false
    split
    · rw [Int64.toBitVec_or, BitVec.getLsbD_or, ih (by omega), show ((1 : Int64) <<< ((nI n).toInt64 &&& 63)) = lb true (nI n) from rfl, lb_bit true _ n rfl (by omega), decide_eq_false (by omega)]; rfl
    · exact ih (by omega)
theorem ks_bit (b : Nat → Bool) (j : Nat) : (kb b 34).toBitVec.getLsbD j = (decide (j < 34) && b j) := by
  by_cases h : j < 34
  · exact kb_bit b 34 (Nat.le_refl _) j h
  · rw [kb_hi b j (by omega) 34 (Nat.le_refl _), decide_eq_false h]; rfl
/-- none of these KINDS -/
theorem ks_m (b : Nat → Bool) (m : Int64) (f : Nat → Bool) (hm : ∀ j, j < 34 → m.toBitVec.getLsbD j = f j) : decide (lg_cmp (kb b 34 &&& m) 0 = 0) = true ↔ ∀ j, j < 34 → b j = true → f j = false := by
  rw [decide_eq_true_iff, lg_c0]
  constructor
  · intro z j hj hb
    have e : (kb b 34 &&& m).toBitVec.getLsbD j = (0#64).getLsbD j := by rw [z]; rfl
    rw [Int64.toBitVec_and, BitVec.getLsbD_and, ks_bit, hb, decide_eq_true hj, hm j hj, BitVec.getLsbD_zero] at e
    simpa using e
  · intro z
    refine i64_ext (fun n hn => ?_)
    show _ = (0#64).getLsbD n
    rw [Int64.toBitVec_and, BitVec.getLsbD_and, ks_bit, BitVec.getLsbD_zero]
    by_cases h : n < 34
    · cases hb : b n
      · rw [Bool.and_false, Bool.false_and]
      · rw [hm n h, z n h hb, Bool.and_false]
    · rw [decide_eq_false h, Bool.false_and, Bool.false_and]
theorem ks_is (b : Nat → Bool) (m : Int64) (f : Nat → Bool) (hm : ∀ j, j < 64 → m.toBitVec.getLsbD j = (decide (j < 34) && f j)) : decide (lg_cmp (kb b 34) m = 0) = true ↔ ∀ j, j < 34 → b j = f j := by
  rw [decide_eq_true_iff, lg_c0]
  constructor
  · intro z j hj
    have e : (kb b 34).toBitVec.getLsbD j = m.toBitVec.getLsbD j := by rw [z]
    rw [ks_bit, hm j (by omega), decide_eq_true hj, Bool.true_and, Bool.true_and] at e
    exact e
  · intro z
    refine i64_ext (fun n hn => ?_)
    rw [ks_bit, hm n hn]
    by_cases h : n < 34
    · rw [z n h]
    · rw [decide_eq_false h]; rfl
def su3 (a b c : Bool) : Int32 := nI (a.toNat + 2 * b.toNat + 4 * c.toNat)
theorem su_s : ∀ k, k < 27 → ∀ a b c : Bool, su3 a b c ||| (1 : Int32) <<< (nI k / 9 &&& 31) = su3 (a || decide (k < 9)) (b || (decide (9 ≤ k) && decide (k < 18))) (c || decide (18 ≤ k)) := by decide +kernel
theorem su_one : ∀ a b c : Bool, decide (((0 + nB a) + nB b) + nB c = 1) = one7 (su3 a b c) := by decide +kernel
theorem n27 : ∀ k, k < 34 → decide ((27 : Int32) ≤ nI k) = decide (27 ≤ k) := by decide +kernel
/-- any of the KINDS before -/
def an (b : Nat → Bool) : Nat → Bool
  | 0 => false
  | n + 1 => an b n || b n
theorem an_iff (b : Nat → Bool) : ∀ n, an b n = true ↔ ∃ k, k < n ∧ b k = true := by
  intro n
  induction n with
  | zero => exact ⟨fun h => absurd h Bool.false_ne_true, fun ⟨k, hk, _⟩ => absurd hk (by omega)⟩
  | succ n ih =>
    show (an b n || b n) = true ↔ _
    rw [Bool.or_eq_true, ih]
    constructor
    · rintro (⟨k, h1, h2⟩ | z)
      · exact ⟨k, by omega, h2⟩
      · exact ⟨n, by omega, z⟩
    · rintro ⟨k, h1, h2⟩
      by_cases e : k = n
      · exact Or.inr (e ▸ h2)
      · exact Or.inl ⟨k, by omega, h2⟩
/-- the reference's walk over the KINDS -/
def tN (b : Nat → Bool) (i : Nat) : T7 := (!an (fun k => b k && !xEn (nI k)) i, !an (fun k => b k && xEn (nI k)) i, !an (fun k => b k && !xHo (nI k)) i, an (fun k => b k && xHo (nI k)) i, !an (fun k => b k && !xTe (nI k)) i, !an (fun k => b k && !xGr (nI k)) i, su3 (an (fun k => b k && decide (k < 9)) i) (an (fun k => b k && (decide (9 ≤ k) && decide (k < 18))) i) (an (fun k => b k && (decide (18 ≤ k) && decide (k < 27))) i))
theorem tN_s (μ : zM) (q : Nat) (b : Nat → Bool) (i : Nat) (hi : i < 34) (hb : decide (ofv (μ.1 58 i) (μ.1 52) (μ.1 53) (nI i) q = 0) = !b i) : tSt μ q i (tN b i) = tN b (i + 1) := by
  unfold tSt
  rw [hb]
  have st : ∀ f : Nat → Bool, an f (i + 1) = (an f i || f i) := fun f => rfl
  unfold tN
  rw [st, st, st, st, st, st, st, st, st]
  cases c : b i
  · simp only [Bool.not_false, cond_true, Bool.false_and, Bool.or_false]
  · simp only [Bool.not_true, cond_false, Bool.true_and, Bool.not_or, Bool.not_not]
    refine Prod.ext rfl (Prod.ext rfl (Prod.ext rfl (Prod.ext rfl (Prod.ext rfl (Prod.ext rfl ?_)))))
    show (bif decide ((27 : Int32) ≤ nI i) then _ else _) = _
    rw [n27 i hi]
    by_cases h27 : 27 ≤ i
    · rw [decide_eq_true h27, cond_true, decide_eq_false (show ¬ i < 9 by omega), decide_eq_false (show ¬ i < 18 by omega), decide_eq_false (show ¬ i < 27 by omega), Bool.and_false, Bool.and_false, Bool.or_false, Bool.or_false, Bool.or_false]
    · rw [decide_eq_false h27, cond_false, su_s i (by omega), decide_eq_true (show i < 27 by omega), Bool.and_true]
theorem tF_N (μ : zM) (q : Nat) (b : Nat → Bool) (hb : ∀ i, i < 34 → decide (ofv (μ.1 58 i) (μ.1 52) (μ.1 53) (nI i) q = 0) = !b i) : ∀ n i, i + n = 34 → tF μ q n i (tN b i) = tN b 34 := by
  intro n
  induction n with
  | zero => intro i hi; have hi : i = 34 := by omega
            subst hi; rfl
  | succ n ih => intro i hi; show tF μ q n (i + 1) (tSt μ q i (tN b i)) = _; rw [tN_s μ q b i (by omega) (hb i (by omega)), ih (i + 1) (by omega)]
theorem mEN : ∀ j, j < 34 → (17113154305 : Int64).toBitVec.getLsbD j = xEn (nI j) := by decide +kernel
theorem mNE : ∀ j, j < 34 → (-17113154306 : Int64).toBitVec.getLsbD j = !xEn (nI j) := by decide +kernel
theorem mNH : ∀ j, j < 34 → (-17045651457 : Int64).toBitVec.getLsbD j = !xHo (nI j) := by decide +kernel
theorem mHo : ∀ j, j < 34 → (17045651456 : Int64).toBitVec.getLsbD j = xHo (nI j) := by decide +kernel
theorem mNT : ∀ j, j < 34 → (-67502850 : Int64).toBitVec.getLsbD j = !xTe (nI j) := by decide +kernel
theorem mNG : ∀ j, j < 34 → (-4340580353 : Int64).toBitVec.getLsbD j = !xGr (nI j) := by decide +kernel
theorem mU0 : ∀ j, j < 34 → (511 <<< ((0 : Int32).toInt64 &&& 63) : Int64).toBitVec.getLsbD j = decide (j < 9) := by decide +kernel
theorem mU1 : ∀ j, j < 34 → (511 <<< ((9 : Int32).toInt64 &&& 63) : Int64).toBitVec.getLsbD j = (decide (9 ≤ j) && decide (j < 18)) := by decide +kernel
theorem mU2 : ∀ j, j < 34 → (511 <<< ((18 : Int32).toInt64 &&& 63) : Int64).toBitVec.getLsbD j = (decide (18 ≤ j) && decide (j < 27)) := by decide +kernel
theorem mT0 : ∀ j, j < 64 → (511 <<< ((0 : Int32).toInt64 &&& 63) : Int64).toBitVec.getLsbD j = (decide (j < 34) && decide (j < 9)) := by decide +kernel
theorem mT1 : ∀ j, j < 64 → (511 <<< ((9 : Int32).toInt64 &&& 63) : Int64).toBitVec.getLsbD j = (decide (j < 34) && (decide (9 ≤ j) && decide (j < 18))) := by decide +kernel
theorem mT2 : ∀ j, j < 64 → (511 <<< ((18 : Int32).toInt64 &&& 63) : Int64).toBitVec.getLsbD j = (decide (j < 34) && (decide (18 ≤ j) && decide (j < 27))) := by decide +kernel
theorem ks_an (b : Nat → Bool) (m : Int64) (f : Nat → Bool) (hm : ∀ j, j < 34 → m.toBitVec.getLsbD j = f j) : decide (lg_cmp (kb b 34 &&& m) 0 = 0) = !an (fun k => b k && f k) 34 := by
  rw [Bool.eq_iff_iff, ks_m b m f hm, Bool.not_eq_true', ← Bool.not_eq_true, an_iff]
  constructor
  · rintro z ⟨k, hk, hh⟩
    rw [Bool.and_eq_true] at hh
    rw [z k hk hh.1] at hh
    exact absurd hh.2 (by decide)
  · intro z j hj hb
    rw [← Bool.not_eq_true]
    exact fun y => z ⟨j, hj, by rw [Bool.and_eq_true]; exact ⟨hb, y⟩⟩
theorem TF_eq (b : Nat → Bool) (ng : Bool) : xTF (kb b 34) ng = (((((((lb (tN b 34).2.1 8) ||| (lb (tN b 34).1 24)) ||| (lb (one7 (tN b 34).2.2.2.2.2.2 && (tN b 34).2.2.2.1) 26)) ||| (lb (one7 (tN b 34).2.2.2.2.2.2 && !(tN b 34).2.2.2.1) 29)) ||| (lb (tN b 34).2.2.1 37)) ||| (lb (tN b 34).2.2.2.2.1 38)) ||| (lb (tN b 34).2.2.2.2.2.1 39)) ||| (lb ng 40) := by
  unfold xTF
  rw [ks_an b _ _ mEN, ks_an b _ _ mNE, ks_an b _ _ mU0, ks_an b _ _ mU1, ks_an b _ _ mU2, ks_an b _ _ mHo, ks_an b _ _ mNH, ks_an b _ _ mNT, ks_an b _ _ mNG]
  rw [Bool.not_not, Bool.not_not, Bool.not_not, Bool.not_not, su_one]
  rfl
