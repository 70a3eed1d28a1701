/-! a way: THREES and RUNS as bits; both sides' FORMS alike -/
set_option maxRecDepth 8000
theorem tB_bit (s l : Nat → Nat) (n : Nat) : ∀ i, (∀ j, j < i → l j < 34) → ((tB s l i).toBitVec.getLsbD n = true ↔ ∃ j, j < i ∧ ¬ s j = 0 ∧ l j = n) := by
  intro i
  induction i with
  | zero => intro _; exact ⟨fun h => absurd h (by rw [show (tB s l 0).toBitVec = 0#64 from rfl, BitVec.getLsbD_zero]; decide), fun ⟨j, hj, _⟩ => absurd hj (by omega)⟩
  | succ i ih =>
    intro hl
    have i1 := ih (fun j hj => hl j (by omega))
    show (if s i = 0 then tB s l i else tB s l i ||| ((1 : Int64) <<< ((nI (l i)).toInt64 &&& 63))).toBitVec.getLsbD n = true ↔ _
    by_cases h : s i = 0
    · rw [if_pos h, i1]
      exact ⟨fun ⟨j, h1, h2⟩ => ⟨j, by omega, h2⟩, fun ⟨j, h1, h2⟩ => ⟨j, if e : j = i then (by rw [e] at h2; exact absurd h h2.1) else (by omega), h2⟩⟩
    · rw [if_neg h, Int64.toBitVec_or, BitVec.getLsbD_or, Bool.or_eq_true, i1, show ((1 : Int64) <<< ((nI (l i)).toInt64 &&& 63)) = lb true (nI (l i)) from rfl, lb_bit true _ (l i) rfl (by have := hl i (by omega); omega), Bool.true_and, decide_eq_true_iff]
      constructor
      · rintro (⟨j, h1, h2⟩ | e)
        · exact ⟨j, by omega, h2⟩
        · exact ⟨i, by omega, h, e⟩
      · rintro ⟨j, h1, h2, h3⟩
        by_cases e : j = i
        · rw [e] at h3; exact Or.inr h3
        · exact Or.inl ⟨j, by omega, h2, h3⟩
theorem rB_bit (s l : Nat → Nat) (n : Nat) : ∀ i, (∀ j, j < i → l j < 34) → ((rB s l i).toBitVec.getLsbD n = true ↔ ∃ j, j < i ∧ s j = 0 ∧ l j = n) := by
  intro i
  induction i with
  | zero => intro _; exact ⟨fun h => absurd h (by rw [show (rB s l 0).toBitVec = 0#64 from rfl, BitVec.getLsbD_zero]; decide), fun ⟨j, hj, _⟩ => absurd hj (by omega)⟩
  | succ i ih =>
    intro hl
    have i1 := ih (fun j hj => hl j (by omega))
    show (if s i = 0 then rB s l i ||| ((1 : Int64) <<< ((nI (l i)).toInt64 &&& 63)) else rB s l i).toBitVec.getLsbD n = true ↔ _
    by_cases h : s i = 0
    · rw [if_pos h, Int64.toBitVec_or, BitVec.getLsbD_or, Bool.or_eq_true, i1, show ((1 : Int64) <<< ((nI (l i)).toInt64 &&& 63)) = lb true (nI (l i)) from rfl, lb_bit true _ (l i) rfl (by have := hl i (by omega); omega), Bool.true_and, decide_eq_true_iff]
      constructor
      · rintro (⟨j, h1, h2⟩ | e)
        · exact ⟨j, by omega, h2⟩
        · exact ⟨i, by omega, h, e⟩
      · rintro ⟨j, h1, h2, h3⟩
        by_cases e : j = i
        · rw [e] at h3; exact Or.inr h3
        · exact Or.inl ⟨j, by omega, h2, h3⟩
    · rw [if_neg h, i1]
      exact ⟨fun ⟨j, h1, h2⟩ => ⟨j, by omega, h2⟩, fun ⟨j, h1, h2⟩ => ⟨j, if e : j = i then (by rw [e] at h2; exact absurd h2.1 h) else (by omega), h2⟩⟩
theorem ex4 {P : Nat → Prop} : (∃ j, j < 4 ∧ P j) ↔ (((P 0 ∨ P 1) ∨ P 2) ∨ P 3) := by
  constructor
  · rintro ⟨j, hj, h⟩
    rcases j with _ | _ | _ | _ | j
    · exact Or.inl (Or.inl (Or.inl h))
    · exact Or.inl (Or.inl (Or.inr h))
    · exact Or.inl (Or.inr h)
    · exact Or.inr h
    · omega
  · rintro (((h | h) | h) | h)
    · exact ⟨0, by omega, h⟩
    · exact ⟨1, by omega, h⟩
    · exact ⟨2, by omega, h⟩
    · exact ⟨3, by omega, h⟩
/-- what is known of a way -/
def WY (q p co : Nat) (s l : Nat → Nat) : Prop := (q ≤ 4) ∧ (p < 34) ∧ (co < 5) ∧ (q ≤ co) ∧ (∀ j, j < 4 → s j ≤ 3 ∧ l j < 34 ∧ (s j = 0 → rs (l j))) ∧ (∀ j, q ≤ j → j < 4 → s j ≤ 1)
theorem WY.q4 {q p co : Nat} {s l : Nat → Nat} (h : WY q p co s l) : q ≤ 4 := h.1
theorem WY.p34 {q p co : Nat} {s l : Nat → Nat} (h : WY q p co s l) : p < 34 := h.2.1
theorem WY.c5 {q p co : Nat} {s l : Nat → Nat} (h : WY q p co s l) : co < 5 := h.2.2.1
theorem WY.qc {q p co : Nat} {s l : Nat → Nat} (h : WY q p co s l) : q ≤ co := h.2.2.2.1
theorem WY.sl {q p co : Nat} {s l : Nat → Nat} (h : WY q p co s l) : ∀ j, j < 4 → s j ≤ 3 ∧ l j < 34 ∧ (s j = 0 → rs (l j)) := h.2.2.2.2.1
theorem WY.s1 {q p co : Nat} {s l : Nat → Nat} (h : WY q p co s l) : ∀ j, q ≤ j → j < 4 → s j ≤ 1 := h.2.2.2.2.2
theorem WY.n0 {q : Nat} {p : Nat} {co : Nat} {s : Nat → Nat} {l : Nat → Nat} (h : WY q p co s l) (j : Nat) (hj : j < 4) : decide (nI (s j) = 0) = decide (s j = 0) := decide_eq_decide.mpr (nI_eq (by have := (h.sl j hj).1; omega) (show 0 < 2 ^ 31 by decide))
theorem WY.nk {q : Nat} {p : Nat} {co : Nat} {s : Nat → Nat} {l : Nat → Nat} (h : WY q p co s l) (j : Nat) (hj : j < 4) (k : Nat) (hk : k < 4) : decide (nI (s j) = nI k) = decide (s j = k) := decide_eq_decide.mpr (nI_eq (by have := (h.sl j hj).1; omega) (by omega))
theorem WY.nl {q : Nat} {p : Nat} {co : Nat} {s : Nat → Nat} {l : Nat → Nat} (h : WY q p co s l) (j : Nat) (hj : j < 4) (n : Nat) (hn : n < 100) : decide (nI (l j) = nI n) = decide (l j = n) := decide_eq_decide.mpr (nI_eq (by have := (h.sl j hj).2.1; omega) (by omega))
theorem WY.aT {q : Nat} {p : Nat} {co : Nat} {s : Nat → Nat} {l : Nat → Nat} (h : WY q p co s l) (κM : zM) (n : Nat) (hn : n < 64) : xT (yM κM s l (nI p) (nI co)) (nI n) = (tB s l 4).toBitVec.getLsbD n := by
  rw [Bool.eq_iff_iff, tB_bit s l n 4 (fun j hj => (h.sl j hj).2.1), ex4]
  show (((((!decide (nI (s 0) = 0)) && decide (nI (l 0) = nI n)) || ((!decide (nI (s 1) = 0)) && decide (nI (l 1) = nI n))) || ((!decide (nI (s 2) = 0)) && decide (nI (l 2) = nI n))) || ((!decide (nI (s 3) = 0)) && decide (nI (l 3) = nI n))) = true ↔ _
  rw [h.n0 0 (by omega), h.n0 1 (by omega), h.n0 2 (by omega), h.n0 3 (by omega), h.nl 0 (by omega) n (by omega), h.nl 1 (by omega) n (by omega), h.nl 2 (by omega) n (by omega), h.nl 3 (by omega) n (by omega)]
  simp only [Bool.or_eq_true, Bool.and_eq_true, Bool.not_eq_true', decide_eq_false_iff_not, decide_eq_true_iff]
theorem WY.aR {q : Nat} {p : Nat} {co : Nat} {s : Nat → Nat} {l : Nat → Nat} (h : WY q p co s l) (κM : zM) (n : Nat) (hn : n < 64) : xR (yM κM s l (nI p) (nI co)) (nI n) = (rB s l 4).toBitVec.getLsbD n := by
  rw [Bool.eq_iff_iff, rB_bit s l n 4 (fun j hj => (h.sl j hj).2.1), ex4]
  show ((((decide (nI (s 0) = 0) && decide (nI (l 0) = nI n)) || (decide (nI (s 1) = 0) && decide (nI (l 1) = nI n))) || (decide (nI (s 2) = 0) && decide (nI (l 2) = nI n))) || (decide (nI (s 3) = 0) && decide (nI (l 3) = nI n))) = true ↔ _
  rw [h.n0 0 (by omega), h.n0 1 (by omega), h.n0 2 (by omega), h.n0 3 (by omega), h.nl 0 (by omega) n (by omega), h.nl 1 (by omega) n (by omega), h.nl 2 (by omega) n (by omega), h.nl 3 (by omega) n (by omega)]
  simp only [Bool.or_eq_true, Bool.and_eq_true, decide_eq_true_iff]
/-- no RUN begins at 7, 8 -/
theorem WY.r78 {q : Nat} {p : Nat} {co : Nat} {s : Nat → Nat} {l : Nat → Nat} (h : WY q p co s l) (n : Nat) (hn : ¬ rs n) : (rB s l 4).toBitVec.getLsbD n = false := by
  rw [← Bool.not_eq_true, rB_bit s l n 4 (fun j hj => (h.sl j hj).2.1)]
  rintro ⟨j, hj, h1, h2⟩
  exact hn (h2 ▸ (h.sl j hj).2.2 h1)
theorem WY.rhi {q : Nat} {p : Nat} {co : Nat} {s : Nat → Nat} {l : Nat → Nat} (h : WY q p co s l) (n : Nat) (hn : 34 ≤ n) : (rB s l 4).toBitVec.getLsbD n = false := by
  rw [← Bool.not_eq_true, rB_bit s l n 4 (fun j hj => (h.sl j hj).2.1)]
  rintro ⟨j, hj, h1, h2⟩
  have := (h.sl j hj).2.1; omega
/-- RUNS: none, or some -/
theorem WY.r0 {q : Nat} {p : Nat} {co : Nat} {s : Nat → Nat} {l : Nat → Nat} (h : WY q p co s l) (κM : zM) : decide (lg_cmp (rB s l 4) 0 = 0) = decide (w0_1 (yM κM s l (nI p) (nI co)) q s l = 0) := by
  have e : decide (lg_cmp (rB s l 4) 0 = 0) = (((!decide (s 0 = 0) && !decide (s 1 = 0)) && !decide (s 2 = 0)) && !decide (s 3 = 0)) := by
    rw [Bool.eq_iff_iff, decide_eq_true_iff, lg_c0]
    have e0 : (∃ j, j < 4 ∧ s j = 0) ↔ (((s 0 = 0 ∨ s 1 = 0) ∨ s 2 = 0) ∨ s 3 = 0) := ex4
    simp only [Bool.and_eq_true, Bool.not_eq_true', decide_eq_false_iff_not]
    constructor
    · intro z
      have n0 : ¬ ∃ j, j < 4 ∧ s j = 0 := fun ⟨j, hj, hz⟩ => by
        have := (rB_bit s l (l j) 4 (fun j hj => (h.sl j hj).2.1)).mpr ⟨j, hj, hz, rfl⟩
        rw [z] at this
        exact absurd this (by show ¬ (0#64).getLsbD (l j) = true; rw [BitVec.getLsbD_zero]; decide)
      rw [e0] at n0
      simp only [not_or] at n0
      exact n0
    · intro z
      refine i64_ext (fun n _ => ?_)
      show _ = (0#64).getLsbD n
      rw [BitVec.getLsbD_zero, ← Bool.not_eq_true, rB_bit s l n 4 (fun j hj => (h.sl j hj).2.1)]
      rintro ⟨j, hj, h1, _⟩
      have := e0.mp ⟨j, hj, h1⟩
      rcases this with ((y | y) | y) | y
      · exact z.1.1.1 y
      · exact z.1.1.2 y
      · exact z.1.2 y
      · exact z.2 y
  rw [e]
  show _ = decide ((((0 + nB (decide (nI (s 0) = 0))) + nB (decide (nI (s 1) = 0))) + nB (decide (nI (s 2) = 0))) + nB (decide (nI (s 3) = 0)) = 0)
  rw [h.n0 0 (by omega), h.n0 1 (by omega), h.n0 2 (by omega), h.n0 3 (by omega)]
  generalize decide (s 0 = 0) = a
  generalize decide (s 1 = 0) = b
  generalize decide (s 2 = 0) = c
  generalize decide (s 3 = 0) = d
  revert a b c d
  decide +kernel
/-- no THREE: four RUNS -/
theorem WY.t0 {q : Nat} {p : Nat} {co : Nat} {s : Nat → Nat} {l : Nat → Nat} (h : WY q p co s l) (κM : zM) : decide (lg_cmp (tB s l 4) 0 = 0) = decide (w0_1 (yM κM s l (nI p) (nI co)) q s l = 4) := by
  have e : decide (lg_cmp (tB s l 4) 0 = 0) = (((decide (s 0 = 0) && decide (s 1 = 0)) && decide (s 2 = 0)) && decide (s 3 = 0)) := by
    rw [Bool.eq_iff_iff, decide_eq_true_iff, lg_c0]
    have e0 : (∃ j, j < 4 ∧ ¬ s j = 0) ↔ (((¬ s 0 = 0 ∨ ¬ s 1 = 0) ∨ ¬ s 2 = 0) ∨ ¬ s 3 = 0) := ex4
    simp only [Bool.and_eq_true, decide_eq_true_iff]
    constructor
    · intro z
      have n0 : ¬ ∃ j, j < 4 ∧ ¬ s j = 0 := fun ⟨j, hj, hz⟩ => by
        have := (tB_bit s l (l j) 4 (fun j hj => (h.sl j hj).2.1)).mpr ⟨j, hj, hz, rfl⟩
        rw [z] at this
        exact absurd this (by show ¬ (0#64).getLsbD (l j) = true; rw [BitVec.getLsbD_zero]; decide)
      rw [e0] at n0
      omega
    · intro z
      refine i64_ext (fun n _ => ?_)
      show _ = (0#64).getLsbD n
      rw [BitVec.getLsbD_zero, ← Bool.not_eq_true, tB_bit s l n 4 (fun j hj => (h.sl j hj).2.1)]
      rintro ⟨j, hj, h1, _⟩
      have := e0.mp ⟨j, hj, h1⟩
      omega
  rw [e]
  show _ = decide ((((0 + nB (decide (nI (s 0) = 0))) + nB (decide (nI (s 1) = 0))) + nB (decide (nI (s 2) = 0))) + nB (decide (nI (s 3) = 0)) = 4)
  rw [h.n0 0 (by omega), h.n0 1 (by omega), h.n0 2 (by omega), h.n0 3 (by omega)]
  generalize decide (s 0 = 0) = a
  generalize decide (s 1 = 0) = b
  generalize decide (s 2 = 0) = c
  generalize decide (s 3 = 0) = d
  revert a b c d
  decide +kernel
/-- bits that are shifted -/
theorem us_sh (x : Int64) (k : Nat) (c : Int32) (hc : c = nI k) (hk : k < 64) (n : Nat) : ((x.toUInt64 >>> (c.toInt64.toUInt64 &&& Int64.toUInt64 63)).toInt64).toBitVec.getLsbD n = x.toBitVec.getLsbD (k + n) := by
  subst hc
  rw [us_n k hk]
  show (x.toUInt64 >>> UInt64.ofNat k).toBitVec.getLsbD n = _
  rw [UInt64.toBitVec_shiftRight]
  have : (UInt64.ofNat k).toBitVec % 64 = BitVec.ofNat 64 k := by
    revert k; decide +kernel
  rw [this]
  show (x.toBitVec >>> (BitVec.ofNat 64 k)).getLsbD n = _
  rw [BitVec.ushiftRight_eq', BitVec.toNat_ofNat, Nat.mod_eq_of_lt (by omega), BitVec.getLsbD_ushiftRight]
theorem ne0_bit (x : Int64) : (!decide (lg_cmp x 0 = 0)) = true ↔ ∃ n, n < 64 ∧ x.toBitVec.getLsbD n = true := by
  rw [Bool.not_eq_true', decide_eq_false_iff_not, lg_c0]
  constructor
  · intro z
    apply Classical.byContradiction
    intro y
    refine z (i64_ext (fun n hn => ?_))
    show _ = (0#64).getLsbD n
    rw [BitVec.getLsbD_zero, ← Bool.not_eq_true]
    exact fun w => y ⟨n, hn, w⟩
  · rintro ⟨n, hn, h⟩ z
    rw [z] at h
    exact absurd h (by show ¬ (0#64).getLsbD n = true; rw [BitVec.getLsbD_zero]; decide)
theorem m511 : ∀ n, n < 64 → (511 : Int64).toBitVec.getLsbD n = decide (n < 9) := by decide +kernel
/-- in all three suits -/
theorem all3 (x : Int64) : (!(decide ((lg_cmp (((x &&& ((x.toUInt64 >>> ((9 : Int32).toInt64.toUInt64 &&& Int64.toUInt64 63)).toInt64)) &&& ((x.toUInt64 >>> ((18 : Int32).toInt64.toUInt64 &&& Int64.toUInt64 63)).toInt64)) &&& 511) 0) = 0))) = true ↔ ∃ n, n < 9 ∧ x.toBitVec.getLsbD n = true ∧ x.toBitVec.getLsbD (9 + n) = true ∧ x.toBitVec.getLsbD (18 + n) = true := by
  rw [ne0_bit]
  have e : ∀ n, n < 64 → ((((x &&& ((x.toUInt64 >>> ((9 : Int32).toInt64.toUInt64 &&& Int64.toUInt64 63)).toInt64)) &&& ((x.toUInt64 >>> ((18 : Int32).toInt64.toUInt64 &&& Int64.toUInt64 63)).toInt64)) &&& 511).toBitVec.getLsbD n = true ↔ (n < 9 ∧ x.toBitVec.getLsbD n = true ∧ x.toBitVec.getLsbD (9 + n) = true ∧ x.toBitVec.getLsbD (18 + n) = true)) := fun n hn => by
    rw [Int64.toBitVec_and, BitVec.getLsbD_and, Int64.toBitVec_and, BitVec.getLsbD_and, Int64.toBitVec_and, BitVec.getLsbD_and, us_sh x 9 9 rfl (by decide) n, us_sh x 18 18 rfl (by decide) n, m511 n hn]
    simp only [Bool.and_eq_true, decide_eq_true_iff]
    constructor
    · rintro ⟨⟨⟨a, b⟩, c⟩, d⟩; exact ⟨d, a, b, c⟩
    · rintro ⟨d, a, b, c⟩; exact ⟨⟨⟨a, b⟩, c⟩, d⟩
  constructor
  · rintro ⟨n, hn, z⟩; exact ⟨n, (e n hn).mp z⟩
  · rintro ⟨n, hn, z⟩; exact ⟨n, by omega, (e n (by omega)).mpr ⟨hn, z⟩⟩
theorem m73 : ∀ n, n < 64 → (73 : Int64).toBitVec.getLsbD n = (decide (n = 0) || (decide (n = 3) || decide (n = 6))) := by decide +kernel
theorem is73 (x : Int64) (k : Nat) (c : Int32) (hc : c = nI k) (hk : k < 50) : decide (lg_cmp (((x.toUInt64 >>> (c.toInt64.toUInt64 &&& Int64.toUInt64 63)).toInt64) &&& 73) 73 = 0) = (x.toBitVec.getLsbD k && (x.toBitVec.getLsbD (k + 3) && x.toBitVec.getLsbD (k + 6))) := by
  rw [Bool.eq_iff_iff, decide_eq_true_iff, lg_c0, Bool.and_eq_true, Bool.and_eq_true]
  have e : ∀ n, ((((x.toUInt64 >>> (c.toInt64.toUInt64 &&& Int64.toUInt64 63)).toInt64) &&& 73).toBitVec.getLsbD n) = (x.toBitVec.getLsbD (k + n) && (73 : Int64).toBitVec.getLsbD n) := fun n => by rw [Int64.toBitVec_and, BitVec.getLsbD_and, us_sh x k c hc (by omega) n]
  constructor
  · intro z
    have f := fun n => (e n).symm.trans (by rw [z])
    refine ⟨?_, ?_, ?_⟩
    · have := f 0; rw [m73 0 (by decide)] at this; simpa using this
    · have := f 3; rw [m73 3 (by decide)] at this; simpa using this
    · have := f 6; rw [m73 6 (by decide)] at this; simpa using this
  · rintro ⟨a, b, d⟩
    refine i64_ext (fun n hn => ?_)
    rw [e, m73 n hn]
    by_cases h0 : n = 0
    · subst h0; rw [Nat.add_zero, a]; rfl
    · by_cases h3 : n = 3
      · subst h3; rw [b]; rfl
      · by_cases h6 : n = 6
        · subst h6; rw [d]; rfl
        · rw [decide_eq_false h0, decide_eq_false h3, decide_eq_false h6]; exact Bool.and_false _
