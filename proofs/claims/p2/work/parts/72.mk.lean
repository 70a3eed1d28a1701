/-! seven PAIRS, thirteen ends, and bits -/
def cn (b : Nat → Bool) : Nat → Nat
  | 0 => 0
  | n + 1 => cn b n + (if b n = true then 1 else 0)
theorem cn_congr {b c : Nat → Bool} {n : Nat} (h : ∀ k, k < n → b k = c k) : cn b n = cn c n := by
  induction n with
  | zero => rfl
  | succ n ih => show cn b n + _ = cn c n + _; rw [ih (fun k hk => h k (by omega)), h n (by omega)]
/-- how many kinds are twice there -/
theorem sn_two (w : Nat → Nat) : ∀ n, sn w n = 2 * cn (fun k => decide (w k = 2)) n + sn (fun k => if w k = 2 then 0 else w k) n := by
  intro n
  induction n with
  | zero => rfl
  | succ n ih =>
    show sn w n + w n = 2 * (cn (fun k => decide (w k = 2)) n + (if decide (w n = 2) = true then 1 else 0)) + (sn (fun k => if w k = 2 then 0 else w k) n + (if w n = 2 then 0 else w n))
    by_cases c : w n = 2
    · rw [if_pos (decide_eq_true c), if_pos c]; omega
    · rw [if_neg (by rw [decide_eq_true_iff]; exact c), if_neg c]; omega
theorem f7_iff {w : Nat → Nat} (h : sn w 34 = 14) : (∀ k, k < 34 → w k = 0 ∨ w k = 2) ↔ cn (fun k => decide (w k = 2)) 34 = 7 := by
  have e := sn_two w 34
  constructor
  · intro q
    have z : sn (fun k => if w k = 2 then 0 else w k) 34 = sn (fun _ => 0) 34 := sn_congr (fun k hk => by
      rcases q k hk with c | c
      · show (if w k = 2 then 0 else w k) = 0
        rw [if_neg (by omega), c]
      · show (if w k = 2 then 0 else w k) = 0
        rw [if_pos c])
    have z0 : sn (fun _ => 0) 34 = 0 := rfl
    omega
  · intro q k hk
    have := sn_le (f := fun k => if w k = 2 then 0 else w k) hk
    have t : (if w k = 2 then 0 else w k) ≤ 0 := by
      have : (if w k = 2 then 0 else w k) ≤ sn (fun k => if w k = 2 then 0 else w k) 34 := this
      omega
    by_cases c : w k = 2
    · exact Or.inr c
    · rw [if_neg c] at t; exact Or.inl (by omega)
/-- the ends -/
def eN (k : Nat) : Bool := decide (27 ≤ k) || (decide (k % 9 = 0) || decide (k % 9 = 8))
theorem cnd_le (b : Nat → Bool) (c : Nat → Bool) : ∀ n, cn (fun k => b k && c k) n ≤ cn b n ∧ (cn (fun k => b k && c k) n = cn b n → ∀ k, k < n → b k = true → c k = true) := by
  intro n
  induction n with
  | zero => exact ⟨Nat.le_refl _, fun _ k hk => by omega⟩
  | succ n ih =>
    show cn (fun k => b k && c k) n + (if (b n && c n) = true then 1 else 0) ≤ cn b n + (if b n = true then 1 else 0) ∧ (cn (fun k => b k && c k) n + (if (b n && c n) = true then 1 else 0) = cn b n + (if b n = true then 1 else 0) → _)
    obtain ⟨i1, i2⟩ := ih
    cases hb : b n with
    | false =>
      refine ⟨by simpa using i1, fun q k hk hk2 => ?_⟩
      have q : cn (fun k => b k && c k) n = cn b n := by simpa using q
      by_cases e : k = n
      · rw [e, hb] at hk2; cases hk2
      · exact i2 q k (by omega) hk2
    | true =>
      cases hc : c n with
      | false =>
        refine ⟨by simp; omega, fun q => ?_⟩
        have q : cn (fun k => b k && c k) n = cn b n + 1 := by simpa using q
        omega
      | true =>
        refine ⟨by simpa using i1, fun q k hk hk2 => ?_⟩
        have q : cn (fun k => b k && c k) n = cn b n := by simpa using q
        by_cases e : k = n
        · rw [e]; exact hc
        · exact i2 q k (by omega) hk2
theorem sn_ex (w : Nat → Nat) : ∀ n, (∀ k, k < n → eN k = true → 0 < w k) → sn w n = sn (fun k => w k - (if eN k = true then 1 else 0)) n + cn eN n := by
  intro n
  induction n with
  | zero => intro _; rfl
  | succ n ih =>
    intro h
    show sn w n + w n = sn (fun k => w k - (if eN k = true then 1 else 0)) n + (w n - (if eN n = true then 1 else 0)) + (cn eN n + (if eN n = true then 1 else 0))
    rw [ih (fun k hk => h k (by omega))]
    cases e : eN n with
    | false => simp; omega
    | true =>
      have := h n (by omega) e
      simp
      omega
theorem f13_iff {w : Nat → Nat} (h : sn w 34 = 14) : (∀ k, k < 34 → (0 < w k ↔ eN k = true)) ↔ (cn (fun k => eN k && decide (0 < w k)) 34 = 13 ∧ ∃ k, k < 34 ∧ eN k = true ∧ w k = 2) := by
  have c13 : cn eN 34 = 13 := by decide
  constructor
  · intro q
    have e := sn_ex w 34 (fun k hk he => (q k hk).mpr he)
    have c : cn (fun k => eN k && decide (0 < w k)) 34 = cn eN 34 := cn_congr (fun k hk => by
      cases he : eN k with
      | false => rfl
      | true => show (true && decide (0 < w k)) = true; rw [decide_eq_true ((q k hk).mpr he)]; rfl)
    refine ⟨c.trans c13, ?_⟩
    obtain ⟨k, hk, hp⟩ := sn_pos (f := fun k => w k - (if eN k = true then 1 else 0)) (n := 34) (by omega)
    have hp : 0 < w k - (if eN k = true then 1 else 0) := hp
    have hw : 0 < w k := by omega
    have he := (q k hk).mp hw
    rw [if_pos he] at hp
    have hu : w k - (if eN k = true then 1 else 0) ≤ sn (fun k => w k - (if eN k = true then 1 else 0)) 34 := sn_le (f := fun k => w k - (if eN k = true then 1 else 0)) hk
    rw [if_pos he] at hu
    exact ⟨k, hk, he, by omega⟩
  · rintro ⟨q, c, hc, ec, wc⟩ k hk
    have hall : ∀ k, k < 34 → eN k = true → 0 < w k := fun k hk he => of_decide_eq_true ((cnd_le eN (fun k => decide (0 < w k)) 34).2 (by rw [q, c13]) k hk he)
    have e := sn_ex w 34 hall
    refine ⟨fun hp => ?_, hall k hk⟩
    cases he : eN k with
    | true => rfl
    | false =>
      exfalso
      have hne : k ≠ c := fun z => by rw [z, ec] at he; cases he
      have u := sn_upd (f := fun k => w k - (if eN k = true then 1 else 0)) (g := fun j => if j = c then 0 else w j - (if eN j = true then 1 else 0)) (c := c) (n := 34) (d := 1) hc (fun j _ hj => by rw [if_neg hj]) (by rw [if_pos rfl, if_pos ec, wc])
      have hu : (if k = c then 0 else w k - (if eN k = true then 1 else 0)) ≤ sn (fun j => if j = c then 0 else w j - (if eN j = true then 1 else 0)) 34 := sn_le (f := fun j => if j = c then 0 else w j - (if eN j = true then 1 else 0)) hk
      rw [if_neg hne, he] at hu
      have hu : w k - 0 ≤ _ := hu
      omega
/-! bits -/
def kb (b : Nat → Bool) : Nat → Int64
  | 0 => 0
  | n + 1 => if b n = true then kb b n ||| ((1 : Int64) <<< ((nI n).toInt64 &&& 63)) else kb b n
theorem kb_congr {b c : Nat → Bool} {n : Nat} (h : ∀ k, k < n → b k = c k) : kb b n = kb c n := by
  induction n with
  | zero => rfl
  | succ n ih =>
    show (if b n = true then kb b n ||| _ else kb b n) = (if c n = true then kb c n ||| _ else kb c n)
    rw [ih (fun k hk => h k (by omega)), h n (by omega)]
theorem kb_one : ∀ n, n < 34 → ((1 : Int64) <<< ((nI n).toInt64 &&& 63)).toBitVec = BitVec.twoPow 64 n := by decide +kernel
theorem kb_bit (b : Nat → Bool) : ∀ n, n ≤ 34 → ∀ j, j < 34 → (kb b n).toBitVec.getLsbD j = (decide (j < n) && b j) := by
  intro n
  induction n with
  | zero =>
    intro _ j hj
    show (0 : Int64).toBitVec.getLsbD j = _
    have : ∀ j, j < 34 → (0 : Int64).toBitVec.getLsbD j = false := by decide +kernel
    rw [this j hj]
    simp
  | succ n ih =>
    intro hn j hj
    have i := ih (by omega) j hj
    show (if b n = true then kb b n ||| _ else kb b n).toBitVec.getLsbD j = _
    cases hb : b n with
    | false =>
      rw [if_neg (by decide), i]
      by_cases e : j = n
      · rw [e, hb]; simp
      · have : decide (j < n + 1) = decide (j < n) := by rw [decide_eq_decide]; omega
        rw [this]
    | true =>
      rw [if_pos rfl, Int64.toBitVec_or, BitVec.getLsbD_or, i, kb_one n (by omega), BitVec.getLsbD_twoPow]
      by_cases e : j = n
      · subst e; rw [hb]; simp; omega
      · have : decide (j < n + 1) = decide (j < n) := by rw [decide_eq_decide]; omega
        rw [this]
        simp [show ¬ n = j by omega]
theorem kb_inj {b c : Nat → Bool} (h : kb b 34 = kb c 34) : ∀ k, k < 34 → b k = c k := by
  intro k hk
  have h1 := kb_bit b 34 (Nat.le_refl _) k hk
  have h2 := kb_bit c 34 (Nat.le_refl _) k hk
  rw [h, h2] at h1
  simpa [hk] using h1.symm
/-- a full hand, as the class says it -/
def sb2 (w : Nat → Nat) (p : Nat) : Nat → Nat := fun j => if j = p then w j - 2 else w j
def FU (w : Nat → Nat) (q : Nat) : Prop := (∃ p, p < 34 ∧ 2 ≤ w p ∧ gr (sb2 w p) 34 0 0 0 = true) ∨ (q = 0 ∧ ((∀ k, k < 34 → w k = 0 ∨ w k = 2) ∨ ∀ k, k < 34 → (0 < w k ↔ eN k = true)))
/-- as the reference says it -/
def FM (w : Nat → Nat) (q : Nat) : Prop := (∃ p, p < 34 ∧ 2 ≤ w p ∧ dc (4 - q) (sb2 w p) 0 0) ∨ (q = 0 ∧ (cn (fun k => decide (w k = 2)) 34 = 7 ∨ (cn (fun k => eN k && decide (0 < w k)) 34 = 13 ∧ ∃ k, k < 34 ∧ eN k = true ∧ w k = 2)))
theorem sn_sb2 {w : Nat → Nat} {p : Nat} (hp : p < 34) (h2 : 2 ≤ w p) : sn (sb2 w p) 34 + 2 = sn w 34 := sn_upd (f := w) (g := sb2 w p) hp (fun k _ hk => by unfold sb2; rw [if_neg hk]) (by unfold sb2; rw [if_pos rfl]; omega)
theorem FU_FM {w : Nat → Nat} {q : Nat} (hq : q ≤ 4) (h : sn w 34 + 3 * q = 14) : FU w q ↔ FM w q := by
  have a : ∀ p, p < 34 → 2 ≤ w p → (dc (4 - q) (sb2 w p) 0 0 ↔ gr (sb2 w p) 34 0 0 0 = true) := fun p hp h2 => dc_gr (by have := sn_sb2 hp h2; omega)
  unfold FU FM
  constructor
  · rintro (⟨p, h1, h2, h3⟩ | ⟨h0, h1⟩)
    · exact Or.inl ⟨p, h1, h2, (a p h1 h2).mpr h3⟩
    · have h14 : sn w 34 = 14 := by omega
      rw [f7_iff h14, f13_iff h14] at h1
      exact Or.inr ⟨h0, h1⟩
  · rintro (⟨p, h1, h2, h3⟩ | ⟨h0, h1⟩)
    · exact Or.inl ⟨p, h1, h2, (a p h1 h2).mp h3⟩
    · have h14 : sn w 34 = 14 := by omega
      rw [← f7_iff h14, ← f13_iff h14] at h1
      exact Or.inr ⟨h0, h1⟩
