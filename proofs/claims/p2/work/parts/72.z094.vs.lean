/-! run answers alike: what may not be discarded -/
set_option maxRecDepth 8000
def abL0 (l : Nat) : Int32 := (bif decide (6 ≤ ((nI l) - (nI l) / 9 * 9)) then (-1 : Int32) else nI (l + 3))
def oeL0 (l : Nat) : Int64 := (bif srB (nI l + 1) then (1 : Int64) <<< ((nI l + 3).toInt64 &&& 63) else 0)
def bsL0 (l : Nat) : Int64 := ((1 : Int64) <<< ((nI l).toInt64 &&& 63)) ||| oeL0 l
def usL0 (l : Nat) : Int64 := ((7 : Int64) <<< ((nI l).toInt64 &&& 63)) &&& (((1 : Int64) <<< ((nI l).toInt64 &&& 63)) ^^^ (-1))
theorem oe_eq0 : ∀ l, l < 32 → (bif decide ((nI l) = nI l) then bif srB (nI l + 1) then 1 <<< ((nI l + 3).toInt64 &&& 63) else bif decide ((nI l) = (nI l + 2)) then bif decide (nI l ≤ 0) then (0 : Int64) else bif srB (nI l - 1) then 1 <<< ((nI l - 1).toInt64 &&& 63) else 0 else 0 else bif decide ((nI l) = (nI l + 2)) then bif decide (nI l ≤ 0) then (0 : Int64) else bif srB (nI l - 1) then 1 <<< ((nI l - 1).toInt64 &&& 63) else 0 else 0) = oeL0 l := by decide +kernel
theorem us_hd0 : ∀ l, l < 32 → ∀ k, k < 34 → xHd (usL0 l) (nI k) = (decide (k = (l + 1)) || decide (k = (l + 2))) := by decide +kernel
theorem bs_hd0 : ∀ l, l < 32 → srB (nI l) = true → ∀ k, k < 34 → xHd (bsL0 l) (nI k) = (decide (nI k = nI l) || decide (nI k = abL0 l)) := by decide +kernel
theorem bs_eq0 : ∀ l, l < 32 → srB (nI l) = true → bsL0 l = (((1 : Int64) <<< ((nI l).toInt64 &&& 63)) ||| (bif decide (abL0 l = -1) then (0 : Int64) else 1 <<< ((abL0 l).toInt64 &&& 63))) := by decide +kernel
theorem ab_k0 (l : Nat) (hl : l < 32) (h : srB (nI l) = true) : abL0 l = -1 ∨ ∃ e, e < 34 ∧ abL0 l = nI e := by
  have z := (show ∀ l, l < 32 → srB (nI l) = true → (decide (abL0 l = -1) || (decide (0 ≤ (abL0 l).toInt) && decide ((abL0 l).toInt < 34))) = true by decide +kernel) l hl h
  rw [Bool.or_eq_true] at z
  rcases z with q | q
  · exact Or.inl (of_decide_eq_true q)
  · obtain ⟨q1, q2⟩ := z_and q
    obtain ⟨e, he, q3⟩ := i_nat (n := 33) (of_decide_eq_true q1) (by have := of_decide_eq_true q2; omega) (by decide)
    exact Or.inr ⟨e, by omega, q3⟩
theorem ko_run0 {x m : zM} (R : RCl x m) {s l : Nat} (hs : s < 4) (hl : l + 2 ≤ 33) (hsr : srB (nI l) = true) : kA (koF x s (usL0 l) (bsL0 l)) 34 = kA (cdF (z_giv (z_giv (z_ui (z_ui (z_ui m 50 0 0) 50 50 (nI l)) 50 51 (abL0 l)) s (l + 1) (-1)) s (l + 2) (-1)) s) 34 := by
  refine kA_cg (fun k hk => ?_)
  have e50 : (z_giv (z_giv (z_ui (z_ui (z_ui m 50 0 0) 50 50 (nI l)) 50 51 (abL0 l)) s (l + 1) (-1)) s (l + 2) (-1)).1 50 50 = nI l := by rw [giv_o (by decide), giv_o (by decide), ui_k (by decide), ui_s]
  have e51 : (z_giv (z_giv (z_ui (z_ui (z_ui m 50 0 0) 50 50 (nI l)) 50 51 (abL0 l)) s (l + 1) (-1)) s (l + 2) (-1)).1 50 51 = abL0 l := by rw [giv_o (by decide), giv_o (by decide), ui_s]
  unfold koF cdF
  rw [us_hd0 l (by omega) k hk, bs_hd0 l (by omega) hsr k hk, R.hd s k hs hk, e50, e51, giv_60, giv_60, ui_o (by decide), ui_o (by decide), ui_o (by decide), Bool.not_or]
  by_cases ea : k = (l + 1)
  · rw [decide_eq_true ea, if_neg (by omega), if_pos (by omega), Bool.true_or, show nB true = 1 from rfl, sub1]
  · by_cases eb : k = (l + 2)
    · rw [decide_eq_true eb, if_pos (by omega), if_neg (by omega), Bool.or_true, show nB true = 1 from rfl, sub1]
    · rw [decide_eq_false ea, decide_eq_false eb, if_neg (by omega), if_neg (by omega), Bool.false_or, show nB false = 0 from rfl, Int32.sub_zero]
def abL1 (l : Nat) : Int32 := ((-1 : Int32))
def oeL1 (l : Nat) : Int64 := ((0 : Int64))
def bsL1 (l : Nat) : Int64 := ((1 : Int64) <<< ((nI (l + 1)).toInt64 &&& 63)) ||| oeL1 l
def usL1 (l : Nat) : Int64 := ((7 : Int64) <<< ((nI l).toInt64 &&& 63)) &&& (((1 : Int64) <<< ((nI (l + 1)).toInt64 &&& 63)) ^^^ (-1))
theorem oe_eq1 : ∀ l, l < 32 → (bif decide ((nI (l + 1)) = nI l) then bif srB (nI l + 1) then 1 <<< ((nI l + 3).toInt64 &&& 63) else bif decide ((nI (l + 1)) = (nI l + 2)) then bif decide (nI l ≤ 0) then (0 : Int64) else bif srB (nI l - 1) then 1 <<< ((nI l - 1).toInt64 &&& 63) else 0 else 0 else bif decide ((nI (l + 1)) = (nI l + 2)) then bif decide (nI l ≤ 0) then (0 : Int64) else bif srB (nI l - 1) then 1 <<< ((nI l - 1).toInt64 &&& 63) else 0 else 0) = oeL1 l := by decide +kernel
theorem us_hd1 : ∀ l, l < 32 → ∀ k, k < 34 → xHd (usL1 l) (nI k) = (decide (k = l) || decide (k = (l + 2))) := by decide +kernel
theorem bs_hd1 : ∀ l, l < 32 → srB (nI l) = true → ∀ k, k < 34 → xHd (bsL1 l) (nI k) = (decide (nI k = nI (l + 1)) || decide (nI k = abL1 l)) := by decide +kernel
theorem bs_eq1 : ∀ l, l < 32 → srB (nI l) = true → bsL1 l = (((1 : Int64) <<< ((nI (l + 1)).toInt64 &&& 63)) ||| (bif decide (abL1 l = -1) then (0 : Int64) else 1 <<< ((abL1 l).toInt64 &&& 63))) := by decide +kernel
theorem ab_k1 (l : Nat) (hl : l < 32) (h : srB (nI l) = true) : abL1 l = -1 ∨ ∃ e, e < 34 ∧ abL1 l = nI e := by
  have z := (show ∀ l, l < 32 → srB (nI l) = true → (decide (abL1 l = -1) || (decide (0 ≤ (abL1 l).toInt) && decide ((abL1 l).toInt < 34))) = true by decide +kernel) l hl h
  rw [Bool.or_eq_true] at z
  rcases z with q | q
  · exact Or.inl (of_decide_eq_true q)
  · obtain ⟨q1, q2⟩ := z_and q
    obtain ⟨e, he, q3⟩ := i_nat (n := 33) (of_decide_eq_true q1) (by have := of_decide_eq_true q2; omega) (by decide)
    exact Or.inr ⟨e, by omega, q3⟩
theorem ko_run1 {x m : zM} (R : RCl x m) {s l : Nat} (hs : s < 4) (hl : l + 2 ≤ 33) (hsr : srB (nI l) = true) : kA (koF x s (usL1 l) (bsL1 l)) 34 = kA (cdF (z_giv (z_giv (z_ui (z_ui (z_ui m 50 0 0) 50 50 (nI (l + 1))) 50 51 (abL1 l)) s l (-1)) s (l + 2) (-1)) s) 34 := by
  refine kA_cg (fun k hk => ?_)
  have e50 : (z_giv (z_giv (z_ui (z_ui (z_ui m 50 0 0) 50 50 (nI (l + 1))) 50 51 (abL1 l)) s l (-1)) s (l + 2) (-1)).1 50 50 = nI (l + 1) := by rw [giv_o (by decide), giv_o (by decide), ui_k (by decide), ui_s]
  have e51 : (z_giv (z_giv (z_ui (z_ui (z_ui m 50 0 0) 50 50 (nI (l + 1))) 50 51 (abL1 l)) s l (-1)) s (l + 2) (-1)).1 50 51 = abL1 l := by rw [giv_o (by decide), giv_o (by decide), ui_s]
  unfold koF cdF
  rw [us_hd1 l (by omega) k hk, bs_hd1 l (by omega) hsr k hk, R.hd s k hs hk, e50, e51, giv_60, giv_60, ui_o (by decide), ui_o (by decide), ui_o (by decide), Bool.not_or]
  by_cases ea : k = l
  · rw [decide_eq_true ea, if_neg (by omega), if_pos (by omega), Bool.true_or, show nB true = 1 from rfl, sub1]
  · by_cases eb : k = (l + 2)
    · rw [decide_eq_true eb, if_pos (by omega), if_neg (by omega), Bool.or_true, show nB true = 1 from rfl, sub1]
    · rw [decide_eq_false ea, decide_eq_false eb, if_neg (by omega), if_neg (by omega), Bool.false_or, show nB false = 0 from rfl, Int32.sub_zero]
def abL2 (l : Nat) : Int32 := (bif decide (((nI l) - (nI l) / 9 * 9) ≤ 0) then (-1 : Int32) else (nI l) - 1)
def oeL2 (l : Nat) : Int64 := (bif decide (nI l ≤ 0) then (0 : Int64) else bif srB (nI l - 1) then (1 : Int64) <<< ((nI l - 1).toInt64 &&& 63) else 0)
def bsL2 (l : Nat) : Int64 := ((1 : Int64) <<< ((nI (l + 2)).toInt64 &&& 63)) ||| oeL2 l
def usL2 (l : Nat) : Int64 := ((7 : Int64) <<< ((nI l).toInt64 &&& 63)) &&& (((1 : Int64) <<< ((nI (l + 2)).toInt64 &&& 63)) ^^^ (-1))
theorem oe_eq2 : ∀ l, l < 32 → (bif decide ((nI (l + 2)) = nI l) then bif srB (nI l + 1) then 1 <<< ((nI l + 3).toInt64 &&& 63) else bif decide ((nI (l + 2)) = (nI l + 2)) then bif decide (nI l ≤ 0) then (0 : Int64) else bif srB (nI l - 1) then 1 <<< ((nI l - 1).toInt64 &&& 63) else 0 else 0 else bif decide ((nI (l + 2)) = (nI l + 2)) then bif decide (nI l ≤ 0) then (0 : Int64) else bif srB (nI l - 1) then 1 <<< ((nI l - 1).toInt64 &&& 63) else 0 else 0) = oeL2 l := by decide +kernel
theorem us_hd2 : ∀ l, l < 32 → ∀ k, k < 34 → xHd (usL2 l) (nI k) = (decide (k = l) || decide (k = (l + 1))) := by decide +kernel
theorem bs_hd2 : ∀ l, l < 32 → srB (nI l) = true → ∀ k, k < 34 → xHd (bsL2 l) (nI k) = (decide (nI k = nI (l + 2)) || decide (nI k = abL2 l)) := by decide +kernel
theorem bs_eq2 : ∀ l, l < 32 → srB (nI l) = true → bsL2 l = (((1 : Int64) <<< ((nI (l + 2)).toInt64 &&& 63)) ||| (bif decide (abL2 l = -1) then (0 : Int64) else 1 <<< ((abL2 l).toInt64 &&& 63))) := by decide +kernel
theorem ab_k2 (l : Nat) (hl : l < 32) (h : srB (nI l) = true) : abL2 l = -1 ∨ ∃ e, e < 34 ∧ abL2 l = nI e := by
  have z := (show ∀ l, l < 32 → srB (nI l) = true → (decide (abL2 l = -1) || (decide (0 ≤ (abL2 l).toInt) && decide ((abL2 l).toInt < 34))) = true by decide +kernel) l hl h
  rw [Bool.or_eq_true] at z
  rcases z with q | q
  · exact Or.inl (of_decide_eq_true q)
  · obtain ⟨q1, q2⟩ := z_and q
    obtain ⟨e, he, q3⟩ := i_nat (n := 33) (of_decide_eq_true q1) (by have := of_decide_eq_true q2; omega) (by decide)
    exact Or.inr ⟨e, by omega, q3⟩
theorem ko_run2 {x m : zM} (R : RCl x m) {s l : Nat} (hs : s < 4) (hl : l + 2 ≤ 33) (hsr : srB (nI l) = true) : kA (koF x s (usL2 l) (bsL2 l)) 34 = kA (cdF (z_giv (z_giv (z_ui (z_ui (z_ui m 50 0 0) 50 50 (nI (l + 2))) 50 51 (abL2 l)) s l (-1)) s (l + 1) (-1)) s) 34 := by
  refine kA_cg (fun k hk => ?_)
  have e50 : (z_giv (z_giv (z_ui (z_ui (z_ui m 50 0 0) 50 50 (nI (l + 2))) 50 51 (abL2 l)) s l (-1)) s (l + 1) (-1)).1 50 50 = nI (l + 2) := by rw [giv_o (by decide), giv_o (by decide), ui_k (by decide), ui_s]
  have e51 : (z_giv (z_giv (z_ui (z_ui (z_ui m 50 0 0) 50 50 (nI (l + 2))) 50 51 (abL2 l)) s l (-1)) s (l + 1) (-1)).1 50 51 = abL2 l := by rw [giv_o (by decide), giv_o (by decide), ui_s]
  unfold koF cdF
  rw [us_hd2 l (by omega) k hk, bs_hd2 l (by omega) hsr k hk, R.hd s k hs hk, e50, e51, giv_60, giv_60, ui_o (by decide), ui_o (by decide), ui_o (by decide), Bool.not_or]
  by_cases ea : k = l
  · rw [decide_eq_true ea, if_neg (by omega), if_pos (by omega), Bool.true_or, show nB true = 1 from rfl, sub1]
  · by_cases eb : k = (l + 1)
    · rw [decide_eq_true eb, if_pos (by omega), if_neg (by omega), Bool.or_true, show nB true = 1 from rfl, sub1]
    · rw [decide_eq_false ea, decide_eq_false eb, if_neg (by omega), if_neg (by omega), Bool.false_or, show nB false = 0 from rfl, Int32.sub_zero]
theorem si_two {f : Nat → Int} {a b : Nat} (hab : a ≠ b) : ∀ n, (∀ k, k < n → 0 ≤ f k) → a < n → b < n → f a + f b ≤ si f n
  | 0, _, h, _ => absurd h (by omega)
  | n + 1, h, ha, hb => by
    show f a + f b ≤ si f n + f n
    by_cases e : a = n
    · subst e
      have := si_le (f := f) (c := b) (n := a) (fun k hk => h k (by omega)) (by omega)
      omega
    · by_cases e2 : b = n
      · subst e2
        have := si_le (f := f) (c := a) (n := b) (fun k hk => h k (by omega)) (by omega)
        omega
      · have := si_two hab n (fun k hk => h k (by omega)) (by omega) (by omega)
        have := h n (by omega)
        omega
theorem GH.le2 {μ : zM} {lim : Nat → Int} (h : GH μ lim) {s a b : Nat} (hs4 : s < 4) (ha : a < 34) (hb : b < 34) (hab : a ≠ b) : hI μ (34 * s + a) + hI μ (34 * s + b) ≤ hs9 μ s := si_two (f := fun k => hI μ (34 * s + k)) hab 34 (fun k hk => h.1 _ (by omega)) ha hb
theorem oe_x {μ : zM} {l : Nat} {c : Int32} (hc : μ.1 0 15 = c) {v : Int64} (h : (bif decide (c = nI l) then bif srB (nI l + 1) then 1 <<< ((nI l + 3).toInt64 &&& 63) else bif decide (c = (nI l + 2)) then bif decide (nI l ≤ 0) then (0 : Int64) else bif srB (nI l - 1) then 1 <<< ((nI l - 1).toInt64 &&& 63) else 0 else 0 else bif decide (c = (nI l + 2)) then bif decide (nI l ≤ 0) then (0 : Int64) else bif srB (nI l - 1) then 1 <<< ((nI l - 1).toInt64 &&& 63) else 0 else 0) = v) : ∀ d, 2 ≤ d → z_C d mi_X6_otherEnd [.ref 0, .int (nI l)] μ (zR μ (.long v)) := fun d hd => by
  have z := gc_otherEnd d hd μ (nI l)
  rw [hc, h] at z
  exact z
theorem sr_x {μ : zM} {x : Int32} {b : Bool} (h : srB x = b) : ∀ d, 1 ≤ d → z_C d mi_X6_startsRun [.int x] μ (zR μ (.int (nB b))) := fun d hd => by
  rw [← h]; exact gc_startsRun d hd μ x
theorem sr_iff (x : Int32) : srB x = true ↔ sr x := by
  unfold srB sr
  have e : (6 : Int32) < (x - x / 9 * 9) ↔ (7 : Int32) ≤ (x - x / 9 * 9) := by
    generalize (x - x / 9 * 9) = y
    rw [Int32.lt_iff_toInt_lt, Int32.le_iff_toInt_le, show (6 : Int32).toInt = 6 from by decide, show (7 : Int32).toInt = 7 from by decide]
    omega
  constructor
  · intro h
    obtain ⟨a, h⟩ := z_and h
    obtain ⟨b, c⟩ := z_and h
    exact ⟨of_decide_eq_false (not_t a), of_decide_eq_false (not_t b), fun z => of_decide_eq_false (not_t c) (e.mpr z)⟩
  · rintro ⟨a, b, c⟩
    rw [decide_eq_false a, decide_eq_false b, decide_eq_false (fun z => c (e.mp z))]
    rfl
theorem sr_m {μ : zM} {x : Int32} {b : Bool} (h : srB x = b) : ∀ d, 1 ≤ d → z_C d mi_X7_isRun [.int x] μ (zR μ (.int (nB b))) := fun d hd => z_C_mono (fc_X7_isRun d hd μ x) (fun r m z => ⟨z.1, by
  have e := sr_iff x
  rcases z.2 with ⟨y, q⟩ | ⟨y, q⟩
  · rw [e.mpr q] at h; rw [y, ← h]; rfl
  · cases b with
    | true => exact absurd (e.mp h) q
    | false => exact y⟩)
theorem sr_nat : ∀ x : Int32, srB x = true → ∃ l, l + 2 ≤ 26 ∧ x = nI l := fun x h => by
  obtain ⟨a, b, c⟩ := (sr_iff x).mp h
  have a1 : 0 ≤ x.toInt := by have z : ¬ x.toInt < (0 : Int32).toInt := fun q => a (Int32.lt_iff_toInt_lt.mpr q); have : (0 : Int32).toInt = 0 := (by decide); omega
  have b1 : x.toInt < 27 := by have z : ¬ (27 : Int32).toInt ≤ x.toInt := fun q => b (Int32.le_iff_toInt_le.mpr q); have : (27 : Int32).toInt = 27 := (by decide); omega
  obtain ⟨l, hl, e⟩ := i_nat (v := x) (n := 26) a1 (by omega) (by decide)
  subst e
  exact ⟨l, (show ∀ l, l < 27 → srB (nI l) = true → l + 2 ≤ 26 by decide +kernel) l (by omega) h, rfl⟩
