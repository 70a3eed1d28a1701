/-! each kind lies four times in the wall -/
set_option maxRecDepth 8000
def cI (f : Nat → Int32) (k i : Nat) : Nat := if f i = nI k then 1 else 0
theorem cW_sn {f : Nat → Int32} {k : Nat} : ∀ n, cW f 0 k n = sn (cI f k) n
  | 0 => rfl
  | n + 1 => by
    show cW f 0 k n + (if f (0 + n) = nI k then 1 else 0) = sn (cI f k) n + cI f k n
    rw [cW_sn n, Nat.zero_add]; rfl
theorem sn_congr9 {g h : Nat → Nat} : ∀ n, (∀ i, i < n → g i = h i) → sn g n = sn h n
  | 0, _ => rfl
  | n + 1, e => by
    show sn g n + g n = sn h n + h n
    rw [sn_congr9 n (fun i hi => e i (by omega)), e n (by omega)]
theorem sn_one {g h : Nat → Nat} {a : Nat} : ∀ n, a < n → (∀ i, i < n → i ≠ a → g i = h i) → sn g n + h a = sn h n + g a
  | 0, ha, _ => absurd ha (Nat.not_lt_zero _)
  | n + 1, ha, e => by
    show sn g n + g n + h a = sn h n + h n + g a
    by_cases q : a = n
    · subst q
      have : sn g a = sn h a := sn_congr9 a (fun i hi => e i (by omega) (by omega))
      omega
    · have := sn_one n (by omega) (fun i hi => e i (by omega))
      have := e n (by omega) (fun z => q z.symm)
      omega
theorem sn_tw9 {g h : Nat → Nat} {a b : Nat} (hab : a ≠ b) : ∀ n, a < n → b < n → (∀ i, i < n → i ≠ a → i ≠ b → g i = h i) → sn g n + h a + h b = sn h n + g a + g b
  | 0, ha, _, _ => absurd ha (Nat.not_lt_zero _)
  | n + 1, ha, hb, e => by
    show sn g n + g n + h a + h b = sn h n + h n + g a + g b
    by_cases q : a = n
    · subst q
      have := sn_one (g := g) (h := h) (a := b) a (by omega) (fun i hi hn => e i (by omega) (by omega) hn)
      omega
    · by_cases q2 : b = n
      · subst q2
        have := sn_one (g := g) (h := h) (a := a) b (by omega) (fun i hi hn => e i (by omega) hn (by omega))
        omega
      · have := sn_tw9 hab n (by omega) (by omega) (fun i hi => e i (by omega))
        have := e n (by omega) (fun z => q z.symm) (fun z => q2 z.symm)
        omega
theorem cW_sw {f : Nat → Int32} {a b k : Nat} (ha : a < 136) (hb : b < 136) : cW (swW f a b) 0 k 136 = cW f 0 k 136 := by
  rw [cW_sn, cW_sn]
  by_cases e : a = b
  · subst e
    exact sn_congr9 136 (fun i _ => by
      unfold cI swW
      by_cases q : i = a
      · rw [if_pos q, q]
      · rw [if_neg q, if_neg q])
  · have z := sn_tw9 (g := cI (swW f a b) k) (h := cI f k) e 136 ha hb (fun i _ h1 h2 => by unfold cI swW; rw [if_neg h2, if_neg h1])
    have e1 : cI (swW f a b) k a = cI f k b := by unfold cI swW; rw [if_neg e, if_pos rfl]
    have e2 : cI (swW f a b) k b = cI f k a := by unfold cI swW; rw [if_pos rfl]
    omega
theorem cW_wsh {k : Nat} : ∀ i, i ≤ 135 → ∀ (x : Int64) (f : Nat → Int32), cW (wsh i x f) 0 k 136 = cW f 0 k 136
  | 0, _, _, _ => rfl
  | i + 1, hi, x, f => (cW_wsh i (by omega) (nxL x) _).trans (cW_sw (by omega) (jE_n (nxL x) i (by omega)).2.1)
theorem cW_0 : ∀ v, v < 34 → cW (fun i => nI (i / 4)) 0 v 136 = 4 := by decide +kernel
theorem cW_136 (sd : Int64) {k : Nat} (hk : k < 34) : cW (wlF sd) 0 k 136 = 4 := (cW_wsh 135 (by omega) sd _).trans (cW_0 k hk)
theorem cW_4 (sd : Int64) {f : Nat → Int32} (hf : ∀ i, i < 136 → f i = wlF sd i) {k n b : Nat} (hk : k < 34) (hn : n ≤ 122) (hb : b ≤ 14) : cW f 0 k n + cW f 122 k b ≤ 4 := by
  have e0 : cW f 0 k 136 = 4 := (cW_c9 136 (fun i hi => by rw [Nat.zero_add]; exact hf i hi)).trans (cW_136 sd hk)
  have e1 : cW f 0 k (122 + 14) = cW f 0 k 122 + cW f (0 + 122) k 14 := cW_spl 14
  have e2 : cW f 0 k (n + (122 - n)) = cW f 0 k n + cW f (0 + n) k (122 - n) := cW_spl (122 - n)
  have e3 : cW f 122 k (b + (14 - b)) = cW f 122 k b + cW f (122 + b) k (14 - b) := cW_spl (14 - b)
  rw [show n + (122 - n) = 122 from by omega] at e2
  rw [show b + (14 - b) = 14 from by omega] at e3
  rw [Nat.zero_add] at e1
  have e4 : cW f 0 k 136 = cW f 0 k 122 + cW f 122 k 14 := e1
  omega
