/-! the kinds of the class's fifty cells -/
def tI : Value → Prop := vI (-2147483648) 2147483647
def tB : Value → Prop := vI 0 1
def spTh (a : Nat → Nat) : Nat → Value → Prop
  | 0 => vR (a 1) | 1 => vR (a 2) | 2 => vR (a 4) | 3 => vR (a 8) | 4 => vR (a 9) | 5 => vR (a 14)
  | 13 => tB | 16 => tB | 17 => tB | 18 => vJ | _ => tI
def spWall (a : Nat → Nat) : Nat → Value → Prop
  | 0 => vR (a 3) | 1 => tB | _ => tI
def spJudge (a : Nat → Nat) (P : Nat → Value → Prop) (g : Nat) : Nat → Value → Prop
  | 3 => vJ | 5 => P g | 7 => tB | 8 => tB | 12 => vJ | 13 => vR (a (g + 1)) | 14 => vR (a (g + 2)) | 16 => vJ | 17 => vJ | 18 => vR (a (g + 3)) | _ => tI
def spTiles (a : Nat → Nat) (t : Nat) : Nat → Value → Prop
  | 0 => vR (a (t + 1)) | 1 => vR (a (t + 2)) | 2 => vR (a (t + 3)) | 3 => vR (a (t + 4)) | 4 => vI 0 4 | _ => tI
def spSeat (a : Nat → Nat) (j : Nat) : Nat → Value → Prop
  | 0 => vR (a (8 * j + 19)) | 1 => vR (a (8 * j + 24)) | 3 => vJ | 6 => tB | 7 => tB | 8 => tB | 9 => tB | _ => tI
def spWin : Nat → Value → Prop
  | 7 => vJ | _ => tI
def okI (k : Nat → ClassId) (n : Nat) : va_E → Prop := okA (k 0) n (-2147483648) 2147483647
def XTs (a : Nat → Nat) (k : Nat → ClassId) (j : Nat) : Nat → va_E → Prop
  | 0 => okO 1 10 (spSeat a j) | 1 => okO 2 6 (spTiles a (8 * j + 19)) | 2 => okI k 34 | 3 => okI k 34 | 4 => okI k 4 | 5 => okI k 4 | 6 => okI k 86 | _ => okO 4 8 spWin
def XT0 (a : Nat → Nat) (k : Nat → ClassId) (dk : Nat → va_E) (P : Nat → Value → Prop) : Nat → va_E → Prop
  | 0 => okO 5 19 (spTh a) | 1 => okR (k 3) 4 (fun j => a (8 * j + 18)) | 2 => okO 3 4 (spWall a) | 3 => okI k 136
  | 4 => okO 0 19 (spJudge a P 4) | 5 => okI k 4 | 6 => okI k 4 | 7 => okI k 4 | 8 => okR (k 4) 4 (fun j => a (8 * j + 25))
  | 9 => fun c => okO 2 6 (spTiles a 9) c ∧ c = dk 9 | 10 => fun c => okI k 34 c ∧ c = dk 10 | 11 => fun c => okI k 34 c ∧ c = dk 11 | 12 => fun c => okI k 4 c ∧ c = dk 12 | 13 => fun c => okI k 4 c ∧ c = dk 13
  | 14 => okO 0 19 (spJudge a P 14) | _ => okI k 4
def XT (a : Nat → Nat) (k : Nat → ClassId) (dk : Nat → va_E) (P : Nat → Value → Prop) (i : Nat) : va_E → Prop := if i < 18 then XT0 a k dk P i else XTs a k ((i - 18) / 8) ((i - 18) % 8)
def xG (g : Nat) : Prop := g = 4 ∨ g = 14
def xS (t : Nat) : Prop := ∃ j, j < 4 ∧ t = 8 * j + 19
def xT (t : Nat) : Prop := t = 9 ∨ xS t
theorem xS_of {j : Nat} (h : j < 4) : xS (8 * j + 19) := ⟨j, h, rfl⟩
theorem xS.T {t : Nat} (h : xS t) : xT t := Or.inr h
theorem xT_9 : xT 9 := Or.inl rfl
theorem xG.lt {g r : Nat} (h : xG g) (hr : r < 4) : g + r < 50 := by rcases h with rfl | rfl <;> omega
theorem xT.lt {t r : Nat} (h : xT t) (hr : r < 5) : t + r < 50 := by
  rcases h with rfl | ⟨j, hj, rfl⟩ <;> omega
theorem xG.lt0 {g : Nat} (h : xG g) : g < 50 := h.lt (r := 0) (by decide)
theorem xT.lt0 {t : Nat} (h : xT t) : t < 50 := h.lt (r := 0) (by decide)
def PJ (a : Nat → Nat) (g t : Nat) : Nat → Value → Prop := fun g' v => g' = g → v = .ref (a t)
def P0 : Nat → Value → Prop := fun _ _ => True
section XR
variable {a : Nat → Nat} {k : Nat → ClassId} {dk : Nat → va_E} {P : Nat → Value → Prop}
theorem XT_s {j r : Nat} (hr : r < 8) : XT a k dk P (8 * j + (18 + r)) = XTs a k j r := by
  unfold XT
  rw [if_neg (by omega), show (8 * j + (18 + r) - 18) / 8 = j by omega, show (8 * j + (18 + r) - 18) % 8 = r by omega]
theorem xe_th : XT a k dk P 0 = okO 5 19 (spTh a) := rfl
theorem xe_pl : XT a k dk P 1 = okR (k 3) 4 (fun j => a (8 * j + 18)) := rfl
theorem xe_wall : XT a k dk P 2 = okO 3 4 (spWall a) := rfl
theorem xe_wk : XT a k dk P 3 = okI k 136 := rfl
theorem xe_wins : XT a k dk P 8 = okR (k 4) 4 (fun j => a (8 * j + 25)) := rfl
theorem xe_seat {j : Nat} : XT a k dk P (8 * j + 18) = okO 1 10 (spSeat a j) := XT_s (r := 0) (by decide)
theorem xe_thr {j : Nat} : XT a k dk P (8 * j + 24) = okI k 86 := XT_s (r := 6) (by decide)
theorem xe_win {j : Nat} : XT a k dk P (8 * j + 25) = okO 4 8 spWin := XT_s (r := 7) (by decide)
theorem xe_judge {g : Nat} (h : xG g) : XT a k dk P g = okO 0 19 (spJudge a P g) := by rcases h with rfl | rfl <;> rfl
theorem xe_ja {g r : Nat} (h : xG g) (hr : r = 1 ∨ r = 2 ∨ r = 3) : XT a k dk P (g + r) = okI k 4 := by
  rcases h with rfl | rfl <;> rcases hr with rfl | rfl | rfl <;> rfl
theorem xr_tiles {t : Nat} (h : xT t) : ∀ c, XT a k dk P t c → okO 2 6 (spTiles a t) c := by
  rcases h with rfl | ⟨j, hj, rfl⟩
  · exact fun c h => h.1
  · intro c h
    rw [XT_s (r := 1) (by decide)] at h
    exact h
theorem xw_tiles {t : Nat} (h : xS t) : ∀ c, okO 2 6 (spTiles a t) c → XT a k dk P t c := by
  obtain ⟨j, hj, rfl⟩ := h
  intro c h
  rw [XT_s (r := 1) (by decide)]
  exact h
theorem xr_t34 {t r : Nat} (h : xT t) (hr : r = 1 ∨ r = 2) : ∀ c, XT a k dk P (t + r) c → okI k 34 c := by
  rcases h with rfl | ⟨j, hj, rfl⟩
  · rcases hr with rfl | rfl <;> exact fun c h => h.1
  · intro c h
    rcases hr with rfl | rfl
    · rw [show 8 * j + 19 + 1 = 8 * j + (18 + 2) by omega, XT_s (by decide)] at h
      exact h
    · rw [show 8 * j + 19 + 2 = 8 * j + (18 + 3) by omega, XT_s (by decide)] at h
      exact h
theorem xw_t34 {t r : Nat} (h : xS t) (hr : r = 1 ∨ r = 2) : ∀ c, okI k 34 c → XT a k dk P (t + r) c := by
  obtain ⟨j, hj, rfl⟩ := h
  intro c h
  rcases hr with rfl | rfl
  · rw [show 8 * j + 19 + 1 = 8 * j + (18 + 2) by omega, XT_s (by decide)]
    exact h
  · rw [show 8 * j + 19 + 2 = 8 * j + (18 + 3) by omega, XT_s (by decide)]
    exact h
theorem xr_t4 {t r : Nat} (h : xT t) (hr : r = 3 ∨ r = 4) : ∀ c, XT a k dk P (t + r) c → okI k 4 c := by
  rcases h with rfl | ⟨j, hj, rfl⟩
  · rcases hr with rfl | rfl <;> exact fun c h => h.1
  · intro c h
    rcases hr with rfl | rfl
    · rw [show 8 * j + 19 + 3 = 8 * j + (18 + 4) by omega, XT_s (by decide)] at h
      exact h
    · rw [show 8 * j + 19 + 4 = 8 * j + (18 + 5) by omega, XT_s (by decide)] at h
      exact h
theorem xw_t4 {t r : Nat} (h : xS t) (hr : r = 3 ∨ r = 4) : ∀ c, okI k 4 c → XT a k dk P (t + r) c := by
  obtain ⟨j, hj, rfl⟩ := h
  intro c h
  rcases hr with rfl | rfl
  · rw [show 8 * j + 19 + 3 = 8 * j + (18 + 4) by omega, XT_s (by decide)]
    exact h
  · rw [show 8 * j + 19 + 4 = 8 * j + (18 + 5) by omega, XT_s (by decide)]
    exact h
end XR
theorem eqr {α : Type} {p q : α → Prop} (h : p = q) : ∀ c, p c → q c := fun _ x => h ▸ x
theorem eqw {α : Type} {p q : α → Prop} (h : p = q) : ∀ c, q c → p c := fun _ x => h ▸ x
