/-! contracts of tiles and judge at a seat -/
set_option maxRecDepth 8000
def JX : List Nat := [mi_X0_baseOf, mi_X0_hanOf, mi_X1_bit, mi_X1_chosenThrees, mi_X1_findThrees, mi_X1_isBetter, mi_X1_isHidden, mi_X1_mayHaveCompleted, mi_X1_pairFu, mi_X1_toldOnes, mi_X1_waitFu, mi_X3_empty, mi_X3_isOpen, mi_X3_isSevenPairs, mi_X3_kinds, mi_X3_size, mi_X6_holds, mi_X6_isKind, mi_X6_startsRun, mi_X6_tilesOfEach, mi_J13_bitCount_95d88, mi_X1_endForms, mi_X1_fillWay, mi_X1_fuOf, mi_X1_likeRuns, mi_X1_offer, mi_X1_setForms, mi_X3_all, mi_X3_free, mi_X3_isThirteen, mi_X3_layDown, mi_X3_put, mi_X3_splitsBeside, mi_X1_isNineGates, mi_X1_weighCompleted, mi_X3_addToThree, mi_X3_isSetsAndPair, mi_X3_take, mi_X1_tileForms, mi_X1_weighWay, mi_X3_waitsFor, mi_X1_judge, mi_X3_waiting]
theorem JX_ok : ∀ j ∈ JX, okM JX j = true := by decide +kernel
abbrev sMm (j : Nat) (μ : zM) : zM := zsg (sgm j) μ
theorem sM_sM {j : Nat} (hj : j < 4) (μ : zM) : sMm j (sMm j μ) = μ := zsg_sg (RN_sgm j hj) μ
theorem at_seat {j : Nat} (hj : j < 4) {d m : Nat} (hm : m ∈ JX) {As : List Value} {μ : zM} {Q : zQ} (h : z_C d m As (sMm j μ) Q) : z_C d m (Sg (sgm j) As) μ (fun r μ' => Q (r.map (z_tr (sgm j))) (sMm j μ')) := by
  have z := rn_C (RN_sgm j hj) JX_ok d m As (sMm j μ) Q hm h
  rw [zsg_sg (RN_sgm j hj)] at z
  exact z
theorem sgm_r : ∀ j, j < 4 → sgm j 9 = 19 + 8 * j ∧ sgm j 10 = 20 + 8 * j ∧ sgm j 11 = 21 + 8 * j ∧ sgm j 12 = 22 + 8 * j ∧ sgm j 13 = 23 + 8 * j ∧ sgm j 14 = 4 ∧ sgm j 15 = 5 ∧ sgm j 16 = 6 ∧ sgm j 17 = 7 := by decide +kernel
theorem sM9 {j : Nat} (hj : j < 4) (μ : zM) (k : Nat) : (sMm j μ).1 9 k = μ.1 (19 + 8 * j) k := by show μ.1 (sgm j 9) k = _; rw [(sgm_r j hj).1]
theorem sM10 {j : Nat} (hj : j < 4) (μ : zM) (k : Nat) : (sMm j μ).1 10 k = μ.1 (20 + 8 * j) k := by show μ.1 (sgm j 10) k = _; rw [(sgm_r j hj).2.1]
theorem sM11 {j : Nat} (hj : j < 4) (μ : zM) (k : Nat) : (sMm j μ).1 11 k = μ.1 (21 + 8 * j) k := by show μ.1 (sgm j 11) k = _; rw [(sgm_r j hj).2.2.1]
theorem sM12 {j : Nat} (hj : j < 4) (μ : zM) (k : Nat) : (sMm j μ).1 12 k = μ.1 (22 + 8 * j) k := by show μ.1 (sgm j 12) k = _; rw [(sgm_r j hj).2.2.2.1]
theorem sM13 {j : Nat} (hj : j < 4) (μ : zM) (k : Nat) : (sMm j μ).1 13 k = μ.1 (23 + 8 * j) k := by show μ.1 (sgm j 13) k = _; rw [(sgm_r j hj).2.2.2.2.1]
theorem sM14 {j : Nat} (hj : j < 4) (μ : zM) (k : Nat) : (sMm j μ).1 14 k = μ.1 4 k := by show μ.1 (sgm j 14) k = _; rw [(sgm_r j hj).2.2.2.2.2.1]
theorem sM14j {j : Nat} (hj : j < 4) (μ : zM) (k : Nat) : (sMm j μ).2.1 14 k = μ.2.1 4 k := by show μ.2.1 (sgm j 14) k = _; rw [(sgm_r j hj).2.2.2.2.2.1]
theorem sM_pure {j : Nat} (hj : j < 4) (μ : zM) {m d : Nat} (hm : m ∈ JX) {As As' : List Value} (hA : Sg (sgm j) As = As') {P : Option Value → Prop} (h : z_C d m As (sMm j μ) (fun r μ' => μ' = sMm j μ ∧ P r)) : z_C d m As' μ (fun r μ' => μ' = μ ∧ P (r.map (z_tr (sgm j)))) := by
  rw [← hA]
  refine z_C_mono (at_seat hj hm h) (fun r μ' z => ⟨?_, z.2⟩)
  rw [← sM_sM hj μ', z.1, sM_sM hj]
theorem z_tr_int {f : Nat → Nat} {v : Value} {n : Int32} (h : z_tr f v = .int n) : v = .int n := by
  cases v <;> first | exact h | (exact absurd h (by simp [z_tr]))
/-- the seat's tiles: free ones -/
theorem ts_free {j : Nat} (hj : j < 4) (μ : zM) (d : Nat) (hd : 2 ≤ d) (k : Int32) : z_C d mi_X3_free [.ref (19 + 8 * j), .int k] μ (fun r μ' => μ' = μ ∧ ((vp_in k 34 ∧ r = some (.int (μ.1 (20 + 8 * j) k.toNatClampNeg))) ∨ (¬ vp_in k 34 ∧ r = some (.int 0)))) := by
  refine z_C_mono (sM_pure hj μ (by decide) (by show [Value.ref (sgm j 9), .int k] = _; rw [(sgm_r j hj).1]) (fc_X3_free d hd (sMm j μ) k)) (fun r μ' z => ⟨z.1, ?_⟩)
  rcases z.2 with ⟨h1, h2⟩ | ⟨h1, h2⟩
  · refine Or.inl ⟨h1, ?_⟩
    rw [sM10 hj] at h2
    cases r with
    | none => exact absurd h2 (by simp)
    | some v =>
      have h2 : some (z_tr (sgm j) v) = some (Value.int _) := h2
      injection h2 with h2
      exact congrArg some (z_tr_int h2)
  · refine Or.inr ⟨h1, ?_⟩
    cases r with
    | none => exact absurd h2 (by simp)
    | some v =>
      have h2 : some (z_tr (sgm j) v) = some (Value.int _) := h2
      injection h2 with h2
      exact congrArg some (z_tr_int h2)
