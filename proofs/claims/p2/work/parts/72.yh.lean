/-! FORMS of the SETS of a way: both sides alike -/
set_option maxRecDepth 8000
theorem dg_eq : ∀ a b c : Bool, (((orl [(a, 31), (b, 32), (c, 33)]).toUInt64 >>> ((31 : Int32).toInt64.toUInt64 &&& Int64.toUInt64 63)).toInt64) <<< ((11 : Int32).toInt64 &&& 63) = (lb a 11 ||| lb b 12) ||| lb c 13 := by decide +kernel
theorem dg_cn : ∀ a b c : Bool, xBc (orl [(a, 31), (b, 32), (c, 33)]) = ((0 + nB a) + nB b) + nB c := by decide +kernel
theorem wd_cn : ∀ a b c d : Bool, xBc (orl [(a, 27), (b, 28), (c, 29), (d, 30)]) = (((0 + nB a) + nB b) + nB c) + nB d := by decide +kernel
theorem dg_p : ∀ p, p < 34 → xHd 15032385536 (nI p) = xDr (nI p) := by decide +kernel
theorem wd_p : ∀ p, p < 34 → xHd 2013265920 (nI p) = (!(decide (nI p ≤ 26)) && (!(decide (31 ≤ nI p)))) := by decide +kernel
theorem en_p : ∀ p, p < 34 → xHd 17113154305 (nI p) = xEn (nI p) := by decide +kernel
theorem te_p : ∀ p, p < 34 → xHd 67502849 (nI p) = xTe (nI p) := by decide +kernel
theorem ho_p : ∀ p, p < 34 → xHd 17045651456 (nI p) = xHo (nI p) := by decide +kernel
theorem ek_e : ∀ a, a < 4 → ∀ k, k < 34 → (a = 0 → k < 27 ∧ k % 9 < 7) → (!(decide ((lg_cmp (((bif decide (nI a = 0) then (7 : Int64) else 1) <<< ((nI k).toInt64 &&& 63)) &&& 17113154305) 0) = 0))) = (xEn (nI k) || (decide (nI a = 0) && xEn (nI k + 2))) := by decide +kernel
theorem ek_t : ∀ a, a < 4 → ∀ k, k < 34 → (a = 0 → k < 27 ∧ k % 9 < 7) → (!(decide ((lg_cmp (((bif decide (nI a = 0) then (7 : Int64) else 1) <<< ((nI k).toInt64 &&& 63)) &&& 67502849) 0) = 0))) = (xTe (nI k) || (decide (nI a = 0) && xTe (nI k + 2))) := by decide +kernel
theorem ho_n : ∀ k, k < 34 → xHo (nI k) = decide (27 ≤ k) := by decide +kernel
theorem mHO : ∀ n, n < 64 → (17045651456 : Int64).toBitVec.getLsbD n = (decide (27 ≤ n) && decide (n < 34)) := by decide +kernel
theorem WY.T {q : Nat} {p : Nat} {co : Nat} {s : Nat → Nat} {l : Nat → Nat} (h : WY q p co s l) (κM : zM) (n : Nat) (c : Int32) (hc : c = nI n) (hn : n < 64) : xT (yM κM s l (nI p) (nI co)) c = (tB s l 4).toBitVec.getLsbD n := by subst hc; exact h.aT κM n hn
theorem WY.R {q : Nat} {p : Nat} {co : Nat} {s : Nat → Nat} {l : Nat → Nat} (h : WY q p co s l) (κM : zM) (n : Nat) (c : Int32) (hc : c = nI n) (hn : n < 64) : xR (yM κM s l (nI p) (nI co)) c = (rB s l 4).toBitVec.getLsbD n := by subst hc; exact h.aR κM n hn
/-- RUNS of all suits, THREES of all suits -/
theorem WY.e17 {q : Nat} {p : Nat} {co : Nat} {s : Nat → Nat} {l : Nat → Nat} (h : WY q p co s l) : (!(decide ((lg_cmp ((((rB s l 4) &&& (((rB s l 4).toUInt64 >>> ((9 : Int32).toInt64.toUInt64 &&& Int64.toUInt64 63)).toInt64)) &&& (((rB s l 4).toUInt64 >>> ((18 : Int32).toInt64.toUInt64 &&& Int64.toUInt64 63)).toInt64)) &&& 511) 0) = 0))) = ((((((((rB s l 4).toBitVec.getLsbD 0 && ((rB s l 4).toBitVec.getLsbD 9 && (rB s l 4).toBitVec.getLsbD 18)) || ((rB s l 4).toBitVec.getLsbD 1 && ((rB s l 4).toBitVec.getLsbD 10 && (rB s l 4).toBitVec.getLsbD 19))) || ((rB s l 4).toBitVec.getLsbD 2 && ((rB s l 4).toBitVec.getLsbD 11 && (rB s l 4).toBitVec.getLsbD 20))) || ((rB s l 4).toBitVec.getLsbD 3 && ((rB s l 4).toBitVec.getLsbD 12 && (rB s l 4).toBitVec.getLsbD 21))) || ((rB s l 4).toBitVec.getLsbD 4 && ((rB s l 4).toBitVec.getLsbD 13 && (rB s l 4).toBitVec.getLsbD 22))) || ((rB s l 4).toBitVec.getLsbD 5 && ((rB s l 4).toBitVec.getLsbD 14 && (rB s l 4).toBitVec.getLsbD 23))) || ((rB s l 4).toBitVec.getLsbD 6 && ((rB s l 4).toBitVec.getLsbD 15 && (rB s l 4).toBitVec.getLsbD 24))) := by
  rw [Bool.eq_iff_iff, all3]
  have h7 := h.r78 7 (by unfold rs; omega)
  have h8 := h.r78 8 (by unfold rs; omega)
  generalize (rB s l 4).toBitVec = b at h7 h8 ⊢
  simp only [Bool.or_eq_true, Bool.and_eq_true]
  constructor
  · rintro ⟨n, hn, h1, h2, h3⟩
    have : n = 0 ∨ n = 1 ∨ n = 2 ∨ n = 3 ∨ n = 4 ∨ n = 5 ∨ n = 6 ∨ n = 7 ∨ n = 8 := by omega
    rcases this with rfl | rfl | rfl | rfl | rfl | rfl | rfl | rfl | rfl
    · exact Or.inl (Or.inl (Or.inl (Or.inl (Or.inl (Or.inl ⟨h1, h2, h3⟩)))))
    · exact Or.inl (Or.inl (Or.inl (Or.inl (Or.inl (Or.inr ⟨h1, h2, h3⟩)))))
    · exact Or.inl (Or.inl (Or.inl (Or.inl (Or.inr ⟨h1, h2, h3⟩))))
    · exact Or.inl (Or.inl (Or.inl (Or.inr ⟨h1, h2, h3⟩)))
    · exact Or.inl (Or.inl (Or.inr ⟨h1, h2, h3⟩))
    · exact Or.inl (Or.inr ⟨h1, h2, h3⟩)
    · exact Or.inr ⟨h1, h2, h3⟩
    · rw [h7] at h1; exact absurd h1 (by decide)
    · rw [h8] at h1; exact absurd h1 (by decide)
  · rintro ((((((z | z) | z) | z) | z) | z) | z)
    · exact ⟨0, by omega, z⟩
    · exact ⟨1, by omega, z⟩
    · exact ⟨2, by omega, z⟩
    · exact ⟨3, by omega, z⟩
    · exact ⟨4, by omega, z⟩
    · exact ⟨5, by omega, z⟩
    · exact ⟨6, by omega, z⟩
theorem e22 (x : Int64) : (!(decide ((lg_cmp (((x &&& ((x.toUInt64 >>> ((9 : Int32).toInt64.toUInt64 &&& Int64.toUInt64 63)).toInt64)) &&& ((x.toUInt64 >>> ((18 : Int32).toInt64.toUInt64 &&& Int64.toUInt64 63)).toInt64)) &&& 511) 0) = 0))) = (((((((((x.toBitVec.getLsbD 0 && (x.toBitVec.getLsbD 9 && x.toBitVec.getLsbD 18)) || (x.toBitVec.getLsbD 1 && (x.toBitVec.getLsbD 10 && x.toBitVec.getLsbD 19))) || (x.toBitVec.getLsbD 2 && (x.toBitVec.getLsbD 11 && x.toBitVec.getLsbD 20))) || (x.toBitVec.getLsbD 3 && (x.toBitVec.getLsbD 12 && x.toBitVec.getLsbD 21))) || (x.toBitVec.getLsbD 4 && (x.toBitVec.getLsbD 13 && x.toBitVec.getLsbD 22))) || (x.toBitVec.getLsbD 5 && (x.toBitVec.getLsbD 14 && x.toBitVec.getLsbD 23))) || (x.toBitVec.getLsbD 6 && (x.toBitVec.getLsbD 15 && x.toBitVec.getLsbD 24))) || (x.toBitVec.getLsbD 7 && (x.toBitVec.getLsbD 16 && x.toBitVec.getLsbD 25))) || (x.toBitVec.getLsbD 8 && (x.toBitVec.getLsbD 17 && x.toBitVec.getLsbD 26))) := by
  rw [Bool.eq_iff_iff, all3]
  generalize x.toBitVec = b
  simp only [Bool.or_eq_true, Bool.and_eq_true]
  constructor
  · rintro ⟨n, hn, h1, h2, h3⟩
    have : n = 0 ∨ n = 1 ∨ n = 2 ∨ n = 3 ∨ n = 4 ∨ n = 5 ∨ n = 6 ∨ n = 7 ∨ n = 8 := by omega
    rcases this with rfl | rfl | rfl | rfl | rfl | rfl | rfl | rfl | rfl
    · exact Or.inl (Or.inl (Or.inl (Or.inl (Or.inl (Or.inl (Or.inl (Or.inl ⟨h1, h2, h3⟩)))))))
    · exact Or.inl (Or.inl (Or.inl (Or.inl (Or.inl (Or.inl (Or.inl (Or.inr ⟨h1, h2, h3⟩)))))))
    · exact Or.inl (Or.inl (Or.inl (Or.inl (Or.inl (Or.inl (Or.inr ⟨h1, h2, h3⟩))))))
    · exact Or.inl (Or.inl (Or.inl (Or.inl (Or.inl (Or.inr ⟨h1, h2, h3⟩)))))
    · exact Or.inl (Or.inl (Or.inl (Or.inl (Or.inr ⟨h1, h2, h3⟩))))
    · exact Or.inl (Or.inl (Or.inl (Or.inr ⟨h1, h2, h3⟩)))
    · exact Or.inl (Or.inl (Or.inr ⟨h1, h2, h3⟩))
    · exact Or.inl (Or.inr ⟨h1, h2, h3⟩)
    · exact Or.inr ⟨h1, h2, h3⟩
  · rintro ((((((((z | z) | z) | z) | z) | z) | z) | z) | z)
    · exact ⟨0, by omega, z⟩
    · exact ⟨1, by omega, z⟩
    · exact ⟨2, by omega, z⟩
    · exact ⟨3, by omega, z⟩
    · exact ⟨4, by omega, z⟩
    · exact ⟨5, by omega, z⟩
    · exact ⟨6, by omega, z⟩
    · exact ⟨7, by omega, z⟩
    · exact ⟨8, by omega, z⟩
/-- honours among the SETS -/
theorem WY.hon {q : Nat} {p : Nat} {co : Nat} {s : Nat → Nat} {l : Nat → Nat} (h : WY q p co s l) : (xHo (nI p) || (!(decide ((lg_cmp ((tB s l 4) &&& 17045651456) 0) = 0)))) = ((((xHo (nI p) || xHo (nI (l 0))) || xHo (nI (l 1))) || xHo (nI (l 2))) || xHo (nI (l 3))) := by
  have e : (!(decide ((lg_cmp ((tB s l 4) &&& 17045651456) 0) = 0))) = (((xHo (nI (l 0)) || xHo (nI (l 1))) || xHo (nI (l 2))) || xHo (nI (l 3))) := by
    rw [Bool.eq_iff_iff, ne0_bit, ho_n _ (h.sl 0 (by omega)).2.1, ho_n _ (h.sl 1 (by omega)).2.1, ho_n _ (h.sl 2 (by omega)).2.1, ho_n _ (h.sl 3 (by omega)).2.1]
    simp only [Bool.or_eq_true, decide_eq_true_iff]
    rw [← ex4 (P := fun j => 27 ≤ l j)]
    constructor
    · rintro ⟨n, hn, z⟩
      rw [Int64.toBitVec_and, BitVec.getLsbD_and, mHO n hn, Bool.and_eq_true, Bool.and_eq_true, decide_eq_true_iff, tB_bit s l n 4 (fun j hj => (h.sl j hj).2.1)] at z
      obtain ⟨⟨j, hj, _, e⟩, h1, _⟩ := z
      exact ⟨j, hj, by omega⟩
    · rintro ⟨j, hj, z⟩
      have b := h.sl j hj
      refine ⟨l j, by omega, ?_⟩
      rw [Int64.toBitVec_and, BitVec.getLsbD_and, mHO (l j) (by omega), Bool.and_eq_true, Bool.and_eq_true, decide_eq_true_iff, decide_eq_true_iff, tB_bit s l (l j) 4 (fun j hj => (h.sl j hj).2.1)]
      exact ⟨⟨j, hj, fun z0 => by have := b.2.2 z0; unfold rs at this; omega, rfl⟩, z, b.2.1⟩
  rw [e]
  generalize xHo (nI p) = a
  generalize xHo (nI (l 0)) = b
  generalize xHo (nI (l 1)) = c
  generalize xHo (nI (l 2)) = d
  generalize xHo (nI (l 3)) = f
  revert a b c d f
  decide
theorem WY.ru {q : Nat} {p : Nat} {co : Nat} {s : Nat → Nat} {l : Nat → Nat} (h : WY q p co s l) (κM : zM) : (!(decide (w0_1 (yM κM s l (nI p) (nI co)) q s l ≤ 0))) = (!(decide (lg_cmp (rB s l 4) 0 = 0))) := by
  rw [h.r0 κM]
  congr 1
  show decide ((((0 + nB (decide (nI (s 0) = 0))) + nB (decide (nI (s 1) = 0))) + nB (decide (nI (s 2) = 0))) + nB (decide (nI (s 3) = 0)) ≤ 0) = decide ((((0 + nB (decide (nI (s 0) = 0))) + nB (decide (nI (s 1) = 0))) + nB (decide (nI (s 2) = 0))) + nB (decide (nI (s 3) = 0)) = 0)
  generalize decide (nI (s 0) = 0) = a
  generalize decide (nI (s 1) = 0) = b
  generalize decide (nI (s 2) = 0) = c
  generalize decide (nI (s 3) = 0) = d
  revert a b c d
  decide +kernel
theorem WY.EF {q : Nat} {p : Nat} {co : Nat} {s : Nat → Nat} {l : Nat → Nat} (h : WY q p co s l) (κC : zM) (κM : zM) : xEF (cM κC s l (nI p)) = lb (xE1 (yM κM s l (nI p) (nI co)) (w0_1 (yM κM s l (nI p) (nI co)) q s l)) 23 ||| lb (xE2 (yM κM s l (nI p) (nI co)) (w0_1 (yM κM s l (nI p) (nI co)) q s l)) 27 := by
  have b : ∀ j, j < 4 → s j < 4 ∧ l j < 34 ∧ (s j = 0 → l j < 27 ∧ l j % 9 < 7) := fun j hj => ⟨by have := (h.sl j hj).1; omega, (h.sl j hj).2.1, fun z => by have := (h.sl j hj).2.2 z; unfold rs at this; omega⟩
  have k0 := ek_e _ (b 0 (by omega)).1 _ (b 0 (by omega)).2.1 (b 0 (by omega)).2.2
  have k1 := ek_e _ (b 1 (by omega)).1 _ (b 1 (by omega)).2.1 (b 1 (by omega)).2.2
  have k2 := ek_e _ (b 2 (by omega)).1 _ (b 2 (by omega)).2.1 (b 2 (by omega)).2.2
  have k3 := ek_e _ (b 3 (by omega)).1 _ (b 3 (by omega)).2.1 (b 3 (by omega)).2.2
  have t0 := ek_t _ (b 0 (by omega)).1 _ (b 0 (by omega)).2.1 (b 0 (by omega)).2.2
  have t1 := ek_t _ (b 1 (by omega)).1 _ (b 1 (by omega)).2.1 (b 1 (by omega)).2.2
  have t2 := ek_t _ (b 2 (by omega)).1 _ (b 2 (by omega)).2.1 (b 2 (by omega)).2.2
  have t3 := ek_t _ (b 3 (by omega)).1 _ (b 3 (by omega)).2.1 (b 3 (by omega)).2.2
  unfold xEF xE1 xE2
  rw [h.ru κM]
  show ((lb ((((((xHd 17113154305 (nI p)) && (!(decide ((lg_cmp (((bif decide (nI (s 0) = 0) then (7 : Int64) else 1) <<< ((nI (l 0)).toInt64 &&& 63)) &&& 17113154305) 0) = 0)))) && (!(decide ((lg_cmp (((bif decide (nI (s 1) = 0) then (7 : Int64) else 1) <<< ((nI (l 1)).toInt64 &&& 63)) &&& 17113154305) 0) = 0)))) && (!(decide ((lg_cmp (((bif decide (nI (s 2) = 0) then (7 : Int64) else 1) <<< ((nI (l 2)).toInt64 &&& 63)) &&& 17113154305) 0) = 0)))) && (!(decide ((lg_cmp (((bif decide (nI (s 3) = 0) then (7 : Int64) else 1) <<< ((nI (l 3)).toInt64 &&& 63)) &&& 17113154305) 0) = 0)))) && (((xHd 17045651456 (nI p)) || (!(decide ((lg_cmp ((tB s l 4) &&& 17045651456) 0) = 0)))) && (!(decide ((lg_cmp (rB s l 4) 0) = 0))))) 23) ||| (lb ((((((xHd 67502849 (nI p)) && (!(decide ((lg_cmp (((bif decide (nI (s 0) = 0) then (7 : Int64) else 1) <<< ((nI (l 0)).toInt64 &&& 63)) &&& 67502849) 0) = 0)))) && (!(decide ((lg_cmp (((bif decide (nI (s 1) = 0) then (7 : Int64) else 1) <<< ((nI (l 1)).toInt64 &&& 63)) &&& 67502849) 0) = 0)))) && (!(decide ((lg_cmp (((bif decide (nI (s 2) = 0) then (7 : Int64) else 1) <<< ((nI (l 2)).toInt64 &&& 63)) &&& 67502849) 0) = 0)))) && (!(decide ((lg_cmp (((bif decide (nI (s 3) = 0) then (7 : Int64) else 1) <<< ((nI (l 3)).toInt64 &&& 63)) &&& 67502849) 0) = 0)))) && (!(decide ((lg_cmp (rB s l 4) 0) = 0)))) 27)) = _
  rw [k0, k1, k2, k3, t0, t1, t2, t3, ho_p p h.p34, h.hon, en_p p h.p34, te_p p h.p34]
  generalize (!(decide ((lg_cmp (rB s l 4) 0) = 0))) = r
  congr 2
  exact congrArg _ (Bool.and_comm _ _)
