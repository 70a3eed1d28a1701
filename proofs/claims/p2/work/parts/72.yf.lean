/-! HAN, base: both sides alike -/
set_option maxRecDepth 8000
theorem as_n : ∀ k, k < 64 → (((nI k).toInt64 &&& 63).toBitVec.smod 64#64) = BitVec.ofNat 64 k := by decide +kernel
theorem as_bit (x : Int64) (k : Nat) (c : Int32) (hc : c = nI k) (hk : k < 64) : ((x >>> (c.toInt64 &&& 63)) &&& 1) = lb (x.toBitVec.getLsbD k) 0 := by
  subst hc
  have e : ((x >>> ((nI k).toInt64 &&& 63)) &&& 1).toBitVec = (x.toBitVec.sshiftRight k) &&& 1#64 := by
    rw [Int64.toBitVec_and]
    congr 1
    rw [Int64.toBitVec_shiftRight]
    show x.toBitVec.sshiftRight' (((nI k).toInt64 &&& 63).toBitVec.smod 64#64) = _
    rw [as_n k hk, BitVec.sshiftRight_eq', BitVec.toNat_ofNat, Nat.mod_eq_of_lt (by omega)]
  rw [← Int64.toBitVec_inj, e]
  apply BitVec.eq_of_getLsbD_eq
  intro i hi
  rw [BitVec.getLsbD_and, BitVec.getLsbD_sshiftRight]
  by_cases h0 : i = 0
  · subst h0
    rw [Nat.add_zero, if_pos hk]
    cases x.toBitVec.getLsbD k <;> decide
  · have : (1#64).getLsbD i = false := by rw [BitVec.getLsbD_one]; simp; omega
    rw [this, Bool.and_false]
    cases x.toBitVec.getLsbD k
    · show false = (0#64).getLsbD i; rw [BitVec.getLsbD_zero]
    · show false = (1#64).getLsbD i; rw [this]
theorem as_dec (x : Int64) (k : Nat) (c : Int32) (hc : c = nI k) (hk : k < 64) : decide (lg_cmp ((x >>> (c.toInt64 &&& 63)) &&& 1) 1 = 0) = x.toBitVec.getLsbD k := by
  rw [as_bit x k c hc hk]
  cases x.toBitVec.getLsbD k <;> decide
theorem hb_dec (x : Int64) (k : Nat) (hk : k < 64) : hb x k = !x.toBitVec.getLsbD k := by
  unfold hb
  cases h : x.toBitVec.getLsbD k
  · exact decide_eq_true (lg_c0.mpr ((us_bit x k hk).mpr h))
  · exact decide_eq_false (fun z => by have := (us_bit x k hk).mp (lg_c0.mp z); rw [h] at this; exact absurd this (by decide))
theorem hs_0 (a : Int32) (β op : Bool) : (bif !β then a else a + (bif decide (nB op = 0) then (z_ro z_x0 101).2 0 else (z_ro z_x0 102).2 0)) = a + (nB (β && (!op))) := by
  cases β <;> cases op <;> first | rfl | exact (Int32.add_zero a).symm
theorem hs_1 (a : Int32) (β op : Bool) : (bif !β then a else a + (bif decide (nB op = 0) then (z_ro z_x0 101).2 1 else (z_ro z_x0 102).2 1)) = a + (bif β then bif op then (0 : Int32) else 2 else 0) := by
  cases β <;> cases op <;> first | rfl | exact (Int32.add_zero a).symm
theorem hs_2 (a : Int32) (β op : Bool) : (bif !β then a else a + (bif decide (nB op = 0) then (z_ro z_x0 101).2 2 else (z_ro z_x0 102).2 2)) = a + (nB (β && (!op))) := by
  cases β <;> cases op <;> first | rfl | exact (Int32.add_zero a).symm
theorem hs_3 (a : Int32) (β op : Bool) : (bif !β then a else a + (bif decide (nB op = 0) then (z_ro z_x0 101).2 3 else (z_ro z_x0 102).2 3)) = a + (nB (β && (!op))) := by
  cases β <;> cases op <;> first | rfl | exact (Int32.add_zero a).symm
theorem hs_4 (a : Int32) (β op : Bool) : (bif !β then a else a + (bif decide (nB op = 0) then (z_ro z_x0 101).2 4 else (z_ro z_x0 102).2 4)) = a + (nB β) := by
  cases β <;> cases op <;> first | rfl | exact (Int32.add_zero a).symm
theorem hs_5 (a : Int32) (β op : Bool) : (bif !β then a else a + (bif decide (nB op = 0) then (z_ro z_x0 101).2 5 else (z_ro z_x0 102).2 5)) = a + (nB β) := by
  cases β <;> cases op <;> first | rfl | exact (Int32.add_zero a).symm
theorem hs_6 (a : Int32) (β op : Bool) : (bif !β then a else a + (bif decide (nB op = 0) then (z_ro z_x0 101).2 6 else (z_ro z_x0 102).2 6)) = a + (nB β) := by
  cases β <;> cases op <;> first | rfl | exact (Int32.add_zero a).symm
theorem hs_7 (a : Int32) (β op : Bool) : (bif !β then a else a + (bif decide (nB op = 0) then (z_ro z_x0 101).2 7 else (z_ro z_x0 102).2 7)) = a + (nB β) := by
  cases β <;> cases op <;> first | rfl | exact (Int32.add_zero a).symm
theorem hs_8 (a : Int32) (β op : Bool) : (bif !β then a else a + (bif decide (nB op = 0) then (z_ro z_x0 101).2 8 else (z_ro z_x0 102).2 8)) = a + (nB β) := by
  cases β <;> cases op <;> first | rfl | exact (Int32.add_zero a).symm
theorem hs_9 (a : Int32) (β op : Bool) : (bif !β then a else a + (bif decide (nB op = 0) then (z_ro z_x0 101).2 9 else (z_ro z_x0 102).2 9)) = a + (nB (β && (!op))) := by
  cases β <;> cases op <;> first | rfl | exact (Int32.add_zero a).symm
theorem hs_10 (a : Int32) (β op : Bool) : (bif !β then a else a + (bif decide (nB op = 0) then (z_ro z_x0 101).2 10 else (z_ro z_x0 102).2 10)) = a + (nB (β && (!op))) := by
  cases β <;> cases op <;> first | rfl | exact (Int32.add_zero a).symm
theorem hs_11 (a : Int32) (β op : Bool) : (bif !β then a else a + (bif decide (nB op = 0) then (z_ro z_x0 101).2 11 else (z_ro z_x0 102).2 11)) = a + (nB β) := by
  cases β <;> cases op <;> first | rfl | exact (Int32.add_zero a).symm
theorem hs_12 (a : Int32) (β op : Bool) : (bif !β then a else a + (bif decide (nB op = 0) then (z_ro z_x0 101).2 12 else (z_ro z_x0 102).2 12)) = a + (nB β) := by
  cases β <;> cases op <;> first | rfl | exact (Int32.add_zero a).symm
theorem hs_13 (a : Int32) (β op : Bool) : (bif !β then a else a + (bif decide (nB op = 0) then (z_ro z_x0 101).2 13 else (z_ro z_x0 102).2 13)) = a + (nB β) := by
  cases β <;> cases op <;> first | rfl | exact (Int32.add_zero a).symm
theorem hs_14 (a : Int32) (β op : Bool) : (bif !β then a else a + (bif decide (nB op = 0) then (z_ro z_x0 101).2 14 else (z_ro z_x0 102).2 14)) = a + (nB β) := by
  cases β <;> cases op <;> first | rfl | exact (Int32.add_zero a).symm
theorem hs_15 (a : Int32) (β op : Bool) : (bif !β then a else a + (bif decide (nB op = 0) then (z_ro z_x0 101).2 15 else (z_ro z_x0 102).2 15)) = a + (nB β) := by
  cases β <;> cases op <;> first | rfl | exact (Int32.add_zero a).symm
theorem hs_16 (a : Int32) (β op : Bool) : (bif !β then a else a + (bif decide (nB op = 0) then (z_ro z_x0 101).2 16 else (z_ro z_x0 102).2 16)) = a + (bif β then (2 : Int32) else 0) := by
  cases β <;> cases op <;> first | rfl | exact (Int32.add_zero a).symm
theorem hs_17 (a : Int32) (β op : Bool) : (bif !β then a else a + (bif decide (nB op = 0) then (z_ro z_x0 101).2 17 else (z_ro z_x0 102).2 17)) = a + (bif β then bif op then (1 : Int32) else 2 else 0) := by
  cases β <;> cases op <;> first | rfl | exact (Int32.add_zero a).symm
theorem hs_18 (a : Int32) (β op : Bool) : (bif !β then a else a + (bif decide (nB op = 0) then (z_ro z_x0 101).2 18 else (z_ro z_x0 102).2 18)) = a + (bif β then bif op then (1 : Int32) else 2 else 0) := by
  cases β <;> cases op <;> first | rfl | exact (Int32.add_zero a).symm
theorem hs_19 (a : Int32) (β op : Bool) : (bif !β then a else a + (bif decide (nB op = 0) then (z_ro z_x0 101).2 19 else (z_ro z_x0 102).2 19)) = a + (bif β then (2 : Int32) else 0) := by
  cases β <;> cases op <;> first | rfl | exact (Int32.add_zero a).symm
theorem hs_20 (a : Int32) (β op : Bool) : (bif !β then a else a + (bif decide (nB op = 0) then (z_ro z_x0 101).2 20 else (z_ro z_x0 102).2 20)) = a + (bif β then (2 : Int32) else 0) := by
  cases β <;> cases op <;> first | rfl | exact (Int32.add_zero a).symm
theorem hs_21 (a : Int32) (β op : Bool) : (bif !β then a else a + (bif decide (nB op = 0) then (z_ro z_x0 101).2 21 else (z_ro z_x0 102).2 21)) = a + (bif β then (2 : Int32) else 0) := by
  cases β <;> cases op <;> first | rfl | exact (Int32.add_zero a).symm
theorem hs_22 (a : Int32) (β op : Bool) : (bif !β then a else a + (bif decide (nB op = 0) then (z_ro z_x0 101).2 22 else (z_ro z_x0 102).2 22)) = a + (bif β then (2 : Int32) else 0) := by
  cases β <;> cases op <;> first | rfl | exact (Int32.add_zero a).symm
theorem hs_23 (a : Int32) (β op : Bool) : (bif !β then a else a + (bif decide (nB op = 0) then (z_ro z_x0 101).2 23 else (z_ro z_x0 102).2 23)) = a + (bif β then bif op then (1 : Int32) else 2 else 0) := by
  cases β <;> cases op <;> first | rfl | exact (Int32.add_zero a).symm
theorem hs_24 (a : Int32) (β op : Bool) : (bif !β then a else a + (bif decide (nB op = 0) then (z_ro z_x0 101).2 24 else (z_ro z_x0 102).2 24)) = a + (bif β then (2 : Int32) else 0) := by
  cases β <;> cases op <;> first | rfl | exact (Int32.add_zero a).symm
theorem hs_25 (a : Int32) (β op : Bool) : (bif !β then a else a + (bif decide (nB op = 0) then (z_ro z_x0 101).2 25 else (z_ro z_x0 102).2 25)) = a + (bif β then (2 : Int32) else 0) := by
  cases β <;> cases op <;> first | rfl | exact (Int32.add_zero a).symm
theorem hs_26 (a : Int32) (β op : Bool) : (bif !β then a else a + (bif decide (nB op = 0) then (z_ro z_x0 101).2 26 else (z_ro z_x0 102).2 26)) = a + (bif β then bif op then (2 : Int32) else 3 else 0) := by
  cases β <;> cases op <;> first | rfl | exact (Int32.add_zero a).symm
theorem hs_27 (a : Int32) (β op : Bool) : (bif !β then a else a + (bif decide (nB op = 0) then (z_ro z_x0 101).2 27 else (z_ro z_x0 102).2 27)) = a + (bif β then bif op then (2 : Int32) else 3 else 0) := by
  cases β <;> cases op <;> first | rfl | exact (Int32.add_zero a).symm
theorem hs_28 (a : Int32) (β op : Bool) : (bif !β then a else a + (bif decide (nB op = 0) then (z_ro z_x0 101).2 28 else (z_ro z_x0 102).2 28)) = a + (bif β then bif op then (0 : Int32) else 3 else 0) := by
  cases β <;> cases op <;> first | rfl | exact (Int32.add_zero a).symm
theorem hs_29 (a : Int32) (β op : Bool) : (bif !β then a else a + (bif decide (nB op = 0) then (z_ro z_x0 101).2 29 else (z_ro z_x0 102).2 29)) = a + (bif β then bif op then (5 : Int32) else 6 else 0) := by
  cases β <;> cases op <;> first | rfl | exact (Int32.add_zero a).symm
theorem han_eq (p : Int64) (op : Bool) : hnc p (nB op) 30 = hnP p op := by
  unfold hnP
  rw [as_dec p 0 0 rfl (by decide)]
  rw [as_dec p 1 1 rfl (by decide)]
  rw [as_dec p 2 2 rfl (by decide)]
  rw [as_dec p 3 3 rfl (by decide)]
  rw [as_dec p 4 4 rfl (by decide)]
  rw [as_dec p 5 5 rfl (by decide)]
  rw [as_dec p 6 6 rfl (by decide)]
  rw [as_dec p 7 7 rfl (by decide)]
  rw [as_dec p 8 8 rfl (by decide)]
  rw [as_dec p 9 9 rfl (by decide)]
  rw [as_dec p 10 10 rfl (by decide)]
  rw [as_dec p 11 11 rfl (by decide)]
  rw [as_dec p 12 12 rfl (by decide)]
  rw [as_dec p 13 13 rfl (by decide)]
  rw [as_dec p 14 14 rfl (by decide)]
  rw [as_dec p 15 15 rfl (by decide)]
  rw [as_dec p 16 16 rfl (by decide)]
  rw [as_dec p 17 17 rfl (by decide)]
  rw [as_dec p 18 18 rfl (by decide)]
  rw [as_dec p 19 19 rfl (by decide)]
  rw [as_dec p 20 20 rfl (by decide)]
  rw [as_dec p 21 21 rfl (by decide)]
  rw [as_dec p 22 22 rfl (by decide)]
  rw [as_dec p 23 23 rfl (by decide)]
  rw [as_dec p 24 24 rfl (by decide)]
  rw [as_dec p 25 25 rfl (by decide)]
  rw [as_dec p 26 26 rfl (by decide)]
  rw [as_dec p 27 27 rfl (by decide)]
  rw [as_dec p 28 28 rfl (by decide)]
  rw [as_dec p 29 29 rfl (by decide)]
  have st : ∀ i, hnc p (nB op) (i + 1) = bif hb p i then hnc p (nB op) i else hnc p (nB op) i + (bif decide (nB op = 0) then (z_ro z_x0 101).2 i else (z_ro z_x0 102).2 i) := fun i => rfl
  rw [show hnc p (nB op) 30 = hnc p (nB op) (29 + 1) from rfl]
  rw [st 29, hb_dec p 29 (by decide), hs_29]
  rw [show hnc p (nB op) 29 = hnc p (nB op) (28 + 1) from rfl]
  rw [st 28, hb_dec p 28 (by decide), hs_28]
  rw [show hnc p (nB op) 28 = hnc p (nB op) (27 + 1) from rfl]
  rw [st 27, hb_dec p 27 (by decide), hs_27]
  rw [show hnc p (nB op) 27 = hnc p (nB op) (26 + 1) from rfl]
  rw [st 26, hb_dec p 26 (by decide), hs_26]
  rw [show hnc p (nB op) 26 = hnc p (nB op) (25 + 1) from rfl]
  rw [st 25, hb_dec p 25 (by decide), hs_25]
  rw [show hnc p (nB op) 25 = hnc p (nB op) (24 + 1) from rfl]
  rw [st 24, hb_dec p 24 (by decide), hs_24]
  rw [show hnc p (nB op) 24 = hnc p (nB op) (23 + 1) from rfl]
  rw [st 23, hb_dec p 23 (by decide), hs_23]
  rw [show hnc p (nB op) 23 = hnc p (nB op) (22 + 1) from rfl]
  rw [st 22, hb_dec p 22 (by decide), hs_22]
  rw [show hnc p (nB op) 22 = hnc p (nB op) (21 + 1) from rfl]
  rw [st 21, hb_dec p 21 (by decide), hs_21]
  rw [show hnc p (nB op) 21 = hnc p (nB op) (20 + 1) from rfl]
  rw [st 20, hb_dec p 20 (by decide), hs_20]
  rw [show hnc p (nB op) 20 = hnc p (nB op) (19 + 1) from rfl]
  rw [st 19, hb_dec p 19 (by decide), hs_19]
  rw [show hnc p (nB op) 19 = hnc p (nB op) (18 + 1) from rfl]
  rw [st 18, hb_dec p 18 (by decide), hs_18]
  rw [show hnc p (nB op) 18 = hnc p (nB op) (17 + 1) from rfl]
  rw [st 17, hb_dec p 17 (by decide), hs_17]
  rw [show hnc p (nB op) 17 = hnc p (nB op) (16 + 1) from rfl]
  rw [st 16, hb_dec p 16 (by decide), hs_16]
  rw [show hnc p (nB op) 16 = hnc p (nB op) (15 + 1) from rfl]
  rw [st 15, hb_dec p 15 (by decide), hs_15]
  rw [show hnc p (nB op) 15 = hnc p (nB op) (14 + 1) from rfl]
  rw [st 14, hb_dec p 14 (by decide), hs_14]
  rw [show hnc p (nB op) 14 = hnc p (nB op) (13 + 1) from rfl]
  rw [st 13, hb_dec p 13 (by decide), hs_13]
  rw [show hnc p (nB op) 13 = hnc p (nB op) (12 + 1) from rfl]
  rw [st 12, hb_dec p 12 (by decide), hs_12]
  rw [show hnc p (nB op) 12 = hnc p (nB op) (11 + 1) from rfl]
  rw [st 11, hb_dec p 11 (by decide), hs_11]
  rw [show hnc p (nB op) 11 = hnc p (nB op) (10 + 1) from rfl]
  rw [st 10, hb_dec p 10 (by decide), hs_10]
  rw [show hnc p (nB op) 10 = hnc p (nB op) (9 + 1) from rfl]
  rw [st 9, hb_dec p 9 (by decide), hs_9]
  rw [show hnc p (nB op) 9 = hnc p (nB op) (8 + 1) from rfl]
  rw [st 8, hb_dec p 8 (by decide), hs_8]
  rw [show hnc p (nB op) 8 = hnc p (nB op) (7 + 1) from rfl]
  rw [st 7, hb_dec p 7 (by decide), hs_7]
  rw [show hnc p (nB op) 7 = hnc p (nB op) (6 + 1) from rfl]
  rw [st 6, hb_dec p 6 (by decide), hs_6]
  rw [show hnc p (nB op) 6 = hnc p (nB op) (5 + 1) from rfl]
  rw [st 5, hb_dec p 5 (by decide), hs_5]
  rw [show hnc p (nB op) 5 = hnc p (nB op) (4 + 1) from rfl]
  rw [st 4, hb_dec p 4 (by decide), hs_4]
  rw [show hnc p (nB op) 4 = hnc p (nB op) (3 + 1) from rfl]
  rw [st 3, hb_dec p 3 (by decide), hs_3]
  rw [show hnc p (nB op) 3 = hnc p (nB op) (2 + 1) from rfl]
  rw [st 2, hb_dec p 2 (by decide), hs_2]
  rw [show hnc p (nB op) 2 = hnc p (nB op) (1 + 1) from rfl]
  rw [st 1, hb_dec p 1 (by decide), hs_1]
  rw [show hnc p (nB op) 1 = hnc p (nB op) (0 + 1) from rfl]
  rw [st 0, hb_dec p 0 (by decide), hs_0]
  rfl
theorem bas_eq (μ : zM) (x f : Int32) : baC f (x + μ.1 50 10) = bsH μ x f := by
  unfold baC bsH
  generalize x + μ.1 50 10 = h
  have le : ∀ x y : Int32, decide (x ≤ y) = !decide (y < x) := fun x y => by rw [← decide_not]; exact decide_eq_decide.mpr Int32.not_lt.symm
  have l8 : decide ((8 : Int32) ≤ h) = decide (7 < h) := decide_eq_decide.mpr (by rw [Int32.le_iff_toInt_le, Int32.lt_iff_toInt_lt]; show (8 : Int) ≤ _ ↔ (7 : Int) < _; omega)
  have l11 : decide ((11 : Int32) ≤ h) = decide (10 < h) := decide_eq_decide.mpr (by rw [Int32.le_iff_toInt_le, Int32.lt_iff_toInt_lt]; show (11 : Int) ≤ _ ↔ (10 : Int) < _; omega)
  have l13 : decide ((13 : Int32) ≤ h) = decide (12 < h) := decide_eq_decide.mpr (by rw [Int32.le_iff_toInt_le, Int32.lt_iff_toInt_lt]; show (13 : Int) ≤ _ ↔ (12 : Int) < _; omega)
  rw [l8, l11, l13, le h 4]
  cases decide (4 < h)
  · show (bif decide ((2000 : Int32) ≤ f <<< ((2 + h) &&& 31)) then (2000 : Int32) else _) = if f <<< ((2 + h) &&& 31) < 2000 then _ else (2000 : Int32)
    rw [le]
    by_cases c : f <<< ((2 + h) &&& 31) < 2000
    · rw [if_pos c, decide_eq_true c]; rfl
    · rw [if_neg c, decide_eq_false c]; rfl
  · rfl
theorem lb_one : ∀ k, k < 64 → ((1 : Int64) <<< ((nI k).toInt64 &&& 63)).toBitVec = BitVec.twoPow 64 k := by decide +kernel
theorem lb_bit (e : Bool) (c : Int32) (k : Nat) (hc : c = nI k) (hk : k < 64) (n : Nat) : (lb e c).toBitVec.getLsbD n = (e && decide (k = n)) := by
  subst hc
  cases e
  · show (0#64).getLsbD n = _; rw [BitVec.getLsbD_zero]; rfl
  · show ((1 : Int64) <<< ((nI k).toInt64 &&& 63)).toBitVec.getLsbD n = _
    rw [lb_one k hk, BitVec.getLsbD_twoPow]
    by_cases h : k = n
    · subst h; simp; omega
    · simp [h]
theorem lb_or (a b : Bool) (k : Int32) : lb a k ||| lb b k = lb (a || b) k := by
  cases a <;> cases b
  · exact Int64.or_self
  · exact Int64.zero_or
  · exact Int64.or_zero
  · exact Int64.or_self
theorem i64_ext {x y : Int64} (h : ∀ n, n < 64 → x.toBitVec.getLsbD n = y.toBitVec.getLsbD n) : x = y := by
  rw [← Int64.toBitVec_inj]
  exact BitVec.eq_of_getLsbD_eq h
theorem or_and9 (a b m : Int64) : (a ||| b) &&& m = (a &&& m) ||| (b &&& m) := i64_ext (fun n _ => by
  rw [Int64.toBitVec_and, Int64.toBitVec_or, Int64.toBitVec_or, Int64.toBitVec_and, Int64.toBitVec_and, BitVec.getLsbD_and, BitVec.getLsbD_or, BitVec.getLsbD_or, BitVec.getLsbD_and, BitVec.getLsbD_and]
  exact Bool.and_or_distrib_right _ _ _)
/-- a long of which only few bits are kept -/
def orl : List (Bool × Nat) → Int64
  | [] => 0
  | x :: t => lb x.1 (nI x.2) ||| orl t
theorem orl_bit : ∀ L : List (Bool × Nat), (∀ x ∈ L, x.2 < 64) → ∀ n, (orl L).toBitVec.getLsbD n = L.any (fun x => x.1 && decide (x.2 = n)) := by
  intro L
  induction L with
  | nil => intro _ n; show (0#64).getLsbD n = _; rw [BitVec.getLsbD_zero]; rfl
  | cons x t ih =>
    intro h n
    show (lb x.1 (nI x.2) ||| orl t).toBitVec.getLsbD n = (x.1 && decide (x.2 = n) || t.any _)
    rw [Int64.toBitVec_or, BitVec.getLsbD_or, ih (fun y hy => h y (List.mem_cons_of_mem _ hy)), lb_bit x.1 _ x.2 rfl (h x List.mem_cons_self)]
theorem mask_orl (x m : Int64) (K : List Nat) (hK : ∀ k ∈ K, k < 64) (hm : ∀ n, n < 64 → m.toBitVec.getLsbD n = decide (n ∈ K)) : x &&& m = orl (K.map (fun k => (x.toBitVec.getLsbD k, k))) := i64_ext (fun n hn => by
  rw [Int64.toBitVec_and, BitVec.getLsbD_and, hm n hn, orl_bit _ (by intro y hy; obtain ⟨k, hk, rfl⟩ := List.mem_map.mp hy; exact hK k hk) n, List.any_map]
  rw [Bool.eq_iff_iff, Bool.and_eq_true, decide_eq_true_iff, List.any_eq_true]
  constructor
  · rintro ⟨h1, h2⟩
    exact ⟨n, h2, by show (x.toBitVec.getLsbD n && decide (n = n)) = true; rw [h1, decide_eq_true rfl]; rfl⟩
  · rintro ⟨k, h1, h2⟩
    have h2 : (x.toBitVec.getLsbD k && decide (k = n)) = true := h2
    rw [Bool.and_eq_true, decide_eq_true_iff] at h2
    rw [h2.2] at h1 h2
    exact ⟨h2.1, h1⟩)
theorem gcnt : ∀ b0 b1 b2 b3 b4 b5 b6 b7 b8 b9 ba bb : Bool, xBc (orl [(b0, 32), (b1, 33), (b2, 34), (b3, 35), (b4, 36), (b5, 37), (b6, 38), (b7, 39), (b8, 40), (b9, 41), (ba, 42), (bb, 43)]) = (((((((((((0 + nB b0) + nB b1) + nB b2) + nB b3) + nB b4) + nB b5) + nB b6) + nB b7) + nB b8) + nB b9) + nB ba) + nB bb := by decide +kernel
theorem nB_l (b : Bool) : (lb b 0).toInt32 = nB b := by cases b <;> rfl
theorem great_eq (x : Int64) : xBc (x &&& 17587891077120) = hnG (x &&& 17587891077120) := by
  have e : x &&& 17587891077120 = orl [(x.toBitVec.getLsbD 32, 32), (x.toBitVec.getLsbD 33, 33), (x.toBitVec.getLsbD 34, 34), (x.toBitVec.getLsbD 35, 35), (x.toBitVec.getLsbD 36, 36), (x.toBitVec.getLsbD 37, 37), (x.toBitVec.getLsbD 38, 38), (x.toBitVec.getLsbD 39, 39), (x.toBitVec.getLsbD 40, 40), (x.toBitVec.getLsbD 41, 41), (x.toBitVec.getLsbD 42, 42), (x.toBitVec.getLsbD 43, 43)] :=
    mask_orl x 17587891077120 [32, 33, 34, 35, 36, 37, 38, 39, 40, 41, 42, 43] (by decide) (by decide +kernel)
  have b : ∀ k, 32 ≤ k → k ≤ 43 → (x &&& 17587891077120).toBitVec.getLsbD k = x.toBitVec.getLsbD k := fun k h1 h2 => by
    have : ∀ k, k ≤ 43 → 32 ≤ k → (17587891077120 : Int64).toBitVec.getLsbD k = true := by decide +kernel
    rw [Int64.toBitVec_and, BitVec.getLsbD_and, this k h2 h1, Bool.and_true]
  unfold hnG
  rw [as_bit _ 32 32 rfl (by decide), as_bit _ 33 33 rfl (by decide), as_bit _ 34 34 rfl (by decide), as_bit _ 35 35 rfl (by decide), as_bit _ 36 36 rfl (by decide), as_bit _ 37 37 rfl (by decide), as_bit _ 38 38 rfl (by decide), as_bit _ 39 39 rfl (by decide), as_bit _ 40 40 rfl (by decide), as_bit _ 41 41 rfl (by decide), as_bit _ 42 42 rfl (by decide), as_bit _ 43 43 rfl (by decide)]
  rw [b 32 (by decide) (by decide), b 33 (by decide) (by decide), b 34 (by decide) (by decide), b 35 (by decide) (by decide), b 36 (by decide) (by decide), b 37 (by decide) (by decide), b 38 (by decide) (by decide), b 39 (by decide) (by decide), b 40 (by decide) (by decide), b 41 (by decide) (by decide), b 42 (by decide) (by decide), b 43 (by decide) (by decide)]
  rw [nB_l, nB_l, nB_l, nB_l, nB_l, nB_l, nB_l, nB_l, nB_l, nB_l, nB_l, nB_l, e]
  exact gcnt _ _ _ _ _ _ _ _ _ _ _ _
/-- an offer of the class beside the reference's -/
theorem val_eq {μ : zM} {op : Bool} {F : Int64} {fu dear : Int32} (hF : fO (nB op) F = cpG μ ||| cpP μ op) (hG : cpG μ &&& 17587891077120 = cpG μ) (hP : cpP μ op &&& 17587891077120 = 0) (hf : μ.1 50 23 = fu) (hd : μ.1 50 10 = dear) : (vO (nB op) dear F fu).2.2.2 = (cOf μ op).2.2.2 ∧ (¬ (vO (nB op) dear F fu).2.2.2 = 0 → vO (nB op) dear F fu = cOf μ op) := by
  have eG : fO (nB op) F &&& 17587891077120 = cpG μ := by rw [hF, or_and9, hG, hP, Int64.or_zero]
  unfold vO cOf
  rw [eG]
  by_cases c : cpG μ = 0
  · rw [show decide (lg_cmp (cpG μ) 0 = 0) = true from decide_eq_true (lg_c0.mpr c), cond_true, cond_true]
    have eP : fO (nB op) F = cpP μ op := by rw [hF, c, Int64.zero_or]
    rw [eP]
    by_cases c2 : cpP μ op = 0
    · rw [show decide (lg_cmp (cpP μ op) 0 = 0) = true from decide_eq_true (lg_c0.mpr c2), cond_true]
      exact ⟨rfl, fun z => absurd c2 z⟩
    · rw [show decide (lg_cmp (cpP μ op) 0 = 0) = false from decide_eq_false (fun z => c2 (lg_c0.mp z)), cond_false]
      refine ⟨rfl, fun _ => ?_⟩
      rw [han_eq, ← hd, bas_eq, hf]
  · rw [show decide (lg_cmp (cpG μ) 0 = 0) = false from decide_eq_false (fun z => c (lg_c0.mp z)), cond_false, cond_false]
    refine ⟨rfl, fun _ => ?_⟩
    have e := great_eq (cpG μ)
    rw [hG] at e
    rw [e, hf, Int32.mul_comm 13]
