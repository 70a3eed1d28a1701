/-! all FORMS of a way: both sides alike -/
set_option maxRecDepth 8000
abbrev tGr (t : Int64) : Int64 := t &&& (lb true 42 ||| lb true 43)
abbrev tFo (t : Int64) : Int64 := t &&& (((lb true 4 ||| lb true 5) ||| lb true 6) ||| lb true 7)
abbrev tTw (t : Int64) : Int64 := t &&& (lb true 1 ||| lb true 2)
def tOn (t : Int64) : Int64 := bif decide (lg_cmp (t &&& lb true 1) 0 = 0) then t &&& lb true 0 else 0
def xX0 (t : Int64) : Int64 := bif decide (lg_cmp (((t.toUInt64 >>> ((1 : Int32).toInt64.toUInt64 &&& Int64.toUInt64 63)).toInt64) &&& 1) 0 = 0) then t else t &&& (-2)
theorem td_f : ∀ b0 b1 b2 b4 b5 b6 b7 bx by9 : Bool, xX0 (orl [(b0, 0), (b1, 1), (b2, 2), (b4, 4), (b5, 5), (b6, 6), (b7, 7), (bx, 42), (by9, 43)]) = ((tGr (orl [(b0, 0), (b1, 1), (b2, 2), (b4, 4), (b5, 5), (b6, 6), (b7, 7), (bx, 42), (by9, 43)]) ||| tFo (orl [(b0, 0), (b1, 1), (b2, 2), (b4, 4), (b5, 5), (b6, 6), (b7, 7), (bx, 42), (by9, 43)])) ||| tTw (orl [(b0, 0), (b1, 1), (b2, 2), (b4, 4), (b5, 5), (b6, 6), (b7, 7), (bx, 42), (by9, 43)])) ||| tOn (orl [(b0, 0), (b1, 1), (b2, 2), (b4, 4), (b5, 5), (b6, 6), (b7, 7), (bx, 42), (by9, 43)]) := by decide +kernel
theorem td_o : ∀ b0 b1 b2 b4 b5 b6 b7 bx by9 : Bool, xX0 (orl [(b0, 0), (b1, 1), (b2, 2), (b4, 4), (b5, 5), (b6, 6), (b7, 7), (bx, 42), (by9, 43)]) &&& (-268437008) = tGr (orl [(b0, 0), (b1, 1), (b2, 2), (b4, 4), (b5, 5), (b6, 6), (b7, 7), (bx, 42), (by9, 43)]) ||| tFo (orl [(b0, 0), (b1, 1), (b2, 2), (b4, 4), (b5, 5), (b6, 6), (b7, 7), (bx, 42), (by9, 43)]) := by decide +kernel
theorem td_orl (x : Int64) : x &&& 13194139533559 = orl [(x.toBitVec.getLsbD 0, 0), (x.toBitVec.getLsbD 1, 1), (x.toBitVec.getLsbD 2, 2), (x.toBitVec.getLsbD 4, 4), (x.toBitVec.getLsbD 5, 5), (x.toBitVec.getLsbD 6, 6), (x.toBitVec.getLsbD 7, 7), (x.toBitVec.getLsbD 42, 42), (x.toBitVec.getLsbD 43, 43)] := mask_orl x 13194139533559 [0, 1, 2, 4, 5, 6, 7, 42, 43] (by decide) (by decide +kernel)
theorem tlm_c : tlm = 13194139533559 := by decide +kernel
theorem TO_eq (μ : zM) (told : Int64) (dr : Bool) (h : μ.1 14 7 = nB dr) : xTO μ told = xX0 (told &&& 13194139533559) ||| lb dr 3 := by
  unfold xTO
  rw [h]
  cases dr
  · exact Int64.or_zero.symm
  · rfl
theorem X0_f (x : Int64) : xX0 (x &&& 13194139533559) = ((tGr (x &&& 13194139533559) ||| tFo (x &&& 13194139533559)) ||| tTw (x &&& 13194139533559)) ||| tOn (x &&& 13194139533559) := by rw [td_orl]; exact td_f _ _ _ _ _ _ _ _ _
theorem X0_o (x : Int64) : xX0 (x &&& 13194139533559) &&& (-268437008) = tGr (x &&& 13194139533559) ||| tFo (x &&& 13194139533559) := by rw [td_orl]; exact td_o _ _ _ _ _ _ _ _ _
theorem lm_3 (e : Bool) : lb e 3 &&& (-268437008) = 0 := by cases e <;> rfl
theorem lg_3 (e : Bool) : lb e 3 &&& 17587891077120 = 0 := by cases e <;> rfl
theorem lm_8 (e : Bool) : lb e 8 &&& (-268437008) = lb e 8 := by cases e <;> rfl
theorem lg_8 (e : Bool) : lb e 8 &&& 17587891077120 = 0 := by cases e <;> rfl
theorem lm_9 (e : Bool) : lb e 9 &&& (-268437008) = 0 := by cases e <;> rfl
theorem lg_9 (e : Bool) : lb e 9 &&& 17587891077120 = 0 := by cases e <;> rfl
theorem lm_10 (e : Bool) : lb e 10 &&& (-268437008) = 0 := by cases e <;> rfl
theorem lg_10 (e : Bool) : lb e 10 &&& 17587891077120 = 0 := by cases e <;> rfl
theorem lm_11 (e : Bool) : lb e 11 &&& (-268437008) = lb e 11 := by cases e <;> rfl
theorem lg_11 (e : Bool) : lb e 11 &&& 17587891077120 = 0 := by cases e <;> rfl
theorem lm_12 (e : Bool) : lb e 12 &&& (-268437008) = lb e 12 := by cases e <;> rfl
theorem lg_12 (e : Bool) : lb e 12 &&& 17587891077120 = 0 := by cases e <;> rfl
theorem lm_13 (e : Bool) : lb e 13 &&& (-268437008) = lb e 13 := by cases e <;> rfl
theorem lg_13 (e : Bool) : lb e 13 &&& 17587891077120 = 0 := by cases e <;> rfl
theorem lm_14 (e : Bool) : lb e 14 &&& (-268437008) = lb e 14 := by cases e <;> rfl
theorem lg_14 (e : Bool) : lb e 14 &&& 17587891077120 = 0 := by cases e <;> rfl
theorem lm_15 (e : Bool) : lb e 15 &&& (-268437008) = lb e 15 := by cases e <;> rfl
theorem lg_15 (e : Bool) : lb e 15 &&& 17587891077120 = 0 := by cases e <;> rfl
theorem lm_16 (e : Bool) : lb e 16 &&& (-268437008) = lb e 16 := by cases e <;> rfl
theorem lg_16 (e : Bool) : lb e 16 &&& 17587891077120 = 0 := by cases e <;> rfl
theorem lm_17 (e : Bool) : lb e 17 &&& (-268437008) = lb e 17 := by cases e <;> rfl
theorem lg_17 (e : Bool) : lb e 17 &&& 17587891077120 = 0 := by cases e <;> rfl
theorem lm_18 (e : Bool) : lb e 18 &&& (-268437008) = lb e 18 := by cases e <;> rfl
theorem lg_18 (e : Bool) : lb e 18 &&& 17587891077120 = 0 := by cases e <;> rfl
theorem lm_19 (e : Bool) : lb e 19 &&& (-268437008) = lb e 19 := by cases e <;> rfl
theorem lg_19 (e : Bool) : lb e 19 &&& 17587891077120 = 0 := by cases e <;> rfl
theorem lm_20 (e : Bool) : lb e 20 &&& (-268437008) = lb e 20 := by cases e <;> rfl
theorem lg_20 (e : Bool) : lb e 20 &&& 17587891077120 = 0 := by cases e <;> rfl
theorem lm_21 (e : Bool) : lb e 21 &&& (-268437008) = lb e 21 := by cases e <;> rfl
theorem lg_21 (e : Bool) : lb e 21 &&& 17587891077120 = 0 := by cases e <;> rfl
theorem lm_22 (e : Bool) : lb e 22 &&& (-268437008) = lb e 22 := by cases e <;> rfl
theorem lg_22 (e : Bool) : lb e 22 &&& 17587891077120 = 0 := by cases e <;> rfl
theorem lm_23 (e : Bool) : lb e 23 &&& (-268437008) = lb e 23 := by cases e <;> rfl
theorem lg_23 (e : Bool) : lb e 23 &&& 17587891077120 = 0 := by cases e <;> rfl
theorem lm_24 (e : Bool) : lb e 24 &&& (-268437008) = lb e 24 := by cases e <;> rfl
theorem lg_24 (e : Bool) : lb e 24 &&& 17587891077120 = 0 := by cases e <;> rfl
theorem lm_25 (e : Bool) : lb e 25 &&& (-268437008) = lb e 25 := by cases e <;> rfl
theorem lg_25 (e : Bool) : lb e 25 &&& 17587891077120 = 0 := by cases e <;> rfl
theorem lm_26 (e : Bool) : lb e 26 &&& (-268437008) = lb e 26 := by cases e <;> rfl
theorem lg_26 (e : Bool) : lb e 26 &&& 17587891077120 = 0 := by cases e <;> rfl
theorem lm_27 (e : Bool) : lb e 27 &&& (-268437008) = lb e 27 := by cases e <;> rfl
theorem lg_27 (e : Bool) : lb e 27 &&& 17587891077120 = 0 := by cases e <;> rfl
theorem lm_28 (e : Bool) : lb e 28 &&& (-268437008) = 0 := by cases e <;> rfl
theorem lg_28 (e : Bool) : lb e 28 &&& 17587891077120 = 0 := by cases e <;> rfl
theorem lm_29 (e : Bool) : lb e 29 &&& (-268437008) = lb e 29 := by cases e <;> rfl
theorem lg_29 (e : Bool) : lb e 29 &&& 17587891077120 = 0 := by cases e <;> rfl
theorem lm_32 (e : Bool) : lb e 32 &&& (-268437008) = lb e 32 := by cases e <;> rfl
theorem lg_32 (e : Bool) : lb e 32 &&& 17587891077120 = lb e 32 := by cases e <;> rfl
theorem lm_33 (e : Bool) : lb e 33 &&& (-268437008) = lb e 33 := by cases e <;> rfl
theorem lg_33 (e : Bool) : lb e 33 &&& 17587891077120 = lb e 33 := by cases e <;> rfl
theorem lm_34 (e : Bool) : lb e 34 &&& (-268437008) = lb e 34 := by cases e <;> rfl
theorem lg_34 (e : Bool) : lb e 34 &&& 17587891077120 = lb e 34 := by cases e <;> rfl
theorem lm_35 (e : Bool) : lb e 35 &&& (-268437008) = lb e 35 := by cases e <;> rfl
theorem lg_35 (e : Bool) : lb e 35 &&& 17587891077120 = lb e 35 := by cases e <;> rfl
theorem lm_36 (e : Bool) : lb e 36 &&& (-268437008) = lb e 36 := by cases e <;> rfl
theorem lg_36 (e : Bool) : lb e 36 &&& 17587891077120 = lb e 36 := by cases e <;> rfl
theorem lm_37 (e : Bool) : lb e 37 &&& (-268437008) = lb e 37 := by cases e <;> rfl
theorem lg_37 (e : Bool) : lb e 37 &&& 17587891077120 = lb e 37 := by cases e <;> rfl
theorem lm_38 (e : Bool) : lb e 38 &&& (-268437008) = lb e 38 := by cases e <;> rfl
theorem lg_38 (e : Bool) : lb e 38 &&& 17587891077120 = lb e 38 := by cases e <;> rfl
theorem lm_39 (e : Bool) : lb e 39 &&& (-268437008) = lb e 39 := by cases e <;> rfl
theorem lg_39 (e : Bool) : lb e 39 &&& 17587891077120 = lb e 39 := by cases e <;> rfl
theorem lm_40 (e : Bool) : lb e 40 &&& (-268437008) = lb e 40 := by cases e <;> rfl
theorem lg_40 (e : Bool) : lb e 40 &&& 17587891077120 = lb e 40 := by cases e <;> rfl
theorem lm_41 (e : Bool) : lb e 41 &&& (-268437008) = lb e 41 := by cases e <;> rfl
theorem lg_41 (e : Bool) : lb e 41 &&& 17587891077120 = lb e 41 := by cases e <;> rfl
theorem fm_f (tg tf tt to : Int64) (e8 e9 e10 e11 e12 e13 e14 e15 e19 e20 e21 e23 e24 e25 e26 e27 e28 e29 e33 e34 e35 e36 e37 e38 e39 e40 e41 r0 r1 r2 r3 r4 r5 r6 u0 u1 u2 u3 u4 u5 u6 u7 u8 a18 b18 c18 dr : Bool) : ((((((((((tg ||| tf) ||| tt) ||| to) ||| lb dr 3) ||| ((((((((lb e8 8) ||| (lb e24 24)) ||| (lb e26 26)) ||| (lb e29 29)) ||| (lb e37 37)) ||| (lb e38 38)) ||| (lb e39 39)) ||| (lb e40 40))) ||| ((lb e10 10) ||| (lb e28 28))) ||| (((((((((((((((lb e11 11) ||| (lb e12 12)) ||| (lb e13 13)) ||| (lb e14 14)) ||| (lb e15 15)) ||| (lb ((((((r0 || r1) || r2) || r3) || r4) || r5) || r6) 17)) ||| (lb ((a18 || b18) || c18) 18)) ||| (lb e19 19)) ||| (lb e21 21)) ||| (lb ((((((((u0 || u1) || u2) || u3) || u4) || u5) || u6) || u7) || u8) 22)) ||| (lb e25 25)) ||| (lb e34 34)) ||| (lb e35 35)) ||| (lb e36 36)) ||| (lb e41 41))) ||| ((lb e23 23) ||| (lb e27 27))) ||| (((lb e9 9) ||| (lb e20 20)) ||| (lb e33 33)))) = (((((((((((0 : Int64) ||| (lb e33 33)) ||| (lb e34 34)) ||| (lb e35 35)) ||| (lb e36 36)) ||| (lb e41 41)) ||| (lb e37 37)) ||| (lb e38 38)) ||| (lb e39 39)) ||| (lb e40 40)) ||| tg) ||| (((((((((((((((((((((((((((((((((((((((((0 : Int64) ||| (lb e9 9)) ||| (lb e10 10)) ||| (lb e28 28)) ||| (lb e11 11)) ||| (lb e12 12)) ||| (lb e13 13)) ||| (lb e14 14)) ||| (lb e15 15)) ||| (lb r0 17)) ||| (lb u0 22)) ||| (lb r1 17)) ||| (lb u1 22)) ||| (lb r2 17)) ||| (lb u2 22)) ||| (lb r3 17)) ||| (lb u3 22)) ||| (lb r4 17)) ||| (lb u4 22)) ||| (lb r5 17)) ||| (lb u5 22)) ||| (lb r6 17)) ||| (lb u6 22)) ||| (lb u7 22)) ||| (lb u8 22)) ||| (lb a18 18)) ||| (lb b18 18)) ||| (lb c18 18)) ||| (lb e19 19)) ||| (lb e20 20)) ||| (lb e21 21)) ||| (lb e23 23)) ||| (lb e27 27)) ||| (lb e25 25)) ||| (lb e8 8)) ||| (lb e24 24)) ||| (lb e26 26)) ||| (lb e29 29)) ||| tf) ||| tt) ||| to ||| lb dr 3) := by
  simp only [← lb_or, Int64.zero_or]
  ac_rfl
theorem fm_o (x tg tf : Int64) (e8 e9 e10 e11 e12 e13 e14 e15 e19 e20 e21 e23 e24 e25 e26 e27 e28 e29 e33 e34 e35 e36 e37 e38 e39 e40 e41 r0 r1 r2 r3 r4 r5 r6 u0 u1 u2 u3 u4 u5 u6 u7 u8 a18 b18 c18 dr : Bool) (hx : x &&& (-268437008) = tg ||| tf) (he : e9 = false) : (((((((x ||| lb dr 3) ||| ((((((((lb e8 8) ||| (lb e24 24)) ||| (lb e26 26)) ||| (lb e29 29)) ||| (lb e37 37)) ||| (lb e38 38)) ||| (lb e39 39)) ||| (lb e40 40))) ||| ((lb e10 10) ||| (lb e28 28))) ||| (((((((((((((((lb e11 11) ||| (lb e12 12)) ||| (lb e13 13)) ||| (lb e14 14)) ||| (lb e15 15)) ||| (lb ((((((r0 || r1) || r2) || r3) || r4) || r5) || r6) 17)) ||| (lb ((a18 || b18) || c18) 18)) ||| (lb e19 19)) ||| (lb e21 21)) ||| (lb ((((((((u0 || u1) || u2) || u3) || u4) || u5) || u6) || u7) || u8) 22)) ||| (lb e25 25)) ||| (lb e34 34)) ||| (lb e35 35)) ||| (lb e36 36)) ||| (lb e41 41))) ||| ((lb e23 23) ||| (lb e27 27))) ||| (((lb e9 9) ||| (lb e20 20)) ||| (lb e33 33)))) &&& (-268437008) = (((((((((((0 : Int64) ||| (lb e33 33)) ||| (lb e34 34)) ||| (lb e35 35)) ||| (lb e36 36)) ||| (lb e41 41)) ||| (lb e37 37)) ||| (lb e38 38)) ||| (lb e39 39)) ||| (lb e40 40)) ||| tg) ||| (((((((((((((((((((((((((((((((((((((0 : Int64) ||| (lb e9 9)) ||| (lb e11 11)) ||| (lb e12 12)) ||| (lb e13 13)) ||| (lb e14 14)) ||| (lb e15 15)) ||| (lb r0 17)) ||| (lb u0 22)) ||| (lb r1 17)) ||| (lb u1 22)) ||| (lb r2 17)) ||| (lb u2 22)) ||| (lb r3 17)) ||| (lb u3 22)) ||| (lb r4 17)) ||| (lb u4 22)) ||| (lb r5 17)) ||| (lb u5 22)) ||| (lb r6 17)) ||| (lb u6 22)) ||| (lb u7 22)) ||| (lb u8 22)) ||| (lb a18 18)) ||| (lb b18 18)) ||| (lb c18 18)) ||| (lb e19 19)) ||| (lb e20 20)) ||| (lb e21 21)) ||| (lb e23 23)) ||| (lb e27 27)) ||| (lb e25 25)) ||| (lb e8 8)) ||| (lb e24 24)) ||| (lb e26 26)) ||| (lb e29 29)) ||| tf) := by
  subst he
  simp only [or_and9, hx, lm_3, lm_8, lm_9, lm_10, lm_11, lm_12, lm_13, lm_14, lm_15, lm_17, lm_18, lm_19, lm_20, lm_21, lm_22, lm_23, lm_24, lm_25, lm_26, lm_27, lm_28, lm_29, lm_33, lm_34, lm_35, lm_36, lm_37, lm_38, lm_39, lm_40, lm_41]
  simp only [← lb_or, Int64.zero_or, Int64.or_zero, lb_f]
  ac_rfl
theorem gm_g (t : Int64) (e33 e34 e35 e36 e37 e38 e39 e40 e41 : Bool) : (((((((((((0 : Int64) ||| (lb e33 33)) ||| (lb e34 34)) ||| (lb e35 35)) ||| (lb e36 36)) ||| (lb e41 41)) ||| (lb e37 37)) ||| (lb e38 38)) ||| (lb e39 39)) ||| (lb e40 40)) ||| tGr t) &&& 17587891077120 = ((((((((((0 : Int64) ||| (lb e33 33)) ||| (lb e34 34)) ||| (lb e35 35)) ||| (lb e36 36)) ||| (lb e41 41)) ||| (lb e37 37)) ||| (lb e38 38)) ||| (lb e39 39)) ||| (lb e40 40)) ||| tGr t := by
  have z : tGr t &&& 17587891077120 = tGr t := by
    show (t &&& (lb true 42 ||| lb true 43)) &&& _ = _
    rw [Int64.and_assoc]
    rfl
  simp only [or_and9, z, Int64.zero_or, lg_33, lg_34, lg_35, lg_36, lg_37, lg_38, lg_39, lg_40, lg_41]
theorem tFo_g (t : Int64) : tFo t &&& 17587891077120 = 0 := by
  show (t &&& _) &&& _ = _
  rw [Int64.and_assoc, show ((((lb true 4 ||| lb true 5) ||| lb true 6) ||| lb true 7) &&& 17587891077120 : Int64) = 0 from by decide +kernel, Int64.and_zero]
theorem tTw_g (t : Int64) : tTw t &&& 17587891077120 = 0 := by
  show (t &&& _) &&& _ = _
  rw [Int64.and_assoc, show ((lb true 1 ||| lb true 2) &&& 17587891077120 : Int64) = 0 from by decide +kernel, Int64.and_zero]
theorem tOn_g (t : Int64) : tOn t &&& 17587891077120 = 0 := by
  unfold tOn
  cases decide (lg_cmp (t &&& lb true 1) 0 = 0)
  · show (0 : Int64) &&& 17587891077120 = 0; decide +kernel
  · show (t &&& lb true 0) &&& _ = _
    rw [Int64.and_assoc, show (lb true 0 &&& 17587891077120 : Int64) = 0 from by decide +kernel, Int64.and_zero]
theorem gm_f (e8 e9 e10 e11 e12 e13 e14 e15 e19 e20 e21 e23 e24 e25 e26 e27 e28 e29 r0 r1 r2 r3 r4 r5 r6 u0 u1 u2 u3 u4 u5 u6 u7 u8 a18 b18 c18 : Bool) : ((((((((((((((((((((((((((((((((((((((0 : Int64) ||| (lb e9 9)) ||| (lb e10 10)) ||| (lb e28 28)) ||| (lb e11 11)) ||| (lb e12 12)) ||| (lb e13 13)) ||| (lb e14 14)) ||| (lb e15 15)) ||| (lb r0 17)) ||| (lb u0 22)) ||| (lb r1 17)) ||| (lb u1 22)) ||| (lb r2 17)) ||| (lb u2 22)) ||| (lb r3 17)) ||| (lb u3 22)) ||| (lb r4 17)) ||| (lb u4 22)) ||| (lb r5 17)) ||| (lb u5 22)) ||| (lb r6 17)) ||| (lb u6 22)) ||| (lb u7 22)) ||| (lb u8 22)) ||| (lb a18 18)) ||| (lb b18 18)) ||| (lb c18 18)) ||| (lb e19 19)) ||| (lb e20 20)) ||| (lb e21 21)) ||| (lb e23 23)) ||| (lb e27 27)) ||| (lb e25 25)) ||| (lb e8 8)) ||| (lb e24 24)) ||| (lb e26 26)) ||| (lb e29 29)) &&& 17587891077120 = 0 := by
  simp only [or_and9, Int64.zero_and, Int64.or_zero, lg_8, lg_9, lg_10, lg_11, lg_12, lg_13, lg_14, lg_15, lg_17, lg_18, lg_19, lg_20, lg_21, lg_22, lg_23, lg_24, lg_25, lg_26, lg_27, lg_28, lg_29]
theorem gm_o (e8 e9 e10 e11 e12 e13 e14 e15 e19 e20 e21 e23 e24 e25 e26 e27 e28 e29 r0 r1 r2 r3 r4 r5 r6 u0 u1 u2 u3 u4 u5 u6 u7 u8 a18 b18 c18 : Bool) : ((((((((((((((((((((((((((((((((((((0 : Int64) ||| (lb e9 9)) ||| (lb e11 11)) ||| (lb e12 12)) ||| (lb e13 13)) ||| (lb e14 14)) ||| (lb e15 15)) ||| (lb r0 17)) ||| (lb u0 22)) ||| (lb r1 17)) ||| (lb u1 22)) ||| (lb r2 17)) ||| (lb u2 22)) ||| (lb r3 17)) ||| (lb u3 22)) ||| (lb r4 17)) ||| (lb u4 22)) ||| (lb r5 17)) ||| (lb u5 22)) ||| (lb r6 17)) ||| (lb u6 22)) ||| (lb u7 22)) ||| (lb u8 22)) ||| (lb a18 18)) ||| (lb b18 18)) ||| (lb c18 18)) ||| (lb e19 19)) ||| (lb e20 20)) ||| (lb e21 21)) ||| (lb e23 23)) ||| (lb e27 27)) ||| (lb e25 25)) ||| (lb e8 8)) ||| (lb e24 24)) ||| (lb e26 26)) ||| (lb e29 29)) &&& 17587891077120 = 0 := by
  simp only [or_and9, Int64.zero_and, Int64.or_zero, lg_8, lg_9, lg_10, lg_11, lg_12, lg_13, lg_14, lg_15, lg_17, lg_18, lg_19, lg_20, lg_21, lg_22, lg_23, lg_24, lg_25, lg_26, lg_27, lg_28, lg_29]
