/-! the law in the small machine -/
set_option maxRecDepth 20000
theorem zh_L_law : zH mi_L_law zt_L_law 79 9 7 := hh_L_law
theorem zq_sld {L : Nat} {f : Nat → Int32} {j : Nat} {C : Nat → List Value → zM → zQ → Prop} {Z : zK} {code : zT} {np oc nL : Nat} {b pc : Nat} {lv : zL} {μ : zM} (h : z_clo (L + 1, f) j C Z) (hH : zH j code np oc nL) (hi : z_tk code.2.1 pc = some .iaload) {x : Int32} {t : List Value} (n : Nat) (hx : x = nI n) (hn : n < L) (hL : L ≤ 3584) (k : Z b (pc + 1) lv (.int (f n) :: t) μ) : Z b pc lv (.int x :: .ref 100 :: t) μ := by
  subst hx
  refine zq_st h hH hi ?_ k
  show (match (bif z_av (L + 1, f) 100 && z_in (nI n) (z_ro (L + 1, f) 100).1 then some ((Value.int ((z_ro (L + 1, f) 100).2 (nI n).toNatClampNeg) :: t, μ) : List Value × zM) else none) with | some (st', μ') => some (pc + 1, lv, st', μ') | none => none) = _
  have e1 : z_av (L + 1, f) 100 = true := rfl
  have e2 : z_in (nI n) (z_ro (L + 1, f) 100).1 = true := z_in_iff.mpr (show vp_in (nI n) (L + 1 - 1) from vp_in_nI (by omega) (by omega))
  rw [e1, e2, nI_clamp (by omega)]
  rfl
section LAW
variable {d : Nat} {Z : zK} {L : Nat} {f : Nat → Int32} {b t : Nat} {μ : zM}
/-- a call that makes nothing -/
theorem zq_call0 {xs : Nat × (Nat → Int32)} {j : Nat} {pc : Nat} {lv : zL} {st : List Value} (h : z_clo xs j (z_C d) Z) {j' : Nat} {As rest : List Value} {Q : zQ} (hz : z_cl j pc st = some (j', As, rest)) (hC : z_C d j' As μ Q) (h0 : z_al j' = 0) (hb : b ≤ z_al j) (k : ∀ (r : Option Value) (μ' : zM), Q r μ' → Z b (pc + 3) lv (r.toList ++ rest) μ') : Z b pc lv st μ := by
  refine zq_call h hz hC (by rw [h0]; exact hb) (fun r μ' q => ?_)
  rw [h0]
  exact k r μ' q
theorem zq_call1 {xs : Nat × (Nat → Int32)} {j : Nat} {pc : Nat} {lv : zL} {st : List Value} (h : z_clo xs j (z_C d) Z) {j' : Nat} {As rest : List Value} {Q : zQ} (hz : z_cl j pc st = some (j', As, rest)) (hC : z_C d j' As μ Q) (h0 : z_al j' = 1) (hb : b + 1 ≤ z_al j) (k : ∀ (r : Option Value) (μ' : zM), Q r μ' → Z (b + 1) (pc + 3) lv (r.toList ++ rest) μ') : Z b pc lv st μ := by
  refine zq_call h hz hC (by rw [h0]; exact hb) (fun r μ' q => ?_)
  rw [h0]
  exact k r μ' q
theorem al_law : z_al mi_L_law = 2000 := by decide +kernel
theorem lw_c0 (hd : 705 ≤ d) (hL : L ≤ 3584) (hc : z_clo (L + 1, f) mi_L_law (z_C d) Z) (hb : b + 1 ≤ 2000) (ht : 7 * t + 7 ≤ L) (h : LGm μ) (K : ∀ b' μ', b ≤ b' → b' ≤ b + 1 → LGm μ' → Z b' 1037 [(4, .int (nI (7 * t))), (3, .ref 78), (2, .ref 50), (1, .ref 0), (0, .ref 100)] [] μ') : Z b 164 [(4, .int (nI (7 * t))), (3, .ref 78), (2, .ref 50), (1, .ref 0), (0, .ref 100)] [] μ := by
  have hH := zh_L_law
  refine z_rcs hc hH 5 (pc' := 170) (lv' := [(4, .int (nI (7 * t))), (3, .ref 78), (2, .ref 50), (1, .ref 0), (0, .ref 100)]) (st' := [.int ((nI (7 * t)) + 1), .ref 100, .ref 0]) (μ' := μ) (by rfl) ?_
  refine zq_sld hc hH (by rfl) (7 * t + 1) (nI_add (7 * t) 1) (by omega) hL ?_
  refine z_rcs hc hH 7 (pc' := 180) (lv' := [(4, .int (nI (7 * t))), (3, .ref 78), (2, .ref 50), (1, .ref 0), (0, .ref 100)]) (st' := [.int ((nI (7 * t)) + 2), .ref 100, .long (((f (7 * t + 1)).toInt64) <<< ((32 : Int32).toInt64 &&& 63)), .ref 0]) (μ' := μ) (by rfl) ?_
  refine zq_sld hc hH (by rfl) (7 * t + 2) (nI_add (7 * t) 2) (by omega) hL ?_
  refine z_rcs hc hH 4 (pc' := 187) (lv' := [(4, .int (nI (7 * t))), (3, .ref 78), (2, .ref 50), (1, .ref 0), (0, .ref 100)]) (st' := [.long ((((f (7 * t + 1)).toInt64) <<< ((32 : Int32).toInt64 &&& 63)) ||| (((f (7 * t + 2)).toInt64) &&& 4294967295)), .ref 0]) (μ' := μ) (by rfl) ?_
  refine zq_call0 hc (z_cx_ok hH (by rfl)) (lg_deal (d := d) (by omega) h _) (by decide +kernel) (by rw [al_law]; omega) (fun r9 μ1 hq => ?_)
  obtain ⟨hj1, y1, rfl, hG⟩ := hq
  show Z b 190 [(4, .int (nI (7 * t))), (3, .ref 78), (2, .ref 50), (1, .ref 0), (0, .ref 100)] [.int y1] μ1
  refine z_rcs hc hH 6 (pc' := 197) (lv' := [(4, .int (nI (7 * t))), (3, .ref 78), (2, .ref 50), (1, .ref 0), (0, .ref 100)]) (st' := [.int ((nI (7 * t)) + 1), .ref 100, .ref 50]) (μ' := μ1) (by rfl) ?_
  refine zq_sld hc hH (by rfl) (7 * t + 1) (nI_add (7 * t) 1) (by omega) hL ?_
  refine z_rcs hc hH 7 (pc' := 207) (lv' := [(4, .int (nI (7 * t))), (3, .ref 78), (2, .ref 50), (1, .ref 0), (0, .ref 100)]) (st' := [.int ((nI (7 * t)) + 2), .ref 100, .long (((f (7 * t + 1)).toInt64) <<< ((32 : Int32).toInt64 &&& 63)), .ref 50]) (μ' := μ1) (by rfl) ?_
  refine zq_sld hc hH (by rfl) (7 * t + 2) (nI_add (7 * t) 2) (by omega) hL ?_
  refine z_rcs hc hH 4 (pc' := 214) (lv' := [(4, .int (nI (7 * t))), (3, .ref 78), (2, .ref 50), (1, .ref 0), (0, .ref 100)]) (st' := [.long ((((f (7 * t + 1)).toInt64) <<< ((32 : Int32).toInt64 &&& 63)) ||| (((f (7 * t + 2)).toInt64) &&& 4294967295)), .ref 50]) (μ' := μ1) (by rfl) ?_
  refine zq_call0 hc (z_cx_ok hH (by rfl)) hG (by decide +kernel) (by rw [al_law]; omega) (fun r9 μ2 hq => ?_)
  obtain ⟨h2, rfl⟩ := hq
  show Z b 217 [(4, .int (nI (7 * t))), (3, .ref 78), (2, .ref 50), (1, .ref 0), (0, .ref 100)] [.int y1] μ2
  refine z_rcs hc hH 2 (pc' := 1037) (lv' := [(4, .int (nI (7 * t))), (3, .ref 78), (2, .ref 50), (1, .ref 0), (0, .ref 100)]) (st' := []) (μ' := μ2) (by rfl) ?_
  exact K b μ2 (by omega) (by omega) h2
theorem lw_c1 (hd : 705 ≤ d) (hL : L ≤ 3584) (hc : z_clo (L + 1, f) mi_L_law (z_C d) Z) (hb : b + 1 ≤ 2000) (ht : 7 * t + 7 ≤ L) (h : LGm μ) (K : ∀ b' μ', b ≤ b' → b' ≤ b + 1 → LGm μ' → Z b' 1037 [(4, .int (nI (7 * t))), (3, .ref 78), (2, .ref 50), (1, .ref 0), (0, .ref 100)] [] μ') : Z b 221 [(4, .int (nI (7 * t))), (3, .ref 78), (2, .ref 50), (1, .ref 0), (0, .ref 100)] [] μ := by
  have hH := zh_L_law
  refine z_rcs hc hH 5 (pc' := 227) (lv' := [(4, .int (nI (7 * t))), (3, .ref 78), (2, .ref 50), (1, .ref 0), (0, .ref 100)]) (st' := [.int ((nI (7 * t)) + 1), .ref 100, .ref 0]) (μ' := μ) (by rfl) ?_
  refine zq_sld hc hH (by rfl) (7 * t + 1) (nI_add (7 * t) 1) (by omega) hL ?_
  refine z_rcs hc hH 4 (pc' := 233) (lv' := [(4, .int (nI (7 * t))), (3, .ref 78), (2, .ref 50), (1, .ref 0), (0, .ref 100)]) (st' := [.int ((nI (7 * t)) + 2), .ref 100, .int (f (7 * t + 1)), .ref 0]) (μ' := μ) (by rfl) ?_
  refine zq_sld hc hH (by rfl) (7 * t + 2) (nI_add (7 * t) 2) (by omega) hL ?_
  refine zq_if hc hH (by rfl) (tg := 241) (by rfl) (fun h1 => ?_) (fun h1 => ?_)
  · have h1 := cm_eq9.mp h1
    refine z_rcs hc hH 1 (pc' := 242) (lv' := [(4, .int (nI (7 * t))), (3, .ref 78), (2, .ref 50), (1, .ref 0), (0, .ref 100)]) (st' := [.int 0, .int (f (7 * t + 1)), .ref 0]) (μ' := μ) (by rfl) ?_
    refine zq_call0 hc (z_cx_ok hH (by rfl)) (lg_disc0 (d := d) (by omega) h _) (by decide +kernel) (by rw [al_law]; omega) (fun r9 μ1 hq => ?_)
    obtain ⟨hj1, y1, rfl, hG⟩ := hq
    show Z b 245 [(4, .int (nI (7 * t))), (3, .ref 78), (2, .ref 50), (1, .ref 0), (0, .ref 100)] [.int y1] μ1
    refine z_rcs hc hH 6 (pc' := 252) (lv' := [(4, .int (nI (7 * t))), (3, .ref 78), (2, .ref 50), (1, .ref 0), (0, .ref 100)]) (st' := [.int ((nI (7 * t)) + 1), .ref 100, .ref 50]) (μ' := μ1) (by rfl) ?_
    refine zq_sld hc hH (by rfl) (7 * t + 1) (nI_add (7 * t) 1) (by omega) hL ?_
    refine z_rcs hc hH 4 (pc' := 258) (lv' := [(4, .int (nI (7 * t))), (3, .ref 78), (2, .ref 50), (1, .ref 0), (0, .ref 100)]) (st' := [.int ((nI (7 * t)) + 2), .ref 100, .int (f (7 * t + 1)), .ref 50]) (μ' := μ1) (by rfl) ?_
    refine zq_sld hc hH (by rfl) (7 * t + 2) (nI_add (7 * t) 2) (by omega) hL ?_
    refine zq_if hc hH (by rfl) (tg := 266) (by rfl) (fun h2 => ?_) (fun h2 => ?_)
    · have h2 := cm_eq9.mp h2
      refine z_rcs hc hH 1 (pc' := 267) (lv' := [(4, .int (nI (7 * t))), (3, .ref 78), (2, .ref 50), (1, .ref 0), (0, .ref 100)]) (st' := [.int 0, .int (f (7 * t + 1)), .ref 50]) (μ' := μ1) (by rfl) ?_
      refine zq_call0 hc (z_cx_ok hH (by rfl)) hG (by decide +kernel) (by rw [al_law]; omega) (fun r9 μ2 hq => ?_)
      obtain ⟨h2, rfl⟩ := hq
      show Z b 270 [(4, .int (nI (7 * t))), (3, .ref 78), (2, .ref 50), (1, .ref 0), (0, .ref 100)] [.int y1] μ2
      refine z_rcs hc hH 2 (pc' := 1037) (lv' := [(4, .int (nI (7 * t))), (3, .ref 78), (2, .ref 50), (1, .ref 0), (0, .ref 100)]) (st' := []) (μ' := μ2) (by rfl) ?_
      exact K b μ2 (by omega) (by omega) h2
    · have h2 := cn_eq.mp h2
      refine z_rcs hc hH 2 (pc' := 267) (lv' := [(4, .int (nI (7 * t))), (3, .ref 78), (2, .ref 50), (1, .ref 0), (0, .ref 100)]) (st' := [.int 1, .int (f (7 * t + 1)), .ref 50]) (μ' := μ1) (by rfl) ?_
      exact absurd h1 h2
  · have h1 := cn_eq.mp h1
    refine z_rcs hc hH 2 (pc' := 242) (lv' := [(4, .int (nI (7 * t))), (3, .ref 78), (2, .ref 50), (1, .ref 0), (0, .ref 100)]) (st' := [.int 1, .int (f (7 * t + 1)), .ref 0]) (μ' := μ) (by rfl) ?_
    refine zq_call0 hc (z_cx_ok hH (by rfl)) (lg_disc1 (d := d) (by omega) h _) (by decide +kernel) (by rw [al_law]; omega) (fun r9 μ1 hq => ?_)
    obtain ⟨hj1, y1, rfl, hG⟩ := hq
    show Z b 245 [(4, .int (nI (7 * t))), (3, .ref 78), (2, .ref 50), (1, .ref 0), (0, .ref 100)] [.int y1] μ1
    refine z_rcs hc hH 6 (pc' := 252) (lv' := [(4, .int (nI (7 * t))), (3, .ref 78), (2, .ref 50), (1, .ref 0), (0, .ref 100)]) (st' := [.int ((nI (7 * t)) + 1), .ref 100, .ref 50]) (μ' := μ1) (by rfl) ?_
    refine zq_sld hc hH (by rfl) (7 * t + 1) (nI_add (7 * t) 1) (by omega) hL ?_
    refine z_rcs hc hH 4 (pc' := 258) (lv' := [(4, .int (nI (7 * t))), (3, .ref 78), (2, .ref 50), (1, .ref 0), (0, .ref 100)]) (st' := [.int ((nI (7 * t)) + 2), .ref 100, .int (f (7 * t + 1)), .ref 50]) (μ' := μ1) (by rfl) ?_
    refine zq_sld hc hH (by rfl) (7 * t + 2) (nI_add (7 * t) 2) (by omega) hL ?_
    refine zq_if hc hH (by rfl) (tg := 266) (by rfl) (fun h3 => ?_) (fun h3 => ?_)
    · have h3 := cm_eq9.mp h3
      refine z_rcs hc hH 1 (pc' := 267) (lv' := [(4, .int (nI (7 * t))), (3, .ref 78), (2, .ref 50), (1, .ref 0), (0, .ref 100)]) (st' := [.int 0, .int (f (7 * t + 1)), .ref 50]) (μ' := μ1) (by rfl) ?_
      exact absurd h3 h1
    · have h3 := cn_eq.mp h3
      refine z_rcs hc hH 2 (pc' := 267) (lv' := [(4, .int (nI (7 * t))), (3, .ref 78), (2, .ref 50), (1, .ref 0), (0, .ref 100)]) (st' := [.int 1, .int (f (7 * t + 1)), .ref 50]) (μ' := μ1) (by rfl) ?_
      refine zq_call0 hc (z_cx_ok hH (by rfl)) hG (by decide +kernel) (by rw [al_law]; omega) (fun r9 μ2 hq => ?_)
      obtain ⟨h2, rfl⟩ := hq
      show Z b 270 [(4, .int (nI (7 * t))), (3, .ref 78), (2, .ref 50), (1, .ref 0), (0, .ref 100)] [.int y1] μ2
      refine z_rcs hc hH 2 (pc' := 1037) (lv' := [(4, .int (nI (7 * t))), (3, .ref 78), (2, .ref 50), (1, .ref 0), (0, .ref 100)]) (st' := []) (μ' := μ2) (by rfl) ?_
      exact K b μ2 (by omega) (by omega) h2
theorem lw_c2 (hd : 705 ≤ d) (hL : L ≤ 3584) (hc : z_clo (L + 1, f) mi_L_law (z_C d) Z) (hb : b + 1 ≤ 2000) (ht : 7 * t + 7 ≤ L) (h : LGm μ) (K : ∀ b' μ', b ≤ b' → b' ≤ b + 1 → LGm μ' → Z b' 1037 [(4, .int (nI (7 * t))), (3, .ref 78), (2, .ref 50), (1, .ref 0), (0, .ref 100)] [] μ') : Z b 274 [(4, .int (nI (7 * t))), (3, .ref 78), (2, .ref 50), (1, .ref 0), (0, .ref 100)] [] μ := by
  have hH := zh_L_law
  refine z_rcs hc hH 1 (pc' := 275) (lv' := [(4, .int (nI (7 * t))), (3, .ref 78), (2, .ref 50), (1, .ref 0), (0, .ref 100)]) (st' := [.ref 0]) (μ' := μ) (by rfl) ?_
  refine zq_call0 hc (z_cx_ok hH (by rfl)) (lg_pass (d := d) (by omega) h) (by decide +kernel) (by rw [al_law]; omega) (fun r9 μ1 hq => ?_)
  obtain ⟨hj1, y1, rfl, hG⟩ := hq
  show Z b 278 [(4, .int (nI (7 * t))), (3, .ref 78), (2, .ref 50), (1, .ref 0), (0, .ref 100)] [.int y1] μ1
  refine z_rcs hc hH 2 (pc' := 280) (lv' := [(4, .int (nI (7 * t))), (3, .ref 78), (2, .ref 50), (1, .ref 0), (0, .ref 100)]) (st' := [.ref 50]) (μ' := μ1) (by rfl) ?_
  refine zq_call1 hc (z_cx_ok hH (by rfl)) hG (by decide +kernel) (by rw [al_law]; omega) (fun r9 μ2 hq => ?_)
  obtain ⟨h2, rfl⟩ := hq
  show Z (b + 1) 283 [(4, .int (nI (7 * t))), (3, .ref 78), (2, .ref 50), (1, .ref 0), (0, .ref 100)] [.int y1] μ2
  refine z_rcs hc hH 2 (pc' := 1037) (lv' := [(4, .int (nI (7 * t))), (3, .ref 78), (2, .ref 50), (1, .ref 0), (0, .ref 100)]) (st' := []) (μ' := μ2) (by rfl) ?_
  exact K (b + 1) μ2 (by omega) (by omega) h2
theorem lw_c3 (hd : 705 ≤ d) (hL : L ≤ 3584) (hc : z_clo (L + 1, f) mi_L_law (z_C d) Z) (hb : b + 1 ≤ 2000) (ht : 7 * t + 7 ≤ L) (h : LGm μ) (K : ∀ b' μ', b ≤ b' → b' ≤ b + 1 → LGm μ' → Z b' 1037 [(4, .int (nI (7 * t))), (3, .ref 78), (2, .ref 50), (1, .ref 0), (0, .ref 100)] [] μ') : Z b 287 [(4, .int (nI (7 * t))), (3, .ref 78), (2, .ref 50), (1, .ref 0), (0, .ref 100)] [] μ := by
  have hH := zh_L_law
  refine z_rcs hc hH 5 (pc' := 293) (lv' := [(4, .int (nI (7 * t))), (3, .ref 78), (2, .ref 50), (1, .ref 0), (0, .ref 100)]) (st' := [.int ((nI (7 * t)) + 1), .ref 100, .ref 0]) (μ' := μ) (by rfl) ?_
  refine zq_sld hc hH (by rfl) (7 * t + 1) (nI_add (7 * t) 1) (by omega) hL ?_
  refine z_rcs hc hH 4 (pc' := 299) (lv' := [(4, .int (nI (7 * t))), (3, .ref 78), (2, .ref 50), (1, .ref 0), (0, .ref 100)]) (st' := [.int ((nI (7 * t)) + 2), .ref 100, .int (f (7 * t + 1)), .ref 0]) (μ' := μ) (by rfl) ?_
  refine zq_sld hc hH (by rfl) (7 * t + 2) (nI_add (7 * t) 2) (by omega) hL ?_
  refine zq_call0 hc (z_cx_ok hH (by rfl)) (lg_run (d := d) (by omega) h _ _) (by decide +kernel) (by rw [al_law]; omega) (fun r9 μ1 hq => ?_)
  obtain ⟨hj1, y1, rfl, hG⟩ := hq
  show Z b 303 [(4, .int (nI (7 * t))), (3, .ref 78), (2, .ref 50), (1, .ref 0), (0, .ref 100)] [.int y1] μ1
  refine z_rcs hc hH 6 (pc' := 310) (lv' := [(4, .int (nI (7 * t))), (3, .ref 78), (2, .ref 50), (1, .ref 0), (0, .ref 100)]) (st' := [.int ((nI (7 * t)) + 1), .ref 100, .ref 50]) (μ' := μ1) (by rfl) ?_
  refine zq_sld hc hH (by rfl) (7 * t + 1) (nI_add (7 * t) 1) (by omega) hL ?_
  refine z_rcs hc hH 4 (pc' := 316) (lv' := [(4, .int (nI (7 * t))), (3, .ref 78), (2, .ref 50), (1, .ref 0), (0, .ref 100)]) (st' := [.int ((nI (7 * t)) + 2), .ref 100, .int (f (7 * t + 1)), .ref 50]) (μ' := μ1) (by rfl) ?_
  refine zq_sld hc hH (by rfl) (7 * t + 2) (nI_add (7 * t) 2) (by omega) hL ?_
  refine zq_call0 hc (z_cx_ok hH (by rfl)) hG (by decide +kernel) (by rw [al_law]; omega) (fun r9 μ2 hq => ?_)
  obtain ⟨h2, rfl⟩ := hq
  show Z b 320 [(4, .int (nI (7 * t))), (3, .ref 78), (2, .ref 50), (1, .ref 0), (0, .ref 100)] [.int y1] μ2
  refine z_rcs hc hH 2 (pc' := 1037) (lv' := [(4, .int (nI (7 * t))), (3, .ref 78), (2, .ref 50), (1, .ref 0), (0, .ref 100)]) (st' := []) (μ' := μ2) (by rfl) ?_
  exact K b μ2 (by omega) (by omega) h2
theorem lw_c4 (hd : 705 ≤ d) (hL : L ≤ 3584) (hc : z_clo (L + 1, f) mi_L_law (z_C d) Z) (hb : b + 1 ≤ 2000) (ht : 7 * t + 7 ≤ L) (h : LGm μ) (K : ∀ b' μ', b ≤ b' → b' ≤ b + 1 → LGm μ' → Z b' 1037 [(4, .int (nI (7 * t))), (3, .ref 78), (2, .ref 50), (1, .ref 0), (0, .ref 100)] [] μ') : Z b 324 [(4, .int (nI (7 * t))), (3, .ref 78), (2, .ref 50), (1, .ref 0), (0, .ref 100)] [] μ := by
  have hH := zh_L_law
  refine z_rcs hc hH 5 (pc' := 330) (lv' := [(4, .int (nI (7 * t))), (3, .ref 78), (2, .ref 50), (1, .ref 0), (0, .ref 100)]) (st' := [.int ((nI (7 * t)) + 1), .ref 100, .ref 0]) (μ' := μ) (by rfl) ?_
  refine zq_sld hc hH (by rfl) (7 * t + 1) (nI_add (7 * t) 1) (by omega) hL ?_
  refine zq_call0 hc (z_cx_ok hH (by rfl)) (lg_three (d := d) (by omega) h _) (by decide +kernel) (by rw [al_law]; omega) (fun r9 μ1 hq => ?_)
  obtain ⟨hj1, y1, rfl, hG⟩ := hq
  show Z b 334 [(4, .int (nI (7 * t))), (3, .ref 78), (2, .ref 50), (1, .ref 0), (0, .ref 100)] [.int y1] μ1
  refine z_rcs hc hH 6 (pc' := 341) (lv' := [(4, .int (nI (7 * t))), (3, .ref 78), (2, .ref 50), (1, .ref 0), (0, .ref 100)]) (st' := [.int ((nI (7 * t)) + 1), .ref 100, .ref 50]) (μ' := μ1) (by rfl) ?_
  refine zq_sld hc hH (by rfl) (7 * t + 1) (nI_add (7 * t) 1) (by omega) hL ?_
  refine zq_call0 hc (z_cx_ok hH (by rfl)) hG (by decide +kernel) (by rw [al_law]; omega) (fun r9 μ2 hq => ?_)
  obtain ⟨h2, rfl⟩ := hq
  show Z b 345 [(4, .int (nI (7 * t))), (3, .ref 78), (2, .ref 50), (1, .ref 0), (0, .ref 100)] [.int y1] μ2
  refine z_rcs hc hH 2 (pc' := 1037) (lv' := [(4, .int (nI (7 * t))), (3, .ref 78), (2, .ref 50), (1, .ref 0), (0, .ref 100)]) (st' := []) (μ' := μ2) (by rfl) ?_
  exact K b μ2 (by omega) (by omega) h2
theorem lw_c5 (hd : 705 ≤ d) (hL : L ≤ 3584) (hc : z_clo (L + 1, f) mi_L_law (z_C d) Z) (hb : b + 1 ≤ 2000) (ht : 7 * t + 7 ≤ L) (h : LGm μ) (K : ∀ b' μ', b ≤ b' → b' ≤ b + 1 → LGm μ' → Z b' 1037 [(4, .int (nI (7 * t))), (3, .ref 78), (2, .ref 50), (1, .ref 0), (0, .ref 100)] [] μ') : Z b 349 [(4, .int (nI (7 * t))), (3, .ref 78), (2, .ref 50), (1, .ref 0), (0, .ref 100)] [] μ := by
  have hH := zh_L_law
  refine z_rcs hc hH 5 (pc' := 355) (lv' := [(4, .int (nI (7 * t))), (3, .ref 78), (2, .ref 50), (1, .ref 0), (0, .ref 100)]) (st' := [.int ((nI (7 * t)) + 1), .ref 100, .ref 0]) (μ' := μ) (by rfl) ?_
  refine zq_sld hc hH (by rfl) (7 * t + 1) (nI_add (7 * t) 1) (by omega) hL ?_
  refine zq_call0 hc (z_cx_ok hH (by rfl)) (lg_four (d := d) (by omega) h _) (by decide +kernel) (by rw [al_law]; omega) (fun r9 μ1 hq => ?_)
  obtain ⟨hj1, y1, rfl, hG⟩ := hq
  show Z b 359 [(4, .int (nI (7 * t))), (3, .ref 78), (2, .ref 50), (1, .ref 0), (0, .ref 100)] [.int y1] μ1
  refine z_rcs hc hH 6 (pc' := 366) (lv' := [(4, .int (nI (7 * t))), (3, .ref 78), (2, .ref 50), (1, .ref 0), (0, .ref 100)]) (st' := [.int ((nI (7 * t)) + 1), .ref 100, .ref 50]) (μ' := μ1) (by rfl) ?_
  refine zq_sld hc hH (by rfl) (7 * t + 1) (nI_add (7 * t) 1) (by omega) hL ?_
  refine zq_call0 hc (z_cx_ok hH (by rfl)) hG (by decide +kernel) (by rw [al_law]; omega) (fun r9 μ2 hq => ?_)
  obtain ⟨h2, rfl⟩ := hq
  show Z b 370 [(4, .int (nI (7 * t))), (3, .ref 78), (2, .ref 50), (1, .ref 0), (0, .ref 100)] [.int y1] μ2
  refine z_rcs hc hH 2 (pc' := 1037) (lv' := [(4, .int (nI (7 * t))), (3, .ref 78), (2, .ref 50), (1, .ref 0), (0, .ref 100)]) (st' := []) (μ' := μ2) (by rfl) ?_
  exact K b μ2 (by omega) (by omega) h2
theorem lw_c6 (hd : 705 ≤ d) (hL : L ≤ 3584) (hc : z_clo (L + 1, f) mi_L_law (z_C d) Z) (hb : b + 1 ≤ 2000) (ht : 7 * t + 7 ≤ L) (h : LGm μ) (K : ∀ b' μ', b ≤ b' → b' ≤ b + 1 → LGm μ' → Z b' 1037 [(4, .int (nI (7 * t))), (3, .ref 78), (2, .ref 50), (1, .ref 0), (0, .ref 100)] [] μ') : Z b 374 [(4, .int (nI (7 * t))), (3, .ref 78), (2, .ref 50), (1, .ref 0), (0, .ref 100)] [] μ := by
  have hH := zh_L_law
  refine z_rcs hc hH 5 (pc' := 380) (lv' := [(4, .int (nI (7 * t))), (3, .ref 78), (2, .ref 50), (1, .ref 0), (0, .ref 100)]) (st' := [.int ((nI (7 * t)) + 1), .ref 100, .ref 0]) (μ' := μ) (by rfl) ?_
  refine zq_sld hc hH (by rfl) (7 * t + 1) (nI_add (7 * t) 1) (by omega) hL ?_
  refine zq_call0 hc (z_cx_ok hH (by rfl)) (lg_hide (d := d) (by omega) h _) (by decide +kernel) (by rw [al_law]; omega) (fun r9 μ1 hq => ?_)
  obtain ⟨hj1, y1, rfl, hG⟩ := hq
  show Z b 384 [(4, .int (nI (7 * t))), (3, .ref 78), (2, .ref 50), (1, .ref 0), (0, .ref 100)] [.int y1] μ1
  refine z_rcs hc hH 6 (pc' := 391) (lv' := [(4, .int (nI (7 * t))), (3, .ref 78), (2, .ref 50), (1, .ref 0), (0, .ref 100)]) (st' := [.int ((nI (7 * t)) + 1), .ref 100, .ref 50]) (μ' := μ1) (by rfl) ?_
  refine zq_sld hc hH (by rfl) (7 * t + 1) (nI_add (7 * t) 1) (by omega) hL ?_
  refine zq_call0 hc (z_cx_ok hH (by rfl)) hG (by decide +kernel) (by rw [al_law]; omega) (fun r9 μ2 hq => ?_)
  obtain ⟨h2, rfl⟩ := hq
  show Z b 395 [(4, .int (nI (7 * t))), (3, .ref 78), (2, .ref 50), (1, .ref 0), (0, .ref 100)] [.int y1] μ2
  refine z_rcs hc hH 2 (pc' := 1037) (lv' := [(4, .int (nI (7 * t))), (3, .ref 78), (2, .ref 50), (1, .ref 0), (0, .ref 100)]) (st' := []) (μ' := μ2) (by rfl) ?_
  exact K b μ2 (by omega) (by omega) h2
theorem lw_c7 (hd : 705 ≤ d) (hL : L ≤ 3584) (hc : z_clo (L + 1, f) mi_L_law (z_C d) Z) (hb : b + 1 ≤ 2000) (ht : 7 * t + 7 ≤ L) (h : LGm μ) (K : ∀ b' μ', b ≤ b' → b' ≤ b + 1 → LGm μ' → Z b' 1037 [(4, .int (nI (7 * t))), (3, .ref 78), (2, .ref 50), (1, .ref 0), (0, .ref 100)] [] μ') : Z b 399 [(4, .int (nI (7 * t))), (3, .ref 78), (2, .ref 50), (1, .ref 0), (0, .ref 100)] [] μ := by
  have hH := zh_L_law
  refine z_rcs hc hH 5 (pc' := 405) (lv' := [(4, .int (nI (7 * t))), (3, .ref 78), (2, .ref 50), (1, .ref 0), (0, .ref 100)]) (st' := [.int ((nI (7 * t)) + 1), .ref 100, .ref 0]) (μ' := μ) (by rfl) ?_
  refine zq_sld hc hH (by rfl) (7 * t + 1) (nI_add (7 * t) 1) (by omega) hL ?_
  refine zq_call0 hc (z_cx_ok hH (by rfl)) (lg_add (d := d) (by omega) h _) (by decide +kernel) (by rw [al_law]; omega) (fun r9 μ1 hq => ?_)
  obtain ⟨hj1, y1, rfl, hG⟩ := hq
  show Z b 409 [(4, .int (nI (7 * t))), (3, .ref 78), (2, .ref 50), (1, .ref 0), (0, .ref 100)] [.int y1] μ1
  refine z_rcs hc hH 6 (pc' := 416) (lv' := [(4, .int (nI (7 * t))), (3, .ref 78), (2, .ref 50), (1, .ref 0), (0, .ref 100)]) (st' := [.int ((nI (7 * t)) + 1), .ref 100, .ref 50]) (μ' := μ1) (by rfl) ?_
  refine zq_sld hc hH (by rfl) (7 * t + 1) (nI_add (7 * t) 1) (by omega) hL ?_
  refine zq_call0 hc (z_cx_ok hH (by rfl)) hG (by decide +kernel) (by rw [al_law]; omega) (fun r9 μ2 hq => ?_)
  obtain ⟨h2, rfl⟩ := hq
  show Z b 420 [(4, .int (nI (7 * t))), (3, .ref 78), (2, .ref 50), (1, .ref 0), (0, .ref 100)] [.int y1] μ2
  refine z_rcs hc hH 2 (pc' := 1037) (lv' := [(4, .int (nI (7 * t))), (3, .ref 78), (2, .ref 50), (1, .ref 0), (0, .ref 100)]) (st' := []) (μ' := μ2) (by rfl) ?_
  exact K b μ2 (by omega) (by omega) h2
theorem lw_c8 (hd : 705 ≤ d) (hL : L ≤ 3584) (hc : z_clo (L + 1, f) mi_L_law (z_C d) Z) (hb : b + 1 ≤ 2000) (ht : 7 * t + 7 ≤ L) (h : LGm μ) (K : ∀ b' μ', b ≤ b' → b' ≤ b + 1 → LGm μ' → Z b' 1037 [(4, .int (nI (7 * t))), (3, .ref 78), (2, .ref 50), (1, .ref 0), (0, .ref 100)] [] μ') : Z b 424 [(4, .int (nI (7 * t))), (3, .ref 78), (2, .ref 50), (1, .ref 0), (0, .ref 100)] [] μ := by
  have hH := zh_L_law
  refine z_rcs hc hH 1 (pc' := 425) (lv' := [(4, .int (nI (7 * t))), (3, .ref 78), (2, .ref 50), (1, .ref 0), (0, .ref 100)]) (st' := [.ref 0]) (μ' := μ) (by rfl) ?_
  refine zq_call0 hc (z_cx_ok hH (by rfl)) (lg_win (d := d) (by omega) h) (by decide +kernel) (by rw [al_law]; omega) (fun r9 μ1 hq => ?_)
  obtain ⟨hj1, y1, rfl, hG⟩ := hq
  show Z b 428 [(4, .int (nI (7 * t))), (3, .ref 78), (2, .ref 50), (1, .ref 0), (0, .ref 100)] [.int y1] μ1
  refine z_rcs hc hH 2 (pc' := 430) (lv' := [(4, .int (nI (7 * t))), (3, .ref 78), (2, .ref 50), (1, .ref 0), (0, .ref 100)]) (st' := [.ref 50]) (μ' := μ1) (by rfl) ?_
  refine zq_call0 hc (z_cx_ok hH (by rfl)) hG (by decide +kernel) (by rw [al_law]; omega) (fun r9 μ2 hq => ?_)
  obtain ⟨h2, rfl⟩ := hq
  show Z b 433 [(4, .int (nI (7 * t))), (3, .ref 78), (2, .ref 50), (1, .ref 0), (0, .ref 100)] [.int y1] μ2
  refine z_rcs hc hH 2 (pc' := 1037) (lv' := [(4, .int (nI (7 * t))), (3, .ref 78), (2, .ref 50), (1, .ref 0), (0, .ref 100)]) (st' := []) (μ' := μ2) (by rfl) ?_
  exact K b μ2 (by omega) (by omega) h2
theorem lw_c9 (hd : 705 ≤ d) (hL : L ≤ 3584) (hc : z_clo (L + 1, f) mi_L_law (z_C d) Z) (hb : b + 1 ≤ 2000) (ht : 7 * t + 7 ≤ L) (h : LGm μ) (K : ∀ b' μ', b ≤ b' → b' ≤ b + 1 → LGm μ' → Z b' 1037 [(4, .int (nI (7 * t))), (3, .ref 78), (2, .ref 50), (1, .ref 0), (0, .ref 100)] [] μ') : Z b 437 [(4, .int (nI (7 * t))), (3, .ref 78), (2, .ref 50), (1, .ref 0), (0, .ref 100)] [] μ := by
  have hH := zh_L_law
  refine z_rcs hc hH 5 (pc' := 443) (lv' := [(4, .int (nI (7 * t))), (3, .ref 78), (2, .ref 50), (1, .ref 0), (0, .ref 100)]) (st' := [.int ((nI (7 * t)) + 1), .ref 100, .ref 0]) (μ' := μ) (by rfl) ?_
  refine zq_sld hc hH (by rfl) (7 * t + 1) (nI_add (7 * t) 1) (by omega) hL ?_
  refine zq_call0 hc (z_cx_ok hH (by rfl)) (lg_claim (d := d) (by omega) h _) (by decide +kernel) (by rw [al_law]; omega) (fun r9 μ1 hq => ?_)
  obtain ⟨hj1, y1, rfl, hG⟩ := hq
  show Z b 447 [(4, .int (nI (7 * t))), (3, .ref 78), (2, .ref 50), (1, .ref 0), (0, .ref 100)] [.int y1] μ1
  refine z_rcs hc hH 6 (pc' := 454) (lv' := [(4, .int (nI (7 * t))), (3, .ref 78), (2, .ref 50), (1, .ref 0), (0, .ref 100)]) (st' := [.int ((nI (7 * t)) + 1), .ref 100, .ref 50]) (μ' := μ1) (by rfl) ?_
  refine zq_sld hc hH (by rfl) (7 * t + 1) (nI_add (7 * t) 1) (by omega) hL ?_
  refine zq_call0 hc (z_cx_ok hH (by rfl)) hG (by decide +kernel) (by rw [al_law]; omega) (fun r9 μ2 hq => ?_)
  obtain ⟨h2, rfl⟩ := hq
  show Z b 458 [(4, .int (nI (7 * t))), (3, .ref 78), (2, .ref 50), (1, .ref 0), (0, .ref 100)] [.int y1] μ2
  refine z_rcs hc hH 2 (pc' := 1037) (lv' := [(4, .int (nI (7 * t))), (3, .ref 78), (2, .ref 50), (1, .ref 0), (0, .ref 100)]) (st' := []) (μ' := μ2) (by rfl) ?_
  exact K b μ2 (by omega) (by omega) h2
theorem lw_c10 (hd : 705 ≤ d) (hL : L ≤ 3584) (hc : z_clo (L + 1, f) mi_L_law (z_C d) Z) (hb : b + 1 ≤ 2000) (ht : 7 * t + 7 ≤ L) (h : LGm μ) (K : ∀ b' μ', b ≤ b' → b' ≤ b + 1 → LGm μ' → Z b' 1037 [(4, .int (nI (7 * t))), (3, .ref 78), (2, .ref 50), (1, .ref 0), (0, .ref 100)] [] μ') : Z b 462 [(4, .int (nI (7 * t))), (3, .ref 78), (2, .ref 50), (1, .ref 0), (0, .ref 100)] [] μ := by
  have hH := zh_L_law
  refine z_rcs hc hH 1 (pc' := 463) (lv' := [(4, .int (nI (7 * t))), (3, .ref 78), (2, .ref 50), (1, .ref 0), (0, .ref 100)]) (st' := [.ref 0]) (μ' := μ) (by rfl) ?_
  refine zq_call0 hc (z_cx_ok hH (by rfl)) (lg_nine (d := d) (by omega) h) (by decide +kernel) (by rw [al_law]; omega) (fun r9 μ1 hq => ?_)
  obtain ⟨hj1, y1, rfl, hG⟩ := hq
  show Z b 466 [(4, .int (nI (7 * t))), (3, .ref 78), (2, .ref 50), (1, .ref 0), (0, .ref 100)] [.int y1] μ1
  refine z_rcs hc hH 2 (pc' := 468) (lv' := [(4, .int (nI (7 * t))), (3, .ref 78), (2, .ref 50), (1, .ref 0), (0, .ref 100)]) (st' := [.ref 50]) (μ' := μ1) (by rfl) ?_
  refine zq_call0 hc (z_cx_ok hH (by rfl)) hG (by decide +kernel) (by rw [al_law]; omega) (fun r9 μ2 hq => ?_)
  obtain ⟨h2, rfl⟩ := hq
  show Z b 471 [(4, .int (nI (7 * t))), (3, .ref 78), (2, .ref 50), (1, .ref 0), (0, .ref 100)] [.int y1] μ2
  refine z_rcs hc hH 2 (pc' := 1037) (lv' := [(4, .int (nI (7 * t))), (3, .ref 78), (2, .ref 50), (1, .ref 0), (0, .ref 100)]) (st' := []) (μ' := μ2) (by rfl) ?_
  exact K b μ2 (by omega) (by omega) h2
theorem lw_c11 (hd : 705 ≤ d) (hL : L ≤ 3584) (hc : z_clo (L + 1, f) mi_L_law (z_C d) Z) (hb : b + 1 ≤ 2000) (ht : 7 * t + 7 ≤ L) (h : LGm μ) (K : ∀ b' μ', b ≤ b' → b' ≤ b + 1 → LGm μ' → Z b' 1037 [(4, .int (nI (7 * t))), (3, .ref 78), (2, .ref 50), (1, .ref 0), (0, .ref 100)] [] μ') : Z b 475 [(4, .int (nI (7 * t))), (3, .ref 78), (2, .ref 50), (1, .ref 0), (0, .ref 100)] [] μ := by
  have hH := zh_L_law
  refine z_rcs hc hH 5 (pc' := 481) (lv' := [(4, .int (nI (7 * t))), (3, .ref 78), (2, .ref 50), (1, .ref 0), (0, .ref 100)]) (st' := [.int ((nI (7 * t)) + 1), .ref 100, .ref 0]) (μ' := μ) (by rfl) ?_
  refine zq_sld hc hH (by rfl) (7 * t + 1) (nI_add (7 * t) 1) (by omega) hL ?_
  refine z_rcs hc hH 4 (pc' := 487) (lv' := [(4, .int (nI (7 * t))), (3, .ref 78), (2, .ref 50), (1, .ref 0), (0, .ref 100)]) (st' := [.int ((nI (7 * t)) + 2), .ref 100, .int (f (7 * t + 1)), .ref 0]) (μ' := μ) (by rfl) ?_
  refine zq_sld hc hH (by rfl) (7 * t + 2) (nI_add (7 * t) 2) (by omega) hL ?_
  refine zq_call0 hc (z_cx_ok hH (by rfl)) (lg_hand (d := d) (by omega) h _ _) (by decide +kernel) (by rw [al_law]; omega) (fun r9 μ1 hq => ?_)
  obtain ⟨hj1, y1, rfl, hG⟩ := hq
  show Z b 491 [(4, .int (nI (7 * t))), (3, .ref 78), (2, .ref 50), (1, .ref 0), (0, .ref 100)] [.int y1] μ1
  refine z_rcs hc hH 6 (pc' := 498) (lv' := [(4, .int (nI (7 * t))), (3, .ref 78), (2, .ref 50), (1, .ref 0), (0, .ref 100)]) (st' := [.int ((nI (7 * t)) + 1), .ref 100, .ref 50]) (μ' := μ1) (by rfl) ?_
  refine zq_sld hc hH (by rfl) (7 * t + 1) (nI_add (7 * t) 1) (by omega) hL ?_
  refine z_rcs hc hH 4 (pc' := 504) (lv' := [(4, .int (nI (7 * t))), (3, .ref 78), (2, .ref 50), (1, .ref 0), (0, .ref 100)]) (st' := [.int ((nI (7 * t)) + 2), .ref 100, .int (f (7 * t + 1)), .ref 50]) (μ' := μ1) (by rfl) ?_
  refine zq_sld hc hH (by rfl) (7 * t + 2) (nI_add (7 * t) 2) (by omega) hL ?_
  refine zq_call0 hc (z_cx_ok hH (by rfl)) hG (by decide +kernel) (by rw [al_law]; omega) (fun r9 μ2 hq => ?_)
  obtain ⟨h2, rfl⟩ := hq
  show Z b 508 [(4, .int (nI (7 * t))), (3, .ref 78), (2, .ref 50), (1, .ref 0), (0, .ref 100)] [.int y1] μ2
  refine z_rcs hc hH 2 (pc' := 1037) (lv' := [(4, .int (nI (7 * t))), (3, .ref 78), (2, .ref 50), (1, .ref 0), (0, .ref 100)]) (st' := []) (μ' := μ2) (by rfl) ?_
  exact K b μ2 (by omega) (by omega) h2
theorem lw_c12 (hd : 705 ≤ d) (hL : L ≤ 3584) (hc : z_clo (L + 1, f) mi_L_law (z_C d) Z) (hb : b + 1 ≤ 2000) (ht : 7 * t + 7 ≤ L) (h : LGm μ) (K : ∀ b' μ', b ≤ b' → b' ≤ b + 1 → LGm μ' → Z b' 1037 [(4, .int (nI (7 * t))), (3, .ref 78), (2, .ref 50), (1, .ref 0), (0, .ref 100)] [] μ') : Z b 512 [(4, .int (nI (7 * t))), (3, .ref 78), (2, .ref 50), (1, .ref 0), (0, .ref 100)] [] μ := by
  have hH := zh_L_law
  refine z_rcs hc hH 5 (pc' := 518) (lv' := [(4, .int (nI (7 * t))), (3, .ref 78), (2, .ref 50), (1, .ref 0), (0, .ref 100)]) (st' := [.int ((nI (7 * t)) + 1), .ref 100, .ref 0]) (μ' := μ) (by rfl) ?_
  refine zq_sld hc hH (by rfl) (7 * t + 1) (nI_add (7 * t) 1) (by omega) hL ?_
  refine z_rcs hc hH 4 (pc' := 524) (lv' := [(4, .int (nI (7 * t))), (3, .ref 78), (2, .ref 50), (1, .ref 0), (0, .ref 100)]) (st' := [.int ((nI (7 * t)) + 2), .ref 100, .int (f (7 * t + 1)), .ref 0]) (μ' := μ) (by rfl) ?_
  refine zq_sld hc hH (by rfl) (7 * t + 2) (nI_add (7 * t) 2) (by omega) hL ?_
  refine z_rcs hc hH 4 (pc' := 530) (lv' := [(4, .int (nI (7 * t))), (3, .ref 78), (2, .ref 50), (1, .ref 0), (0, .ref 100)]) (st' := [.int ((nI (7 * t)) + 3), .ref 100, .int (f (7 * t + 2)), .int (f (7 * t + 1)), .ref 0]) (μ' := μ) (by rfl) ?_
  refine zq_sld hc hH (by rfl) (7 * t + 3) (nI_add (7 * t) 3) (by omega) hL ?_
  refine zq_call0 hc (z_cx_ok hH (by rfl)) (lq_k (i := 70) (K := ak_70) rfl (by omega) (by decide) (by decide) rfl (by decide) [.ref 0, .int (f (7 * t + 1)), .int (f (7 * t + 2)), .int (f (7 * t + 3))] μ h ⟨⟨0, by decide, rfl⟩, ⟨_, rfl, bI_top _⟩, ⟨_, rfl, bI_top _⟩, ⟨_, rfl, bI_top _⟩, trivial⟩) (by decide +kernel) (by rw [al_law]; omega) (fun r9 μ3 hq => ?_)
  obtain ⟨hl2, v9, rfl, x1, rfl, -⟩ := hq
  show Z b 534 [(4, .int (nI (7 * t))), (3, .ref 78), (2, .ref 50), (1, .ref 0), (0, .ref 100)] [.int x1] μ3
  refine z_rcs hc hH 6 (pc' := 541) (lv' := [(4, .int (nI (7 * t))), (3, .ref 78), (2, .ref 50), (1, .ref 0), (0, .ref 100)]) (st' := [.int ((nI (7 * t)) + 1), .ref 100, .ref 50]) (μ' := μ3) (by rfl) ?_
  refine zq_sld hc hH (by rfl) (7 * t + 1) (nI_add (7 * t) 1) (by omega) hL ?_
  refine z_rcs hc hH 4 (pc' := 547) (lv' := [(4, .int (nI (7 * t))), (3, .ref 78), (2, .ref 50), (1, .ref 0), (0, .ref 100)]) (st' := [.int ((nI (7 * t)) + 2), .ref 100, .int (f (7 * t + 1)), .ref 50]) (μ' := μ3) (by rfl) ?_
  refine zq_sld hc hH (by rfl) (7 * t + 2) (nI_add (7 * t) 2) (by omega) hL ?_
  refine z_rcs hc hH 4 (pc' := 553) (lv' := [(4, .int (nI (7 * t))), (3, .ref 78), (2, .ref 50), (1, .ref 0), (0, .ref 100)]) (st' := [.int ((nI (7 * t)) + 3), .ref 100, .int (f (7 * t + 2)), .int (f (7 * t + 1)), .ref 50]) (μ' := μ3) (by rfl) ?_
  refine zq_sld hc hH (by rfl) (7 * t + 3) (nI_add (7 * t) 3) (by omega) hL ?_
  refine zq_call0 hc (z_cx_ok hH (by rfl)) (lq_k (i := 127) (K := ak_127) rfl (by omega) (by decide) (by decide) rfl (by decide) [.ref 50, .int (f (7 * t + 1)), .int (f (7 * t + 2)), .int (f (7 * t + 3))] μ3 hl2 ⟨⟨50, by decide, rfl⟩, ⟨_, rfl, bI_top _⟩, ⟨_, rfl, bI_top _⟩, ⟨_, rfl, bI_top _⟩, trivial⟩) (by decide +kernel) (by rw [al_law]; omega) (fun r9 μ6 hq => ?_)
  obtain ⟨hl5, v9, rfl, x4, rfl, -⟩ := hq
  show Z b 557 [(4, .int (nI (7 * t))), (3, .ref 78), (2, .ref 50), (1, .ref 0), (0, .ref 100)] [.int x4] μ6
  refine z_rcs hc hH 2 (pc' := 1037) (lv' := [(4, .int (nI (7 * t))), (3, .ref 78), (2, .ref 50), (1, .ref 0), (0, .ref 100)]) (st' := []) (μ' := μ6) (by rfl) ?_
  exact K b μ6 (by omega) (by omega) hl5
theorem lw_c14 (hd : 705 ≤ d) (hL : L ≤ 3584) (hc : z_clo (L + 1, f) mi_L_law (z_C d) Z) (hb : b + 1 ≤ 2000) (ht : 7 * t + 7 ≤ L) (h : LGm μ) (K : ∀ b' μ', b ≤ b' → b' ≤ b + 1 → LGm μ' → Z b' 1037 [(4, .int (nI (7 * t))), (3, .ref 78), (2, .ref 50), (1, .ref 0), (0, .ref 100)] [] μ') : Z b 601 [(4, .int (nI (7 * t))), (3, .ref 78), (2, .ref 50), (1, .ref 0), (0, .ref 100)] [] μ := by
  have hH := zh_L_law
  refine z_rcs hc hH 5 (pc' := 607) (lv' := [(4, .int (nI (7 * t))), (3, .ref 78), (2, .ref 50), (1, .ref 0), (0, .ref 100)]) (st' := [.int ((nI (7 * t)) + 1), .ref 100, .ref 0]) (μ' := μ) (by rfl) ?_
  refine zq_sld hc hH (by rfl) (7 * t + 1) (nI_add (7 * t) 1) (by omega) hL ?_
  refine zq_call0 hc (z_cx_ok hH (by rfl)) (lg_waits (d := d) (by omega) h _) (by decide +kernel) (by rw [al_law]; omega) (fun r9 μ1 hq => ?_)
  obtain ⟨e1, y1, rfl⟩ := hq
  rw [e1]
  clear e1 μ1
  show Z b 611 [(4, .int (nI (7 * t))), (3, .ref 78), (2, .ref 50), (1, .ref 0), (0, .ref 100)] [.long y1] μ
  refine z_rcs hc hH 6 (pc' := 618) (lv' := [(4, .int (nI (7 * t))), (3, .ref 78), (2, .ref 50), (1, .ref 0), (0, .ref 100)]) (st' := [.int ((nI (7 * t)) + 1), .ref 100, .ref 50]) (μ' := μ) (by rfl) ?_
  refine zq_sld hc hH (by rfl) (7 * t + 1) (nI_add (7 * t) 1) (by omega) hL ?_
  refine zq_call0 hc (z_cx_ok hH (by rfl)) (lq_k (i := 129) (K := ak_129) rfl (by omega) (by decide) (by decide) rfl (by decide) [.ref 50, .int (f (7 * t + 1))] μ h ⟨⟨50, by decide, rfl⟩, ⟨_, rfl, bI_top _⟩, trivial⟩) (by decide +kernel) (by rw [al_law]; omega) (fun r9 μ3 hq => ?_)
  obtain ⟨hl2, v9, rfl, x1, rfl, -⟩ := hq
  show Z b 622 [(4, .int (nI (7 * t))), (3, .ref 78), (2, .ref 50), (1, .ref 0), (0, .ref 100)] [.long x1] μ3
  refine z_rcs hc hH 2 (pc' := 1037) (lv' := [(4, .int (nI (7 * t))), (3, .ref 78), (2, .ref 50), (1, .ref 0), (0, .ref 100)]) (st' := []) (μ' := μ3) (by rfl) ?_
  exact K b μ3 (by omega) (by omega) hl2
theorem lw_c15 (hd : 705 ≤ d) (hL : L ≤ 3584) (hc : z_clo (L + 1, f) mi_L_law (z_C d) Z) (hb : b + 1 ≤ 2000) (ht : 7 * t + 7 ≤ L) (h : LGm μ) (K : ∀ b' μ', b ≤ b' → b' ≤ b + 1 → LGm μ' → Z b' 1037 [(4, .int (nI (7 * t))), (3, .ref 78), (2, .ref 50), (1, .ref 0), (0, .ref 100)] [] μ') : Z b 626 [(4, .int (nI (7 * t))), (3, .ref 78), (2, .ref 50), (1, .ref 0), (0, .ref 100)] [] μ := by
  have hH := zh_L_law
  refine z_rcs hc hH 5 (pc' := 632) (lv' := [(4, .int (nI (7 * t))), (3, .ref 78), (2, .ref 50), (1, .ref 0), (0, .ref 100)]) (st' := [.int ((nI (7 * t)) + 1), .ref 100, .ref 0]) (μ' := μ) (by rfl) ?_
  refine zq_sld hc hH (by rfl) (7 * t + 1) (nI_add (7 * t) 1) (by omega) hL ?_
  refine z_rcs hc hH 4 (pc' := 638) (lv' := [(4, .int (nI (7 * t))), (3, .ref 78), (2, .ref 50), (1, .ref 0), (0, .ref 100)]) (st' := [.int ((nI (7 * t)) + 2), .ref 100, .int (f (7 * t + 1)), .ref 0]) (μ' := μ) (by rfl) ?_
  refine zq_sld hc hH (by rfl) (7 * t + 2) (nI_add (7 * t) 2) (by omega) hL ?_
  refine zq_call0 hc (z_cx_ok hH (by rfl)) (lg_seat (d := d) (by omega) h _ _) (by decide +kernel) (by rw [al_law]; omega) (fun r9 μ1 hq => ?_)
  obtain ⟨hj1, y1, rfl, hG⟩ := hq
  show Z b 642 [(4, .int (nI (7 * t))), (3, .ref 78), (2, .ref 50), (1, .ref 0), (0, .ref 100)] [.int y1] μ1
  refine z_rcs hc hH 6 (pc' := 649) (lv' := [(4, .int (nI (7 * t))), (3, .ref 78), (2, .ref 50), (1, .ref 0), (0, .ref 100)]) (st' := [.int ((nI (7 * t)) + 1), .ref 100, .ref 50]) (μ' := μ1) (by rfl) ?_
  refine zq_sld hc hH (by rfl) (7 * t + 1) (nI_add (7 * t) 1) (by omega) hL ?_
  refine z_rcs hc hH 4 (pc' := 655) (lv' := [(4, .int (nI (7 * t))), (3, .ref 78), (2, .ref 50), (1, .ref 0), (0, .ref 100)]) (st' := [.int ((nI (7 * t)) + 2), .ref 100, .int (f (7 * t + 1)), .ref 50]) (μ' := μ1) (by rfl) ?_
  refine zq_sld hc hH (by rfl) (7 * t + 2) (nI_add (7 * t) 2) (by omega) hL ?_
  refine zq_call0 hc (z_cx_ok hH (by rfl)) hG (by decide +kernel) (by rw [al_law]; omega) (fun r9 μ2 hq => ?_)
  obtain ⟨h2, rfl⟩ := hq
  show Z b 659 [(4, .int (nI (7 * t))), (3, .ref 78), (2, .ref 50), (1, .ref 0), (0, .ref 100)] [.int y1] μ2
  refine z_rcs hc hH 2 (pc' := 1037) (lv' := [(4, .int (nI (7 * t))), (3, .ref 78), (2, .ref 50), (1, .ref 0), (0, .ref 100)]) (st' := []) (μ' := μ2) (by rfl) ?_
  exact K b μ2 (by omega) (by omega) h2
theorem lw_c16 (hd : 705 ≤ d) (hL : L ≤ 3584) (hc : z_clo (L + 1, f) mi_L_law (z_C d) Z) (hb : b + 1 ≤ 2000) (ht : 7 * t + 7 ≤ L) (h : LGm μ) (K : ∀ b' μ', b ≤ b' → b' ≤ b + 1 → LGm μ' → Z b' 1037 [(4, .int (nI (7 * t))), (3, .ref 78), (2, .ref 50), (1, .ref 0), (0, .ref 100)] [] μ') : Z b 663 [(4, .int (nI (7 * t))), (3, .ref 78), (2, .ref 50), (1, .ref 0), (0, .ref 100)] [] μ := by
  have hH := zh_L_law
  refine z_rcs hc hH 5 (pc' := 669) (lv' := [(4, .int (nI (7 * t))), (3, .ref 78), (2, .ref 50), (1, .ref 0), (0, .ref 100)]) (st' := [.int ((nI (7 * t)) + 1), .ref 100, .ref 0]) (μ' := μ) (by rfl) ?_
  refine zq_sld hc hH (by rfl) (7 * t + 1) (nI_add (7 * t) 1) (by omega) hL ?_
  refine z_rcs hc hH 4 (pc' := 675) (lv' := [(4, .int (nI (7 * t))), (3, .ref 78), (2, .ref 50), (1, .ref 0), (0, .ref 100)]) (st' := [.int ((nI (7 * t)) + 2), .ref 100, .int (f (7 * t + 1)), .ref 0]) (μ' := μ) (by rfl) ?_
  refine zq_sld hc hH (by rfl) (7 * t + 2) (nI_add (7 * t) 2) (by omega) hL ?_
  refine zq_call0 hc (z_cx_ok hH (by rfl)) (lq_k (i := 73) (K := ak_73) rfl (by omega) (by decide) (by decide) rfl (by decide) [.ref 0, .int (f (7 * t + 1)), .int (f (7 * t + 2))] μ h ⟨⟨0, by decide, rfl⟩, ⟨_, rfl, bI_top _⟩, ⟨_, rfl, bI_top _⟩, trivial⟩) (by decide +kernel) (by rw [al_law]; omega) (fun r9 μ3 hq => ?_)
  obtain ⟨hl2, v9, rfl, x1, rfl, -⟩ := hq
  show Z b 679 [(4, .int (nI (7 * t))), (3, .ref 78), (2, .ref 50), (1, .ref 0), (0, .ref 100)] [.int x1] μ3
  refine z_rcs hc hH 6 (pc' := 686) (lv' := [(4, .int (nI (7 * t))), (3, .ref 78), (2, .ref 50), (1, .ref 0), (0, .ref 100)]) (st' := [.int ((nI (7 * t)) + 1), .ref 100, .ref 50]) (μ' := μ3) (by rfl) ?_
  refine zq_sld hc hH (by rfl) (7 * t + 1) (nI_add (7 * t) 1) (by omega) hL ?_
  refine z_rcs hc hH 4 (pc' := 692) (lv' := [(4, .int (nI (7 * t))), (3, .ref 78), (2, .ref 50), (1, .ref 0), (0, .ref 100)]) (st' := [.int ((nI (7 * t)) + 2), .ref 100, .int (f (7 * t + 1)), .ref 50]) (μ' := μ3) (by rfl) ?_
  refine zq_sld hc hH (by rfl) (7 * t + 2) (nI_add (7 * t) 2) (by omega) hL ?_
  refine zq_call0 hc (z_cx_ok hH (by rfl)) (lq_k (i := 131) (K := ak_131) rfl (by omega) (by decide) (by decide) rfl (by decide) [.ref 50, .int (f (7 * t + 1)), .int (f (7 * t + 2))] μ3 hl2 ⟨⟨50, by decide, rfl⟩, ⟨_, rfl, bI_top _⟩, ⟨_, rfl, bI_top _⟩, trivial⟩) (by decide +kernel) (by rw [al_law]; omega) (fun r9 μ6 hq => ?_)
  obtain ⟨hl5, v9, rfl, x4, rfl, -⟩ := hq
  show Z b 696 [(4, .int (nI (7 * t))), (3, .ref 78), (2, .ref 50), (1, .ref 0), (0, .ref 100)] [.int x4] μ6
  refine z_rcs hc hH 2 (pc' := 1037) (lv' := [(4, .int (nI (7 * t))), (3, .ref 78), (2, .ref 50), (1, .ref 0), (0, .ref 100)]) (st' := []) (μ' := μ6) (by rfl) ?_
  exact K b μ6 (by omega) (by omega) hl5
theorem lw_c17 (hd : 705 ≤ d) (hL : L ≤ 3584) (hc : z_clo (L + 1, f) mi_L_law (z_C d) Z) (hb : b + 1 ≤ 2000) (ht : 7 * t + 7 ≤ L) (h : LGm μ) (K : ∀ b' μ', b ≤ b' → b' ≤ b + 1 → LGm μ' → Z b' 1037 [(4, .int (nI (7 * t))), (3, .ref 78), (2, .ref 50), (1, .ref 0), (0, .ref 100)] [] μ') : Z b 700 [(4, .int (nI (7 * t))), (3, .ref 78), (2, .ref 50), (1, .ref 0), (0, .ref 100)] [] μ := by
  have hH := zh_L_law
  refine z_rcs hc hH 5 (pc' := 706) (lv' := [(4, .int (nI (7 * t))), (3, .ref 78), (2, .ref 50), (1, .ref 0), (0, .ref 100)]) (st' := [.int ((nI (7 * t)) + 1), .ref 100, .ref 0]) (μ' := μ) (by rfl) ?_
  refine zq_sld hc hH (by rfl) (7 * t + 1) (nI_add (7 * t) 1) (by omega) hL ?_
  refine zq_call0 hc (z_cx_ok hH (by rfl)) (lq_k (i := 74) (K := ak_74) rfl (by omega) (by decide) (by decide) rfl (by decide) [.ref 0, .int (f (7 * t + 1))] μ h ⟨⟨0, by decide, rfl⟩, ⟨_, rfl, bI_top _⟩, trivial⟩) (by decide +kernel) (by rw [al_law]; omega) (fun r9 μ3 hq => ?_)
  obtain ⟨hl2, v9, rfl, x1, rfl, -⟩ := hq
  show Z b 710 [(4, .int (nI (7 * t))), (3, .ref 78), (2, .ref 50), (1, .ref 0), (0, .ref 100)] [.long x1] μ3
  refine z_rcs hc hH 6 (pc' := 717) (lv' := [(4, .int (nI (7 * t))), (3, .ref 78), (2, .ref 50), (1, .ref 0), (0, .ref 100)]) (st' := [.int ((nI (7 * t)) + 1), .ref 100, .ref 50]) (μ' := μ3) (by rfl) ?_
  refine zq_sld hc hH (by rfl) (7 * t + 1) (nI_add (7 * t) 1) (by omega) hL ?_
  refine zq_call0 hc (z_cx_ok hH (by rfl)) (lq_k (i := 132) (K := ak_132) rfl (by omega) (by decide) (by decide) rfl (by decide) [.ref 50, .int (f (7 * t + 1))] μ3 hl2 ⟨⟨50, by decide, rfl⟩, ⟨_, rfl, bI_top _⟩, trivial⟩) (by decide +kernel) (by rw [al_law]; omega) (fun r9 μ6 hq => ?_)
  obtain ⟨hl5, v9, rfl, x4, rfl, -⟩ := hq
  show Z b 721 [(4, .int (nI (7 * t))), (3, .ref 78), (2, .ref 50), (1, .ref 0), (0, .ref 100)] [.long x4] μ6
  refine z_rcs hc hH 2 (pc' := 1037) (lv' := [(4, .int (nI (7 * t))), (3, .ref 78), (2, .ref 50), (1, .ref 0), (0, .ref 100)]) (st' := []) (μ' := μ6) (by rfl) ?_
  exact K b μ6 (by omega) (by omega) hl5
theorem lw_c18 (hd : 705 ≤ d) (hL : L ≤ 3584) (hc : z_clo (L + 1, f) mi_L_law (z_C d) Z) (hb : b + 1 ≤ 2000) (ht : 7 * t + 7 ≤ L) (h : LGm μ) (K : ∀ b' μ', b ≤ b' → b' ≤ b + 1 → LGm μ' → Z b' 1037 [(4, .int (nI (7 * t))), (3, .ref 78), (2, .ref 50), (1, .ref 0), (0, .ref 100)] [] μ') : Z b 725 [(4, .int (nI (7 * t))), (3, .ref 78), (2, .ref 50), (1, .ref 0), (0, .ref 100)] [] μ := by
  have hH := zh_L_law
  refine z_rcs hc hH 5 (pc' := 731) (lv' := [(4, .int (nI (7 * t))), (3, .ref 78), (2, .ref 50), (1, .ref 0), (0, .ref 100)]) (st' := [.int ((nI (7 * t)) + 1), .ref 100, .ref 0]) (μ' := μ) (by rfl) ?_
  refine zq_sld hc hH (by rfl) (7 * t + 1) (nI_add (7 * t) 1) (by omega) hL ?_
  refine zq_call0 hc (z_cx_ok hH (by rfl)) (lg_count (d := d) (by omega) h _) (by decide +kernel) (by rw [al_law]; omega) (fun r9 μ1 hq => ?_)
  obtain ⟨hj1, y1, rfl, hG⟩ := hq
  show Z b 735 [(4, .int (nI (7 * t))), (3, .ref 78), (2, .ref 50), (1, .ref 0), (0, .ref 100)] [.int y1] μ1
  refine z_rcs hc hH 5 (pc' := 741) (lv' := [(4, .int (nI (7 * t))), (3, .ref 78), (2, .ref 50), (1, .ref 0), (0, .ref 100)]) (st' := [.int ((nI (7 * t)) + 1), .ref 100, .ref 50, .int y1]) (μ' := μ1) (by rfl) ?_
  refine zq_sld hc hH (by rfl) (7 * t + 1) (nI_add (7 * t) 1) (by omega) hL ?_
  refine zq_call0 hc (z_cx_ok hH (by rfl)) hG (by decide +kernel) (by rw [al_law]; omega) (fun r9 μ2 hq => ?_)
  obtain ⟨h2, rfl⟩ := hq
  show Z b 745 [(4, .int (nI (7 * t))), (3, .ref 78), (2, .ref 50), (1, .ref 0), (0, .ref 100)] [.int y1, .int y1] μ2
  refine zq_ic hc hH (by rfl) (tg := 1037) (by rfl) (fun _ => ?_) (fun h9 => (zb_t (cm_eq9.mpr rfl) h9).elim)
  exact K b μ2 (by omega) (by omega) h2
theorem lw_c20 (hd : 705 ≤ d) (hL : L ≤ 3584) (hc : z_clo (L + 1, f) mi_L_law (z_C d) Z) (hb : b + 1 ≤ 2000) (ht : 7 * t + 7 ≤ L) (h : LGm μ) (K : ∀ b' μ', b ≤ b' → b' ≤ b + 1 → LGm μ' → Z b' 1037 [(4, .int (nI (7 * t))), (3, .ref 78), (2, .ref 50), (1, .ref 0), (0, .ref 100)] [] μ') : Z b 778 [(4, .int (nI (7 * t))), (3, .ref 78), (2, .ref 50), (1, .ref 0), (0, .ref 100)] [] μ := by
  have hH := zh_L_law
  refine z_rcs hc hH 1 (pc' := 779) (lv' := [(4, .int (nI (7 * t))), (3, .ref 78), (2, .ref 50), (1, .ref 0), (0, .ref 100)]) (st' := [.ref 0]) (μ' := μ) (by rfl) ?_
  refine zq_call0 hc (z_cx_ok hH (by rfl)) (lx_clear (by omega) μ) (by decide +kernel) (by rw [al_law]; omega) (fun r1 μ1 hq1 => ?_)
  obtain ⟨rfl, hF, hx⟩ := hq1
  show Z b 782 [(4, .int (nI (7 * t))), (3, .ref 78), (2, .ref 50), (1, .ref 0), (0, .ref 100)] [] μ1
  refine z_rcs hc hH 1 (pc' := 783) (lv' := [(4, .int (nI (7 * t))), (3, .ref 78), (2, .ref 50), (1, .ref 0), (0, .ref 100)]) (st' := [.ref 50]) (μ' := μ1) (by rfl) ?_
  refine zq_call0 hc (z_cx_ok hH (by rfl)) (lgm_clear (by omega) h hF hx) (by decide +kernel) (by rw [al_law]; omega) (fun r2 μ2 hq2 => ?_)
  obtain ⟨rfl, h2⟩ := hq2
  show Z b 786 [(4, .int (nI (7 * t))), (3, .ref 78), (2, .ref 50), (1, .ref 0), (0, .ref 100)] [] μ2
  refine z_rcs hc hH 1 (pc' := 1037) (lv' := [(4, .int (nI (7 * t))), (3, .ref 78), (2, .ref 50), (1, .ref 0), (0, .ref 100)]) (st' := []) (μ' := μ2) (by rfl) ?_
  exact K b μ2 (by omega) (by omega) h2
theorem lw_c21 (hd : 705 ≤ d) (hL : L ≤ 3584) (hc : z_clo (L + 1, f) mi_L_law (z_C d) Z) (hb : b + 1 ≤ 2000) (ht : 7 * t + 7 ≤ L) (h : LGm μ) (K : ∀ b' μ', b ≤ b' → b' ≤ b + 1 → LGm μ' → Z b' 1037 [(4, .int (nI (7 * t))), (3, .ref 78), (2, .ref 50), (1, .ref 0), (0, .ref 100)] [] μ') : Z b 789 [(4, .int (nI (7 * t))), (3, .ref 78), (2, .ref 50), (1, .ref 0), (0, .ref 100)] [] μ := by
  have hH := zh_L_law
  refine z_rcs hc hH 5 (pc' := 795) (lv' := [(4, .int (nI (7 * t))), (3, .ref 78), (2, .ref 50), (1, .ref 0), (0, .ref 100)]) (st' := [.int ((nI (7 * t)) + 1), .ref 100, .ref 0]) (μ' := μ) (by rfl) ?_
  refine zq_sld hc hH (by rfl) (7 * t + 1) (nI_add (7 * t) 1) (by omega) hL ?_
  refine z_rcs hc hH 4 (pc' := 801) (lv' := [(4, .int (nI (7 * t))), (3, .ref 78), (2, .ref 50), (1, .ref 0), (0, .ref 100)]) (st' := [.int ((nI (7 * t)) + 2), .ref 100, .int (f (7 * t + 1)), .ref 0]) (μ' := μ) (by rfl) ?_
  refine zq_sld hc hH (by rfl) (7 * t + 2) (nI_add (7 * t) 2) (by omega) hL ?_
  refine zq_call0 hc (z_cx_ok hH (by rfl)) (lx_lay (by omega) μ _ _) (by decide +kernel) (by rw [al_law]; omega) (fun r1 μ1 hq1 => ?_)
  obtain ⟨hF, hx⟩ := hq1
  obtain ⟨y1, rfl⟩ : ∃ y1, r1 = some (.int y1) := hx.elim (fun e => ⟨_, e.1⟩) (fun e => ⟨_, e.1⟩)
  show Z b 805 [(4, .int (nI (7 * t))), (3, .ref 78), (2, .ref 50), (1, .ref 0), (0, .ref 100)] [.int y1] μ1
  refine z_rcs hc hH 6 (pc' := 812) (lv' := [(4, .int (nI (7 * t))), (3, .ref 78), (2, .ref 50), (1, .ref 0), (0, .ref 100)]) (st' := [.int ((nI (7 * t)) + 1), .ref 100, .ref 50]) (μ' := μ1) (by rfl) ?_
  refine zq_sld hc hH (by rfl) (7 * t + 1) (nI_add (7 * t) 1) (by omega) hL ?_
  refine z_rcs hc hH 4 (pc' := 818) (lv' := [(4, .int (nI (7 * t))), (3, .ref 78), (2, .ref 50), (1, .ref 0), (0, .ref 100)]) (st' := [.int ((nI (7 * t)) + 2), .ref 100, .int (f (7 * t + 1)), .ref 50]) (μ' := μ1) (by rfl) ?_
  refine zq_sld hc hH (by rfl) (7 * t + 2) (nI_add (7 * t) 2) (by omega) hL ?_
  refine zq_call0 hc (z_cx_ok hH (by rfl)) (lgm_lay (by omega) h hF hx) (by decide +kernel) (by rw [al_law]; omega) (fun r2 μ2 hq2 => ?_)
  obtain ⟨h2, hq2⟩ := hq2
  obtain ⟨e1, rfl⟩ | ⟨e1, rfl⟩ := hq2
  · obtain rfl : y1 = 1 := by injection e1 with e1; injection e1
    show Z b 822 [(4, .int (nI (7 * t))), (3, .ref 78), (2, .ref 50), (1, .ref 0), (0, .ref 100)] [.int 1] μ2
    refine z_rcs hc hH 2 (pc' := 1037) (lv' := [(4, .int (nI (7 * t))), (3, .ref 78), (2, .ref 50), (1, .ref 0), (0, .ref 100)]) (st' := []) (μ' := μ2) (by rfl) ?_
    exact K b μ2 (by omega) (by omega) h2
  · obtain rfl : y1 = 0 := by injection e1 with e1; injection e1
    show Z b 822 [(4, .int (nI (7 * t))), (3, .ref 78), (2, .ref 50), (1, .ref 0), (0, .ref 100)] [.int 0] μ2
    refine z_rcs hc hH 2 (pc' := 1037) (lv' := [(4, .int (nI (7 * t))), (3, .ref 78), (2, .ref 50), (1, .ref 0), (0, .ref 100)]) (st' := []) (μ' := μ2) (by rfl) ?_
    exact K b μ2 (by omega) (by omega) h2
theorem lw_c22 (hd : 705 ≤ d) (hL : L ≤ 3584) (hc : z_clo (L + 1, f) mi_L_law (z_C d) Z) (hb : b + 1 ≤ 2000) (ht : 7 * t + 7 ≤ L) (h : LGm μ) (K : ∀ b' μ', b ≤ b' → b' ≤ b + 1 → LGm μ' → Z b' 1037 [(4, .int (nI (7 * t))), (3, .ref 78), (2, .ref 50), (1, .ref 0), (0, .ref 100)] [] μ') : Z b 826 [(4, .int (nI (7 * t))), (3, .ref 78), (2, .ref 50), (1, .ref 0), (0, .ref 100)] [] μ := by
  have hH := zh_L_law
  refine z_rcs hc hH 5 (pc' := 832) (lv' := [(4, .int (nI (7 * t))), (3, .ref 78), (2, .ref 50), (1, .ref 0), (0, .ref 100)]) (st' := [.int ((nI (7 * t)) + 1), .ref 100, .ref 0]) (μ' := μ) (by rfl) ?_
  refine zq_sld hc hH (by rfl) (7 * t + 1) (nI_add (7 * t) 1) (by omega) hL ?_
  refine z_rcs hc hH 4 (pc' := 838) (lv' := [(4, .int (nI (7 * t))), (3, .ref 78), (2, .ref 50), (1, .ref 0), (0, .ref 100)]) (st' := [.int ((nI (7 * t)) + 2), .ref 100, .int (f (7 * t + 1)), .ref 0]) (μ' := μ) (by rfl) ?_
  refine zq_sld hc hH (by rfl) (7 * t + 2) (nI_add (7 * t) 2) (by omega) hL ?_
  obtain ⟨⟨hg, q, hq, hs⟩, hr9⟩ := id h
  refine zq_call0 hc (z_cx_ok hH (by rfl)) (lx_set (by omega) _ _ hq) (by decide +kernel) (by rw [al_law]; omega) (fun r1 μ1 hq1 => ?_)
  obtain ⟨hF, hx⟩ := hq1
  obtain ⟨y1, rfl⟩ : ∃ y1, r1 = some (.int y1) := hx.elim (fun e => ⟨_, e.1⟩) (fun e => ⟨_, e.1⟩)
  show Z b 842 [(4, .int (nI (7 * t))), (3, .ref 78), (2, .ref 50), (1, .ref 0), (0, .ref 100)] [.int y1] μ1
  refine z_rcs hc hH 6 (pc' := 849) (lv' := [(4, .int (nI (7 * t))), (3, .ref 78), (2, .ref 50), (1, .ref 0), (0, .ref 100)]) (st' := [.int ((nI (7 * t)) + 1), .ref 100, .ref 50]) (μ' := μ1) (by rfl) ?_
  refine zq_sld hc hH (by rfl) (7 * t + 1) (nI_add (7 * t) 1) (by omega) hL ?_
  refine z_rcs hc hH 4 (pc' := 855) (lv' := [(4, .int (nI (7 * t))), (3, .ref 78), (2, .ref 50), (1, .ref 0), (0, .ref 100)]) (st' := [.int ((nI (7 * t)) + 2), .ref 100, .int (f (7 * t + 1)), .ref 50]) (μ' := μ1) (by rfl) ?_
  refine zq_sld hc hH (by rfl) (7 * t + 2) (nI_add (7 * t) 2) (by omega) hL ?_
  refine zq_call0 hc (z_cx_ok hH (by rfl)) (lgm_set (by omega) h hq hs hF hx) (by decide +kernel) (by rw [al_law]; omega) (fun r2 μ2 hq2 => ?_)
  obtain ⟨h2, hq2⟩ := hq2
  obtain ⟨e1, rfl⟩ | ⟨e1, rfl⟩ := hq2
  · obtain rfl : y1 = 1 := by injection e1 with e1; injection e1
    show Z b 859 [(4, .int (nI (7 * t))), (3, .ref 78), (2, .ref 50), (1, .ref 0), (0, .ref 100)] [.int 1] μ2
    refine z_rcs hc hH 2 (pc' := 1037) (lv' := [(4, .int (nI (7 * t))), (3, .ref 78), (2, .ref 50), (1, .ref 0), (0, .ref 100)]) (st' := []) (μ' := μ2) (by rfl) ?_
    exact K b μ2 (by omega) (by omega) h2
  · obtain rfl : y1 = 0 := by injection e1 with e1; injection e1
    show Z b 859 [(4, .int (nI (7 * t))), (3, .ref 78), (2, .ref 50), (1, .ref 0), (0, .ref 100)] [.int 0] μ2
    refine z_rcs hc hH 2 (pc' := 1037) (lv' := [(4, .int (nI (7 * t))), (3, .ref 78), (2, .ref 50), (1, .ref 0), (0, .ref 100)]) (st' := []) (μ' := μ2) (by rfl) ?_
    exact K b μ2 (by omega) (by omega) h2
theorem lw_c23 (hd : 705 ≤ d) (hL : L ≤ 3584) (hc : z_clo (L + 1, f) mi_L_law (z_C d) Z) (hb : b + 1 ≤ 2000) (ht : 7 * t + 7 ≤ L) (h : LGm μ) (K : ∀ b' μ', b ≤ b' → b' ≤ b + 1 → LGm μ' → Z b' 1037 [(4, .int (nI (7 * t))), (3, .ref 78), (2, .ref 50), (1, .ref 0), (0, .ref 100)] [] μ') : Z b 863 [(4, .int (nI (7 * t))), (3, .ref 78), (2, .ref 50), (1, .ref 0), (0, .ref 100)] [] μ := by
  have hH := zh_L_law
  refine z_rcs hc hH 5 (pc' := 869) (lv' := [(4, .int (nI (7 * t))), (3, .ref 78), (2, .ref 50), (1, .ref 0), (0, .ref 100)]) (st' := [.int ((nI (7 * t)) + 1), .ref 100, .ref 0]) (μ' := μ) (by rfl) ?_
  refine zq_sld hc hH (by rfl) (7 * t + 1) (nI_add (7 * t) 1) (by omega) hL ?_
  refine z_rcs hc hH 4 (pc' := 875) (lv' := [(4, .int (nI (7 * t))), (3, .ref 78), (2, .ref 50), (1, .ref 0), (0, .ref 100)]) (st' := [.int ((nI (7 * t)) + 2), .ref 100, .int (f (7 * t + 1)), .ref 0]) (μ' := μ) (by rfl) ?_
  refine zq_sld hc hH (by rfl) (7 * t + 2) (nI_add (7 * t) 2) (by omega) hL ?_
  refine zq_if hc hH (by rfl) (tg := 883) (by rfl) (fun h1 => ?_) (fun h1 => ?_)
  · have h1 := cm_eq9.mp h1
    refine z_rcs hc hH 5 (pc' := 889) (lv' := [(4, .int (nI (7 * t))), (3, .ref 78), (2, .ref 50), (1, .ref 0), (0, .ref 100)]) (st' := [.int ((nI (7 * t)) + 3), .ref 100, .int 0, .int (f (7 * t + 1)), .ref 0]) (μ' := μ) (by rfl) ?_
    refine zq_sld hc hH (by rfl) (7 * t + 3) (nI_add (7 * t) 3) (by omega) hL ?_
    refine z_rcs hc hH 7 (pc' := 899) (lv' := [(4, .int (nI (7 * t))), (3, .ref 78), (2, .ref 50), (1, .ref 0), (0, .ref 100)]) (st' := [.int ((nI (7 * t)) + 4), .ref 100, .long (((f (7 * t + 3)).toInt64) <<< ((32 : Int32).toInt64 &&& 63)), .int 0, .int (f (7 * t + 1)), .ref 0]) (μ' := μ) (by rfl) ?_
    refine zq_sld hc hH (by rfl) (7 * t + 4) (nI_add (7 * t) 4) (by omega) hL ?_
    refine z_rcs hc hH 8 (pc' := 911) (lv' := [(4, .int (nI (7 * t))), (3, .ref 78), (2, .ref 50), (1, .ref 0), (0, .ref 100)]) (st' := [.int ((nI (7 * t)) + 5), .ref 100, .long ((((f (7 * t + 3)).toInt64) <<< ((32 : Int32).toInt64 &&& 63)) ||| (((f (7 * t + 4)).toInt64) &&& 4294967295)), .int 0, .int (f (7 * t + 1)), .ref 0]) (μ' := μ) (by rfl) ?_
    refine zq_sld hc hH (by rfl) (7 * t + 5) (nI_add (7 * t) 5) (by omega) hL ?_
    refine z_rcs hc hH 4 (pc' := 918) (lv' := [(4, .int (nI (7 * t))), (3, .ref 78), (2, .ref 50), (1, .ref 0), (0, .ref 100)]) (st' := [.int ((nI (7 * t)) + 6), .ref 100, .int (f (7 * t + 5)), .long ((((f (7 * t + 3)).toInt64) <<< ((32 : Int32).toInt64 &&& 63)) ||| (((f (7 * t + 4)).toInt64) &&& 4294967295)), .int 0, .int (f (7 * t + 1)), .ref 0]) (μ' := μ) (by rfl) ?_
    refine zq_sld hc hH (by rfl) (7 * t + 6) (nI_add (7 * t) 6) (by omega) hL ?_
    refine zq_call0 hc (z_cx_ok hH (by rfl)) (lq_k (i := 76) (K := ak_76) rfl (by omega) (by decide) (by decide) rfl (by decide) [.ref 0, .int (f (7 * t + 1)), .int 0, .long ((((f (7 * t + 3)).toInt64) <<< ((32 : Int32).toInt64 &&& 63)) ||| (((f (7 * t + 4)).toInt64) &&& 4294967295)), .int (f (7 * t + 5)), .int (f (7 * t + 6))] μ h ⟨⟨0, by decide, rfl⟩, ⟨_, rfl, bI_top _⟩, ⟨_, rfl, by decide, by decide⟩, ⟨_, rfl, a_topj _⟩, ⟨_, rfl, bI_top _⟩, ⟨_, rfl, bI_top _⟩, trivial⟩) (by decide +kernel) (by rw [al_law]; omega) (fun r9 μ4 hq => ?_)
    obtain ⟨hl3, v9, rfl, x2, rfl, -⟩ := hq
    show Z b 922 [(4, .int (nI (7 * t))), (3, .ref 78), (2, .ref 50), (1, .ref 0), (0, .ref 100)] [.int x2] μ4
    refine z_rcs hc hH 6 (pc' := 929) (lv' := [(4, .int (nI (7 * t))), (3, .ref 78), (2, .ref 50), (1, .ref 0), (0, .ref 100)]) (st' := [.int ((nI (7 * t)) + 1), .ref 100, .ref 50]) (μ' := μ4) (by rfl) ?_
    refine zq_sld hc hH (by rfl) (7 * t + 1) (nI_add (7 * t) 1) (by omega) hL ?_
    refine z_rcs hc hH 4 (pc' := 935) (lv' := [(4, .int (nI (7 * t))), (3, .ref 78), (2, .ref 50), (1, .ref 0), (0, .ref 100)]) (st' := [.int ((nI (7 * t)) + 2), .ref 100, .int (f (7 * t + 1)), .ref 50]) (μ' := μ4) (by rfl) ?_
    refine zq_sld hc hH (by rfl) (7 * t + 2) (nI_add (7 * t) 2) (by omega) hL ?_
    refine zq_if hc hH (by rfl) (tg := 943) (by rfl) (fun h5 => ?_) (fun h5 => ?_)
    · have h5 := cm_eq9.mp h5
      refine z_rcs hc hH 5 (pc' := 949) (lv' := [(4, .int (nI (7 * t))), (3, .ref 78), (2, .ref 50), (1, .ref 0), (0, .ref 100)]) (st' := [.int ((nI (7 * t)) + 3), .ref 100, .int 0, .int (f (7 * t + 1)), .ref 50]) (μ' := μ4) (by rfl) ?_
      refine zq_sld hc hH (by rfl) (7 * t + 3) (nI_add (7 * t) 3) (by omega) hL ?_
      refine z_rcs hc hH 7 (pc' := 959) (lv' := [(4, .int (nI (7 * t))), (3, .ref 78), (2, .ref 50), (1, .ref 0), (0, .ref 100)]) (st' := [.int ((nI (7 * t)) + 4), .ref 100, .long (((f (7 * t + 3)).toInt64) <<< ((32 : Int32).toInt64 &&& 63)), .int 0, .int (f (7 * t + 1)), .ref 50]) (μ' := μ4) (by rfl) ?_
      refine zq_sld hc hH (by rfl) (7 * t + 4) (nI_add (7 * t) 4) (by omega) hL ?_
      refine z_rcs hc hH 8 (pc' := 971) (lv' := [(4, .int (nI (7 * t))), (3, .ref 78), (2, .ref 50), (1, .ref 0), (0, .ref 100)]) (st' := [.int ((nI (7 * t)) + 5), .ref 100, .long ((((f (7 * t + 3)).toInt64) <<< ((32 : Int32).toInt64 &&& 63)) ||| (((f (7 * t + 4)).toInt64) &&& 4294967295)), .int 0, .int (f (7 * t + 1)), .ref 50]) (μ' := μ4) (by rfl) ?_
      refine zq_sld hc hH (by rfl) (7 * t + 5) (nI_add (7 * t) 5) (by omega) hL ?_
      refine z_rcs hc hH 4 (pc' := 978) (lv' := [(4, .int (nI (7 * t))), (3, .ref 78), (2, .ref 50), (1, .ref 0), (0, .ref 100)]) (st' := [.int ((nI (7 * t)) + 6), .ref 100, .int (f (7 * t + 5)), .long ((((f (7 * t + 3)).toInt64) <<< ((32 : Int32).toInt64 &&& 63)) ||| (((f (7 * t + 4)).toInt64) &&& 4294967295)), .int 0, .int (f (7 * t + 1)), .ref 50]) (μ' := μ4) (by rfl) ?_
      refine zq_sld hc hH (by rfl) (7 * t + 6) (nI_add (7 * t) 6) (by omega) hL ?_
      refine zq_call0 hc (z_cx_ok hH (by rfl)) (lq_k (i := 135) (K := ak_135) rfl (by omega) (by decide) (by decide) rfl (by decide) [.ref 50, .int (f (7 * t + 1)), .int 0, .long ((((f (7 * t + 3)).toInt64) <<< ((32 : Int32).toInt64 &&& 63)) ||| (((f (7 * t + 4)).toInt64) &&& 4294967295)), .int (f (7 * t + 5)), .int (f (7 * t + 6))] μ4 hl3 ⟨⟨50, by decide, rfl⟩, ⟨_, rfl, bI_top _⟩, ⟨_, rfl, by decide, by decide⟩, ⟨_, rfl, a_topj _⟩, ⟨_, rfl, bI_top _⟩, ⟨_, rfl, bI_top _⟩, trivial⟩) (by decide +kernel) (by rw [al_law]; omega) (fun r9 μ8 hq => ?_)
      obtain ⟨hl7, v9, rfl, x6, rfl, -⟩ := hq
      show Z b 982 [(4, .int (nI (7 * t))), (3, .ref 78), (2, .ref 50), (1, .ref 0), (0, .ref 100)] [.int x6] μ8
      refine z_rcs hc hH 2 (pc' := 1037) (lv' := [(4, .int (nI (7 * t))), (3, .ref 78), (2, .ref 50), (1, .ref 0), (0, .ref 100)]) (st' := []) (μ' := μ8) (by rfl) ?_
      exact K b μ8 (by omega) (by omega) hl7
    · have h5 := cn_eq.mp h5
      refine z_rcs hc hH 6 (pc' := 949) (lv' := [(4, .int (nI (7 * t))), (3, .ref 78), (2, .ref 50), (1, .ref 0), (0, .ref 100)]) (st' := [.int ((nI (7 * t)) + 3), .ref 100, .int 1, .int (f (7 * t + 1)), .ref 50]) (μ' := μ4) (by rfl) ?_
      refine zq_sld hc hH (by rfl) (7 * t + 3) (nI_add (7 * t) 3) (by omega) hL ?_
      refine z_rcs hc hH 7 (pc' := 959) (lv' := [(4, .int (nI (7 * t))), (3, .ref 78), (2, .ref 50), (1, .ref 0), (0, .ref 100)]) (st' := [.int ((nI (7 * t)) + 4), .ref 100, .long (((f (7 * t + 3)).toInt64) <<< ((32 : Int32).toInt64 &&& 63)), .int 1, .int (f (7 * t + 1)), .ref 50]) (μ' := μ4) (by rfl) ?_
      refine zq_sld hc hH (by rfl) (7 * t + 4) (nI_add (7 * t) 4) (by omega) hL ?_
      refine z_rcs hc hH 8 (pc' := 971) (lv' := [(4, .int (nI (7 * t))), (3, .ref 78), (2, .ref 50), (1, .ref 0), (0, .ref 100)]) (st' := [.int ((nI (7 * t)) + 5), .ref 100, .long ((((f (7 * t + 3)).toInt64) <<< ((32 : Int32).toInt64 &&& 63)) ||| (((f (7 * t + 4)).toInt64) &&& 4294967295)), .int 1, .int (f (7 * t + 1)), .ref 50]) (μ' := μ4) (by rfl) ?_
      refine zq_sld hc hH (by rfl) (7 * t + 5) (nI_add (7 * t) 5) (by omega) hL ?_
      refine z_rcs hc hH 4 (pc' := 978) (lv' := [(4, .int (nI (7 * t))), (3, .ref 78), (2, .ref 50), (1, .ref 0), (0, .ref 100)]) (st' := [.int ((nI (7 * t)) + 6), .ref 100, .int (f (7 * t + 5)), .long ((((f (7 * t + 3)).toInt64) <<< ((32 : Int32).toInt64 &&& 63)) ||| (((f (7 * t + 4)).toInt64) &&& 4294967295)), .int 1, .int (f (7 * t + 1)), .ref 50]) (μ' := μ4) (by rfl) ?_
      refine zq_sld hc hH (by rfl) (7 * t + 6) (nI_add (7 * t) 6) (by omega) hL ?_
      refine zq_call0 hc (z_cx_ok hH (by rfl)) (lq_k (i := 135) (K := ak_135) rfl (by omega) (by decide) (by decide) rfl (by decide) [.ref 50, .int (f (7 * t + 1)), .int 1, .long ((((f (7 * t + 3)).toInt64) <<< ((32 : Int32).toInt64 &&& 63)) ||| (((f (7 * t + 4)).toInt64) &&& 4294967295)), .int (f (7 * t + 5)), .int (f (7 * t + 6))] μ4 hl3 ⟨⟨50, by decide, rfl⟩, ⟨_, rfl, bI_top _⟩, ⟨_, rfl, by decide, by decide⟩, ⟨_, rfl, a_topj _⟩, ⟨_, rfl, bI_top _⟩, ⟨_, rfl, bI_top _⟩, trivial⟩) (by decide +kernel) (by rw [al_law]; omega) (fun r9 μ11 hq => ?_)
      obtain ⟨hl10, v9, rfl, x9, rfl, -⟩ := hq
      show Z b 982 [(4, .int (nI (7 * t))), (3, .ref 78), (2, .ref 50), (1, .ref 0), (0, .ref 100)] [.int x9] μ11
      refine z_rcs hc hH 2 (pc' := 1037) (lv' := [(4, .int (nI (7 * t))), (3, .ref 78), (2, .ref 50), (1, .ref 0), (0, .ref 100)]) (st' := []) (μ' := μ11) (by rfl) ?_
      exact K b μ11 (by omega) (by omega) hl10
  · have h1 := cn_eq.mp h1
    refine z_rcs hc hH 6 (pc' := 889) (lv' := [(4, .int (nI (7 * t))), (3, .ref 78), (2, .ref 50), (1, .ref 0), (0, .ref 100)]) (st' := [.int ((nI (7 * t)) + 3), .ref 100, .int 1, .int (f (7 * t + 1)), .ref 0]) (μ' := μ) (by rfl) ?_
    refine zq_sld hc hH (by rfl) (7 * t + 3) (nI_add (7 * t) 3) (by omega) hL ?_
    refine z_rcs hc hH 7 (pc' := 899) (lv' := [(4, .int (nI (7 * t))), (3, .ref 78), (2, .ref 50), (1, .ref 0), (0, .ref 100)]) (st' := [.int ((nI (7 * t)) + 4), .ref 100, .long (((f (7 * t + 3)).toInt64) <<< ((32 : Int32).toInt64 &&& 63)), .int 1, .int (f (7 * t + 1)), .ref 0]) (μ' := μ) (by rfl) ?_
    refine zq_sld hc hH (by rfl) (7 * t + 4) (nI_add (7 * t) 4) (by omega) hL ?_
    refine z_rcs hc hH 8 (pc' := 911) (lv' := [(4, .int (nI (7 * t))), (3, .ref 78), (2, .ref 50), (1, .ref 0), (0, .ref 100)]) (st' := [.int ((nI (7 * t)) + 5), .ref 100, .long ((((f (7 * t + 3)).toInt64) <<< ((32 : Int32).toInt64 &&& 63)) ||| (((f (7 * t + 4)).toInt64) &&& 4294967295)), .int 1, .int (f (7 * t + 1)), .ref 0]) (μ' := μ) (by rfl) ?_
    refine zq_sld hc hH (by rfl) (7 * t + 5) (nI_add (7 * t) 5) (by omega) hL ?_
    refine z_rcs hc hH 4 (pc' := 918) (lv' := [(4, .int (nI (7 * t))), (3, .ref 78), (2, .ref 50), (1, .ref 0), (0, .ref 100)]) (st' := [.int ((nI (7 * t)) + 6), .ref 100, .int (f (7 * t + 5)), .long ((((f (7 * t + 3)).toInt64) <<< ((32 : Int32).toInt64 &&& 63)) ||| (((f (7 * t + 4)).toInt64) &&& 4294967295)), .int 1, .int (f (7 * t + 1)), .ref 0]) (μ' := μ) (by rfl) ?_
    refine zq_sld hc hH (by rfl) (7 * t + 6) (nI_add (7 * t) 6) (by omega) hL ?_
    refine zq_call0 hc (z_cx_ok hH (by rfl)) (lq_k (i := 76) (K := ak_76) rfl (by omega) (by decide) (by decide) rfl (by decide) [.ref 0, .int (f (7 * t + 1)), .int 1, .long ((((f (7 * t + 3)).toInt64) <<< ((32 : Int32).toInt64 &&& 63)) ||| (((f (7 * t + 4)).toInt64) &&& 4294967295)), .int (f (7 * t + 5)), .int (f (7 * t + 6))] μ h ⟨⟨0, by decide, rfl⟩, ⟨_, rfl, bI_top _⟩, ⟨_, rfl, by decide, by decide⟩, ⟨_, rfl, a_topj _⟩, ⟨_, rfl, bI_top _⟩, ⟨_, rfl, bI_top _⟩, trivial⟩) (by decide +kernel) (by rw [al_law]; omega) (fun r9 μ14 hq => ?_)
    obtain ⟨hl13, v9, rfl, x12, rfl, -⟩ := hq
    show Z b 922 [(4, .int (nI (7 * t))), (3, .ref 78), (2, .ref 50), (1, .ref 0), (0, .ref 100)] [.int x12] μ14
    refine z_rcs hc hH 6 (pc' := 929) (lv' := [(4, .int (nI (7 * t))), (3, .ref 78), (2, .ref 50), (1, .ref 0), (0, .ref 100)]) (st' := [.int ((nI (7 * t)) + 1), .ref 100, .ref 50]) (μ' := μ14) (by rfl) ?_
    refine zq_sld hc hH (by rfl) (7 * t + 1) (nI_add (7 * t) 1) (by omega) hL ?_
    refine z_rcs hc hH 4 (pc' := 935) (lv' := [(4, .int (nI (7 * t))), (3, .ref 78), (2, .ref 50), (1, .ref 0), (0, .ref 100)]) (st' := [.int ((nI (7 * t)) + 2), .ref 100, .int (f (7 * t + 1)), .ref 50]) (μ' := μ14) (by rfl) ?_
    refine zq_sld hc hH (by rfl) (7 * t + 2) (nI_add (7 * t) 2) (by omega) hL ?_
    refine zq_if hc hH (by rfl) (tg := 943) (by rfl) (fun h15 => ?_) (fun h15 => ?_)
    · have h15 := cm_eq9.mp h15
      refine z_rcs hc hH 5 (pc' := 949) (lv' := [(4, .int (nI (7 * t))), (3, .ref 78), (2, .ref 50), (1, .ref 0), (0, .ref 100)]) (st' := [.int ((nI (7 * t)) + 3), .ref 100, .int 0, .int (f (7 * t + 1)), .ref 50]) (μ' := μ14) (by rfl) ?_
      refine zq_sld hc hH (by rfl) (7 * t + 3) (nI_add (7 * t) 3) (by omega) hL ?_
      refine z_rcs hc hH 7 (pc' := 959) (lv' := [(4, .int (nI (7 * t))), (3, .ref 78), (2, .ref 50), (1, .ref 0), (0, .ref 100)]) (st' := [.int ((nI (7 * t)) + 4), .ref 100, .long (((f (7 * t + 3)).toInt64) <<< ((32 : Int32).toInt64 &&& 63)), .int 0, .int (f (7 * t + 1)), .ref 50]) (μ' := μ14) (by rfl) ?_
      refine zq_sld hc hH (by rfl) (7 * t + 4) (nI_add (7 * t) 4) (by omega) hL ?_
      refine z_rcs hc hH 8 (pc' := 971) (lv' := [(4, .int (nI (7 * t))), (3, .ref 78), (2, .ref 50), (1, .ref 0), (0, .ref 100)]) (st' := [.int ((nI (7 * t)) + 5), .ref 100, .long ((((f (7 * t + 3)).toInt64) <<< ((32 : Int32).toInt64 &&& 63)) ||| (((f (7 * t + 4)).toInt64) &&& 4294967295)), .int 0, .int (f (7 * t + 1)), .ref 50]) (μ' := μ14) (by rfl) ?_
      refine zq_sld hc hH (by rfl) (7 * t + 5) (nI_add (7 * t) 5) (by omega) hL ?_
      refine z_rcs hc hH 4 (pc' := 978) (lv' := [(4, .int (nI (7 * t))), (3, .ref 78), (2, .ref 50), (1, .ref 0), (0, .ref 100)]) (st' := [.int ((nI (7 * t)) + 6), .ref 100, .int (f (7 * t + 5)), .long ((((f (7 * t + 3)).toInt64) <<< ((32 : Int32).toInt64 &&& 63)) ||| (((f (7 * t + 4)).toInt64) &&& 4294967295)), .int 0, .int (f (7 * t + 1)), .ref 50]) (μ' := μ14) (by rfl) ?_
      refine zq_sld hc hH (by rfl) (7 * t + 6) (nI_add (7 * t) 6) (by omega) hL ?_
      refine zq_call0 hc (z_cx_ok hH (by rfl)) (lq_k (i := 135) (K := ak_135) rfl (by omega) (by decide) (by decide) rfl (by decide) [.ref 50, .int (f (7 * t + 1)), .int 0, .long ((((f (7 * t + 3)).toInt64) <<< ((32 : Int32).toInt64 &&& 63)) ||| (((f (7 * t + 4)).toInt64) &&& 4294967295)), .int (f (7 * t + 5)), .int (f (7 * t + 6))] μ14 hl13 ⟨⟨50, by decide, rfl⟩, ⟨_, rfl, bI_top _⟩, ⟨_, rfl, by decide, by decide⟩, ⟨_, rfl, a_topj _⟩, ⟨_, rfl, bI_top _⟩, ⟨_, rfl, bI_top _⟩, trivial⟩) (by decide +kernel) (by rw [al_law]; omega) (fun r9 μ18 hq => ?_)
      obtain ⟨hl17, v9, rfl, x16, rfl, -⟩ := hq
      show Z b 982 [(4, .int (nI (7 * t))), (3, .ref 78), (2, .ref 50), (1, .ref 0), (0, .ref 100)] [.int x16] μ18
      refine z_rcs hc hH 2 (pc' := 1037) (lv' := [(4, .int (nI (7 * t))), (3, .ref 78), (2, .ref 50), (1, .ref 0), (0, .ref 100)]) (st' := []) (μ' := μ18) (by rfl) ?_
      exact K b μ18 (by omega) (by omega) hl17
    · have h15 := cn_eq.mp h15
      refine z_rcs hc hH 6 (pc' := 949) (lv' := [(4, .int (nI (7 * t))), (3, .ref 78), (2, .ref 50), (1, .ref 0), (0, .ref 100)]) (st' := [.int ((nI (7 * t)) + 3), .ref 100, .int 1, .int (f (7 * t + 1)), .ref 50]) (μ' := μ14) (by rfl) ?_
      refine zq_sld hc hH (by rfl) (7 * t + 3) (nI_add (7 * t) 3) (by omega) hL ?_
      refine z_rcs hc hH 7 (pc' := 959) (lv' := [(4, .int (nI (7 * t))), (3, .ref 78), (2, .ref 50), (1, .ref 0), (0, .ref 100)]) (st' := [.int ((nI (7 * t)) + 4), .ref 100, .long (((f (7 * t + 3)).toInt64) <<< ((32 : Int32).toInt64 &&& 63)), .int 1, .int (f (7 * t + 1)), .ref 50]) (μ' := μ14) (by rfl) ?_
      refine zq_sld hc hH (by rfl) (7 * t + 4) (nI_add (7 * t) 4) (by omega) hL ?_
      refine z_rcs hc hH 8 (pc' := 971) (lv' := [(4, .int (nI (7 * t))), (3, .ref 78), (2, .ref 50), (1, .ref 0), (0, .ref 100)]) (st' := [.int ((nI (7 * t)) + 5), .ref 100, .long ((((f (7 * t + 3)).toInt64) <<< ((32 : Int32).toInt64 &&& 63)) ||| (((f (7 * t + 4)).toInt64) &&& 4294967295)), .int 1, .int (f (7 * t + 1)), .ref 50]) (μ' := μ14) (by rfl) ?_
      refine zq_sld hc hH (by rfl) (7 * t + 5) (nI_add (7 * t) 5) (by omega) hL ?_
      refine z_rcs hc hH 4 (pc' := 978) (lv' := [(4, .int (nI (7 * t))), (3, .ref 78), (2, .ref 50), (1, .ref 0), (0, .ref 100)]) (st' := [.int ((nI (7 * t)) + 6), .ref 100, .int (f (7 * t + 5)), .long ((((f (7 * t + 3)).toInt64) <<< ((32 : Int32).toInt64 &&& 63)) ||| (((f (7 * t + 4)).toInt64) &&& 4294967295)), .int 1, .int (f (7 * t + 1)), .ref 50]) (μ' := μ14) (by rfl) ?_
      refine zq_sld hc hH (by rfl) (7 * t + 6) (nI_add (7 * t) 6) (by omega) hL ?_
      refine zq_call0 hc (z_cx_ok hH (by rfl)) (lq_k (i := 135) (K := ak_135) rfl (by omega) (by decide) (by decide) rfl (by decide) [.ref 50, .int (f (7 * t + 1)), .int 1, .long ((((f (7 * t + 3)).toInt64) <<< ((32 : Int32).toInt64 &&& 63)) ||| (((f (7 * t + 4)).toInt64) &&& 4294967295)), .int (f (7 * t + 5)), .int (f (7 * t + 6))] μ14 hl13 ⟨⟨50, by decide, rfl⟩, ⟨_, rfl, bI_top _⟩, ⟨_, rfl, by decide, by decide⟩, ⟨_, rfl, a_topj _⟩, ⟨_, rfl, bI_top _⟩, ⟨_, rfl, bI_top _⟩, trivial⟩) (by decide +kernel) (by rw [al_law]; omega) (fun r9 μ21 hq => ?_)
      obtain ⟨hl20, v9, rfl, x19, rfl, -⟩ := hq
      show Z b 982 [(4, .int (nI (7 * t))), (3, .ref 78), (2, .ref 50), (1, .ref 0), (0, .ref 100)] [.int x19] μ21
      refine z_rcs hc hH 2 (pc' := 1037) (lv' := [(4, .int (nI (7 * t))), (3, .ref 78), (2, .ref 50), (1, .ref 0), (0, .ref 100)]) (st' := []) (μ' := μ21) (by rfl) ?_
      exact K b μ21 (by omega) (by omega) hl20
theorem lw_c24 (hd : 705 ≤ d) (hL : L ≤ 3584) (hc : z_clo (L + 1, f) mi_L_law (z_C d) Z) (hb : b + 1 ≤ 2000) (ht : 7 * t + 7 ≤ L) (h : LGm μ) (K : ∀ b' μ', b ≤ b' → b' ≤ b + 1 → LGm μ' → Z b' 1037 [(4, .int (nI (7 * t))), (3, .ref 78), (2, .ref 50), (1, .ref 0), (0, .ref 100)] [] μ') : Z b 986 [(4, .int (nI (7 * t))), (3, .ref 78), (2, .ref 50), (1, .ref 0), (0, .ref 100)] [] μ := by
  have hH := zh_L_law
  refine z_rcs hc hH 5 (pc' := 992) (lv' := [(4, .int (nI (7 * t))), (3, .ref 78), (2, .ref 50), (1, .ref 0), (0, .ref 100)]) (st' := [.int ((nI (7 * t)) + 1), .ref 100, .ref 0]) (μ' := μ) (by rfl) ?_
  refine zq_sld hc hH (by rfl) (7 * t + 1) (nI_add (7 * t) 1) (by omega) hL ?_
  refine zq_call0 hc (z_cx_ok hH (by rfl)) (lq_k (i := 77) (K := ak_77) rfl (by omega) (by decide) (by decide) rfl (by decide) [.ref 0, .int (f (7 * t + 1))] μ h ⟨⟨0, by decide, rfl⟩, ⟨_, rfl, bI_top _⟩, trivial⟩) (by decide +kernel) (by rw [al_law]; omega) (fun r9 μ3 hq => ?_)
  obtain ⟨hl2, v9, rfl, x1, rfl, -⟩ := hq
  show Z b 996 [(4, .int (nI (7 * t))), (3, .ref 78), (2, .ref 50), (1, .ref 0), (0, .ref 100)] [.int x1] μ3
  refine z_rcs hc hH 6 (pc' := 1003) (lv' := [(4, .int (nI (7 * t))), (3, .ref 78), (2, .ref 50), (1, .ref 0), (0, .ref 100)]) (st' := [.int ((nI (7 * t)) + 1), .ref 100, .ref 50]) (μ' := μ3) (by rfl) ?_
  refine zq_sld hc hH (by rfl) (7 * t + 1) (nI_add (7 * t) 1) (by omega) hL ?_
  refine zq_call0 hc (z_cx_ok hH (by rfl)) (lq_k (i := 136) (K := ak_136) rfl (by omega) (by decide) (by decide) rfl (by decide) [.ref 50, .int (f (7 * t + 1))] μ3 hl2 ⟨⟨50, by decide, rfl⟩, ⟨_, rfl, bI_top _⟩, trivial⟩) (by decide +kernel) (by rw [al_law]; omega) (fun r9 μ6 hq => ?_)
  obtain ⟨hl5, v9, rfl, x4, rfl, -⟩ := hq
  show Z b 1007 [(4, .int (nI (7 * t))), (3, .ref 78), (2, .ref 50), (1, .ref 0), (0, .ref 100)] [.int x4] μ6
  refine z_rcs hc hH 2 (pc' := 1037) (lv' := [(4, .int (nI (7 * t))), (3, .ref 78), (2, .ref 50), (1, .ref 0), (0, .ref 100)]) (st' := []) (μ' := μ6) (by rfl) ?_
  exact K b μ6 (by omega) (by omega) hl5
theorem lw_c25 (hd : 705 ≤ d) (hL : L ≤ 3584) (hc : z_clo (L + 1, f) mi_L_law (z_C d) Z) (hb : b + 1 ≤ 2000) (ht : 7 * t + 7 ≤ L) (h : LGm μ) (K : ∀ b' μ', b ≤ b' → b' ≤ b + 1 → LGm μ' → Z b' 1037 [(4, .int (nI (7 * t))), (3, .ref 78), (2, .ref 50), (1, .ref 0), (0, .ref 100)] [] μ') : Z b 1011 [(4, .int (nI (7 * t))), (3, .ref 78), (2, .ref 50), (1, .ref 0), (0, .ref 100)] [] μ := by
  have hH := zh_L_law
  refine z_rcs hc hH 1 (pc' := 1012) (lv' := [(4, .int (nI (7 * t))), (3, .ref 78), (2, .ref 50), (1, .ref 0), (0, .ref 100)]) (st' := [.ref 0]) (μ' := μ) (by rfl) ?_
  refine zq_call0 hc (z_cx_ok hH (by rfl)) (lq_k (i := 78) (K := ak_78) rfl (by omega) (by decide) (by decide) rfl (by decide) [.ref 0] μ h ⟨⟨0, by decide, rfl⟩, trivial⟩) (by decide +kernel) (by rw [al_law]; omega) (fun r9 μ3 hq => ?_)
  obtain ⟨hl2, v9, rfl, x1, rfl, -⟩ := hq
  show Z b 1015 [(4, .int (nI (7 * t))), (3, .ref 78), (2, .ref 50), (1, .ref 0), (0, .ref 100)] [.long x1] μ3
  refine z_rcs hc hH 2 (pc' := 1017) (lv' := [(4, .int (nI (7 * t))), (3, .ref 78), (2, .ref 50), (1, .ref 0), (0, .ref 100)]) (st' := [.ref 50]) (μ' := μ3) (by rfl) ?_
  refine zq_call0 hc (z_cx_ok hH (by rfl)) (lq_k (i := 137) (K := ak_137) rfl (by omega) (by decide) (by decide) rfl (by decide) [.ref 50] μ3 hl2 ⟨⟨50, by decide, rfl⟩, trivial⟩) (by decide +kernel) (by rw [al_law]; omega) (fun r9 μ6 hq => ?_)
  obtain ⟨hl5, v9, rfl, x4, rfl, -⟩ := hq
  show Z b 1020 [(4, .int (nI (7 * t))), (3, .ref 78), (2, .ref 50), (1, .ref 0), (0, .ref 100)] [.long x4] μ6
  refine z_rcs hc hH 2 (pc' := 1037) (lv' := [(4, .int (nI (7 * t))), (3, .ref 78), (2, .ref 50), (1, .ref 0), (0, .ref 100)]) (st' := []) (μ' := μ6) (by rfl) ?_
  exact K b μ6 (by omega) (by omega) hl5
theorem lw_c26 (hd : 705 ≤ d) (hL : L ≤ 3584) (hc : z_clo (L + 1, f) mi_L_law (z_C d) Z) (hb : b + 1 ≤ 2000) (ht : 7 * t + 7 ≤ L) (h : LGm μ) (K : ∀ b' μ', b ≤ b' → b' ≤ b + 1 → LGm μ' → Z b' 1037 [(4, .int (nI (7 * t))), (3, .ref 78), (2, .ref 50), (1, .ref 0), (0, .ref 100)] [] μ') : Z b 1024 [(4, .int (nI (7 * t))), (3, .ref 78), (2, .ref 50), (1, .ref 0), (0, .ref 100)] [] μ := by
  have hH := zh_L_law
  refine z_rcs hc hH 1 (pc' := 1025) (lv' := [(4, .int (nI (7 * t))), (3, .ref 78), (2, .ref 50), (1, .ref 0), (0, .ref 100)]) (st' := [.ref 0]) (μ' := μ) (by rfl) ?_
  refine zq_call0 hc (z_cx_ok hH (by rfl)) (fc_X6_deskWaits d (by omega) μ h.1.1.1) (by decide +kernel) (by rw [al_law]; omega) (fun r1 μ1 hq1 => ?_)
  obtain ⟨e1, y1, rfl⟩ := hq1
  rw [e1]
  clear e1 μ1
  show Z b 1028 [(4, .int (nI (7 * t))), (3, .ref 78), (2, .ref 50), (1, .ref 0), (0, .ref 100)] [.long y1] μ
  refine z_rcs hc hH 2 (pc' := 1030) (lv' := [(4, .int (nI (7 * t))), (3, .ref 78), (2, .ref 50), (1, .ref 0), (0, .ref 100)]) (st' := [.ref 50]) (μ' := μ) (by rfl) ?_
  refine zq_call0 hc (z_cx_ok hH (by rfl)) (lq_k (i := 138) (K := ak_138) rfl (by omega) (by decide) (by decide) rfl (by decide) [.ref 50] μ h ⟨⟨50, by decide, rfl⟩, trivial⟩) (by decide +kernel) (by rw [al_law]; omega) (fun r9 μ3 hq => ?_)
  obtain ⟨hl2, v9, rfl, x1, rfl, -⟩ := hq
  show Z b 1033 [(4, .int (nI (7 * t))), (3, .ref 78), (2, .ref 50), (1, .ref 0), (0, .ref 100)] [.long x1] μ3
  refine z_rcs hc hH 2 (pc' := 1037) (lv' := [(4, .int (nI (7 * t))), (3, .ref 78), (2, .ref 50), (1, .ref 0), (0, .ref 100)]) (st' := []) (μ' := μ3) (by rfl) ?_
  exact K b μ3 (by omega) (by omega) hl2
theorem lw_c13 (hd : 705 ≤ d) (hL : L ≤ 3584) (hc : z_clo (L + 1, f) mi_L_law (z_C d) Z) (hb : b + 1 ≤ 2000) (ht : 7 * t + 7 ≤ L) (h : LGm μ) (K : ∀ b' μ', b ≤ b' → b' ≤ b + 1 → LGm μ' → Z b' 1037 [(4, .int (nI (7 * t))), (3, .ref 78), (2, .ref 50), (1, .ref 0), (0, .ref 100)] [] μ') (hRv : ∀ μ, LGm μ → (∀ x μ', LGm μ' → Z (b + 1) 578 [(4, .int (nI (7 * t))), (3, .ref 78), (2, .ref 50), (1, .ref 0), (0, .ref 100)] [.int x] μ') → Z b 575 [(4, .int (nI (7 * t))), (3, .ref 78), (2, .ref 50), (1, .ref 0), (0, .ref 100)] [.ref 78, .int (f (7 * t + 2)), .int (f (7 * t + 1)), .ref 0] μ) (hDr : ∀ b i x y μ, Z b 1037 [(4, .int i), (3, .ref 78), (2, .ref 50), (1, .ref 0), (0, .ref 100)] [] μ → Z b 1037 [(6, .int x), (5, .int y), (4, .int i), (3, .ref 78), (2, .ref 50), (1, .ref 0), (0, .ref 100)] [] μ) : Z b 561 [(4, .int (nI (7 * t))), (3, .ref 78), (2, .ref 50), (1, .ref 0), (0, .ref 100)] [] μ := by
  have hH := zh_L_law
  refine z_rcs hc hH 5 (pc' := 567) (lv' := [(4, .int (nI (7 * t))), (3, .ref 78), (2, .ref 50), (1, .ref 0), (0, .ref 100)]) (st' := [.int ((nI (7 * t)) + 1), .ref 100, .ref 0]) (μ' := μ) (by rfl) ?_
  refine zq_sld hc hH (by rfl) (7 * t + 1) (nI_add (7 * t) 1) (by omega) hL ?_
  refine z_rcs hc hH 4 (pc' := 573) (lv' := [(4, .int (nI (7 * t))), (3, .ref 78), (2, .ref 50), (1, .ref 0), (0, .ref 100)]) (st' := [.int ((nI (7 * t)) + 2), .ref 100, .int (f (7 * t + 1)), .ref 0]) (μ' := μ) (by rfl) ?_
  refine zq_sld hc hH (by rfl) (7 * t + 2) (nI_add (7 * t) 2) (by omega) hL ?_
  refine z_rcs hc hH 1 (pc' := 575) (lv' := [(4, .int (nI (7 * t))), (3, .ref 78), (2, .ref 50), (1, .ref 0), (0, .ref 100)]) (st' := [.ref 78, .int (f (7 * t + 2)), .int (f (7 * t + 1)), .ref 0]) (μ' := μ) (by rfl) ?_
  refine hRv μ h (fun y μ1 h1 => ?_)
  refine z_rcs hc hH 6 (pc' := 586) (lv' := [(5, .int y), (4, .int (nI (7 * t))), (3, .ref 78), (2, .ref 50), (1, .ref 0), (0, .ref 100)]) (st' := [.int ((nI (7 * t)) + 1), .ref 100, .ref 50]) (μ' := μ1) (by rfl) ?_
  refine zq_sld hc hH (by rfl) (7 * t + 1) (nI_add (7 * t) 1) (by omega) hL ?_
  refine z_rcs hc hH 4 (pc' := 592) (lv' := [(5, .int y), (4, .int (nI (7 * t))), (3, .ref 78), (2, .ref 50), (1, .ref 0), (0, .ref 100)]) (st' := [.int ((nI (7 * t)) + 2), .ref 100, .int (f (7 * t + 1)), .ref 50]) (μ' := μ1) (by rfl) ?_
  refine zq_sld hc hH (by rfl) (7 * t + 2) (nI_add (7 * t) 2) (by omega) hL ?_
  refine zq_call0 hc (z_cx_ok hH (by rfl)) (lq_k (i := 128) (K := ak_128) rfl (by omega) (by decide) (by decide) rfl (by decide) [.ref 50, .int (f (7 * t + 1)), .int (f (7 * t + 2))] μ1 h1 ⟨⟨50, by decide, rfl⟩, ⟨_, rfl, bI_top _⟩, ⟨_, rfl, bI_top _⟩, trivial⟩) (by decide +kernel) (by rw [al_law]; omega) (fun r9 μ3 hq => ?_)
  obtain ⟨hl2, v9, rfl, x1, rfl, -⟩ := hq
  show Z (b + 1) 596 [(5, .int y), (4, .int (nI (7 * t))), (3, .ref 78), (2, .ref 50), (1, .ref 0), (0, .ref 100)] [.int x1] μ3
  refine z_rcs hc hH 2 (pc' := 1037) (lv' := [(6, .int x1), (5, .int y), (4, .int (nI (7 * t))), (3, .ref 78), (2, .ref 50), (1, .ref 0), (0, .ref 100)]) (st' := []) (μ' := μ3) (by rfl) ?_
  refine hDr _ _ _ _ _ ?_
  exact K (b + 1) μ3 (by omega) (by omega) hl2
theorem lw_c19 (hd : 705 ≤ d) (hL : L ≤ 3584) (hc : z_clo (L + 1, f) mi_L_law (z_C d) Z) (hb : b + 1 ≤ 2000) (ht : 7 * t + 7 ≤ L) (h : LGm μ) (K : ∀ b' μ', b ≤ b' → b' ≤ b + 1 → LGm μ' → Z b' 1037 [(4, .int (nI (7 * t))), (3, .ref 78), (2, .ref 50), (1, .ref 0), (0, .ref 100)] [] μ') (hRv : ∀ μ, LGm μ → (∀ x μ', LGm μ' → Z (b + 1) 761 [(4, .int (nI (7 * t))), (3, .ref 78), (2, .ref 50), (1, .ref 0), (0, .ref 100)] [.int x] μ') → Z b 758 [(4, .int (nI (7 * t))), (3, .ref 78), (2, .ref 50), (1, .ref 0), (0, .ref 100)] [.ref 78, .int (f (7 * t + 1)), .ref 0] μ) (hDr : ∀ b i x y μ, Z b 1037 [(4, .int i), (3, .ref 78), (2, .ref 50), (1, .ref 0), (0, .ref 100)] [] μ → Z b 1037 [(6, .int x), (5, .int y), (4, .int i), (3, .ref 78), (2, .ref 50), (1, .ref 0), (0, .ref 100)] [] μ) : Z b 750 [(4, .int (nI (7 * t))), (3, .ref 78), (2, .ref 50), (1, .ref 0), (0, .ref 100)] [] μ := by
  have hH := zh_L_law
  refine z_rcs hc hH 5 (pc' := 756) (lv' := [(4, .int (nI (7 * t))), (3, .ref 78), (2, .ref 50), (1, .ref 0), (0, .ref 100)]) (st' := [.int ((nI (7 * t)) + 1), .ref 100, .ref 0]) (μ' := μ) (by rfl) ?_
  refine zq_sld hc hH (by rfl) (7 * t + 1) (nI_add (7 * t) 1) (by omega) hL ?_
  refine z_rcs hc hH 1 (pc' := 758) (lv' := [(4, .int (nI (7 * t))), (3, .ref 78), (2, .ref 50), (1, .ref 0), (0, .ref 100)]) (st' := [.ref 78, .int (f (7 * t + 1)), .ref 0]) (μ' := μ) (by rfl) ?_
  refine hRv μ h (fun y μ1 h1 => ?_)
  refine z_rcs hc hH 6 (pc' := 769) (lv' := [(5, .int y), (4, .int (nI (7 * t))), (3, .ref 78), (2, .ref 50), (1, .ref 0), (0, .ref 100)]) (st' := [.int ((nI (7 * t)) + 1), .ref 100, .ref 50]) (μ' := μ1) (by rfl) ?_
  refine zq_sld hc hH (by rfl) (7 * t + 1) (nI_add (7 * t) 1) (by omega) hL ?_
  refine zq_call0 hc (z_cx_ok hH (by rfl)) (lq_k (i := 134) (K := ak_134) rfl (by omega) (by decide) (by decide) rfl (by decide) [.ref 50, .int (f (7 * t + 1))] μ1 h1 ⟨⟨50, by decide, rfl⟩, ⟨_, rfl, bI_top _⟩, trivial⟩) (by decide +kernel) (by rw [al_law]; omega) (fun r9 μ3 hq => ?_)
  obtain ⟨hl2, v9, rfl, x1, rfl, -⟩ := hq
  show Z (b + 1) 773 [(5, .int y), (4, .int (nI (7 * t))), (3, .ref 78), (2, .ref 50), (1, .ref 0), (0, .ref 100)] [.int x1] μ3
  refine z_rcs hc hH 2 (pc' := 1037) (lv' := [(6, .int x1), (5, .int y), (4, .int (nI (7 * t))), (3, .ref 78), (2, .ref 50), (1, .ref 0), (0, .ref 100)]) (st' := []) (μ' := μ3) (by rfl) ?_
  refine hDr _ _ _ _ _ ?_
  exact K (b + 1) μ3 (by omega) (by omega) hl2
theorem lw_sw {C : Nat → List Value → zM → zQ → Prop} {lv : zL} (hc : z_clo (L + 1, f) mi_L_law C Z) (w : Int32) (K : ∀ n, n < 27 → Z b ([164, 221, 274, 287, 324, 349, 374, 399, 424, 437, 462, 475, 512, 561, 601, 626, 663, 700, 725, 750, 778, 789, 826, 863, 986, 1011, 1024].getD n 0) lv [] μ) (Kd : Z b 1037 lv [] μ) : Z b 40 lv [.int (w &&& 31)] μ := by
  have hH := zh_L_law
  have hw : a_bi (a_and aT (31, 31)) (w &&& 31) := a_and_ok (bI_top _) ⟨by decide, by decide⟩
  have hw : bI 0 31 (w &&& 31) := hw
  obtain ⟨n, hn, e⟩ := a_nI (x := w &&& 31) (n := 32) hw.1 (by have := hw.2; omega) (by decide)
  rw [e]
  match n, hn with
  | 0, _ => exact zq_st hc hH (by rfl) (pc' := 164) (lv' := lv) (st' := []) (μ' := μ) (by rfl) (K 0 (by decide))
  | 1, _ => exact zq_st hc hH (by rfl) (pc' := 221) (lv' := lv) (st' := []) (μ' := μ) (by rfl) (K 1 (by decide))
  | 2, _ => exact zq_st hc hH (by rfl) (pc' := 274) (lv' := lv) (st' := []) (μ' := μ) (by rfl) (K 2 (by decide))
  | 3, _ => exact zq_st hc hH (by rfl) (pc' := 287) (lv' := lv) (st' := []) (μ' := μ) (by rfl) (K 3 (by decide))
  | 4, _ => exact zq_st hc hH (by rfl) (pc' := 324) (lv' := lv) (st' := []) (μ' := μ) (by rfl) (K 4 (by decide))
  | 5, _ => exact zq_st hc hH (by rfl) (pc' := 349) (lv' := lv) (st' := []) (μ' := μ) (by rfl) (K 5 (by decide))
  | 6, _ => exact zq_st hc hH (by rfl) (pc' := 374) (lv' := lv) (st' := []) (μ' := μ) (by rfl) (K 6 (by decide))
  | 7, _ => exact zq_st hc hH (by rfl) (pc' := 399) (lv' := lv) (st' := []) (μ' := μ) (by rfl) (K 7 (by decide))
  | 8, _ => exact zq_st hc hH (by rfl) (pc' := 424) (lv' := lv) (st' := []) (μ' := μ) (by rfl) (K 8 (by decide))
  | 9, _ => exact zq_st hc hH (by rfl) (pc' := 437) (lv' := lv) (st' := []) (μ' := μ) (by rfl) (K 9 (by decide))
  | 10, _ => exact zq_st hc hH (by rfl) (pc' := 462) (lv' := lv) (st' := []) (μ' := μ) (by rfl) (K 10 (by decide))
  | 11, _ => exact zq_st hc hH (by rfl) (pc' := 475) (lv' := lv) (st' := []) (μ' := μ) (by rfl) (K 11 (by decide))
  | 12, _ => exact zq_st hc hH (by rfl) (pc' := 512) (lv' := lv) (st' := []) (μ' := μ) (by rfl) (K 12 (by decide))
  | 13, _ => exact zq_st hc hH (by rfl) (pc' := 561) (lv' := lv) (st' := []) (μ' := μ) (by rfl) (K 13 (by decide))
  | 14, _ => exact zq_st hc hH (by rfl) (pc' := 601) (lv' := lv) (st' := []) (μ' := μ) (by rfl) (K 14 (by decide))
  | 15, _ => exact zq_st hc hH (by rfl) (pc' := 626) (lv' := lv) (st' := []) (μ' := μ) (by rfl) (K 15 (by decide))
  | 16, _ => exact zq_st hc hH (by rfl) (pc' := 663) (lv' := lv) (st' := []) (μ' := μ) (by rfl) (K 16 (by decide))
  | 17, _ => exact zq_st hc hH (by rfl) (pc' := 700) (lv' := lv) (st' := []) (μ' := μ) (by rfl) (K 17 (by decide))
  | 18, _ => exact zq_st hc hH (by rfl) (pc' := 725) (lv' := lv) (st' := []) (μ' := μ) (by rfl) (K 18 (by decide))
  | 19, _ => exact zq_st hc hH (by rfl) (pc' := 750) (lv' := lv) (st' := []) (μ' := μ) (by rfl) (K 19 (by decide))
  | 20, _ => exact zq_st hc hH (by rfl) (pc' := 778) (lv' := lv) (st' := []) (μ' := μ) (by rfl) (K 20 (by decide))
  | 21, _ => exact zq_st hc hH (by rfl) (pc' := 789) (lv' := lv) (st' := []) (μ' := μ) (by rfl) (K 21 (by decide))
  | 22, _ => exact zq_st hc hH (by rfl) (pc' := 826) (lv' := lv) (st' := []) (μ' := μ) (by rfl) (K 22 (by decide))
  | 23, _ => exact zq_st hc hH (by rfl) (pc' := 863) (lv' := lv) (st' := []) (μ' := μ) (by rfl) (K 23 (by decide))
  | 24, _ => exact zq_st hc hH (by rfl) (pc' := 986) (lv' := lv) (st' := []) (μ' := μ) (by rfl) (K 24 (by decide))
  | 25, _ => exact zq_st hc hH (by rfl) (pc' := 1011) (lv' := lv) (st' := []) (μ' := μ) (by rfl) (K 25 (by decide))
  | 26, _ => exact zq_st hc hH (by rfl) (pc' := 1024) (lv' := lv) (st' := []) (μ' := μ) (by rfl) (K 26 (by decide))
  | 27, _ => exact zq_st hc hH (by rfl) (pc' := 1037) (lv' := lv) (st' := []) (μ' := μ) (by rfl) Kd
  | 28, _ => exact zq_st hc hH (by rfl) (pc' := 1037) (lv' := lv) (st' := []) (μ' := μ) (by rfl) Kd
  | 29, _ => exact zq_st hc hH (by rfl) (pc' := 1037) (lv' := lv) (st' := []) (μ' := μ) (by rfl) Kd
  | 30, _ => exact zq_st hc hH (by rfl) (pc' := 1037) (lv' := lv) (st' := []) (μ' := μ) (by rfl) Kd
  | 31, _ => exact zq_st hc hH (by rfl) (pc' := 1037) (lv' := lv) (st' := []) (μ' := μ) (by rfl) Kd
  | n + 32, h9 => exact absurd h9 (by omega)
theorem le_L7 {L t : Nat} (hL : L ≤ 3584) (ht : t ≤ 600) (h : ¬ (Int32.ofNat L - 7 < nI (7 * t))) : 7 * t + 7 ≤ L := by
  have e : bI ((L : Int) - 7) ((L : Int) - 7) (Int32.ofNat L - 7) := bI_sub rfl (show bI (L : Int) (L : Int) (nI L) from bd_nI (by omega) ⟨by omega, by omega⟩) (c := 7) (d := 7) ⟨by decide, by decide⟩ ⟨by omega, by omega, by omega, by omega⟩
  rw [Int32.lt_iff_toInt_lt, nI_toInt (by omega)] at h
  have := e.1
  have := e.2
  omega
theorem law_small (hd : 705 ≤ d) (hL : L ≤ 3584) (hc : z_clo (L + 1, f) mi_L_law (z_C d) Z) (b0 : Nat) (hb0 : b0 ≤ 1400) (hEnd : ∀ b lv μ, b ≤ 2000 → Z b 1044 lv [.int 1] μ)
    (hRv : ∀ b t p0 p1 μ, b + 1 ≤ 2000 → LGm μ → (∀ x μ', LGm μ' → Z (b + 1) 578 [(4, .int (nI (7 * t))), (3, .ref 78), (2, .ref 50), (1, .ref 0), (0, .ref 100)] [.int x] μ') → Z b 575 [(4, .int (nI (7 * t))), (3, .ref 78), (2, .ref 50), (1, .ref 0), (0, .ref 100)] [.ref 78, .int p1, .int p0, .ref 0] μ)
    (hWl : ∀ b t p0 μ, b + 1 ≤ 2000 → LGm μ → (∀ x μ', LGm μ' → Z (b + 1) 761 [(4, .int (nI (7 * t))), (3, .ref 78), (2, .ref 50), (1, .ref 0), (0, .ref 100)] [.int x] μ') → Z b 758 [(4, .int (nI (7 * t))), (3, .ref 78), (2, .ref 50), (1, .ref 0), (0, .ref 100)] [.ref 78, .int p0, .ref 0] μ)
    (hDr : ∀ b i x y μ, Z b 1037 [(4, .int i), (3, .ref 78), (2, .ref 50), (1, .ref 0), (0, .ref 100)] [] μ → Z b 1037 [(6, .int x), (5, .int y), (4, .int i), (3, .ref 78), (2, .ref 50), (1, .ref 0), (0, .ref 100)] [] μ) : ∀ n t, t + n = 513 → ∀ b μ, b ≤ b0 + t → LGm μ → Z b 23 [(4, .int (nI (7 * t))), (3, .ref 78), (2, .ref 50), (1, .ref 0), (0, .ref 100)] [] μ := by
  have hH := zh_L_law
  intro n
  induction n with
  | zero =>
    intro t ht b μ hb h
    refine z_rcs hc hH 5 (pc' := 30) (lv' := [(4, .int (nI (7 * t))), (3, .ref 78), (2, .ref 50), (1, .ref 0), (0, .ref 100)]) (st' := [.int (Int32.ofNat L - 7), .int (nI (7 * t))]) (μ' := μ) (by rfl) ?_
    refine zq_ic hc hH (by rfl) (tg := 1043) (by rfl) (fun h1 => ?_) (fun h1 => ?_)
    · exact z_rcs hc hH 1 (pc' := 1044) (lv' := [(4, .int (nI (7 * t))), (3, .ref 78), (2, .ref 50), (1, .ref 0), (0, .ref 100)]) (st' := [.int 1]) (μ' := μ) (by rfl) (hEnd _ _ _ (by omega))
    · have h1 := le_L7 hL (by omega) (cn_gt.mp h1)
      omega
  | succ n ih =>
    intro t ht b μ hb h
    refine z_rcs hc hH 5 (pc' := 30) (lv' := [(4, .int (nI (7 * t))), (3, .ref 78), (2, .ref 50), (1, .ref 0), (0, .ref 100)]) (st' := [.int (Int32.ofNat L - 7), .int (nI (7 * t))]) (μ' := μ) (by rfl) ?_
    refine zq_ic hc hH (by rfl) (tg := 1043) (by rfl) (fun h1 => ?_) (fun h1 => ?_)
    · exact z_rcs hc hH 1 (pc' := 1044) (lv' := [(4, .int (nI (7 * t))), (3, .ref 78), (2, .ref 50), (1, .ref 0), (0, .ref 100)]) (st' := [.int 1]) (μ' := μ) (by rfl) (hEnd _ _ _ (by omega))
    · have h1 := le_L7 hL (by omega) (cn_gt.mp h1)
      have K : ∀ b' μ', b ≤ b' → b' ≤ b + 1 → LGm μ' → Z b' 1037 [(4, .int (nI (7 * t))), (3, .ref 78), (2, .ref 50), (1, .ref 0), (0, .ref 100)] [] μ' := fun b' μ' q1 q2 q3 => by
        refine z_rcs hc hH 2 (pc' := 23) (lv' := [(4, .int (nI (7 * t) + 7)), (3, .ref 78), (2, .ref 50), (1, .ref 0), (0, .ref 100)]) (st' := []) (μ' := μ') (by rfl) ?_
        rw [show nI (7 * t) + 7 = nI (7 * (t + 1)) from (nI_add (7 * t) 7)]
        exact ih (t + 1) (by omega) b' μ' (by omega) q3
      refine z_rcs hc hH 2 (pc' := 36) (lv' := [(4, .int (nI (7 * t))), (3, .ref 78), (2, .ref 50), (1, .ref 0), (0, .ref 100)]) (st' := [.int (nI (7 * t)), .ref 100]) (μ' := μ) (by rfl) ?_
      refine zq_sld hc hH (by rfl) (7 * t) rfl (by omega) hL ?_
      refine z_rcs hc hH 2 (pc' := 40) (lv' := [(4, .int (nI (7 * t))), (3, .ref 78), (2, .ref 50), (1, .ref 0), (0, .ref 100)]) (st' := [.int (f (7 * t) &&& 31)]) (μ' := μ) (by rfl) ?_
      refine lw_sw hc _ (fun i hi => ?_) (K b μ (Nat.le_refl _) (by omega) h)
      match i, hi with
      | 0, _ => exact lw_c0 hd hL hc (by omega) h1 h K
      | 1, _ => exact lw_c1 hd hL hc (by omega) h1 h K
      | 2, _ => exact lw_c2 hd hL hc (by omega) h1 h K
      | 3, _ => exact lw_c3 hd hL hc (by omega) h1 h K
      | 4, _ => exact lw_c4 hd hL hc (by omega) h1 h K
      | 5, _ => exact lw_c5 hd hL hc (by omega) h1 h K
      | 6, _ => exact lw_c6 hd hL hc (by omega) h1 h K
      | 7, _ => exact lw_c7 hd hL hc (by omega) h1 h K
      | 8, _ => exact lw_c8 hd hL hc (by omega) h1 h K
      | 9, _ => exact lw_c9 hd hL hc (by omega) h1 h K
      | 10, _ => exact lw_c10 hd hL hc (by omega) h1 h K
      | 11, _ => exact lw_c11 hd hL hc (by omega) h1 h K
      | 12, _ => exact lw_c12 hd hL hc (by omega) h1 h K
      | 13, _ => exact lw_c13 hd hL hc (by omega) h1 h K (fun μ q1 q2 => hRv b t _ _ μ (by omega) q1 q2) hDr
      | 14, _ => exact lw_c14 hd hL hc (by omega) h1 h K
      | 15, _ => exact lw_c15 hd hL hc (by omega) h1 h K
      | 16, _ => exact lw_c16 hd hL hc (by omega) h1 h K
      | 17, _ => exact lw_c17 hd hL hc (by omega) h1 h K
      | 18, _ => exact lw_c18 hd hL hc (by omega) h1 h K
      | 19, _ => exact lw_c19 hd hL hc (by omega) h1 h K (fun μ q1 q2 => hWl b t _ μ (by omega) q1 q2) hDr
      | 20, _ => exact lw_c20 hd hL hc (by omega) h1 h K
      | 21, _ => exact lw_c21 hd hL hc (by omega) h1 h K
      | 22, _ => exact lw_c22 hd hL hc (by omega) h1 h K
      | 23, _ => exact lw_c23 hd hL hc (by omega) h1 h K
      | 24, _ => exact lw_c24 hd hL hc (by omega) h1 h K
      | 25, _ => exact lw_c25 hd hL hc (by omega) h1 h K
      | 26, _ => exact lw_c26 hd hL hc (by omega) h1 h K
      | i + 27, h9 => exact absurd h9 (by omega)
end LAW
