/-! compare: the reference -/
set_option maxRecDepth 8000
def cpG (μ : zM) : Int64 := (μ.2.1 50 24) ||| ((μ.2.1 50 12) &&& ((lb true 42) ||| (lb true 43)))
def cpP (μ : zM) (b1 : Bool) : Int64 := bif b1 then (μ.2.1 50 25) ||| ((μ.2.1 50 12) &&& ((((lb true 4) ||| (lb true 5)) ||| (lb true 6)) ||| (lb true 7))) else (bif decide ((lg_cmp ((μ.2.1 50 12) &&& (lb true 1)) 0) = 0) then (((μ.2.1 50 25) ||| ((μ.2.1 50 12) &&& ((((lb true 4) ||| (lb true 5)) ||| (lb true 6)) ||| (lb true 7)))) ||| ((μ.2.1 50 12) &&& ((lb true 1) ||| (lb true 2)))) ||| ((μ.2.1 50 12) &&& (lb true 0)) else ((μ.2.1 50 25) ||| ((μ.2.1 50 12) &&& ((((lb true 4) ||| (lb true 5)) ||| (lb true 6)) ||| (lb true 7)))) ||| ((μ.2.1 50 12) &&& ((lb true 1) ||| (lb true 2)))) ||| (lb (!(decide ((μ.1 50 11) = 0))) 3)
def hnG (g : Int64) : Int32 := (((((((((((0 + (((g >>> ((32 : Int32).toInt64 &&& 63)) &&& 1).toInt32)) + (((g >>> ((33 : Int32).toInt64 &&& 63)) &&& 1).toInt32)) + (((g >>> ((34 : Int32).toInt64 &&& 63)) &&& 1).toInt32)) + (((g >>> ((35 : Int32).toInt64 &&& 63)) &&& 1).toInt32)) + (((g >>> ((36 : Int32).toInt64 &&& 63)) &&& 1).toInt32)) + (((g >>> ((37 : Int32).toInt64 &&& 63)) &&& 1).toInt32)) + (((g >>> ((38 : Int32).toInt64 &&& 63)) &&& 1).toInt32)) + (((g >>> ((39 : Int32).toInt64 &&& 63)) &&& 1).toInt32)) + (((g >>> ((40 : Int32).toInt64 &&& 63)) &&& 1).toInt32)) + (((g >>> ((41 : Int32).toInt64 &&& 63)) &&& 1).toInt32)) + (((g >>> ((42 : Int32).toInt64 &&& 63)) &&& 1).toInt32)) + (((g >>> ((43 : Int32).toInt64 &&& 63)) &&& 1).toInt32)
def hnP (p : Int64) (b1 : Bool) : Int32 := (((((((((((((((((((((((((((((0 + (nB ((decide ((lg_cmp ((p >>> ((0 : Int32).toInt64 &&& 63)) &&& 1) 1) = 0)) && (!b1)))) + (bif decide ((lg_cmp ((p >>> ((1 : Int32).toInt64 &&& 63)) &&& 1) 1) = 0) then bif b1 then (0 : Int32) else 2 else 0)) + (nB ((decide ((lg_cmp ((p >>> ((2 : Int32).toInt64 &&& 63)) &&& 1) 1) = 0)) && (!b1)))) + (nB ((decide ((lg_cmp ((p >>> ((3 : Int32).toInt64 &&& 63)) &&& 1) 1) = 0)) && (!b1)))) + (nB (decide ((lg_cmp ((p >>> ((4 : Int32).toInt64 &&& 63)) &&& 1) 1) = 0)))) + (nB (decide ((lg_cmp ((p >>> ((5 : Int32).toInt64 &&& 63)) &&& 1) 1) = 0)))) + (nB (decide ((lg_cmp ((p >>> ((6 : Int32).toInt64 &&& 63)) &&& 1) 1) = 0)))) + (nB (decide ((lg_cmp ((p >>> ((7 : Int32).toInt64 &&& 63)) &&& 1) 1) = 0)))) + (nB (decide ((lg_cmp ((p >>> ((8 : Int32).toInt64 &&& 63)) &&& 1) 1) = 0)))) + (nB ((decide ((lg_cmp ((p >>> ((9 : Int32).toInt64 &&& 63)) &&& 1) 1) = 0)) && (!b1)))) + (nB ((decide ((lg_cmp ((p >>> ((10 : Int32).toInt64 &&& 63)) &&& 1) 1) = 0)) && (!b1)))) + (nB (decide ((lg_cmp ((p >>> ((11 : Int32).toInt64 &&& 63)) &&& 1) 1) = 0)))) + (nB (decide ((lg_cmp ((p >>> ((12 : Int32).toInt64 &&& 63)) &&& 1) 1) = 0)))) + (nB (decide ((lg_cmp ((p >>> ((13 : Int32).toInt64 &&& 63)) &&& 1) 1) = 0)))) + (nB (decide ((lg_cmp ((p >>> ((14 : Int32).toInt64 &&& 63)) &&& 1) 1) = 0)))) + (nB (decide ((lg_cmp ((p >>> ((15 : Int32).toInt64 &&& 63)) &&& 1) 1) = 0)))) + (bif decide ((lg_cmp ((p >>> ((16 : Int32).toInt64 &&& 63)) &&& 1) 1) = 0) then (2 : Int32) else 0)) + (bif decide ((lg_cmp ((p >>> ((17 : Int32).toInt64 &&& 63)) &&& 1) 1) = 0) then bif b1 then (1 : Int32) else 2 else 0)) + (bif decide ((lg_cmp ((p >>> ((18 : Int32).toInt64 &&& 63)) &&& 1) 1) = 0) then bif b1 then (1 : Int32) else 2 else 0)) + (bif decide ((lg_cmp ((p >>> ((19 : Int32).toInt64 &&& 63)) &&& 1) 1) = 0) then (2 : Int32) else 0)) + (bif decide ((lg_cmp ((p >>> ((20 : Int32).toInt64 &&& 63)) &&& 1) 1) = 0) then (2 : Int32) else 0)) + (bif decide ((lg_cmp ((p >>> ((21 : Int32).toInt64 &&& 63)) &&& 1) 1) = 0) then (2 : Int32) else 0)) + (bif decide ((lg_cmp ((p >>> ((22 : Int32).toInt64 &&& 63)) &&& 1) 1) = 0) then (2 : Int32) else 0)) + (bif decide ((lg_cmp ((p >>> ((23 : Int32).toInt64 &&& 63)) &&& 1) 1) = 0) then bif b1 then (1 : Int32) else 2 else 0)) + (bif decide ((lg_cmp ((p >>> ((24 : Int32).toInt64 &&& 63)) &&& 1) 1) = 0) then (2 : Int32) else 0)) + (bif decide ((lg_cmp ((p >>> ((25 : Int32).toInt64 &&& 63)) &&& 1) 1) = 0) then (2 : Int32) else 0)) + (bif decide ((lg_cmp ((p >>> ((26 : Int32).toInt64 &&& 63)) &&& 1) 1) = 0) then bif b1 then (2 : Int32) else 3 else 0)) + (bif decide ((lg_cmp ((p >>> ((27 : Int32).toInt64 &&& 63)) &&& 1) 1) = 0) then bif b1 then (2 : Int32) else 3 else 0)) + (bif decide ((lg_cmp ((p >>> ((28 : Int32).toInt64 &&& 63)) &&& 1) 1) = 0) then bif b1 then (0 : Int32) else 3 else 0)) + (bif decide ((lg_cmp ((p >>> ((29 : Int32).toInt64 &&& 63)) &&& 1) 1) = 0) then bif b1 then (5 : Int32) else 6 else 0)
def bsH (μ : zM) (x2 f : Int32) : Int32 := bif decide ((x2 + (μ.1 50 10)) ≤ 4) then if (f <<< ((2 + (x2 + (μ.1 50 10))) &&& 31)) < 2000 then f <<< ((2 + (x2 + (μ.1 50 10))) &&& 31) else 2000 else bif decide ((x2 + (μ.1 50 10)) = 5) then (2000 : Int32) else bif decide (8 ≤ (x2 + (μ.1 50 10))) then bif decide (11 ≤ (x2 + (μ.1 50 10))) then bif decide (13 ≤ (x2 + (μ.1 50 10))) then (8000 : Int32) else 6000 else 4000 else 3000
def cOf (μ : zM) (b1 : Bool) : Q4 := bif decide (lg_cmp (cpG μ) 0 = 0) then (bsH μ (hnP (cpP μ b1) b1) (μ.1 50 23), hnP (cpP μ b1) b1 + μ.1 50 10, μ.1 50 23, cpP μ b1) else (8000 * hnG (cpG μ), hnG (cpG μ) * 13, μ.1 50 23, cpG μ)
abbrev mdC : List (Nat × Nat) := [(50, 13), (50, 14), (50, 15), (50, 17), (50, 24), (50, 25)]
def CC (μ μ' : zM) (b1 : Bool) : Prop := a_Fz mdC μ μ' ∧ BS (fun y => y = cOf μ b1 ∧ ¬ y.2.2.2 = 0) (bq μ) (bq μ')
theorem Fz_GP {μ : zM} {g p : Int64} : a_Fz mdC μ (mGP μ g p (μ.1 50 23)) := by
  have h : mGP μ g p (μ.1 50 23) = z_uj (z_uj μ 50 24 g) 50 25 p := by
    have := mGP_rf μ
    rw [← mGP_p (p := μ.2.1 50 25), ← mGP_g (g := μ.2.1 50 24), this]
  rw [h]
  exact a_Fz_uj (a_Fz_uj (a_Fz_rf _ _) (by decide)) (by decide)
theorem CC_of {μ μ' : zM} {g p : Int64} {b1 : Bool} {x : Q4} (h : CQ (mGP μ g p (μ.1 50 23)) μ' x) (e : cOf μ b1 = x) (h0 : ¬ x.2.2.2 = 0) : CC μ μ' b1 := by
  refine ⟨a_Fz_tr (by decide) Fz_GP h.1, BS.iff (S := fun y => y = x) (b0 := bq μ) h.2 (fun y => ⟨fun z => ⟨z.trans e.symm, by rw [z]; exact h0⟩, fun z => z.1.trans e⟩)⟩
theorem lg_c0 {x y : Int64} : lg_cmp x y = 0 ↔ x = y := by
  unfold lg_cmp
  by_cases h : x > y
  · rw [if_pos h]
    exact ⟨fun q => absurd q (by decide), fun q => by rw [q] at h; exact absurd h (Int64.lt_irrefl)⟩
  · rw [if_neg h]
    by_cases h2 : x = y
    · rw [if_pos h2]; exact ⟨fun _ => h2, fun _ => rfl⟩
    · rw [if_neg h2]; exact ⟨fun q => absurd q (by decide), fun q => absurd q h2⟩
theorem fb_X7_compare (d : Nat) (hd : 2 ≤ d) (μ : zM) (b1 : Bool) : z_C d mi_X7_compare [.ref 50, .int (nB b1)] μ (fun r μ' => r = none ∧ CC μ μ' b1) := by
  refine z_C_in (by decide) (by omega) (fun d' Z ed hc hr => ?_)
  have hH : zH mi_X7_compare zc_X7_compare 79 7 7 := ⟨by rfl, by rfl, by rfl, by rfl⟩
  have c1 : decide (lg_cmp (cpG μ) 0 = 0) = false → Z 0 150 [(2, .int 0), (0, .ref 50), (1, .int (nB b1))] [] (mGP μ (cpG μ) (cpP μ b1) (μ.1 50 23)) := fun hz => by
    refine cq150 d' Z (by omega) μ hc b1 _ _ _ ?_
    refine cq154_0 d' Z (by omega) μ hc _ _ _ _ ?_
    refine cq154_1 d' Z (by omega) μ hc _ _ _ _ _ ?_
    refine cq154_2 d' Z (by omega) μ hc _ _ _ _ _ ?_
    refine cq154_3 d' Z (by omega) μ hc _ _ _ _ _ ?_
    refine cq154_4 d' Z (by omega) μ hc _ _ _ _ _ ?_
    refine cq154_5 d' Z (by omega) μ hc _ _ _ _ _ ?_
    refine cq154_6 d' Z (by omega) μ hc _ _ _ _ _ ?_
    refine cq154_7 d' Z (by omega) μ hc _ _ _ _ _ ?_
    refine cq154_8 d' Z (by omega) μ hc _ _ _ _ _ ?_
    refine cq154_9 d' Z (by omega) μ hc _ _ _ _ _ ?_
    refine cq154_10 d' Z (by omega) μ hc _ _ _ _ _ ?_
    refine cq154_11 d' Z (by omega) μ hc _ _ _ _ _ ?_
    refine cq154_12 d' Z (by omega) μ hc _ _ _ _ _ ?_
    exact cp339a d' Z (mGP μ (cpG μ) (cpP μ b1) (μ.1 50 23)) _ _ _ _ _ hc (fun b pc lv st μ' v k1 k2 hq => hr b pc lv st μ' v k1 k2 ⟨hq.1, CC_of (b1 := b1) hq.2 (by unfold cOf; rw [hz]; rfl) (fun z => of_decide_eq_false hz (lg_c0.mpr z))⟩)
  have c2 : decide (lg_cmp (cpG μ) 0 = 0) = true → Z 0 200 [(2, .int 0), (0, .ref 50), (1, .int (nB b1))] [] (mGP μ (cpG μ) (cpP μ b1) (μ.1 50 23)) := fun hz => by
    refine cq200 d' Z (by omega) μ hc b1 _ _ _ ?_
    refine cq203_0 d' Z (by omega) μ hc _ _ _ _ ?_
    refine cq203_1 d' Z (by omega) μ hc _ _ _ _ _ ?_
    refine cq203_2 d' Z (by omega) μ hc _ _ _ _ _ ?_
    refine cq203_3 d' Z (by omega) μ hc _ _ _ _ _ ?_
    refine cq203_4 d' Z (by omega) μ hc _ _ _ _ _ ?_
    refine cq203_5 d' Z (by omega) μ hc _ _ _ _ _ ?_
    refine cq203_6 d' Z (by omega) μ hc _ _ _ _ _ ?_
    refine cq203_7 d' Z (by omega) μ hc _ _ _ _ _ ?_
    refine cq203_8 d' Z (by omega) μ hc _ _ _ _ _ ?_
    refine cq203_9 d' Z (by omega) μ hc _ _ _ _ _ ?_
    refine cq203_10 d' Z (by omega) μ hc _ _ _ _ _ ?_
    refine cq203_11 d' Z (by omega) μ hc _ _ _ _ _ ?_
    refine cq203_12 d' Z (by omega) μ hc _ _ _ _ _ ?_
    refine cq203_13 d' Z (by omega) μ hc _ _ _ _ _ ?_
    refine cq203_14 d' Z (by omega) μ hc _ _ _ _ _ ?_
    refine cq203_15 d' Z (by omega) μ hc _ _ _ _ _ ?_
    refine cq203_16 d' Z (by omega) μ hc _ _ _ _ _ ?_
    refine cq203_17 d' Z (by omega) μ hc _ _ _ _ _ ?_
    refine cq203_18 d' Z (by omega) μ hc _ _ _ _ _ ?_
    refine cq203_19 d' Z (by omega) μ hc _ _ _ _ _ ?_
    refine cq203_20 d' Z (by omega) μ hc _ _ _ _ _ ?_
    refine cq203_21 d' Z (by omega) μ hc _ _ _ _ _ ?_
    refine cq203_22 d' Z (by omega) μ hc _ _ _ _ _ ?_
    refine cq203_23 d' Z (by omega) μ hc _ _ _ _ _ ?_
    refine cq203_24 d' Z (by omega) μ hc _ _ _ _ _ ?_
    refine cq203_25 d' Z (by omega) μ hc _ _ _ _ _ ?_
    refine cq203_26 d' Z (by omega) μ hc _ _ _ _ _ ?_
    refine cq203_27 d' Z (by omega) μ hc _ _ _ _ _ ?_
    refine cq203_28 d' Z (by omega) μ hc _ _ _ _ _ ?_
    refine cq203_29 d' Z (by omega) μ hc _ _ _ _ _ ?_
    refine cq203_30 d' Z (by omega) μ hc _ _ _ _ _ ?_
    show Z 0 249 [(4, .long (cpP μ b1)), (6, .int 30), (2, .int (hnP (cpP μ b1) b1)), (0, .ref 50), (1, .int (nB b1))] [] (mGP μ (cpG μ) (cpP μ b1) (μ.1 50 23))
    refine z_rcs hc hH 4 (pc' := 255) (lv' := [(4, .long (cpP μ b1)), (6, .int 30), (2, .int (hnP (cpP μ b1) b1)), (0, .ref 50), (1, .int (nB b1))]) (st' := [.int (lg_cmp (cpP μ b1) 0)]) (μ' := mGP μ (cpG μ) (cpP μ b1) (μ.1 50 23)) (by rfl) ?_
    refine zq_if hc hH (by rfl) (tg := 259) (by rfl) (fun h1 => ?_) (fun h1 => ?_)
    · have h1 : (decide ((lg_cmp (cpP μ b1) 0) = 0)) = false := decide_eq_false (cm_ne.mp h1)
      refine cq259 d' Z (by omega) μ hc _ _ _ _ _ ?_
      exact cp339b d' Z (mGP μ (cpG μ) (cpP μ b1) (μ.1 50 23)) _ _ _ _ _ hc (fun b pc lv st μ' v k1 k2 hq => hr b pc lv st μ' v k1 k2 ⟨hq.1, CC_of (b1 := b1) hq.2 (by unfold cOf; rw [hz]; rfl) (fun z => of_decide_eq_false h1 (lg_c0.mpr z))⟩)
    · have h1 : (decide ((lg_cmp (cpP μ b1) 0) = 0)) = true := decide_eq_true (cn_ne.mp h1)
      exact hr 0 258 _ _ _ none (by decide +kernel) (by rfl) (⟨rfl, Fz_GP, BS_rf (b := bq μ) (fun x hx => hx.2 (by rw [hx.1]; unfold cOf; rw [hz]; exact lg_c0.mp (of_decide_eq_true h1)))⟩)
  refine zJ (μ := mGP μ (μ.2.1 50 24) (μ.2.1 50 25) (μ.1 50 23)) ?_ rfl rfl (mGP_rf μ)
  refine cq0 d' Z (by omega) μ hc b1 _ _ _ ?_
  show Z 0 141 [(2, .int 0), (0, .ref 50), (1, .int (nB b1))] [] (mGP μ (cpG μ) (cpP μ b1) (μ.1 50 23))
  refine z_rcs hc hH 4 (pc' := 147) (lv' := [(2, .int 0), (0, .ref 50), (1, .int (nB b1))]) (st' := [.int (lg_cmp (cpG μ) 0)]) (μ' := mGP μ (cpG μ) (cpP μ b1) (μ.1 50 23)) (by rfl) ?_
  refine zq_if hc hH (by rfl) (tg := 200) (by rfl) (fun h1 => ?_) (fun h1 => ?_)
  · have h1 : (decide ((lg_cmp (cpG μ) 0) = 0)) = true := decide_eq_true (cm_eq9.mp h1)
    exact c2 h1
  · have h1 : (decide ((lg_cmp (cpG μ) 0) = 0)) = false := decide_eq_false (cn_eq.mp h1)
    exact c1 h1
