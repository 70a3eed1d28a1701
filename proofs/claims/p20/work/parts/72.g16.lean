/-! the game: value of the reference -/
set_option maxRecDepth 8000
theorem TD9.sm {μ μ1 : zM} {i : Nat} (h : TD9 μ i μ1) : SMj μ μ1 := fun r k hr => ⟨h.2.1 r k (by omega), by rw [h.2.2]⟩
theorem SM_51 {μ μ1 : zM} {k : Nat} {x : Int32} (h : SMj μ μ1) : SMj μ (z_ui μ1 51 k x) := fun r k hr => ⟨(ui_o (by first | decide | omega)).trans (h r k hr).1, (h r k hr).2⟩
noncomputable def wdM (dl x : Int32) : Int32 := ((x - dl) + 4) - ((x - dl) + 4) / 4 * 4
theorem fx_wind (d : Nat) (hd : 1 ≤ d) (μ : zM) (dl x : Int32) (h : μ.1 50 40 = dl) : z_C d mi_X7_windOf [.ref 50, .int x] μ (zR μ (.int (wdM dl x))) := by
  subst h; exact gm_windOf d hd μ x
theorem fx_left (d : Nat) (hd : 1 ≤ d) (μ : zM) (a b : Int32) (h1 : μ.1 50 47 = a) (h2 : μ.1 50 46 = b) : z_C d mi_X7_left [.ref 50] μ (zR μ (.int ((122 - a) - b))) := by
  subst h1; subst h2; exact fc_X7_left d hd μ
noncomputable abbrev lfM (μ : zM) : Int32 := (122 - (μ.1 50 47)) - (μ.1 50 46)
noncomputable def w1h (w : Nat → Nat) (c : Nat) (dr : Bool) : Nat → Nat := bif dr then w else ad1 w c
noncomputable def dAs (μ : zM) (s : Nat) (w : Nat → Nat) (W : Nat → Nat) (q p : Nat) : Int32 := ofv (nI (w (bhd (nI (W p))).toNatClampNeg)) (fun i => μ.1 62 (4 * s + i)) (fun i => μ.1 63 (4 * s + i)) (bhd (nI (W p))) q
theorem gm_value0 (d : Nat) (hd : 698 ≤ d) (μ : zM) (hH0 : a_H μ) (s c : Nat) (hs4 : s < 4) (hc34 : c < 34) (w : Nat → Nat) (q : Nat) (sL lL : Nat → Nat) (hM : HM μ s w q sL lL) (f : Nat) (hf4 : f ≤ 4) (hf : μ.1 50 47 = nI f) (W : Nat → Nat) (hW : ∀ p, 126 ≤ p → p < 136 → μ.1 59 p = nI (W p) ∧ W p < 34) : z_C d mi_X7_value [.ref 50, .int (nI s), .int (nI c), .int 0] μ (fun r μ' => r = none ∧ a_H μ' ∧ SMj μ μ' ∧ (¬ μ'.1 50 13 = 0 → μ'.1 50 18 = 1) ∧ ∃ κ, KM κ (ad1 w c) q sL lL (nI c) false (((((0 ||| (lb (decide ((μ.1 67 s) = 1)) 0)) ||| (lb (decide ((μ.1 67 s) = 2)) 1)) ||| (lb (!(decide ((μ.1 69 s) = 0))) 2)) ||| (lb ((decide ((μ.1 50 44) = 2)) && (decide ((lfM μ) = 0))) 5)) ||| (lb (decide ((μ.1 50 44) = 3)) 7)) (wdM (μ.1 50 40) (nI s)) (μ.1 50 41) (deF (dAs μ s (ad1 w c) W q) (!(decide ((μ.1 67 s) ≤ 0))) (f + 1)) ∧ BS (SR κ (ad1 w c) q sL lL) (0, 0, 0, 0) (bq μ')) := by
  refine z_C_in (by decide) (by omega) (fun d' Z ed hc hr => ?_)
  have hH : zH mi_X7_value zt_X7_value 79 7 6 := hh_X7_value
  refine z_rcs hc hH 2 (pc' := 2) (lv' := [(0, .ref 50), (1, .int (nI s)), (2, .int (nI c)), (3, .int 0)]) (st' := [.int (nI s), .ref 50]) (μ' := μ) (by rfl) ?_
  refine zq_call hc (z_cx_ok hH (by rfl)) (gm_takeH d' (by omega) μ hH0 s q hs4 hM.2.2.1 hM.2.1) (by decide +kernel) (fun r9 μ1 hq9 => ?_)
  obtain ⟨⟨rfl, hT⟩, hH1⟩ := hq9
  have h51 : μ1.1 51 c = nI (w c) := by rw [hT.1 c hc34]; exact (hM.1 c hc34).1
  have hTs := hT.sm
  show Z 0 5 [(0, .ref 50), (1, .int (nI s)), (2, .int (nI c)), (3, .int 0)] [] μ1
  refine z_rcs hc hH 3 (pc' := 10) (lv' := [(0, .ref 50), (1, .int (nI s)), (2, .int (nI c)), (3, .int 0)]) (st' := [.ref 50]) (μ' := μ1) (by rfl) ?_
  refine zq_gfr hc hH (by rfl) (ci := 6) (f := 1) (q := 51) (by rfl) (by decide +kernel) (by rfl) (by decide +kernel) ?_
  refine z_rcs hc hH 2 (pc' := 15) (lv' := [(0, .ref 50), (1, .int (nI s)), (2, .int (nI c)), (3, .int 0)]) (st' := [.int (nI c), .ref 51, .int (nI c), .ref 51]) (μ' := μ1) (by rfl) ?_
  refine zq_iald hc hH (by rfl) 34 (oka_i (by decide +kernel)) (vp_in_nI (by omega) (by decide)) ?_
  rw [nI_clamp (by omega)]
  rw [h51]
  refine z_rcs hc hH 2 (pc' := 18) (lv' := [(0, .ref 50), (1, .int (nI s)), (2, .int (nI c)), (3, .int 0)]) (st' := [.int ((nI (w c)) + 1), .int (nI c), .ref 51]) (μ' := μ1) (by rfl) ?_
  refine zq_iast hc hH (by rfl) 34 (oka_i (by decide +kernel)).2 (vp_in_nI (by omega) (by decide)) ?_
  rw [nI_clamp (by omega)]
  show Z 0 19 [(0, .ref 50), (1, .int (nI s)), (2, .int (nI c)), (3, .int 0)] [] (z_ui μ1 51 c ((nI (w c)) + 1))
  refine z_rcs0 hc hH 3 (pc' := 23) (lv' := [(4, .long 0), (0, .ref 50), (1, .int (nI s)), (2, .int (nI c)), (3, .int 0)]) (st' := [.ref 50]) (by rfl) ?_
  refine zq_gfr hc hH (by rfl) (ci := 6) (f := 35) (q := 67) (by rfl) (by decide +kernel) (by rfl) (by decide +kernel) ?_
  refine z_rcs0 hc hH 1 (pc' := 27) (lv' := [(4, .long 0), (0, .ref 50), (1, .int (nI s)), (2, .int (nI c)), (3, .int 0)]) (st' := [.int (nI s), .ref 67]) (by rfl) ?_
  refine zq_iald hc hH (by rfl) 4 (oka_i (by decide +kernel)) (vp_in_nI (by omega) (by decide)) ?_
  rw [nI_clamp (by omega)]
  rw [ui_o (by first | decide | omega), (hTs 67 s (by omega)).1]
  refine z_rcs0 hc hH 1 (pc' := 29) (lv' := [(4, .long 0), (0, .ref 50), (1, .int (nI s)), (2, .int (nI c)), (3, .int 0)]) (st' := [.int 1, .int (μ.1 67 s)]) (by rfl) ?_
  have hJ1 : Z 0 41 [(4, .long (0 ||| (lb (decide ((μ.1 67 s) = 1)) 0))), (0, .ref 50), (1, .int (nI s)), (2, .int (nI c)), (3, .int 0)] [] (z_ui μ1 51 c ((nI (w c)) + 1)) := by
    refine z_rcs0 hc hH 1 (pc' := 42) (lv' := [(4, .long (0 ||| (lb (decide ((μ.1 67 s) = 1)) 0))), (0, .ref 50), (1, .int (nI s)), (2, .int (nI c)), (3, .int 0)]) (st' := [.ref 50]) (by rfl) ?_
    refine zq_gfr hc hH (by rfl) (ci := 6) (f := 35) (q := 67) (by rfl) (by decide +kernel) (by rfl) (by decide +kernel) ?_
    refine z_rcs0 hc hH 1 (pc' := 46) (lv' := [(4, .long (0 ||| (lb (decide ((μ.1 67 s) = 1)) 0))), (0, .ref 50), (1, .int (nI s)), (2, .int (nI c)), (3, .int 0)]) (st' := [.int (nI s), .ref 67]) (by rfl) ?_
    refine zq_iald hc hH (by rfl) 4 (oka_i (by decide +kernel)) (vp_in_nI (by omega) (by decide)) ?_
    rw [nI_clamp (by omega)]
    rw [ui_o (by first | decide | omega), (hTs 67 s (by omega)).1]
    refine z_rcs0 hc hH 1 (pc' := 48) (lv' := [(4, .long (0 ||| (lb (decide ((μ.1 67 s) = 1)) 0))), (0, .ref 50), (1, .int (nI s)), (2, .int (nI c)), (3, .int 0)]) (st' := [.int 2, .int (μ.1 67 s)]) (by rfl) ?_
    have hJ2 : Z 0 60 [(4, .long ((0 ||| (lb (decide ((μ.1 67 s) = 1)) 0)) ||| (lb (decide ((μ.1 67 s) = 2)) 1))), (0, .ref 50), (1, .int (nI s)), (2, .int (nI c)), (3, .int 0)] [] (z_ui μ1 51 c ((nI (w c)) + 1)) := by
      refine z_rcs0 hc hH 1 (pc' := 61) (lv' := [(4, .long ((0 ||| (lb (decide ((μ.1 67 s) = 1)) 0)) ||| (lb (decide ((μ.1 67 s) = 2)) 1))), (0, .ref 50), (1, .int (nI s)), (2, .int (nI c)), (3, .int 0)]) (st' := [.ref 50]) (by rfl) ?_
      refine zq_gfr hc hH (by rfl) (ci := 6) (f := 37) (q := 69) (by rfl) (by decide +kernel) (by rfl) (by decide +kernel) ?_
      refine z_rcs0 hc hH 1 (pc' := 65) (lv' := [(4, .long ((0 ||| (lb (decide ((μ.1 67 s) = 1)) 0)) ||| (lb (decide ((μ.1 67 s) = 2)) 1))), (0, .ref 50), (1, .int (nI s)), (2, .int (nI c)), (3, .int 0)]) (st' := [.int (nI s), .ref 69]) (by rfl) ?_
      refine zq_bald hc hH (by rfl) 4 (by decide +kernel) (vp_in_nI (by omega) (by decide)) ?_
      rw [nI_clamp (by omega)]
      rw [ui_o (by first | decide | omega), (hTs 69 s (by omega)).1]
      have hJ3 : Z 0 78 [(4, .long (((0 ||| (lb (decide ((μ.1 67 s) = 1)) 0)) ||| (lb (decide ((μ.1 67 s) = 2)) 1)) ||| (lb (!(decide ((μ.1 69 s) = 0))) 2))), (0, .ref 50), (1, .int (nI s)), (2, .int (nI c)), (3, .int 0)] [] (z_ui μ1 51 c ((nI (w c)) + 1)) := by
        refine z_rcs0 hc hH 5 (pc' := 110) (lv' := [(4, .long (((0 ||| (lb (decide ((μ.1 67 s) = 1)) 0)) ||| (lb (decide ((μ.1 67 s) = 2)) 1)) ||| (lb (!(decide ((μ.1 69 s) = 0))) 2))), (0, .ref 50), (1, .int (nI s)), (2, .int (nI c)), (3, .int 0)]) (st' := [.ref 50]) (by rfl) ?_
        refine zq_gfi hc hH (by rfl) (ci := 6) (f := 44) (by rfl) (by decide +kernel) (by rfl) ?_
        rw [ui_o (by first | decide | omega), (hTs 50 44 (by omega)).1]
        refine z_rcs0 hc hH 1 (pc' := 114) (lv' := [(4, .long (((0 ||| (lb (decide ((μ.1 67 s) = 1)) 0)) ||| (lb (decide ((μ.1 67 s) = 2)) 1)) ||| (lb (!(decide ((μ.1 69 s) = 0))) 2))), (0, .ref 50), (1, .int (nI s)), (2, .int (nI c)), (3, .int 0)]) (st' := [.int 2, .int (μ.1 50 44)]) (by rfl) ?_
        have hJ4 : Z 0 133 [(4, .long ((((0 ||| (lb (decide ((μ.1 67 s) = 1)) 0)) ||| (lb (decide ((μ.1 67 s) = 2)) 1)) ||| (lb (!(decide ((μ.1 69 s) = 0))) 2)) ||| (lb ((decide ((μ.1 50 44) = 2)) && (decide ((lfM μ) = 0))) 5))), (0, .ref 50), (1, .int (nI s)), (2, .int (nI c)), (3, .int 0)] [] (z_ui μ1 51 c ((nI (w c)) + 1)) := by
          refine z_rcs0 hc hH 5 (pc' := 159) (lv' := [(4, .long ((((0 ||| (lb (decide ((μ.1 67 s) = 1)) 0)) ||| (lb (decide ((μ.1 67 s) = 2)) 1)) ||| (lb (!(decide ((μ.1 69 s) = 0))) 2)) ||| (lb ((decide ((μ.1 50 44) = 2)) && (decide ((lfM μ) = 0))) 5))), (0, .ref 50), (1, .int (nI s)), (2, .int (nI c)), (3, .int 0)]) (st' := [.ref 50]) (by rfl) ?_
          refine zq_gfi hc hH (by rfl) (ci := 6) (f := 44) (by rfl) (by decide +kernel) (by rfl) ?_
          rw [ui_o (by first | decide | omega), (hTs 50 44 (by omega)).1]
          refine z_rcs0 hc hH 1 (pc' := 163) (lv' := [(4, .long ((((0 ||| (lb (decide ((μ.1 67 s) = 1)) 0)) ||| (lb (decide ((μ.1 67 s) = 2)) 1)) ||| (lb (!(decide ((μ.1 69 s) = 0))) 2)) ||| (lb ((decide ((μ.1 50 44) = 2)) && (decide ((lfM μ) = 0))) 5))), (0, .ref 50), (1, .int (nI s)), (2, .int (nI c)), (3, .int 0)]) (st' := [.int 3, .int (μ.1 50 44)]) (by rfl) ?_
          have hJ5 : Z 0 176 [(4, .long (((((0 ||| (lb (decide ((μ.1 67 s) = 1)) 0)) ||| (lb (decide ((μ.1 67 s) = 2)) 1)) ||| (lb (!(decide ((μ.1 69 s) = 0))) 2)) ||| (lb ((decide ((μ.1 50 44) = 2)) && (decide ((lfM μ) = 0))) 5)) ||| (lb (decide ((μ.1 50 44) = 3)) 7))), (0, .ref 50), (1, .int (nI s)), (2, .int (nI c)), (3, .int 0)] [] (z_ui μ1 51 c ((nI (w c)) + 1)) := by
            refine z_rcs0 hc hH 10 (pc' := 254) (lv' := [(4, .long (((((0 ||| (lb (decide ((μ.1 67 s) = 1)) 0)) ||| (lb (decide ((μ.1 67 s) = 2)) 1)) ||| (lb (!(decide ((μ.1 69 s) = 0))) 2)) ||| (lb ((decide ((μ.1 50 44) = 2)) && (decide ((lfM μ) = 0))) 5)) ||| (lb (decide ((μ.1 50 44) = 3)) 7))), (0, .ref 50), (1, .int (nI s)), (2, .int (nI c)), (3, .int 0)]) (st' := [.int (nI s), .ref 50, .long (((((0 ||| (lb (decide ((μ.1 67 s) = 1)) 0)) ||| (lb (decide ((μ.1 67 s) = 2)) 1)) ||| (lb (!(decide ((μ.1 69 s) = 0))) 2)) ||| (lb ((decide ((μ.1 50 44) = 2)) && (decide ((lfM μ) = 0))) 5)) ||| (lb (decide ((μ.1 50 44) = 3)) 7)), .int 0, .int (nI c), .ref 50]) (by rfl) ?_
            refine zq_call hc (z_cx_ok hH (by rfl)) (fx_wind d' (by omega) (z_ui μ1 51 c ((nI (w c)) + 1)) (μ.1 50 40) (nI s) (by rw [ui_o (by first | decide | omega), (hTs 50 40 (by omega)).1])) (by decide +kernel) (fun r9 μ9 hq => ?_)
            obtain ⟨hμ9, rfl⟩ := hq
            rw [hμ9]
            clear hμ9 μ9
            show Z 0 257 [(4, .long (((((0 ||| (lb (decide ((μ.1 67 s) = 1)) 0)) ||| (lb (decide ((μ.1 67 s) = 2)) 1)) ||| (lb (!(decide ((μ.1 69 s) = 0))) 2)) ||| (lb ((decide ((μ.1 50 44) = 2)) && (decide ((lfM μ) = 0))) 5)) ||| (lb (decide ((μ.1 50 44) = 3)) 7))), (0, .ref 50), (1, .int (nI s)), (2, .int (nI c)), (3, .int 0)] [.int (wdM (μ.1 50 40) (nI s)), .long (((((0 ||| (lb (decide ((μ.1 67 s) = 1)) 0)) ||| (lb (decide ((μ.1 67 s) = 2)) 1)) ||| (lb (!(decide ((μ.1 69 s) = 0))) 2)) ||| (lb ((decide ((μ.1 50 44) = 2)) && (decide ((lfM μ) = 0))) 5)) ||| (lb (decide ((μ.1 50 44) = 3)) 7)), .int 0, .int (nI c), .ref 50] _
            refine z_rcs0 hc hH 1 (pc' := 258) (lv' := [(4, .long (((((0 ||| (lb (decide ((μ.1 67 s) = 1)) 0)) ||| (lb (decide ((μ.1 67 s) = 2)) 1)) ||| (lb (!(decide ((μ.1 69 s) = 0))) 2)) ||| (lb ((decide ((μ.1 50 44) = 2)) && (decide ((lfM μ) = 0))) 5)) ||| (lb (decide ((μ.1 50 44) = 3)) 7))), (0, .ref 50), (1, .int (nI s)), (2, .int (nI c)), (3, .int 0)]) (st' := [.ref 50, .int (wdM (μ.1 50 40) (nI s)), .long (((((0 ||| (lb (decide ((μ.1 67 s) = 1)) 0)) ||| (lb (decide ((μ.1 67 s) = 2)) 1)) ||| (lb (!(decide ((μ.1 69 s) = 0))) 2)) ||| (lb ((decide ((μ.1 50 44) = 2)) && (decide ((lfM μ) = 0))) 5)) ||| (lb (decide ((μ.1 50 44) = 3)) 7)), .int 0, .int (nI c), .ref 50]) (by rfl) ?_
            refine zq_gfi hc hH (by rfl) (ci := 6) (f := 41) (by rfl) (by decide +kernel) (by rfl) ?_
            rw [ui_o (by first | decide | omega), (hTs 50 41 (by omega)).1]
            refine z_rcs0 hc hH 2 (pc' := 263) (lv' := [(4, .long (((((0 ||| (lb (decide ((μ.1 67 s) = 1)) 0)) ||| (lb (decide ((μ.1 67 s) = 2)) 1)) ||| (lb (!(decide ((μ.1 69 s) = 0))) 2)) ||| (lb ((decide ((μ.1 50 44) = 2)) && (decide ((lfM μ) = 0))) 5)) ||| (lb (decide ((μ.1 50 44) = 3)) 7))), (0, .ref 50), (1, .int (nI s)), (2, .int (nI c)), (3, .int 0)]) (st' := [.ref 50, .ref 50, .int (μ.1 50 41), .int (wdM (μ.1 50 40) (nI s)), .long (((((0 ||| (lb (decide ((μ.1 67 s) = 1)) 0)) ||| (lb (decide ((μ.1 67 s) = 2)) 1)) ||| (lb (!(decide ((μ.1 69 s) = 0))) 2)) ||| (lb ((decide ((μ.1 50 44) = 2)) && (decide ((lfM μ) = 0))) 5)) ||| (lb (decide ((μ.1 50 44) = 3)) 7)), .int 0, .int (nI c), .ref 50]) (by rfl) ?_
            refine zq_gfr hc hH (by rfl) (ci := 6) (f := 35) (q := 67) (by rfl) (by decide +kernel) (by rfl) (by decide +kernel) ?_
            refine z_rcs0 hc hH 1 (pc' := 267) (lv' := [(4, .long (((((0 ||| (lb (decide ((μ.1 67 s) = 1)) 0)) ||| (lb (decide ((μ.1 67 s) = 2)) 1)) ||| (lb (!(decide ((μ.1 69 s) = 0))) 2)) ||| (lb ((decide ((μ.1 50 44) = 2)) && (decide ((lfM μ) = 0))) 5)) ||| (lb (decide ((μ.1 50 44) = 3)) 7))), (0, .ref 50), (1, .int (nI s)), (2, .int (nI c)), (3, .int 0)]) (st' := [.int (nI s), .ref 67, .ref 50, .int (μ.1 50 41), .int (wdM (μ.1 50 40) (nI s)), .long (((((0 ||| (lb (decide ((μ.1 67 s) = 1)) 0)) ||| (lb (decide ((μ.1 67 s) = 2)) 1)) ||| (lb (!(decide ((μ.1 69 s) = 0))) 2)) ||| (lb ((decide ((μ.1 50 44) = 2)) && (decide ((lfM μ) = 0))) 5)) ||| (lb (decide ((μ.1 50 44) = 3)) 7)), .int 0, .int (nI c), .ref 50]) (by rfl) ?_
            refine zq_iald hc hH (by rfl) 4 (oka_i (by decide +kernel)) (vp_in_nI (by omega) (by decide)) ?_
            rw [nI_clamp (by omega)]
            rw [ui_o (by first | decide | omega), (hTs 67 s (by omega)).1]
            have hJ6 : Z 0 276 [(4, .long (((((0 ||| (lb (decide ((μ.1 67 s) = 1)) 0)) ||| (lb (decide ((μ.1 67 s) = 2)) 1)) ||| (lb (!(decide ((μ.1 69 s) = 0))) 2)) ||| (lb ((decide ((μ.1 50 44) = 2)) && (decide ((lfM μ) = 0))) 5)) ||| (lb (decide ((μ.1 50 44) = 3)) 7))), (0, .ref 50), (1, .int (nI s)), (2, .int (nI c)), (3, .int 0)] [.int (nB (!(decide ((μ.1 67 s) ≤ 0)))), .ref 50, .int (μ.1 50 41), .int (wdM (μ.1 50 40) (nI s)), .long (((((0 ||| (lb (decide ((μ.1 67 s) = 1)) 0)) ||| (lb (decide ((μ.1 67 s) = 2)) 1)) ||| (lb (!(decide ((μ.1 69 s) = 0))) 2)) ||| (lb ((decide ((μ.1 50 44) = 2)) && (decide ((lfM μ) = 0))) 5)) ||| (lb (decide ((μ.1 50 44) = 3)) 7)), .int 0, .int (nI c), .ref 50] (z_ui μ1 51 c ((nI (w c)) + 1)) := by
              have hH2 : a_H (z_ui μ1 51 c ((nI (w c)) + 1)) := a_H_ui (r := 51) hH1 (show bI _ _ _ from bI_top _)
              refine zq_call hc (z_cx_ok hH (by rfl)) (gm_dearH d' (by omega) (z_ui μ1 51 c ((nI (w c)) + 1)) hH2 (!(decide ((μ.1 67 s) ≤ 0))) q f hM.2.2.1 (by rw [ui_o (by decide)]; exact hT.2.1) hf4 (by rw [ui_o (by first | decide | omega), (hTs 50 47 (by omega)).1]; exact hf) W (fun p h1 h2 => by rw [ui_o (by first | decide | omega), (hTs 59 p (by omega)).1]; exact hW p h1 h2)) (by decide +kernel) (fun r9 μ2 hq9 => ?_)
              obtain ⟨⟨rfl, hD⟩, hH3⟩ := hq9
              have eD : deF (dA (z_ui μ1 51 c ((nI (w c)) + 1)) W q) (!(decide ((μ.1 67 s) ≤ 0))) (f + 1) = deF (dAs μ s (ad1 w c) W q) (!(decide ((μ.1 67 s) ≤ 0))) (f + 1) := deF_cg _ (fun p h1 h2 => by
                unfold dA dAs
                have e7 : ∀ k, k < 34 → (z_ui μ1 51 c ((nI (w c)) + 1)).1 51 k = nI (ad1 w c k) := fun k hk => by
                  unfold ad1
                  by_cases e : k = c
                  · rw [if_pos e, e, ui_s]; exact nI_s1 _
                  · rw [if_neg e, ui_k e, hT.1 k hk]; exact (hM.1 k hk).1
                rw [e7 _ (in_lt (bhd_in _ (hW p h1 (by omega)).2)), show (z_ui μ1 51 c ((nI (w c)) + 1)).1 52 = μ1.1 52 from funext fun k => ui_o (by decide), show (z_ui μ1 51 c ((nI (w c)) + 1)).1 53 = μ1.1 53 from funext fun k => ui_o (by decide)]
                exact ofv_cg q (fun i hi => hT.2.2.1 i hi))
              rw [eD]
              show Z 0 279 [(4, .long (((((0 ||| (lb (decide ((μ.1 67 s) = 1)) 0)) ||| (lb (decide ((μ.1 67 s) = 2)) 1)) ||| (lb (!(decide ((μ.1 69 s) = 0))) 2)) ||| (lb ((decide ((μ.1 50 44) = 2)) && (decide ((lfM μ) = 0))) 5)) ||| (lb (decide ((μ.1 50 44) = 3)) 7))), (0, .ref 50), (1, .int (nI s)), (2, .int (nI c)), (3, .int 0)] [.int (deF (dAs μ s (ad1 w c) W q) (!(decide ((μ.1 67 s) ≤ 0))) (f + 1)), .int (μ.1 50 41), .int (wdM (μ.1 50 40) (nI s)), .long (((((0 ||| (lb (decide ((μ.1 67 s) = 1)) 0)) ||| (lb (decide ((μ.1 67 s) = 2)) 1)) ||| (lb (!(decide ((μ.1 69 s) = 0))) 2)) ||| (lb ((decide ((μ.1 50 44) = 2)) && (decide ((lfM μ) = 0))) 5)) ||| (lb (decide ((μ.1 50 44) = 3)) 7)), .int 0, .int (nI c), .ref 50] μ2
              have hw2 : RW μ2 51 (ad1 w c) := fun k hk => by
                rw [hD.2.1 51 k (by decide)]
                show (z_ui μ1 51 c ((nI (w c)) + 1)).1 51 k = nI (if k = c then w k + 1 else w k) ∧ (if k = c then w k + 1 else w k) ≤ 5
                have := (hM.1 k hk).2
                by_cases e : k = c
                · rw [if_pos e, e, ui_s]; exact ⟨nI_s1 _, by rw [← e]; omega⟩
                · rw [if_neg e, ui_k e, hT.1 k hk]; exact ⟨(hM.1 k hk).1, by omega⟩
              have e42 : μ2.1 50 4 = nI q := by rw [hD.2.1 50 4 (by decide), ui_o (by decide)]; exact hT.2.1
              have hL2 : ∀ j, j < q → μ2.1 52 j = nI (sL j) ∧ sL j ≤ 3 ∧ μ2.1 53 j = nI (lL j) ∧ lL j < 34 := fun j hj => by
                have h5 := hM.2.2.2 j hj
                rw [hD.2.1 52 j (by decide), hD.2.1 53 j (by decide), ui_o (by decide), ui_o (by decide), (hT.2.2.1 j hj).1, (hT.2.2.1 j hj).2]
                exact ⟨h5.1, h5.2.1, h5.2.2.1, h5.2.2.2.1⟩
              refine zq_call hc (z_cx_ok hH (by rfl)) (S_full d' (by decide +kernel) (by rw [show rg mi_X7_reckon 0 = 0 from by decide +kernel]; exact trivial) (fr_X7_reckon d' (by omega) μ2 (ad1 w c) q hM.2.2.1 hw2 e42 sL lL hL2 hH3 (nI c) (wdM (μ.1 50 40) (nI s)) (μ.1 50 41) (deF (dAs μ s (ad1 w c) W q) (!(decide ((μ.1 67 s) ≤ 0))) (f + 1)) false (((((0 ||| (lb (decide ((μ.1 67 s) = 1)) 0)) ||| (lb (decide ((μ.1 67 s) = 2)) 1)) ||| (lb (!(decide ((μ.1 69 s) = 0))) 2)) ||| (lb ((decide ((μ.1 50 44) = 2)) && (decide ((lfM μ) = 0))) 5)) ||| (lb (decide ((μ.1 50 44) = 3)) 7)))) (by decide +kernel) (fun r9 μ3 hq9 => ?_)
              obtain ⟨⟨rfl, hH4, hF4, hK4⟩, hfu⟩ := hq9
              show Z 0 282 [(4, .long (((((0 ||| (lb (decide ((μ.1 67 s) = 1)) 0)) ||| (lb (decide ((μ.1 67 s) = 2)) 1)) ||| (lb (!(decide ((μ.1 69 s) = 0))) 2)) ||| (lb ((decide ((μ.1 50 44) = 2)) && (decide ((lfM μ) = 0))) 5)) ||| (lb (decide ((μ.1 50 44) = 3)) 7))), (0, .ref 50), (1, .int (nI s)), (2, .int (nI c)), (3, .int 0)] [] μ3
              exact hr 0 282 _ _ _ none (by decide +kernel) (by rfl) (⟨rfl, hH4, SM_tr (SM_51 hTs) (SM_tr hD.sm (SM_fz hF4 (by decide))), fun h9 => hfu.resolve_left h9, hK4⟩)
            refine zq_if hc hH (by rfl) (tg := 275) (by rfl) (fun h7 => ?_) (fun h7 => ?_)
            · have h7 : (decide ((μ.1 67 s) ≤ 0)) = true := decide_eq_true (cm_le.mp h7)
              refine z_rcs hc hH 1 (pc' := 276) (lv' := [(4, .long (((((0 ||| (lb (decide ((μ.1 67 s) = 1)) 0)) ||| (lb (decide ((μ.1 67 s) = 2)) 1)) ||| (lb (!(decide ((μ.1 69 s) = 0))) 2)) ||| (lb ((decide ((μ.1 50 44) = 2)) && (decide ((lfM μ) = 0))) 5)) ||| (lb (decide ((μ.1 50 44) = 3)) 7))), (0, .ref 50), (1, .int (nI s)), (2, .int (nI c)), (3, .int 0)]) (st' := [.int 0, .ref 50, .int (μ.1 50 41), .int (wdM (μ.1 50 40) (nI s)), .long (((((0 ||| (lb (decide ((μ.1 67 s) = 1)) 0)) ||| (lb (decide ((μ.1 67 s) = 2)) 1)) ||| (lb (!(decide ((μ.1 69 s) = 0))) 2)) ||| (lb ((decide ((μ.1 50 44) = 2)) && (decide ((lfM μ) = 0))) 5)) ||| (lb (decide ((μ.1 50 44) = 3)) 7)), .int 0, .int (nI c), .ref 50]) (μ' := z_ui μ1 51 c ((nI (w c)) + 1)) (by rfl) ?_
              exact zJ hJ6 rfl (by first | with_reducible rfl | (simp only [h7, lb_f, Int64.or_zero, Int32.add_zero, nB_t, nB_f, Bool.not_true, Bool.not_false, Bool.and_true, Bool.true_and, Bool.false_and, Bool.and_false, Bool.or_true, Bool.true_or, Bool.false_or, Bool.or_false, cond_true, cond_false]; done) | rfl) rfl
            · have h7 : (decide ((μ.1 67 s) ≤ 0)) = false := decide_eq_false (cn_le.mp h7)
              refine z_rcs0 hc hH 2 (pc' := 276) (lv' := [(4, .long (((((0 ||| (lb (decide ((μ.1 67 s) = 1)) 0)) ||| (lb (decide ((μ.1 67 s) = 2)) 1)) ||| (lb (!(decide ((μ.1 69 s) = 0))) 2)) ||| (lb ((decide ((μ.1 50 44) = 2)) && (decide ((lfM μ) = 0))) 5)) ||| (lb (decide ((μ.1 50 44) = 3)) 7))), (0, .ref 50), (1, .int (nI s)), (2, .int (nI c)), (3, .int 0)]) (st' := [.int 1, .ref 50, .int (μ.1 50 41), .int (wdM (μ.1 50 40) (nI s)), .long (((((0 ||| (lb (decide ((μ.1 67 s) = 1)) 0)) ||| (lb (decide ((μ.1 67 s) = 2)) 1)) ||| (lb (!(decide ((μ.1 69 s) = 0))) 2)) ||| (lb ((decide ((μ.1 50 44) = 2)) && (decide ((lfM μ) = 0))) 5)) ||| (lb (decide ((μ.1 50 44) = 3)) 7)), .int 0, .int (nI c), .ref 50]) (by rfl) ?_
              exact zJ hJ6 rfl (by first | with_reducible rfl | (simp only [h7, lb_f, Int64.or_zero, Int32.add_zero, nB_t, nB_f, Bool.not_true, Bool.not_false, Bool.and_true, Bool.true_and, Bool.false_and, Bool.and_false, Bool.or_true, Bool.true_or, Bool.false_or, Bool.or_false, cond_true, cond_false]; done) | rfl) rfl
          refine zq_ic hc hH (by rfl) (tg := 176) (by rfl) (fun h8 => ?_) (fun h8 => ?_)
          · have h8 : (decide ((μ.1 50 44) = 3)) = false := decide_eq_false (cm_ne.mp h8)
            exact zJ hJ5 (by first | with_reducible rfl | (simp only [h8, lb_f, Int64.or_zero, Int32.add_zero, nB_t, nB_f, Bool.not_true, Bool.not_false, Bool.and_true, Bool.true_and, Bool.false_and, Bool.and_false, Bool.or_true, Bool.true_or, Bool.false_or, Bool.or_false, cond_true, cond_false]; done) | rfl) rfl rfl
          · have h8 : (decide ((μ.1 50 44) = 3)) = true := decide_eq_true (cn_ne.mp h8)
            refine z_rcs0 hc hH 2 (pc' := 170) (lv' := [(4, .long ((((0 ||| (lb (decide ((μ.1 67 s) = 1)) 0)) ||| (lb (decide ((μ.1 67 s) = 2)) 1)) ||| (lb (!(decide ((μ.1 69 s) = 0))) 2)) ||| (lb ((decide ((μ.1 50 44) = 2)) && (decide ((lfM μ) = 0))) 5))), (0, .ref 50), (1, .int (nI s)), (2, .int (nI c)), (3, .int 0)]) (st' := [.int 7, .long ((((0 ||| (lb (decide ((μ.1 67 s) = 1)) 0)) ||| (lb (decide ((μ.1 67 s) = 2)) 1)) ||| (lb (!(decide ((μ.1 69 s) = 0))) 2)) ||| (lb ((decide ((μ.1 50 44) = 2)) && (decide ((lfM μ) = 0))) 5))]) (by rfl) ?_
            refine zq_call hc (z_cx_ok hH (by rfl)) (fb_X7_bit d' (by omega) (z_ui μ1 51 c ((nI (w c)) + 1)) 7) (by decide +kernel) (fun r9 μ9 hq => ?_)
            obtain ⟨hμ9, rfl⟩ := hq
            rw [hμ9]
            clear hμ9 μ9
            show Z 0 173 [(4, .long ((((0 ||| (lb (decide ((μ.1 67 s) = 1)) 0)) ||| (lb (decide ((μ.1 67 s) = 2)) 1)) ||| (lb (!(decide ((μ.1 69 s) = 0))) 2)) ||| (lb ((decide ((μ.1 50 44) = 2)) && (decide ((lfM μ) = 0))) 5))), (0, .ref 50), (1, .int (nI s)), (2, .int (nI c)), (3, .int 0)] [.long (lb true 7), .long ((((0 ||| (lb (decide ((μ.1 67 s) = 1)) 0)) ||| (lb (decide ((μ.1 67 s) = 2)) 1)) ||| (lb (!(decide ((μ.1 69 s) = 0))) 2)) ||| (lb ((decide ((μ.1 50 44) = 2)) && (decide ((lfM μ) = 0))) 5))] _
            refine z_rcs0 hc hH 2 (pc' := 176) (lv' := [(4, .long (((((0 ||| (lb (decide ((μ.1 67 s) = 1)) 0)) ||| (lb (decide ((μ.1 67 s) = 2)) 1)) ||| (lb (!(decide ((μ.1 69 s) = 0))) 2)) ||| (lb ((decide ((μ.1 50 44) = 2)) && (decide ((lfM μ) = 0))) 5)) ||| (lb true 7))), (0, .ref 50), (1, .int (nI s)), (2, .int (nI c)), (3, .int 0)]) (st' := []) (by rfl) ?_
            exact zJ hJ5 (by first | with_reducible rfl | (simp only [h8, lb_f, Int64.or_zero, Int32.add_zero, nB_t, nB_f, Bool.not_true, Bool.not_false, Bool.and_true, Bool.true_and, Bool.false_and, Bool.and_false, Bool.or_true, Bool.true_or, Bool.false_or, Bool.or_false, cond_true, cond_false]; done) | rfl) rfl rfl
        refine zq_ic hc hH (by rfl) (tg := 133) (by rfl) (fun h9 => ?_) (fun h9 => ?_)
        · have h9 : (decide ((μ.1 50 44) = 2)) = false := decide_eq_false (cm_ne.mp h9)
          exact zJ hJ4 (by first | with_reducible rfl | (simp only [h9, lb_f, Int64.or_zero, Int32.add_zero, nB_t, nB_f, Bool.not_true, Bool.not_false, Bool.and_true, Bool.true_and, Bool.false_and, Bool.and_false, Bool.or_true, Bool.true_or, Bool.false_or, Bool.or_false, cond_true, cond_false]; done) | rfl) rfl rfl
        · have h9 : (decide ((μ.1 50 44) = 2)) = true := decide_eq_true (cn_ne.mp h9)
          refine z_rcs0 hc hH 1 (pc' := 118) (lv' := [(4, .long (((0 ||| (lb (decide ((μ.1 67 s) = 1)) 0)) ||| (lb (decide ((μ.1 67 s) = 2)) 1)) ||| (lb (!(decide ((μ.1 69 s) = 0))) 2))), (0, .ref 50), (1, .int (nI s)), (2, .int (nI c)), (3, .int 0)]) (st' := [.ref 50]) (by rfl) ?_
          refine zq_call hc (z_cx_ok hH (by rfl)) (fx_left d' (by omega) (z_ui μ1 51 c ((nI (w c)) + 1)) (μ.1 50 47) (μ.1 50 46) (by rw [ui_o (by first | decide | omega), (hTs 50 47 (by omega)).1]) (by rw [ui_o (by first | decide | omega), (hTs 50 46 (by omega)).1])) (by decide +kernel) (fun r9 μ9 hq => ?_)
          obtain ⟨hμ9, rfl⟩ := hq
          rw [hμ9]
          clear hμ9 μ9
          show Z 0 121 [(4, .long (((0 ||| (lb (decide ((μ.1 67 s) = 1)) 0)) ||| (lb (decide ((μ.1 67 s) = 2)) 1)) ||| (lb (!(decide ((μ.1 69 s) = 0))) 2))), (0, .ref 50), (1, .int (nI s)), (2, .int (nI c)), (3, .int 0)] [.int (lfM μ)] _
          refine zq_if hc hH (by rfl) (tg := 133) (by rfl) (fun h10 => ?_) (fun h10 => ?_)
          · have h10 : (decide ((lfM μ) = 0)) = false := decide_eq_false (cm_ne.mp h10)
            exact zJ hJ4 (by first | with_reducible rfl | (simp only [h9, h10, lb_f, Int64.or_zero, Int32.add_zero, nB_t, nB_f, Bool.not_true, Bool.not_false, Bool.and_true, Bool.true_and, Bool.false_and, Bool.and_false, Bool.or_true, Bool.true_or, Bool.false_or, Bool.or_false, cond_true, cond_false]; done) | rfl) rfl rfl
          · have h10 : (decide ((lfM μ) = 0)) = true := decide_eq_true (cn_ne.mp h10)
            refine z_rcs0 hc hH 2 (pc' := 127) (lv' := [(4, .long (((0 ||| (lb (decide ((μ.1 67 s) = 1)) 0)) ||| (lb (decide ((μ.1 67 s) = 2)) 1)) ||| (lb (!(decide ((μ.1 69 s) = 0))) 2))), (0, .ref 50), (1, .int (nI s)), (2, .int (nI c)), (3, .int 0)]) (st' := [.int 5, .long (((0 ||| (lb (decide ((μ.1 67 s) = 1)) 0)) ||| (lb (decide ((μ.1 67 s) = 2)) 1)) ||| (lb (!(decide ((μ.1 69 s) = 0))) 2))]) (by rfl) ?_
            refine zq_call hc (z_cx_ok hH (by rfl)) (fb_X7_bit d' (by omega) (z_ui μ1 51 c ((nI (w c)) + 1)) 5) (by decide +kernel) (fun r9 μ9 hq => ?_)
            obtain ⟨hμ9, rfl⟩ := hq
            rw [hμ9]
            clear hμ9 μ9
            show Z 0 130 [(4, .long (((0 ||| (lb (decide ((μ.1 67 s) = 1)) 0)) ||| (lb (decide ((μ.1 67 s) = 2)) 1)) ||| (lb (!(decide ((μ.1 69 s) = 0))) 2))), (0, .ref 50), (1, .int (nI s)), (2, .int (nI c)), (3, .int 0)] [.long (lb true 5), .long (((0 ||| (lb (decide ((μ.1 67 s) = 1)) 0)) ||| (lb (decide ((μ.1 67 s) = 2)) 1)) ||| (lb (!(decide ((μ.1 69 s) = 0))) 2))] _
            refine z_rcs0 hc hH 2 (pc' := 133) (lv' := [(4, .long ((((0 ||| (lb (decide ((μ.1 67 s) = 1)) 0)) ||| (lb (decide ((μ.1 67 s) = 2)) 1)) ||| (lb (!(decide ((μ.1 69 s) = 0))) 2)) ||| (lb true 5))), (0, .ref 50), (1, .int (nI s)), (2, .int (nI c)), (3, .int 0)]) (st' := []) (by rfl) ?_
            exact zJ hJ4 (by first | with_reducible rfl | (simp only [h9, h10, lb_f, Int64.or_zero, Int32.add_zero, nB_t, nB_f, Bool.not_true, Bool.not_false, Bool.and_true, Bool.true_and, Bool.false_and, Bool.and_false, Bool.or_true, Bool.true_or, Bool.false_or, Bool.or_false, cond_true, cond_false]; done) | rfl) rfl rfl
      refine zq_if hc hH (by rfl) (tg := 78) (by rfl) (fun h11 => ?_) (fun h11 => ?_)
      · have h11 : (decide ((μ.1 69 s) = 0)) = true := decide_eq_true (cm_eq9.mp h11)
        exact zJ hJ3 (by first | with_reducible rfl | (simp only [h11, lb_f, Int64.or_zero, Int32.add_zero, nB_t, nB_f, Bool.not_true, Bool.not_false, Bool.and_true, Bool.true_and, Bool.false_and, Bool.and_false, Bool.or_true, Bool.true_or, Bool.false_or, Bool.or_false, cond_true, cond_false]; done) | rfl) rfl rfl
      · have h11 : (decide ((μ.1 69 s) = 0)) = false := decide_eq_false (cn_eq.mp h11)
        refine z_rcs0 hc hH 2 (pc' := 72) (lv' := [(4, .long ((0 ||| (lb (decide ((μ.1 67 s) = 1)) 0)) ||| (lb (decide ((μ.1 67 s) = 2)) 1))), (0, .ref 50), (1, .int (nI s)), (2, .int (nI c)), (3, .int 0)]) (st' := [.int 2, .long ((0 ||| (lb (decide ((μ.1 67 s) = 1)) 0)) ||| (lb (decide ((μ.1 67 s) = 2)) 1))]) (by rfl) ?_
        refine zq_call hc (z_cx_ok hH (by rfl)) (fb_X7_bit d' (by omega) (z_ui μ1 51 c ((nI (w c)) + 1)) 2) (by decide +kernel) (fun r9 μ9 hq => ?_)
        obtain ⟨hμ9, rfl⟩ := hq
        rw [hμ9]
        clear hμ9 μ9
        show Z 0 75 [(4, .long ((0 ||| (lb (decide ((μ.1 67 s) = 1)) 0)) ||| (lb (decide ((μ.1 67 s) = 2)) 1))), (0, .ref 50), (1, .int (nI s)), (2, .int (nI c)), (3, .int 0)] [.long (lb true 2), .long ((0 ||| (lb (decide ((μ.1 67 s) = 1)) 0)) ||| (lb (decide ((μ.1 67 s) = 2)) 1))] _
        refine z_rcs0 hc hH 2 (pc' := 78) (lv' := [(4, .long (((0 ||| (lb (decide ((μ.1 67 s) = 1)) 0)) ||| (lb (decide ((μ.1 67 s) = 2)) 1)) ||| (lb true 2))), (0, .ref 50), (1, .int (nI s)), (2, .int (nI c)), (3, .int 0)]) (st' := []) (by rfl) ?_
        exact zJ hJ3 (by first | with_reducible rfl | (simp only [h11, lb_f, Int64.or_zero, Int32.add_zero, nB_t, nB_f, Bool.not_true, Bool.not_false, Bool.and_true, Bool.true_and, Bool.false_and, Bool.and_false, Bool.or_true, Bool.true_or, Bool.false_or, Bool.or_false, cond_true, cond_false]; done) | rfl) rfl rfl
    refine zq_ic hc hH (by rfl) (tg := 60) (by rfl) (fun h12 => ?_) (fun h12 => ?_)
    · have h12 : (decide ((μ.1 67 s) = 2)) = false := decide_eq_false (cm_ne.mp h12)
      exact zJ hJ2 (by first | with_reducible rfl | (simp only [h12, lb_f, Int64.or_zero, Int32.add_zero, nB_t, nB_f, Bool.not_true, Bool.not_false, Bool.and_true, Bool.true_and, Bool.false_and, Bool.and_false, Bool.or_true, Bool.true_or, Bool.false_or, Bool.or_false, cond_true, cond_false]; done) | rfl) rfl rfl
    · have h12 : (decide ((μ.1 67 s) = 2)) = true := decide_eq_true (cn_ne.mp h12)
      refine z_rcs0 hc hH 2 (pc' := 54) (lv' := [(4, .long (0 ||| (lb (decide ((μ.1 67 s) = 1)) 0))), (0, .ref 50), (1, .int (nI s)), (2, .int (nI c)), (3, .int 0)]) (st' := [.int 1, .long (0 ||| (lb (decide ((μ.1 67 s) = 1)) 0))]) (by rfl) ?_
      refine zq_call hc (z_cx_ok hH (by rfl)) (fb_X7_bit d' (by omega) (z_ui μ1 51 c ((nI (w c)) + 1)) 1) (by decide +kernel) (fun r9 μ9 hq => ?_)
      obtain ⟨hμ9, rfl⟩ := hq
      rw [hμ9]
      clear hμ9 μ9
      show Z 0 57 [(4, .long (0 ||| (lb (decide ((μ.1 67 s) = 1)) 0))), (0, .ref 50), (1, .int (nI s)), (2, .int (nI c)), (3, .int 0)] [.long (lb true 1), .long (0 ||| (lb (decide ((μ.1 67 s) = 1)) 0))] _
      refine z_rcs0 hc hH 2 (pc' := 60) (lv' := [(4, .long ((0 ||| (lb (decide ((μ.1 67 s) = 1)) 0)) ||| (lb true 1))), (0, .ref 50), (1, .int (nI s)), (2, .int (nI c)), (3, .int 0)]) (st' := []) (by rfl) ?_
      exact zJ hJ2 (by first | with_reducible rfl | (simp only [h12, lb_f, Int64.or_zero, Int32.add_zero, nB_t, nB_f, Bool.not_true, Bool.not_false, Bool.and_true, Bool.true_and, Bool.false_and, Bool.and_false, Bool.or_true, Bool.true_or, Bool.false_or, Bool.or_false, cond_true, cond_false]; done) | rfl) rfl rfl
  refine zq_ic hc hH (by rfl) (tg := 41) (by rfl) (fun h13 => ?_) (fun h13 => ?_)
  · have h13 : (decide ((μ.1 67 s) = 1)) = false := decide_eq_false (cm_ne.mp h13)
    exact zJ hJ1 (by first | with_reducible rfl | (simp only [h13, lb_f, Int64.or_zero, Int32.add_zero, nB_t, nB_f, Bool.not_true, Bool.not_false, Bool.and_true, Bool.true_and, Bool.false_and, Bool.and_false, Bool.or_true, Bool.true_or, Bool.false_or, Bool.or_false, cond_true, cond_false]; done) | rfl) rfl rfl
  · have h13 : (decide ((μ.1 67 s) = 1)) = true := decide_eq_true (cn_ne.mp h13)
    refine z_rcs0 hc hH 2 (pc' := 35) (lv' := [(4, .long 0), (0, .ref 50), (1, .int (nI s)), (2, .int (nI c)), (3, .int 0)]) (st' := [.int 0, .long 0]) (by rfl) ?_
    refine zq_call hc (z_cx_ok hH (by rfl)) (fb_X7_bit d' (by omega) (z_ui μ1 51 c ((nI (w c)) + 1)) 0) (by decide +kernel) (fun r9 μ9 hq => ?_)
    obtain ⟨hμ9, rfl⟩ := hq
    rw [hμ9]
    clear hμ9 μ9
    show Z 0 38 [(4, .long 0), (0, .ref 50), (1, .int (nI s)), (2, .int (nI c)), (3, .int 0)] [.long (lb true 0), .long 0] _
    refine z_rcs0 hc hH 2 (pc' := 41) (lv' := [(4, .long (0 ||| (lb true 0))), (0, .ref 50), (1, .int (nI s)), (2, .int (nI c)), (3, .int 0)]) (st' := []) (by rfl) ?_
    exact zJ hJ1 (by first | with_reducible rfl | (simp only [h13, lb_f, Int64.or_zero, Int32.add_zero, nB_t, nB_f, Bool.not_true, Bool.not_false, Bool.and_true, Bool.true_and, Bool.false_and, Bool.and_false, Bool.or_true, Bool.true_or, Bool.false_or, Bool.or_false, cond_true, cond_false]; done) | rfl) rfl rfl
theorem gm_value1 (d : Nat) (hd : 698 ≤ d) (μ : zM) (hH0 : a_H μ) (s c : Nat) (hs4 : s < 4) (hc34 : c < 34) (w : Nat → Nat) (q : Nat) (sL lL : Nat → Nat) (hM : HM μ s w q sL lL) (f : Nat) (hf4 : f ≤ 4) (hf : μ.1 50 47 = nI f) (W : Nat → Nat) (hW : ∀ p, 126 ≤ p → p < 136 → μ.1 59 p = nI (W p) ∧ W p < 34) : z_C d mi_X7_value [.ref 50, .int (nI s), .int (nI c), .int 1] μ (fun r μ' => r = none ∧ a_H μ' ∧ SMj μ μ' ∧ (¬ μ'.1 50 13 = 0 → μ'.1 50 18 = 1) ∧ ∃ κ, KM κ w q sL lL (nI c) true (((((((0 ||| (lb (decide ((μ.1 67 s) = 1)) 0)) ||| (lb (decide ((μ.1 67 s) = 2)) 1)) ||| (lb (!(decide ((μ.1 69 s) = 0))) 2)) ||| (lb ((decide ((lfM μ) = 0)) && (decide ((μ.1 50 58) = 0))) 4)) ||| (lb (!(decide ((μ.1 50 58) = 0))) 6)) ||| (lb ((decide ((μ.1 68 s) = 1)) && (decide ((nI s) = (μ.1 50 40)))) 42)) ||| (lb ((decide ((μ.1 68 s) = 1)) && (!(decide ((nI s) = (μ.1 50 40))) && (!(decide ((μ.1 50 56) = 0))))) 43)) (wdM (μ.1 50 40) (nI s)) (μ.1 50 41) (deF (dAs μ s w W q) (!(decide ((μ.1 67 s) ≤ 0))) (f + 1)) ∧ BS (SR κ w q sL lL) (0, 0, 0, 0) (bq μ')) := by
  refine z_C_in (by decide) (by omega) (fun d' Z ed hc hr => ?_)
  have hH : zH mi_X7_value zt_X7_value 79 7 6 := hh_X7_value
  refine z_rcs hc hH 2 (pc' := 2) (lv' := [(0, .ref 50), (1, .int (nI s)), (2, .int (nI c)), (3, .int 1)]) (st' := [.int (nI s), .ref 50]) (μ' := μ) (by rfl) ?_
  refine zq_call hc (z_cx_ok hH (by rfl)) (gm_takeH d' (by omega) μ hH0 s q hs4 hM.2.2.1 hM.2.1) (by decide +kernel) (fun r9 μ1 hq9 => ?_)
  obtain ⟨⟨rfl, hT⟩, hH1⟩ := hq9
  have hTs := hT.sm
  show Z 0 5 [(0, .ref 50), (1, .int (nI s)), (2, .int (nI c)), (3, .int 1)] [] μ1
  refine z_rcs hc hH 5 (pc' := 23) (lv' := [(4, .long 0), (0, .ref 50), (1, .int (nI s)), (2, .int (nI c)), (3, .int 1)]) (st' := [.ref 50]) (μ' := μ1) (by rfl) ?_
  refine zq_gfr hc hH (by rfl) (ci := 6) (f := 35) (q := 67) (by rfl) (by decide +kernel) (by rfl) (by decide +kernel) ?_
  refine z_rcs hc hH 1 (pc' := 27) (lv' := [(4, .long 0), (0, .ref 50), (1, .int (nI s)), (2, .int (nI c)), (3, .int 1)]) (st' := [.int (nI s), .ref 67]) (μ' := μ1) (by rfl) ?_
  refine zq_iald hc hH (by rfl) 4 (oka_i (by decide +kernel)) (vp_in_nI (by omega) (by decide)) ?_
  rw [nI_clamp (by omega)]
  rw [(hTs 67 s (by omega)).1]
  refine z_rcs hc hH 1 (pc' := 29) (lv' := [(4, .long 0), (0, .ref 50), (1, .int (nI s)), (2, .int (nI c)), (3, .int 1)]) (st' := [.int 1, .int (μ.1 67 s)]) (μ' := μ1) (by rfl) ?_
  have hJ1 : Z 0 41 [(4, .long (0 ||| (lb (decide ((μ.1 67 s) = 1)) 0))), (0, .ref 50), (1, .int (nI s)), (2, .int (nI c)), (3, .int 1)] [] μ1 := by
    refine z_rcs hc hH 1 (pc' := 42) (lv' := [(4, .long (0 ||| (lb (decide ((μ.1 67 s) = 1)) 0))), (0, .ref 50), (1, .int (nI s)), (2, .int (nI c)), (3, .int 1)]) (st' := [.ref 50]) (μ' := μ1) (by rfl) ?_
    refine zq_gfr hc hH (by rfl) (ci := 6) (f := 35) (q := 67) (by rfl) (by decide +kernel) (by rfl) (by decide +kernel) ?_
    refine z_rcs hc hH 1 (pc' := 46) (lv' := [(4, .long (0 ||| (lb (decide ((μ.1 67 s) = 1)) 0))), (0, .ref 50), (1, .int (nI s)), (2, .int (nI c)), (3, .int 1)]) (st' := [.int (nI s), .ref 67]) (μ' := μ1) (by rfl) ?_
    refine zq_iald hc hH (by rfl) 4 (oka_i (by decide +kernel)) (vp_in_nI (by omega) (by decide)) ?_
    rw [nI_clamp (by omega)]
    rw [(hTs 67 s (by omega)).1]
    refine z_rcs hc hH 1 (pc' := 48) (lv' := [(4, .long (0 ||| (lb (decide ((μ.1 67 s) = 1)) 0))), (0, .ref 50), (1, .int (nI s)), (2, .int (nI c)), (3, .int 1)]) (st' := [.int 2, .int (μ.1 67 s)]) (μ' := μ1) (by rfl) ?_
    have hJ2 : Z 0 60 [(4, .long ((0 ||| (lb (decide ((μ.1 67 s) = 1)) 0)) ||| (lb (decide ((μ.1 67 s) = 2)) 1))), (0, .ref 50), (1, .int (nI s)), (2, .int (nI c)), (3, .int 1)] [] μ1 := by
      refine z_rcs hc hH 1 (pc' := 61) (lv' := [(4, .long ((0 ||| (lb (decide ((μ.1 67 s) = 1)) 0)) ||| (lb (decide ((μ.1 67 s) = 2)) 1))), (0, .ref 50), (1, .int (nI s)), (2, .int (nI c)), (3, .int 1)]) (st' := [.ref 50]) (μ' := μ1) (by rfl) ?_
      refine zq_gfr hc hH (by rfl) (ci := 6) (f := 37) (q := 69) (by rfl) (by decide +kernel) (by rfl) (by decide +kernel) ?_
      refine z_rcs hc hH 1 (pc' := 65) (lv' := [(4, .long ((0 ||| (lb (decide ((μ.1 67 s) = 1)) 0)) ||| (lb (decide ((μ.1 67 s) = 2)) 1))), (0, .ref 50), (1, .int (nI s)), (2, .int (nI c)), (3, .int 1)]) (st' := [.int (nI s), .ref 69]) (μ' := μ1) (by rfl) ?_
      refine zq_bald hc hH (by rfl) 4 (by decide +kernel) (vp_in_nI (by omega) (by decide)) ?_
      rw [nI_clamp (by omega)]
      rw [(hTs 69 s (by omega)).1]
      have hJ3 : Z 0 78 [(4, .long (((0 ||| (lb (decide ((μ.1 67 s) = 1)) 0)) ||| (lb (decide ((μ.1 67 s) = 2)) 1)) ||| (lb (!(decide ((μ.1 69 s) = 0))) 2))), (0, .ref 50), (1, .int (nI s)), (2, .int (nI c)), (3, .int 1)] [] μ1 := by
        refine z_rcs hc hH 3 (pc' := 83) (lv' := [(4, .long (((0 ||| (lb (decide ((μ.1 67 s) = 1)) 0)) ||| (lb (decide ((μ.1 67 s) = 2)) 1)) ||| (lb (!(decide ((μ.1 69 s) = 0))) 2))), (0, .ref 50), (1, .int (nI s)), (2, .int (nI c)), (3, .int 1)]) (st' := [.ref 50]) (μ' := μ1) (by rfl) ?_
        refine zq_call hc (z_cx_ok hH (by rfl)) (fx_left d' (by omega) μ1 (μ.1 50 47) (μ.1 50 46) (by rw [(hTs 50 47 (by omega)).1]) (by rw [(hTs 50 46 (by omega)).1])) (by decide +kernel) (fun r9 μ9 hq => ?_)
        obtain ⟨hμ9, rfl⟩ := hq
        rw [hμ9]
        clear hμ9 μ9
        show Z 0 86 [(4, .long (((0 ||| (lb (decide ((μ.1 67 s) = 1)) 0)) ||| (lb (decide ((μ.1 67 s) = 2)) 1)) ||| (lb (!(decide ((μ.1 69 s) = 0))) 2))), (0, .ref 50), (1, .int (nI s)), (2, .int (nI c)), (3, .int 1)] [.int (lfM μ)] μ1
        have hJ4 : Z 0 105 [(4, .long ((((0 ||| (lb (decide ((μ.1 67 s) = 1)) 0)) ||| (lb (decide ((μ.1 67 s) = 2)) 1)) ||| (lb (!(decide ((μ.1 69 s) = 0))) 2)) ||| (lb ((decide ((lfM μ) = 0)) && (decide ((μ.1 50 58) = 0))) 4))), (0, .ref 50), (1, .int (nI s)), (2, .int (nI c)), (3, .int 1)] [] μ1 := by
          refine z_rcs hc hH 5 (pc' := 138) (lv' := [(4, .long ((((0 ||| (lb (decide ((μ.1 67 s) = 1)) 0)) ||| (lb (decide ((μ.1 67 s) = 2)) 1)) ||| (lb (!(decide ((μ.1 69 s) = 0))) 2)) ||| (lb ((decide ((lfM μ) = 0)) && (decide ((μ.1 50 58) = 0))) 4))), (0, .ref 50), (1, .int (nI s)), (2, .int (nI c)), (3, .int 1)]) (st' := [.ref 50]) (μ' := μ1) (by rfl) ?_
          refine zq_gfi hc hH (by rfl) (ci := 6) (f := 58) (by rfl) (by decide +kernel) (by rfl) ?_
          rw [(hTs 50 58 (by omega)).1]
          have hJ5 : Z 0 154 [(4, .long (((((0 ||| (lb (decide ((μ.1 67 s) = 1)) 0)) ||| (lb (decide ((μ.1 67 s) = 2)) 1)) ||| (lb (!(decide ((μ.1 69 s) = 0))) 2)) ||| (lb ((decide ((lfM μ) = 0)) && (decide ((μ.1 50 58) = 0))) 4)) ||| (lb (!(decide ((μ.1 50 58) = 0))) 6))), (0, .ref 50), (1, .int (nI s)), (2, .int (nI c)), (3, .int 1)] [] μ1 := by
            refine z_rcs hc hH 5 (pc' := 181) (lv' := [(4, .long (((((0 ||| (lb (decide ((μ.1 67 s) = 1)) 0)) ||| (lb (decide ((μ.1 67 s) = 2)) 1)) ||| (lb (!(decide ((μ.1 69 s) = 0))) 2)) ||| (lb ((decide ((lfM μ) = 0)) && (decide ((μ.1 50 58) = 0))) 4)) ||| (lb (!(decide ((μ.1 50 58) = 0))) 6))), (0, .ref 50), (1, .int (nI s)), (2, .int (nI c)), (3, .int 1)]) (st' := [.ref 50]) (μ' := μ1) (by rfl) ?_
            refine zq_gfr hc hH (by rfl) (ci := 6) (f := 36) (q := 68) (by rfl) (by decide +kernel) (by rfl) (by decide +kernel) ?_
            refine z_rcs hc hH 1 (pc' := 185) (lv' := [(4, .long (((((0 ||| (lb (decide ((μ.1 67 s) = 1)) 0)) ||| (lb (decide ((μ.1 67 s) = 2)) 1)) ||| (lb (!(decide ((μ.1 69 s) = 0))) 2)) ||| (lb ((decide ((lfM μ) = 0)) && (decide ((μ.1 50 58) = 0))) 4)) ||| (lb (!(decide ((μ.1 50 58) = 0))) 6))), (0, .ref 50), (1, .int (nI s)), (2, .int (nI c)), (3, .int 1)]) (st' := [.int (nI s), .ref 68]) (μ' := μ1) (by rfl) ?_
            refine zq_iald hc hH (by rfl) 4 (oka_i (by decide +kernel)) (vp_in_nI (by omega) (by decide)) ?_
            rw [nI_clamp (by omega)]
            rw [(hTs 68 s (by omega)).1]
            refine z_rcs hc hH 1 (pc' := 187) (lv' := [(4, .long (((((0 ||| (lb (decide ((μ.1 67 s) = 1)) 0)) ||| (lb (decide ((μ.1 67 s) = 2)) 1)) ||| (lb (!(decide ((μ.1 69 s) = 0))) 2)) ||| (lb ((decide ((lfM μ) = 0)) && (decide ((μ.1 50 58) = 0))) 4)) ||| (lb (!(decide ((μ.1 50 58) = 0))) 6))), (0, .ref 50), (1, .int (nI s)), (2, .int (nI c)), (3, .int 1)]) (st' := [.int 1, .int (μ.1 68 s)]) (μ' := μ1) (by rfl) ?_
            have hJ6 : Z 0 208 [(4, .long ((((((0 ||| (lb (decide ((μ.1 67 s) = 1)) 0)) ||| (lb (decide ((μ.1 67 s) = 2)) 1)) ||| (lb (!(decide ((μ.1 69 s) = 0))) 2)) ||| (lb ((decide ((lfM μ) = 0)) && (decide ((μ.1 50 58) = 0))) 4)) ||| (lb (!(decide ((μ.1 50 58) = 0))) 6)) ||| (lb ((decide ((μ.1 68 s) = 1)) && (decide ((nI s) = (μ.1 50 40)))) 42))), (0, .ref 50), (1, .int (nI s)), (2, .int (nI c)), (3, .int 1)] [] μ1 := by
              refine z_rcs hc hH 3 (pc' := 213) (lv' := [(4, .long ((((((0 ||| (lb (decide ((μ.1 67 s) = 1)) 0)) ||| (lb (decide ((μ.1 67 s) = 2)) 1)) ||| (lb (!(decide ((μ.1 69 s) = 0))) 2)) ||| (lb ((decide ((lfM μ) = 0)) && (decide ((μ.1 50 58) = 0))) 4)) ||| (lb (!(decide ((μ.1 50 58) = 0))) 6)) ||| (lb ((decide ((μ.1 68 s) = 1)) && (decide ((nI s) = (μ.1 50 40)))) 42))), (0, .ref 50), (1, .int (nI s)), (2, .int (nI c)), (3, .int 1)]) (st' := [.ref 50]) (μ' := μ1) (by rfl) ?_
              refine zq_gfr hc hH (by rfl) (ci := 6) (f := 36) (q := 68) (by rfl) (by decide +kernel) (by rfl) (by decide +kernel) ?_
              refine z_rcs hc hH 1 (pc' := 217) (lv' := [(4, .long ((((((0 ||| (lb (decide ((μ.1 67 s) = 1)) 0)) ||| (lb (decide ((μ.1 67 s) = 2)) 1)) ||| (lb (!(decide ((μ.1 69 s) = 0))) 2)) ||| (lb ((decide ((lfM μ) = 0)) && (decide ((μ.1 50 58) = 0))) 4)) ||| (lb (!(decide ((μ.1 50 58) = 0))) 6)) ||| (lb ((decide ((μ.1 68 s) = 1)) && (decide ((nI s) = (μ.1 50 40)))) 42))), (0, .ref 50), (1, .int (nI s)), (2, .int (nI c)), (3, .int 1)]) (st' := [.int (nI s), .ref 68]) (μ' := μ1) (by rfl) ?_
              refine zq_iald hc hH (by rfl) 4 (oka_i (by decide +kernel)) (vp_in_nI (by omega) (by decide)) ?_
              rw [nI_clamp (by omega)]
              rw [(hTs 68 s (by omega)).1]
              refine z_rcs hc hH 1 (pc' := 219) (lv' := [(4, .long ((((((0 ||| (lb (decide ((μ.1 67 s) = 1)) 0)) ||| (lb (decide ((μ.1 67 s) = 2)) 1)) ||| (lb (!(decide ((μ.1 69 s) = 0))) 2)) ||| (lb ((decide ((lfM μ) = 0)) && (decide ((μ.1 50 58) = 0))) 4)) ||| (lb (!(decide ((μ.1 50 58) = 0))) 6)) ||| (lb ((decide ((μ.1 68 s) = 1)) && (decide ((nI s) = (μ.1 50 40)))) 42))), (0, .ref 50), (1, .int (nI s)), (2, .int (nI c)), (3, .int 1)]) (st' := [.int 1, .int (μ.1 68 s)]) (μ' := μ1) (by rfl) ?_
              have hJ7 : Z 0 247 [(4, .long (((((((0 ||| (lb (decide ((μ.1 67 s) = 1)) 0)) ||| (lb (decide ((μ.1 67 s) = 2)) 1)) ||| (lb (!(decide ((μ.1 69 s) = 0))) 2)) ||| (lb ((decide ((lfM μ) = 0)) && (decide ((μ.1 50 58) = 0))) 4)) ||| (lb (!(decide ((μ.1 50 58) = 0))) 6)) ||| (lb ((decide ((μ.1 68 s) = 1)) && (decide ((nI s) = (μ.1 50 40)))) 42)) ||| (lb ((decide ((μ.1 68 s) = 1)) && (!(decide ((nI s) = (μ.1 50 40))) && (!(decide ((μ.1 50 56) = 0))))) 43))), (0, .ref 50), (1, .int (nI s)), (2, .int (nI c)), (3, .int 1)] [] μ1 := by
                refine z_rcs hc hH 6 (pc' := 254) (lv' := [(4, .long (((((((0 ||| (lb (decide ((μ.1 67 s) = 1)) 0)) ||| (lb (decide ((μ.1 67 s) = 2)) 1)) ||| (lb (!(decide ((μ.1 69 s) = 0))) 2)) ||| (lb ((decide ((lfM μ) = 0)) && (decide ((μ.1 50 58) = 0))) 4)) ||| (lb (!(decide ((μ.1 50 58) = 0))) 6)) ||| (lb ((decide ((μ.1 68 s) = 1)) && (decide ((nI s) = (μ.1 50 40)))) 42)) ||| (lb ((decide ((μ.1 68 s) = 1)) && (!(decide ((nI s) = (μ.1 50 40))) && (!(decide ((μ.1 50 56) = 0))))) 43))), (0, .ref 50), (1, .int (nI s)), (2, .int (nI c)), (3, .int 1)]) (st' := [.int (nI s), .ref 50, .long (((((((0 ||| (lb (decide ((μ.1 67 s) = 1)) 0)) ||| (lb (decide ((μ.1 67 s) = 2)) 1)) ||| (lb (!(decide ((μ.1 69 s) = 0))) 2)) ||| (lb ((decide ((lfM μ) = 0)) && (decide ((μ.1 50 58) = 0))) 4)) ||| (lb (!(decide ((μ.1 50 58) = 0))) 6)) ||| (lb ((decide ((μ.1 68 s) = 1)) && (decide ((nI s) = (μ.1 50 40)))) 42)) ||| (lb ((decide ((μ.1 68 s) = 1)) && (!(decide ((nI s) = (μ.1 50 40))) && (!(decide ((μ.1 50 56) = 0))))) 43)), .int 1, .int (nI c), .ref 50]) (μ' := μ1) (by rfl) ?_
                refine zq_call hc (z_cx_ok hH (by rfl)) (fx_wind d' (by omega) μ1 (μ.1 50 40) (nI s) (by rw [(hTs 50 40 (by omega)).1])) (by decide +kernel) (fun r9 μ9 hq => ?_)
                obtain ⟨hμ9, rfl⟩ := hq
                rw [hμ9]
                clear hμ9 μ9
                show Z 0 257 [(4, .long (((((((0 ||| (lb (decide ((μ.1 67 s) = 1)) 0)) ||| (lb (decide ((μ.1 67 s) = 2)) 1)) ||| (lb (!(decide ((μ.1 69 s) = 0))) 2)) ||| (lb ((decide ((lfM μ) = 0)) && (decide ((μ.1 50 58) = 0))) 4)) ||| (lb (!(decide ((μ.1 50 58) = 0))) 6)) ||| (lb ((decide ((μ.1 68 s) = 1)) && (decide ((nI s) = (μ.1 50 40)))) 42)) ||| (lb ((decide ((μ.1 68 s) = 1)) && (!(decide ((nI s) = (μ.1 50 40))) && (!(decide ((μ.1 50 56) = 0))))) 43))), (0, .ref 50), (1, .int (nI s)), (2, .int (nI c)), (3, .int 1)] [.int (wdM (μ.1 50 40) (nI s)), .long (((((((0 ||| (lb (decide ((μ.1 67 s) = 1)) 0)) ||| (lb (decide ((μ.1 67 s) = 2)) 1)) ||| (lb (!(decide ((μ.1 69 s) = 0))) 2)) ||| (lb ((decide ((lfM μ) = 0)) && (decide ((μ.1 50 58) = 0))) 4)) ||| (lb (!(decide ((μ.1 50 58) = 0))) 6)) ||| (lb ((decide ((μ.1 68 s) = 1)) && (decide ((nI s) = (μ.1 50 40)))) 42)) ||| (lb ((decide ((μ.1 68 s) = 1)) && (!(decide ((nI s) = (μ.1 50 40))) && (!(decide ((μ.1 50 56) = 0))))) 43)), .int 1, .int (nI c), .ref 50] μ1
                refine z_rcs hc hH 1 (pc' := 258) (lv' := [(4, .long (((((((0 ||| (lb (decide ((μ.1 67 s) = 1)) 0)) ||| (lb (decide ((μ.1 67 s) = 2)) 1)) ||| (lb (!(decide ((μ.1 69 s) = 0))) 2)) ||| (lb ((decide ((lfM μ) = 0)) && (decide ((μ.1 50 58) = 0))) 4)) ||| (lb (!(decide ((μ.1 50 58) = 0))) 6)) ||| (lb ((decide ((μ.1 68 s) = 1)) && (decide ((nI s) = (μ.1 50 40)))) 42)) ||| (lb ((decide ((μ.1 68 s) = 1)) && (!(decide ((nI s) = (μ.1 50 40))) && (!(decide ((μ.1 50 56) = 0))))) 43))), (0, .ref 50), (1, .int (nI s)), (2, .int (nI c)), (3, .int 1)]) (st' := [.ref 50, .int (wdM (μ.1 50 40) (nI s)), .long (((((((0 ||| (lb (decide ((μ.1 67 s) = 1)) 0)) ||| (lb (decide ((μ.1 67 s) = 2)) 1)) ||| (lb (!(decide ((μ.1 69 s) = 0))) 2)) ||| (lb ((decide ((lfM μ) = 0)) && (decide ((μ.1 50 58) = 0))) 4)) ||| (lb (!(decide ((μ.1 50 58) = 0))) 6)) ||| (lb ((decide ((μ.1 68 s) = 1)) && (decide ((nI s) = (μ.1 50 40)))) 42)) ||| (lb ((decide ((μ.1 68 s) = 1)) && (!(decide ((nI s) = (μ.1 50 40))) && (!(decide ((μ.1 50 56) = 0))))) 43)), .int 1, .int (nI c), .ref 50]) (μ' := μ1) (by rfl) ?_
                refine zq_gfi hc hH (by rfl) (ci := 6) (f := 41) (by rfl) (by decide +kernel) (by rfl) ?_
                rw [(hTs 50 41 (by omega)).1]
                refine z_rcs hc hH 2 (pc' := 263) (lv' := [(4, .long (((((((0 ||| (lb (decide ((μ.1 67 s) = 1)) 0)) ||| (lb (decide ((μ.1 67 s) = 2)) 1)) ||| (lb (!(decide ((μ.1 69 s) = 0))) 2)) ||| (lb ((decide ((lfM μ) = 0)) && (decide ((μ.1 50 58) = 0))) 4)) ||| (lb (!(decide ((μ.1 50 58) = 0))) 6)) ||| (lb ((decide ((μ.1 68 s) = 1)) && (decide ((nI s) = (μ.1 50 40)))) 42)) ||| (lb ((decide ((μ.1 68 s) = 1)) && (!(decide ((nI s) = (μ.1 50 40))) && (!(decide ((μ.1 50 56) = 0))))) 43))), (0, .ref 50), (1, .int (nI s)), (2, .int (nI c)), (3, .int 1)]) (st' := [.ref 50, .ref 50, .int (μ.1 50 41), .int (wdM (μ.1 50 40) (nI s)), .long (((((((0 ||| (lb (decide ((μ.1 67 s) = 1)) 0)) ||| (lb (decide ((μ.1 67 s) = 2)) 1)) ||| (lb (!(decide ((μ.1 69 s) = 0))) 2)) ||| (lb ((decide ((lfM μ) = 0)) && (decide ((μ.1 50 58) = 0))) 4)) ||| (lb (!(decide ((μ.1 50 58) = 0))) 6)) ||| (lb ((decide ((μ.1 68 s) = 1)) && (decide ((nI s) = (μ.1 50 40)))) 42)) ||| (lb ((decide ((μ.1 68 s) = 1)) && (!(decide ((nI s) = (μ.1 50 40))) && (!(decide ((μ.1 50 56) = 0))))) 43)), .int 1, .int (nI c), .ref 50]) (μ' := μ1) (by rfl) ?_
                refine zq_gfr hc hH (by rfl) (ci := 6) (f := 35) (q := 67) (by rfl) (by decide +kernel) (by rfl) (by decide +kernel) ?_
                refine z_rcs hc hH 1 (pc' := 267) (lv' := [(4, .long (((((((0 ||| (lb (decide ((μ.1 67 s) = 1)) 0)) ||| (lb (decide ((μ.1 67 s) = 2)) 1)) ||| (lb (!(decide ((μ.1 69 s) = 0))) 2)) ||| (lb ((decide ((lfM μ) = 0)) && (decide ((μ.1 50 58) = 0))) 4)) ||| (lb (!(decide ((μ.1 50 58) = 0))) 6)) ||| (lb ((decide ((μ.1 68 s) = 1)) && (decide ((nI s) = (μ.1 50 40)))) 42)) ||| (lb ((decide ((μ.1 68 s) = 1)) && (!(decide ((nI s) = (μ.1 50 40))) && (!(decide ((μ.1 50 56) = 0))))) 43))), (0, .ref 50), (1, .int (nI s)), (2, .int (nI c)), (3, .int 1)]) (st' := [.int (nI s), .ref 67, .ref 50, .int (μ.1 50 41), .int (wdM (μ.1 50 40) (nI s)), .long (((((((0 ||| (lb (decide ((μ.1 67 s) = 1)) 0)) ||| (lb (decide ((μ.1 67 s) = 2)) 1)) ||| (lb (!(decide ((μ.1 69 s) = 0))) 2)) ||| (lb ((decide ((lfM μ) = 0)) && (decide ((μ.1 50 58) = 0))) 4)) ||| (lb (!(decide ((μ.1 50 58) = 0))) 6)) ||| (lb ((decide ((μ.1 68 s) = 1)) && (decide ((nI s) = (μ.1 50 40)))) 42)) ||| (lb ((decide ((μ.1 68 s) = 1)) && (!(decide ((nI s) = (μ.1 50 40))) && (!(decide ((μ.1 50 56) = 0))))) 43)), .int 1, .int (nI c), .ref 50]) (μ' := μ1) (by rfl) ?_
                refine zq_iald hc hH (by rfl) 4 (oka_i (by decide +kernel)) (vp_in_nI (by omega) (by decide)) ?_
                rw [nI_clamp (by omega)]
                rw [(hTs 67 s (by omega)).1]
                have hJ8 : Z 0 276 [(4, .long (((((((0 ||| (lb (decide ((μ.1 67 s) = 1)) 0)) ||| (lb (decide ((μ.1 67 s) = 2)) 1)) ||| (lb (!(decide ((μ.1 69 s) = 0))) 2)) ||| (lb ((decide ((lfM μ) = 0)) && (decide ((μ.1 50 58) = 0))) 4)) ||| (lb (!(decide ((μ.1 50 58) = 0))) 6)) ||| (lb ((decide ((μ.1 68 s) = 1)) && (decide ((nI s) = (μ.1 50 40)))) 42)) ||| (lb ((decide ((μ.1 68 s) = 1)) && (!(decide ((nI s) = (μ.1 50 40))) && (!(decide ((μ.1 50 56) = 0))))) 43))), (0, .ref 50), (1, .int (nI s)), (2, .int (nI c)), (3, .int 1)] [.int (nB (!(decide ((μ.1 67 s) ≤ 0)))), .ref 50, .int (μ.1 50 41), .int (wdM (μ.1 50 40) (nI s)), .long (((((((0 ||| (lb (decide ((μ.1 67 s) = 1)) 0)) ||| (lb (decide ((μ.1 67 s) = 2)) 1)) ||| (lb (!(decide ((μ.1 69 s) = 0))) 2)) ||| (lb ((decide ((lfM μ) = 0)) && (decide ((μ.1 50 58) = 0))) 4)) ||| (lb (!(decide ((μ.1 50 58) = 0))) 6)) ||| (lb ((decide ((μ.1 68 s) = 1)) && (decide ((nI s) = (μ.1 50 40)))) 42)) ||| (lb ((decide ((μ.1 68 s) = 1)) && (!(decide ((nI s) = (μ.1 50 40))) && (!(decide ((μ.1 50 56) = 0))))) 43)), .int 1, .int (nI c), .ref 50] μ1 := by
                  have hH2 : a_H μ1 := hH1
                  refine zq_call hc (z_cx_ok hH (by rfl)) (gm_dearH d' (by omega) μ1 hH2 (!(decide ((μ.1 67 s) ≤ 0))) q f hM.2.2.1 hT.2.1 hf4 (by rw [(hTs 50 47 (by omega)).1]; exact hf) W (fun p h1 h2 => by rw [(hTs 59 p (by omega)).1]; exact hW p h1 h2)) (by decide +kernel) (fun r9 μ2 hq9 => ?_)
                  obtain ⟨⟨rfl, hD⟩, hH3⟩ := hq9
                  have eD : deF (dA μ1 W q) (!(decide ((μ.1 67 s) ≤ 0))) (f + 1) = deF (dAs μ s w W q) (!(decide ((μ.1 67 s) ≤ 0))) (f + 1) := deF_cg _ (fun p h1 h2 => by
                    unfold dA dAs
                    rw [hT.1 _ (in_lt (bhd_in _ (hW p h1 (by omega)).2)), (hM.1 _ (in_lt (bhd_in _ (hW p h1 (by omega)).2))).1]
                    exact ofv_cg q (fun i hi => hT.2.2.1 i hi))
                  rw [eD]
                  show Z 0 279 [(4, .long (((((((0 ||| (lb (decide ((μ.1 67 s) = 1)) 0)) ||| (lb (decide ((μ.1 67 s) = 2)) 1)) ||| (lb (!(decide ((μ.1 69 s) = 0))) 2)) ||| (lb ((decide ((lfM μ) = 0)) && (decide ((μ.1 50 58) = 0))) 4)) ||| (lb (!(decide ((μ.1 50 58) = 0))) 6)) ||| (lb ((decide ((μ.1 68 s) = 1)) && (decide ((nI s) = (μ.1 50 40)))) 42)) ||| (lb ((decide ((μ.1 68 s) = 1)) && (!(decide ((nI s) = (μ.1 50 40))) && (!(decide ((μ.1 50 56) = 0))))) 43))), (0, .ref 50), (1, .int (nI s)), (2, .int (nI c)), (3, .int 1)] [.int (deF (dAs μ s w W q) (!(decide ((μ.1 67 s) ≤ 0))) (f + 1)), .int (μ.1 50 41), .int (wdM (μ.1 50 40) (nI s)), .long (((((((0 ||| (lb (decide ((μ.1 67 s) = 1)) 0)) ||| (lb (decide ((μ.1 67 s) = 2)) 1)) ||| (lb (!(decide ((μ.1 69 s) = 0))) 2)) ||| (lb ((decide ((lfM μ) = 0)) && (decide ((μ.1 50 58) = 0))) 4)) ||| (lb (!(decide ((μ.1 50 58) = 0))) 6)) ||| (lb ((decide ((μ.1 68 s) = 1)) && (decide ((nI s) = (μ.1 50 40)))) 42)) ||| (lb ((decide ((μ.1 68 s) = 1)) && (!(decide ((nI s) = (μ.1 50 40))) && (!(decide ((μ.1 50 56) = 0))))) 43)), .int 1, .int (nI c), .ref 50] μ2
                  have hw2 : RW μ2 51 w := fun k hk => by
                    rw [hD.2.1 51 k (by decide)]
                    rw [hT.1 k hk]; exact ⟨(hM.1 k hk).1, by have := (hM.1 k hk).2; omega⟩
                  have e42 : μ2.1 50 4 = nI q := by rw [hD.2.1 50 4 (by decide)]; exact hT.2.1
                  have hL2 : ∀ j, j < q → μ2.1 52 j = nI (sL j) ∧ sL j ≤ 3 ∧ μ2.1 53 j = nI (lL j) ∧ lL j < 34 := fun j hj => by
                    have h5 := hM.2.2.2 j hj
                    rw [hD.2.1 52 j (by decide), hD.2.1 53 j (by decide), (hT.2.2.1 j hj).1, (hT.2.2.1 j hj).2]
                    exact ⟨h5.1, h5.2.1, h5.2.2.1, h5.2.2.2.1⟩
                  refine zq_call hc (z_cx_ok hH (by rfl)) (S_full d' (by decide +kernel) (by rw [show rg mi_X7_reckon 0 = 0 from by decide +kernel]; exact trivial) (fr_X7_reckon d' (by omega) μ2 w q hM.2.2.1 hw2 e42 sL lL hL2 hH3 (nI c) (wdM (μ.1 50 40) (nI s)) (μ.1 50 41) (deF (dAs μ s w W q) (!(decide ((μ.1 67 s) ≤ 0))) (f + 1)) true (((((((0 ||| (lb (decide ((μ.1 67 s) = 1)) 0)) ||| (lb (decide ((μ.1 67 s) = 2)) 1)) ||| (lb (!(decide ((μ.1 69 s) = 0))) 2)) ||| (lb ((decide ((lfM μ) = 0)) && (decide ((μ.1 50 58) = 0))) 4)) ||| (lb (!(decide ((μ.1 50 58) = 0))) 6)) ||| (lb ((decide ((μ.1 68 s) = 1)) && (decide ((nI s) = (μ.1 50 40)))) 42)) ||| (lb ((decide ((μ.1 68 s) = 1)) && (!(decide ((nI s) = (μ.1 50 40))) && (!(decide ((μ.1 50 56) = 0))))) 43)))) (by decide +kernel) (fun r9 μ3 hq9 => ?_)
                  obtain ⟨⟨rfl, hH4, hF4, hK4⟩, hfu⟩ := hq9
                  show Z 0 282 [(4, .long (((((((0 ||| (lb (decide ((μ.1 67 s) = 1)) 0)) ||| (lb (decide ((μ.1 67 s) = 2)) 1)) ||| (lb (!(decide ((μ.1 69 s) = 0))) 2)) ||| (lb ((decide ((lfM μ) = 0)) && (decide ((μ.1 50 58) = 0))) 4)) ||| (lb (!(decide ((μ.1 50 58) = 0))) 6)) ||| (lb ((decide ((μ.1 68 s) = 1)) && (decide ((nI s) = (μ.1 50 40)))) 42)) ||| (lb ((decide ((μ.1 68 s) = 1)) && (!(decide ((nI s) = (μ.1 50 40))) && (!(decide ((μ.1 50 56) = 0))))) 43))), (0, .ref 50), (1, .int (nI s)), (2, .int (nI c)), (3, .int 1)] [] μ3
                  exact hr 0 282 _ _ _ none (by decide +kernel) (by rfl) (⟨rfl, hH4, SM_tr hTs (SM_tr hD.sm (SM_fz hF4 (by decide))), fun h9 => hfu.resolve_left h9, hK4⟩)
                refine zq_if hc hH (by rfl) (tg := 275) (by rfl) (fun h9 => ?_) (fun h9 => ?_)
                · have h9 : (decide ((μ.1 67 s) ≤ 0)) = true := decide_eq_true (cm_le.mp h9)
                  refine z_rcs hc hH 1 (pc' := 276) (lv' := [(4, .long (((((((0 ||| (lb (decide ((μ.1 67 s) = 1)) 0)) ||| (lb (decide ((μ.1 67 s) = 2)) 1)) ||| (lb (!(decide ((μ.1 69 s) = 0))) 2)) ||| (lb ((decide ((lfM μ) = 0)) && (decide ((μ.1 50 58) = 0))) 4)) ||| (lb (!(decide ((μ.1 50 58) = 0))) 6)) ||| (lb ((decide ((μ.1 68 s) = 1)) && (decide ((nI s) = (μ.1 50 40)))) 42)) ||| (lb ((decide ((μ.1 68 s) = 1)) && (!(decide ((nI s) = (μ.1 50 40))) && (!(decide ((μ.1 50 56) = 0))))) 43))), (0, .ref 50), (1, .int (nI s)), (2, .int (nI c)), (3, .int 1)]) (st' := [.int 0, .ref 50, .int (μ.1 50 41), .int (wdM (μ.1 50 40) (nI s)), .long (((((((0 ||| (lb (decide ((μ.1 67 s) = 1)) 0)) ||| (lb (decide ((μ.1 67 s) = 2)) 1)) ||| (lb (!(decide ((μ.1 69 s) = 0))) 2)) ||| (lb ((decide ((lfM μ) = 0)) && (decide ((μ.1 50 58) = 0))) 4)) ||| (lb (!(decide ((μ.1 50 58) = 0))) 6)) ||| (lb ((decide ((μ.1 68 s) = 1)) && (decide ((nI s) = (μ.1 50 40)))) 42)) ||| (lb ((decide ((μ.1 68 s) = 1)) && (!(decide ((nI s) = (μ.1 50 40))) && (!(decide ((μ.1 50 56) = 0))))) 43)), .int 1, .int (nI c), .ref 50]) (μ' := μ1) (by rfl) ?_
                  exact zJ hJ8 rfl (by first | with_reducible rfl | (simp only [h9, lb_f, Int64.or_zero, Int32.add_zero, nB_t, nB_f, Bool.not_true, Bool.not_false, Bool.and_true, Bool.true_and, Bool.false_and, Bool.and_false, Bool.or_true, Bool.true_or, Bool.false_or, Bool.or_false, cond_true, cond_false]; done) | rfl) rfl
                · have h9 : (decide ((μ.1 67 s) ≤ 0)) = false := decide_eq_false (cn_le.mp h9)
                  refine z_rcs hc hH 2 (pc' := 276) (lv' := [(4, .long (((((((0 ||| (lb (decide ((μ.1 67 s) = 1)) 0)) ||| (lb (decide ((μ.1 67 s) = 2)) 1)) ||| (lb (!(decide ((μ.1 69 s) = 0))) 2)) ||| (lb ((decide ((lfM μ) = 0)) && (decide ((μ.1 50 58) = 0))) 4)) ||| (lb (!(decide ((μ.1 50 58) = 0))) 6)) ||| (lb ((decide ((μ.1 68 s) = 1)) && (decide ((nI s) = (μ.1 50 40)))) 42)) ||| (lb ((decide ((μ.1 68 s) = 1)) && (!(decide ((nI s) = (μ.1 50 40))) && (!(decide ((μ.1 50 56) = 0))))) 43))), (0, .ref 50), (1, .int (nI s)), (2, .int (nI c)), (3, .int 1)]) (st' := [.int 1, .ref 50, .int (μ.1 50 41), .int (wdM (μ.1 50 40) (nI s)), .long (((((((0 ||| (lb (decide ((μ.1 67 s) = 1)) 0)) ||| (lb (decide ((μ.1 67 s) = 2)) 1)) ||| (lb (!(decide ((μ.1 69 s) = 0))) 2)) ||| (lb ((decide ((lfM μ) = 0)) && (decide ((μ.1 50 58) = 0))) 4)) ||| (lb (!(decide ((μ.1 50 58) = 0))) 6)) ||| (lb ((decide ((μ.1 68 s) = 1)) && (decide ((nI s) = (μ.1 50 40)))) 42)) ||| (lb ((decide ((μ.1 68 s) = 1)) && (!(decide ((nI s) = (μ.1 50 40))) && (!(decide ((μ.1 50 56) = 0))))) 43)), .int 1, .int (nI c), .ref 50]) (μ' := μ1) (by rfl) ?_
                  exact zJ hJ8 rfl (by first | with_reducible rfl | (simp only [h9, lb_f, Int64.or_zero, Int32.add_zero, nB_t, nB_f, Bool.not_true, Bool.not_false, Bool.and_true, Bool.true_and, Bool.false_and, Bool.and_false, Bool.or_true, Bool.true_or, Bool.false_or, Bool.or_false, cond_true, cond_false]; done) | rfl) rfl
              refine zq_ic hc hH (by rfl) (tg := 247) (by rfl) (fun h10 => ?_) (fun h10 => ?_)
              · have h10 : (decide ((μ.1 68 s) = 1)) = false := decide_eq_false (cm_ne.mp h10)
                exact zJ hJ7 (by first | with_reducible rfl | (simp only [h10, lb_f, Int64.or_zero, Int32.add_zero, nB_t, nB_f, Bool.not_true, Bool.not_false, Bool.and_true, Bool.true_and, Bool.false_and, Bool.and_false, Bool.or_true, Bool.true_or, Bool.false_or, Bool.or_false, cond_true, cond_false]; done) | rfl) rfl rfl
              · have h10 : (decide ((μ.1 68 s) = 1)) = true := decide_eq_true (cn_ne.mp h10)
                refine z_rcs hc hH 2 (pc' := 224) (lv' := [(4, .long ((((((0 ||| (lb (decide ((μ.1 67 s) = 1)) 0)) ||| (lb (decide ((μ.1 67 s) = 2)) 1)) ||| (lb (!(decide ((μ.1 69 s) = 0))) 2)) ||| (lb ((decide ((lfM μ) = 0)) && (decide ((μ.1 50 58) = 0))) 4)) ||| (lb (!(decide ((μ.1 50 58) = 0))) 6)) ||| (lb ((decide ((μ.1 68 s) = 1)) && (decide ((nI s) = (μ.1 50 40)))) 42))), (0, .ref 50), (1, .int (nI s)), (2, .int (nI c)), (3, .int 1)]) (st' := [.ref 50, .int (nI s)]) (μ' := μ1) (by rfl) ?_
                refine zq_gfi hc hH (by rfl) (ci := 6) (f := 40) (by rfl) (by decide +kernel) (by rfl) ?_
                rw [(hTs 50 40 (by omega)).1]
                refine zq_ic hc hH (by rfl) (tg := 247) (by rfl) (fun h11 => ?_) (fun h11 => ?_)
                · have h11 : (decide ((nI s) = (μ.1 50 40))) = true := decide_eq_true (cm_eq9.mp h11)
                  exact zJ hJ7 (by first | with_reducible rfl | (simp only [h10, h11, lb_f, Int64.or_zero, Int32.add_zero, nB_t, nB_f, Bool.not_true, Bool.not_false, Bool.and_true, Bool.true_and, Bool.false_and, Bool.and_false, Bool.or_true, Bool.true_or, Bool.false_or, Bool.or_false, cond_true, cond_false]; done) | rfl) rfl rfl
                · have h11 : (decide ((nI s) = (μ.1 50 40))) = false := decide_eq_false (cn_eq.mp h11)
                  refine z_rcs hc hH 1 (pc' := 231) (lv' := [(4, .long ((((((0 ||| (lb (decide ((μ.1 67 s) = 1)) 0)) ||| (lb (decide ((μ.1 67 s) = 2)) 1)) ||| (lb (!(decide ((μ.1 69 s) = 0))) 2)) ||| (lb ((decide ((lfM μ) = 0)) && (decide ((μ.1 50 58) = 0))) 4)) ||| (lb (!(decide ((μ.1 50 58) = 0))) 6)) ||| (lb ((decide ((μ.1 68 s) = 1)) && (decide ((nI s) = (μ.1 50 40)))) 42))), (0, .ref 50), (1, .int (nI s)), (2, .int (nI c)), (3, .int 1)]) (st' := [.ref 50]) (μ' := μ1) (by rfl) ?_
                  refine zq_gfi hc hH (by rfl) (ci := 6) (f := 56) (by rfl) (by decide +kernel) (by rfl) ?_
                  rw [(hTs 50 56 (by omega)).1]
                  refine zq_if hc hH (by rfl) (tg := 247) (by rfl) (fun h12 => ?_) (fun h12 => ?_)
                  · have h12 : (decide ((μ.1 50 56) = 0)) = true := decide_eq_true (cm_eq9.mp h12)
                    exact zJ hJ7 (by first | with_reducible rfl | (simp only [h10, h11, h12, lb_f, Int64.or_zero, Int32.add_zero, nB_t, nB_f, Bool.not_true, Bool.not_false, Bool.and_true, Bool.true_and, Bool.false_and, Bool.and_false, Bool.or_true, Bool.true_or, Bool.false_or, Bool.or_false, cond_true, cond_false]; done) | rfl) rfl rfl
                  · have h12 : (decide ((μ.1 50 56) = 0)) = false := decide_eq_false (cn_eq.mp h12)
                    refine z_rcs hc hH 2 (pc' := 241) (lv' := [(4, .long ((((((0 ||| (lb (decide ((μ.1 67 s) = 1)) 0)) ||| (lb (decide ((μ.1 67 s) = 2)) 1)) ||| (lb (!(decide ((μ.1 69 s) = 0))) 2)) ||| (lb ((decide ((lfM μ) = 0)) && (decide ((μ.1 50 58) = 0))) 4)) ||| (lb (!(decide ((μ.1 50 58) = 0))) 6)) ||| (lb ((decide ((μ.1 68 s) = 1)) && (decide ((nI s) = (μ.1 50 40)))) 42))), (0, .ref 50), (1, .int (nI s)), (2, .int (nI c)), (3, .int 1)]) (st' := [.int 43, .long ((((((0 ||| (lb (decide ((μ.1 67 s) = 1)) 0)) ||| (lb (decide ((μ.1 67 s) = 2)) 1)) ||| (lb (!(decide ((μ.1 69 s) = 0))) 2)) ||| (lb ((decide ((lfM μ) = 0)) && (decide ((μ.1 50 58) = 0))) 4)) ||| (lb (!(decide ((μ.1 50 58) = 0))) 6)) ||| (lb ((decide ((μ.1 68 s) = 1)) && (decide ((nI s) = (μ.1 50 40)))) 42))]) (μ' := μ1) (by rfl) ?_
                    refine zq_call hc (z_cx_ok hH (by rfl)) (fb_X7_bit d' (by omega) μ1 43) (by decide +kernel) (fun r9 μ9 hq => ?_)
                    obtain ⟨hμ9, rfl⟩ := hq
                    rw [hμ9]
                    clear hμ9 μ9
                    show Z 0 244 [(4, .long ((((((0 ||| (lb (decide ((μ.1 67 s) = 1)) 0)) ||| (lb (decide ((μ.1 67 s) = 2)) 1)) ||| (lb (!(decide ((μ.1 69 s) = 0))) 2)) ||| (lb ((decide ((lfM μ) = 0)) && (decide ((μ.1 50 58) = 0))) 4)) ||| (lb (!(decide ((μ.1 50 58) = 0))) 6)) ||| (lb ((decide ((μ.1 68 s) = 1)) && (decide ((nI s) = (μ.1 50 40)))) 42))), (0, .ref 50), (1, .int (nI s)), (2, .int (nI c)), (3, .int 1)] [.long (lb true 43), .long ((((((0 ||| (lb (decide ((μ.1 67 s) = 1)) 0)) ||| (lb (decide ((μ.1 67 s) = 2)) 1)) ||| (lb (!(decide ((μ.1 69 s) = 0))) 2)) ||| (lb ((decide ((lfM μ) = 0)) && (decide ((μ.1 50 58) = 0))) 4)) ||| (lb (!(decide ((μ.1 50 58) = 0))) 6)) ||| (lb ((decide ((μ.1 68 s) = 1)) && (decide ((nI s) = (μ.1 50 40)))) 42))] μ1
                    refine z_rcs hc hH 2 (pc' := 247) (lv' := [(4, .long (((((((0 ||| (lb (decide ((μ.1 67 s) = 1)) 0)) ||| (lb (decide ((μ.1 67 s) = 2)) 1)) ||| (lb (!(decide ((μ.1 69 s) = 0))) 2)) ||| (lb ((decide ((lfM μ) = 0)) && (decide ((μ.1 50 58) = 0))) 4)) ||| (lb (!(decide ((μ.1 50 58) = 0))) 6)) ||| (lb ((decide ((μ.1 68 s) = 1)) && (decide ((nI s) = (μ.1 50 40)))) 42)) ||| (lb true 43))), (0, .ref 50), (1, .int (nI s)), (2, .int (nI c)), (3, .int 1)]) (st' := []) (μ' := μ1) (by rfl) ?_
                    exact zJ hJ7 (by first | with_reducible rfl | (simp only [h10, h11, h12, lb_f, Int64.or_zero, Int32.add_zero, nB_t, nB_f, Bool.not_true, Bool.not_false, Bool.and_true, Bool.true_and, Bool.false_and, Bool.and_false, Bool.or_true, Bool.true_or, Bool.false_or, Bool.or_false, cond_true, cond_false]; done) | rfl) rfl rfl
            refine zq_ic hc hH (by rfl) (tg := 208) (by rfl) (fun h13 => ?_) (fun h13 => ?_)
            · have h13 : (decide ((μ.1 68 s) = 1)) = false := decide_eq_false (cm_ne.mp h13)
              exact zJ hJ6 (by first | with_reducible rfl | (simp only [h13, lb_f, Int64.or_zero, Int32.add_zero, nB_t, nB_f, Bool.not_true, Bool.not_false, Bool.and_true, Bool.true_and, Bool.false_and, Bool.and_false, Bool.or_true, Bool.true_or, Bool.false_or, Bool.or_false, cond_true, cond_false]; done) | rfl) rfl rfl
            · have h13 : (decide ((μ.1 68 s) = 1)) = true := decide_eq_true (cn_ne.mp h13)
              refine z_rcs hc hH 2 (pc' := 192) (lv' := [(4, .long (((((0 ||| (lb (decide ((μ.1 67 s) = 1)) 0)) ||| (lb (decide ((μ.1 67 s) = 2)) 1)) ||| (lb (!(decide ((μ.1 69 s) = 0))) 2)) ||| (lb ((decide ((lfM μ) = 0)) && (decide ((μ.1 50 58) = 0))) 4)) ||| (lb (!(decide ((μ.1 50 58) = 0))) 6))), (0, .ref 50), (1, .int (nI s)), (2, .int (nI c)), (3, .int 1)]) (st' := [.ref 50, .int (nI s)]) (μ' := μ1) (by rfl) ?_
              refine zq_gfi hc hH (by rfl) (ci := 6) (f := 40) (by rfl) (by decide +kernel) (by rfl) ?_
              rw [(hTs 50 40 (by omega)).1]
              refine zq_ic hc hH (by rfl) (tg := 208) (by rfl) (fun h14 => ?_) (fun h14 => ?_)
              · have h14 : (decide ((nI s) = (μ.1 50 40))) = false := decide_eq_false (cm_ne.mp h14)
                exact zJ hJ6 (by first | with_reducible rfl | (simp only [h13, h14, lb_f, Int64.or_zero, Int32.add_zero, nB_t, nB_f, Bool.not_true, Bool.not_false, Bool.and_true, Bool.true_and, Bool.false_and, Bool.and_false, Bool.or_true, Bool.true_or, Bool.false_or, Bool.or_false, cond_true, cond_false]; done) | rfl) rfl rfl
              · have h14 : (decide ((nI s) = (μ.1 50 40))) = true := decide_eq_true (cn_ne.mp h14)
                refine z_rcs hc hH 2 (pc' := 202) (lv' := [(4, .long (((((0 ||| (lb (decide ((μ.1 67 s) = 1)) 0)) ||| (lb (decide ((μ.1 67 s) = 2)) 1)) ||| (lb (!(decide ((μ.1 69 s) = 0))) 2)) ||| (lb ((decide ((lfM μ) = 0)) && (decide ((μ.1 50 58) = 0))) 4)) ||| (lb (!(decide ((μ.1 50 58) = 0))) 6))), (0, .ref 50), (1, .int (nI s)), (2, .int (nI c)), (3, .int 1)]) (st' := [.int 42, .long (((((0 ||| (lb (decide ((μ.1 67 s) = 1)) 0)) ||| (lb (decide ((μ.1 67 s) = 2)) 1)) ||| (lb (!(decide ((μ.1 69 s) = 0))) 2)) ||| (lb ((decide ((lfM μ) = 0)) && (decide ((μ.1 50 58) = 0))) 4)) ||| (lb (!(decide ((μ.1 50 58) = 0))) 6))]) (μ' := μ1) (by rfl) ?_
                refine zq_call hc (z_cx_ok hH (by rfl)) (fb_X7_bit d' (by omega) μ1 42) (by decide +kernel) (fun r9 μ9 hq => ?_)
                obtain ⟨hμ9, rfl⟩ := hq
                rw [hμ9]
                clear hμ9 μ9
                show Z 0 205 [(4, .long (((((0 ||| (lb (decide ((μ.1 67 s) = 1)) 0)) ||| (lb (decide ((μ.1 67 s) = 2)) 1)) ||| (lb (!(decide ((μ.1 69 s) = 0))) 2)) ||| (lb ((decide ((lfM μ) = 0)) && (decide ((μ.1 50 58) = 0))) 4)) ||| (lb (!(decide ((μ.1 50 58) = 0))) 6))), (0, .ref 50), (1, .int (nI s)), (2, .int (nI c)), (3, .int 1)] [.long (lb true 42), .long (((((0 ||| (lb (decide ((μ.1 67 s) = 1)) 0)) ||| (lb (decide ((μ.1 67 s) = 2)) 1)) ||| (lb (!(decide ((μ.1 69 s) = 0))) 2)) ||| (lb ((decide ((lfM μ) = 0)) && (decide ((μ.1 50 58) = 0))) 4)) ||| (lb (!(decide ((μ.1 50 58) = 0))) 6))] μ1
                refine z_rcs hc hH 2 (pc' := 208) (lv' := [(4, .long ((((((0 ||| (lb (decide ((μ.1 67 s) = 1)) 0)) ||| (lb (decide ((μ.1 67 s) = 2)) 1)) ||| (lb (!(decide ((μ.1 69 s) = 0))) 2)) ||| (lb ((decide ((lfM μ) = 0)) && (decide ((μ.1 50 58) = 0))) 4)) ||| (lb (!(decide ((μ.1 50 58) = 0))) 6)) ||| (lb true 42))), (0, .ref 50), (1, .int (nI s)), (2, .int (nI c)), (3, .int 1)]) (st' := []) (μ' := μ1) (by rfl) ?_
                exact zJ hJ6 (by first | with_reducible rfl | (simp only [h13, h14, lb_f, Int64.or_zero, Int32.add_zero, nB_t, nB_f, Bool.not_true, Bool.not_false, Bool.and_true, Bool.true_and, Bool.false_and, Bool.and_false, Bool.or_true, Bool.true_or, Bool.false_or, Bool.or_false, cond_true, cond_false]; done) | rfl) rfl rfl
          refine zq_if hc hH (by rfl) (tg := 154) (by rfl) (fun h15 => ?_) (fun h15 => ?_)
          · have h15 : (decide ((μ.1 50 58) = 0)) = true := decide_eq_true (cm_eq9.mp h15)
            exact zJ hJ5 (by first | with_reducible rfl | (simp only [h15, lb_f, Int64.or_zero, Int32.add_zero, nB_t, nB_f, Bool.not_true, Bool.not_false, Bool.and_true, Bool.true_and, Bool.false_and, Bool.and_false, Bool.or_true, Bool.true_or, Bool.false_or, Bool.or_false, cond_true, cond_false]; done) | rfl) rfl rfl
          · have h15 : (decide ((μ.1 50 58) = 0)) = false := decide_eq_false (cn_eq.mp h15)
            refine z_rcs hc hH 2 (pc' := 148) (lv' := [(4, .long ((((0 ||| (lb (decide ((μ.1 67 s) = 1)) 0)) ||| (lb (decide ((μ.1 67 s) = 2)) 1)) ||| (lb (!(decide ((μ.1 69 s) = 0))) 2)) ||| (lb ((decide ((lfM μ) = 0)) && (decide ((μ.1 50 58) = 0))) 4))), (0, .ref 50), (1, .int (nI s)), (2, .int (nI c)), (3, .int 1)]) (st' := [.int 6, .long ((((0 ||| (lb (decide ((μ.1 67 s) = 1)) 0)) ||| (lb (decide ((μ.1 67 s) = 2)) 1)) ||| (lb (!(decide ((μ.1 69 s) = 0))) 2)) ||| (lb ((decide ((lfM μ) = 0)) && (decide ((μ.1 50 58) = 0))) 4))]) (μ' := μ1) (by rfl) ?_
            refine zq_call hc (z_cx_ok hH (by rfl)) (fb_X7_bit d' (by omega) μ1 6) (by decide +kernel) (fun r9 μ9 hq => ?_)
            obtain ⟨hμ9, rfl⟩ := hq
            rw [hμ9]
            clear hμ9 μ9
            show Z 0 151 [(4, .long ((((0 ||| (lb (decide ((μ.1 67 s) = 1)) 0)) ||| (lb (decide ((μ.1 67 s) = 2)) 1)) ||| (lb (!(decide ((μ.1 69 s) = 0))) 2)) ||| (lb ((decide ((lfM μ) = 0)) && (decide ((μ.1 50 58) = 0))) 4))), (0, .ref 50), (1, .int (nI s)), (2, .int (nI c)), (3, .int 1)] [.long (lb true 6), .long ((((0 ||| (lb (decide ((μ.1 67 s) = 1)) 0)) ||| (lb (decide ((μ.1 67 s) = 2)) 1)) ||| (lb (!(decide ((μ.1 69 s) = 0))) 2)) ||| (lb ((decide ((lfM μ) = 0)) && (decide ((μ.1 50 58) = 0))) 4))] μ1
            refine z_rcs hc hH 2 (pc' := 154) (lv' := [(4, .long (((((0 ||| (lb (decide ((μ.1 67 s) = 1)) 0)) ||| (lb (decide ((μ.1 67 s) = 2)) 1)) ||| (lb (!(decide ((μ.1 69 s) = 0))) 2)) ||| (lb ((decide ((lfM μ) = 0)) && (decide ((μ.1 50 58) = 0))) 4)) ||| (lb true 6))), (0, .ref 50), (1, .int (nI s)), (2, .int (nI c)), (3, .int 1)]) (st' := []) (μ' := μ1) (by rfl) ?_
            exact zJ hJ5 (by first | with_reducible rfl | (simp only [h15, lb_f, Int64.or_zero, Int32.add_zero, nB_t, nB_f, Bool.not_true, Bool.not_false, Bool.and_true, Bool.true_and, Bool.false_and, Bool.and_false, Bool.or_true, Bool.true_or, Bool.false_or, Bool.or_false, cond_true, cond_false]; done) | rfl) rfl rfl
        refine zq_if hc hH (by rfl) (tg := 105) (by rfl) (fun h16 => ?_) (fun h16 => ?_)
        · have h16 : (decide ((lfM μ) = 0)) = false := decide_eq_false (cm_ne.mp h16)
          exact zJ hJ4 (by first | with_reducible rfl | (simp only [h16, lb_f, Int64.or_zero, Int32.add_zero, nB_t, nB_f, Bool.not_true, Bool.not_false, Bool.and_true, Bool.true_and, Bool.false_and, Bool.and_false, Bool.or_true, Bool.true_or, Bool.false_or, Bool.or_false, cond_true, cond_false]; done) | rfl) rfl rfl
        · have h16 : (decide ((lfM μ) = 0)) = true := decide_eq_true (cn_ne.mp h16)
          refine z_rcs hc hH 1 (pc' := 90) (lv' := [(4, .long (((0 ||| (lb (decide ((μ.1 67 s) = 1)) 0)) ||| (lb (decide ((μ.1 67 s) = 2)) 1)) ||| (lb (!(decide ((μ.1 69 s) = 0))) 2))), (0, .ref 50), (1, .int (nI s)), (2, .int (nI c)), (3, .int 1)]) (st' := [.ref 50]) (μ' := μ1) (by rfl) ?_
          refine zq_gfi hc hH (by rfl) (ci := 6) (f := 58) (by rfl) (by decide +kernel) (by rfl) ?_
          rw [(hTs 50 58 (by omega)).1]
          refine zq_if hc hH (by rfl) (tg := 105) (by rfl) (fun h17 => ?_) (fun h17 => ?_)
          · have h17 : (decide ((μ.1 50 58) = 0)) = false := decide_eq_false (cm_ne.mp h17)
            exact zJ hJ4 (by first | with_reducible rfl | (simp only [h16, h17, lb_f, Int64.or_zero, Int32.add_zero, nB_t, nB_f, Bool.not_true, Bool.not_false, Bool.and_true, Bool.true_and, Bool.false_and, Bool.and_false, Bool.or_true, Bool.true_or, Bool.false_or, Bool.or_false, cond_true, cond_false]; done) | rfl) rfl rfl
          · have h17 : (decide ((μ.1 50 58) = 0)) = true := decide_eq_true (cn_ne.mp h17)
            refine z_rcs hc hH 2 (pc' := 99) (lv' := [(4, .long (((0 ||| (lb (decide ((μ.1 67 s) = 1)) 0)) ||| (lb (decide ((μ.1 67 s) = 2)) 1)) ||| (lb (!(decide ((μ.1 69 s) = 0))) 2))), (0, .ref 50), (1, .int (nI s)), (2, .int (nI c)), (3, .int 1)]) (st' := [.int 4, .long (((0 ||| (lb (decide ((μ.1 67 s) = 1)) 0)) ||| (lb (decide ((μ.1 67 s) = 2)) 1)) ||| (lb (!(decide ((μ.1 69 s) = 0))) 2))]) (μ' := μ1) (by rfl) ?_
            refine zq_call hc (z_cx_ok hH (by rfl)) (fb_X7_bit d' (by omega) μ1 4) (by decide +kernel) (fun r9 μ9 hq => ?_)
            obtain ⟨hμ9, rfl⟩ := hq
            rw [hμ9]
            clear hμ9 μ9
            show Z 0 102 [(4, .long (((0 ||| (lb (decide ((μ.1 67 s) = 1)) 0)) ||| (lb (decide ((μ.1 67 s) = 2)) 1)) ||| (lb (!(decide ((μ.1 69 s) = 0))) 2))), (0, .ref 50), (1, .int (nI s)), (2, .int (nI c)), (3, .int 1)] [.long (lb true 4), .long (((0 ||| (lb (decide ((μ.1 67 s) = 1)) 0)) ||| (lb (decide ((μ.1 67 s) = 2)) 1)) ||| (lb (!(decide ((μ.1 69 s) = 0))) 2))] μ1
            refine z_rcs hc hH 2 (pc' := 105) (lv' := [(4, .long ((((0 ||| (lb (decide ((μ.1 67 s) = 1)) 0)) ||| (lb (decide ((μ.1 67 s) = 2)) 1)) ||| (lb (!(decide ((μ.1 69 s) = 0))) 2)) ||| (lb true 4))), (0, .ref 50), (1, .int (nI s)), (2, .int (nI c)), (3, .int 1)]) (st' := []) (μ' := μ1) (by rfl) ?_
            exact zJ hJ4 (by first | with_reducible rfl | (simp only [h16, h17, lb_f, Int64.or_zero, Int32.add_zero, nB_t, nB_f, Bool.not_true, Bool.not_false, Bool.and_true, Bool.true_and, Bool.false_and, Bool.and_false, Bool.or_true, Bool.true_or, Bool.false_or, Bool.or_false, cond_true, cond_false]; done) | rfl) rfl rfl
      refine zq_if hc hH (by rfl) (tg := 78) (by rfl) (fun h18 => ?_) (fun h18 => ?_)
      · have h18 : (decide ((μ.1 69 s) = 0)) = true := decide_eq_true (cm_eq9.mp h18)
        exact zJ hJ3 (by first | with_reducible rfl | (simp only [h18, lb_f, Int64.or_zero, Int32.add_zero, nB_t, nB_f, Bool.not_true, Bool.not_false, Bool.and_true, Bool.true_and, Bool.false_and, Bool.and_false, Bool.or_true, Bool.true_or, Bool.false_or, Bool.or_false, cond_true, cond_false]; done) | rfl) rfl rfl
      · have h18 : (decide ((μ.1 69 s) = 0)) = false := decide_eq_false (cn_eq.mp h18)
        refine z_rcs hc hH 2 (pc' := 72) (lv' := [(4, .long ((0 ||| (lb (decide ((μ.1 67 s) = 1)) 0)) ||| (lb (decide ((μ.1 67 s) = 2)) 1))), (0, .ref 50), (1, .int (nI s)), (2, .int (nI c)), (3, .int 1)]) (st' := [.int 2, .long ((0 ||| (lb (decide ((μ.1 67 s) = 1)) 0)) ||| (lb (decide ((μ.1 67 s) = 2)) 1))]) (μ' := μ1) (by rfl) ?_
        refine zq_call hc (z_cx_ok hH (by rfl)) (fb_X7_bit d' (by omega) μ1 2) (by decide +kernel) (fun r9 μ9 hq => ?_)
        obtain ⟨hμ9, rfl⟩ := hq
        rw [hμ9]
        clear hμ9 μ9
        show Z 0 75 [(4, .long ((0 ||| (lb (decide ((μ.1 67 s) = 1)) 0)) ||| (lb (decide ((μ.1 67 s) = 2)) 1))), (0, .ref 50), (1, .int (nI s)), (2, .int (nI c)), (3, .int 1)] [.long (lb true 2), .long ((0 ||| (lb (decide ((μ.1 67 s) = 1)) 0)) ||| (lb (decide ((μ.1 67 s) = 2)) 1))] μ1
        refine z_rcs hc hH 2 (pc' := 78) (lv' := [(4, .long (((0 ||| (lb (decide ((μ.1 67 s) = 1)) 0)) ||| (lb (decide ((μ.1 67 s) = 2)) 1)) ||| (lb true 2))), (0, .ref 50), (1, .int (nI s)), (2, .int (nI c)), (3, .int 1)]) (st' := []) (μ' := μ1) (by rfl) ?_
        exact zJ hJ3 (by first | with_reducible rfl | (simp only [h18, lb_f, Int64.or_zero, Int32.add_zero, nB_t, nB_f, Bool.not_true, Bool.not_false, Bool.and_true, Bool.true_and, Bool.false_and, Bool.and_false, Bool.or_true, Bool.true_or, Bool.false_or, Bool.or_false, cond_true, cond_false]; done) | rfl) rfl rfl
    refine zq_ic hc hH (by rfl) (tg := 60) (by rfl) (fun h19 => ?_) (fun h19 => ?_)
    · have h19 : (decide ((μ.1 67 s) = 2)) = false := decide_eq_false (cm_ne.mp h19)
      exact zJ hJ2 (by first | with_reducible rfl | (simp only [h19, lb_f, Int64.or_zero, Int32.add_zero, nB_t, nB_f, Bool.not_true, Bool.not_false, Bool.and_true, Bool.true_and, Bool.false_and, Bool.and_false, Bool.or_true, Bool.true_or, Bool.false_or, Bool.or_false, cond_true, cond_false]; done) | rfl) rfl rfl
    · have h19 : (decide ((μ.1 67 s) = 2)) = true := decide_eq_true (cn_ne.mp h19)
      refine z_rcs hc hH 2 (pc' := 54) (lv' := [(4, .long (0 ||| (lb (decide ((μ.1 67 s) = 1)) 0))), (0, .ref 50), (1, .int (nI s)), (2, .int (nI c)), (3, .int 1)]) (st' := [.int 1, .long (0 ||| (lb (decide ((μ.1 67 s) = 1)) 0))]) (μ' := μ1) (by rfl) ?_
      refine zq_call hc (z_cx_ok hH (by rfl)) (fb_X7_bit d' (by omega) μ1 1) (by decide +kernel) (fun r9 μ9 hq => ?_)
      obtain ⟨hμ9, rfl⟩ := hq
      rw [hμ9]
      clear hμ9 μ9
      show Z 0 57 [(4, .long (0 ||| (lb (decide ((μ.1 67 s) = 1)) 0))), (0, .ref 50), (1, .int (nI s)), (2, .int (nI c)), (3, .int 1)] [.long (lb true 1), .long (0 ||| (lb (decide ((μ.1 67 s) = 1)) 0))] μ1
      refine z_rcs hc hH 2 (pc' := 60) (lv' := [(4, .long ((0 ||| (lb (decide ((μ.1 67 s) = 1)) 0)) ||| (lb true 1))), (0, .ref 50), (1, .int (nI s)), (2, .int (nI c)), (3, .int 1)]) (st' := []) (μ' := μ1) (by rfl) ?_
      exact zJ hJ2 (by first | with_reducible rfl | (simp only [h19, lb_f, Int64.or_zero, Int32.add_zero, nB_t, nB_f, Bool.not_true, Bool.not_false, Bool.and_true, Bool.true_and, Bool.false_and, Bool.and_false, Bool.or_true, Bool.true_or, Bool.false_or, Bool.or_false, cond_true, cond_false]; done) | rfl) rfl rfl
  refine zq_ic hc hH (by rfl) (tg := 41) (by rfl) (fun h20 => ?_) (fun h20 => ?_)
  · have h20 : (decide ((μ.1 67 s) = 1)) = false := decide_eq_false (cm_ne.mp h20)
    exact zJ hJ1 (by first | with_reducible rfl | (simp only [h20, lb_f, Int64.or_zero, Int32.add_zero, nB_t, nB_f, Bool.not_true, Bool.not_false, Bool.and_true, Bool.true_and, Bool.false_and, Bool.and_false, Bool.or_true, Bool.true_or, Bool.false_or, Bool.or_false, cond_true, cond_false]; done) | rfl) rfl rfl
  · have h20 : (decide ((μ.1 67 s) = 1)) = true := decide_eq_true (cn_ne.mp h20)
    refine z_rcs hc hH 2 (pc' := 35) (lv' := [(4, .long 0), (0, .ref 50), (1, .int (nI s)), (2, .int (nI c)), (3, .int 1)]) (st' := [.int 0, .long 0]) (μ' := μ1) (by rfl) ?_
    refine zq_call hc (z_cx_ok hH (by rfl)) (fb_X7_bit d' (by omega) μ1 0) (by decide +kernel) (fun r9 μ9 hq => ?_)
    obtain ⟨hμ9, rfl⟩ := hq
    rw [hμ9]
    clear hμ9 μ9
    show Z 0 38 [(4, .long 0), (0, .ref 50), (1, .int (nI s)), (2, .int (nI c)), (3, .int 1)] [.long (lb true 0), .long 0] μ1
    refine z_rcs hc hH 2 (pc' := 41) (lv' := [(4, .long (0 ||| (lb true 0))), (0, .ref 50), (1, .int (nI s)), (2, .int (nI c)), (3, .int 1)]) (st' := []) (μ' := μ1) (by rfl) ?_
    exact zJ hJ1 (by first | with_reducible rfl | (simp only [h20, lb_f, Int64.or_zero, Int32.add_zero, nB_t, nB_f, Bool.not_true, Bool.not_false, Bool.and_true, Bool.true_and, Bool.false_and, Bool.and_false, Bool.or_true, Bool.true_or, Bool.false_or, Bool.or_false, cond_true, cond_false]; done) | rfl) rfl rfl
/-! the game: records and payments of the reference -/
set_option maxRecDepth 8000
theorem gm_writes0 (d : Nat) (hd : 1 ≤ d) (μ : zM) (s pa k a1 a2 a3 : Int32) (a4 : Int64) (h1 : μ.1 50 13 = a1) (h2 : μ.1 50 14 = a2) (h3 : μ.1 50 15 = a3) (h4 : μ.2.1 50 17 = a4) : z_C d mi_X7_writes [.ref 50, .int 0, .int s, .int pa, .int k] μ (fun r μ' => r = none ∧ μ' = z_uj (z_ui (z_ui (z_ui (z_ui (z_ui (z_ui (z_ui μ 72 0 s) 72 1 pa) 72 2 a1) 72 3 a2) 72 4 a3) 72 5 0) 72 6 k) 73 0 a4) := by
  refine z_C_in (by decide) (by omega) (fun d' Z ed hc hr => ?_)
  have hH : zH mi_X7_writes zt_X7_writes 79 7 5 := hh_X7_writes
  refine z_rcs hc hH 1 (pc' := 1) (lv' := [(0, .ref 50), (1, .int 0), (2, .int s), (3, .int pa), (4, .int k)]) (st' := [.ref 50]) (μ' := μ) (by rfl) ?_
  refine zq_gfr hc hH (by rfl) (ci := 6) (f := 60) (q := 72) (by rfl) (by decide +kernel) (by rfl) (by decide +kernel) ?_
  refine z_rcs hc hH 4 (pc' := 9) (lv' := [(0, .ref 50), (1, .int 0), (2, .int s), (3, .int pa), (4, .int k)]) (st' := [.int s, .int 0, .ref 72]) (μ' := μ) (by rfl) ?_
  refine zq_iast hc hH (by rfl) 28 (oka_i (by decide +kernel)).2 (show vp_in (nI 0) 28 from vp_in_nI (by decide) (by decide)) ?_
  rw [show (0 : Int32).toNatClampNeg = 0 from rfl]
  show Z 0 10 [(0, .ref 50), (1, .int 0), (2, .int s), (3, .int pa), (4, .int k)] [] (z_ui μ 72 0 s)
  refine z_rcs hc hH 1 (pc' := 11) (lv' := [(0, .ref 50), (1, .int 0), (2, .int s), (3, .int pa), (4, .int k)]) (st' := [.ref 50]) (μ' := z_ui μ 72 0 s) (by rfl) ?_
  refine zq_gfr hc hH (by rfl) (ci := 6) (f := 60) (q := 72) (by rfl) (by decide +kernel) (by rfl) (by decide +kernel) ?_
  refine z_rcs hc hH 6 (pc' := 21) (lv' := [(0, .ref 50), (1, .int 0), (2, .int s), (3, .int pa), (4, .int k)]) (st' := [.int pa, .int 1, .ref 72]) (μ' := z_ui μ 72 0 s) (by rfl) ?_
  refine zq_iast hc hH (by rfl) 28 (oka_i (by decide +kernel)).2 (show vp_in (nI 1) 28 from vp_in_nI (by decide) (by decide)) ?_
  rw [show (1 : Int32).toNatClampNeg = 1 from rfl]
  show Z 0 22 [(0, .ref 50), (1, .int 0), (2, .int s), (3, .int pa), (4, .int k)] [] (z_ui (z_ui μ 72 0 s) 72 1 pa)
  refine z_rcs0 hc hH 1 (pc' := 23) (lv' := [(0, .ref 50), (1, .int 0), (2, .int s), (3, .int pa), (4, .int k)]) (st' := [.ref 50]) (by rfl) ?_
  refine zq_gfr hc hH (by rfl) (ci := 6) (f := 60) (q := 72) (by rfl) (by decide +kernel) (by rfl) (by decide +kernel) ?_
  refine z_rcs0 hc hH 6 (pc' := 33) (lv' := [(0, .ref 50), (1, .int 0), (2, .int s), (3, .int pa), (4, .int k)]) (st' := [.ref 50, .int 2, .ref 72]) (by rfl) ?_
  refine zq_gfi hc hH (by rfl) (ci := 6) (f := 13) (by rfl) (by decide +kernel) (by rfl) ?_
  refine zV1 (Z := Z) (Eq.trans (ui_o (by first | decide | omega)) (ui_o (by first | decide | omega))) ?_
  rw [h1]
  refine zq_iast hc hH (by rfl) 28 (oka_i (by decide +kernel)).2 (show vp_in (nI 2) 28 from vp_in_nI (by decide) (by decide)) ?_
  rw [show (2 : Int32).toNatClampNeg = 2 from rfl]
  show Z 0 37 [(0, .ref 50), (1, .int 0), (2, .int s), (3, .int pa), (4, .int k)] [] (z_ui (z_ui (z_ui μ 72 0 s) 72 1 pa) 72 2 a1)
  refine z_rcs0 hc hH 1 (pc' := 38) (lv' := [(0, .ref 50), (1, .int 0), (2, .int s), (3, .int pa), (4, .int k)]) (st' := [.ref 50]) (by rfl) ?_
  refine zq_gfr hc hH (by rfl) (ci := 6) (f := 60) (q := 72) (by rfl) (by decide +kernel) (by rfl) (by decide +kernel) ?_
  refine z_rcs0 hc hH 6 (pc' := 48) (lv' := [(0, .ref 50), (1, .int 0), (2, .int s), (3, .int pa), (4, .int k)]) (st' := [.ref 50, .int 3, .ref 72]) (by rfl) ?_
  refine zq_gfi hc hH (by rfl) (ci := 6) (f := 14) (by rfl) (by decide +kernel) (by rfl) ?_
  refine zV1 (Z := Z) (Eq.trans (ui_o (by first | decide | omega)) (Eq.trans (ui_o (by first | decide | omega)) (ui_o (by first | decide | omega)))) ?_
  rw [h2]
  refine zq_iast hc hH (by rfl) 28 (oka_i (by decide +kernel)).2 (show vp_in (nI 3) 28 from vp_in_nI (by decide) (by decide)) ?_
  rw [show (3 : Int32).toNatClampNeg = 3 from rfl]
  show Z 0 52 [(0, .ref 50), (1, .int 0), (2, .int s), (3, .int pa), (4, .int k)] [] (z_ui (z_ui (z_ui (z_ui μ 72 0 s) 72 1 pa) 72 2 a1) 72 3 a2)
  refine z_rcs0 hc hH 1 (pc' := 53) (lv' := [(0, .ref 50), (1, .int 0), (2, .int s), (3, .int pa), (4, .int k)]) (st' := [.ref 50]) (by rfl) ?_
  refine zq_gfr hc hH (by rfl) (ci := 6) (f := 60) (q := 72) (by rfl) (by decide +kernel) (by rfl) (by decide +kernel) ?_
  refine z_rcs0 hc hH 6 (pc' := 63) (lv' := [(0, .ref 50), (1, .int 0), (2, .int s), (3, .int pa), (4, .int k)]) (st' := [.ref 50, .int 4, .ref 72]) (by rfl) ?_
  refine zq_gfi hc hH (by rfl) (ci := 6) (f := 15) (by rfl) (by decide +kernel) (by rfl) ?_
  refine zV1 (Z := Z) (Eq.trans (ui_o (by first | decide | omega)) (Eq.trans (ui_o (by first | decide | omega)) (Eq.trans (ui_o (by first | decide | omega)) (ui_o (by first | decide | omega))))) ?_
  rw [h3]
  refine zq_iast hc hH (by rfl) 28 (oka_i (by decide +kernel)).2 (show vp_in (nI 4) 28 from vp_in_nI (by decide) (by decide)) ?_
  rw [show (4 : Int32).toNatClampNeg = 4 from rfl]
  show Z 0 67 [(0, .ref 50), (1, .int 0), (2, .int s), (3, .int pa), (4, .int k)] [] (z_ui (z_ui (z_ui (z_ui (z_ui μ 72 0 s) 72 1 pa) 72 2 a1) 72 3 a2) 72 4 a3)
  refine z_rcs0 hc hH 1 (pc' := 68) (lv' := [(0, .ref 50), (1, .int 0), (2, .int s), (3, .int pa), (4, .int k)]) (st' := [.ref 50]) (by rfl) ?_
  refine zq_gfr hc hH (by rfl) (ci := 6) (f := 60) (q := 72) (by rfl) (by decide +kernel) (by rfl) (by decide +kernel) ?_
  refine z_rcs0 hc hH 6 (pc' := 78) (lv' := [(0, .ref 50), (1, .int 0), (2, .int s), (3, .int pa), (4, .int k)]) (st' := [.int 0, .int 5, .ref 72]) (by rfl) ?_
  refine zq_iast hc hH (by rfl) 28 (oka_i (by decide +kernel)).2 (show vp_in (nI 5) 28 from vp_in_nI (by decide) (by decide)) ?_
  rw [show (5 : Int32).toNatClampNeg = 5 from rfl]
  show Z 0 79 [(0, .ref 50), (1, .int 0), (2, .int s), (3, .int pa), (4, .int k)] [] (z_ui (z_ui (z_ui (z_ui (z_ui (z_ui μ 72 0 s) 72 1 pa) 72 2 a1) 72 3 a2) 72 4 a3) 72 5 0)
  refine z_rcs0 hc hH 1 (pc' := 80) (lv' := [(0, .ref 50), (1, .int 0), (2, .int s), (3, .int pa), (4, .int k)]) (st' := [.ref 50]) (by rfl) ?_
  refine zq_gfr hc hH (by rfl) (ci := 6) (f := 60) (q := 72) (by rfl) (by decide +kernel) (by rfl) (by decide +kernel) ?_
  refine z_rcs0 hc hH 6 (pc' := 92) (lv' := [(0, .ref 50), (1, .int 0), (2, .int s), (3, .int pa), (4, .int k)]) (st' := [.int k, .int 6, .ref 72]) (by rfl) ?_
  refine zq_iast hc hH (by rfl) 28 (oka_i (by decide +kernel)).2 (show vp_in (nI 6) 28 from vp_in_nI (by decide) (by decide)) ?_
  rw [show (6 : Int32).toNatClampNeg = 6 from rfl]
  show Z 0 93 [(0, .ref 50), (1, .int 0), (2, .int s), (3, .int pa), (4, .int k)] [] (z_ui (z_ui (z_ui (z_ui (z_ui (z_ui (z_ui μ 72 0 s) 72 1 pa) 72 2 a1) 72 3 a2) 72 4 a3) 72 5 0) 72 6 k)
  refine z_rcs0 hc hH 1 (pc' := 94) (lv' := [(0, .ref 50), (1, .int 0), (2, .int s), (3, .int pa), (4, .int k)]) (st' := [.ref 50]) (by rfl) ?_
  refine zq_gfr hc hH (by rfl) (ci := 6) (f := 61) (q := 73) (by rfl) (by decide +kernel) (by rfl) (by decide +kernel) ?_
  refine z_rcs0 hc hH 2 (pc' := 99) (lv' := [(0, .ref 50), (1, .int 0), (2, .int s), (3, .int pa), (4, .int k)]) (st' := [.ref 50, .int 0, .ref 73]) (by rfl) ?_
  refine zq_gfl hc hH (by rfl) (ci := 6) (f := 17) (by rfl) (by decide +kernel) (by rfl) ?_
  rw [ui_j, ui_j, ui_j, ui_j, ui_j, ui_j, ui_j]
  refine zq_last hc hH (by rfl) 4 (by decide +kernel) (show vp_in (nI 0) 4 from vp_in_nI (by decide) (by decide)) ?_
  rw [show (0 : Int32).toNatClampNeg = 0 from rfl]
  show Z 0 103 [(0, .ref 50), (1, .int 0), (2, .int s), (3, .int pa), (4, .int k)] [] (z_uj (z_ui (z_ui (z_ui (z_ui (z_ui (z_ui (z_ui μ 72 0 s) 72 1 pa) 72 2 a1) 72 3 a2) 72 4 a3) 72 5 0) 72 6 k) 73 0 (μ.2.1 50 17))
  exact hr 0 103 _ _ _ none (by decide +kernel) (by rfl) (⟨rfl, by rw [h4]⟩)
theorem gm_writes1 (d : Nat) (hd : 1 ≤ d) (μ : zM) (s pa k a1 a2 a3 : Int32) (a4 : Int64) (h1 : μ.1 50 13 = a1) (h2 : μ.1 50 14 = a2) (h3 : μ.1 50 15 = a3) (h4 : μ.2.1 50 17 = a4) : z_C d mi_X7_writes [.ref 50, .int 1, .int s, .int pa, .int k] μ (fun r μ' => r = none ∧ μ' = z_uj (z_ui (z_ui (z_ui (z_ui (z_ui (z_ui (z_ui μ 72 7 s) 72 8 pa) 72 9 a1) 72 10 a2) 72 11 a3) 72 12 0) 72 13 k) 73 1 a4) := by
  refine z_C_in (by decide) (by omega) (fun d' Z ed hc hr => ?_)
  have hH : zH mi_X7_writes zt_X7_writes 79 7 5 := hh_X7_writes
  refine z_rcs hc hH 1 (pc' := 1) (lv' := [(0, .ref 50), (1, .int 1), (2, .int s), (3, .int pa), (4, .int k)]) (st' := [.ref 50]) (μ' := μ) (by rfl) ?_
  refine zq_gfr hc hH (by rfl) (ci := 6) (f := 60) (q := 72) (by rfl) (by decide +kernel) (by rfl) (by decide +kernel) ?_
  refine z_rcs hc hH 4 (pc' := 9) (lv' := [(0, .ref 50), (1, .int 1), (2, .int s), (3, .int pa), (4, .int k)]) (st' := [.int s, .int 7, .ref 72]) (μ' := μ) (by rfl) ?_
  refine zq_iast hc hH (by rfl) 28 (oka_i (by decide +kernel)).2 (show vp_in (nI 7) 28 from vp_in_nI (by decide) (by decide)) ?_
  rw [show (7 : Int32).toNatClampNeg = 7 from rfl]
  show Z 0 10 [(0, .ref 50), (1, .int 1), (2, .int s), (3, .int pa), (4, .int k)] [] (z_ui μ 72 7 s)
  refine z_rcs hc hH 1 (pc' := 11) (lv' := [(0, .ref 50), (1, .int 1), (2, .int s), (3, .int pa), (4, .int k)]) (st' := [.ref 50]) (μ' := z_ui μ 72 7 s) (by rfl) ?_
  refine zq_gfr hc hH (by rfl) (ci := 6) (f := 60) (q := 72) (by rfl) (by decide +kernel) (by rfl) (by decide +kernel) ?_
  refine z_rcs hc hH 6 (pc' := 21) (lv' := [(0, .ref 50), (1, .int 1), (2, .int s), (3, .int pa), (4, .int k)]) (st' := [.int pa, .int 8, .ref 72]) (μ' := z_ui μ 72 7 s) (by rfl) ?_
  refine zq_iast hc hH (by rfl) 28 (oka_i (by decide +kernel)).2 (show vp_in (nI 8) 28 from vp_in_nI (by decide) (by decide)) ?_
  rw [show (8 : Int32).toNatClampNeg = 8 from rfl]
  show Z 0 22 [(0, .ref 50), (1, .int 1), (2, .int s), (3, .int pa), (4, .int k)] [] (z_ui (z_ui μ 72 7 s) 72 8 pa)
  refine z_rcs0 hc hH 1 (pc' := 23) (lv' := [(0, .ref 50), (1, .int 1), (2, .int s), (3, .int pa), (4, .int k)]) (st' := [.ref 50]) (by rfl) ?_
  refine zq_gfr hc hH (by rfl) (ci := 6) (f := 60) (q := 72) (by rfl) (by decide +kernel) (by rfl) (by decide +kernel) ?_
  refine z_rcs0 hc hH 6 (pc' := 33) (lv' := [(0, .ref 50), (1, .int 1), (2, .int s), (3, .int pa), (4, .int k)]) (st' := [.ref 50, .int 9, .ref 72]) (by rfl) ?_
  refine zq_gfi hc hH (by rfl) (ci := 6) (f := 13) (by rfl) (by decide +kernel) (by rfl) ?_
  refine zV1 (Z := Z) (Eq.trans (ui_o (by first | decide | omega)) (ui_o (by first | decide | omega))) ?_
  rw [h1]
  refine zq_iast hc hH (by rfl) 28 (oka_i (by decide +kernel)).2 (show vp_in (nI 9) 28 from vp_in_nI (by decide) (by decide)) ?_
  rw [show (9 : Int32).toNatClampNeg = 9 from rfl]
  show Z 0 37 [(0, .ref 50), (1, .int 1), (2, .int s), (3, .int pa), (4, .int k)] [] (z_ui (z_ui (z_ui μ 72 7 s) 72 8 pa) 72 9 a1)
  refine z_rcs0 hc hH 1 (pc' := 38) (lv' := [(0, .ref 50), (1, .int 1), (2, .int s), (3, .int pa), (4, .int k)]) (st' := [.ref 50]) (by rfl) ?_
  refine zq_gfr hc hH (by rfl) (ci := 6) (f := 60) (q := 72) (by rfl) (by decide +kernel) (by rfl) (by decide +kernel) ?_
  refine z_rcs0 hc hH 6 (pc' := 48) (lv' := [(0, .ref 50), (1, .int 1), (2, .int s), (3, .int pa), (4, .int k)]) (st' := [.ref 50, .int 10, .ref 72]) (by rfl) ?_
  refine zq_gfi hc hH (by rfl) (ci := 6) (f := 14) (by rfl) (by decide +kernel) (by rfl) ?_
  refine zV1 (Z := Z) (Eq.trans (ui_o (by first | decide | omega)) (Eq.trans (ui_o (by first | decide | omega)) (ui_o (by first | decide | omega)))) ?_
  rw [h2]
  refine zq_iast hc hH (by rfl) 28 (oka_i (by decide +kernel)).2 (show vp_in (nI 10) 28 from vp_in_nI (by decide) (by decide)) ?_
  rw [show (10 : Int32).toNatClampNeg = 10 from rfl]
  show Z 0 52 [(0, .ref 50), (1, .int 1), (2, .int s), (3, .int pa), (4, .int k)] [] (z_ui (z_ui (z_ui (z_ui μ 72 7 s) 72 8 pa) 72 9 a1) 72 10 a2)
  refine z_rcs0 hc hH 1 (pc' := 53) (lv' := [(0, .ref 50), (1, .int 1), (2, .int s), (3, .int pa), (4, .int k)]) (st' := [.ref 50]) (by rfl) ?_
  refine zq_gfr hc hH (by rfl) (ci := 6) (f := 60) (q := 72) (by rfl) (by decide +kernel) (by rfl) (by decide +kernel) ?_
  refine z_rcs0 hc hH 6 (pc' := 63) (lv' := [(0, .ref 50), (1, .int 1), (2, .int s), (3, .int pa), (4, .int k)]) (st' := [.ref 50, .int 11, .ref 72]) (by rfl) ?_
  refine zq_gfi hc hH (by rfl) (ci := 6) (f := 15) (by rfl) (by decide +kernel) (by rfl) ?_
  refine zV1 (Z := Z) (Eq.trans (ui_o (by first | decide | omega)) (Eq.trans (ui_o (by first | decide | omega)) (Eq.trans (ui_o (by first | decide | omega)) (ui_o (by first | decide | omega))))) ?_
  rw [h3]
  refine zq_iast hc hH (by rfl) 28 (oka_i (by decide +kernel)).2 (show vp_in (nI 11) 28 from vp_in_nI (by decide) (by decide)) ?_
  rw [show (11 : Int32).toNatClampNeg = 11 from rfl]
  show Z 0 67 [(0, .ref 50), (1, .int 1), (2, .int s), (3, .int pa), (4, .int k)] [] (z_ui (z_ui (z_ui (z_ui (z_ui μ 72 7 s) 72 8 pa) 72 9 a1) 72 10 a2) 72 11 a3)
  refine z_rcs0 hc hH 1 (pc' := 68) (lv' := [(0, .ref 50), (1, .int 1), (2, .int s), (3, .int pa), (4, .int k)]) (st' := [.ref 50]) (by rfl) ?_
  refine zq_gfr hc hH (by rfl) (ci := 6) (f := 60) (q := 72) (by rfl) (by decide +kernel) (by rfl) (by decide +kernel) ?_
  refine z_rcs0 hc hH 6 (pc' := 78) (lv' := [(0, .ref 50), (1, .int 1), (2, .int s), (3, .int pa), (4, .int k)]) (st' := [.int 0, .int 12, .ref 72]) (by rfl) ?_
  refine zq_iast hc hH (by rfl) 28 (oka_i (by decide +kernel)).2 (show vp_in (nI 12) 28 from vp_in_nI (by decide) (by decide)) ?_
  rw [show (12 : Int32).toNatClampNeg = 12 from rfl]
  show Z 0 79 [(0, .ref 50), (1, .int 1), (2, .int s), (3, .int pa), (4, .int k)] [] (z_ui (z_ui (z_ui (z_ui (z_ui (z_ui μ 72 7 s) 72 8 pa) 72 9 a1) 72 10 a2) 72 11 a3) 72 12 0)
  refine z_rcs0 hc hH 1 (pc' := 80) (lv' := [(0, .ref 50), (1, .int 1), (2, .int s), (3, .int pa), (4, .int k)]) (st' := [.ref 50]) (by rfl) ?_
  refine zq_gfr hc hH (by rfl) (ci := 6) (f := 60) (q := 72) (by rfl) (by decide +kernel) (by rfl) (by decide +kernel) ?_
  refine z_rcs0 hc hH 6 (pc' := 92) (lv' := [(0, .ref 50), (1, .int 1), (2, .int s), (3, .int pa), (4, .int k)]) (st' := [.int k, .int 13, .ref 72]) (by rfl) ?_
  refine zq_iast hc hH (by rfl) 28 (oka_i (by decide +kernel)).2 (show vp_in (nI 13) 28 from vp_in_nI (by decide) (by decide)) ?_
  rw [show (13 : Int32).toNatClampNeg = 13 from rfl]
  show Z 0 93 [(0, .ref 50), (1, .int 1), (2, .int s), (3, .int pa), (4, .int k)] [] (z_ui (z_ui (z_ui (z_ui (z_ui (z_ui (z_ui μ 72 7 s) 72 8 pa) 72 9 a1) 72 10 a2) 72 11 a3) 72 12 0) 72 13 k)
  refine z_rcs0 hc hH 1 (pc' := 94) (lv' := [(0, .ref 50), (1, .int 1), (2, .int s), (3, .int pa), (4, .int k)]) (st' := [.ref 50]) (by rfl) ?_
  refine zq_gfr hc hH (by rfl) (ci := 6) (f := 61) (q := 73) (by rfl) (by decide +kernel) (by rfl) (by decide +kernel) ?_
  refine z_rcs0 hc hH 2 (pc' := 99) (lv' := [(0, .ref 50), (1, .int 1), (2, .int s), (3, .int pa), (4, .int k)]) (st' := [.ref 50, .int 1, .ref 73]) (by rfl) ?_
  refine zq_gfl hc hH (by rfl) (ci := 6) (f := 17) (by rfl) (by decide +kernel) (by rfl) ?_
  rw [ui_j, ui_j, ui_j, ui_j, ui_j, ui_j, ui_j]
  refine zq_last hc hH (by rfl) 4 (by decide +kernel) (show vp_in (nI 1) 4 from vp_in_nI (by decide) (by decide)) ?_
  rw [show (1 : Int32).toNatClampNeg = 1 from rfl]
  show Z 0 103 [(0, .ref 50), (1, .int 1), (2, .int s), (3, .int pa), (4, .int k)] [] (z_uj (z_ui (z_ui (z_ui (z_ui (z_ui (z_ui (z_ui μ 72 7 s) 72 8 pa) 72 9 a1) 72 10 a2) 72 11 a3) 72 12 0) 72 13 k) 73 1 (μ.2.1 50 17))
  exact hr 0 103 _ _ _ none (by decide +kernel) (by rfl) (⟨rfl, by rw [h4]⟩)
theorem gm_writes2 (d : Nat) (hd : 1 ≤ d) (μ : zM) (s pa k a1 a2 a3 : Int32) (a4 : Int64) (h1 : μ.1 50 13 = a1) (h2 : μ.1 50 14 = a2) (h3 : μ.1 50 15 = a3) (h4 : μ.2.1 50 17 = a4) : z_C d mi_X7_writes [.ref 50, .int 2, .int s, .int pa, .int k] μ (fun r μ' => r = none ∧ μ' = z_uj (z_ui (z_ui (z_ui (z_ui (z_ui (z_ui (z_ui μ 72 14 s) 72 15 pa) 72 16 a1) 72 17 a2) 72 18 a3) 72 19 0) 72 20 k) 73 2 a4) := by
  refine z_C_in (by decide) (by omega) (fun d' Z ed hc hr => ?_)
  have hH : zH mi_X7_writes zt_X7_writes 79 7 5 := hh_X7_writes
  refine z_rcs hc hH 1 (pc' := 1) (lv' := [(0, .ref 50), (1, .int 2), (2, .int s), (3, .int pa), (4, .int k)]) (st' := [.ref 50]) (μ' := μ) (by rfl) ?_
  refine zq_gfr hc hH (by rfl) (ci := 6) (f := 60) (q := 72) (by rfl) (by decide +kernel) (by rfl) (by decide +kernel) ?_
  refine z_rcs hc hH 4 (pc' := 9) (lv' := [(0, .ref 50), (1, .int 2), (2, .int s), (3, .int pa), (4, .int k)]) (st' := [.int s, .int 14, .ref 72]) (μ' := μ) (by rfl) ?_
  refine zq_iast hc hH (by rfl) 28 (oka_i (by decide +kernel)).2 (show vp_in (nI 14) 28 from vp_in_nI (by decide) (by decide)) ?_
  rw [show (14 : Int32).toNatClampNeg = 14 from rfl]
  show Z 0 10 [(0, .ref 50), (1, .int 2), (2, .int s), (3, .int pa), (4, .int k)] [] (z_ui μ 72 14 s)
  refine z_rcs hc hH 1 (pc' := 11) (lv' := [(0, .ref 50), (1, .int 2), (2, .int s), (3, .int pa), (4, .int k)]) (st' := [.ref 50]) (μ' := z_ui μ 72 14 s) (by rfl) ?_
  refine zq_gfr hc hH (by rfl) (ci := 6) (f := 60) (q := 72) (by rfl) (by decide +kernel) (by rfl) (by decide +kernel) ?_
  refine z_rcs hc hH 6 (pc' := 21) (lv' := [(0, .ref 50), (1, .int 2), (2, .int s), (3, .int pa), (4, .int k)]) (st' := [.int pa, .int 15, .ref 72]) (μ' := z_ui μ 72 14 s) (by rfl) ?_
  refine zq_iast hc hH (by rfl) 28 (oka_i (by decide +kernel)).2 (show vp_in (nI 15) 28 from vp_in_nI (by decide) (by decide)) ?_
  rw [show (15 : Int32).toNatClampNeg = 15 from rfl]
  show Z 0 22 [(0, .ref 50), (1, .int 2), (2, .int s), (3, .int pa), (4, .int k)] [] (z_ui (z_ui μ 72 14 s) 72 15 pa)
  refine z_rcs0 hc hH 1 (pc' := 23) (lv' := [(0, .ref 50), (1, .int 2), (2, .int s), (3, .int pa), (4, .int k)]) (st' := [.ref 50]) (by rfl) ?_
  refine zq_gfr hc hH (by rfl) (ci := 6) (f := 60) (q := 72) (by rfl) (by decide +kernel) (by rfl) (by decide +kernel) ?_
  refine z_rcs0 hc hH 6 (pc' := 33) (lv' := [(0, .ref 50), (1, .int 2), (2, .int s), (3, .int pa), (4, .int k)]) (st' := [.ref 50, .int 16, .ref 72]) (by rfl) ?_
  refine zq_gfi hc hH (by rfl) (ci := 6) (f := 13) (by rfl) (by decide +kernel) (by rfl) ?_
  refine zV1 (Z := Z) (Eq.trans (ui_o (by first | decide | omega)) (ui_o (by first | decide | omega))) ?_
  rw [h1]
  refine zq_iast hc hH (by rfl) 28 (oka_i (by decide +kernel)).2 (show vp_in (nI 16) 28 from vp_in_nI (by decide) (by decide)) ?_
  rw [show (16 : Int32).toNatClampNeg = 16 from rfl]
  show Z 0 37 [(0, .ref 50), (1, .int 2), (2, .int s), (3, .int pa), (4, .int k)] [] (z_ui (z_ui (z_ui μ 72 14 s) 72 15 pa) 72 16 a1)
  refine z_rcs0 hc hH 1 (pc' := 38) (lv' := [(0, .ref 50), (1, .int 2), (2, .int s), (3, .int pa), (4, .int k)]) (st' := [.ref 50]) (by rfl) ?_
  refine zq_gfr hc hH (by rfl) (ci := 6) (f := 60) (q := 72) (by rfl) (by decide +kernel) (by rfl) (by decide +kernel) ?_
  refine z_rcs0 hc hH 6 (pc' := 48) (lv' := [(0, .ref 50), (1, .int 2), (2, .int s), (3, .int pa), (4, .int k)]) (st' := [.ref 50, .int 17, .ref 72]) (by rfl) ?_
  refine zq_gfi hc hH (by rfl) (ci := 6) (f := 14) (by rfl) (by decide +kernel) (by rfl) ?_
  refine zV1 (Z := Z) (Eq.trans (ui_o (by first | decide | omega)) (Eq.trans (ui_o (by first | decide | omega)) (ui_o (by first | decide | omega)))) ?_
  rw [h2]
  refine zq_iast hc hH (by rfl) 28 (oka_i (by decide +kernel)).2 (show vp_in (nI 17) 28 from vp_in_nI (by decide) (by decide)) ?_
  rw [show (17 : Int32).toNatClampNeg = 17 from rfl]
  show Z 0 52 [(0, .ref 50), (1, .int 2), (2, .int s), (3, .int pa), (4, .int k)] [] (z_ui (z_ui (z_ui (z_ui μ 72 14 s) 72 15 pa) 72 16 a1) 72 17 a2)
  refine z_rcs0 hc hH 1 (pc' := 53) (lv' := [(0, .ref 50), (1, .int 2), (2, .int s), (3, .int pa), (4, .int k)]) (st' := [.ref 50]) (by rfl) ?_
  refine zq_gfr hc hH (by rfl) (ci := 6) (f := 60) (q := 72) (by rfl) (by decide +kernel) (by rfl) (by decide +kernel) ?_
  refine z_rcs0 hc hH 6 (pc' := 63) (lv' := [(0, .ref 50), (1, .int 2), (2, .int s), (3, .int pa), (4, .int k)]) (st' := [.ref 50, .int 18, .ref 72]) (by rfl) ?_
  refine zq_gfi hc hH (by rfl) (ci := 6) (f := 15) (by rfl) (by decide +kernel) (by rfl) ?_
  refine zV1 (Z := Z) (Eq.trans (ui_o (by first | decide | omega)) (Eq.trans (ui_o (by first | decide | omega)) (Eq.trans (ui_o (by first | decide | omega)) (ui_o (by first | decide | omega))))) ?_
  rw [h3]
  refine zq_iast hc hH (by rfl) 28 (oka_i (by decide +kernel)).2 (show vp_in (nI 18) 28 from vp_in_nI (by decide) (by decide)) ?_
  rw [show (18 : Int32).toNatClampNeg = 18 from rfl]
  show Z 0 67 [(0, .ref 50), (1, .int 2), (2, .int s), (3, .int pa), (4, .int k)] [] (z_ui (z_ui (z_ui (z_ui (z_ui μ 72 14 s) 72 15 pa) 72 16 a1) 72 17 a2) 72 18 a3)
  refine z_rcs0 hc hH 1 (pc' := 68) (lv' := [(0, .ref 50), (1, .int 2), (2, .int s), (3, .int pa), (4, .int k)]) (st' := [.ref 50]) (by rfl) ?_
  refine zq_gfr hc hH (by rfl) (ci := 6) (f := 60) (q := 72) (by rfl) (by decide +kernel) (by rfl) (by decide +kernel) ?_
  refine z_rcs0 hc hH 6 (pc' := 78) (lv' := [(0, .ref 50), (1, .int 2), (2, .int s), (3, .int pa), (4, .int k)]) (st' := [.int 0, .int 19, .ref 72]) (by rfl) ?_
  refine zq_iast hc hH (by rfl) 28 (oka_i (by decide +kernel)).2 (show vp_in (nI 19) 28 from vp_in_nI (by decide) (by decide)) ?_
  rw [show (19 : Int32).toNatClampNeg = 19 from rfl]
  show Z 0 79 [(0, .ref 50), (1, .int 2), (2, .int s), (3, .int pa), (4, .int k)] [] (z_ui (z_ui (z_ui (z_ui (z_ui (z_ui μ 72 14 s) 72 15 pa) 72 16 a1) 72 17 a2) 72 18 a3) 72 19 0)
  refine z_rcs0 hc hH 1 (pc' := 80) (lv' := [(0, .ref 50), (1, .int 2), (2, .int s), (3, .int pa), (4, .int k)]) (st' := [.ref 50]) (by rfl) ?_
  refine zq_gfr hc hH (by rfl) (ci := 6) (f := 60) (q := 72) (by rfl) (by decide +kernel) (by rfl) (by decide +kernel) ?_
  refine z_rcs0 hc hH 6 (pc' := 92) (lv' := [(0, .ref 50), (1, .int 2), (2, .int s), (3, .int pa), (4, .int k)]) (st' := [.int k, .int 20, .ref 72]) (by rfl) ?_
  refine zq_iast hc hH (by rfl) 28 (oka_i (by decide +kernel)).2 (show vp_in (nI 20) 28 from vp_in_nI (by decide) (by decide)) ?_
  rw [show (20 : Int32).toNatClampNeg = 20 from rfl]
  show Z 0 93 [(0, .ref 50), (1, .int 2), (2, .int s), (3, .int pa), (4, .int k)] [] (z_ui (z_ui (z_ui (z_ui (z_ui (z_ui (z_ui μ 72 14 s) 72 15 pa) 72 16 a1) 72 17 a2) 72 18 a3) 72 19 0) 72 20 k)
  refine z_rcs0 hc hH 1 (pc' := 94) (lv' := [(0, .ref 50), (1, .int 2), (2, .int s), (3, .int pa), (4, .int k)]) (st' := [.ref 50]) (by rfl) ?_
  refine zq_gfr hc hH (by rfl) (ci := 6) (f := 61) (q := 73) (by rfl) (by decide +kernel) (by rfl) (by decide +kernel) ?_
  refine z_rcs0 hc hH 2 (pc' := 99) (lv' := [(0, .ref 50), (1, .int 2), (2, .int s), (3, .int pa), (4, .int k)]) (st' := [.ref 50, .int 2, .ref 73]) (by rfl) ?_
  refine zq_gfl hc hH (by rfl) (ci := 6) (f := 17) (by rfl) (by decide +kernel) (by rfl) ?_
  rw [ui_j, ui_j, ui_j, ui_j, ui_j, ui_j, ui_j]
  refine zq_last hc hH (by rfl) 4 (by decide +kernel) (show vp_in (nI 2) 4 from vp_in_nI (by decide) (by decide)) ?_
  rw [show (2 : Int32).toNatClampNeg = 2 from rfl]
  show Z 0 103 [(0, .ref 50), (1, .int 2), (2, .int s), (3, .int pa), (4, .int k)] [] (z_uj (z_ui (z_ui (z_ui (z_ui (z_ui (z_ui (z_ui μ 72 14 s) 72 15 pa) 72 16 a1) 72 17 a2) 72 18 a3) 72 19 0) 72 20 k) 73 2 (μ.2.1 50 17))
  exact hr 0 103 _ _ _ none (by decide +kernel) (by rfl) (⟨rfl, by rw [h4]⟩)
theorem gm_pays0 (d : Nat) (hd : 1 ≤ d) (μ : zM) (b s : Nat) (n x y z : Int32) (hb : b < 4) (hs : s < 4) (hbs : b ≠ s) (e0 : μ.1 72 0 = nI s) (hx : μ.1 61 b = x) (hy : μ.1 61 s = y) (hz : μ.1 72 5 = z) : z_C d mi_X7_pays [.ref 50, .int (nI b), .int 0, .int n] μ (fun r μ' => r = none ∧ μ' = z_ui (z_ui (z_ui μ 61 b (x - n)) 61 s (y + n)) 72 5 (z + n)) := by
  refine z_C_in (by decide) (by omega) (fun d' Z ed hc hr => ?_)
  have hH : zH mi_X7_pays zt_X7_pays 79 7 4 := hh_X7_pays
  refine z_rcs hc hH 1 (pc' := 1) (lv' := [(0, .ref 50), (1, .int (nI b)), (2, .int 0), (3, .int n)]) (st' := [.ref 50]) (μ' := μ) (by rfl) ?_
  refine zq_gfr hc hH (by rfl) (ci := 6) (f := 29) (q := 61) (by rfl) (by decide +kernel) (by rfl) (by decide +kernel) ?_
  refine z_rcs hc hH 2 (pc' := 6) (lv' := [(0, .ref 50), (1, .int (nI b)), (2, .int 0), (3, .int n)]) (st' := [.int (nI b), .ref 61, .int (nI b), .ref 61]) (μ' := μ) (by rfl) ?_
  refine zq_iald hc hH (by rfl) 4 (oka_i (by decide +kernel)) (vp_in_nI (by omega) (by decide)) ?_
  rw [nI_clamp (by omega)]
  rw [hx]
  refine z_rcs hc hH 2 (pc' := 9) (lv' := [(0, .ref 50), (1, .int (nI b)), (2, .int 0), (3, .int n)]) (st' := [.int (x - n), .int (nI b), .ref 61]) (μ' := μ) (by rfl) ?_
  refine zq_iast hc hH (by rfl) 4 (oka_i (by decide +kernel)).2 (vp_in_nI (by omega) (by decide)) ?_
  rw [nI_clamp (by omega)]
  show Z 0 10 [(0, .ref 50), (1, .int (nI b)), (2, .int 0), (3, .int n)] [] (z_ui μ 61 b (x - n))
  refine z_rcs hc hH 1 (pc' := 11) (lv' := [(0, .ref 50), (1, .int (nI b)), (2, .int 0), (3, .int n)]) (st' := [.ref 50]) (μ' := z_ui μ 61 b (x - n)) (by rfl) ?_
  refine zq_gfr hc hH (by rfl) (ci := 6) (f := 29) (q := 61) (by rfl) (by decide +kernel) (by rfl) (by decide +kernel) ?_
  refine z_rcs hc hH 1 (pc' := 15) (lv' := [(0, .ref 50), (1, .int (nI b)), (2, .int 0), (3, .int n)]) (st' := [.ref 50, .ref 61]) (μ' := z_ui μ 61 b (x - n)) (by rfl) ?_
  refine zq_gfr hc hH (by rfl) (ci := 6) (f := 60) (q := 72) (by rfl) (by decide +kernel) (by rfl) (by decide +kernel) ?_
  refine z_rcs hc hH 3 (pc' := 22) (lv' := [(0, .ref 50), (1, .int (nI b)), (2, .int 0), (3, .int n)]) (st' := [.int 0, .ref 72, .ref 61]) (μ' := z_ui μ 61 b (x - n)) (by rfl) ?_
  refine zq_iald hc hH (by rfl) 28 (oka_i (by decide +kernel)) (show vp_in (nI 0) 28 from vp_in_nI (by decide) (by decide)) ?_
  rw [show (0 : Int32).toNatClampNeg = 0 from rfl]
  refine zV1 (Z := Z) (ui_o (by first | decide | omega)) ?_
  rw [e0]
  refine z_rcs hc hH 1 (pc' := 24) (lv' := [(0, .ref 50), (1, .int (nI b)), (2, .int 0), (3, .int n)]) (st' := [.int (nI s), .ref 61, .int (nI s), .ref 61]) (μ' := z_ui μ 61 b (x - n)) (by rfl) ?_
  refine zq_iald hc hH (by rfl) 4 (oka_i (by decide +kernel)) (vp_in_nI (by omega) (by decide)) ?_
  rw [nI_clamp (by omega)]
  refine zV1 (Z := Z) (ui_k (by first | decide | omega)) ?_
  rw [hy]
  refine z_rcs hc hH 2 (pc' := 27) (lv' := [(0, .ref 50), (1, .int (nI b)), (2, .int 0), (3, .int n)]) (st' := [.int (y + n), .int (nI s), .ref 61]) (μ' := z_ui μ 61 b (x - n)) (by rfl) ?_
  refine zq_iast hc hH (by rfl) 4 (oka_i (by decide +kernel)).2 (vp_in_nI (by omega) (by decide)) ?_
  rw [nI_clamp (by omega)]
  show Z 0 28 [(0, .ref 50), (1, .int (nI b)), (2, .int 0), (3, .int n)] [] (z_ui (z_ui μ 61 b (x - n)) 61 s (y + n))
  refine z_rcs0 hc hH 1 (pc' := 29) (lv' := [(0, .ref 50), (1, .int (nI b)), (2, .int 0), (3, .int n)]) (st' := [.ref 50]) (by rfl) ?_
  refine zq_gfr hc hH (by rfl) (ci := 6) (f := 60) (q := 72) (by rfl) (by decide +kernel) (by rfl) (by decide +kernel) ?_
  refine z_rcs0 hc hH 6 (pc' := 39) (lv' := [(0, .ref 50), (1, .int (nI b)), (2, .int 0), (3, .int n)]) (st' := [.int 5, .ref 72, .int 5, .ref 72]) (by rfl) ?_
  refine zq_iald hc hH (by rfl) 28 (oka_i (by decide +kernel)) (show vp_in (nI 5) 28 from vp_in_nI (by decide) (by decide)) ?_
  rw [show (5 : Int32).toNatClampNeg = 5 from rfl]
  refine zV1 (Z := Z) (Eq.trans (ui_o (by first | decide | omega)) (ui_o (by first | decide | omega))) ?_
  rw [hz]
  refine z_rcs0 hc hH 2 (pc' := 42) (lv' := [(0, .ref 50), (1, .int (nI b)), (2, .int 0), (3, .int n)]) (st' := [.int (z + n), .int 5, .ref 72]) (by rfl) ?_
  refine zq_iast hc hH (by rfl) 28 (oka_i (by decide +kernel)).2 (show vp_in (nI 5) 28 from vp_in_nI (by decide) (by decide)) ?_
  rw [show (5 : Int32).toNatClampNeg = 5 from rfl]
  show Z 0 43 [(0, .ref 50), (1, .int (nI b)), (2, .int 0), (3, .int n)] [] (z_ui (z_ui (z_ui μ 61 b (x - n)) 61 s (y + n)) 72 5 (z + n))
  exact hr 0 43 _ _ _ none (by decide +kernel) (by rfl) (⟨rfl, rfl⟩)
theorem gm_pays1 (d : Nat) (hd : 1 ≤ d) (μ : zM) (b s : Nat) (n x y z : Int32) (hb : b < 4) (hs : s < 4) (hbs : b ≠ s) (e0 : μ.1 72 7 = nI s) (hx : μ.1 61 b = x) (hy : μ.1 61 s = y) (hz : μ.1 72 12 = z) : z_C d mi_X7_pays [.ref 50, .int (nI b), .int 1, .int n] μ (fun r μ' => r = none ∧ μ' = z_ui (z_ui (z_ui μ 61 b (x - n)) 61 s (y + n)) 72 12 (z + n)) := by
  refine z_C_in (by decide) (by omega) (fun d' Z ed hc hr => ?_)
  have hH : zH mi_X7_pays zt_X7_pays 79 7 4 := hh_X7_pays
  refine z_rcs hc hH 1 (pc' := 1) (lv' := [(0, .ref 50), (1, .int (nI b)), (2, .int 1), (3, .int n)]) (st' := [.ref 50]) (μ' := μ) (by rfl) ?_
  refine zq_gfr hc hH (by rfl) (ci := 6) (f := 29) (q := 61) (by rfl) (by decide +kernel) (by rfl) (by decide +kernel) ?_
  refine z_rcs hc hH 2 (pc' := 6) (lv' := [(0, .ref 50), (1, .int (nI b)), (2, .int 1), (3, .int n)]) (st' := [.int (nI b), .ref 61, .int (nI b), .ref 61]) (μ' := μ) (by rfl) ?_
  refine zq_iald hc hH (by rfl) 4 (oka_i (by decide +kernel)) (vp_in_nI (by omega) (by decide)) ?_
  rw [nI_clamp (by omega)]
  rw [hx]
  refine z_rcs hc hH 2 (pc' := 9) (lv' := [(0, .ref 50), (1, .int (nI b)), (2, .int 1), (3, .int n)]) (st' := [.int (x - n), .int (nI b), .ref 61]) (μ' := μ) (by rfl) ?_
  refine zq_iast hc hH (by rfl) 4 (oka_i (by decide +kernel)).2 (vp_in_nI (by omega) (by decide)) ?_
  rw [nI_clamp (by omega)]
  show Z 0 10 [(0, .ref 50), (1, .int (nI b)), (2, .int 1), (3, .int n)] [] (z_ui μ 61 b (x - n))
  refine z_rcs hc hH 1 (pc' := 11) (lv' := [(0, .ref 50), (1, .int (nI b)), (2, .int 1), (3, .int n)]) (st' := [.ref 50]) (μ' := z_ui μ 61 b (x - n)) (by rfl) ?_
  refine zq_gfr hc hH (by rfl) (ci := 6) (f := 29) (q := 61) (by rfl) (by decide +kernel) (by rfl) (by decide +kernel) ?_
  refine z_rcs hc hH 1 (pc' := 15) (lv' := [(0, .ref 50), (1, .int (nI b)), (2, .int 1), (3, .int n)]) (st' := [.ref 50, .ref 61]) (μ' := z_ui μ 61 b (x - n)) (by rfl) ?_
  refine zq_gfr hc hH (by rfl) (ci := 6) (f := 60) (q := 72) (by rfl) (by decide +kernel) (by rfl) (by decide +kernel) ?_
  refine z_rcs hc hH 3 (pc' := 22) (lv' := [(0, .ref 50), (1, .int (nI b)), (2, .int 1), (3, .int n)]) (st' := [.int 7, .ref 72, .ref 61]) (μ' := z_ui μ 61 b (x - n)) (by rfl) ?_
  refine zq_iald hc hH (by rfl) 28 (oka_i (by decide +kernel)) (show vp_in (nI 7) 28 from vp_in_nI (by decide) (by decide)) ?_
  rw [show (7 : Int32).toNatClampNeg = 7 from rfl]
  refine zV1 (Z := Z) (ui_o (by first | decide | omega)) ?_
  rw [e0]
  refine z_rcs hc hH 1 (pc' := 24) (lv' := [(0, .ref 50), (1, .int (nI b)), (2, .int 1), (3, .int n)]) (st' := [.int (nI s), .ref 61, .int (nI s), .ref 61]) (μ' := z_ui μ 61 b (x - n)) (by rfl) ?_
  refine zq_iald hc hH (by rfl) 4 (oka_i (by decide +kernel)) (vp_in_nI (by omega) (by decide)) ?_
  rw [nI_clamp (by omega)]
  refine zV1 (Z := Z) (ui_k (by first | decide | omega)) ?_
  rw [hy]
  refine z_rcs hc hH 2 (pc' := 27) (lv' := [(0, .ref 50), (1, .int (nI b)), (2, .int 1), (3, .int n)]) (st' := [.int (y + n), .int (nI s), .ref 61]) (μ' := z_ui μ 61 b (x - n)) (by rfl) ?_
  refine zq_iast hc hH (by rfl) 4 (oka_i (by decide +kernel)).2 (vp_in_nI (by omega) (by decide)) ?_
  rw [nI_clamp (by omega)]
  show Z 0 28 [(0, .ref 50), (1, .int (nI b)), (2, .int 1), (3, .int n)] [] (z_ui (z_ui μ 61 b (x - n)) 61 s (y + n))
  refine z_rcs0 hc hH 1 (pc' := 29) (lv' := [(0, .ref 50), (1, .int (nI b)), (2, .int 1), (3, .int n)]) (st' := [.ref 50]) (by rfl) ?_
  refine zq_gfr hc hH (by rfl) (ci := 6) (f := 60) (q := 72) (by rfl) (by decide +kernel) (by rfl) (by decide +kernel) ?_
  refine z_rcs0 hc hH 6 (pc' := 39) (lv' := [(0, .ref 50), (1, .int (nI b)), (2, .int 1), (3, .int n)]) (st' := [.int 12, .ref 72, .int 12, .ref 72]) (by rfl) ?_
  refine zq_iald hc hH (by rfl) 28 (oka_i (by decide +kernel)) (show vp_in (nI 12) 28 from vp_in_nI (by decide) (by decide)) ?_
  rw [show (12 : Int32).toNatClampNeg = 12 from rfl]
  refine zV1 (Z := Z) (Eq.trans (ui_o (by first | decide | omega)) (ui_o (by first | decide | omega))) ?_
  rw [hz]
  refine z_rcs0 hc hH 2 (pc' := 42) (lv' := [(0, .ref 50), (1, .int (nI b)), (2, .int 1), (3, .int n)]) (st' := [.int (z + n), .int 12, .ref 72]) (by rfl) ?_
  refine zq_iast hc hH (by rfl) 28 (oka_i (by decide +kernel)).2 (show vp_in (nI 12) 28 from vp_in_nI (by decide) (by decide)) ?_
  rw [show (12 : Int32).toNatClampNeg = 12 from rfl]
  show Z 0 43 [(0, .ref 50), (1, .int (nI b)), (2, .int 1), (3, .int n)] [] (z_ui (z_ui (z_ui μ 61 b (x - n)) 61 s (y + n)) 72 12 (z + n))
  exact hr 0 43 _ _ _ none (by decide +kernel) (by rfl) (⟨rfl, rfl⟩)
theorem gm_pays2 (d : Nat) (hd : 1 ≤ d) (μ : zM) (b s : Nat) (n x y z : Int32) (hb : b < 4) (hs : s < 4) (hbs : b ≠ s) (e0 : μ.1 72 14 = nI s) (hx : μ.1 61 b = x) (hy : μ.1 61 s = y) (hz : μ.1 72 19 = z) : z_C d mi_X7_pays [.ref 50, .int (nI b), .int 2, .int n] μ (fun r μ' => r = none ∧ μ' = z_ui (z_ui (z_ui μ 61 b (x - n)) 61 s (y + n)) 72 19 (z + n)) := by
  refine z_C_in (by decide) (by omega) (fun d' Z ed hc hr => ?_)
  have hH : zH mi_X7_pays zt_X7_pays 79 7 4 := hh_X7_pays
  refine z_rcs hc hH 1 (pc' := 1) (lv' := [(0, .ref 50), (1, .int (nI b)), (2, .int 2), (3, .int n)]) (st' := [.ref 50]) (μ' := μ) (by rfl) ?_
  refine zq_gfr hc hH (by rfl) (ci := 6) (f := 29) (q := 61) (by rfl) (by decide +kernel) (by rfl) (by decide +kernel) ?_
  refine z_rcs hc hH 2 (pc' := 6) (lv' := [(0, .ref 50), (1, .int (nI b)), (2, .int 2), (3, .int n)]) (st' := [.int (nI b), .ref 61, .int (nI b), .ref 61]) (μ' := μ) (by rfl) ?_
  refine zq_iald hc hH (by rfl) 4 (oka_i (by decide +kernel)) (vp_in_nI (by omega) (by decide)) ?_
  rw [nI_clamp (by omega)]
  rw [hx]
  refine z_rcs hc hH 2 (pc' := 9) (lv' := [(0, .ref 50), (1, .int (nI b)), (2, .int 2), (3, .int n)]) (st' := [.int (x - n), .int (nI b), .ref 61]) (μ' := μ) (by rfl) ?_
  refine zq_iast hc hH (by rfl) 4 (oka_i (by decide +kernel)).2 (vp_in_nI (by omega) (by decide)) ?_
  rw [nI_clamp (by omega)]
  show Z 0 10 [(0, .ref 50), (1, .int (nI b)), (2, .int 2), (3, .int n)] [] (z_ui μ 61 b (x - n))
  refine z_rcs hc hH 1 (pc' := 11) (lv' := [(0, .ref 50), (1, .int (nI b)), (2, .int 2), (3, .int n)]) (st' := [.ref 50]) (μ' := z_ui μ 61 b (x - n)) (by rfl) ?_
  refine zq_gfr hc hH (by rfl) (ci := 6) (f := 29) (q := 61) (by rfl) (by decide +kernel) (by rfl) (by decide +kernel) ?_
  refine z_rcs hc hH 1 (pc' := 15) (lv' := [(0, .ref 50), (1, .int (nI b)), (2, .int 2), (3, .int n)]) (st' := [.ref 50, .ref 61]) (μ' := z_ui μ 61 b (x - n)) (by rfl) ?_
  refine zq_gfr hc hH (by rfl) (ci := 6) (f := 60) (q := 72) (by rfl) (by decide +kernel) (by rfl) (by decide +kernel) ?_
  refine z_rcs hc hH 3 (pc' := 22) (lv' := [(0, .ref 50), (1, .int (nI b)), (2, .int 2), (3, .int n)]) (st' := [.int 14, .ref 72, .ref 61]) (μ' := z_ui μ 61 b (x - n)) (by rfl) ?_
  refine zq_iald hc hH (by rfl) 28 (oka_i (by decide +kernel)) (show vp_in (nI 14) 28 from vp_in_nI (by decide) (by decide)) ?_
  rw [show (14 : Int32).toNatClampNeg = 14 from rfl]
  refine zV1 (Z := Z) (ui_o (by first | decide | omega)) ?_
  rw [e0]
  refine z_rcs hc hH 1 (pc' := 24) (lv' := [(0, .ref 50), (1, .int (nI b)), (2, .int 2), (3, .int n)]) (st' := [.int (nI s), .ref 61, .int (nI s), .ref 61]) (μ' := z_ui μ 61 b (x - n)) (by rfl) ?_
  refine zq_iald hc hH (by rfl) 4 (oka_i (by decide +kernel)) (vp_in_nI (by omega) (by decide)) ?_
  rw [nI_clamp (by omega)]
  refine zV1 (Z := Z) (ui_k (by first | decide | omega)) ?_
  rw [hy]
  refine z_rcs hc hH 2 (pc' := 27) (lv' := [(0, .ref 50), (1, .int (nI b)), (2, .int 2), (3, .int n)]) (st' := [.int (y + n), .int (nI s), .ref 61]) (μ' := z_ui μ 61 b (x - n)) (by rfl) ?_
  refine zq_iast hc hH (by rfl) 4 (oka_i (by decide +kernel)).2 (vp_in_nI (by omega) (by decide)) ?_
  rw [nI_clamp (by omega)]
  show Z 0 28 [(0, .ref 50), (1, .int (nI b)), (2, .int 2), (3, .int n)] [] (z_ui (z_ui μ 61 b (x - n)) 61 s (y + n))
  refine z_rcs0 hc hH 1 (pc' := 29) (lv' := [(0, .ref 50), (1, .int (nI b)), (2, .int 2), (3, .int n)]) (st' := [.ref 50]) (by rfl) ?_
  refine zq_gfr hc hH (by rfl) (ci := 6) (f := 60) (q := 72) (by rfl) (by decide +kernel) (by rfl) (by decide +kernel) ?_
  refine z_rcs0 hc hH 6 (pc' := 39) (lv' := [(0, .ref 50), (1, .int (nI b)), (2, .int 2), (3, .int n)]) (st' := [.int 19, .ref 72, .int 19, .ref 72]) (by rfl) ?_
  refine zq_iald hc hH (by rfl) 28 (oka_i (by decide +kernel)) (show vp_in (nI 19) 28 from vp_in_nI (by decide) (by decide)) ?_
  rw [show (19 : Int32).toNatClampNeg = 19 from rfl]
  refine zV1 (Z := Z) (Eq.trans (ui_o (by first | decide | omega)) (ui_o (by first | decide | omega))) ?_
  rw [hz]
  refine z_rcs0 hc hH 2 (pc' := 42) (lv' := [(0, .ref 50), (1, .int (nI b)), (2, .int 2), (3, .int n)]) (st' := [.int (z + n), .int 19, .ref 72]) (by rfl) ?_
  refine zq_iast hc hH (by rfl) 28 (oka_i (by decide +kernel)).2 (show vp_in (nI 19) 28 from vp_in_nI (by decide) (by decide)) ?_
  rw [show (19 : Int32).toNatClampNeg = 19 from rfl]
  show Z 0 43 [(0, .ref 50), (1, .int (nI b)), (2, .int 2), (3, .int n)] [] (z_ui (z_ui (z_ui μ 61 b (x - n)) 61 s (y + n)) 72 19 (z + n))
  exact hr 0 43 _ _ _ none (by decide +kernel) (by rfl) (⟨rfl, rfl⟩)
theorem gm_takesB (d : Nat) (hd : 1 ≤ d) (μ : zM) (s : Nat) (x z bb : Int32) (hs : s < 4) (e0 : μ.1 72 0 = nI s) (hx : μ.1 61 s = x) (hz : μ.1 72 5 = z) (hbb : μ.1 50 43 = bb) : z_C d mi_X7_takesBets [.ref 50] μ (fun r μ' => r = none ∧ μ' = z_ui (z_ui (z_ui μ 61 s (x + (1000 * bb))) 72 5 (z + (1000 * bb))) 50 43 0) := by
  refine z_C_in (by decide) (by omega) (fun d' Z ed hc hr => ?_)
  have hH : zH mi_X7_takesBets zt_X7_takesBets 79 7 2 := hh_X7_takesBets
  refine z_rcs hc hH 1 (pc' := 1) (lv' := [(0, .ref 50)]) (st' := [.ref 50]) (μ' := μ) (by rfl) ?_
  refine zq_gfr hc hH (by rfl) (ci := 6) (f := 60) (q := 72) (by rfl) (by decide +kernel) (by rfl) (by decide +kernel) ?_
  refine z_rcs hc hH 1 (pc' := 5) (lv' := [(0, .ref 50)]) (st' := [.int 0, .ref 72]) (μ' := μ) (by rfl) ?_
  refine zq_iald hc hH (by rfl) 28 (oka_i (by decide +kernel)) (show vp_in (nI 0) 28 from vp_in_nI (by decide) (by decide)) ?_
  rw [show (0 : Int32).toNatClampNeg = 0 from rfl]
  rw [e0]
  refine z_rcs hc hH 2 (pc' := 8) (lv' := [(1, .int (nI s)), (0, .ref 50)]) (st' := [.ref 50]) (μ' := μ) (by rfl) ?_
  refine zq_gfr hc hH (by rfl) (ci := 6) (f := 29) (q := 61) (by rfl) (by decide +kernel) (by rfl) (by decide +kernel) ?_
  refine z_rcs hc hH 2 (pc' := 13) (lv' := [(1, .int (nI s)), (0, .ref 50)]) (st' := [.int (nI s), .ref 61, .int (nI s), .ref 61]) (μ' := μ) (by rfl) ?_
  refine zq_iald hc hH (by rfl) 4 (oka_i (by decide +kernel)) (vp_in_nI (by omega) (by decide)) ?_
  rw [nI_clamp (by omega)]
  rw [hx]
  refine z_rcs hc hH 2 (pc' := 18) (lv' := [(1, .int (nI s)), (0, .ref 50)]) (st' := [.ref 50, .int 1000, .int x, .int (nI s), .ref 61]) (μ' := μ) (by rfl) ?_
  refine zq_gfi hc hH (by rfl) (ci := 6) (f := 43) (by rfl) (by decide +kernel) (by rfl) ?_
  rw [hbb]
  refine z_rcs hc hH 2 (pc' := 23) (lv' := [(1, .int (nI s)), (0, .ref 50)]) (st' := [.int (x + (1000 * bb)), .int (nI s), .ref 61]) (μ' := μ) (by rfl) ?_
  refine zq_iast hc hH (by rfl) 4 (oka_i (by decide +kernel)).2 (vp_in_nI (by omega) (by decide)) ?_
  rw [nI_clamp (by omega)]
  show Z 0 24 [(1, .int (nI s)), (0, .ref 50)] [] (z_ui μ 61 s (x + (1000 * bb)))
  refine z_rcs0 hc hH 1 (pc' := 25) (lv' := [(1, .int (nI s)), (0, .ref 50)]) (st' := [.ref 50]) (by rfl) ?_
  refine zq_gfr hc hH (by rfl) (ci := 6) (f := 60) (q := 72) (by rfl) (by decide +kernel) (by rfl) (by decide +kernel) ?_
  refine z_rcs0 hc hH 2 (pc' := 30) (lv' := [(1, .int (nI s)), (0, .ref 50)]) (st' := [.int 5, .ref 72, .int 5, .ref 72]) (by rfl) ?_
  refine zq_iald hc hH (by rfl) 28 (oka_i (by decide +kernel)) (show vp_in (nI 5) 28 from vp_in_nI (by decide) (by decide)) ?_
  rw [show (5 : Int32).toNatClampNeg = 5 from rfl]
  refine zV1 (Z := Z) (ui_o (by first | decide | omega)) ?_
  rw [hz]
  refine z_rcs0 hc hH 2 (pc' := 35) (lv' := [(1, .int (nI s)), (0, .ref 50)]) (st' := [.ref 50, .int 1000, .int z, .int 5, .ref 72]) (by rfl) ?_
  refine zq_gfi hc hH (by rfl) (ci := 6) (f := 43) (by rfl) (by decide +kernel) (by rfl) ?_
  refine zV1 (Z := Z) (ui_o (by first | decide | omega)) ?_
  rw [hbb]
  refine z_rcs0 hc hH 2 (pc' := 40) (lv' := [(1, .int (nI s)), (0, .ref 50)]) (st' := [.int (z + (1000 * bb)), .int 5, .ref 72]) (by rfl) ?_
  refine zq_iast hc hH (by rfl) 28 (oka_i (by decide +kernel)).2 (show vp_in (nI 5) 28 from vp_in_nI (by decide) (by decide)) ?_
  rw [show (5 : Int32).toNatClampNeg = 5 from rfl]
  show Z 0 41 [(1, .int (nI s)), (0, .ref 50)] [] (z_ui (z_ui μ 61 s (x + (1000 * bb))) 72 5 (z + (1000 * bb)))
  refine z_rcs0 hc hH 2 (pc' := 43) (lv' := [(1, .int (nI s)), (0, .ref 50)]) (st' := [.int 0, .ref 50]) (by rfl) ?_
  refine zq_pfi hc hH (by rfl) (ci := 6) (f := 43) (by rfl) (by decide +kernel) (by rfl) ?_
  show Z 0 46 [(1, .int (nI s)), (0, .ref 50)] [] (z_ui (z_ui (z_ui μ 61 s (x + (1000 * bb))) 72 5 (z + (1000 * bb))) 50 43 0)
  exact hr 0 46 _ _ _ none (by decide +kernel) (by rfl) (⟨rfl, rfl⟩)
theorem SM_uj {a b : zM} (h : SMj a b) {r k : Nat} {x : Int64} : SMj (z_uj a r k x) (z_uj b r k x) := fun r' k' q => ⟨(h r' k' q).1, by
  by_cases e : r' = r
  · by_cases e2 : k' = k
    · rw [e, e2, uj_s, uj_s]
    · rw [uj_k e2, uj_k e2]; exact (h r' k' q).2
  · rw [uj_o e, uj_o e]; exact (h r' k' q).2⟩
theorem SM_bif {c : Bool} {a b a' b' : zM} (h1 : SMj a a') (h2 : SMj b b') : SMj (bif c then a else b) (bif c then a' else b') := by
  cases c
  · exact h2
  · exact h1
noncomputable def eMB (μ : zM) (ds om : Bool) (dl e : Nat) : zM := bif ds then eM1 μ om dl e else eM0 μ om dl e
theorem gm_endsB (d : Nat) (hd : 1 ≤ d) (μ : zM) (ds om : Bool) (dl e : Nat) (hdl : μ.1 50 40 = nI dl) (hdl4 : dl < 4) (he : (dl + 1) % 4 = e) : z_C d mi_X7_ends [.ref 50, .int (nB ds), .int (nB om)] μ (fun r μ' => r = none ∧ μ' = eMB μ ds om dl e) := by
  cases ds
  · exact gm_ends0 d hd μ om dl e hdl hdl4 he
  · exact gm_ends1 d hd μ om dl e hdl hdl4 he
theorem SM_eM0 {a b : zM} (h : SMj a b) {om : Bool} {dl e : Nat} : SMj (eM0 a om dl e) (eM0 b om dl e) := by
  unfold eM0
  simp only [(h 61 0 (by omega)).1, (h 61 1 (by omega)).1, (h 61 2 (by omega)).1, (h 61 3 (by omega)).1, (h 50 40 (by omega)).1, (h 50 41 (by omega)).1, (h 50 42 (by omega)).1, (h 50 43 (by omega)).1, (h 50 52 (by omega)).1]
  repeat' (first | exact h | apply SM_ui | (refine SM_bif ?_ ?_))
theorem SM_eM1 {a b : zM} (h : SMj a b) {om : Bool} {dl e : Nat} : SMj (eM1 a om dl e) (eM1 b om dl e) := by
  unfold eM1
  simp only [(h 61 0 (by omega)).1, (h 61 1 (by omega)).1, (h 61 2 (by omega)).1, (h 61 3 (by omega)).1, (h 50 40 (by omega)).1, (h 50 41 (by omega)).1, (h 50 42 (by omega)).1, (h 50 43 (by omega)).1, (h 50 52 (by omega)).1]
  repeat' (first | exact h | apply SM_ui | (refine SM_bif ?_ ?_))
theorem SM_eMB {a b : zM} (h : SMj a b) {ds om : Bool} {dl e : Nat} : SMj (eMB a ds om dl e) (eMB b ds om dl e) := by
  cases ds
  · exact SM_eM0 (dl := dl) (e := e) h
  · exact SM_eM1 (dl := dl) (e := e) h
/-! the game: claim of the reference -/
set_option maxRecDepth 8000
noncomputable def rvF (μ : zM) (s : Nat) (wt : Int64) (i : Nat) : Bool := decide (lg_cmp ((wt >>> ((μ.1 65 (136 * s + i)).toInt64 &&& 63)) &&& 1) 1 = 0)
noncomputable abbrev clD (μ : zM) (s t c rm : Nat) (wt : Int64) : Bool := !decide (nI s = nI t) && (decide (μ.1 71 s = 0) && (decide (μ.1 70 s = 0) && (!decide (lg_cmp ((wt >>> ((nI c).toInt64 &&& 63)) &&& 1) 0 = 0) && !kA (rvF μ s wt) rm)))
theorem nI_r136 {s i : Nat} : (136 * (nI s)) + (nI i) = nI (136 * s + i) := by rw [show (136 : Int32) = nI 136 from rfl, nI_ml, nI_add]
theorem SE_sj {a b : zM} (h : SMj a b) : SE a b := fun r k q => (h r k (by omega)).1
theorem gm_isSeatN (d : Nat) (hd : 1 ≤ d) (μ : zM) (s : Nat) (hs4 : s < 4) : z_C d mi_X7_isSeat [.int (nI s)] μ (zR μ (.int 1)) := by
  refine z_C_in (by decide) (by omega) (fun d' Z ed hc hr => ?_)
  have hH : zH mi_X7_isSeat zt_X7_isSeat 79 7 1 := hh_X7_isSeat
  refine z_rcs hc hH 1 (pc' := 1) (lv' := [(0, .int (nI s))]) (st' := [.int (nI s)]) (μ' := μ) (by rfl) ?_
  refine zq_if hc hH (by rfl) (tg := 13) (by rfl) (fun h1 => ?_) (fun h1 => ?_)
  · have h1 : (decide ((nI s) < 0)) = true := decide_eq_true (cm_lt.mp h1)
    exact absurd (Eq.trans (Eq.symm (kn_l0 (by omega))) h1) (by decide)
  · have h1 : (decide ((nI s) < 0)) = false := decide_eq_false (cn_lt.mp h1)
    refine z_rcs hc hH 2 (pc' := 6) (lv' := [(0, .int (nI s))]) (st' := [.int 4, .int (nI s)]) (μ' := μ) (by rfl) ?_
    refine zq_ic hc hH (by rfl) (tg := 13) (by rfl) (fun h2 => ?_) (fun h2 => ?_)
    · have h2 : (decide (4 ≤ (nI s))) = true := decide_eq_true (cm_ge.mp h2)
      exact absurd (Eq.trans (Eq.symm (kn_le (m := 4) rfl (by omega) (by omega))) h2) (by decide)
    · have h2 : (decide (4 ≤ (nI s))) = false := decide_eq_false (cn_ge.mp h2)
      refine z_rcs hc hH 2 (pc' := 14) (lv' := [(0, .int (nI s))]) (st' := [.int 1]) (μ' := μ) (by rfl) ?_
      exact hr 0 14 _ _ _ (some (.int 1)) (by decide +kernel) (z_rx_ok hH (by rfl)) (⟨rfl, rfl⟩)
theorem gm_claim (d : Nat) (hd : 700 ≤ d) (μ : zM) (hH0 : a_H μ) (s t c rm : Nat) (hs4 : s < 4) (ht4 : t < 4) (ht : μ.1 50 45 = nI t) (hc34 : c < 34) (hc49 : μ.1 50 49 = nI c) (hp : decide (μ.1 50 44 < 2) = false) (hrm : μ.1 66 s = nI rm) (hrm5 : rm ≤ 135) (wt : Int64) (hwt : ∀ M, SE μ M → a_H M → ∀ d, 699 ≤ d → z_C d mi_X7_waitsAt [.ref 50, .int (nI s)] M (fun r W => r = some (.long wt) ∧ SMj M W ∧ a_H W)) (B : Q4 → Prop) (hvl : ∀ M, SMj (z_ui μ 50 0 0) M → a_H M → ∀ d, 699 ≤ d → z_C d mi_X7_value [.ref 50, .int (nI s), .int (nI c), .int 0] M (fun r W => r = none ∧ SMj M W ∧ B (bq W))) : z_C d mi_X7_claim [.ref 50, .int (nI s)] μ (fun r μ' => (clD μ s t c rm wt = false ∧ r = some (.int 0) ∧ SMj (z_ui μ 50 0 0) μ') ∨ (clD μ s t c rm wt = true ∧ ∃ W, B (bq W) ∧ ((decide (W.1 50 13 = 0) = true ∧ r = some (.int 0) ∧ SMj (z_ui μ 50 0 0) μ') ∨ (decide (W.1 50 13 = 0) = false ∧ r = some (.int 1) ∧ SMj (z_ui (z_ui μ 50 0 0) 71 s 1) μ')))) := by
  refine z_C_in (by decide) (by omega) (fun d' Z ed hc hr => ?_)
  have hH : zH mi_X7_claim zt_X7_claim 79 7 5 := hh_X7_claim
  refine z_rcs hc hH 2 (pc' := 2) (lv' := [(0, .ref 50), (1, .int (nI s))]) (st' := [.int 0, .ref 50]) (μ' := μ) (by rfl) ?_
  refine zq_pfi hc hH (by rfl) (ci := 6) (f := 0) (by rfl) (by decide +kernel) (by rfl) ?_
  show Z 0 5 [(0, .ref 50), (1, .int (nI s))] [] (z_ui μ 50 0 0)
  refine z_rcs hc hH 1 (pc' := 6) (lv' := [(0, .ref 50), (1, .int (nI s))]) (st' := [.ref 50]) (μ' := z_ui μ 50 0 0) (by rfl) ?_
  refine zq_gfi hc hH (by rfl) (ci := 6) (f := 44) (by rfl) (by decide +kernel) (by rfl) ?_
  refine zV1 (Z := Z) (ui_k (by first | decide | omega)) ?_
  refine z_rcs hc hH 1 (pc' := 10) (lv' := [(0, .ref 50), (1, .int (nI s))]) (st' := [.int 2, .int (μ.1 50 44)]) (μ' := z_ui μ 50 0 0) (by rfl) ?_
  refine zq_ic hc hH (by rfl) (tg := 46) (by rfl) (fun h1 => ?_) (fun h1 => ?_)
  · have h1 : (decide ((μ.1 50 44) < 2)) = true := decide_eq_true (cm_lt.mp h1)
    exact absurd (Eq.trans (Eq.symm (hp)) h1) (by decide)
  · have h1 : (decide ((μ.1 50 44) < 2)) = false := decide_eq_false (cn_lt.mp h1)
    refine z_rcs hc hH 1 (pc' := 14) (lv' := [(0, .ref 50), (1, .int (nI s))]) (st' := [.int (nI s)]) (μ' := z_ui μ 50 0 0) (by rfl) ?_
    refine zq_call hc (z_cx_ok hH (by rfl)) (gm_isSeatN d' (by omega) (z_ui μ 50 0 0) s hs4) (by decide +kernel) (fun r9 μ9 hq => ?_)
    obtain ⟨hμ9, rfl⟩ := hq
    rw [hμ9]
    clear hμ9 μ9
    show Z 0 17 [(0, .ref 50), (1, .int (nI s))] [.int 1] (z_ui μ 50 0 0)
    refine z_rcs hc hH 3 (pc' := 22) (lv' := [(0, .ref 50), (1, .int (nI s))]) (st' := [.ref 50, .int (nI s)]) (μ' := z_ui μ 50 0 0) (by rfl) ?_
    refine zq_gfi hc hH (by rfl) (ci := 6) (f := 45) (by rfl) (by decide +kernel) (by rfl) ?_
    refine zV1 (Z := Z) (ui_k (by first | decide | omega)) ?_
    rw [ht]
    refine zq_ic hc hH (by rfl) (tg := 46) (by rfl) (fun h2 => ?_) (fun h2 => ?_)
    · have h2 : (decide ((nI s) = (nI t))) = true := decide_eq_true (cm_eq9.mp h2)
      refine z_rcs hc hH 1 (pc' := 47) (lv' := [(0, .ref 50), (1, .int (nI s))]) (st' := [.int 0]) (μ' := z_ui μ 50 0 0) (by rfl) ?_
      exact hr 0 47 _ _ _ (some (.int 0)) (by decide +kernel) (z_rx_ok hH (by rfl)) (Or.inl ⟨by simp only [clD, h2, Bool.true_or, Bool.true_and, Bool.and_true, Bool.false_and, Bool.and_false, Bool.not_true, Bool.not_false], rfl, SM_rf _⟩)
    · have h2 : (decide ((nI s) = (nI t))) = false := decide_eq_false (cn_eq.mp h2)
      refine z_rcs hc hH 1 (pc' := 29) (lv' := [(0, .ref 50), (1, .int (nI s))]) (st' := [.ref 50]) (μ' := z_ui μ 50 0 0) (by rfl) ?_
      refine zq_gfr hc hH (by rfl) (ci := 6) (f := 39) (q := 71) (by rfl) (by decide +kernel) (by rfl) (by decide +kernel) ?_
      refine z_rcs hc hH 1 (pc' := 33) (lv' := [(0, .ref 50), (1, .int (nI s))]) (st' := [.int (nI s), .ref 71]) (μ' := z_ui μ 50 0 0) (by rfl) ?_
      refine zq_bald hc hH (by rfl) 4 (by decide +kernel) (vp_in_nI (by omega) (by decide)) ?_
      rw [nI_clamp (by omega)]
      refine zV1 (Z := Z) (ui_o (by first | decide | omega)) ?_
      refine zq_if hc hH (by rfl) (tg := 46) (by rfl) (fun h3 => ?_) (fun h3 => ?_)
      · have h3 : (decide ((μ.1 71 s) = 0)) = false := decide_eq_false (cm_ne.mp h3)
        refine z_rcs hc hH 1 (pc' := 47) (lv' := [(0, .ref 50), (1, .int (nI s))]) (st' := [.int 0]) (μ' := z_ui μ 50 0 0) (by rfl) ?_
        exact hr 0 47 _ _ _ (some (.int 0)) (by decide +kernel) (z_rx_ok hH (by rfl)) (Or.inl ⟨by simp only [clD, h2, h3, Bool.true_or, Bool.true_and, Bool.and_true, Bool.false_and, Bool.and_false, Bool.not_true, Bool.not_false], rfl, SM_rf _⟩)
      · have h3 : (decide ((μ.1 71 s) = 0)) = true := decide_eq_true (cn_ne.mp h3)
        refine z_rcs hc hH 1 (pc' := 38) (lv' := [(0, .ref 50), (1, .int (nI s))]) (st' := [.ref 50]) (μ' := z_ui μ 50 0 0) (by rfl) ?_
        refine zq_gfr hc hH (by rfl) (ci := 6) (f := 38) (q := 70) (by rfl) (by decide +kernel) (by rfl) (by decide +kernel) ?_
        refine z_rcs hc hH 1 (pc' := 42) (lv' := [(0, .ref 50), (1, .int (nI s))]) (st' := [.int (nI s), .ref 70]) (μ' := z_ui μ 50 0 0) (by rfl) ?_
        refine zq_bald hc hH (by rfl) 4 (by decide +kernel) (vp_in_nI (by omega) (by decide)) ?_
        rw [nI_clamp (by omega)]
        refine zV1 (Z := Z) (ui_o (by first | decide | omega)) ?_
        refine zq_if hc hH (by rfl) (tg := 48) (by rfl) (fun h4 => ?_) (fun h4 => ?_)
        · have h4 : (decide ((μ.1 70 s) = 0)) = true := decide_eq_true (cm_eq9.mp h4)
          refine z_rcs hc hH 2 (pc' := 50) (lv' := [(0, .ref 50), (1, .int (nI s))]) (st' := [.int (nI s), .ref 50]) (μ' := z_ui μ 50 0 0) (by rfl) ?_
          refine zq_call hc (z_cx_ok hH (by rfl)) (hwt _ (SE_ui (SE_rf _) (by omega)) (a_H_ui (r := 50) (k := 0) hH0 (bI_top _)) d' (by omega)) (by decide +kernel) (fun r9 W1 hq9 => ?_)
          obtain ⟨rfl, hO1, hA1⟩ := hq9
          show Z 0 53 [(0, .ref 50), (1, .int (nI s))] [.long wt] W1
          refine z_rcs hc hH 3 (pc' := 56) (lv' := [(2, .long wt), (0, .ref 50), (1, .int (nI s))]) (st' := [.ref 50, .long wt]) (μ' := W1) (by rfl) ?_
          refine zq_gfi hc hH (by rfl) (ci := 6) (f := 49) (by rfl) (by decide +kernel) (by rfl) ?_
          refine zV1 (Z := Z) (Eq.trans (hO1 50 49 (by omega)).1 (ui_k (by first | decide | omega))) ?_
          rw [hc49]
          refine z_rcs hc hH 5 (pc' := 64) (lv' := [(2, .long wt), (0, .ref 50), (1, .int (nI s))]) (st' := [.int (lg_cmp ((wt >>> ((nI c).toInt64 &&& 63)) &&& 1) 0)]) (μ' := W1) (by rfl) ?_
          refine zq_if hc hH (by rfl) (tg := 69) (by rfl) (fun h5 => ?_) (fun h5 => ?_)
          · have h5 : (decide ((lg_cmp ((wt >>> ((nI c).toInt64 &&& 63)) &&& 1) 0) = 0)) = false := decide_eq_false (cm_ne.mp h5)
            refine z_rcs hc hH 2 (pc' := 72) (lv' := [(4, .int 0), (2, .long wt), (0, .ref 50), (1, .int (nI s))]) (st' := []) (μ' := W1) (by rfl) ?_
            have hL : ∀ n i, i + n = rm → kA (rvF μ s wt) i = false → Z 0 72 [(4, .int (nI i)), (2, .long wt), (0, .ref 50), (1, .int (nI s))] [] W1 := by
              intro n
              induction n with
              | zero =>
                intro i hi hk
                have hi : i = rm := by omega
                rw [hi] at hk
                refine z_rcs hc hH 2 (pc' := 75) (lv' := [(4, .int (nI i)), (2, .long wt), (0, .ref 50), (1, .int (nI s))]) (st' := [.ref 50, .int (nI i)]) (μ' := W1) (by rfl) ?_
                refine zq_gfr hc hH (by rfl) (ci := 6) (f := 34) (q := 66) (by rfl) (by decide +kernel) (by rfl) (by decide +kernel) ?_
                refine z_rcs hc hH 1 (pc' := 79) (lv' := [(4, .int (nI i)), (2, .long wt), (0, .ref 50), (1, .int (nI s))]) (st' := [.int (nI s), .ref 66, .int (nI i)]) (μ' := W1) (by rfl) ?_
                refine zq_iald hc hH (by rfl) 4 (oka_i (by decide +kernel)) (vp_in_nI (by omega) (by decide)) ?_
                rw [nI_clamp (by omega)]
                refine zV1 (Z := Z) (Eq.trans (hO1 66 s (by omega)).1 (ui_o (by first | decide | omega))) ?_
                rw [hrm]
                refine zq_ic hc hH (by rfl) (tg := 113) (by rfl) (fun h6 => ?_) (fun h6 => ?_)
                · have h6 : (decide ((nI rm) ≤ (nI i))) = true := decide_eq_true (cm_ge.mp h6)
                  refine z_rcs hc hH 3 (pc' := 116) (lv' := [(4, .int (nI i)), (2, .long wt), (0, .ref 50), (1, .int (nI s))]) (st' := [.ref 50, .int (nI s), .ref 50]) (μ' := W1) (by rfl) ?_
                  refine zq_gfi hc hH (by rfl) (ci := 6) (f := 49) (by rfl) (by decide +kernel) (by rfl) ?_
                  refine zV1 (Z := Z) (Eq.trans (hO1 50 49 (by omega)).1 (ui_k (by first | decide | omega))) ?_
                  rw [hc49]
                  refine z_rcs hc hH 1 (pc' := 120) (lv' := [(4, .int (nI i)), (2, .long wt), (0, .ref 50), (1, .int (nI s))]) (st' := [.int 0, .int (nI c), .int (nI s), .ref 50]) (μ' := W1) (by rfl) ?_
                  refine zq_call hc (z_cx_ok hH (by rfl)) (hvl _ hO1 hA1 d' (by omega)) (by decide +kernel) (fun r9 W2 hq9 => ?_)
                  obtain ⟨rfl, hO2, hB2⟩ := hq9
                  show Z 0 123 [(4, .int (nI i)), (2, .long wt), (0, .ref 50), (1, .int (nI s))] [] W2
                  refine z_rcs hc hH 1 (pc' := 124) (lv' := [(4, .int (nI i)), (2, .long wt), (0, .ref 50), (1, .int (nI s))]) (st' := [.ref 50]) (μ' := W2) (by rfl) ?_
                  refine zq_gfi hc hH (by rfl) (ci := 6) (f := 13) (by rfl) (by decide +kernel) (by rfl) ?_
                  refine zq_if hc hH (by rfl) (tg := 132) (by rfl) (fun h7 => ?_) (fun h7 => ?_)
                  · have h7 : (decide ((W2.1 50 13) = 0)) = false := decide_eq_false (cm_ne.mp h7)
                    refine z_rcs hc hH 1 (pc' := 133) (lv' := [(4, .int (nI i)), (2, .long wt), (0, .ref 50), (1, .int (nI s))]) (st' := [.ref 50]) (μ' := W2) (by rfl) ?_
                    refine zq_gfr hc hH (by rfl) (ci := 6) (f := 39) (q := 71) (by rfl) (by decide +kernel) (by rfl) (by decide +kernel) ?_
                    refine z_rcs hc hH 2 (pc' := 138) (lv' := [(4, .int (nI i)), (2, .long wt), (0, .ref 50), (1, .int (nI s))]) (st' := [.int 1, .int (nI s), .ref 71]) (μ' := W2) (by rfl) ?_
                    refine zq_bast hc hH (by rfl) 4 (by decide +kernel) (vp_in_nI (by omega) (by decide)) (by decide) ?_
                    rw [nI_clamp (by omega)]
                    show Z 0 139 [(4, .int (nI i)), (2, .long wt), (0, .ref 50), (1, .int (nI s))] [] (z_ui W2 71 s 1)
                    refine z_rcs hc hH 1 (pc' := 140) (lv' := [(4, .int (nI i)), (2, .long wt), (0, .ref 50), (1, .int (nI s))]) (st' := [.int 1]) (μ' := z_ui W2 71 s 1) (by rfl) ?_
                    exact hr 0 140 _ _ _ (some (.int 1)) (by decide +kernel) (z_rx_ok hH (by rfl)) (Or.inr ⟨by simp only [clD, h2, h3, h4, h5, hk, Bool.true_or, Bool.true_and, Bool.and_true, Bool.false_and, Bool.and_false, Bool.not_true, Bool.not_false], W2, hB2, Or.inr ⟨h7, rfl, SM_ui (SM_tr hO1 hO2)⟩⟩)
                  · have h7 : (decide ((W2.1 50 13) = 0)) = true := decide_eq_true (cn_ne.mp h7)
                    refine z_rcs hc hH 1 (pc' := 131) (lv' := [(4, .int (nI i)), (2, .long wt), (0, .ref 50), (1, .int (nI s))]) (st' := [.int 0]) (μ' := W2) (by rfl) ?_
                    exact hr 0 131 _ _ _ (some (.int 0)) (by decide +kernel) (z_rx_ok hH (by rfl)) (Or.inr ⟨by simp only [clD, h2, h3, h4, h5, hk, Bool.true_or, Bool.true_and, Bool.and_true, Bool.false_and, Bool.and_false, Bool.not_true, Bool.not_false], W2, hB2, Or.inl ⟨h7, rfl, SM_tr hO1 hO2⟩⟩)
                · have h6 : (decide ((nI rm) ≤ (nI i))) = false := decide_eq_false (cn_ge.mp h6)
                  exact absurd (Eq.trans (Eq.symm (kn_nle (by omega) (by omega) (by omega))) h6) (by decide)
              | succ n ih =>
                intro i hi hk
                refine z_rcs hc hH 2 (pc' := 75) (lv' := [(4, .int (nI i)), (2, .long wt), (0, .ref 50), (1, .int (nI s))]) (st' := [.ref 50, .int (nI i)]) (μ' := W1) (by rfl) ?_
                refine zq_gfr hc hH (by rfl) (ci := 6) (f := 34) (q := 66) (by rfl) (by decide +kernel) (by rfl) (by decide +kernel) ?_
                refine z_rcs hc hH 1 (pc' := 79) (lv' := [(4, .int (nI i)), (2, .long wt), (0, .ref 50), (1, .int (nI s))]) (st' := [.int (nI s), .ref 66, .int (nI i)]) (μ' := W1) (by rfl) ?_
                refine zq_iald hc hH (by rfl) 4 (oka_i (by decide +kernel)) (vp_in_nI (by omega) (by decide)) ?_
                rw [nI_clamp (by omega)]
                refine zV1 (Z := Z) (Eq.trans (hO1 66 s (by omega)).1 (ui_o (by first | decide | omega))) ?_
                rw [hrm]
                refine zq_ic hc hH (by rfl) (tg := 113) (by rfl) (fun h8 => ?_) (fun h8 => ?_)
                · have h8 : (decide ((nI rm) ≤ (nI i))) = true := decide_eq_true (cm_ge.mp h8)
                  exact absurd (Eq.trans (Eq.symm (kn_nlf (by omega) (by omega) (by omega))) h8) (by decide)
                · have h8 : (decide ((nI rm) ≤ (nI i))) = false := decide_eq_false (cn_ge.mp h8)
                  refine z_rcs hc hH 2 (pc' := 85) (lv' := [(4, .int (nI i)), (2, .long wt), (0, .ref 50), (1, .int (nI s))]) (st' := [.ref 50, .long wt]) (μ' := W1) (by rfl) ?_
                  refine zq_gfr hc hH (by rfl) (ci := 6) (f := 33) (q := 65) (by rfl) (by decide +kernel) (by rfl) (by decide +kernel) ?_
                  refine z_rcs hc hH 5 (pc' := 96) (lv' := [(4, .int (nI i)), (2, .long wt), (0, .ref 50), (1, .int (nI s))]) (st' := [.int ((136 * (nI s)) + (nI i)), .ref 65, .long wt]) (μ' := W1) (by rfl) ?_
                  rw [nI_r136]
                  refine zq_iald hc hH (by rfl) 544 (oka_i (by decide +kernel)) (vp_in_nI (by omega) (by decide)) ?_
                  rw [nI_clamp (by omega)]
                  refine zV1 (Z := Z) (Eq.trans (hO1 65 (136 * s + i) (by omega)).1 (ui_o (by first | decide | omega))) ?_
                  refine z_rcs hc hH 5 (pc' := 102) (lv' := [(4, .int (nI i)), (2, .long wt), (0, .ref 50), (1, .int (nI s))]) (st' := [.int (lg_cmp ((wt >>> ((μ.1 65 (136 * s + i)).toInt64 &&& 63)) &&& 1) 1)]) (μ' := W1) (by rfl) ?_
                  refine zq_if hc hH (by rfl) (tg := 107) (by rfl) (fun h9 => ?_) (fun h9 => ?_)
                  · have h9 : (decide ((lg_cmp ((wt >>> ((μ.1 65 (136 * s + i)).toInt64 &&& 63)) &&& 1) 1) = 0)) = false := decide_eq_false (cm_ne.mp h9)
                    refine z_rcs hc hH 2 (pc' := 72) (lv' := [(4, .int ((nI i) + 1)), (2, .long wt), (0, .ref 50), (1, .int (nI s))]) (st' := []) (μ' := W1) (by rfl) ?_
                    have e9 := ih (i + 1) (by omega) (by show (kA _ i || rvF μ s wt i) = false; rw [hk]; exact h9)
                    rw [nI_s1]
                    exact e9
                  · have h9 : (decide ((lg_cmp ((wt >>> ((μ.1 65 (136 * s + i)).toInt64 &&& 63)) &&& 1) 1) = 0)) = true := decide_eq_true (cn_ne.mp h9)
                    refine z_rcs hc hH 1 (pc' := 106) (lv' := [(4, .int (nI i)), (2, .long wt), (0, .ref 50), (1, .int (nI s))]) (st' := [.int 0]) (μ' := W1) (by rfl) ?_
                    exact hr 0 106 _ _ _ (some (.int 0)) (by decide +kernel) (z_rx_ok hH (by rfl)) (Or.inl ⟨by simp only [clD, h2, h3, h4, h5, (kA_hit (f := rvF μ s wt) (k := i) (n := rm) (by omega) h9), Bool.true_or, Bool.true_and, Bool.and_true, Bool.false_and, Bool.and_false, Bool.not_true, Bool.not_false], rfl, hO1⟩)
            exact hL rm 0 (by omega) rfl
          · have h5 : (decide ((lg_cmp ((wt >>> ((nI c).toInt64 &&& 63)) &&& 1) 0) = 0)) = true := decide_eq_true (cn_ne.mp h5)
            refine z_rcs hc hH 1 (pc' := 68) (lv' := [(2, .long wt), (0, .ref 50), (1, .int (nI s))]) (st' := [.int 0]) (μ' := W1) (by rfl) ?_
            exact hr 0 68 _ _ _ (some (.int 0)) (by decide +kernel) (z_rx_ok hH (by rfl)) (Or.inl ⟨by simp only [clD, h2, h3, h4, h5, Bool.true_or, Bool.true_and, Bool.and_true, Bool.false_and, Bool.and_false, Bool.not_true, Bool.not_false], rfl, hO1⟩)
        · have h4 : (decide ((μ.1 70 s) = 0)) = false := decide_eq_false (cn_eq.mp h4)
          refine z_rcs hc hH 1 (pc' := 47) (lv' := [(0, .ref 50), (1, .int (nI s))]) (st' := [.int 0]) (μ' := z_ui μ 50 0 0) (by rfl) ?_
          exact hr 0 47 _ _ _ (some (.int 0)) (by decide +kernel) (z_rx_ok hH (by rfl)) (Or.inl ⟨by simp only [clD, h2, h3, h4, Bool.true_or, Bool.true_and, Bool.and_true, Bool.false_and, Bool.and_false, Bool.not_true, Bool.not_false], rfl, SM_rf _⟩)
