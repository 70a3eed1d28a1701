/-! the game: value of the reference -/
set_option maxRecDepth 8000
theorem TD9.sm {μ μ1 : zM} {i : Nat} (h : TD9 μ i μ1) : SMj μ μ1 := fun r k hr => ⟨h.2.1 r k (by omega), by rw [h.2.2]⟩
theorem SM_51 {μ μ1 : zM} {k : Nat} {x : Int32} (h : SMj μ μ1) : SMj μ (z_ui μ1 51 k x) := fun r k hr => ⟨(ui_o (by omega)).trans (h r k hr).1, (h r k hr).2⟩
def wdM (dl x : Int32) : Int32 := ((x - dl) + 4) - ((x - dl) + 4) / 4 * 4
theorem fx_wind (d : Nat) (hd : 1 ≤ d) (μ : zM) (dl x : Int32) (h : μ.1 50 40 = dl) : z_C d mi_X7_windOf [.ref 50, .int x] μ (zR μ (.int (wdM dl x))) := by
  subst h; exact gm_windOf d hd μ x
theorem fx_left (d : Nat) (hd : 1 ≤ d) (μ : zM) (a b : Int32) (h1 : μ.1 50 47 = a) (h2 : μ.1 50 46 = b) : z_C d mi_X7_left [.ref 50] μ (zR μ (.int ((122 - a) - b))) := by
  subst h1; subst h2; exact fc_X7_left d hd μ
abbrev lfM (μ : zM) : Int32 := (122 - (μ.1 50 47)) - (μ.1 50 46)
def w1h (w : Nat → Nat) (c : Nat) (dr : Bool) : Nat → Nat := bif dr then w else ad1 w c
def dAs (μ : zM) (s : Nat) (w : Nat → Nat) (W : Nat → Nat) (q p : Nat) : Int32 := ofv (nI (w (bhd (nI (W p))).toNatClampNeg)) (fun i => μ.1 62 (4 * s + i)) (fun i => μ.1 63 (4 * s + i)) (bhd (nI (W p))) q
theorem gm_value0 (d : Nat) (hd : 698 ≤ d) (μ : zM) (hH0 : a_H μ) (s c : Nat) (hs4 : s < 4) (hc34 : c < 34) (w : Nat → Nat) (q : Nat) (sL lL : Nat → Nat) (hM : HM μ s w q sL lL) (f : Nat) (hf4 : f ≤ 4) (hf : μ.1 50 47 = nI f) (W : Nat → Nat) (hW : ∀ p, 126 ≤ p → p < 136 → μ.1 59 p = nI (W p) ∧ W p < 34) : z_C d mi_X7_value [.ref 50, .int (nI s), .int (nI c), .int 0] μ (fun r μ' => r = none ∧ a_H μ' ∧ SMj μ μ' ∧ (¬ μ'.1 50 13 = 0 → μ'.1 50 18 = 1) ∧ ∃ κ, KM κ (ad1 w c) q sL lL (nI c) false (((((0 ||| (lb (decide ((μ.1 67 s) = 1)) 0)) ||| (lb (decide ((μ.1 67 s) = 2)) 1)) ||| (lb (!(decide ((μ.1 69 s) = 0))) 2)) ||| (lb ((decide ((μ.1 50 44) = 2)) && (decide ((lfM μ) = 0))) 5)) ||| (lb (decide ((μ.1 50 44) = 3)) 7)) (wdM (μ.1 50 40) (nI s)) (μ.1 50 41) (deF (dAs μ s (ad1 w c) W q) (!(decide ((μ.1 67 s) ≤ 0))) (f + 1)) ∧ BS (SR κ (ad1 w c) q sL lL) (0, 0, 0, 0) (bq μ')) := by
  refine z_C_in (by decide) (by omega) (fun d' Z ed hc hr => ?_)
  have hH : zH mi_X7_value zc_X7_value 79 7 6 := ⟨by rfl, by rfl, by rfl, by rfl⟩
  refine z_rcs hc hH 2 (pc' := 2) (lv' := [(0, .ref 50), (1, .int (nI s)), (2, .int (nI c)), (3, .int 0)]) (st' := [.int (nI s), .ref 50]) (μ' := μ) (by rfl) ?_
  refine zq_call hc (by rfl) (gm_takeH d' (by omega) μ hH0 s q hs4 hM.2.2.1 hM.2.1) (by decide +kernel) (fun r9 μ1 hq9 => ?_)
  obtain ⟨⟨rfl, hT⟩, hH1⟩ := hq9
  have h51 : μ1.1 51 c = nI (w c) := by rw [hT.1 c hc34]; exact (hM.1 c hc34).1
  have hTs := hT.sm
  show Z 0 5 [(0, .ref 50), (1, .int (nI s)), (2, .int (nI c)), (3, .int 0)] [] μ1
  refine z_rcs hc hH 3 (pc' := 10) (lv' := [(0, .ref 50), (1, .int (nI s)), (2, .int (nI c)), (3, .int 0)]) (st' := [.ref 50]) (μ' := μ1) (by rfl) ?_
  refine zq_gfr hc hH (by rfl) (ci := 6) (f := 1) (q := 51) (by rfl) (by decide +kernel) (by rfl) (by decide +kernel) ?_
  refine z_rcs hc hH 2 (pc' := 15) (lv' := [(0, .ref 50), (1, .int (nI s)), (2, .int (nI c)), (3, .int 0)]) (st' := [.int (nI c), .ref 51, .int (nI c), .ref 51]) (μ' := μ1) (by rfl) ?_
  refine zq_iald hc hH (by rfl) 34 (oka_i (by decide +kernel)) (vp_in_nI (by omega) (by decide)) ?_
  rw [nI_clamp (by omega)]
  rw [h51]
  refine z_rcs hc hH 2 (pc' := 18) (lv' := [(0, .ref 50), (1, .int (nI s)), (2, .int (nI c)), (3, .int 0)]) (st' := [.int ((nI (w c)) + 1), .int (nI c), .ref 51]) (μ' := μ1) (by rfl) ?_
  refine zq_iast hc hH (by rfl) 34 (oka_i (by decide +kernel)).2 (vp_in_nI (by omega) (by decide)) ?_
  rw [nI_clamp (by omega)]
  show Z 0 19 [(0, .ref 50), (1, .int (nI s)), (2, .int (nI c)), (3, .int 0)] [] (z_ui μ1 51 c ((nI (w c)) + 1))
  refine z_rcs hc hH 3 (pc' := 23) (lv' := [(4, .long 0), (0, .ref 50), (1, .int (nI s)), (2, .int (nI c)), (3, .int 0)]) (st' := [.ref 50]) (μ' := z_ui μ1 51 c ((nI (w c)) + 1)) (by rfl) ?_
  refine zq_gfr hc hH (by rfl) (ci := 6) (f := 35) (q := 67) (by rfl) (by decide +kernel) (by rfl) (by decide +kernel) ?_
  refine z_rcs hc hH 1 (pc' := 27) (lv' := [(4, .long 0), (0, .ref 50), (1, .int (nI s)), (2, .int (nI c)), (3, .int 0)]) (st' := [.int (nI s), .ref 67]) (μ' := z_ui μ1 51 c ((nI (w c)) + 1)) (by rfl) ?_
  refine zq_iald hc hH (by rfl) 4 (oka_i (by decide +kernel)) (vp_in_nI (by omega) (by decide)) ?_
  rw [nI_clamp (by omega)]
  rw [ui_o (by omega), (hTs 67 s (by omega)).1]
  refine z_rcs hc hH 1 (pc' := 29) (lv' := [(4, .long 0), (0, .ref 50), (1, .int (nI s)), (2, .int (nI c)), (3, .int 0)]) (st' := [.int 1, .int (μ.1 67 s)]) (μ' := z_ui μ1 51 c ((nI (w c)) + 1)) (by rfl) ?_
  have hJ1 : Z 0 41 [(4, .long (0 ||| (lb (decide ((μ.1 67 s) = 1)) 0))), (0, .ref 50), (1, .int (nI s)), (2, .int (nI c)), (3, .int 0)] [] (z_ui μ1 51 c ((nI (w c)) + 1)) := by
    refine z_rcs hc hH 1 (pc' := 42) (lv' := [(4, .long (0 ||| (lb (decide ((μ.1 67 s) = 1)) 0))), (0, .ref 50), (1, .int (nI s)), (2, .int (nI c)), (3, .int 0)]) (st' := [.ref 50]) (μ' := z_ui μ1 51 c ((nI (w c)) + 1)) (by rfl) ?_
    refine zq_gfr hc hH (by rfl) (ci := 6) (f := 35) (q := 67) (by rfl) (by decide +kernel) (by rfl) (by decide +kernel) ?_
    refine z_rcs hc hH 1 (pc' := 46) (lv' := [(4, .long (0 ||| (lb (decide ((μ.1 67 s) = 1)) 0))), (0, .ref 50), (1, .int (nI s)), (2, .int (nI c)), (3, .int 0)]) (st' := [.int (nI s), .ref 67]) (μ' := z_ui μ1 51 c ((nI (w c)) + 1)) (by rfl) ?_
    refine zq_iald hc hH (by rfl) 4 (oka_i (by decide +kernel)) (vp_in_nI (by omega) (by decide)) ?_
    rw [nI_clamp (by omega)]
    rw [ui_o (by omega), (hTs 67 s (by omega)).1]
    refine z_rcs hc hH 1 (pc' := 48) (lv' := [(4, .long (0 ||| (lb (decide ((μ.1 67 s) = 1)) 0))), (0, .ref 50), (1, .int (nI s)), (2, .int (nI c)), (3, .int 0)]) (st' := [.int 2, .int (μ.1 67 s)]) (μ' := z_ui μ1 51 c ((nI (w c)) + 1)) (by rfl) ?_
    have hJ2 : Z 0 60 [(4, .long ((0 ||| (lb (decide ((μ.1 67 s) = 1)) 0)) ||| (lb (decide ((μ.1 67 s) = 2)) 1))), (0, .ref 50), (1, .int (nI s)), (2, .int (nI c)), (3, .int 0)] [] (z_ui μ1 51 c ((nI (w c)) + 1)) := by
      refine z_rcs hc hH 1 (pc' := 61) (lv' := [(4, .long ((0 ||| (lb (decide ((μ.1 67 s) = 1)) 0)) ||| (lb (decide ((μ.1 67 s) = 2)) 1))), (0, .ref 50), (1, .int (nI s)), (2, .int (nI c)), (3, .int 0)]) (st' := [.ref 50]) (μ' := z_ui μ1 51 c ((nI (w c)) + 1)) (by rfl) ?_
      refine zq_gfr hc hH (by rfl) (ci := 6) (f := 37) (q := 69) (by rfl) (by decide +kernel) (by rfl) (by decide +kernel) ?_
      refine z_rcs hc hH 1 (pc' := 65) (lv' := [(4, .long ((0 ||| (lb (decide ((μ.1 67 s) = 1)) 0)) ||| (lb (decide ((μ.1 67 s) = 2)) 1))), (0, .ref 50), (1, .int (nI s)), (2, .int (nI c)), (3, .int 0)]) (st' := [.int (nI s), .ref 69]) (μ' := z_ui μ1 51 c ((nI (w c)) + 1)) (by rfl) ?_
      refine zq_bald hc hH (by rfl) 4 (by decide +kernel) (vp_in_nI (by omega) (by decide)) ?_
      rw [nI_clamp (by omega)]
      rw [ui_o (by omega), (hTs 69 s (by omega)).1]
      have hJ3 : Z 0 78 [(4, .long (((0 ||| (lb (decide ((μ.1 67 s) = 1)) 0)) ||| (lb (decide ((μ.1 67 s) = 2)) 1)) ||| (lb (!(decide ((μ.1 69 s) = 0))) 2))), (0, .ref 50), (1, .int (nI s)), (2, .int (nI c)), (3, .int 0)] [] (z_ui μ1 51 c ((nI (w c)) + 1)) := by
        refine z_rcs hc hH 5 (pc' := 110) (lv' := [(4, .long (((0 ||| (lb (decide ((μ.1 67 s) = 1)) 0)) ||| (lb (decide ((μ.1 67 s) = 2)) 1)) ||| (lb (!(decide ((μ.1 69 s) = 0))) 2))), (0, .ref 50), (1, .int (nI s)), (2, .int (nI c)), (3, .int 0)]) (st' := [.ref 50]) (μ' := z_ui μ1 51 c ((nI (w c)) + 1)) (by rfl) ?_
        refine zq_gfi hc hH (by rfl) (ci := 6) (f := 44) (by rfl) (by decide +kernel) (by rfl) ?_
        rw [ui_o (by omega), (hTs 50 44 (by omega)).1]
        refine z_rcs hc hH 1 (pc' := 114) (lv' := [(4, .long (((0 ||| (lb (decide ((μ.1 67 s) = 1)) 0)) ||| (lb (decide ((μ.1 67 s) = 2)) 1)) ||| (lb (!(decide ((μ.1 69 s) = 0))) 2))), (0, .ref 50), (1, .int (nI s)), (2, .int (nI c)), (3, .int 0)]) (st' := [.int 2, .int (μ.1 50 44)]) (μ' := z_ui μ1 51 c ((nI (w c)) + 1)) (by rfl) ?_
        have hJ4 : Z 0 133 [(4, .long ((((0 ||| (lb (decide ((μ.1 67 s) = 1)) 0)) ||| (lb (decide ((μ.1 67 s) = 2)) 1)) ||| (lb (!(decide ((μ.1 69 s) = 0))) 2)) ||| (lb ((decide ((μ.1 50 44) = 2)) && (decide ((lfM μ) = 0))) 5))), (0, .ref 50), (1, .int (nI s)), (2, .int (nI c)), (3, .int 0)] [] (z_ui μ1 51 c ((nI (w c)) + 1)) := by
          refine z_rcs hc hH 5 (pc' := 159) (lv' := [(4, .long ((((0 ||| (lb (decide ((μ.1 67 s) = 1)) 0)) ||| (lb (decide ((μ.1 67 s) = 2)) 1)) ||| (lb (!(decide ((μ.1 69 s) = 0))) 2)) ||| (lb ((decide ((μ.1 50 44) = 2)) && (decide ((lfM μ) = 0))) 5))), (0, .ref 50), (1, .int (nI s)), (2, .int (nI c)), (3, .int 0)]) (st' := [.ref 50]) (μ' := z_ui μ1 51 c ((nI (w c)) + 1)) (by rfl) ?_
          refine zq_gfi hc hH (by rfl) (ci := 6) (f := 44) (by rfl) (by decide +kernel) (by rfl) ?_
          rw [ui_o (by omega), (hTs 50 44 (by omega)).1]
          refine z_rcs hc hH 1 (pc' := 163) (lv' := [(4, .long ((((0 ||| (lb (decide ((μ.1 67 s) = 1)) 0)) ||| (lb (decide ((μ.1 67 s) = 2)) 1)) ||| (lb (!(decide ((μ.1 69 s) = 0))) 2)) ||| (lb ((decide ((μ.1 50 44) = 2)) && (decide ((lfM μ) = 0))) 5))), (0, .ref 50), (1, .int (nI s)), (2, .int (nI c)), (3, .int 0)]) (st' := [.int 3, .int (μ.1 50 44)]) (μ' := z_ui μ1 51 c ((nI (w c)) + 1)) (by rfl) ?_
          have hJ5 : Z 0 176 [(4, .long (((((0 ||| (lb (decide ((μ.1 67 s) = 1)) 0)) ||| (lb (decide ((μ.1 67 s) = 2)) 1)) ||| (lb (!(decide ((μ.1 69 s) = 0))) 2)) ||| (lb ((decide ((μ.1 50 44) = 2)) && (decide ((lfM μ) = 0))) 5)) ||| (lb (decide ((μ.1 50 44) = 3)) 7))), (0, .ref 50), (1, .int (nI s)), (2, .int (nI c)), (3, .int 0)] [] (z_ui μ1 51 c ((nI (w c)) + 1)) := by
            refine z_rcs hc hH 10 (pc' := 254) (lv' := [(4, .long (((((0 ||| (lb (decide ((μ.1 67 s) = 1)) 0)) ||| (lb (decide ((μ.1 67 s) = 2)) 1)) ||| (lb (!(decide ((μ.1 69 s) = 0))) 2)) ||| (lb ((decide ((μ.1 50 44) = 2)) && (decide ((lfM μ) = 0))) 5)) ||| (lb (decide ((μ.1 50 44) = 3)) 7))), (0, .ref 50), (1, .int (nI s)), (2, .int (nI c)), (3, .int 0)]) (st' := [.int (nI s), .ref 50, .long (((((0 ||| (lb (decide ((μ.1 67 s) = 1)) 0)) ||| (lb (decide ((μ.1 67 s) = 2)) 1)) ||| (lb (!(decide ((μ.1 69 s) = 0))) 2)) ||| (lb ((decide ((μ.1 50 44) = 2)) && (decide ((lfM μ) = 0))) 5)) ||| (lb (decide ((μ.1 50 44) = 3)) 7)), .int 0, .int (nI c), .ref 50]) (μ' := z_ui μ1 51 c ((nI (w c)) + 1)) (by rfl) ?_
            refine zq_call hc (by rfl) (fx_wind d' (by omega) (z_ui μ1 51 c ((nI (w c)) + 1)) (μ.1 50 40) (nI s) (by rw [ui_o (by omega), (hTs 50 40 (by omega)).1])) (by decide +kernel) (fun r9 μ9 hq => ?_)
            obtain ⟨hμ9, rfl⟩ := hq
            rw [hμ9]
            clear hμ9 μ9
            show Z 0 257 [(4, .long (((((0 ||| (lb (decide ((μ.1 67 s) = 1)) 0)) ||| (lb (decide ((μ.1 67 s) = 2)) 1)) ||| (lb (!(decide ((μ.1 69 s) = 0))) 2)) ||| (lb ((decide ((μ.1 50 44) = 2)) && (decide ((lfM μ) = 0))) 5)) ||| (lb (decide ((μ.1 50 44) = 3)) 7))), (0, .ref 50), (1, .int (nI s)), (2, .int (nI c)), (3, .int 0)] [.int (wdM (μ.1 50 40) (nI s)), .long (((((0 ||| (lb (decide ((μ.1 67 s) = 1)) 0)) ||| (lb (decide ((μ.1 67 s) = 2)) 1)) ||| (lb (!(decide ((μ.1 69 s) = 0))) 2)) ||| (lb ((decide ((μ.1 50 44) = 2)) && (decide ((lfM μ) = 0))) 5)) ||| (lb (decide ((μ.1 50 44) = 3)) 7)), .int 0, .int (nI c), .ref 50] (z_ui μ1 51 c ((nI (w c)) + 1))
            refine z_rcs hc hH 1 (pc' := 258) (lv' := [(4, .long (((((0 ||| (lb (decide ((μ.1 67 s) = 1)) 0)) ||| (lb (decide ((μ.1 67 s) = 2)) 1)) ||| (lb (!(decide ((μ.1 69 s) = 0))) 2)) ||| (lb ((decide ((μ.1 50 44) = 2)) && (decide ((lfM μ) = 0))) 5)) ||| (lb (decide ((μ.1 50 44) = 3)) 7))), (0, .ref 50), (1, .int (nI s)), (2, .int (nI c)), (3, .int 0)]) (st' := [.ref 50, .int (wdM (μ.1 50 40) (nI s)), .long (((((0 ||| (lb (decide ((μ.1 67 s) = 1)) 0)) ||| (lb (decide ((μ.1 67 s) = 2)) 1)) ||| (lb (!(decide ((μ.1 69 s) = 0))) 2)) ||| (lb ((decide ((μ.1 50 44) = 2)) && (decide ((lfM μ) = 0))) 5)) ||| (lb (decide ((μ.1 50 44) = 3)) 7)), .int 0, .int (nI c), .ref 50]) (μ' := z_ui μ1 51 c ((nI (w c)) + 1)) (by rfl) ?_
            refine zq_gfi hc hH (by rfl) (ci := 6) (f := 41) (by rfl) (by decide +kernel) (by rfl) ?_
            rw [ui_o (by omega), (hTs 50 41 (by omega)).1]
            refine z_rcs hc hH 2 (pc' := 263) (lv' := [(4, .long (((((0 ||| (lb (decide ((μ.1 67 s) = 1)) 0)) ||| (lb (decide ((μ.1 67 s) = 2)) 1)) ||| (lb (!(decide ((μ.1 69 s) = 0))) 2)) ||| (lb ((decide ((μ.1 50 44) = 2)) && (decide ((lfM μ) = 0))) 5)) ||| (lb (decide ((μ.1 50 44) = 3)) 7))), (0, .ref 50), (1, .int (nI s)), (2, .int (nI c)), (3, .int 0)]) (st' := [.ref 50, .ref 50, .int (μ.1 50 41), .int (wdM (μ.1 50 40) (nI s)), .long (((((0 ||| (lb (decide ((μ.1 67 s) = 1)) 0)) ||| (lb (decide ((μ.1 67 s) = 2)) 1)) ||| (lb (!(decide ((μ.1 69 s) = 0))) 2)) ||| (lb ((decide ((μ.1 50 44) = 2)) && (decide ((lfM μ) = 0))) 5)) ||| (lb (decide ((μ.1 50 44) = 3)) 7)), .int 0, .int (nI c), .ref 50]) (μ' := z_ui μ1 51 c ((nI (w c)) + 1)) (by rfl) ?_
            refine zq_gfr hc hH (by rfl) (ci := 6) (f := 35) (q := 67) (by rfl) (by decide +kernel) (by rfl) (by decide +kernel) ?_
            refine z_rcs hc hH 1 (pc' := 267) (lv' := [(4, .long (((((0 ||| (lb (decide ((μ.1 67 s) = 1)) 0)) ||| (lb (decide ((μ.1 67 s) = 2)) 1)) ||| (lb (!(decide ((μ.1 69 s) = 0))) 2)) ||| (lb ((decide ((μ.1 50 44) = 2)) && (decide ((lfM μ) = 0))) 5)) ||| (lb (decide ((μ.1 50 44) = 3)) 7))), (0, .ref 50), (1, .int (nI s)), (2, .int (nI c)), (3, .int 0)]) (st' := [.int (nI s), .ref 67, .ref 50, .int (μ.1 50 41), .int (wdM (μ.1 50 40) (nI s)), .long (((((0 ||| (lb (decide ((μ.1 67 s) = 1)) 0)) ||| (lb (decide ((μ.1 67 s) = 2)) 1)) ||| (lb (!(decide ((μ.1 69 s) = 0))) 2)) ||| (lb ((decide ((μ.1 50 44) = 2)) && (decide ((lfM μ) = 0))) 5)) ||| (lb (decide ((μ.1 50 44) = 3)) 7)), .int 0, .int (nI c), .ref 50]) (μ' := z_ui μ1 51 c ((nI (w c)) + 1)) (by rfl) ?_
            refine zq_iald hc hH (by rfl) 4 (oka_i (by decide +kernel)) (vp_in_nI (by omega) (by decide)) ?_
            rw [nI_clamp (by omega)]
            rw [ui_o (by omega), (hTs 67 s (by omega)).1]
            have hJ6 : Z 0 276 [(4, .long (((((0 ||| (lb (decide ((μ.1 67 s) = 1)) 0)) ||| (lb (decide ((μ.1 67 s) = 2)) 1)) ||| (lb (!(decide ((μ.1 69 s) = 0))) 2)) ||| (lb ((decide ((μ.1 50 44) = 2)) && (decide ((lfM μ) = 0))) 5)) ||| (lb (decide ((μ.1 50 44) = 3)) 7))), (0, .ref 50), (1, .int (nI s)), (2, .int (nI c)), (3, .int 0)] [.int (nB (!(decide ((μ.1 67 s) ≤ 0)))), .ref 50, .int (μ.1 50 41), .int (wdM (μ.1 50 40) (nI s)), .long (((((0 ||| (lb (decide ((μ.1 67 s) = 1)) 0)) ||| (lb (decide ((μ.1 67 s) = 2)) 1)) ||| (lb (!(decide ((μ.1 69 s) = 0))) 2)) ||| (lb ((decide ((μ.1 50 44) = 2)) && (decide ((lfM μ) = 0))) 5)) ||| (lb (decide ((μ.1 50 44) = 3)) 7)), .int 0, .int (nI c), .ref 50] (z_ui μ1 51 c ((nI (w c)) + 1)) := by
              have hH2 : a_H (z_ui μ1 51 c ((nI (w c)) + 1)) := a_H_ui (r := 51) hH1 (show bI _ _ _ from bI_top _)
              refine zq_call hc (by rfl) (gm_dearH d' (by omega) (z_ui μ1 51 c ((nI (w c)) + 1)) hH2 (!(decide ((μ.1 67 s) ≤ 0))) q f hM.2.2.1 (by rw [ui_o (by decide)]; exact hT.2.1) hf4 (by rw [ui_o (by omega), (hTs 50 47 (by omega)).1]; exact hf) W (fun p h1 h2 => by rw [ui_o (by omega), (hTs 59 p (by omega)).1]; exact hW p h1 h2)) (by decide +kernel) (fun r9 μ2 hq9 => ?_)
              obtain ⟨⟨rfl, hD⟩, hH3⟩ := hq9
              have eD : deF (dA (z_ui μ1 51 c ((nI (w c)) + 1)) W q) (!(decide ((μ.1 67 s) ≤ 0))) (f + 1) = deF (dAs μ s (ad1 w c) W q) (!(decide ((μ.1 67 s) ≤ 0))) (f + 1) := deF_cg _ (fun p h1 h2 => by
                unfold dA dAs
                have e7 : ∀ k, k < 34 → (z_ui μ1 51 c ((nI (w c)) + 1)).1 51 k = nI (ad1 w c k) := fun k hk => by
                  unfold ad1
                  by_cases e : k = c
                  · rw [if_pos e, e, ui_s]; exact nI_s1 _
                  · rw [if_neg e, ui_k e, hT.1 k hk]; exact (hM.1 k hk).1
                rw [e7 _ (in_lt (bhd_in _ (hW p h1 (by omega)).2)), show (z_ui μ1 51 c ((nI (w c)) + 1)).1 52 = μ1.1 52 from funext fun k => ui_o (by decide), show (z_ui μ1 51 c ((nI (w c)) + 1)).1 53 = μ1.1 53 from funext fun k => ui_o (by decide)]
                exact ofv_cg q (fun i hi => hT.2.2.1 i hi))
              rw [eD]
              show Z 0 279 [(4, .long (((((0 ||| (lb (decide ((μ.1 67 s) = 1)) 0)) ||| (lb (decide ((μ.1 67 s) = 2)) 1)) ||| (lb (!(decide ((μ.1 69 s) = 0))) 2)) ||| (lb ((decide ((μ.1 50 44) = 2)) && (decide ((lfM μ) = 0))) 5)) ||| (lb (decide ((μ.1 50 44) = 3)) 7))), (0, .ref 50), (1, .int (nI s)), (2, .int (nI c)), (3, .int 0)] [.int (deF (dAs μ s (ad1 w c) W q) (!(decide ((μ.1 67 s) ≤ 0))) (f + 1)), .int (μ.1 50 41), .int (wdM (μ.1 50 40) (nI s)), .long (((((0 ||| (lb (decide ((μ.1 67 s) = 1)) 0)) ||| (lb (decide ((μ.1 67 s) = 2)) 1)) ||| (lb (!(decide ((μ.1 69 s) = 0))) 2)) ||| (lb ((decide ((μ.1 50 44) = 2)) && (decide ((lfM μ) = 0))) 5)) ||| (lb (decide ((μ.1 50 44) = 3)) 7)), .int 0, .int (nI c), .ref 50] μ2
              have hw2 : RW μ2 51 (ad1 w c) := fun k hk => by
                rw [hD.2.1 51 k (by decide)]
                show (z_ui μ1 51 c ((nI (w c)) + 1)).1 51 k = nI (if k = c then w k + 1 else w k) ∧ (if k = c then w k + 1 else w k) ≤ 5
                have := (hM.1 k hk).2
                by_cases e : k = c
                · rw [if_pos e, e, ui_s]; exact ⟨nI_s1 _, by rw [← e]; omega⟩
                · rw [if_neg e, ui_k e, hT.1 k hk]; exact ⟨(hM.1 k hk).1, by omega⟩
              have e42 : μ2.1 50 4 = nI q := by rw [hD.2.1 50 4 (by decide), ui_o (by decide)]; exact hT.2.1
              have hL2 : ∀ j, j < q → μ2.1 52 j = nI (sL j) ∧ sL j ≤ 3 ∧ μ2.1 53 j = nI (lL j) ∧ lL j < 34 := fun j hj => by
                have h5 := hM.2.2.2 j hj
                rw [hD.2.1 52 j (by decide), hD.2.1 53 j (by decide), ui_o (by decide), ui_o (by decide), (hT.2.2.1 j hj).1, (hT.2.2.1 j hj).2]
                exact ⟨h5.1, h5.2.1, h5.2.2.1, h5.2.2.2.1⟩
              refine zq_call hc (by rfl) (S_full d' (by decide +kernel) (by rw [show rg mi_X7_reckon 0 = 0 from by decide +kernel]; exact trivial) (fr_X7_reckon d' (by omega) μ2 (ad1 w c) q hM.2.2.1 hw2 e42 sL lL hL2 hH3 (nI c) (wdM (μ.1 50 40) (nI s)) (μ.1 50 41) (deF (dAs μ s (ad1 w c) W q) (!(decide ((μ.1 67 s) ≤ 0))) (f + 1)) false (((((0 ||| (lb (decide ((μ.1 67 s) = 1)) 0)) ||| (lb (decide ((μ.1 67 s) = 2)) 1)) ||| (lb (!(decide ((μ.1 69 s) = 0))) 2)) ||| (lb ((decide ((μ.1 50 44) = 2)) && (decide ((lfM μ) = 0))) 5)) ||| (lb (decide ((μ.1 50 44) = 3)) 7)))) (by decide +kernel) (fun r9 μ3 hq9 => ?_)
              obtain ⟨⟨rfl, hH4, hF4, hK4⟩, hfu⟩ := hq9
              show Z 0 282 [(4, .long (((((0 ||| (lb (decide ((μ.1 67 s) = 1)) 0)) ||| (lb (decide ((μ.1 67 s) = 2)) 1)) ||| (lb (!(decide ((μ.1 69 s) = 0))) 2)) ||| (lb ((decide ((μ.1 50 44) = 2)) && (decide ((lfM μ) = 0))) 5)) ||| (lb (decide ((μ.1 50 44) = 3)) 7))), (0, .ref 50), (1, .int (nI s)), (2, .int (nI c)), (3, .int 0)] [] μ3
              exact hr 0 282 _ _ _ none (by decide +kernel) (by rfl) (⟨rfl, hH4, SM_tr (SM_51 hTs) (SM_tr hD.sm (SM_fz hF4 (by decide))), fun h9 => hfu.resolve_left h9, hK4⟩)
            refine zq_if hc hH (by rfl) (tg := 275) (by rfl) (fun h7 => ?_) (fun h7 => ?_)
            · have h7 : (decide ((μ.1 67 s) ≤ 0)) = true := decide_eq_true (cm_le.mp h7)
              refine z_rcs hc hH 1 (pc' := 276) (lv' := [(4, .long (((((0 ||| (lb (decide ((μ.1 67 s) = 1)) 0)) ||| (lb (decide ((μ.1 67 s) = 2)) 1)) ||| (lb (!(decide ((μ.1 69 s) = 0))) 2)) ||| (lb ((decide ((μ.1 50 44) = 2)) && (decide ((lfM μ) = 0))) 5)) ||| (lb (decide ((μ.1 50 44) = 3)) 7))), (0, .ref 50), (1, .int (nI s)), (2, .int (nI c)), (3, .int 0)]) (st' := [.int 0, .ref 50, .int (μ.1 50 41), .int (wdM (μ.1 50 40) (nI s)), .long (((((0 ||| (lb (decide ((μ.1 67 s) = 1)) 0)) ||| (lb (decide ((μ.1 67 s) = 2)) 1)) ||| (lb (!(decide ((μ.1 69 s) = 0))) 2)) ||| (lb ((decide ((μ.1 50 44) = 2)) && (decide ((lfM μ) = 0))) 5)) ||| (lb (decide ((μ.1 50 44) = 3)) 7)), .int 0, .int (nI c), .ref 50]) (μ' := z_ui μ1 51 c ((nI (w c)) + 1)) (by rfl) ?_
              exact zJ hJ6 rfl (by first | rfl | simp only [h7, lb_f, Int64.or_zero, Int32.add_zero, nB_t, nB_f, Bool.not_true, Bool.not_false, Bool.and_true, Bool.true_and, Bool.false_and, Bool.and_false, Bool.or_true, Bool.true_or, Bool.false_or, Bool.or_false, cond_true, cond_false]) rfl
            · have h7 : (decide ((μ.1 67 s) ≤ 0)) = false := decide_eq_false (cn_le.mp h7)
              refine z_rcs hc hH 2 (pc' := 276) (lv' := [(4, .long (((((0 ||| (lb (decide ((μ.1 67 s) = 1)) 0)) ||| (lb (decide ((μ.1 67 s) = 2)) 1)) ||| (lb (!(decide ((μ.1 69 s) = 0))) 2)) ||| (lb ((decide ((μ.1 50 44) = 2)) && (decide ((lfM μ) = 0))) 5)) ||| (lb (decide ((μ.1 50 44) = 3)) 7))), (0, .ref 50), (1, .int (nI s)), (2, .int (nI c)), (3, .int 0)]) (st' := [.int 1, .ref 50, .int (μ.1 50 41), .int (wdM (μ.1 50 40) (nI s)), .long (((((0 ||| (lb (decide ((μ.1 67 s) = 1)) 0)) ||| (lb (decide ((μ.1 67 s) = 2)) 1)) ||| (lb (!(decide ((μ.1 69 s) = 0))) 2)) ||| (lb ((decide ((μ.1 50 44) = 2)) && (decide ((lfM μ) = 0))) 5)) ||| (lb (decide ((μ.1 50 44) = 3)) 7)), .int 0, .int (nI c), .ref 50]) (μ' := z_ui μ1 51 c ((nI (w c)) + 1)) (by rfl) ?_
              exact zJ hJ6 rfl (by first | rfl | simp only [h7, lb_f, Int64.or_zero, Int32.add_zero, nB_t, nB_f, Bool.not_true, Bool.not_false, Bool.and_true, Bool.true_and, Bool.false_and, Bool.and_false, Bool.or_true, Bool.true_or, Bool.false_or, Bool.or_false, cond_true, cond_false]) rfl
          refine zq_ic hc hH (by rfl) (tg := 176) (by rfl) (fun h8 => ?_) (fun h8 => ?_)
          · have h8 : (decide ((μ.1 50 44) = 3)) = false := decide_eq_false (cm_ne.mp h8)
            exact zJ hJ5 (by first | rfl | simp only [h8, lb_f, Int64.or_zero, Int32.add_zero, nB_t, nB_f, Bool.not_true, Bool.not_false, Bool.and_true, Bool.true_and, Bool.false_and, Bool.and_false, Bool.or_true, Bool.true_or, Bool.false_or, Bool.or_false, cond_true, cond_false]) rfl rfl
          · have h8 : (decide ((μ.1 50 44) = 3)) = true := decide_eq_true (cn_ne.mp h8)
            refine z_rcs hc hH 2 (pc' := 170) (lv' := [(4, .long ((((0 ||| (lb (decide ((μ.1 67 s) = 1)) 0)) ||| (lb (decide ((μ.1 67 s) = 2)) 1)) ||| (lb (!(decide ((μ.1 69 s) = 0))) 2)) ||| (lb ((decide ((μ.1 50 44) = 2)) && (decide ((lfM μ) = 0))) 5))), (0, .ref 50), (1, .int (nI s)), (2, .int (nI c)), (3, .int 0)]) (st' := [.int 7, .long ((((0 ||| (lb (decide ((μ.1 67 s) = 1)) 0)) ||| (lb (decide ((μ.1 67 s) = 2)) 1)) ||| (lb (!(decide ((μ.1 69 s) = 0))) 2)) ||| (lb ((decide ((μ.1 50 44) = 2)) && (decide ((lfM μ) = 0))) 5))]) (μ' := z_ui μ1 51 c ((nI (w c)) + 1)) (by rfl) ?_
            refine zq_call hc (by rfl) (fb_X7_bit d' (by omega) (z_ui μ1 51 c ((nI (w c)) + 1)) 7) (by decide +kernel) (fun r9 μ9 hq => ?_)
            obtain ⟨hμ9, rfl⟩ := hq
            rw [hμ9]
            clear hμ9 μ9
            show Z 0 173 [(4, .long ((((0 ||| (lb (decide ((μ.1 67 s) = 1)) 0)) ||| (lb (decide ((μ.1 67 s) = 2)) 1)) ||| (lb (!(decide ((μ.1 69 s) = 0))) 2)) ||| (lb ((decide ((μ.1 50 44) = 2)) && (decide ((lfM μ) = 0))) 5))), (0, .ref 50), (1, .int (nI s)), (2, .int (nI c)), (3, .int 0)] [.long (lb true 7), .long ((((0 ||| (lb (decide ((μ.1 67 s) = 1)) 0)) ||| (lb (decide ((μ.1 67 s) = 2)) 1)) ||| (lb (!(decide ((μ.1 69 s) = 0))) 2)) ||| (lb ((decide ((μ.1 50 44) = 2)) && (decide ((lfM μ) = 0))) 5))] (z_ui μ1 51 c ((nI (w c)) + 1))
            refine z_rcs hc hH 2 (pc' := 176) (lv' := [(4, .long (((((0 ||| (lb (decide ((μ.1 67 s) = 1)) 0)) ||| (lb (decide ((μ.1 67 s) = 2)) 1)) ||| (lb (!(decide ((μ.1 69 s) = 0))) 2)) ||| (lb ((decide ((μ.1 50 44) = 2)) && (decide ((lfM μ) = 0))) 5)) ||| (lb true 7))), (0, .ref 50), (1, .int (nI s)), (2, .int (nI c)), (3, .int 0)]) (st' := []) (μ' := z_ui μ1 51 c ((nI (w c)) + 1)) (by rfl) ?_
            exact zJ hJ5 (by first | rfl | simp only [h8, lb_f, Int64.or_zero, Int32.add_zero, nB_t, nB_f, Bool.not_true, Bool.not_false, Bool.and_true, Bool.true_and, Bool.false_and, Bool.and_false, Bool.or_true, Bool.true_or, Bool.false_or, Bool.or_false, cond_true, cond_false]) rfl rfl
        refine zq_ic hc hH (by rfl) (tg := 133) (by rfl) (fun h9 => ?_) (fun h9 => ?_)
        · have h9 : (decide ((μ.1 50 44) = 2)) = false := decide_eq_false (cm_ne.mp h9)
          exact zJ hJ4 (by first | rfl | simp only [h9, lb_f, Int64.or_zero, Int32.add_zero, nB_t, nB_f, Bool.not_true, Bool.not_false, Bool.and_true, Bool.true_and, Bool.false_and, Bool.and_false, Bool.or_true, Bool.true_or, Bool.false_or, Bool.or_false, cond_true, cond_false]) rfl rfl
        · have h9 : (decide ((μ.1 50 44) = 2)) = true := decide_eq_true (cn_ne.mp h9)
          refine z_rcs hc hH 1 (pc' := 118) (lv' := [(4, .long (((0 ||| (lb (decide ((μ.1 67 s) = 1)) 0)) ||| (lb (decide ((μ.1 67 s) = 2)) 1)) ||| (lb (!(decide ((μ.1 69 s) = 0))) 2))), (0, .ref 50), (1, .int (nI s)), (2, .int (nI c)), (3, .int 0)]) (st' := [.ref 50]) (μ' := z_ui μ1 51 c ((nI (w c)) + 1)) (by rfl) ?_
          refine zq_call hc (by rfl) (fx_left d' (by omega) (z_ui μ1 51 c ((nI (w c)) + 1)) (μ.1 50 47) (μ.1 50 46) (by rw [ui_o (by omega), (hTs 50 47 (by omega)).1]) (by rw [ui_o (by omega), (hTs 50 46 (by omega)).1])) (by decide +kernel) (fun r9 μ9 hq => ?_)
          obtain ⟨hμ9, rfl⟩ := hq
          rw [hμ9]
          clear hμ9 μ9
          show Z 0 121 [(4, .long (((0 ||| (lb (decide ((μ.1 67 s) = 1)) 0)) ||| (lb (decide ((μ.1 67 s) = 2)) 1)) ||| (lb (!(decide ((μ.1 69 s) = 0))) 2))), (0, .ref 50), (1, .int (nI s)), (2, .int (nI c)), (3, .int 0)] [.int (lfM μ)] (z_ui μ1 51 c ((nI (w c)) + 1))
          refine zq_if hc hH (by rfl) (tg := 133) (by rfl) (fun h10 => ?_) (fun h10 => ?_)
          · have h10 : (decide ((lfM μ) = 0)) = false := decide_eq_false (cm_ne.mp h10)
            exact zJ hJ4 (by first | rfl | simp only [h9, h10, lb_f, Int64.or_zero, Int32.add_zero, nB_t, nB_f, Bool.not_true, Bool.not_false, Bool.and_true, Bool.true_and, Bool.false_and, Bool.and_false, Bool.or_true, Bool.true_or, Bool.false_or, Bool.or_false, cond_true, cond_false]) rfl rfl
          · have h10 : (decide ((lfM μ) = 0)) = true := decide_eq_true (cn_ne.mp h10)
            refine z_rcs hc hH 2 (pc' := 127) (lv' := [(4, .long (((0 ||| (lb (decide ((μ.1 67 s) = 1)) 0)) ||| (lb (decide ((μ.1 67 s) = 2)) 1)) ||| (lb (!(decide ((μ.1 69 s) = 0))) 2))), (0, .ref 50), (1, .int (nI s)), (2, .int (nI c)), (3, .int 0)]) (st' := [.int 5, .long (((0 ||| (lb (decide ((μ.1 67 s) = 1)) 0)) ||| (lb (decide ((μ.1 67 s) = 2)) 1)) ||| (lb (!(decide ((μ.1 69 s) = 0))) 2))]) (μ' := z_ui μ1 51 c ((nI (w c)) + 1)) (by rfl) ?_
            refine zq_call hc (by rfl) (fb_X7_bit d' (by omega) (z_ui μ1 51 c ((nI (w c)) + 1)) 5) (by decide +kernel) (fun r9 μ9 hq => ?_)
            obtain ⟨hμ9, rfl⟩ := hq
            rw [hμ9]
            clear hμ9 μ9
            show Z 0 130 [(4, .long (((0 ||| (lb (decide ((μ.1 67 s) = 1)) 0)) ||| (lb (decide ((μ.1 67 s) = 2)) 1)) ||| (lb (!(decide ((μ.1 69 s) = 0))) 2))), (0, .ref 50), (1, .int (nI s)), (2, .int (nI c)), (3, .int 0)] [.long (lb true 5), .long (((0 ||| (lb (decide ((μ.1 67 s) = 1)) 0)) ||| (lb (decide ((μ.1 67 s) = 2)) 1)) ||| (lb (!(decide ((μ.1 69 s) = 0))) 2))] (z_ui μ1 51 c ((nI (w c)) + 1))
            refine z_rcs hc hH 2 (pc' := 133) (lv' := [(4, .long ((((0 ||| (lb (decide ((μ.1 67 s) = 1)) 0)) ||| (lb (decide ((μ.1 67 s) = 2)) 1)) ||| (lb (!(decide ((μ.1 69 s) = 0))) 2)) ||| (lb true 5))), (0, .ref 50), (1, .int (nI s)), (2, .int (nI c)), (3, .int 0)]) (st' := []) (μ' := z_ui μ1 51 c ((nI (w c)) + 1)) (by rfl) ?_
            exact zJ hJ4 (by first | rfl | simp only [h9, h10, lb_f, Int64.or_zero, Int32.add_zero, nB_t, nB_f, Bool.not_true, Bool.not_false, Bool.and_true, Bool.true_and, Bool.false_and, Bool.and_false, Bool.or_true, Bool.true_or, Bool.false_or, Bool.or_false, cond_true, cond_false]) rfl rfl
      refine zq_if hc hH (by rfl) (tg := 78) (by rfl) (fun h11 => ?_) (fun h11 => ?_)
      · have h11 : (decide ((μ.1 69 s) = 0)) = true := decide_eq_true (cm_eq9.mp h11)
        exact zJ hJ3 (by first | rfl | simp only [h11, lb_f, Int64.or_zero, Int32.add_zero, nB_t, nB_f, Bool.not_true, Bool.not_false, Bool.and_true, Bool.true_and, Bool.false_and, Bool.and_false, Bool.or_true, Bool.true_or, Bool.false_or, Bool.or_false, cond_true, cond_false]) rfl rfl
      · have h11 : (decide ((μ.1 69 s) = 0)) = false := decide_eq_false (cn_eq.mp h11)
        refine z_rcs hc hH 2 (pc' := 72) (lv' := [(4, .long ((0 ||| (lb (decide ((μ.1 67 s) = 1)) 0)) ||| (lb (decide ((μ.1 67 s) = 2)) 1))), (0, .ref 50), (1, .int (nI s)), (2, .int (nI c)), (3, .int 0)]) (st' := [.int 2, .long ((0 ||| (lb (decide ((μ.1 67 s) = 1)) 0)) ||| (lb (decide ((μ.1 67 s) = 2)) 1))]) (μ' := z_ui μ1 51 c ((nI (w c)) + 1)) (by rfl) ?_
        refine zq_call hc (by rfl) (fb_X7_bit d' (by omega) (z_ui μ1 51 c ((nI (w c)) + 1)) 2) (by decide +kernel) (fun r9 μ9 hq => ?_)
        obtain ⟨hμ9, rfl⟩ := hq
        rw [hμ9]
        clear hμ9 μ9
        show Z 0 75 [(4, .long ((0 ||| (lb (decide ((μ.1 67 s) = 1)) 0)) ||| (lb (decide ((μ.1 67 s) = 2)) 1))), (0, .ref 50), (1, .int (nI s)), (2, .int (nI c)), (3, .int 0)] [.long (lb true 2), .long ((0 ||| (lb (decide ((μ.1 67 s) = 1)) 0)) ||| (lb (decide ((μ.1 67 s) = 2)) 1))] (z_ui μ1 51 c ((nI (w c)) + 1))
        refine z_rcs hc hH 2 (pc' := 78) (lv' := [(4, .long (((0 ||| (lb (decide ((μ.1 67 s) = 1)) 0)) ||| (lb (decide ((μ.1 67 s) = 2)) 1)) ||| (lb true 2))), (0, .ref 50), (1, .int (nI s)), (2, .int (nI c)), (3, .int 0)]) (st' := []) (μ' := z_ui μ1 51 c ((nI (w c)) + 1)) (by rfl) ?_
        exact zJ hJ3 (by first | rfl | simp only [h11, lb_f, Int64.or_zero, Int32.add_zero, nB_t, nB_f, Bool.not_true, Bool.not_false, Bool.and_true, Bool.true_and, Bool.false_and, Bool.and_false, Bool.or_true, Bool.true_or, Bool.false_or, Bool.or_false, cond_true, cond_false]) rfl rfl
    refine zq_ic hc hH (by rfl) (tg := 60) (by rfl) (fun h12 => ?_) (fun h12 => ?_)
    · have h12 : (decide ((μ.1 67 s) = 2)) = false := decide_eq_false (cm_ne.mp h12)
      exact zJ hJ2 (by first | rfl | simp only [h12, lb_f, Int64.or_zero, Int32.add_zero, nB_t, nB_f, Bool.not_true, Bool.not_false, Bool.and_true, Bool.true_and, Bool.false_and, Bool.and_false, Bool.or_true, Bool.true_or, Bool.false_or, Bool.or_false, cond_true, cond_false]) rfl rfl
    · have h12 : (decide ((μ.1 67 s) = 2)) = true := decide_eq_true (cn_ne.mp h12)
      refine z_rcs hc hH 2 (pc' := 54) (lv' := [(4, .long (0 ||| (lb (decide ((μ.1 67 s) = 1)) 0))), (0, .ref 50), (1, .int (nI s)), (2, .int (nI c)), (3, .int 0)]) (st' := [.int 1, .long (0 ||| (lb (decide ((μ.1 67 s) = 1)) 0))]) (μ' := z_ui μ1 51 c ((nI (w c)) + 1)) (by rfl) ?_
      refine zq_call hc (by rfl) (fb_X7_bit d' (by omega) (z_ui μ1 51 c ((nI (w c)) + 1)) 1) (by decide +kernel) (fun r9 μ9 hq => ?_)
      obtain ⟨hμ9, rfl⟩ := hq
      rw [hμ9]
      clear hμ9 μ9
      show Z 0 57 [(4, .long (0 ||| (lb (decide ((μ.1 67 s) = 1)) 0))), (0, .ref 50), (1, .int (nI s)), (2, .int (nI c)), (3, .int 0)] [.long (lb true 1), .long (0 ||| (lb (decide ((μ.1 67 s) = 1)) 0))] (z_ui μ1 51 c ((nI (w c)) + 1))
      refine z_rcs hc hH 2 (pc' := 60) (lv' := [(4, .long ((0 ||| (lb (decide ((μ.1 67 s) = 1)) 0)) ||| (lb true 1))), (0, .ref 50), (1, .int (nI s)), (2, .int (nI c)), (3, .int 0)]) (st' := []) (μ' := z_ui μ1 51 c ((nI (w c)) + 1)) (by rfl) ?_
      exact zJ hJ2 (by first | rfl | simp only [h12, lb_f, Int64.or_zero, Int32.add_zero, nB_t, nB_f, Bool.not_true, Bool.not_false, Bool.and_true, Bool.true_and, Bool.false_and, Bool.and_false, Bool.or_true, Bool.true_or, Bool.false_or, Bool.or_false, cond_true, cond_false]) rfl rfl
  refine zq_ic hc hH (by rfl) (tg := 41) (by rfl) (fun h13 => ?_) (fun h13 => ?_)
  · have h13 : (decide ((μ.1 67 s) = 1)) = false := decide_eq_false (cm_ne.mp h13)
    exact zJ hJ1 (by first | rfl | simp only [h13, lb_f, Int64.or_zero, Int32.add_zero, nB_t, nB_f, Bool.not_true, Bool.not_false, Bool.and_true, Bool.true_and, Bool.false_and, Bool.and_false, Bool.or_true, Bool.true_or, Bool.false_or, Bool.or_false, cond_true, cond_false]) rfl rfl
  · have h13 : (decide ((μ.1 67 s) = 1)) = true := decide_eq_true (cn_ne.mp h13)
    refine z_rcs hc hH 2 (pc' := 35) (lv' := [(4, .long 0), (0, .ref 50), (1, .int (nI s)), (2, .int (nI c)), (3, .int 0)]) (st' := [.int 0, .long 0]) (μ' := z_ui μ1 51 c ((nI (w c)) + 1)) (by rfl) ?_
    refine zq_call hc (by rfl) (fb_X7_bit d' (by omega) (z_ui μ1 51 c ((nI (w c)) + 1)) 0) (by decide +kernel) (fun r9 μ9 hq => ?_)
    obtain ⟨hμ9, rfl⟩ := hq
    rw [hμ9]
    clear hμ9 μ9
    show Z 0 38 [(4, .long 0), (0, .ref 50), (1, .int (nI s)), (2, .int (nI c)), (3, .int 0)] [.long (lb true 0), .long 0] (z_ui μ1 51 c ((nI (w c)) + 1))
    refine z_rcs hc hH 2 (pc' := 41) (lv' := [(4, .long (0 ||| (lb true 0))), (0, .ref 50), (1, .int (nI s)), (2, .int (nI c)), (3, .int 0)]) (st' := []) (μ' := z_ui μ1 51 c ((nI (w c)) + 1)) (by rfl) ?_
    exact zJ hJ1 (by first | rfl | simp only [h13, lb_f, Int64.or_zero, Int32.add_zero, nB_t, nB_f, Bool.not_true, Bool.not_false, Bool.and_true, Bool.true_and, Bool.false_and, Bool.and_false, Bool.or_true, Bool.true_or, Bool.false_or, Bool.or_false, cond_true, cond_false]) rfl rfl
theorem gm_value1 (d : Nat) (hd : 698 ≤ d) (μ : zM) (hH0 : a_H μ) (s c : Nat) (hs4 : s < 4) (hc34 : c < 34) (w : Nat → Nat) (q : Nat) (sL lL : Nat → Nat) (hM : HM μ s w q sL lL) (f : Nat) (hf4 : f ≤ 4) (hf : μ.1 50 47 = nI f) (W : Nat → Nat) (hW : ∀ p, 126 ≤ p → p < 136 → μ.1 59 p = nI (W p) ∧ W p < 34) : z_C d mi_X7_value [.ref 50, .int (nI s), .int (nI c), .int 1] μ (fun r μ' => r = none ∧ a_H μ' ∧ SMj μ μ' ∧ (¬ μ'.1 50 13 = 0 → μ'.1 50 18 = 1) ∧ ∃ κ, KM κ w q sL lL (nI c) true (((((((0 ||| (lb (decide ((μ.1 67 s) = 1)) 0)) ||| (lb (decide ((μ.1 67 s) = 2)) 1)) ||| (lb (!(decide ((μ.1 69 s) = 0))) 2)) ||| (lb ((decide ((lfM μ) = 0)) && (decide ((μ.1 50 58) = 0))) 4)) ||| (lb (!(decide ((μ.1 50 58) = 0))) 6)) ||| (lb ((decide ((μ.1 68 s) = 1)) && (decide ((nI s) = (μ.1 50 40)))) 42)) ||| (lb ((decide ((μ.1 68 s) = 1)) && (!(decide ((nI s) = (μ.1 50 40))) && (!(decide ((μ.1 50 56) = 0))))) 43)) (wdM (μ.1 50 40) (nI s)) (μ.1 50 41) (deF (dAs μ s w W q) (!(decide ((μ.1 67 s) ≤ 0))) (f + 1)) ∧ BS (SR κ w q sL lL) (0, 0, 0, 0) (bq μ')) := by
  refine z_C_in (by decide) (by omega) (fun d' Z ed hc hr => ?_)
  have hH : zH mi_X7_value zc_X7_value 79 7 6 := ⟨by rfl, by rfl, by rfl, by rfl⟩
  refine z_rcs hc hH 2 (pc' := 2) (lv' := [(0, .ref 50), (1, .int (nI s)), (2, .int (nI c)), (3, .int 1)]) (st' := [.int (nI s), .ref 50]) (μ' := μ) (by rfl) ?_
  refine zq_call hc (by rfl) (gm_takeH d' (by omega) μ hH0 s q hs4 hM.2.2.1 hM.2.1) (by decide +kernel) (fun r9 μ1 hq9 => ?_)
  obtain ⟨⟨rfl, hT⟩, hH1⟩ := hq9
  have hTs := hT.sm
  show Z 0 5 [(0, .ref 50), (1, .int (nI s)), (2, .int (nI c)), (3, .int 1)] [] μ1
  refine z_rcs hc hH 5 (pc' := 23) (lv' := [(4, .long 0), (0, .ref 50), (1, .int (nI s)), (2, .int (nI c)), (3, .int 1)]) (st' := [.ref 50]) (μ' := μ1) (by rfl) ?_
  refine zq_gfr hc hH (by rfl) (ci := 6) (f := 35) (q := 67) (by rfl) (by decide +kernel) (by rfl) (by decide +kernel) ?_
  refine z_rcs hc hH 1 (pc' := 27) (lv' := [(4, .long 0), (0, .ref 50), (1, .int (nI s)), (2, .int (nI c)), (3, .int 1)]) (st' := [.int (nI s), .ref 67]) (μ' := μ1) (by rfl) ?_
  refine zq_iald hc hH (by rfl) 4 (oka_i (by decide +kernel)) (vp_in_nI (by omega) (by decide)) ?_
  rw [nI_clamp (by omega)]
  rw [(hTs 67 s (by omega)).1]
  refine z_rcs hc hH 1 (pc' := 29) (lv' := [(4, .long 0), (0, .ref 50), (1, .int (nI s)), (2, .int (nI c)), (3, .int 1)]) (st' := [.int 1, .int (μ.1 67 s)]) (μ' := μ1) (by rfl) ?_
  have hJ1 : Z 0 41 [(4, .long (0 ||| (lb (decide ((μ.1 67 s) = 1)) 0))), (0, .ref 50), (1, .int (nI s)), (2, .int (nI c)), (3, .int 1)] [] μ1 := by
    refine z_rcs hc hH 1 (pc' := 42) (lv' := [(4, .long (0 ||| (lb (decide ((μ.1 67 s) = 1)) 0))), (0, .ref 50), (1, .int (nI s)), (2, .int (nI c)), (3, .int 1)]) (st' := [.ref 50]) (μ' := μ1) (by rfl) ?_
    refine zq_gfr hc hH (by rfl) (ci := 6) (f := 35) (q := 67) (by rfl) (by decide +kernel) (by rfl) (by decide +kernel) ?_
    refine z_rcs hc hH 1 (pc' := 46) (lv' := [(4, .long (0 ||| (lb (decide ((μ.1 67 s) = 1)) 0))), (0, .ref 50), (1, .int (nI s)), (2, .int (nI c)), (3, .int 1)]) (st' := [.int (nI s), .ref 67]) (μ' := μ1) (by rfl) ?_
    refine zq_iald hc hH (by rfl) 4 (oka_i (by decide +kernel)) (vp_in_nI (by omega) (by decide)) ?_
    rw [nI_clamp (by omega)]
    rw [(hTs 67 s (by omega)).1]
    refine z_rcs hc hH 1 (pc' := 48) (lv' := [(4, .long (0 ||| (lb (decide ((μ.1 67 s) = 1)) 0))), (0, .ref 50), (1, .int (nI s)), (2, .int (nI c)), (3, .int 1)]) (st' := [.int 2, .int (μ.1 67 s)]) (μ' := μ1) (by rfl) ?_
    have hJ2 : Z 0 60 [(4, .long ((0 ||| (lb (decide ((μ.1 67 s) = 1)) 0)) ||| (lb (decide ((μ.1 67 s) = 2)) 1))), (0, .ref 50), (1, .int (nI s)), (2, .int (nI c)), (3, .int 1)] [] μ1 := by
      refine z_rcs hc hH 1 (pc' := 61) (lv' := [(4, .long ((0 ||| (lb (decide ((μ.1 67 s) = 1)) 0)) ||| (lb (decide ((μ.1 67 s) = 2)) 1))), (0, .ref 50), (1, .int (nI s)), (2, .int (nI c)), (3, .int 1)]) (st' := [.ref 50]) (μ' := μ1) (by rfl) ?_
      refine zq_gfr hc hH (by rfl) (ci := 6) (f := 37) (q := 69) (by rfl) (by decide +kernel) (by rfl) (by decide +kernel) ?_
      refine z_rcs hc hH 1 (pc' := 65) (lv' := [(4, .long ((0 ||| (lb (decide ((μ.1 67 s) = 1)) 0)) ||| (lb (decide ((μ.1 67 s) = 2)) 1))), (0, .ref 50), (1, .int (nI s)), (2, .int (nI c)), (3, .int 1)]) (st' := [.int (nI s), .ref 69]) (μ' := μ1) (by rfl) ?_
      refine zq_bald hc hH (by rfl) 4 (by decide +kernel) (vp_in_nI (by omega) (by decide)) ?_
      rw [nI_clamp (by omega)]
      rw [(hTs 69 s (by omega)).1]
      have hJ3 : Z 0 78 [(4, .long (((0 ||| (lb (decide ((μ.1 67 s) = 1)) 0)) ||| (lb (decide ((μ.1 67 s) = 2)) 1)) ||| (lb (!(decide ((μ.1 69 s) = 0))) 2))), (0, .ref 50), (1, .int (nI s)), (2, .int (nI c)), (3, .int 1)] [] μ1 := by
        refine z_rcs hc hH 3 (pc' := 83) (lv' := [(4, .long (((0 ||| (lb (decide ((μ.1 67 s) = 1)) 0)) ||| (lb (decide ((μ.1 67 s) = 2)) 1)) ||| (lb (!(decide ((μ.1 69 s) = 0))) 2))), (0, .ref 50), (1, .int (nI s)), (2, .int (nI c)), (3, .int 1)]) (st' := [.ref 50]) (μ' := μ1) (by rfl) ?_
        refine zq_call hc (by rfl) (fx_left d' (by omega) μ1 (μ.1 50 47) (μ.1 50 46) (by rw [(hTs 50 47 (by omega)).1]) (by rw [(hTs 50 46 (by omega)).1])) (by decide +kernel) (fun r9 μ9 hq => ?_)
        obtain ⟨hμ9, rfl⟩ := hq
        rw [hμ9]
        clear hμ9 μ9
        show Z 0 86 [(4, .long (((0 ||| (lb (decide ((μ.1 67 s) = 1)) 0)) ||| (lb (decide ((μ.1 67 s) = 2)) 1)) ||| (lb (!(decide ((μ.1 69 s) = 0))) 2))), (0, .ref 50), (1, .int (nI s)), (2, .int (nI c)), (3, .int 1)] [.int (lfM μ)] μ1
        have hJ4 : Z 0 105 [(4, .long ((((0 ||| (lb (decide ((μ.1 67 s) = 1)) 0)) ||| (lb (decide ((μ.1 67 s) = 2)) 1)) ||| (lb (!(decide ((μ.1 69 s) = 0))) 2)) ||| (lb ((decide ((lfM μ) = 0)) && (decide ((μ.1 50 58) = 0))) 4))), (0, .ref 50), (1, .int (nI s)), (2, .int (nI c)), (3, .int 1)] [] μ1 := by
          refine z_rcs hc hH 5 (pc' := 138) (lv' := [(4, .long ((((0 ||| (lb (decide ((μ.1 67 s) = 1)) 0)) ||| (lb (decide ((μ.1 67 s) = 2)) 1)) ||| (lb (!(decide ((μ.1 69 s) = 0))) 2)) ||| (lb ((decide ((lfM μ) = 0)) && (decide ((μ.1 50 58) = 0))) 4))), (0, .ref 50), (1, .int (nI s)), (2, .int (nI c)), (3, .int 1)]) (st' := [.ref 50]) (μ' := μ1) (by rfl) ?_
          refine zq_gfi hc hH (by rfl) (ci := 6) (f := 58) (by rfl) (by decide +kernel) (by rfl) ?_
          rw [(hTs 50 58 (by omega)).1]
          have hJ5 : Z 0 154 [(4, .long (((((0 ||| (lb (decide ((μ.1 67 s) = 1)) 0)) ||| (lb (decide ((μ.1 67 s) = 2)) 1)) ||| (lb (!(decide ((μ.1 69 s) = 0))) 2)) ||| (lb ((decide ((lfM μ) = 0)) && (decide ((μ.1 50 58) = 0))) 4)) ||| (lb (!(decide ((μ.1 50 58) = 0))) 6))), (0, .ref 50), (1, .int (nI s)), (2, .int (nI c)), (3, .int 1)] [] μ1 := by
            refine z_rcs hc hH 5 (pc' := 181) (lv' := [(4, .long (((((0 ||| (lb (decide ((μ.1 67 s) = 1)) 0)) ||| (lb (decide ((μ.1 67 s) = 2)) 1)) ||| (lb (!(decide ((μ.1 69 s) = 0))) 2)) ||| (lb ((decide ((lfM μ) = 0)) && (decide ((μ.1 50 58) = 0))) 4)) ||| (lb (!(decide ((μ.1 50 58) = 0))) 6))), (0, .ref 50), (1, .int (nI s)), (2, .int (nI c)), (3, .int 1)]) (st' := [.ref 50]) (μ' := μ1) (by rfl) ?_
            refine zq_gfr hc hH (by rfl) (ci := 6) (f := 36) (q := 68) (by rfl) (by decide +kernel) (by rfl) (by decide +kernel) ?_
            refine z_rcs hc hH 1 (pc' := 185) (lv' := [(4, .long (((((0 ||| (lb (decide ((μ.1 67 s) = 1)) 0)) ||| (lb (decide ((μ.1 67 s) = 2)) 1)) ||| (lb (!(decide ((μ.1 69 s) = 0))) 2)) ||| (lb ((decide ((lfM μ) = 0)) && (decide ((μ.1 50 58) = 0))) 4)) ||| (lb (!(decide ((μ.1 50 58) = 0))) 6))), (0, .ref 50), (1, .int (nI s)), (2, .int (nI c)), (3, .int 1)]) (st' := [.int (nI s), .ref 68]) (μ' := μ1) (by rfl) ?_
            refine zq_iald hc hH (by rfl) 4 (oka_i (by decide +kernel)) (vp_in_nI (by omega) (by decide)) ?_
            rw [nI_clamp (by omega)]
            rw [(hTs 68 s (by omega)).1]
            refine z_rcs hc hH 1 (pc' := 187) (lv' := [(4, .long (((((0 ||| (lb (decide ((μ.1 67 s) = 1)) 0)) ||| (lb (decide ((μ.1 67 s) = 2)) 1)) ||| (lb (!(decide ((μ.1 69 s) = 0))) 2)) ||| (lb ((decide ((lfM μ) = 0)) && (decide ((μ.1 50 58) = 0))) 4)) ||| (lb (!(decide ((μ.1 50 58) = 0))) 6))), (0, .ref 50), (1, .int (nI s)), (2, .int (nI c)), (3, .int 1)]) (st' := [.int 1, .int (μ.1 68 s)]) (μ' := μ1) (by rfl) ?_
            have hJ6 : Z 0 208 [(4, .long ((((((0 ||| (lb (decide ((μ.1 67 s) = 1)) 0)) ||| (lb (decide ((μ.1 67 s) = 2)) 1)) ||| (lb (!(decide ((μ.1 69 s) = 0))) 2)) ||| (lb ((decide ((lfM μ) = 0)) && (decide ((μ.1 50 58) = 0))) 4)) ||| (lb (!(decide ((μ.1 50 58) = 0))) 6)) ||| (lb ((decide ((μ.1 68 s) = 1)) && (decide ((nI s) = (μ.1 50 40)))) 42))), (0, .ref 50), (1, .int (nI s)), (2, .int (nI c)), (3, .int 1)] [] μ1 := by
              refine z_rcs hc hH 3 (pc' := 213) (lv' := [(4, .long ((((((0 ||| (lb (decide ((μ.1 67 s) = 1)) 0)) ||| (lb (decide ((μ.1 67 s) = 2)) 1)) ||| (lb (!(decide ((μ.1 69 s) = 0))) 2)) ||| (lb ((decide ((lfM μ) = 0)) && (decide ((μ.1 50 58) = 0))) 4)) ||| (lb (!(decide ((μ.1 50 58) = 0))) 6)) ||| (lb ((decide ((μ.1 68 s) = 1)) && (decide ((nI s) = (μ.1 50 40)))) 42))), (0, .ref 50), (1, .int (nI s)), (2, .int (nI c)), (3, .int 1)]) (st' := [.ref 50]) (μ' := μ1) (by rfl) ?_
              refine zq_gfr hc hH (by rfl) (ci := 6) (f := 36) (q := 68) (by rfl) (by decide +kernel) (by rfl) (by decide +kernel) ?_
              refine z_rcs hc hH 1 (pc' := 217) (lv' := [(4, .long ((((((0 ||| (lb (decide ((μ.1 67 s) = 1)) 0)) ||| (lb (decide ((μ.1 67 s) = 2)) 1)) ||| (lb (!(decide ((μ.1 69 s) = 0))) 2)) ||| (lb ((decide ((lfM μ) = 0)) && (decide ((μ.1 50 58) = 0))) 4)) ||| (lb (!(decide ((μ.1 50 58) = 0))) 6)) ||| (lb ((decide ((μ.1 68 s) = 1)) && (decide ((nI s) = (μ.1 50 40)))) 42))), (0, .ref 50), (1, .int (nI s)), (2, .int (nI c)), (3, .int 1)]) (st' := [.int (nI s), .ref 68]) (μ' := μ1) (by rfl) ?_
              refine zq_iald hc hH (by rfl) 4 (oka_i (by decide +kernel)) (vp_in_nI (by omega) (by decide)) ?_
              rw [nI_clamp (by omega)]
              rw [(hTs 68 s (by omega)).1]
              refine z_rcs hc hH 1 (pc' := 219) (lv' := [(4, .long ((((((0 ||| (lb (decide ((μ.1 67 s) = 1)) 0)) ||| (lb (decide ((μ.1 67 s) = 2)) 1)) ||| (lb (!(decide ((μ.1 69 s) = 0))) 2)) ||| (lb ((decide ((lfM μ) = 0)) && (decide ((μ.1 50 58) = 0))) 4)) ||| (lb (!(decide ((μ.1 50 58) = 0))) 6)) ||| (lb ((decide ((μ.1 68 s) = 1)) && (decide ((nI s) = (μ.1 50 40)))) 42))), (0, .ref 50), (1, .int (nI s)), (2, .int (nI c)), (3, .int 1)]) (st' := [.int 1, .int (μ.1 68 s)]) (μ' := μ1) (by rfl) ?_
              have hJ7 : Z 0 247 [(4, .long (((((((0 ||| (lb (decide ((μ.1 67 s) = 1)) 0)) ||| (lb (decide ((μ.1 67 s) = 2)) 1)) ||| (lb (!(decide ((μ.1 69 s) = 0))) 2)) ||| (lb ((decide ((lfM μ) = 0)) && (decide ((μ.1 50 58) = 0))) 4)) ||| (lb (!(decide ((μ.1 50 58) = 0))) 6)) ||| (lb ((decide ((μ.1 68 s) = 1)) && (decide ((nI s) = (μ.1 50 40)))) 42)) ||| (lb ((decide ((μ.1 68 s) = 1)) && (!(decide ((nI s) = (μ.1 50 40))) && (!(decide ((μ.1 50 56) = 0))))) 43))), (0, .ref 50), (1, .int (nI s)), (2, .int (nI c)), (3, .int 1)] [] μ1 := by
                refine z_rcs hc hH 6 (pc' := 254) (lv' := [(4, .long (((((((0 ||| (lb (decide ((μ.1 67 s) = 1)) 0)) ||| (lb (decide ((μ.1 67 s) = 2)) 1)) ||| (lb (!(decide ((μ.1 69 s) = 0))) 2)) ||| (lb ((decide ((lfM μ) = 0)) && (decide ((μ.1 50 58) = 0))) 4)) ||| (lb (!(decide ((μ.1 50 58) = 0))) 6)) ||| (lb ((decide ((μ.1 68 s) = 1)) && (decide ((nI s) = (μ.1 50 40)))) 42)) ||| (lb ((decide ((μ.1 68 s) = 1)) && (!(decide ((nI s) = (μ.1 50 40))) && (!(decide ((μ.1 50 56) = 0))))) 43))), (0, .ref 50), (1, .int (nI s)), (2, .int (nI c)), (3, .int 1)]) (st' := [.int (nI s), .ref 50, .long (((((((0 ||| (lb (decide ((μ.1 67 s) = 1)) 0)) ||| (lb (decide ((μ.1 67 s) = 2)) 1)) ||| (lb (!(decide ((μ.1 69 s) = 0))) 2)) ||| (lb ((decide ((lfM μ) = 0)) && (decide ((μ.1 50 58) = 0))) 4)) ||| (lb (!(decide ((μ.1 50 58) = 0))) 6)) ||| (lb ((decide ((μ.1 68 s) = 1)) && (decide ((nI s) = (μ.1 50 40)))) 42)) ||| (lb ((decide ((μ.1 68 s) = 1)) && (!(decide ((nI s) = (μ.1 50 40))) && (!(decide ((μ.1 50 56) = 0))))) 43)), .int 1, .int (nI c), .ref 50]) (μ' := μ1) (by rfl) ?_
                refine zq_call hc (by rfl) (fx_wind d' (by omega) μ1 (μ.1 50 40) (nI s) (by rw [(hTs 50 40 (by omega)).1])) (by decide +kernel) (fun r9 μ9 hq => ?_)
                obtain ⟨hμ9, rfl⟩ := hq
                rw [hμ9]
                clear hμ9 μ9
                show Z 0 257 [(4, .long (((((((0 ||| (lb (decide ((μ.1 67 s) = 1)) 0)) ||| (lb (decide ((μ.1 67 s) = 2)) 1)) ||| (lb (!(decide ((μ.1 69 s) = 0))) 2)) ||| (lb ((decide ((lfM μ) = 0)) && (decide ((μ.1 50 58) = 0))) 4)) ||| (lb (!(decide ((μ.1 50 58) = 0))) 6)) ||| (lb ((decide ((μ.1 68 s) = 1)) && (decide ((nI s) = (μ.1 50 40)))) 42)) ||| (lb ((decide ((μ.1 68 s) = 1)) && (!(decide ((nI s) = (μ.1 50 40))) && (!(decide ((μ.1 50 56) = 0))))) 43))), (0, .ref 50), (1, .int (nI s)), (2, .int (nI c)), (3, .int 1)] [.int (wdM (μ.1 50 40) (nI s)), .long (((((((0 ||| (lb (decide ((μ.1 67 s) = 1)) 0)) ||| (lb (decide ((μ.1 67 s) = 2)) 1)) ||| (lb (!(decide ((μ.1 69 s) = 0))) 2)) ||| (lb ((decide ((lfM μ) = 0)) && (decide ((μ.1 50 58) = 0))) 4)) ||| (lb (!(decide ((μ.1 50 58) = 0))) 6)) ||| (lb ((decide ((μ.1 68 s) = 1)) && (decide ((nI s) = (μ.1 50 40)))) 42)) ||| (lb ((decide ((μ.1 68 s) = 1)) && (!(decide ((nI s) = (μ.1 50 40))) && (!(decide ((μ.1 50 56) = 0))))) 43)), .int 1, .int (nI c), .ref 50] μ1
                refine z_rcs hc hH 1 (pc' := 258) (lv' := [(4, .long (((((((0 ||| (lb (decide ((μ.1 67 s) = 1)) 0)) ||| (lb (decide ((μ.1 67 s) = 2)) 1)) ||| (lb (!(decide ((μ.1 69 s) = 0))) 2)) ||| (lb ((decide ((lfM μ) = 0)) && (decide ((μ.1 50 58) = 0))) 4)) ||| (lb (!(decide ((μ.1 50 58) = 0))) 6)) ||| (lb ((decide ((μ.1 68 s) = 1)) && (decide ((nI s) = (μ.1 50 40)))) 42)) ||| (lb ((decide ((μ.1 68 s) = 1)) && (!(decide ((nI s) = (μ.1 50 40))) && (!(decide ((μ.1 50 56) = 0))))) 43))), (0, .ref 50), (1, .int (nI s)), (2, .int (nI c)), (3, .int 1)]) (st' := [.ref 50, .int (wdM (μ.1 50 40) (nI s)), .long (((((((0 ||| (lb (decide ((μ.1 67 s) = 1)) 0)) ||| (lb (decide ((μ.1 67 s) = 2)) 1)) ||| (lb (!(decide ((μ.1 69 s) = 0))) 2)) ||| (lb ((decide ((lfM μ) = 0)) && (decide ((μ.1 50 58) = 0))) 4)) ||| (lb (!(decide ((μ.1 50 58) = 0))) 6)) ||| (lb ((decide ((μ.1 68 s) = 1)) && (decide ((nI s) = (μ.1 50 40)))) 42)) ||| (lb ((decide ((μ.1 68 s) = 1)) && (!(decide ((nI s) = (μ.1 50 40))) && (!(decide ((μ.1 50 56) = 0))))) 43)), .int 1, .int (nI c), .ref 50]) (μ' := μ1) (by rfl) ?_
                refine zq_gfi hc hH (by rfl) (ci := 6) (f := 41) (by rfl) (by decide +kernel) (by rfl) ?_
                rw [(hTs 50 41 (by omega)).1]
                refine z_rcs hc hH 2 (pc' := 263) (lv' := [(4, .long (((((((0 ||| (lb (decide ((μ.1 67 s) = 1)) 0)) ||| (lb (decide ((μ.1 67 s) = 2)) 1)) ||| (lb (!(decide ((μ.1 69 s) = 0))) 2)) ||| (lb ((decide ((lfM μ) = 0)) && (decide ((μ.1 50 58) = 0))) 4)) ||| (lb (!(decide ((μ.1 50 58) = 0))) 6)) ||| (lb ((decide ((μ.1 68 s) = 1)) && (decide ((nI s) = (μ.1 50 40)))) 42)) ||| (lb ((decide ((μ.1 68 s) = 1)) && (!(decide ((nI s) = (μ.1 50 40))) && (!(decide ((μ.1 50 56) = 0))))) 43))), (0, .ref 50), (1, .int (nI s)), (2, .int (nI c)), (3, .int 1)]) (st' := [.ref 50, .ref 50, .int (μ.1 50 41), .int (wdM (μ.1 50 40) (nI s)), .long (((((((0 ||| (lb (decide ((μ.1 67 s) = 1)) 0)) ||| (lb (decide ((μ.1 67 s) = 2)) 1)) ||| (lb (!(decide ((μ.1 69 s) = 0))) 2)) ||| (lb ((decide ((lfM μ) = 0)) && (decide ((μ.1 50 58) = 0))) 4)) ||| (lb (!(decide ((μ.1 50 58) = 0))) 6)) ||| (lb ((decide ((μ.1 68 s) = 1)) && (decide ((nI s) = (μ.1 50 40)))) 42)) ||| (lb ((decide ((μ.1 68 s) = 1)) && (!(decide ((nI s) = (μ.1 50 40))) && (!(decide ((μ.1 50 56) = 0))))) 43)), .int 1, .int (nI c), .ref 50]) (μ' := μ1) (by rfl) ?_
                refine zq_gfr hc hH (by rfl) (ci := 6) (f := 35) (q := 67) (by rfl) (by decide +kernel) (by rfl) (by decide +kernel) ?_
                refine z_rcs hc hH 1 (pc' := 267) (lv' := [(4, .long (((((((0 ||| (lb (decide ((μ.1 67 s) = 1)) 0)) ||| (lb (decide ((μ.1 67 s) = 2)) 1)) ||| (lb (!(decide ((μ.1 69 s) = 0))) 2)) ||| (lb ((decide ((lfM μ) = 0)) && (decide ((μ.1 50 58) = 0))) 4)) ||| (lb (!(decide ((μ.1 50 58) = 0))) 6)) ||| (lb ((decide ((μ.1 68 s) = 1)) && (decide ((nI s) = (μ.1 50 40)))) 42)) ||| (lb ((decide ((μ.1 68 s) = 1)) && (!(decide ((nI s) = (μ.1 50 40))) && (!(decide ((μ.1 50 56) = 0))))) 43))), (0, .ref 50), (1, .int (nI s)), (2, .int (nI c)), (3, .int 1)]) (st' := [.int (nI s), .ref 67, .ref 50, .int (μ.1 50 41), .int (wdM (μ.1 50 40) (nI s)), .long (((((((0 ||| (lb (decide ((μ.1 67 s) = 1)) 0)) ||| (lb (decide ((μ.1 67 s) = 2)) 1)) ||| (lb (!(decide ((μ.1 69 s) = 0))) 2)) ||| (lb ((decide ((lfM μ) = 0)) && (decide ((μ.1 50 58) = 0))) 4)) ||| (lb (!(decide ((μ.1 50 58) = 0))) 6)) ||| (lb ((decide ((μ.1 68 s) = 1)) && (decide ((nI s) = (μ.1 50 40)))) 42)) ||| (lb ((decide ((μ.1 68 s) = 1)) && (!(decide ((nI s) = (μ.1 50 40))) && (!(decide ((μ.1 50 56) = 0))))) 43)), .int 1, .int (nI c), .ref 50]) (μ' := μ1) (by rfl) ?_
                refine zq_iald hc hH (by rfl) 4 (oka_i (by decide +kernel)) (vp_in_nI (by omega) (by decide)) ?_
                rw [nI_clamp (by omega)]
                rw [(hTs 67 s (by omega)).1]
                have hJ8 : Z 0 276 [(4, .long (((((((0 ||| (lb (decide ((μ.1 67 s) = 1)) 0)) ||| (lb (decide ((μ.1 67 s) = 2)) 1)) ||| (lb (!(decide ((μ.1 69 s) = 0))) 2)) ||| (lb ((decide ((lfM μ) = 0)) && (decide ((μ.1 50 58) = 0))) 4)) ||| (lb (!(decide ((μ.1 50 58) = 0))) 6)) ||| (lb ((decide ((μ.1 68 s) = 1)) && (decide ((nI s) = (μ.1 50 40)))) 42)) ||| (lb ((decide ((μ.1 68 s) = 1)) && (!(decide ((nI s) = (μ.1 50 40))) && (!(decide ((μ.1 50 56) = 0))))) 43))), (0, .ref 50), (1, .int (nI s)), (2, .int (nI c)), (3, .int 1)] [.int (nB (!(decide ((μ.1 67 s) ≤ 0)))), .ref 50, .int (μ.1 50 41), .int (wdM (μ.1 50 40) (nI s)), .long (((((((0 ||| (lb (decide ((μ.1 67 s) = 1)) 0)) ||| (lb (decide ((μ.1 67 s) = 2)) 1)) ||| (lb (!(decide ((μ.1 69 s) = 0))) 2)) ||| (lb ((decide ((lfM μ) = 0)) && (decide ((μ.1 50 58) = 0))) 4)) ||| (lb (!(decide ((μ.1 50 58) = 0))) 6)) ||| (lb ((decide ((μ.1 68 s) = 1)) && (decide ((nI s) = (μ.1 50 40)))) 42)) ||| (lb ((decide ((μ.1 68 s) = 1)) && (!(decide ((nI s) = (μ.1 50 40))) && (!(decide ((μ.1 50 56) = 0))))) 43)), .int 1, .int (nI c), .ref 50] μ1 := by
                  have hH2 : a_H μ1 := hH1
                  refine zq_call hc (by rfl) (gm_dearH d' (by omega) μ1 hH2 (!(decide ((μ.1 67 s) ≤ 0))) q f hM.2.2.1 hT.2.1 hf4 (by rw [(hTs 50 47 (by omega)).1]; exact hf) W (fun p h1 h2 => by rw [(hTs 59 p (by omega)).1]; exact hW p h1 h2)) (by decide +kernel) (fun r9 μ2 hq9 => ?_)
                  obtain ⟨⟨rfl, hD⟩, hH3⟩ := hq9
                  have eD : deF (dA μ1 W q) (!(decide ((μ.1 67 s) ≤ 0))) (f + 1) = deF (dAs μ s w W q) (!(decide ((μ.1 67 s) ≤ 0))) (f + 1) := deF_cg _ (fun p h1 h2 => by
                    unfold dA dAs
                    rw [hT.1 _ (in_lt (bhd_in _ (hW p h1 (by omega)).2)), (hM.1 _ (in_lt (bhd_in _ (hW p h1 (by omega)).2))).1]
                    exact ofv_cg q (fun i hi => hT.2.2.1 i hi))
                  rw [eD]
                  show Z 0 279 [(4, .long (((((((0 ||| (lb (decide ((μ.1 67 s) = 1)) 0)) ||| (lb (decide ((μ.1 67 s) = 2)) 1)) ||| (lb (!(decide ((μ.1 69 s) = 0))) 2)) ||| (lb ((decide ((lfM μ) = 0)) && (decide ((μ.1 50 58) = 0))) 4)) ||| (lb (!(decide ((μ.1 50 58) = 0))) 6)) ||| (lb ((decide ((μ.1 68 s) = 1)) && (decide ((nI s) = (μ.1 50 40)))) 42)) ||| (lb ((decide ((μ.1 68 s) = 1)) && (!(decide ((nI s) = (μ.1 50 40))) && (!(decide ((μ.1 50 56) = 0))))) 43))), (0, .ref 50), (1, .int (nI s)), (2, .int (nI c)), (3, .int 1)] [.int (deF (dAs μ s w W q) (!(decide ((μ.1 67 s) ≤ 0))) (f + 1)), .int (μ.1 50 41), .int (wdM (μ.1 50 40) (nI s)), .long (((((((0 ||| (lb (decide ((μ.1 67 s) = 1)) 0)) ||| (lb (decide ((μ.1 67 s) = 2)) 1)) ||| (lb (!(decide ((μ.1 69 s) = 0))) 2)) ||| (lb ((decide ((lfM μ) = 0)) && (decide ((μ.1 50 58) = 0))) 4)) ||| (lb (!(decide ((μ.1 50 58) = 0))) 6)) ||| (lb ((decide ((μ.1 68 s) = 1)) && (decide ((nI s) = (μ.1 50 40)))) 42)) ||| (lb ((decide ((μ.1 68 s) = 1)) && (!(decide ((nI s) = (μ.1 50 40))) && (!(decide ((μ.1 50 56) = 0))))) 43)), .int 1, .int (nI c), .ref 50] μ2
                  have hw2 : RW μ2 51 w := fun k hk => by
                    rw [hD.2.1 51 k (by decide)]
                    rw [hT.1 k hk]; exact ⟨(hM.1 k hk).1, by have := (hM.1 k hk).2; omega⟩
                  have e42 : μ2.1 50 4 = nI q := by rw [hD.2.1 50 4 (by decide)]; exact hT.2.1
                  have hL2 : ∀ j, j < q → μ2.1 52 j = nI (sL j) ∧ sL j ≤ 3 ∧ μ2.1 53 j = nI (lL j) ∧ lL j < 34 := fun j hj => by
                    have h5 := hM.2.2.2 j hj
                    rw [hD.2.1 52 j (by decide), hD.2.1 53 j (by decide), (hT.2.2.1 j hj).1, (hT.2.2.1 j hj).2]
                    exact ⟨h5.1, h5.2.1, h5.2.2.1, h5.2.2.2.1⟩
                  refine zq_call hc (by rfl) (S_full d' (by decide +kernel) (by rw [show rg mi_X7_reckon 0 = 0 from by decide +kernel]; exact trivial) (fr_X7_reckon d' (by omega) μ2 w q hM.2.2.1 hw2 e42 sL lL hL2 hH3 (nI c) (wdM (μ.1 50 40) (nI s)) (μ.1 50 41) (deF (dAs μ s w W q) (!(decide ((μ.1 67 s) ≤ 0))) (f + 1)) true (((((((0 ||| (lb (decide ((μ.1 67 s) = 1)) 0)) ||| (lb (decide ((μ.1 67 s) = 2)) 1)) ||| (lb (!(decide ((μ.1 69 s) = 0))) 2)) ||| (lb ((decide ((lfM μ) = 0)) && (decide ((μ.1 50 58) = 0))) 4)) ||| (lb (!(decide ((μ.1 50 58) = 0))) 6)) ||| (lb ((decide ((μ.1 68 s) = 1)) && (decide ((nI s) = (μ.1 50 40)))) 42)) ||| (lb ((decide ((μ.1 68 s) = 1)) && (!(decide ((nI s) = (μ.1 50 40))) && (!(decide ((μ.1 50 56) = 0))))) 43)))) (by decide +kernel) (fun r9 μ3 hq9 => ?_)
                  obtain ⟨⟨rfl, hH4, hF4, hK4⟩, hfu⟩ := hq9
                  show Z 0 282 [(4, .long (((((((0 ||| (lb (decide ((μ.1 67 s) = 1)) 0)) ||| (lb (decide ((μ.1 67 s) = 2)) 1)) ||| (lb (!(decide ((μ.1 69 s) = 0))) 2)) ||| (lb ((decide ((lfM μ) = 0)) && (decide ((μ.1 50 58) = 0))) 4)) ||| (lb (!(decide ((μ.1 50 58) = 0))) 6)) ||| (lb ((decide ((μ.1 68 s) = 1)) && (decide ((nI s) = (μ.1 50 40)))) 42)) ||| (lb ((decide ((μ.1 68 s) = 1)) && (!(decide ((nI s) = (μ.1 50 40))) && (!(decide ((μ.1 50 56) = 0))))) 43))), (0, .ref 50), (1, .int (nI s)), (2, .int (nI c)), (3, .int 1)] [] μ3
                  exact hr 0 282 _ _ _ none (by decide +kernel) (by rfl) (⟨rfl, hH4, SM_tr hTs (SM_tr hD.sm (SM_fz hF4 (by decide))), fun h9 => hfu.resolve_left h9, hK4⟩)
                refine zq_if hc hH (by rfl) (tg := 275) (by rfl) (fun h9 => ?_) (fun h9 => ?_)
                · have h9 : (decide ((μ.1 67 s) ≤ 0)) = true := decide_eq_true (cm_le.mp h9)
                  refine z_rcs hc hH 1 (pc' := 276) (lv' := [(4, .long (((((((0 ||| (lb (decide ((μ.1 67 s) = 1)) 0)) ||| (lb (decide ((μ.1 67 s) = 2)) 1)) ||| (lb (!(decide ((μ.1 69 s) = 0))) 2)) ||| (lb ((decide ((lfM μ) = 0)) && (decide ((μ.1 50 58) = 0))) 4)) ||| (lb (!(decide ((μ.1 50 58) = 0))) 6)) ||| (lb ((decide ((μ.1 68 s) = 1)) && (decide ((nI s) = (μ.1 50 40)))) 42)) ||| (lb ((decide ((μ.1 68 s) = 1)) && (!(decide ((nI s) = (μ.1 50 40))) && (!(decide ((μ.1 50 56) = 0))))) 43))), (0, .ref 50), (1, .int (nI s)), (2, .int (nI c)), (3, .int 1)]) (st' := [.int 0, .ref 50, .int (μ.1 50 41), .int (wdM (μ.1 50 40) (nI s)), .long (((((((0 ||| (lb (decide ((μ.1 67 s) = 1)) 0)) ||| (lb (decide ((μ.1 67 s) = 2)) 1)) ||| (lb (!(decide ((μ.1 69 s) = 0))) 2)) ||| (lb ((decide ((lfM μ) = 0)) && (decide ((μ.1 50 58) = 0))) 4)) ||| (lb (!(decide ((μ.1 50 58) = 0))) 6)) ||| (lb ((decide ((μ.1 68 s) = 1)) && (decide ((nI s) = (μ.1 50 40)))) 42)) ||| (lb ((decide ((μ.1 68 s) = 1)) && (!(decide ((nI s) = (μ.1 50 40))) && (!(decide ((μ.1 50 56) = 0))))) 43)), .int 1, .int (nI c), .ref 50]) (μ' := μ1) (by rfl) ?_
                  exact zJ hJ8 rfl (by first | rfl | simp only [h9, lb_f, Int64.or_zero, Int32.add_zero, nB_t, nB_f, Bool.not_true, Bool.not_false, Bool.and_true, Bool.true_and, Bool.false_and, Bool.and_false, Bool.or_true, Bool.true_or, Bool.false_or, Bool.or_false, cond_true, cond_false]) rfl
                · have h9 : (decide ((μ.1 67 s) ≤ 0)) = false := decide_eq_false (cn_le.mp h9)
                  refine z_rcs hc hH 2 (pc' := 276) (lv' := [(4, .long (((((((0 ||| (lb (decide ((μ.1 67 s) = 1)) 0)) ||| (lb (decide ((μ.1 67 s) = 2)) 1)) ||| (lb (!(decide ((μ.1 69 s) = 0))) 2)) ||| (lb ((decide ((lfM μ) = 0)) && (decide ((μ.1 50 58) = 0))) 4)) ||| (lb (!(decide ((μ.1 50 58) = 0))) 6)) ||| (lb ((decide ((μ.1 68 s) = 1)) && (decide ((nI s) = (μ.1 50 40)))) 42)) ||| (lb ((decide ((μ.1 68 s) = 1)) && (!(decide ((nI s) = (μ.1 50 40))) && (!(decide ((μ.1 50 56) = 0))))) 43))), (0, .ref 50), (1, .int (nI s)), (2, .int (nI c)), (3, .int 1)]) (st' := [.int 1, .ref 50, .int (μ.1 50 41), .int (wdM (μ.1 50 40) (nI s)), .long (((((((0 ||| (lb (decide ((μ.1 67 s) = 1)) 0)) ||| (lb (decide ((μ.1 67 s) = 2)) 1)) ||| (lb (!(decide ((μ.1 69 s) = 0))) 2)) ||| (lb ((decide ((lfM μ) = 0)) && (decide ((μ.1 50 58) = 0))) 4)) ||| (lb (!(decide ((μ.1 50 58) = 0))) 6)) ||| (lb ((decide ((μ.1 68 s) = 1)) && (decide ((nI s) = (μ.1 50 40)))) 42)) ||| (lb ((decide ((μ.1 68 s) = 1)) && (!(decide ((nI s) = (μ.1 50 40))) && (!(decide ((μ.1 50 56) = 0))))) 43)), .int 1, .int (nI c), .ref 50]) (μ' := μ1) (by rfl) ?_
                  exact zJ hJ8 rfl (by first | rfl | simp only [h9, lb_f, Int64.or_zero, Int32.add_zero, nB_t, nB_f, Bool.not_true, Bool.not_false, Bool.and_true, Bool.true_and, Bool.false_and, Bool.and_false, Bool.or_true, Bool.true_or, Bool.false_or, Bool.or_false, cond_true, cond_false]) rfl
              refine zq_ic hc hH (by rfl) (tg := 247) (by rfl) (fun h10 => ?_) (fun h10 => ?_)
              · have h10 : (decide ((μ.1 68 s) = 1)) = false := decide_eq_false (cm_ne.mp h10)
                exact zJ hJ7 (by first | rfl | simp only [h10, lb_f, Int64.or_zero, Int32.add_zero, nB_t, nB_f, Bool.not_true, Bool.not_false, Bool.and_true, Bool.true_and, Bool.false_and, Bool.and_false, Bool.or_true, Bool.true_or, Bool.false_or, Bool.or_false, cond_true, cond_false]) rfl rfl
              · have h10 : (decide ((μ.1 68 s) = 1)) = true := decide_eq_true (cn_ne.mp h10)
                refine z_rcs hc hH 2 (pc' := 224) (lv' := [(4, .long ((((((0 ||| (lb (decide ((μ.1 67 s) = 1)) 0)) ||| (lb (decide ((μ.1 67 s) = 2)) 1)) ||| (lb (!(decide ((μ.1 69 s) = 0))) 2)) ||| (lb ((decide ((lfM μ) = 0)) && (decide ((μ.1 50 58) = 0))) 4)) ||| (lb (!(decide ((μ.1 50 58) = 0))) 6)) ||| (lb ((decide ((μ.1 68 s) = 1)) && (decide ((nI s) = (μ.1 50 40)))) 42))), (0, .ref 50), (1, .int (nI s)), (2, .int (nI c)), (3, .int 1)]) (st' := [.ref 50, .int (nI s)]) (μ' := μ1) (by rfl) ?_
                refine zq_gfi hc hH (by rfl) (ci := 6) (f := 40) (by rfl) (by decide +kernel) (by rfl) ?_
                rw [(hTs 50 40 (by omega)).1]
                refine zq_ic hc hH (by rfl) (tg := 247) (by rfl) (fun h11 => ?_) (fun h11 => ?_)
                · have h11 : (decide ((nI s) = (μ.1 50 40))) = true := decide_eq_true (cm_eq9.mp h11)
                  exact zJ hJ7 (by first | rfl | simp only [h10, h11, lb_f, Int64.or_zero, Int32.add_zero, nB_t, nB_f, Bool.not_true, Bool.not_false, Bool.and_true, Bool.true_and, Bool.false_and, Bool.and_false, Bool.or_true, Bool.true_or, Bool.false_or, Bool.or_false, cond_true, cond_false]) rfl rfl
                · have h11 : (decide ((nI s) = (μ.1 50 40))) = false := decide_eq_false (cn_eq.mp h11)
                  refine z_rcs hc hH 1 (pc' := 231) (lv' := [(4, .long ((((((0 ||| (lb (decide ((μ.1 67 s) = 1)) 0)) ||| (lb (decide ((μ.1 67 s) = 2)) 1)) ||| (lb (!(decide ((μ.1 69 s) = 0))) 2)) ||| (lb ((decide ((lfM μ) = 0)) && (decide ((μ.1 50 58) = 0))) 4)) ||| (lb (!(decide ((μ.1 50 58) = 0))) 6)) ||| (lb ((decide ((μ.1 68 s) = 1)) && (decide ((nI s) = (μ.1 50 40)))) 42))), (0, .ref 50), (1, .int (nI s)), (2, .int (nI c)), (3, .int 1)]) (st' := [.ref 50]) (μ' := μ1) (by rfl) ?_
                  refine zq_gfi hc hH (by rfl) (ci := 6) (f := 56) (by rfl) (by decide +kernel) (by rfl) ?_
                  rw [(hTs 50 56 (by omega)).1]
                  refine zq_if hc hH (by rfl) (tg := 247) (by rfl) (fun h12 => ?_) (fun h12 => ?_)
                  · have h12 : (decide ((μ.1 50 56) = 0)) = true := decide_eq_true (cm_eq9.mp h12)
                    exact zJ hJ7 (by first | rfl | simp only [h10, h11, h12, lb_f, Int64.or_zero, Int32.add_zero, nB_t, nB_f, Bool.not_true, Bool.not_false, Bool.and_true, Bool.true_and, Bool.false_and, Bool.and_false, Bool.or_true, Bool.true_or, Bool.false_or, Bool.or_false, cond_true, cond_false]) rfl rfl
                  · have h12 : (decide ((μ.1 50 56) = 0)) = false := decide_eq_false (cn_eq.mp h12)
                    refine z_rcs hc hH 2 (pc' := 241) (lv' := [(4, .long ((((((0 ||| (lb (decide ((μ.1 67 s) = 1)) 0)) ||| (lb (decide ((μ.1 67 s) = 2)) 1)) ||| (lb (!(decide ((μ.1 69 s) = 0))) 2)) ||| (lb ((decide ((lfM μ) = 0)) && (decide ((μ.1 50 58) = 0))) 4)) ||| (lb (!(decide ((μ.1 50 58) = 0))) 6)) ||| (lb ((decide ((μ.1 68 s) = 1)) && (decide ((nI s) = (μ.1 50 40)))) 42))), (0, .ref 50), (1, .int (nI s)), (2, .int (nI c)), (3, .int 1)]) (st' := [.int 43, .long ((((((0 ||| (lb (decide ((μ.1 67 s) = 1)) 0)) ||| (lb (decide ((μ.1 67 s) = 2)) 1)) ||| (lb (!(decide ((μ.1 69 s) = 0))) 2)) ||| (lb ((decide ((lfM μ) = 0)) && (decide ((μ.1 50 58) = 0))) 4)) ||| (lb (!(decide ((μ.1 50 58) = 0))) 6)) ||| (lb ((decide ((μ.1 68 s) = 1)) && (decide ((nI s) = (μ.1 50 40)))) 42))]) (μ' := μ1) (by rfl) ?_
                    refine zq_call hc (by rfl) (fb_X7_bit d' (by omega) μ1 43) (by decide +kernel) (fun r9 μ9 hq => ?_)
                    obtain ⟨hμ9, rfl⟩ := hq
                    rw [hμ9]
                    clear hμ9 μ9
                    show Z 0 244 [(4, .long ((((((0 ||| (lb (decide ((μ.1 67 s) = 1)) 0)) ||| (lb (decide ((μ.1 67 s) = 2)) 1)) ||| (lb (!(decide ((μ.1 69 s) = 0))) 2)) ||| (lb ((decide ((lfM μ) = 0)) && (decide ((μ.1 50 58) = 0))) 4)) ||| (lb (!(decide ((μ.1 50 58) = 0))) 6)) ||| (lb ((decide ((μ.1 68 s) = 1)) && (decide ((nI s) = (μ.1 50 40)))) 42))), (0, .ref 50), (1, .int (nI s)), (2, .int (nI c)), (3, .int 1)] [.long (lb true 43), .long ((((((0 ||| (lb (decide ((μ.1 67 s) = 1)) 0)) ||| (lb (decide ((μ.1 67 s) = 2)) 1)) ||| (lb (!(decide ((μ.1 69 s) = 0))) 2)) ||| (lb ((decide ((lfM μ) = 0)) && (decide ((μ.1 50 58) = 0))) 4)) ||| (lb (!(decide ((μ.1 50 58) = 0))) 6)) ||| (lb ((decide ((μ.1 68 s) = 1)) && (decide ((nI s) = (μ.1 50 40)))) 42))] μ1
                    refine z_rcs hc hH 2 (pc' := 247) (lv' := [(4, .long (((((((0 ||| (lb (decide ((μ.1 67 s) = 1)) 0)) ||| (lb (decide ((μ.1 67 s) = 2)) 1)) ||| (lb (!(decide ((μ.1 69 s) = 0))) 2)) ||| (lb ((decide ((lfM μ) = 0)) && (decide ((μ.1 50 58) = 0))) 4)) ||| (lb (!(decide ((μ.1 50 58) = 0))) 6)) ||| (lb ((decide ((μ.1 68 s) = 1)) && (decide ((nI s) = (μ.1 50 40)))) 42)) ||| (lb true 43))), (0, .ref 50), (1, .int (nI s)), (2, .int (nI c)), (3, .int 1)]) (st' := []) (μ' := μ1) (by rfl) ?_
                    exact zJ hJ7 (by first | rfl | simp only [h10, h11, h12, lb_f, Int64.or_zero, Int32.add_zero, nB_t, nB_f, Bool.not_true, Bool.not_false, Bool.and_true, Bool.true_and, Bool.false_and, Bool.and_false, Bool.or_true, Bool.true_or, Bool.false_or, Bool.or_false, cond_true, cond_false]) rfl rfl
            refine zq_ic hc hH (by rfl) (tg := 208) (by rfl) (fun h13 => ?_) (fun h13 => ?_)
            · have h13 : (decide ((μ.1 68 s) = 1)) = false := decide_eq_false (cm_ne.mp h13)
              exact zJ hJ6 (by first | rfl | simp only [h13, lb_f, Int64.or_zero, Int32.add_zero, nB_t, nB_f, Bool.not_true, Bool.not_false, Bool.and_true, Bool.true_and, Bool.false_and, Bool.and_false, Bool.or_true, Bool.true_or, Bool.false_or, Bool.or_false, cond_true, cond_false]) rfl rfl
            · have h13 : (decide ((μ.1 68 s) = 1)) = true := decide_eq_true (cn_ne.mp h13)
              refine z_rcs hc hH 2 (pc' := 192) (lv' := [(4, .long (((((0 ||| (lb (decide ((μ.1 67 s) = 1)) 0)) ||| (lb (decide ((μ.1 67 s) = 2)) 1)) ||| (lb (!(decide ((μ.1 69 s) = 0))) 2)) ||| (lb ((decide ((lfM μ) = 0)) && (decide ((μ.1 50 58) = 0))) 4)) ||| (lb (!(decide ((μ.1 50 58) = 0))) 6))), (0, .ref 50), (1, .int (nI s)), (2, .int (nI c)), (3, .int 1)]) (st' := [.ref 50, .int (nI s)]) (μ' := μ1) (by rfl) ?_
              refine zq_gfi hc hH (by rfl) (ci := 6) (f := 40) (by rfl) (by decide +kernel) (by rfl) ?_
              rw [(hTs 50 40 (by omega)).1]
              refine zq_ic hc hH (by rfl) (tg := 208) (by rfl) (fun h14 => ?_) (fun h14 => ?_)
              · have h14 : (decide ((nI s) = (μ.1 50 40))) = false := decide_eq_false (cm_ne.mp h14)
                exact zJ hJ6 (by first | rfl | simp only [h13, h14, lb_f, Int64.or_zero, Int32.add_zero, nB_t, nB_f, Bool.not_true, Bool.not_false, Bool.and_true, Bool.true_and, Bool.false_and, Bool.and_false, Bool.or_true, Bool.true_or, Bool.false_or, Bool.or_false, cond_true, cond_false]) rfl rfl
              · have h14 : (decide ((nI s) = (μ.1 50 40))) = true := decide_eq_true (cn_ne.mp h14)
                refine z_rcs hc hH 2 (pc' := 202) (lv' := [(4, .long (((((0 ||| (lb (decide ((μ.1 67 s) = 1)) 0)) ||| (lb (decide ((μ.1 67 s) = 2)) 1)) ||| (lb (!(decide ((μ.1 69 s) = 0))) 2)) ||| (lb ((decide ((lfM μ) = 0)) && (decide ((μ.1 50 58) = 0))) 4)) ||| (lb (!(decide ((μ.1 50 58) = 0))) 6))), (0, .ref 50), (1, .int (nI s)), (2, .int (nI c)), (3, .int 1)]) (st' := [.int 42, .long (((((0 ||| (lb (decide ((μ.1 67 s) = 1)) 0)) ||| (lb (decide ((μ.1 67 s) = 2)) 1)) ||| (lb (!(decide ((μ.1 69 s) = 0))) 2)) ||| (lb ((decide ((lfM μ) = 0)) && (decide ((μ.1 50 58) = 0))) 4)) ||| (lb (!(decide ((μ.1 50 58) = 0))) 6))]) (μ' := μ1) (by rfl) ?_
                refine zq_call hc (by rfl) (fb_X7_bit d' (by omega) μ1 42) (by decide +kernel) (fun r9 μ9 hq => ?_)
                obtain ⟨hμ9, rfl⟩ := hq
                rw [hμ9]
                clear hμ9 μ9
                show Z 0 205 [(4, .long (((((0 ||| (lb (decide ((μ.1 67 s) = 1)) 0)) ||| (lb (decide ((μ.1 67 s) = 2)) 1)) ||| (lb (!(decide ((μ.1 69 s) = 0))) 2)) ||| (lb ((decide ((lfM μ) = 0)) && (decide ((μ.1 50 58) = 0))) 4)) ||| (lb (!(decide ((μ.1 50 58) = 0))) 6))), (0, .ref 50), (1, .int (nI s)), (2, .int (nI c)), (3, .int 1)] [.long (lb true 42), .long (((((0 ||| (lb (decide ((μ.1 67 s) = 1)) 0)) ||| (lb (decide ((μ.1 67 s) = 2)) 1)) ||| (lb (!(decide ((μ.1 69 s) = 0))) 2)) ||| (lb ((decide ((lfM μ) = 0)) && (decide ((μ.1 50 58) = 0))) 4)) ||| (lb (!(decide ((μ.1 50 58) = 0))) 6))] μ1
                refine z_rcs hc hH 2 (pc' := 208) (lv' := [(4, .long ((((((0 ||| (lb (decide ((μ.1 67 s) = 1)) 0)) ||| (lb (decide ((μ.1 67 s) = 2)) 1)) ||| (lb (!(decide ((μ.1 69 s) = 0))) 2)) ||| (lb ((decide ((lfM μ) = 0)) && (decide ((μ.1 50 58) = 0))) 4)) ||| (lb (!(decide ((μ.1 50 58) = 0))) 6)) ||| (lb true 42))), (0, .ref 50), (1, .int (nI s)), (2, .int (nI c)), (3, .int 1)]) (st' := []) (μ' := μ1) (by rfl) ?_
                exact zJ hJ6 (by first | rfl | simp only [h13, h14, lb_f, Int64.or_zero, Int32.add_zero, nB_t, nB_f, Bool.not_true, Bool.not_false, Bool.and_true, Bool.true_and, Bool.false_and, Bool.and_false, Bool.or_true, Bool.true_or, Bool.false_or, Bool.or_false, cond_true, cond_false]) rfl rfl
          refine zq_if hc hH (by rfl) (tg := 154) (by rfl) (fun h15 => ?_) (fun h15 => ?_)
          · have h15 : (decide ((μ.1 50 58) = 0)) = true := decide_eq_true (cm_eq9.mp h15)
            exact zJ hJ5 (by first | rfl | simp only [h15, lb_f, Int64.or_zero, Int32.add_zero, nB_t, nB_f, Bool.not_true, Bool.not_false, Bool.and_true, Bool.true_and, Bool.false_and, Bool.and_false, Bool.or_true, Bool.true_or, Bool.false_or, Bool.or_false, cond_true, cond_false]) rfl rfl
          · have h15 : (decide ((μ.1 50 58) = 0)) = false := decide_eq_false (cn_eq.mp h15)
            refine z_rcs hc hH 2 (pc' := 148) (lv' := [(4, .long ((((0 ||| (lb (decide ((μ.1 67 s) = 1)) 0)) ||| (lb (decide ((μ.1 67 s) = 2)) 1)) ||| (lb (!(decide ((μ.1 69 s) = 0))) 2)) ||| (lb ((decide ((lfM μ) = 0)) && (decide ((μ.1 50 58) = 0))) 4))), (0, .ref 50), (1, .int (nI s)), (2, .int (nI c)), (3, .int 1)]) (st' := [.int 6, .long ((((0 ||| (lb (decide ((μ.1 67 s) = 1)) 0)) ||| (lb (decide ((μ.1 67 s) = 2)) 1)) ||| (lb (!(decide ((μ.1 69 s) = 0))) 2)) ||| (lb ((decide ((lfM μ) = 0)) && (decide ((μ.1 50 58) = 0))) 4))]) (μ' := μ1) (by rfl) ?_
            refine zq_call hc (by rfl) (fb_X7_bit d' (by omega) μ1 6) (by decide +kernel) (fun r9 μ9 hq => ?_)
            obtain ⟨hμ9, rfl⟩ := hq
            rw [hμ9]
            clear hμ9 μ9
            show Z 0 151 [(4, .long ((((0 ||| (lb (decide ((μ.1 67 s) = 1)) 0)) ||| (lb (decide ((μ.1 67 s) = 2)) 1)) ||| (lb (!(decide ((μ.1 69 s) = 0))) 2)) ||| (lb ((decide ((lfM μ) = 0)) && (decide ((μ.1 50 58) = 0))) 4))), (0, .ref 50), (1, .int (nI s)), (2, .int (nI c)), (3, .int 1)] [.long (lb true 6), .long ((((0 ||| (lb (decide ((μ.1 67 s) = 1)) 0)) ||| (lb (decide ((μ.1 67 s) = 2)) 1)) ||| (lb (!(decide ((μ.1 69 s) = 0))) 2)) ||| (lb ((decide ((lfM μ) = 0)) && (decide ((μ.1 50 58) = 0))) 4))] μ1
            refine z_rcs hc hH 2 (pc' := 154) (lv' := [(4, .long (((((0 ||| (lb (decide ((μ.1 67 s) = 1)) 0)) ||| (lb (decide ((μ.1 67 s) = 2)) 1)) ||| (lb (!(decide ((μ.1 69 s) = 0))) 2)) ||| (lb ((decide ((lfM μ) = 0)) && (decide ((μ.1 50 58) = 0))) 4)) ||| (lb true 6))), (0, .ref 50), (1, .int (nI s)), (2, .int (nI c)), (3, .int 1)]) (st' := []) (μ' := μ1) (by rfl) ?_
            exact zJ hJ5 (by first | rfl | simp only [h15, lb_f, Int64.or_zero, Int32.add_zero, nB_t, nB_f, Bool.not_true, Bool.not_false, Bool.and_true, Bool.true_and, Bool.false_and, Bool.and_false, Bool.or_true, Bool.true_or, Bool.false_or, Bool.or_false, cond_true, cond_false]) rfl rfl
        refine zq_if hc hH (by rfl) (tg := 105) (by rfl) (fun h16 => ?_) (fun h16 => ?_)
        · have h16 : (decide ((lfM μ) = 0)) = false := decide_eq_false (cm_ne.mp h16)
          exact zJ hJ4 (by first | rfl | simp only [h16, lb_f, Int64.or_zero, Int32.add_zero, nB_t, nB_f, Bool.not_true, Bool.not_false, Bool.and_true, Bool.true_and, Bool.false_and, Bool.and_false, Bool.or_true, Bool.true_or, Bool.false_or, Bool.or_false, cond_true, cond_false]) rfl rfl
        · have h16 : (decide ((lfM μ) = 0)) = true := decide_eq_true (cn_ne.mp h16)
          refine z_rcs hc hH 1 (pc' := 90) (lv' := [(4, .long (((0 ||| (lb (decide ((μ.1 67 s) = 1)) 0)) ||| (lb (decide ((μ.1 67 s) = 2)) 1)) ||| (lb (!(decide ((μ.1 69 s) = 0))) 2))), (0, .ref 50), (1, .int (nI s)), (2, .int (nI c)), (3, .int 1)]) (st' := [.ref 50]) (μ' := μ1) (by rfl) ?_
          refine zq_gfi hc hH (by rfl) (ci := 6) (f := 58) (by rfl) (by decide +kernel) (by rfl) ?_
          rw [(hTs 50 58 (by omega)).1]
          refine zq_if hc hH (by rfl) (tg := 105) (by rfl) (fun h17 => ?_) (fun h17 => ?_)
          · have h17 : (decide ((μ.1 50 58) = 0)) = false := decide_eq_false (cm_ne.mp h17)
            exact zJ hJ4 (by first | rfl | simp only [h16, h17, lb_f, Int64.or_zero, Int32.add_zero, nB_t, nB_f, Bool.not_true, Bool.not_false, Bool.and_true, Bool.true_and, Bool.false_and, Bool.and_false, Bool.or_true, Bool.true_or, Bool.false_or, Bool.or_false, cond_true, cond_false]) rfl rfl
          · have h17 : (decide ((μ.1 50 58) = 0)) = true := decide_eq_true (cn_ne.mp h17)
            refine z_rcs hc hH 2 (pc' := 99) (lv' := [(4, .long (((0 ||| (lb (decide ((μ.1 67 s) = 1)) 0)) ||| (lb (decide ((μ.1 67 s) = 2)) 1)) ||| (lb (!(decide ((μ.1 69 s) = 0))) 2))), (0, .ref 50), (1, .int (nI s)), (2, .int (nI c)), (3, .int 1)]) (st' := [.int 4, .long (((0 ||| (lb (decide ((μ.1 67 s) = 1)) 0)) ||| (lb (decide ((μ.1 67 s) = 2)) 1)) ||| (lb (!(decide ((μ.1 69 s) = 0))) 2))]) (μ' := μ1) (by rfl) ?_
            refine zq_call hc (by rfl) (fb_X7_bit d' (by omega) μ1 4) (by decide +kernel) (fun r9 μ9 hq => ?_)
            obtain ⟨hμ9, rfl⟩ := hq
            rw [hμ9]
            clear hμ9 μ9
            show Z 0 102 [(4, .long (((0 ||| (lb (decide ((μ.1 67 s) = 1)) 0)) ||| (lb (decide ((μ.1 67 s) = 2)) 1)) ||| (lb (!(decide ((μ.1 69 s) = 0))) 2))), (0, .ref 50), (1, .int (nI s)), (2, .int (nI c)), (3, .int 1)] [.long (lb true 4), .long (((0 ||| (lb (decide ((μ.1 67 s) = 1)) 0)) ||| (lb (decide ((μ.1 67 s) = 2)) 1)) ||| (lb (!(decide ((μ.1 69 s) = 0))) 2))] μ1
            refine z_rcs hc hH 2 (pc' := 105) (lv' := [(4, .long ((((0 ||| (lb (decide ((μ.1 67 s) = 1)) 0)) ||| (lb (decide ((μ.1 67 s) = 2)) 1)) ||| (lb (!(decide ((μ.1 69 s) = 0))) 2)) ||| (lb true 4))), (0, .ref 50), (1, .int (nI s)), (2, .int (nI c)), (3, .int 1)]) (st' := []) (μ' := μ1) (by rfl) ?_
            exact zJ hJ4 (by first | rfl | simp only [h16, h17, lb_f, Int64.or_zero, Int32.add_zero, nB_t, nB_f, Bool.not_true, Bool.not_false, Bool.and_true, Bool.true_and, Bool.false_and, Bool.and_false, Bool.or_true, Bool.true_or, Bool.false_or, Bool.or_false, cond_true, cond_false]) rfl rfl
      refine zq_if hc hH (by rfl) (tg := 78) (by rfl) (fun h18 => ?_) (fun h18 => ?_)
      · have h18 : (decide ((μ.1 69 s) = 0)) = true := decide_eq_true (cm_eq9.mp h18)
        exact zJ hJ3 (by first | rfl | simp only [h18, lb_f, Int64.or_zero, Int32.add_zero, nB_t, nB_f, Bool.not_true, Bool.not_false, Bool.and_true, Bool.true_and, Bool.false_and, Bool.and_false, Bool.or_true, Bool.true_or, Bool.false_or, Bool.or_false, cond_true, cond_false]) rfl rfl
      · have h18 : (decide ((μ.1 69 s) = 0)) = false := decide_eq_false (cn_eq.mp h18)
        refine z_rcs hc hH 2 (pc' := 72) (lv' := [(4, .long ((0 ||| (lb (decide ((μ.1 67 s) = 1)) 0)) ||| (lb (decide ((μ.1 67 s) = 2)) 1))), (0, .ref 50), (1, .int (nI s)), (2, .int (nI c)), (3, .int 1)]) (st' := [.int 2, .long ((0 ||| (lb (decide ((μ.1 67 s) = 1)) 0)) ||| (lb (decide ((μ.1 67 s) = 2)) 1))]) (μ' := μ1) (by rfl) ?_
        refine zq_call hc (by rfl) (fb_X7_bit d' (by omega) μ1 2) (by decide +kernel) (fun r9 μ9 hq => ?_)
        obtain ⟨hμ9, rfl⟩ := hq
        rw [hμ9]
        clear hμ9 μ9
        show Z 0 75 [(4, .long ((0 ||| (lb (decide ((μ.1 67 s) = 1)) 0)) ||| (lb (decide ((μ.1 67 s) = 2)) 1))), (0, .ref 50), (1, .int (nI s)), (2, .int (nI c)), (3, .int 1)] [.long (lb true 2), .long ((0 ||| (lb (decide ((μ.1 67 s) = 1)) 0)) ||| (lb (decide ((μ.1 67 s) = 2)) 1))] μ1
        refine z_rcs hc hH 2 (pc' := 78) (lv' := [(4, .long (((0 ||| (lb (decide ((μ.1 67 s) = 1)) 0)) ||| (lb (decide ((μ.1 67 s) = 2)) 1)) ||| (lb true 2))), (0, .ref 50), (1, .int (nI s)), (2, .int (nI c)), (3, .int 1)]) (st' := []) (μ' := μ1) (by rfl) ?_
        exact zJ hJ3 (by first | rfl | simp only [h18, lb_f, Int64.or_zero, Int32.add_zero, nB_t, nB_f, Bool.not_true, Bool.not_false, Bool.and_true, Bool.true_and, Bool.false_and, Bool.and_false, Bool.or_true, Bool.true_or, Bool.false_or, Bool.or_false, cond_true, cond_false]) rfl rfl
    refine zq_ic hc hH (by rfl) (tg := 60) (by rfl) (fun h19 => ?_) (fun h19 => ?_)
    · have h19 : (decide ((μ.1 67 s) = 2)) = false := decide_eq_false (cm_ne.mp h19)
      exact zJ hJ2 (by first | rfl | simp only [h19, lb_f, Int64.or_zero, Int32.add_zero, nB_t, nB_f, Bool.not_true, Bool.not_false, Bool.and_true, Bool.true_and, Bool.false_and, Bool.and_false, Bool.or_true, Bool.true_or, Bool.false_or, Bool.or_false, cond_true, cond_false]) rfl rfl
    · have h19 : (decide ((μ.1 67 s) = 2)) = true := decide_eq_true (cn_ne.mp h19)
      refine z_rcs hc hH 2 (pc' := 54) (lv' := [(4, .long (0 ||| (lb (decide ((μ.1 67 s) = 1)) 0))), (0, .ref 50), (1, .int (nI s)), (2, .int (nI c)), (3, .int 1)]) (st' := [.int 1, .long (0 ||| (lb (decide ((μ.1 67 s) = 1)) 0))]) (μ' := μ1) (by rfl) ?_
      refine zq_call hc (by rfl) (fb_X7_bit d' (by omega) μ1 1) (by decide +kernel) (fun r9 μ9 hq => ?_)
      obtain ⟨hμ9, rfl⟩ := hq
      rw [hμ9]
      clear hμ9 μ9
      show Z 0 57 [(4, .long (0 ||| (lb (decide ((μ.1 67 s) = 1)) 0))), (0, .ref 50), (1, .int (nI s)), (2, .int (nI c)), (3, .int 1)] [.long (lb true 1), .long (0 ||| (lb (decide ((μ.1 67 s) = 1)) 0))] μ1
      refine z_rcs hc hH 2 (pc' := 60) (lv' := [(4, .long ((0 ||| (lb (decide ((μ.1 67 s) = 1)) 0)) ||| (lb true 1))), (0, .ref 50), (1, .int (nI s)), (2, .int (nI c)), (3, .int 1)]) (st' := []) (μ' := μ1) (by rfl) ?_
      exact zJ hJ2 (by first | rfl | simp only [h19, lb_f, Int64.or_zero, Int32.add_zero, nB_t, nB_f, Bool.not_true, Bool.not_false, Bool.and_true, Bool.true_and, Bool.false_and, Bool.and_false, Bool.or_true, Bool.true_or, Bool.false_or, Bool.or_false, cond_true, cond_false]) rfl rfl
  refine zq_ic hc hH (by rfl) (tg := 41) (by rfl) (fun h20 => ?_) (fun h20 => ?_)
  · have h20 : (decide ((μ.1 67 s) = 1)) = false := decide_eq_false (cm_ne.mp h20)
    exact zJ hJ1 (by first | rfl | simp only [h20, lb_f, Int64.or_zero, Int32.add_zero, nB_t, nB_f, Bool.not_true, Bool.not_false, Bool.and_true, Bool.true_and, Bool.false_and, Bool.and_false, Bool.or_true, Bool.true_or, Bool.false_or, Bool.or_false, cond_true, cond_false]) rfl rfl
  · have h20 : (decide ((μ.1 67 s) = 1)) = true := decide_eq_true (cn_ne.mp h20)
    refine z_rcs hc hH 2 (pc' := 35) (lv' := [(4, .long 0), (0, .ref 50), (1, .int (nI s)), (2, .int (nI c)), (3, .int 1)]) (st' := [.int 0, .long 0]) (μ' := μ1) (by rfl) ?_
    refine zq_call hc (by rfl) (fb_X7_bit d' (by omega) μ1 0) (by decide +kernel) (fun r9 μ9 hq => ?_)
    obtain ⟨hμ9, rfl⟩ := hq
    rw [hμ9]
    clear hμ9 μ9
    show Z 0 38 [(4, .long 0), (0, .ref 50), (1, .int (nI s)), (2, .int (nI c)), (3, .int 1)] [.long (lb true 0), .long 0] μ1
    refine z_rcs hc hH 2 (pc' := 41) (lv' := [(4, .long (0 ||| (lb true 0))), (0, .ref 50), (1, .int (nI s)), (2, .int (nI c)), (3, .int 1)]) (st' := []) (μ' := μ1) (by rfl) ?_
    exact zJ hJ1 (by first | rfl | simp only [h20, lb_f, Int64.or_zero, Int32.add_zero, nB_t, nB_f, Bool.not_true, Bool.not_false, Bool.and_true, Bool.true_and, Bool.false_and, Bool.and_false, Bool.or_true, Bool.true_or, Bool.false_or, Bool.or_false, cond_true, cond_false]) rfl rfl
