/-! the game: nobody wins, of the reference -/
set_option maxRecDepth 8000
theorem z_zero_o {μ : zM} {r k : Nat} (h : r ≠ 79) : (z_zero μ).1 r k = μ.1 r k := by
  unfold z_zero
  show (bif Nat.beq r 79 then 0 else μ.1 r k) = _
  rw [show Nat.beq r 79 = false from by cases e : Nat.beq r 79 with | false => rfl | true => exact absurd (Nat.eq_of_beq_eq_true e) h]
  rfl
theorem SE_zr (μ : zM) : SE μ (z_zero μ) := fun r k q => z_zero_o (by omega)
noncomputable def nbS (b0 b1 b2 b3 : Bool) : Nat → Bool
  | 0 => b0
  | 1 => b1
  | 2 => b2
  | _ => b3
noncomputable def nM0000 (μ : zM) : zM := z_ui (z_ui (z_ui (z_ui (z_zero μ) 79 0 0) 79 1 0) 79 2 0) 79 3 0
theorem gm_nobody0000 (d : Nat) (hd : 700 ≤ d) (μ : zM) (hH0 : a_H μ) (dl e : Nat) (hdl : μ.1 50 40 = nI dl) (hdl4 : dl < 4) (he : (dl + 1) % 4 = e) (w0 : Int64) (hw0 : ∀ M, SE μ M → a_H M → ∀ d, 699 ≤ d → z_C d mi_X7_waitsAt [.ref 50, .int 0] M (fun r W => r = some (.long w0) ∧ SMj M W ∧ a_H W)) (hb0 : decide (lg_cmp w0 0 = 0) = true) (w1 : Int64) (hw1 : ∀ M, SE μ M → a_H M → ∀ d, 699 ≤ d → z_C d mi_X7_waitsAt [.ref 50, .int 1] M (fun r W => r = some (.long w1) ∧ SMj M W ∧ a_H W)) (hb1 : decide (lg_cmp w1 0 = 0) = true) (w2 : Int64) (hw2 : ∀ M, SE μ M → a_H M → ∀ d, 699 ≤ d → z_C d mi_X7_waitsAt [.ref 50, .int 2] M (fun r W => r = some (.long w2) ∧ SMj M W ∧ a_H W)) (hb2 : decide (lg_cmp w2 0 = 0) = true) (w3 : Int64) (hw3 : ∀ M, SE μ M → a_H M → ∀ d, 699 ≤ d → z_C d mi_X7_waitsAt [.ref 50, .int 3] M (fun r W => r = some (.long w3) ∧ SMj M W ∧ a_H W)) (hb3 : decide (lg_cmp w3 0 = 0) = true) : z_C d mi_X7_nobodyWins [.ref 50] μ (fun r μ' => r = none ∧ SMj (eMB (nM0000 μ) (nbS false false false false dl) true dl e) μ') := by
  obtain ⟨d', rfl⟩ : ∃ d', d = d' + 1 := ⟨d - 1, by omega⟩
  intro Z hc hr
  refine ⟨rfl, ?_⟩
  have hH := zh_X7_nobodyWins
  refine z_rcs hc hH 9 (pc' := 17) (lv' := [(3, .int 0), (2, .ref 79), (1, .int 0), (0, .ref 50)]) (st' := [.int 0, .ref 50, .int 0, .ref 79]) (μ' := z_zero μ) (by rfl) ?_
  refine zq_call hc (z_cx_ok hH (by rfl)) (hw0 _ (SE_zr _) (a_H_zero hH0) d' (by omega)) (by decide +kernel) (fun r9 W0 hq => ?_)
  obtain ⟨rfl, hO0, hA0⟩ := hq
  show Z 1 20 [(3, .int 0), (2, .ref 79), (1, .int 0), (0, .ref 50)] [.long w0, .int 0, .ref 79] W0
  refine z_rcs hc hH 2 (pc' := 22) (lv' := [(3, .int 0), (2, .ref 79), (1, .int 0), (0, .ref 50)]) (st' := [.int (lg_cmp w0 0), .int 0, .ref 79]) (μ' := W0) (by rfl) ?_
  refine zq_if hc hH (by rfl) (tg := 29) (by rfl) (fun h1 => ?_) (fun h1 => ?_)
  · have h1 : (decide ((lg_cmp w0 0) = 0)) = true := decide_eq_true (cm_eq9.mp h1)
    refine z_rcs hc hH 1 (pc' := 30) (lv' := [(3, .int 0), (2, .ref 79), (1, .int 0), (0, .ref 50)]) (st' := [.int 0, .int 0, .ref 79]) (μ' := W0) (by rfl) ?_
    refine zq_bast hc hH (by rfl) 4 (by decide +kernel) (show vp_in (nI 0) 4 from vp_in_nI (by decide) (by decide)) (by decide) ?_
    rw [show (0 : Int32).toNatClampNeg = 0 from rfl]
    show Z 1 31 [(3, .int 0), (2, .ref 79), (1, .int 0), (0, .ref 50)] [] (z_ui W0 79 0 0)
    refine z_rcs hc hH 3 (pc' := 34) (lv' := [(3, .int 0), (2, .ref 79), (1, .int 0), (0, .ref 50)]) (st' := [.int 0, .ref 79, .int 0]) (μ' := z_ui W0 79 0 0) (by rfl) ?_
    refine zq_bald hc hH (by rfl) 4 (by decide +kernel) (show vp_in (nI 0) 4 from vp_in_nI (by decide) (by decide)) ?_
    rw [show (0 : Int32).toNatClampNeg = 0 from rfl]
    rw [ui_s]
    refine z_rcs hc hH 13 (pc' := 17) (lv' := [(3, .int 1), (1, .int 0), (2, .ref 79), (0, .ref 50)]) (st' := [.int 1, .ref 50, .int 1, .ref 79]) (μ' := z_ui W0 79 0 0) (by rfl) ?_
    refine zq_call hc (z_cx_ok hH (by rfl)) (hw1 _ (SE_ui (SE_sm (SE_zr _) hO0) (by omega)) (a_H_ui (r := 79) (k := 0) (hA0) ⟨by decide, by decide⟩) d' (by omega)) (by decide +kernel) (fun r9 W1 hq => ?_)
    obtain ⟨rfl, hO1, hA1⟩ := hq
    show Z 1 20 [(3, .int 1), (1, .int 0), (2, .ref 79), (0, .ref 50)] [.long w1, .int 1, .ref 79] W1
    refine z_rcs hc hH 2 (pc' := 22) (lv' := [(3, .int 1), (1, .int 0), (2, .ref 79), (0, .ref 50)]) (st' := [.int (lg_cmp w1 0), .int 1, .ref 79]) (μ' := W1) (by rfl) ?_
    refine zq_if hc hH (by rfl) (tg := 29) (by rfl) (fun h2 => ?_) (fun h2 => ?_)
    · have h2 : (decide ((lg_cmp w1 0) = 0)) = true := decide_eq_true (cm_eq9.mp h2)
      refine z_rcs hc hH 1 (pc' := 30) (lv' := [(3, .int 1), (1, .int 0), (2, .ref 79), (0, .ref 50)]) (st' := [.int 0, .int 1, .ref 79]) (μ' := W1) (by rfl) ?_
      refine zq_bast hc hH (by rfl) 4 (by decide +kernel) (show vp_in (nI 1) 4 from vp_in_nI (by decide) (by decide)) (by decide) ?_
      rw [show (1 : Int32).toNatClampNeg = 1 from rfl]
      show Z 1 31 [(3, .int 1), (1, .int 0), (2, .ref 79), (0, .ref 50)] [] (z_ui W1 79 1 0)
      refine z_rcs hc hH 3 (pc' := 34) (lv' := [(3, .int 1), (1, .int 0), (2, .ref 79), (0, .ref 50)]) (st' := [.int 1, .ref 79, .int 0]) (μ' := z_ui W1 79 1 0) (by rfl) ?_
      refine zq_bald hc hH (by rfl) 4 (by decide +kernel) (show vp_in (nI 1) 4 from vp_in_nI (by decide) (by decide)) ?_
      rw [show (1 : Int32).toNatClampNeg = 1 from rfl]
      rw [ui_s]
      refine z_rcs hc hH 13 (pc' := 17) (lv' := [(3, .int 2), (1, .int 0), (2, .ref 79), (0, .ref 50)]) (st' := [.int 2, .ref 50, .int 2, .ref 79]) (μ' := z_ui W1 79 1 0) (by rfl) ?_
      refine zq_call hc (z_cx_ok hH (by rfl)) (hw2 _ (SE_ui (SE_sm (SE_ui (SE_sm (SE_zr _) hO0) (by omega)) hO1) (by omega)) (a_H_ui (r := 79) (k := 1) (hA1) ⟨by decide, by decide⟩) d' (by omega)) (by decide +kernel) (fun r9 W2 hq => ?_)
      obtain ⟨rfl, hO2, hA2⟩ := hq
      show Z 1 20 [(3, .int 2), (1, .int 0), (2, .ref 79), (0, .ref 50)] [.long w2, .int 2, .ref 79] W2
      refine z_rcs hc hH 2 (pc' := 22) (lv' := [(3, .int 2), (1, .int 0), (2, .ref 79), (0, .ref 50)]) (st' := [.int (lg_cmp w2 0), .int 2, .ref 79]) (μ' := W2) (by rfl) ?_
      refine zq_if hc hH (by rfl) (tg := 29) (by rfl) (fun h3 => ?_) (fun h3 => ?_)
      · have h3 : (decide ((lg_cmp w2 0) = 0)) = true := decide_eq_true (cm_eq9.mp h3)
        refine z_rcs hc hH 1 (pc' := 30) (lv' := [(3, .int 2), (1, .int 0), (2, .ref 79), (0, .ref 50)]) (st' := [.int 0, .int 2, .ref 79]) (μ' := W2) (by rfl) ?_
        refine zq_bast hc hH (by rfl) 4 (by decide +kernel) (show vp_in (nI 2) 4 from vp_in_nI (by decide) (by decide)) (by decide) ?_
        rw [show (2 : Int32).toNatClampNeg = 2 from rfl]
        show Z 1 31 [(3, .int 2), (1, .int 0), (2, .ref 79), (0, .ref 50)] [] (z_ui W2 79 2 0)
        refine z_rcs hc hH 3 (pc' := 34) (lv' := [(3, .int 2), (1, .int 0), (2, .ref 79), (0, .ref 50)]) (st' := [.int 2, .ref 79, .int 0]) (μ' := z_ui W2 79 2 0) (by rfl) ?_
        refine zq_bald hc hH (by rfl) 4 (by decide +kernel) (show vp_in (nI 2) 4 from vp_in_nI (by decide) (by decide)) ?_
        rw [show (2 : Int32).toNatClampNeg = 2 from rfl]
        rw [ui_s]
        refine z_rcs hc hH 13 (pc' := 17) (lv' := [(3, .int 3), (1, .int 0), (2, .ref 79), (0, .ref 50)]) (st' := [.int 3, .ref 50, .int 3, .ref 79]) (μ' := z_ui W2 79 2 0) (by rfl) ?_
        refine zq_call hc (z_cx_ok hH (by rfl)) (hw3 _ (SE_ui (SE_sm (SE_ui (SE_sm (SE_ui (SE_sm (SE_zr _) hO0) (by omega)) hO1) (by omega)) hO2) (by omega)) (a_H_ui (r := 79) (k := 2) (hA2) ⟨by decide, by decide⟩) d' (by omega)) (by decide +kernel) (fun r9 W3 hq => ?_)
        obtain ⟨rfl, hO3, hA3⟩ := hq
        show Z 1 20 [(3, .int 3), (1, .int 0), (2, .ref 79), (0, .ref 50)] [.long w3, .int 3, .ref 79] W3
        refine z_rcs hc hH 2 (pc' := 22) (lv' := [(3, .int 3), (1, .int 0), (2, .ref 79), (0, .ref 50)]) (st' := [.int (lg_cmp w3 0), .int 3, .ref 79]) (μ' := W3) (by rfl) ?_
        refine zq_if hc hH (by rfl) (tg := 29) (by rfl) (fun h4 => ?_) (fun h4 => ?_)
        · have h4 : (decide ((lg_cmp w3 0) = 0)) = true := decide_eq_true (cm_eq9.mp h4)
          refine z_rcs hc hH 1 (pc' := 30) (lv' := [(3, .int 3), (1, .int 0), (2, .ref 79), (0, .ref 50)]) (st' := [.int 0, .int 3, .ref 79]) (μ' := W3) (by rfl) ?_
          refine zq_bast hc hH (by rfl) 4 (by decide +kernel) (show vp_in (nI 3) 4 from vp_in_nI (by decide) (by decide)) (by decide) ?_
          rw [show (3 : Int32).toNatClampNeg = 3 from rfl]
          show Z 1 31 [(3, .int 3), (1, .int 0), (2, .ref 79), (0, .ref 50)] [] (z_ui W3 79 3 0)
          refine z_rcs hc hH 3 (pc' := 34) (lv' := [(3, .int 3), (1, .int 0), (2, .ref 79), (0, .ref 50)]) (st' := [.int 3, .ref 79, .int 0]) (μ' := z_ui W3 79 3 0) (by rfl) ?_
          refine zq_bald hc hH (by rfl) 4 (by decide +kernel) (show vp_in (nI 3) 4 from vp_in_nI (by decide) (by decide)) ?_
          rw [show (3 : Int32).toNatClampNeg = 3 from rfl]
          rw [ui_s]
          refine z_rcs hc hH 11 (pc' := 103) (lv' := [(3, .int 4), (1, .int 0), (2, .ref 79), (0, .ref 50)]) (st' := []) (μ' := z_ui W3 79 3 0) (by rfl) ?_
          obtain rfl | rfl | rfl | rfl : dl = 0 ∨ dl = 1 ∨ dl = 2 ∨ dl = 3 := by omega
          · skip
            refine z_rcs hc hH 3 (pc' := 106) (lv' := [(3, .int 4), (1, .int 0), (2, .ref 79), (0, .ref 50)]) (st' := [.ref 50, .ref 79, .ref 50]) (μ' := z_ui W3 79 3 0) (by rfl) ?_
            refine zq_gfi hc hH (by rfl) (ci := 6) (f := 40) (by rfl) (by decide +kernel) (by rfl) ?_
            refine zV1 (Z := Z) (Eq.trans (ui_o (by first | decide | omega)) (Eq.trans (hO3 50 40 (by omega)).1 (Eq.trans (ui_o (by first | decide | omega)) (Eq.trans (hO2 50 40 (by omega)).1 (Eq.trans (ui_o (by first | decide | omega)) (Eq.trans (hO1 50 40 (by omega)).1 (Eq.trans (ui_o (by first | decide | omega)) (hO0 50 40 (by omega)).1))))))) ?_
            rw [(z_zero_o (by decide)).trans hdl]
            refine zq_bald hc hH (by rfl) 4 (by decide +kernel) (vp_in_nI (by omega) (by decide)) ?_
            rw [nI_clamp (by omega)]
            refine zV1 (Z := Z) (Eq.trans (ui_k (by first | decide | omega)) (Eq.trans (hO3 79 0 (by omega)).1 (Eq.trans (ui_k (by first | decide | omega)) (Eq.trans (hO2 79 0 (by omega)).1 (Eq.trans (ui_k (by first | decide | omega)) (Eq.trans (hO1 79 0 (by omega)).1 (ui_s))))))) ?_
            refine z_rcs hc hH 1 (pc' := 111) (lv' := [(3, .int 4), (1, .int 0), (2, .ref 79), (0, .ref 50)]) (st' := [.int 1, .int 0, .ref 50]) (μ' := z_ui W3 79 3 0) (by rfl) ?_
            refine zq_call hc (z_cx_ok hH (by rfl)) (gm_endsB d' (by omega) (z_ui W3 79 3 0) false true 0 e (by rw [ui_o (by first | decide | omega), (hO3 50 40 (by omega)).1, ui_o (by first | decide | omega), (hO2 50 40 (by omega)).1, ui_o (by first | decide | omega), (hO1 50 40 (by omega)).1, ui_o (by first | decide | omega), (hO0 50 40 (by omega)).1]; exact (z_zero_o (by decide)).trans hdl) hdl4 he) (by decide +kernel) (fun r9 μ9 hq => ?_)
            obtain ⟨hr9, hm9⟩ := hq
            rw [hr9, hm9]
            clear hr9 hm9
            show Z 1 114 [(3, .int 4), (1, .int 0), (2, .ref 79), (0, .ref 50)] [] (eMB (z_ui W3 79 3 0) false true 0 e)
            exact hr 1 114 _ _ _ none (by decide +kernel) (by rfl) (by refine ⟨rfl, ?_⟩; unfold nM0000; exact SM_eMB (SM_ui (SM_tr (SM_ui (SM_tr (SM_ui (SM_tr (SM_ui (SM_tr (SM_rf _) hO0)) hO1)) hO2)) hO3)))
          · skip
            refine z_rcs hc hH 3 (pc' := 106) (lv' := [(3, .int 4), (1, .int 0), (2, .ref 79), (0, .ref 50)]) (st' := [.ref 50, .ref 79, .ref 50]) (μ' := z_ui W3 79 3 0) (by rfl) ?_
            refine zq_gfi hc hH (by rfl) (ci := 6) (f := 40) (by rfl) (by decide +kernel) (by rfl) ?_
            refine zV1 (Z := Z) (Eq.trans (ui_o (by first | decide | omega)) (Eq.trans (hO3 50 40 (by omega)).1 (Eq.trans (ui_o (by first | decide | omega)) (Eq.trans (hO2 50 40 (by omega)).1 (Eq.trans (ui_o (by first | decide | omega)) (Eq.trans (hO1 50 40 (by omega)).1 (Eq.trans (ui_o (by first | decide | omega)) (hO0 50 40 (by omega)).1))))))) ?_
            rw [(z_zero_o (by decide)).trans hdl]
            refine zq_bald hc hH (by rfl) 4 (by decide +kernel) (vp_in_nI (by omega) (by decide)) ?_
            rw [nI_clamp (by omega)]
            refine zV1 (Z := Z) (Eq.trans (ui_k (by first | decide | omega)) (Eq.trans (hO3 79 1 (by omega)).1 (Eq.trans (ui_k (by first | decide | omega)) (Eq.trans (hO2 79 1 (by omega)).1 (ui_s))))) ?_
            refine z_rcs hc hH 1 (pc' := 111) (lv' := [(3, .int 4), (1, .int 0), (2, .ref 79), (0, .ref 50)]) (st' := [.int 1, .int 0, .ref 50]) (μ' := z_ui W3 79 3 0) (by rfl) ?_
            refine zq_call hc (z_cx_ok hH (by rfl)) (gm_endsB d' (by omega) (z_ui W3 79 3 0) false true 1 e (by rw [ui_o (by first | decide | omega), (hO3 50 40 (by omega)).1, ui_o (by first | decide | omega), (hO2 50 40 (by omega)).1, ui_o (by first | decide | omega), (hO1 50 40 (by omega)).1, ui_o (by first | decide | omega), (hO0 50 40 (by omega)).1]; exact (z_zero_o (by decide)).trans hdl) hdl4 he) (by decide +kernel) (fun r9 μ9 hq => ?_)
            obtain ⟨hr9, hm9⟩ := hq
            rw [hr9, hm9]
            clear hr9 hm9
            show Z 1 114 [(3, .int 4), (1, .int 0), (2, .ref 79), (0, .ref 50)] [] (eMB (z_ui W3 79 3 0) false true 1 e)
            exact hr 1 114 _ _ _ none (by decide +kernel) (by rfl) (by refine ⟨rfl, ?_⟩; unfold nM0000; exact SM_eMB (SM_ui (SM_tr (SM_ui (SM_tr (SM_ui (SM_tr (SM_ui (SM_tr (SM_rf _) hO0)) hO1)) hO2)) hO3)))
          · skip
            refine z_rcs hc hH 3 (pc' := 106) (lv' := [(3, .int 4), (1, .int 0), (2, .ref 79), (0, .ref 50)]) (st' := [.ref 50, .ref 79, .ref 50]) (μ' := z_ui W3 79 3 0) (by rfl) ?_
            refine zq_gfi hc hH (by rfl) (ci := 6) (f := 40) (by rfl) (by decide +kernel) (by rfl) ?_
            refine zV1 (Z := Z) (Eq.trans (ui_o (by first | decide | omega)) (Eq.trans (hO3 50 40 (by omega)).1 (Eq.trans (ui_o (by first | decide | omega)) (Eq.trans (hO2 50 40 (by omega)).1 (Eq.trans (ui_o (by first | decide | omega)) (Eq.trans (hO1 50 40 (by omega)).1 (Eq.trans (ui_o (by first | decide | omega)) (hO0 50 40 (by omega)).1))))))) ?_
            rw [(z_zero_o (by decide)).trans hdl]
            refine zq_bald hc hH (by rfl) 4 (by decide +kernel) (vp_in_nI (by omega) (by decide)) ?_
            rw [nI_clamp (by omega)]
            refine zV1 (Z := Z) (Eq.trans (ui_k (by first | decide | omega)) (Eq.trans (hO3 79 2 (by omega)).1 (ui_s))) ?_
            refine z_rcs hc hH 1 (pc' := 111) (lv' := [(3, .int 4), (1, .int 0), (2, .ref 79), (0, .ref 50)]) (st' := [.int 1, .int 0, .ref 50]) (μ' := z_ui W3 79 3 0) (by rfl) ?_
            refine zq_call hc (z_cx_ok hH (by rfl)) (gm_endsB d' (by omega) (z_ui W3 79 3 0) false true 2 e (by rw [ui_o (by first | decide | omega), (hO3 50 40 (by omega)).1, ui_o (by first | decide | omega), (hO2 50 40 (by omega)).1, ui_o (by first | decide | omega), (hO1 50 40 (by omega)).1, ui_o (by first | decide | omega), (hO0 50 40 (by omega)).1]; exact (z_zero_o (by decide)).trans hdl) hdl4 he) (by decide +kernel) (fun r9 μ9 hq => ?_)
            obtain ⟨hr9, hm9⟩ := hq
            rw [hr9, hm9]
            clear hr9 hm9
            show Z 1 114 [(3, .int 4), (1, .int 0), (2, .ref 79), (0, .ref 50)] [] (eMB (z_ui W3 79 3 0) false true 2 e)
            exact hr 1 114 _ _ _ none (by decide +kernel) (by rfl) (by refine ⟨rfl, ?_⟩; unfold nM0000; exact SM_eMB (SM_ui (SM_tr (SM_ui (SM_tr (SM_ui (SM_tr (SM_ui (SM_tr (SM_rf _) hO0)) hO1)) hO2)) hO3)))
          · skip
            refine z_rcs hc hH 3 (pc' := 106) (lv' := [(3, .int 4), (1, .int 0), (2, .ref 79), (0, .ref 50)]) (st' := [.ref 50, .ref 79, .ref 50]) (μ' := z_ui W3 79 3 0) (by rfl) ?_
            refine zq_gfi hc hH (by rfl) (ci := 6) (f := 40) (by rfl) (by decide +kernel) (by rfl) ?_
            refine zV1 (Z := Z) (Eq.trans (ui_o (by first | decide | omega)) (Eq.trans (hO3 50 40 (by omega)).1 (Eq.trans (ui_o (by first | decide | omega)) (Eq.trans (hO2 50 40 (by omega)).1 (Eq.trans (ui_o (by first | decide | omega)) (Eq.trans (hO1 50 40 (by omega)).1 (Eq.trans (ui_o (by first | decide | omega)) (hO0 50 40 (by omega)).1))))))) ?_
            rw [(z_zero_o (by decide)).trans hdl]
            refine zq_bald hc hH (by rfl) 4 (by decide +kernel) (vp_in_nI (by omega) (by decide)) ?_
            rw [nI_clamp (by omega)]
            rw [ui_s]
            refine z_rcs hc hH 1 (pc' := 111) (lv' := [(3, .int 4), (1, .int 0), (2, .ref 79), (0, .ref 50)]) (st' := [.int 1, .int 0, .ref 50]) (μ' := z_ui W3 79 3 0) (by rfl) ?_
            refine zq_call hc (z_cx_ok hH (by rfl)) (gm_endsB d' (by omega) (z_ui W3 79 3 0) false true 3 e (by rw [ui_o (by first | decide | omega), (hO3 50 40 (by omega)).1, ui_o (by first | decide | omega), (hO2 50 40 (by omega)).1, ui_o (by first | decide | omega), (hO1 50 40 (by omega)).1, ui_o (by first | decide | omega), (hO0 50 40 (by omega)).1]; exact (z_zero_o (by decide)).trans hdl) hdl4 he) (by decide +kernel) (fun r9 μ9 hq => ?_)
            obtain ⟨hr9, hm9⟩ := hq
            rw [hr9, hm9]
            clear hr9 hm9
            show Z 1 114 [(3, .int 4), (1, .int 0), (2, .ref 79), (0, .ref 50)] [] (eMB (z_ui W3 79 3 0) false true 3 e)
            exact hr 1 114 _ _ _ none (by decide +kernel) (by rfl) (by refine ⟨rfl, ?_⟩; unfold nM0000; exact SM_eMB (SM_ui (SM_tr (SM_ui (SM_tr (SM_ui (SM_tr (SM_ui (SM_tr (SM_rf _) hO0)) hO1)) hO2)) hO3)))
        · have h4 : (decide ((lg_cmp w3 0) = 0)) = false := decide_eq_false (cn_eq.mp h4)
          exact absurd (Eq.trans (Eq.symm (hb3)) h4) (by decide)
      · have h3 : (decide ((lg_cmp w2 0) = 0)) = false := decide_eq_false (cn_eq.mp h3)
        exact absurd (Eq.trans (Eq.symm (hb2)) h3) (by decide)
    · have h2 : (decide ((lg_cmp w1 0) = 0)) = false := decide_eq_false (cn_eq.mp h2)
      exact absurd (Eq.trans (Eq.symm (hb1)) h2) (by decide)
  · have h1 : (decide ((lg_cmp w0 0) = 0)) = false := decide_eq_false (cn_eq.mp h1)
    exact absurd (Eq.trans (Eq.symm (hb0)) h1) (by decide)
noncomputable def nM0001 (μ : zM) : zM := z_ui (z_ui (z_ui (z_ui (z_ui (z_ui (z_ui (z_ui (z_zero μ) 79 0 0) 79 1 0) 79 2 0) 79 3 1) 61 0 ((μ.1 61 0) + (-1000))) 61 1 ((μ.1 61 1) + (-1000))) 61 2 ((μ.1 61 2) + (-1000))) 61 3 ((μ.1 61 3) + 3000)
theorem gm_nobody0001 (d : Nat) (hd : 700 ≤ d) (μ : zM) (hH0 : a_H μ) (dl e : Nat) (hdl : μ.1 50 40 = nI dl) (hdl4 : dl < 4) (he : (dl + 1) % 4 = e) (w0 : Int64) (hw0 : ∀ M, SE μ M → a_H M → ∀ d, 699 ≤ d → z_C d mi_X7_waitsAt [.ref 50, .int 0] M (fun r W => r = some (.long w0) ∧ SMj M W ∧ a_H W)) (hb0 : decide (lg_cmp w0 0 = 0) = true) (w1 : Int64) (hw1 : ∀ M, SE μ M → a_H M → ∀ d, 699 ≤ d → z_C d mi_X7_waitsAt [.ref 50, .int 1] M (fun r W => r = some (.long w1) ∧ SMj M W ∧ a_H W)) (hb1 : decide (lg_cmp w1 0 = 0) = true) (w2 : Int64) (hw2 : ∀ M, SE μ M → a_H M → ∀ d, 699 ≤ d → z_C d mi_X7_waitsAt [.ref 50, .int 2] M (fun r W => r = some (.long w2) ∧ SMj M W ∧ a_H W)) (hb2 : decide (lg_cmp w2 0 = 0) = true) (w3 : Int64) (hw3 : ∀ M, SE μ M → a_H M → ∀ d, 699 ≤ d → z_C d mi_X7_waitsAt [.ref 50, .int 3] M (fun r W => r = some (.long w3) ∧ SMj M W ∧ a_H W)) (hb3 : decide (lg_cmp w3 0 = 0) = false) : z_C d mi_X7_nobodyWins [.ref 50] μ (fun r μ' => r = none ∧ SMj (eMB (nM0001 μ) (nbS false false false true dl) true dl e) μ') := by
  obtain ⟨d', rfl⟩ : ∃ d', d = d' + 1 := ⟨d - 1, by omega⟩
  intro Z hc hr
  refine ⟨rfl, ?_⟩
  have hH := zh_X7_nobodyWins
  refine z_rcs hc hH 9 (pc' := 17) (lv' := [(3, .int 0), (2, .ref 79), (1, .int 0), (0, .ref 50)]) (st' := [.int 0, .ref 50, .int 0, .ref 79]) (μ' := z_zero μ) (by rfl) ?_
  refine zq_call hc (z_cx_ok hH (by rfl)) (hw0 _ (SE_zr _) (a_H_zero hH0) d' (by omega)) (by decide +kernel) (fun r9 W0 hq => ?_)
  obtain ⟨rfl, hO0, hA0⟩ := hq
  show Z 1 20 [(3, .int 0), (2, .ref 79), (1, .int 0), (0, .ref 50)] [.long w0, .int 0, .ref 79] W0
  refine z_rcs hc hH 2 (pc' := 22) (lv' := [(3, .int 0), (2, .ref 79), (1, .int 0), (0, .ref 50)]) (st' := [.int (lg_cmp w0 0), .int 0, .ref 79]) (μ' := W0) (by rfl) ?_
  refine zq_if hc hH (by rfl) (tg := 29) (by rfl) (fun h1 => ?_) (fun h1 => ?_)
  · have h1 : (decide ((lg_cmp w0 0) = 0)) = true := decide_eq_true (cm_eq9.mp h1)
    refine z_rcs hc hH 1 (pc' := 30) (lv' := [(3, .int 0), (2, .ref 79), (1, .int 0), (0, .ref 50)]) (st' := [.int 0, .int 0, .ref 79]) (μ' := W0) (by rfl) ?_
    refine zq_bast hc hH (by rfl) 4 (by decide +kernel) (show vp_in (nI 0) 4 from vp_in_nI (by decide) (by decide)) (by decide) ?_
    rw [show (0 : Int32).toNatClampNeg = 0 from rfl]
    show Z 1 31 [(3, .int 0), (2, .ref 79), (1, .int 0), (0, .ref 50)] [] (z_ui W0 79 0 0)
    refine z_rcs hc hH 3 (pc' := 34) (lv' := [(3, .int 0), (2, .ref 79), (1, .int 0), (0, .ref 50)]) (st' := [.int 0, .ref 79, .int 0]) (μ' := z_ui W0 79 0 0) (by rfl) ?_
    refine zq_bald hc hH (by rfl) 4 (by decide +kernel) (show vp_in (nI 0) 4 from vp_in_nI (by decide) (by decide)) ?_
    rw [show (0 : Int32).toNatClampNeg = 0 from rfl]
    rw [ui_s]
    refine z_rcs hc hH 13 (pc' := 17) (lv' := [(3, .int 1), (1, .int 0), (2, .ref 79), (0, .ref 50)]) (st' := [.int 1, .ref 50, .int 1, .ref 79]) (μ' := z_ui W0 79 0 0) (by rfl) ?_
    refine zq_call hc (z_cx_ok hH (by rfl)) (hw1 _ (SE_ui (SE_sm (SE_zr _) hO0) (by omega)) (a_H_ui (r := 79) (k := 0) (hA0) ⟨by decide, by decide⟩) d' (by omega)) (by decide +kernel) (fun r9 W1 hq => ?_)
    obtain ⟨rfl, hO1, hA1⟩ := hq
    show Z 1 20 [(3, .int 1), (1, .int 0), (2, .ref 79), (0, .ref 50)] [.long w1, .int 1, .ref 79] W1
    refine z_rcs hc hH 2 (pc' := 22) (lv' := [(3, .int 1), (1, .int 0), (2, .ref 79), (0, .ref 50)]) (st' := [.int (lg_cmp w1 0), .int 1, .ref 79]) (μ' := W1) (by rfl) ?_
    refine zq_if hc hH (by rfl) (tg := 29) (by rfl) (fun h2 => ?_) (fun h2 => ?_)
    · have h2 : (decide ((lg_cmp w1 0) = 0)) = true := decide_eq_true (cm_eq9.mp h2)
      refine z_rcs hc hH 1 (pc' := 30) (lv' := [(3, .int 1), (1, .int 0), (2, .ref 79), (0, .ref 50)]) (st' := [.int 0, .int 1, .ref 79]) (μ' := W1) (by rfl) ?_
      refine zq_bast hc hH (by rfl) 4 (by decide +kernel) (show vp_in (nI 1) 4 from vp_in_nI (by decide) (by decide)) (by decide) ?_
      rw [show (1 : Int32).toNatClampNeg = 1 from rfl]
      show Z 1 31 [(3, .int 1), (1, .int 0), (2, .ref 79), (0, .ref 50)] [] (z_ui W1 79 1 0)
      refine z_rcs hc hH 3 (pc' := 34) (lv' := [(3, .int 1), (1, .int 0), (2, .ref 79), (0, .ref 50)]) (st' := [.int 1, .ref 79, .int 0]) (μ' := z_ui W1 79 1 0) (by rfl) ?_
      refine zq_bald hc hH (by rfl) 4 (by decide +kernel) (show vp_in (nI 1) 4 from vp_in_nI (by decide) (by decide)) ?_
      rw [show (1 : Int32).toNatClampNeg = 1 from rfl]
      rw [ui_s]
      refine z_rcs hc hH 13 (pc' := 17) (lv' := [(3, .int 2), (1, .int 0), (2, .ref 79), (0, .ref 50)]) (st' := [.int 2, .ref 50, .int 2, .ref 79]) (μ' := z_ui W1 79 1 0) (by rfl) ?_
      refine zq_call hc (z_cx_ok hH (by rfl)) (hw2 _ (SE_ui (SE_sm (SE_ui (SE_sm (SE_zr _) hO0) (by omega)) hO1) (by omega)) (a_H_ui (r := 79) (k := 1) (hA1) ⟨by decide, by decide⟩) d' (by omega)) (by decide +kernel) (fun r9 W2 hq => ?_)
      obtain ⟨rfl, hO2, hA2⟩ := hq
      show Z 1 20 [(3, .int 2), (1, .int 0), (2, .ref 79), (0, .ref 50)] [.long w2, .int 2, .ref 79] W2
      refine z_rcs hc hH 2 (pc' := 22) (lv' := [(3, .int 2), (1, .int 0), (2, .ref 79), (0, .ref 50)]) (st' := [.int (lg_cmp w2 0), .int 2, .ref 79]) (μ' := W2) (by rfl) ?_
      refine zq_if hc hH (by rfl) (tg := 29) (by rfl) (fun h3 => ?_) (fun h3 => ?_)
      · have h3 : (decide ((lg_cmp w2 0) = 0)) = true := decide_eq_true (cm_eq9.mp h3)
        refine z_rcs hc hH 1 (pc' := 30) (lv' := [(3, .int 2), (1, .int 0), (2, .ref 79), (0, .ref 50)]) (st' := [.int 0, .int 2, .ref 79]) (μ' := W2) (by rfl) ?_
        refine zq_bast hc hH (by rfl) 4 (by decide +kernel) (show vp_in (nI 2) 4 from vp_in_nI (by decide) (by decide)) (by decide) ?_
        rw [show (2 : Int32).toNatClampNeg = 2 from rfl]
        show Z 1 31 [(3, .int 2), (1, .int 0), (2, .ref 79), (0, .ref 50)] [] (z_ui W2 79 2 0)
        refine z_rcs hc hH 3 (pc' := 34) (lv' := [(3, .int 2), (1, .int 0), (2, .ref 79), (0, .ref 50)]) (st' := [.int 2, .ref 79, .int 0]) (μ' := z_ui W2 79 2 0) (by rfl) ?_
        refine zq_bald hc hH (by rfl) 4 (by decide +kernel) (show vp_in (nI 2) 4 from vp_in_nI (by decide) (by decide)) ?_
        rw [show (2 : Int32).toNatClampNeg = 2 from rfl]
        rw [ui_s]
        refine z_rcs hc hH 13 (pc' := 17) (lv' := [(3, .int 3), (1, .int 0), (2, .ref 79), (0, .ref 50)]) (st' := [.int 3, .ref 50, .int 3, .ref 79]) (μ' := z_ui W2 79 2 0) (by rfl) ?_
        refine zq_call hc (z_cx_ok hH (by rfl)) (hw3 _ (SE_ui (SE_sm (SE_ui (SE_sm (SE_ui (SE_sm (SE_zr _) hO0) (by omega)) hO1) (by omega)) hO2) (by omega)) (a_H_ui (r := 79) (k := 2) (hA2) ⟨by decide, by decide⟩) d' (by omega)) (by decide +kernel) (fun r9 W3 hq => ?_)
        obtain ⟨rfl, hO3, hA3⟩ := hq
        show Z 1 20 [(3, .int 3), (1, .int 0), (2, .ref 79), (0, .ref 50)] [.long w3, .int 3, .ref 79] W3
        refine z_rcs hc hH 2 (pc' := 22) (lv' := [(3, .int 3), (1, .int 0), (2, .ref 79), (0, .ref 50)]) (st' := [.int (lg_cmp w3 0), .int 3, .ref 79]) (μ' := W3) (by rfl) ?_
        refine zq_if hc hH (by rfl) (tg := 29) (by rfl) (fun h4 => ?_) (fun h4 => ?_)
        · have h4 : (decide ((lg_cmp w3 0) = 0)) = true := decide_eq_true (cm_eq9.mp h4)
          exact absurd (Eq.trans (Eq.symm (hb3)) h4) (by decide)
        · have h4 : (decide ((lg_cmp w3 0) = 0)) = false := decide_eq_false (cn_eq.mp h4)
          refine z_rcs hc hH 2 (pc' := 30) (lv' := [(3, .int 3), (1, .int 0), (2, .ref 79), (0, .ref 50)]) (st' := [.int 1, .int 3, .ref 79]) (μ' := W3) (by rfl) ?_
          refine zq_bast hc hH (by rfl) 4 (by decide +kernel) (show vp_in (nI 3) 4 from vp_in_nI (by decide) (by decide)) (by decide) ?_
          rw [show (3 : Int32).toNatClampNeg = 3 from rfl]
          show Z 1 31 [(3, .int 3), (1, .int 0), (2, .ref 79), (0, .ref 50)] [] (z_ui W3 79 3 1)
          refine z_rcs hc hH 3 (pc' := 34) (lv' := [(3, .int 3), (1, .int 0), (2, .ref 79), (0, .ref 50)]) (st' := [.int 3, .ref 79, .int 0]) (μ' := z_ui W3 79 3 1) (by rfl) ?_
          refine zq_bald hc hH (by rfl) 4 (by decide +kernel) (show vp_in (nI 3) 4 from vp_in_nI (by decide) (by decide)) ?_
          rw [show (3 : Int32).toNatClampNeg = 3 from rfl]
          rw [ui_s]
          refine z_rcs hc hH 21 (pc' := 68) (lv' := [(3, .int 0), (1, .int 1), (2, .ref 79), (0, .ref 50)]) (st' := [.ref 50]) (μ' := z_ui W3 79 3 1) (by rfl) ?_
          refine zq_gfr hc hH (by rfl) (ci := 6) (f := 29) (q := 61) (by rfl) (by decide +kernel) (by rfl) (by decide +kernel) ?_
          refine z_rcs hc hH 2 (pc' := 73) (lv' := [(3, .int 0), (1, .int 1), (2, .ref 79), (0, .ref 50)]) (st' := [.int 0, .ref 61, .int 0, .ref 61]) (μ' := z_ui W3 79 3 1) (by rfl) ?_
          refine zq_iald hc hH (by rfl) 4 (oka_i (by decide +kernel)) (show vp_in (nI 0) 4 from vp_in_nI (by decide) (by decide)) ?_
          rw [show (0 : Int32).toNatClampNeg = 0 from rfl]
          refine zV1 (Z := Z) (Eq.trans (ui_o (by first | decide | omega)) (Eq.trans (hO3 61 0 (by omega)).1 (Eq.trans (ui_o (by first | decide | omega)) (Eq.trans (hO2 61 0 (by omega)).1 (Eq.trans (ui_o (by first | decide | omega)) (Eq.trans (hO1 61 0 (by omega)).1 (Eq.trans (ui_o (by first | decide | omega)) (hO0 61 0 (by omega)).1))))))) ?_
          rw [z_zero_o (by decide)]
          refine z_rcs hc hH 2 (pc' := 76) (lv' := [(3, .int 0), (1, .int 1), (2, .ref 79), (0, .ref 50)]) (st' := [.int 0, .ref 79, .int (μ.1 61 0), .int 0, .ref 61]) (μ' := z_ui W3 79 3 1) (by rfl) ?_
          refine zq_bald hc hH (by rfl) 4 (by decide +kernel) (show vp_in (nI 0) 4 from vp_in_nI (by decide) (by decide)) ?_
          rw [show (0 : Int32).toNatClampNeg = 0 from rfl]
          refine zV1 (Z := Z) (Eq.trans (ui_k (by first | decide | omega)) (Eq.trans (hO3 79 0 (by omega)).1 (Eq.trans (ui_k (by first | decide | omega)) (Eq.trans (hO2 79 0 (by omega)).1 (Eq.trans (ui_k (by first | decide | omega)) (Eq.trans (hO1 79 0 (by omega)).1 (ui_s))))))) ?_
          refine z_rcs hc hH 7 (pc' := 96) (lv' := [(3, .int 0), (1, .int 1), (2, .ref 79), (0, .ref 50)]) (st' := [.int ((μ.1 61 0) + (-1000)), .int 0, .ref 61]) (μ' := z_ui W3 79 3 1) (by rfl) ?_
          refine zq_iast hc hH (by rfl) 4 (oka_i (by decide +kernel)).2 (show vp_in (nI 0) 4 from vp_in_nI (by decide) (by decide)) ?_
          rw [show (0 : Int32).toNatClampNeg = 0 from rfl]
          show Z 1 97 [(3, .int 0), (1, .int 1), (2, .ref 79), (0, .ref 50)] [] (z_ui (z_ui W3 79 3 1) 61 0 ((μ.1 61 0) + (-1000)))
          refine z_rcs0 hc hH 6 (pc' := 68) (lv' := [(3, .int 1), (1, .int 1), (2, .ref 79), (0, .ref 50)]) (st' := [.ref 50]) (by rfl) ?_
          refine zq_gfr hc hH (by rfl) (ci := 6) (f := 29) (q := 61) (by rfl) (by decide +kernel) (by rfl) (by decide +kernel) ?_
          refine z_rcs0 hc hH 2 (pc' := 73) (lv' := [(3, .int 1), (1, .int 1), (2, .ref 79), (0, .ref 50)]) (st' := [.int 1, .ref 61, .int 1, .ref 61]) (by rfl) ?_
          refine zq_iald hc hH (by rfl) 4 (oka_i (by decide +kernel)) (show vp_in (nI 1) 4 from vp_in_nI (by decide) (by decide)) ?_
          rw [show (1 : Int32).toNatClampNeg = 1 from rfl]
          refine zV1 (Z := Z) (Eq.trans (ui_k (by first | decide | omega)) (Eq.trans (ui_o (by first | decide | omega)) (Eq.trans (hO3 61 1 (by omega)).1 (Eq.trans (ui_o (by first | decide | omega)) (Eq.trans (hO2 61 1 (by omega)).1 (Eq.trans (ui_o (by first | decide | omega)) (Eq.trans (hO1 61 1 (by omega)).1 (Eq.trans (ui_o (by first | decide | omega)) (hO0 61 1 (by omega)).1)))))))) ?_
          rw [z_zero_o (by decide)]
          refine z_rcs0 hc hH 2 (pc' := 76) (lv' := [(3, .int 1), (1, .int 1), (2, .ref 79), (0, .ref 50)]) (st' := [.int 1, .ref 79, .int (μ.1 61 1), .int 1, .ref 61]) (by rfl) ?_
          refine zq_bald hc hH (by rfl) 4 (by decide +kernel) (show vp_in (nI 1) 4 from vp_in_nI (by decide) (by decide)) ?_
          rw [show (1 : Int32).toNatClampNeg = 1 from rfl]
          refine zV1 (Z := Z) (Eq.trans (ui_o (by first | decide | omega)) (Eq.trans (ui_k (by first | decide | omega)) (Eq.trans (hO3 79 1 (by omega)).1 (Eq.trans (ui_k (by first | decide | omega)) (Eq.trans (hO2 79 1 (by omega)).1 (ui_s)))))) ?_
          refine z_rcs0 hc hH 7 (pc' := 96) (lv' := [(3, .int 1), (1, .int 1), (2, .ref 79), (0, .ref 50)]) (st' := [.int ((μ.1 61 1) + (-1000)), .int 1, .ref 61]) (by rfl) ?_
          refine zq_iast hc hH (by rfl) 4 (oka_i (by decide +kernel)).2 (show vp_in (nI 1) 4 from vp_in_nI (by decide) (by decide)) ?_
          rw [show (1 : Int32).toNatClampNeg = 1 from rfl]
          show Z 1 97 [(3, .int 1), (1, .int 1), (2, .ref 79), (0, .ref 50)] [] (z_ui (z_ui (z_ui W3 79 3 1) 61 0 ((μ.1 61 0) + (-1000))) 61 1 ((μ.1 61 1) + (-1000)))
          refine z_rcs0 hc hH 6 (pc' := 68) (lv' := [(3, .int 2), (1, .int 1), (2, .ref 79), (0, .ref 50)]) (st' := [.ref 50]) (by rfl) ?_
          refine zq_gfr hc hH (by rfl) (ci := 6) (f := 29) (q := 61) (by rfl) (by decide +kernel) (by rfl) (by decide +kernel) ?_
          refine z_rcs0 hc hH 2 (pc' := 73) (lv' := [(3, .int 2), (1, .int 1), (2, .ref 79), (0, .ref 50)]) (st' := [.int 2, .ref 61, .int 2, .ref 61]) (by rfl) ?_
          refine zq_iald hc hH (by rfl) 4 (oka_i (by decide +kernel)) (show vp_in (nI 2) 4 from vp_in_nI (by decide) (by decide)) ?_
          rw [show (2 : Int32).toNatClampNeg = 2 from rfl]
          refine zV1 (Z := Z) (Eq.trans (ui_k (by first | decide | omega)) (Eq.trans (ui_k (by first | decide | omega)) (Eq.trans (ui_o (by first | decide | omega)) (Eq.trans (hO3 61 2 (by omega)).1 (Eq.trans (ui_o (by first | decide | omega)) (Eq.trans (hO2 61 2 (by omega)).1 (Eq.trans (ui_o (by first | decide | omega)) (Eq.trans (hO1 61 2 (by omega)).1 (Eq.trans (ui_o (by first | decide | omega)) (hO0 61 2 (by omega)).1))))))))) ?_
          rw [z_zero_o (by decide)]
          refine z_rcs0 hc hH 2 (pc' := 76) (lv' := [(3, .int 2), (1, .int 1), (2, .ref 79), (0, .ref 50)]) (st' := [.int 2, .ref 79, .int (μ.1 61 2), .int 2, .ref 61]) (by rfl) ?_
          refine zq_bald hc hH (by rfl) 4 (by decide +kernel) (show vp_in (nI 2) 4 from vp_in_nI (by decide) (by decide)) ?_
          rw [show (2 : Int32).toNatClampNeg = 2 from rfl]
          refine zV1 (Z := Z) (Eq.trans (ui_o (by first | decide | omega)) (Eq.trans (ui_o (by first | decide | omega)) (Eq.trans (ui_k (by first | decide | omega)) (Eq.trans (hO3 79 2 (by omega)).1 (ui_s))))) ?_
          refine z_rcs0 hc hH 7 (pc' := 96) (lv' := [(3, .int 2), (1, .int 1), (2, .ref 79), (0, .ref 50)]) (st' := [.int ((μ.1 61 2) + (-1000)), .int 2, .ref 61]) (by rfl) ?_
          refine zq_iast hc hH (by rfl) 4 (oka_i (by decide +kernel)).2 (show vp_in (nI 2) 4 from vp_in_nI (by decide) (by decide)) ?_
          rw [show (2 : Int32).toNatClampNeg = 2 from rfl]
          show Z 1 97 [(3, .int 2), (1, .int 1), (2, .ref 79), (0, .ref 50)] [] (z_ui (z_ui (z_ui (z_ui W3 79 3 1) 61 0 ((μ.1 61 0) + (-1000))) 61 1 ((μ.1 61 1) + (-1000))) 61 2 ((μ.1 61 2) + (-1000)))
          refine z_rcs0 hc hH 6 (pc' := 68) (lv' := [(3, .int 3), (1, .int 1), (2, .ref 79), (0, .ref 50)]) (st' := [.ref 50]) (by rfl) ?_
          refine zq_gfr hc hH (by rfl) (ci := 6) (f := 29) (q := 61) (by rfl) (by decide +kernel) (by rfl) (by decide +kernel) ?_
          refine z_rcs0 hc hH 2 (pc' := 73) (lv' := [(3, .int 3), (1, .int 1), (2, .ref 79), (0, .ref 50)]) (st' := [.int 3, .ref 61, .int 3, .ref 61]) (by rfl) ?_
          refine zq_iald hc hH (by rfl) 4 (oka_i (by decide +kernel)) (show vp_in (nI 3) 4 from vp_in_nI (by decide) (by decide)) ?_
          rw [show (3 : Int32).toNatClampNeg = 3 from rfl]
          refine zV1 (Z := Z) (Eq.trans (ui_k (by first | decide | omega)) (Eq.trans (ui_k (by first | decide | omega)) (Eq.trans (ui_k (by first | decide | omega)) (Eq.trans (ui_o (by first | decide | omega)) (Eq.trans (hO3 61 3 (by omega)).1 (Eq.trans (ui_o (by first | decide | omega)) (Eq.trans (hO2 61 3 (by omega)).1 (Eq.trans (ui_o (by first | decide | omega)) (Eq.trans (hO1 61 3 (by omega)).1 (Eq.trans (ui_o (by first | decide | omega)) (hO0 61 3 (by omega)).1)))))))))) ?_
          rw [z_zero_o (by decide)]
          refine z_rcs0 hc hH 2 (pc' := 76) (lv' := [(3, .int 3), (1, .int 1), (2, .ref 79), (0, .ref 50)]) (st' := [.int 3, .ref 79, .int (μ.1 61 3), .int 3, .ref 61]) (by rfl) ?_
          refine zq_bald hc hH (by rfl) 4 (by decide +kernel) (show vp_in (nI 3) 4 from vp_in_nI (by decide) (by decide)) ?_
          rw [show (3 : Int32).toNatClampNeg = 3 from rfl]
          refine zV1 (Z := Z) (Eq.trans (ui_o (by first | decide | omega)) (Eq.trans (ui_o (by first | decide | omega)) (Eq.trans (ui_o (by first | decide | omega)) (ui_s)))) ?_
          refine z_rcs0 hc hH 6 (pc' := 96) (lv' := [(3, .int 3), (1, .int 1), (2, .ref 79), (0, .ref 50)]) (st' := [.int ((μ.1 61 3) + 3000), .int 3, .ref 61]) (by rfl) ?_
          refine zq_iast hc hH (by rfl) 4 (oka_i (by decide +kernel)).2 (show vp_in (nI 3) 4 from vp_in_nI (by decide) (by decide)) ?_
          rw [show (3 : Int32).toNatClampNeg = 3 from rfl]
          show Z 1 97 [(3, .int 3), (1, .int 1), (2, .ref 79), (0, .ref 50)] [] (z_ui (z_ui (z_ui (z_ui (z_ui W3 79 3 1) 61 0 ((μ.1 61 0) + (-1000))) 61 1 ((μ.1 61 1) + (-1000))) 61 2 ((μ.1 61 2) + (-1000))) 61 3 ((μ.1 61 3) + 3000))
          refine z_rcs0 hc hH 5 (pc' := 103) (lv' := [(3, .int 4), (1, .int 1), (2, .ref 79), (0, .ref 50)]) (st' := []) (by rfl) ?_
          obtain rfl | rfl | rfl | rfl : dl = 0 ∨ dl = 1 ∨ dl = 2 ∨ dl = 3 := by omega
          · skip
            refine z_rcs0 hc hH 3 (pc' := 106) (lv' := [(3, .int 4), (1, .int 1), (2, .ref 79), (0, .ref 50)]) (st' := [.ref 50, .ref 79, .ref 50]) (by rfl) ?_
            refine zq_gfi hc hH (by rfl) (ci := 6) (f := 40) (by rfl) (by decide +kernel) (by rfl) ?_
            refine zV1 (Z := Z) (Eq.trans (ui_o (by first | decide | omega)) (Eq.trans (ui_o (by first | decide | omega)) (Eq.trans (ui_o (by first | decide | omega)) (Eq.trans (ui_o (by first | decide | omega)) (Eq.trans (ui_o (by first | decide | omega)) (Eq.trans (hO3 50 40 (by omega)).1 (Eq.trans (ui_o (by first | decide | omega)) (Eq.trans (hO2 50 40 (by omega)).1 (Eq.trans (ui_o (by first | decide | omega)) (Eq.trans (hO1 50 40 (by omega)).1 (Eq.trans (ui_o (by first | decide | omega)) (hO0 50 40 (by omega)).1))))))))))) ?_
            rw [(z_zero_o (by decide)).trans hdl]
            refine zq_bald hc hH (by rfl) 4 (by decide +kernel) (vp_in_nI (by omega) (by decide)) ?_
            rw [nI_clamp (by omega)]
            refine zV1 (Z := Z) (Eq.trans (ui_o (by first | decide | omega)) (Eq.trans (ui_o (by first | decide | omega)) (Eq.trans (ui_o (by first | decide | omega)) (Eq.trans (ui_o (by first | decide | omega)) (Eq.trans (ui_k (by first | decide | omega)) (Eq.trans (hO3 79 0 (by omega)).1 (Eq.trans (ui_k (by first | decide | omega)) (Eq.trans (hO2 79 0 (by omega)).1 (Eq.trans (ui_k (by first | decide | omega)) (Eq.trans (hO1 79 0 (by omega)).1 (ui_s))))))))))) ?_
            refine z_rcs0 hc hH 1 (pc' := 111) (lv' := [(3, .int 4), (1, .int 1), (2, .ref 79), (0, .ref 50)]) (st' := [.int 1, .int 0, .ref 50]) (by rfl) ?_
            refine zq_call hc (z_cx_ok hH (by rfl)) (gm_endsB d' (by omega) (z_ui (z_ui (z_ui (z_ui (z_ui W3 79 3 1) 61 0 ((μ.1 61 0) + (-1000))) 61 1 ((μ.1 61 1) + (-1000))) 61 2 ((μ.1 61 2) + (-1000))) 61 3 ((μ.1 61 3) + 3000)) false true 0 e (by rw [ui_o (by first | decide | omega), ui_o (by first | decide | omega), ui_o (by first | decide | omega), ui_o (by first | decide | omega), ui_o (by first | decide | omega), (hO3 50 40 (by omega)).1, ui_o (by first | decide | omega), (hO2 50 40 (by omega)).1, ui_o (by first | decide | omega), (hO1 50 40 (by omega)).1, ui_o (by first | decide | omega), (hO0 50 40 (by omega)).1]; exact (z_zero_o (by decide)).trans hdl) hdl4 he) (by decide +kernel) (fun r9 μ9 hq => ?_)
            obtain ⟨hr9, hm9⟩ := hq
            rw [hr9, hm9]
            clear hr9 hm9
            show Z 1 114 [(3, .int 4), (1, .int 1), (2, .ref 79), (0, .ref 50)] [] (eMB (z_ui (z_ui (z_ui (z_ui (z_ui W3 79 3 1) 61 0 ((μ.1 61 0) + (-1000))) 61 1 ((μ.1 61 1) + (-1000))) 61 2 ((μ.1 61 2) + (-1000))) 61 3 ((μ.1 61 3) + 3000)) false true 0 e)
            exact hr 1 114 _ _ _ none (by decide +kernel) (by rfl) (by refine ⟨rfl, ?_⟩; unfold nM0001; exact SM_eMB (SM_ui (SM_ui (SM_ui (SM_ui (SM_ui (SM_tr (SM_ui (SM_tr (SM_ui (SM_tr (SM_ui (SM_tr (SM_rf _) hO0)) hO1)) hO2)) hO3)))))))
          · skip
            refine z_rcs hc hH 3 (pc' := 106) (lv' := [(3, .int 4), (1, .int 1), (2, .ref 79), (0, .ref 50)]) (st' := [.ref 50, .ref 79, .ref 50]) (μ' := z_ui (z_ui (z_ui (z_ui (z_ui W3 79 3 1) 61 0 ((μ.1 61 0) + (-1000))) 61 1 ((μ.1 61 1) + (-1000))) 61 2 ((μ.1 61 2) + (-1000))) 61 3 ((μ.1 61 3) + 3000)) (by rfl) ?_
            refine zq_gfi hc hH (by rfl) (ci := 6) (f := 40) (by rfl) (by decide +kernel) (by rfl) ?_
            refine zV1 (Z := Z) (Eq.trans (ui_o (by first | decide | omega)) (Eq.trans (ui_o (by first | decide | omega)) (Eq.trans (ui_o (by first | decide | omega)) (Eq.trans (ui_o (by first | decide | omega)) (Eq.trans (ui_o (by first | decide | omega)) (Eq.trans (hO3 50 40 (by omega)).1 (Eq.trans (ui_o (by first | decide | omega)) (Eq.trans (hO2 50 40 (by omega)).1 (Eq.trans (ui_o (by first | decide | omega)) (Eq.trans (hO1 50 40 (by omega)).1 (Eq.trans (ui_o (by first | decide | omega)) (hO0 50 40 (by omega)).1))))))))))) ?_
            rw [(z_zero_o (by decide)).trans hdl]
            refine zq_bald hc hH (by rfl) 4 (by decide +kernel) (vp_in_nI (by omega) (by decide)) ?_
            rw [nI_clamp (by omega)]
            refine zV1 (Z := Z) (Eq.trans (ui_o (by first | decide | omega)) (Eq.trans (ui_o (by first | decide | omega)) (Eq.trans (ui_o (by first | decide | omega)) (Eq.trans (ui_o (by first | decide | omega)) (Eq.trans (ui_k (by first | decide | omega)) (Eq.trans (hO3 79 1 (by omega)).1 (Eq.trans (ui_k (by first | decide | omega)) (Eq.trans (hO2 79 1 (by omega)).1 (ui_s))))))))) ?_
            refine z_rcs0 hc hH 1 (pc' := 111) (lv' := [(3, .int 4), (1, .int 1), (2, .ref 79), (0, .ref 50)]) (st' := [.int 1, .int 0, .ref 50]) (by rfl) ?_
            refine zq_call hc (z_cx_ok hH (by rfl)) (gm_endsB d' (by omega) (z_ui (z_ui (z_ui (z_ui (z_ui W3 79 3 1) 61 0 ((μ.1 61 0) + (-1000))) 61 1 ((μ.1 61 1) + (-1000))) 61 2 ((μ.1 61 2) + (-1000))) 61 3 ((μ.1 61 3) + 3000)) false true 1 e (by rw [ui_o (by first | decide | omega), ui_o (by first | decide | omega), ui_o (by first | decide | omega), ui_o (by first | decide | omega), ui_o (by first | decide | omega), (hO3 50 40 (by omega)).1, ui_o (by first | decide | omega), (hO2 50 40 (by omega)).1, ui_o (by first | decide | omega), (hO1 50 40 (by omega)).1, ui_o (by first | decide | omega), (hO0 50 40 (by omega)).1]; exact (z_zero_o (by decide)).trans hdl) hdl4 he) (by decide +kernel) (fun r9 μ9 hq => ?_)
            obtain ⟨hr9, hm9⟩ := hq
            rw [hr9, hm9]
            clear hr9 hm9
            show Z 1 114 [(3, .int 4), (1, .int 1), (2, .ref 79), (0, .ref 50)] [] (eMB (z_ui (z_ui (z_ui (z_ui (z_ui W3 79 3 1) 61 0 ((μ.1 61 0) + (-1000))) 61 1 ((μ.1 61 1) + (-1000))) 61 2 ((μ.1 61 2) + (-1000))) 61 3 ((μ.1 61 3) + 3000)) false true 1 e)
            exact hr 1 114 _ _ _ none (by decide +kernel) (by rfl) (by refine ⟨rfl, ?_⟩; unfold nM0001; exact SM_eMB (SM_ui (SM_ui (SM_ui (SM_ui (SM_ui (SM_tr (SM_ui (SM_tr (SM_ui (SM_tr (SM_ui (SM_tr (SM_rf _) hO0)) hO1)) hO2)) hO3)))))))
          · skip
            refine z_rcs hc hH 3 (pc' := 106) (lv' := [(3, .int 4), (1, .int 1), (2, .ref 79), (0, .ref 50)]) (st' := [.ref 50, .ref 79, .ref 50]) (μ' := z_ui (z_ui (z_ui (z_ui (z_ui W3 79 3 1) 61 0 ((μ.1 61 0) + (-1000))) 61 1 ((μ.1 61 1) + (-1000))) 61 2 ((μ.1 61 2) + (-1000))) 61 3 ((μ.1 61 3) + 3000)) (by rfl) ?_
            refine zq_gfi hc hH (by rfl) (ci := 6) (f := 40) (by rfl) (by decide +kernel) (by rfl) ?_
            refine zV1 (Z := Z) (Eq.trans (ui_o (by first | decide | omega)) (Eq.trans (ui_o (by first | decide | omega)) (Eq.trans (ui_o (by first | decide | omega)) (Eq.trans (ui_o (by first | decide | omega)) (Eq.trans (ui_o (by first | decide | omega)) (Eq.trans (hO3 50 40 (by omega)).1 (Eq.trans (ui_o (by first | decide | omega)) (Eq.trans (hO2 50 40 (by omega)).1 (Eq.trans (ui_o (by first | decide | omega)) (Eq.trans (hO1 50 40 (by omega)).1 (Eq.trans (ui_o (by first | decide | omega)) (hO0 50 40 (by omega)).1))))))))))) ?_
            rw [(z_zero_o (by decide)).trans hdl]
            refine zq_bald hc hH (by rfl) 4 (by decide +kernel) (vp_in_nI (by omega) (by decide)) ?_
            rw [nI_clamp (by omega)]
            refine zV1 (Z := Z) (Eq.trans (ui_o (by first | decide | omega)) (Eq.trans (ui_o (by first | decide | omega)) (Eq.trans (ui_o (by first | decide | omega)) (Eq.trans (ui_o (by first | decide | omega)) (Eq.trans (ui_k (by first | decide | omega)) (Eq.trans (hO3 79 2 (by omega)).1 (ui_s))))))) ?_
            refine z_rcs0 hc hH 1 (pc' := 111) (lv' := [(3, .int 4), (1, .int 1), (2, .ref 79), (0, .ref 50)]) (st' := [.int 1, .int 0, .ref 50]) (by rfl) ?_
            refine zq_call hc (z_cx_ok hH (by rfl)) (gm_endsB d' (by omega) (z_ui (z_ui (z_ui (z_ui (z_ui W3 79 3 1) 61 0 ((μ.1 61 0) + (-1000))) 61 1 ((μ.1 61 1) + (-1000))) 61 2 ((μ.1 61 2) + (-1000))) 61 3 ((μ.1 61 3) + 3000)) false true 2 e (by rw [ui_o (by first | decide | omega), ui_o (by first | decide | omega), ui_o (by first | decide | omega), ui_o (by first | decide | omega), ui_o (by first | decide | omega), (hO3 50 40 (by omega)).1, ui_o (by first | decide | omega), (hO2 50 40 (by omega)).1, ui_o (by first | decide | omega), (hO1 50 40 (by omega)).1, ui_o (by first | decide | omega), (hO0 50 40 (by omega)).1]; exact (z_zero_o (by decide)).trans hdl) hdl4 he) (by decide +kernel) (fun r9 μ9 hq => ?_)
            obtain ⟨hr9, hm9⟩ := hq
            rw [hr9, hm9]
            clear hr9 hm9
            show Z 1 114 [(3, .int 4), (1, .int 1), (2, .ref 79), (0, .ref 50)] [] (eMB (z_ui (z_ui (z_ui (z_ui (z_ui W3 79 3 1) 61 0 ((μ.1 61 0) + (-1000))) 61 1 ((μ.1 61 1) + (-1000))) 61 2 ((μ.1 61 2) + (-1000))) 61 3 ((μ.1 61 3) + 3000)) false true 2 e)
            exact hr 1 114 _ _ _ none (by decide +kernel) (by rfl) (by refine ⟨rfl, ?_⟩; unfold nM0001; exact SM_eMB (SM_ui (SM_ui (SM_ui (SM_ui (SM_ui (SM_tr (SM_ui (SM_tr (SM_ui (SM_tr (SM_ui (SM_tr (SM_rf _) hO0)) hO1)) hO2)) hO3)))))))
          · skip
            refine z_rcs hc hH 3 (pc' := 106) (lv' := [(3, .int 4), (1, .int 1), (2, .ref 79), (0, .ref 50)]) (st' := [.ref 50, .ref 79, .ref 50]) (μ' := z_ui (z_ui (z_ui (z_ui (z_ui W3 79 3 1) 61 0 ((μ.1 61 0) + (-1000))) 61 1 ((μ.1 61 1) + (-1000))) 61 2 ((μ.1 61 2) + (-1000))) 61 3 ((μ.1 61 3) + 3000)) (by rfl) ?_
            refine zq_gfi hc hH (by rfl) (ci := 6) (f := 40) (by rfl) (by decide +kernel) (by rfl) ?_
            refine zV1 (Z := Z) (Eq.trans (ui_o (by first | decide | omega)) (Eq.trans (ui_o (by first | decide | omega)) (Eq.trans (ui_o (by first | decide | omega)) (Eq.trans (ui_o (by first | decide | omega)) (Eq.trans (ui_o (by first | decide | omega)) (Eq.trans (hO3 50 40 (by omega)).1 (Eq.trans (ui_o (by first | decide | omega)) (Eq.trans (hO2 50 40 (by omega)).1 (Eq.trans (ui_o (by first | decide | omega)) (Eq.trans (hO1 50 40 (by omega)).1 (Eq.trans (ui_o (by first | decide | omega)) (hO0 50 40 (by omega)).1))))))))))) ?_
            rw [(z_zero_o (by decide)).trans hdl]
            refine zq_bald hc hH (by rfl) 4 (by decide +kernel) (vp_in_nI (by omega) (by decide)) ?_
            rw [nI_clamp (by omega)]
            refine zV1 (Z := Z) (Eq.trans (ui_o (by first | decide | omega)) (Eq.trans (ui_o (by first | decide | omega)) (Eq.trans (ui_o (by first | decide | omega)) (Eq.trans (ui_o (by first | decide | omega)) (ui_s))))) ?_
            refine z_rcs0 hc hH 1 (pc' := 111) (lv' := [(3, .int 4), (1, .int 1), (2, .ref 79), (0, .ref 50)]) (st' := [.int 1, .int 1, .ref 50]) (by rfl) ?_
            refine zq_call hc (z_cx_ok hH (by rfl)) (gm_endsB d' (by omega) (z_ui (z_ui (z_ui (z_ui (z_ui W3 79 3 1) 61 0 ((μ.1 61 0) + (-1000))) 61 1 ((μ.1 61 1) + (-1000))) 61 2 ((μ.1 61 2) + (-1000))) 61 3 ((μ.1 61 3) + 3000)) true true 3 e (by rw [ui_o (by first | decide | omega), ui_o (by first | decide | omega), ui_o (by first | decide | omega), ui_o (by first | decide | omega), ui_o (by first | decide | omega), (hO3 50 40 (by omega)).1, ui_o (by first | decide | omega), (hO2 50 40 (by omega)).1, ui_o (by first | decide | omega), (hO1 50 40 (by omega)).1, ui_o (by first | decide | omega), (hO0 50 40 (by omega)).1]; exact (z_zero_o (by decide)).trans hdl) hdl4 he) (by decide +kernel) (fun r9 μ9 hq => ?_)
            obtain ⟨hr9, hm9⟩ := hq
            rw [hr9, hm9]
            clear hr9 hm9
            show Z 1 114 [(3, .int 4), (1, .int 1), (2, .ref 79), (0, .ref 50)] [] (eMB (z_ui (z_ui (z_ui (z_ui (z_ui W3 79 3 1) 61 0 ((μ.1 61 0) + (-1000))) 61 1 ((μ.1 61 1) + (-1000))) 61 2 ((μ.1 61 2) + (-1000))) 61 3 ((μ.1 61 3) + 3000)) true true 3 e)
            exact hr 1 114 _ _ _ none (by decide +kernel) (by rfl) (by refine ⟨rfl, ?_⟩; unfold nM0001; exact SM_eMB (SM_ui (SM_ui (SM_ui (SM_ui (SM_ui (SM_tr (SM_ui (SM_tr (SM_ui (SM_tr (SM_ui (SM_tr (SM_rf _) hO0)) hO1)) hO2)) hO3)))))))
      · have h3 : (decide ((lg_cmp w2 0) = 0)) = false := decide_eq_false (cn_eq.mp h3)
        exact absurd (Eq.trans (Eq.symm (hb2)) h3) (by decide)
    · have h2 : (decide ((lg_cmp w1 0) = 0)) = false := decide_eq_false (cn_eq.mp h2)
      exact absurd (Eq.trans (Eq.symm (hb1)) h2) (by decide)
  · have h1 : (decide ((lg_cmp w0 0) = 0)) = false := decide_eq_false (cn_eq.mp h1)
    exact absurd (Eq.trans (Eq.symm (hb0)) h1) (by decide)
noncomputable def nM0010 (μ : zM) : zM := z_ui (z_ui (z_ui (z_ui (z_ui (z_ui (z_ui (z_ui (z_zero μ) 79 0 0) 79 1 0) 79 2 1) 79 3 0) 61 0 ((μ.1 61 0) + (-1000))) 61 1 ((μ.1 61 1) + (-1000))) 61 2 ((μ.1 61 2) + 3000)) 61 3 ((μ.1 61 3) + (-1000))
theorem gm_nobody0010 (d : Nat) (hd : 700 ≤ d) (μ : zM) (hH0 : a_H μ) (dl e : Nat) (hdl : μ.1 50 40 = nI dl) (hdl4 : dl < 4) (he : (dl + 1) % 4 = e) (w0 : Int64) (hw0 : ∀ M, SE μ M → a_H M → ∀ d, 699 ≤ d → z_C d mi_X7_waitsAt [.ref 50, .int 0] M (fun r W => r = some (.long w0) ∧ SMj M W ∧ a_H W)) (hb0 : decide (lg_cmp w0 0 = 0) = true) (w1 : Int64) (hw1 : ∀ M, SE μ M → a_H M → ∀ d, 699 ≤ d → z_C d mi_X7_waitsAt [.ref 50, .int 1] M (fun r W => r = some (.long w1) ∧ SMj M W ∧ a_H W)) (hb1 : decide (lg_cmp w1 0 = 0) = true) (w2 : Int64) (hw2 : ∀ M, SE μ M → a_H M → ∀ d, 699 ≤ d → z_C d mi_X7_waitsAt [.ref 50, .int 2] M (fun r W => r = some (.long w2) ∧ SMj M W ∧ a_H W)) (hb2 : decide (lg_cmp w2 0 = 0) = false) (w3 : Int64) (hw3 : ∀ M, SE μ M → a_H M → ∀ d, 699 ≤ d → z_C d mi_X7_waitsAt [.ref 50, .int 3] M (fun r W => r = some (.long w3) ∧ SMj M W ∧ a_H W)) (hb3 : decide (lg_cmp w3 0 = 0) = true) : z_C d mi_X7_nobodyWins [.ref 50] μ (fun r μ' => r = none ∧ SMj (eMB (nM0010 μ) (nbS false false true false dl) true dl e) μ') := by
  obtain ⟨d', rfl⟩ : ∃ d', d = d' + 1 := ⟨d - 1, by omega⟩
  intro Z hc hr
  refine ⟨rfl, ?_⟩
  have hH := zh_X7_nobodyWins
  refine z_rcs hc hH 9 (pc' := 17) (lv' := [(3, .int 0), (2, .ref 79), (1, .int 0), (0, .ref 50)]) (st' := [.int 0, .ref 50, .int 0, .ref 79]) (μ' := z_zero μ) (by rfl) ?_
  refine zq_call hc (z_cx_ok hH (by rfl)) (hw0 _ (SE_zr _) (a_H_zero hH0) d' (by omega)) (by decide +kernel) (fun r9 W0 hq => ?_)
  obtain ⟨rfl, hO0, hA0⟩ := hq
  show Z 1 20 [(3, .int 0), (2, .ref 79), (1, .int 0), (0, .ref 50)] [.long w0, .int 0, .ref 79] W0
  refine z_rcs hc hH 2 (pc' := 22) (lv' := [(3, .int 0), (2, .ref 79), (1, .int 0), (0, .ref 50)]) (st' := [.int (lg_cmp w0 0), .int 0, .ref 79]) (μ' := W0) (by rfl) ?_
  refine zq_if hc hH (by rfl) (tg := 29) (by rfl) (fun h1 => ?_) (fun h1 => ?_)
  · have h1 : (decide ((lg_cmp w0 0) = 0)) = true := decide_eq_true (cm_eq9.mp h1)
    refine z_rcs hc hH 1 (pc' := 30) (lv' := [(3, .int 0), (2, .ref 79), (1, .int 0), (0, .ref 50)]) (st' := [.int 0, .int 0, .ref 79]) (μ' := W0) (by rfl) ?_
    refine zq_bast hc hH (by rfl) 4 (by decide +kernel) (show vp_in (nI 0) 4 from vp_in_nI (by decide) (by decide)) (by decide) ?_
    rw [show (0 : Int32).toNatClampNeg = 0 from rfl]
    show Z 1 31 [(3, .int 0), (2, .ref 79), (1, .int 0), (0, .ref 50)] [] (z_ui W0 79 0 0)
    refine z_rcs hc hH 3 (pc' := 34) (lv' := [(3, .int 0), (2, .ref 79), (1, .int 0), (0, .ref 50)]) (st' := [.int 0, .ref 79, .int 0]) (μ' := z_ui W0 79 0 0) (by rfl) ?_
    refine zq_bald hc hH (by rfl) 4 (by decide +kernel) (show vp_in (nI 0) 4 from vp_in_nI (by decide) (by decide)) ?_
    rw [show (0 : Int32).toNatClampNeg = 0 from rfl]
    rw [ui_s]
    refine z_rcs hc hH 13 (pc' := 17) (lv' := [(3, .int 1), (1, .int 0), (2, .ref 79), (0, .ref 50)]) (st' := [.int 1, .ref 50, .int 1, .ref 79]) (μ' := z_ui W0 79 0 0) (by rfl) ?_
    refine zq_call hc (z_cx_ok hH (by rfl)) (hw1 _ (SE_ui (SE_sm (SE_zr _) hO0) (by omega)) (a_H_ui (r := 79) (k := 0) (hA0) ⟨by decide, by decide⟩) d' (by omega)) (by decide +kernel) (fun r9 W1 hq => ?_)
    obtain ⟨rfl, hO1, hA1⟩ := hq
    show Z 1 20 [(3, .int 1), (1, .int 0), (2, .ref 79), (0, .ref 50)] [.long w1, .int 1, .ref 79] W1
    refine z_rcs hc hH 2 (pc' := 22) (lv' := [(3, .int 1), (1, .int 0), (2, .ref 79), (0, .ref 50)]) (st' := [.int (lg_cmp w1 0), .int 1, .ref 79]) (μ' := W1) (by rfl) ?_
    refine zq_if hc hH (by rfl) (tg := 29) (by rfl) (fun h2 => ?_) (fun h2 => ?_)
    · have h2 : (decide ((lg_cmp w1 0) = 0)) = true := decide_eq_true (cm_eq9.mp h2)
      refine z_rcs hc hH 1 (pc' := 30) (lv' := [(3, .int 1), (1, .int 0), (2, .ref 79), (0, .ref 50)]) (st' := [.int 0, .int 1, .ref 79]) (μ' := W1) (by rfl) ?_
      refine zq_bast hc hH (by rfl) 4 (by decide +kernel) (show vp_in (nI 1) 4 from vp_in_nI (by decide) (by decide)) (by decide) ?_
      rw [show (1 : Int32).toNatClampNeg = 1 from rfl]
      show Z 1 31 [(3, .int 1), (1, .int 0), (2, .ref 79), (0, .ref 50)] [] (z_ui W1 79 1 0)
      refine z_rcs hc hH 3 (pc' := 34) (lv' := [(3, .int 1), (1, .int 0), (2, .ref 79), (0, .ref 50)]) (st' := [.int 1, .ref 79, .int 0]) (μ' := z_ui W1 79 1 0) (by rfl) ?_
      refine zq_bald hc hH (by rfl) 4 (by decide +kernel) (show vp_in (nI 1) 4 from vp_in_nI (by decide) (by decide)) ?_
      rw [show (1 : Int32).toNatClampNeg = 1 from rfl]
      rw [ui_s]
      refine z_rcs hc hH 13 (pc' := 17) (lv' := [(3, .int 2), (1, .int 0), (2, .ref 79), (0, .ref 50)]) (st' := [.int 2, .ref 50, .int 2, .ref 79]) (μ' := z_ui W1 79 1 0) (by rfl) ?_
      refine zq_call hc (z_cx_ok hH (by rfl)) (hw2 _ (SE_ui (SE_sm (SE_ui (SE_sm (SE_zr _) hO0) (by omega)) hO1) (by omega)) (a_H_ui (r := 79) (k := 1) (hA1) ⟨by decide, by decide⟩) d' (by omega)) (by decide +kernel) (fun r9 W2 hq => ?_)
      obtain ⟨rfl, hO2, hA2⟩ := hq
      show Z 1 20 [(3, .int 2), (1, .int 0), (2, .ref 79), (0, .ref 50)] [.long w2, .int 2, .ref 79] W2
      refine z_rcs hc hH 2 (pc' := 22) (lv' := [(3, .int 2), (1, .int 0), (2, .ref 79), (0, .ref 50)]) (st' := [.int (lg_cmp w2 0), .int 2, .ref 79]) (μ' := W2) (by rfl) ?_
      refine zq_if hc hH (by rfl) (tg := 29) (by rfl) (fun h3 => ?_) (fun h3 => ?_)
      · have h3 : (decide ((lg_cmp w2 0) = 0)) = true := decide_eq_true (cm_eq9.mp h3)
        exact absurd (Eq.trans (Eq.symm (hb2)) h3) (by decide)
      · have h3 : (decide ((lg_cmp w2 0) = 0)) = false := decide_eq_false (cn_eq.mp h3)
        refine z_rcs hc hH 2 (pc' := 30) (lv' := [(3, .int 2), (1, .int 0), (2, .ref 79), (0, .ref 50)]) (st' := [.int 1, .int 2, .ref 79]) (μ' := W2) (by rfl) ?_
        refine zq_bast hc hH (by rfl) 4 (by decide +kernel) (show vp_in (nI 2) 4 from vp_in_nI (by decide) (by decide)) (by decide) ?_
        rw [show (2 : Int32).toNatClampNeg = 2 from rfl]
        show Z 1 31 [(3, .int 2), (1, .int 0), (2, .ref 79), (0, .ref 50)] [] (z_ui W2 79 2 1)
        refine z_rcs hc hH 3 (pc' := 34) (lv' := [(3, .int 2), (1, .int 0), (2, .ref 79), (0, .ref 50)]) (st' := [.int 2, .ref 79, .int 0]) (μ' := z_ui W2 79 2 1) (by rfl) ?_
        refine zq_bald hc hH (by rfl) 4 (by decide +kernel) (show vp_in (nI 2) 4 from vp_in_nI (by decide) (by decide)) ?_
        rw [show (2 : Int32).toNatClampNeg = 2 from rfl]
        rw [ui_s]
        refine z_rcs hc hH 14 (pc' := 17) (lv' := [(3, .int 3), (1, .int 1), (2, .ref 79), (0, .ref 50)]) (st' := [.int 3, .ref 50, .int 3, .ref 79]) (μ' := z_ui W2 79 2 1) (by rfl) ?_
        refine zq_call hc (z_cx_ok hH (by rfl)) (hw3 _ (SE_ui (SE_sm (SE_ui (SE_sm (SE_ui (SE_sm (SE_zr _) hO0) (by omega)) hO1) (by omega)) hO2) (by omega)) (a_H_ui (r := 79) (k := 2) (hA2) ⟨by decide, by decide⟩) d' (by omega)) (by decide +kernel) (fun r9 W3 hq => ?_)
        obtain ⟨rfl, hO3, hA3⟩ := hq
        show Z 1 20 [(3, .int 3), (1, .int 1), (2, .ref 79), (0, .ref 50)] [.long w3, .int 3, .ref 79] W3
        refine z_rcs hc hH 2 (pc' := 22) (lv' := [(3, .int 3), (1, .int 1), (2, .ref 79), (0, .ref 50)]) (st' := [.int (lg_cmp w3 0), .int 3, .ref 79]) (μ' := W3) (by rfl) ?_
        refine zq_if hc hH (by rfl) (tg := 29) (by rfl) (fun h4 => ?_) (fun h4 => ?_)
        · have h4 : (decide ((lg_cmp w3 0) = 0)) = true := decide_eq_true (cm_eq9.mp h4)
          refine z_rcs hc hH 1 (pc' := 30) (lv' := [(3, .int 3), (1, .int 1), (2, .ref 79), (0, .ref 50)]) (st' := [.int 0, .int 3, .ref 79]) (μ' := W3) (by rfl) ?_
          refine zq_bast hc hH (by rfl) 4 (by decide +kernel) (show vp_in (nI 3) 4 from vp_in_nI (by decide) (by decide)) (by decide) ?_
          rw [show (3 : Int32).toNatClampNeg = 3 from rfl]
          show Z 1 31 [(3, .int 3), (1, .int 1), (2, .ref 79), (0, .ref 50)] [] (z_ui W3 79 3 0)
          refine z_rcs hc hH 3 (pc' := 34) (lv' := [(3, .int 3), (1, .int 1), (2, .ref 79), (0, .ref 50)]) (st' := [.int 3, .ref 79, .int 1]) (μ' := z_ui W3 79 3 0) (by rfl) ?_
          refine zq_bald hc hH (by rfl) 4 (by decide +kernel) (show vp_in (nI 3) 4 from vp_in_nI (by decide) (by decide)) ?_
          rw [show (3 : Int32).toNatClampNeg = 3 from rfl]
          rw [ui_s]
          refine z_rcs hc hH 20 (pc' := 68) (lv' := [(3, .int 0), (1, .int 1), (2, .ref 79), (0, .ref 50)]) (st' := [.ref 50]) (μ' := z_ui W3 79 3 0) (by rfl) ?_
          refine zq_gfr hc hH (by rfl) (ci := 6) (f := 29) (q := 61) (by rfl) (by decide +kernel) (by rfl) (by decide +kernel) ?_
          refine z_rcs hc hH 2 (pc' := 73) (lv' := [(3, .int 0), (1, .int 1), (2, .ref 79), (0, .ref 50)]) (st' := [.int 0, .ref 61, .int 0, .ref 61]) (μ' := z_ui W3 79 3 0) (by rfl) ?_
          refine zq_iald hc hH (by rfl) 4 (oka_i (by decide +kernel)) (show vp_in (nI 0) 4 from vp_in_nI (by decide) (by decide)) ?_
          rw [show (0 : Int32).toNatClampNeg = 0 from rfl]
          refine zV1 (Z := Z) (Eq.trans (ui_o (by first | decide | omega)) (Eq.trans (hO3 61 0 (by omega)).1 (Eq.trans (ui_o (by first | decide | omega)) (Eq.trans (hO2 61 0 (by omega)).1 (Eq.trans (ui_o (by first | decide | omega)) (Eq.trans (hO1 61 0 (by omega)).1 (Eq.trans (ui_o (by first | decide | omega)) (hO0 61 0 (by omega)).1))))))) ?_
          rw [z_zero_o (by decide)]
          refine z_rcs hc hH 2 (pc' := 76) (lv' := [(3, .int 0), (1, .int 1), (2, .ref 79), (0, .ref 50)]) (st' := [.int 0, .ref 79, .int (μ.1 61 0), .int 0, .ref 61]) (μ' := z_ui W3 79 3 0) (by rfl) ?_
          refine zq_bald hc hH (by rfl) 4 (by decide +kernel) (show vp_in (nI 0) 4 from vp_in_nI (by decide) (by decide)) ?_
          rw [show (0 : Int32).toNatClampNeg = 0 from rfl]
          refine zV1 (Z := Z) (Eq.trans (ui_k (by first | decide | omega)) (Eq.trans (hO3 79 0 (by omega)).1 (Eq.trans (ui_k (by first | decide | omega)) (Eq.trans (hO2 79 0 (by omega)).1 (Eq.trans (ui_k (by first | decide | omega)) (Eq.trans (hO1 79 0 (by omega)).1 (ui_s))))))) ?_
          refine z_rcs hc hH 7 (pc' := 96) (lv' := [(3, .int 0), (1, .int 1), (2, .ref 79), (0, .ref 50)]) (st' := [.int ((μ.1 61 0) + (-1000)), .int 0, .ref 61]) (μ' := z_ui W3 79 3 0) (by rfl) ?_
          refine zq_iast hc hH (by rfl) 4 (oka_i (by decide +kernel)).2 (show vp_in (nI 0) 4 from vp_in_nI (by decide) (by decide)) ?_
          rw [show (0 : Int32).toNatClampNeg = 0 from rfl]
          show Z 1 97 [(3, .int 0), (1, .int 1), (2, .ref 79), (0, .ref 50)] [] (z_ui (z_ui W3 79 3 0) 61 0 ((μ.1 61 0) + (-1000)))
          refine z_rcs0 hc hH 6 (pc' := 68) (lv' := [(3, .int 1), (1, .int 1), (2, .ref 79), (0, .ref 50)]) (st' := [.ref 50]) (by rfl) ?_
          refine zq_gfr hc hH (by rfl) (ci := 6) (f := 29) (q := 61) (by rfl) (by decide +kernel) (by rfl) (by decide +kernel) ?_
          refine z_rcs0 hc hH 2 (pc' := 73) (lv' := [(3, .int 1), (1, .int 1), (2, .ref 79), (0, .ref 50)]) (st' := [.int 1, .ref 61, .int 1, .ref 61]) (by rfl) ?_
          refine zq_iald hc hH (by rfl) 4 (oka_i (by decide +kernel)) (show vp_in (nI 1) 4 from vp_in_nI (by decide) (by decide)) ?_
          rw [show (1 : Int32).toNatClampNeg = 1 from rfl]
          refine zV1 (Z := Z) (Eq.trans (ui_k (by first | decide | omega)) (Eq.trans (ui_o (by first | decide | omega)) (Eq.trans (hO3 61 1 (by omega)).1 (Eq.trans (ui_o (by first | decide | omega)) (Eq.trans (hO2 61 1 (by omega)).1 (Eq.trans (ui_o (by first | decide | omega)) (Eq.trans (hO1 61 1 (by omega)).1 (Eq.trans (ui_o (by first | decide | omega)) (hO0 61 1 (by omega)).1)))))))) ?_
          rw [z_zero_o (by decide)]
          refine z_rcs0 hc hH 2 (pc' := 76) (lv' := [(3, .int 1), (1, .int 1), (2, .ref 79), (0, .ref 50)]) (st' := [.int 1, .ref 79, .int (μ.1 61 1), .int 1, .ref 61]) (by rfl) ?_
          refine zq_bald hc hH (by rfl) 4 (by decide +kernel) (show vp_in (nI 1) 4 from vp_in_nI (by decide) (by decide)) ?_
          rw [show (1 : Int32).toNatClampNeg = 1 from rfl]
          refine zV1 (Z := Z) (Eq.trans (ui_o (by first | decide | omega)) (Eq.trans (ui_k (by first | decide | omega)) (Eq.trans (hO3 79 1 (by omega)).1 (Eq.trans (ui_k (by first | decide | omega)) (Eq.trans (hO2 79 1 (by omega)).1 (ui_s)))))) ?_
          refine z_rcs0 hc hH 7 (pc' := 96) (lv' := [(3, .int 1), (1, .int 1), (2, .ref 79), (0, .ref 50)]) (st' := [.int ((μ.1 61 1) + (-1000)), .int 1, .ref 61]) (by rfl) ?_
          refine zq_iast hc hH (by rfl) 4 (oka_i (by decide +kernel)).2 (show vp_in (nI 1) 4 from vp_in_nI (by decide) (by decide)) ?_
          rw [show (1 : Int32).toNatClampNeg = 1 from rfl]
          show Z 1 97 [(3, .int 1), (1, .int 1), (2, .ref 79), (0, .ref 50)] [] (z_ui (z_ui (z_ui W3 79 3 0) 61 0 ((μ.1 61 0) + (-1000))) 61 1 ((μ.1 61 1) + (-1000)))
          refine z_rcs0 hc hH 6 (pc' := 68) (lv' := [(3, .int 2), (1, .int 1), (2, .ref 79), (0, .ref 50)]) (st' := [.ref 50]) (by rfl) ?_
          refine zq_gfr hc hH (by rfl) (ci := 6) (f := 29) (q := 61) (by rfl) (by decide +kernel) (by rfl) (by decide +kernel) ?_
          refine z_rcs0 hc hH 2 (pc' := 73) (lv' := [(3, .int 2), (1, .int 1), (2, .ref 79), (0, .ref 50)]) (st' := [.int 2, .ref 61, .int 2, .ref 61]) (by rfl) ?_
          refine zq_iald hc hH (by rfl) 4 (oka_i (by decide +kernel)) (show vp_in (nI 2) 4 from vp_in_nI (by decide) (by decide)) ?_
          rw [show (2 : Int32).toNatClampNeg = 2 from rfl]
          refine zV1 (Z := Z) (Eq.trans (ui_k (by first | decide | omega)) (Eq.trans (ui_k (by first | decide | omega)) (Eq.trans (ui_o (by first | decide | omega)) (Eq.trans (hO3 61 2 (by omega)).1 (Eq.trans (ui_o (by first | decide | omega)) (Eq.trans (hO2 61 2 (by omega)).1 (Eq.trans (ui_o (by first | decide | omega)) (Eq.trans (hO1 61 2 (by omega)).1 (Eq.trans (ui_o (by first | decide | omega)) (hO0 61 2 (by omega)).1))))))))) ?_
          rw [z_zero_o (by decide)]
          refine z_rcs0 hc hH 2 (pc' := 76) (lv' := [(3, .int 2), (1, .int 1), (2, .ref 79), (0, .ref 50)]) (st' := [.int 2, .ref 79, .int (μ.1 61 2), .int 2, .ref 61]) (by rfl) ?_
          refine zq_bald hc hH (by rfl) 4 (by decide +kernel) (show vp_in (nI 2) 4 from vp_in_nI (by decide) (by decide)) ?_
          rw [show (2 : Int32).toNatClampNeg = 2 from rfl]
          refine zV1 (Z := Z) (Eq.trans (ui_o (by first | decide | omega)) (Eq.trans (ui_o (by first | decide | omega)) (Eq.trans (ui_k (by first | decide | omega)) (Eq.trans (hO3 79 2 (by omega)).1 (ui_s))))) ?_
          refine z_rcs0 hc hH 6 (pc' := 96) (lv' := [(3, .int 2), (1, .int 1), (2, .ref 79), (0, .ref 50)]) (st' := [.int ((μ.1 61 2) + 3000), .int 2, .ref 61]) (by rfl) ?_
          refine zq_iast hc hH (by rfl) 4 (oka_i (by decide +kernel)).2 (show vp_in (nI 2) 4 from vp_in_nI (by decide) (by decide)) ?_
          rw [show (2 : Int32).toNatClampNeg = 2 from rfl]
          show Z 1 97 [(3, .int 2), (1, .int 1), (2, .ref 79), (0, .ref 50)] [] (z_ui (z_ui (z_ui (z_ui W3 79 3 0) 61 0 ((μ.1 61 0) + (-1000))) 61 1 ((μ.1 61 1) + (-1000))) 61 2 ((μ.1 61 2) + 3000))
          refine z_rcs0 hc hH 6 (pc' := 68) (lv' := [(3, .int 3), (1, .int 1), (2, .ref 79), (0, .ref 50)]) (st' := [.ref 50]) (by rfl) ?_
          refine zq_gfr hc hH (by rfl) (ci := 6) (f := 29) (q := 61) (by rfl) (by decide +kernel) (by rfl) (by decide +kernel) ?_
          refine z_rcs0 hc hH 2 (pc' := 73) (lv' := [(3, .int 3), (1, .int 1), (2, .ref 79), (0, .ref 50)]) (st' := [.int 3, .ref 61, .int 3, .ref 61]) (by rfl) ?_
          refine zq_iald hc hH (by rfl) 4 (oka_i (by decide +kernel)) (show vp_in (nI 3) 4 from vp_in_nI (by decide) (by decide)) ?_
          rw [show (3 : Int32).toNatClampNeg = 3 from rfl]
          refine zV1 (Z := Z) (Eq.trans (ui_k (by first | decide | omega)) (Eq.trans (ui_k (by first | decide | omega)) (Eq.trans (ui_k (by first | decide | omega)) (Eq.trans (ui_o (by first | decide | omega)) (Eq.trans (hO3 61 3 (by omega)).1 (Eq.trans (ui_o (by first | decide | omega)) (Eq.trans (hO2 61 3 (by omega)).1 (Eq.trans (ui_o (by first | decide | omega)) (Eq.trans (hO1 61 3 (by omega)).1 (Eq.trans (ui_o (by first | decide | omega)) (hO0 61 3 (by omega)).1)))))))))) ?_
          rw [z_zero_o (by decide)]
          refine z_rcs0 hc hH 2 (pc' := 76) (lv' := [(3, .int 3), (1, .int 1), (2, .ref 79), (0, .ref 50)]) (st' := [.int 3, .ref 79, .int (μ.1 61 3), .int 3, .ref 61]) (by rfl) ?_
          refine zq_bald hc hH (by rfl) 4 (by decide +kernel) (show vp_in (nI 3) 4 from vp_in_nI (by decide) (by decide)) ?_
          rw [show (3 : Int32).toNatClampNeg = 3 from rfl]
          refine zV1 (Z := Z) (Eq.trans (ui_o (by first | decide | omega)) (Eq.trans (ui_o (by first | decide | omega)) (Eq.trans (ui_o (by first | decide | omega)) (ui_s)))) ?_
          refine z_rcs0 hc hH 7 (pc' := 96) (lv' := [(3, .int 3), (1, .int 1), (2, .ref 79), (0, .ref 50)]) (st' := [.int ((μ.1 61 3) + (-1000)), .int 3, .ref 61]) (by rfl) ?_
          refine zq_iast hc hH (by rfl) 4 (oka_i (by decide +kernel)).2 (show vp_in (nI 3) 4 from vp_in_nI (by decide) (by decide)) ?_
          rw [show (3 : Int32).toNatClampNeg = 3 from rfl]
          show Z 1 97 [(3, .int 3), (1, .int 1), (2, .ref 79), (0, .ref 50)] [] (z_ui (z_ui (z_ui (z_ui (z_ui W3 79 3 0) 61 0 ((μ.1 61 0) + (-1000))) 61 1 ((μ.1 61 1) + (-1000))) 61 2 ((μ.1 61 2) + 3000)) 61 3 ((μ.1 61 3) + (-1000)))
          refine z_rcs0 hc hH 5 (pc' := 103) (lv' := [(3, .int 4), (1, .int 1), (2, .ref 79), (0, .ref 50)]) (st' := []) (by rfl) ?_
          obtain rfl | rfl | rfl | rfl : dl = 0 ∨ dl = 1 ∨ dl = 2 ∨ dl = 3 := by omega
          · skip
            refine z_rcs0 hc hH 3 (pc' := 106) (lv' := [(3, .int 4), (1, .int 1), (2, .ref 79), (0, .ref 50)]) (st' := [.ref 50, .ref 79, .ref 50]) (by rfl) ?_
            refine zq_gfi hc hH (by rfl) (ci := 6) (f := 40) (by rfl) (by decide +kernel) (by rfl) ?_
            refine zV1 (Z := Z) (Eq.trans (ui_o (by first | decide | omega)) (Eq.trans (ui_o (by first | decide | omega)) (Eq.trans (ui_o (by first | decide | omega)) (Eq.trans (ui_o (by first | decide | omega)) (Eq.trans (ui_o (by first | decide | omega)) (Eq.trans (hO3 50 40 (by omega)).1 (Eq.trans (ui_o (by first | decide | omega)) (Eq.trans (hO2 50 40 (by omega)).1 (Eq.trans (ui_o (by first | decide | omega)) (Eq.trans (hO1 50 40 (by omega)).1 (Eq.trans (ui_o (by first | decide | omega)) (hO0 50 40 (by omega)).1))))))))))) ?_
            rw [(z_zero_o (by decide)).trans hdl]
            refine zq_bald hc hH (by rfl) 4 (by decide +kernel) (vp_in_nI (by omega) (by decide)) ?_
            rw [nI_clamp (by omega)]
            refine zV1 (Z := Z) (Eq.trans (ui_o (by first | decide | omega)) (Eq.trans (ui_o (by first | decide | omega)) (Eq.trans (ui_o (by first | decide | omega)) (Eq.trans (ui_o (by first | decide | omega)) (Eq.trans (ui_k (by first | decide | omega)) (Eq.trans (hO3 79 0 (by omega)).1 (Eq.trans (ui_k (by first | decide | omega)) (Eq.trans (hO2 79 0 (by omega)).1 (Eq.trans (ui_k (by first | decide | omega)) (Eq.trans (hO1 79 0 (by omega)).1 (ui_s))))))))))) ?_
            refine z_rcs0 hc hH 1 (pc' := 111) (lv' := [(3, .int 4), (1, .int 1), (2, .ref 79), (0, .ref 50)]) (st' := [.int 1, .int 0, .ref 50]) (by rfl) ?_
            refine zq_call hc (z_cx_ok hH (by rfl)) (gm_endsB d' (by omega) (z_ui (z_ui (z_ui (z_ui (z_ui W3 79 3 0) 61 0 ((μ.1 61 0) + (-1000))) 61 1 ((μ.1 61 1) + (-1000))) 61 2 ((μ.1 61 2) + 3000)) 61 3 ((μ.1 61 3) + (-1000))) false true 0 e (by rw [ui_o (by first | decide | omega), ui_o (by first | decide | omega), ui_o (by first | decide | omega), ui_o (by first | decide | omega), ui_o (by first | decide | omega), (hO3 50 40 (by omega)).1, ui_o (by first | decide | omega), (hO2 50 40 (by omega)).1, ui_o (by first | decide | omega), (hO1 50 40 (by omega)).1, ui_o (by first | decide | omega), (hO0 50 40 (by omega)).1]; exact (z_zero_o (by decide)).trans hdl) hdl4 he) (by decide +kernel) (fun r9 μ9 hq => ?_)
            obtain ⟨hr9, hm9⟩ := hq
            rw [hr9, hm9]
            clear hr9 hm9
            show Z 1 114 [(3, .int 4), (1, .int 1), (2, .ref 79), (0, .ref 50)] [] (eMB (z_ui (z_ui (z_ui (z_ui (z_ui W3 79 3 0) 61 0 ((μ.1 61 0) + (-1000))) 61 1 ((μ.1 61 1) + (-1000))) 61 2 ((μ.1 61 2) + 3000)) 61 3 ((μ.1 61 3) + (-1000))) false true 0 e)
            exact hr 1 114 _ _ _ none (by decide +kernel) (by rfl) (by refine ⟨rfl, ?_⟩; unfold nM0010; exact SM_eMB (SM_ui (SM_ui (SM_ui (SM_ui (SM_ui (SM_tr (SM_ui (SM_tr (SM_ui (SM_tr (SM_ui (SM_tr (SM_rf _) hO0)) hO1)) hO2)) hO3)))))))
          · skip
            refine z_rcs hc hH 3 (pc' := 106) (lv' := [(3, .int 4), (1, .int 1), (2, .ref 79), (0, .ref 50)]) (st' := [.ref 50, .ref 79, .ref 50]) (μ' := z_ui (z_ui (z_ui (z_ui (z_ui W3 79 3 0) 61 0 ((μ.1 61 0) + (-1000))) 61 1 ((μ.1 61 1) + (-1000))) 61 2 ((μ.1 61 2) + 3000)) 61 3 ((μ.1 61 3) + (-1000))) (by rfl) ?_
            refine zq_gfi hc hH (by rfl) (ci := 6) (f := 40) (by rfl) (by decide +kernel) (by rfl) ?_
            refine zV1 (Z := Z) (Eq.trans (ui_o (by first | decide | omega)) (Eq.trans (ui_o (by first | decide | omega)) (Eq.trans (ui_o (by first | decide | omega)) (Eq.trans (ui_o (by first | decide | omega)) (Eq.trans (ui_o (by first | decide | omega)) (Eq.trans (hO3 50 40 (by omega)).1 (Eq.trans (ui_o (by first | decide | omega)) (Eq.trans (hO2 50 40 (by omega)).1 (Eq.trans (ui_o (by first | decide | omega)) (Eq.trans (hO1 50 40 (by omega)).1 (Eq.trans (ui_o (by first | decide | omega)) (hO0 50 40 (by omega)).1))))))))))) ?_
            rw [(z_zero_o (by decide)).trans hdl]
            refine zq_bald hc hH (by rfl) 4 (by decide +kernel) (vp_in_nI (by omega) (by decide)) ?_
            rw [nI_clamp (by omega)]
            refine zV1 (Z := Z) (Eq.trans (ui_o (by first | decide | omega)) (Eq.trans (ui_o (by first | decide | omega)) (Eq.trans (ui_o (by first | decide | omega)) (Eq.trans (ui_o (by first | decide | omega)) (Eq.trans (ui_k (by first | decide | omega)) (Eq.trans (hO3 79 1 (by omega)).1 (Eq.trans (ui_k (by first | decide | omega)) (Eq.trans (hO2 79 1 (by omega)).1 (ui_s))))))))) ?_
            refine z_rcs0 hc hH 1 (pc' := 111) (lv' := [(3, .int 4), (1, .int 1), (2, .ref 79), (0, .ref 50)]) (st' := [.int 1, .int 0, .ref 50]) (by rfl) ?_
            refine zq_call hc (z_cx_ok hH (by rfl)) (gm_endsB d' (by omega) (z_ui (z_ui (z_ui (z_ui (z_ui W3 79 3 0) 61 0 ((μ.1 61 0) + (-1000))) 61 1 ((μ.1 61 1) + (-1000))) 61 2 ((μ.1 61 2) + 3000)) 61 3 ((μ.1 61 3) + (-1000))) false true 1 e (by rw [ui_o (by first | decide | omega), ui_o (by first | decide | omega), ui_o (by first | decide | omega), ui_o (by first | decide | omega), ui_o (by first | decide | omega), (hO3 50 40 (by omega)).1, ui_o (by first | decide | omega), (hO2 50 40 (by omega)).1, ui_o (by first | decide | omega), (hO1 50 40 (by omega)).1, ui_o (by first | decide | omega), (hO0 50 40 (by omega)).1]; exact (z_zero_o (by decide)).trans hdl) hdl4 he) (by decide +kernel) (fun r9 μ9 hq => ?_)
            obtain ⟨hr9, hm9⟩ := hq
            rw [hr9, hm9]
            clear hr9 hm9
            show Z 1 114 [(3, .int 4), (1, .int 1), (2, .ref 79), (0, .ref 50)] [] (eMB (z_ui (z_ui (z_ui (z_ui (z_ui W3 79 3 0) 61 0 ((μ.1 61 0) + (-1000))) 61 1 ((μ.1 61 1) + (-1000))) 61 2 ((μ.1 61 2) + 3000)) 61 3 ((μ.1 61 3) + (-1000))) false true 1 e)
            exact hr 1 114 _ _ _ none (by decide +kernel) (by rfl) (by refine ⟨rfl, ?_⟩; unfold nM0010; exact SM_eMB (SM_ui (SM_ui (SM_ui (SM_ui (SM_ui (SM_tr (SM_ui (SM_tr (SM_ui (SM_tr (SM_ui (SM_tr (SM_rf _) hO0)) hO1)) hO2)) hO3)))))))
          · skip
            refine z_rcs hc hH 3 (pc' := 106) (lv' := [(3, .int 4), (1, .int 1), (2, .ref 79), (0, .ref 50)]) (st' := [.ref 50, .ref 79, .ref 50]) (μ' := z_ui (z_ui (z_ui (z_ui (z_ui W3 79 3 0) 61 0 ((μ.1 61 0) + (-1000))) 61 1 ((μ.1 61 1) + (-1000))) 61 2 ((μ.1 61 2) + 3000)) 61 3 ((μ.1 61 3) + (-1000))) (by rfl) ?_
            refine zq_gfi hc hH (by rfl) (ci := 6) (f := 40) (by rfl) (by decide +kernel) (by rfl) ?_
            refine zV1 (Z := Z) (Eq.trans (ui_o (by first | decide | omega)) (Eq.trans (ui_o (by first | decide | omega)) (Eq.trans (ui_o (by first | decide | omega)) (Eq.trans (ui_o (by first | decide | omega)) (Eq.trans (ui_o (by first | decide | omega)) (Eq.trans (hO3 50 40 (by omega)).1 (Eq.trans (ui_o (by first | decide | omega)) (Eq.trans (hO2 50 40 (by omega)).1 (Eq.trans (ui_o (by first | decide | omega)) (Eq.trans (hO1 50 40 (by omega)).1 (Eq.trans (ui_o (by first | decide | omega)) (hO0 50 40 (by omega)).1))))))))))) ?_
            rw [(z_zero_o (by decide)).trans hdl]
            refine zq_bald hc hH (by rfl) 4 (by decide +kernel) (vp_in_nI (by omega) (by decide)) ?_
            rw [nI_clamp (by omega)]
            refine zV1 (Z := Z) (Eq.trans (ui_o (by first | decide | omega)) (Eq.trans (ui_o (by first | decide | omega)) (Eq.trans (ui_o (by first | decide | omega)) (Eq.trans (ui_o (by first | decide | omega)) (Eq.trans (ui_k (by first | decide | omega)) (Eq.trans (hO3 79 2 (by omega)).1 (ui_s))))))) ?_
            refine z_rcs0 hc hH 1 (pc' := 111) (lv' := [(3, .int 4), (1, .int 1), (2, .ref 79), (0, .ref 50)]) (st' := [.int 1, .int 1, .ref 50]) (by rfl) ?_
            refine zq_call hc (z_cx_ok hH (by rfl)) (gm_endsB d' (by omega) (z_ui (z_ui (z_ui (z_ui (z_ui W3 79 3 0) 61 0 ((μ.1 61 0) + (-1000))) 61 1 ((μ.1 61 1) + (-1000))) 61 2 ((μ.1 61 2) + 3000)) 61 3 ((μ.1 61 3) + (-1000))) true true 2 e (by rw [ui_o (by first | decide | omega), ui_o (by first | decide | omega), ui_o (by first | decide | omega), ui_o (by first | decide | omega), ui_o (by first | decide | omega), (hO3 50 40 (by omega)).1, ui_o (by first | decide | omega), (hO2 50 40 (by omega)).1, ui_o (by first | decide | omega), (hO1 50 40 (by omega)).1, ui_o (by first | decide | omega), (hO0 50 40 (by omega)).1]; exact (z_zero_o (by decide)).trans hdl) hdl4 he) (by decide +kernel) (fun r9 μ9 hq => ?_)
            obtain ⟨hr9, hm9⟩ := hq
            rw [hr9, hm9]
            clear hr9 hm9
            show Z 1 114 [(3, .int 4), (1, .int 1), (2, .ref 79), (0, .ref 50)] [] (eMB (z_ui (z_ui (z_ui (z_ui (z_ui W3 79 3 0) 61 0 ((μ.1 61 0) + (-1000))) 61 1 ((μ.1 61 1) + (-1000))) 61 2 ((μ.1 61 2) + 3000)) 61 3 ((μ.1 61 3) + (-1000))) true true 2 e)
            exact hr 1 114 _ _ _ none (by decide +kernel) (by rfl) (by refine ⟨rfl, ?_⟩; unfold nM0010; exact SM_eMB (SM_ui (SM_ui (SM_ui (SM_ui (SM_ui (SM_tr (SM_ui (SM_tr (SM_ui (SM_tr (SM_ui (SM_tr (SM_rf _) hO0)) hO1)) hO2)) hO3)))))))
          · skip
            refine z_rcs hc hH 3 (pc' := 106) (lv' := [(3, .int 4), (1, .int 1), (2, .ref 79), (0, .ref 50)]) (st' := [.ref 50, .ref 79, .ref 50]) (μ' := z_ui (z_ui (z_ui (z_ui (z_ui W3 79 3 0) 61 0 ((μ.1 61 0) + (-1000))) 61 1 ((μ.1 61 1) + (-1000))) 61 2 ((μ.1 61 2) + 3000)) 61 3 ((μ.1 61 3) + (-1000))) (by rfl) ?_
            refine zq_gfi hc hH (by rfl) (ci := 6) (f := 40) (by rfl) (by decide +kernel) (by rfl) ?_
            refine zV1 (Z := Z) (Eq.trans (ui_o (by first | decide | omega)) (Eq.trans (ui_o (by first | decide | omega)) (Eq.trans (ui_o (by first | decide | omega)) (Eq.trans (ui_o (by first | decide | omega)) (Eq.trans (ui_o (by first | decide | omega)) (Eq.trans (hO3 50 40 (by omega)).1 (Eq.trans (ui_o (by first | decide | omega)) (Eq.trans (hO2 50 40 (by omega)).1 (Eq.trans (ui_o (by first | decide | omega)) (Eq.trans (hO1 50 40 (by omega)).1 (Eq.trans (ui_o (by first | decide | omega)) (hO0 50 40 (by omega)).1))))))))))) ?_
            rw [(z_zero_o (by decide)).trans hdl]
            refine zq_bald hc hH (by rfl) 4 (by decide +kernel) (vp_in_nI (by omega) (by decide)) ?_
            rw [nI_clamp (by omega)]
            refine zV1 (Z := Z) (Eq.trans (ui_o (by first | decide | omega)) (Eq.trans (ui_o (by first | decide | omega)) (Eq.trans (ui_o (by first | decide | omega)) (Eq.trans (ui_o (by first | decide | omega)) (ui_s))))) ?_
            refine z_rcs0 hc hH 1 (pc' := 111) (lv' := [(3, .int 4), (1, .int 1), (2, .ref 79), (0, .ref 50)]) (st' := [.int 1, .int 0, .ref 50]) (by rfl) ?_
            refine zq_call hc (z_cx_ok hH (by rfl)) (gm_endsB d' (by omega) (z_ui (z_ui (z_ui (z_ui (z_ui W3 79 3 0) 61 0 ((μ.1 61 0) + (-1000))) 61 1 ((μ.1 61 1) + (-1000))) 61 2 ((μ.1 61 2) + 3000)) 61 3 ((μ.1 61 3) + (-1000))) false true 3 e (by rw [ui_o (by first | decide | omega), ui_o (by first | decide | omega), ui_o (by first | decide | omega), ui_o (by first | decide | omega), ui_o (by first | decide | omega), (hO3 50 40 (by omega)).1, ui_o (by first | decide | omega), (hO2 50 40 (by omega)).1, ui_o (by first | decide | omega), (hO1 50 40 (by omega)).1, ui_o (by first | decide | omega), (hO0 50 40 (by omega)).1]; exact (z_zero_o (by decide)).trans hdl) hdl4 he) (by decide +kernel) (fun r9 μ9 hq => ?_)
            obtain ⟨hr9, hm9⟩ := hq
            rw [hr9, hm9]
            clear hr9 hm9
            show Z 1 114 [(3, .int 4), (1, .int 1), (2, .ref 79), (0, .ref 50)] [] (eMB (z_ui (z_ui (z_ui (z_ui (z_ui W3 79 3 0) 61 0 ((μ.1 61 0) + (-1000))) 61 1 ((μ.1 61 1) + (-1000))) 61 2 ((μ.1 61 2) + 3000)) 61 3 ((μ.1 61 3) + (-1000))) false true 3 e)
            exact hr 1 114 _ _ _ none (by decide +kernel) (by rfl) (by refine ⟨rfl, ?_⟩; unfold nM0010; exact SM_eMB (SM_ui (SM_ui (SM_ui (SM_ui (SM_ui (SM_tr (SM_ui (SM_tr (SM_ui (SM_tr (SM_ui (SM_tr (SM_rf _) hO0)) hO1)) hO2)) hO3)))))))
        · have h4 : (decide ((lg_cmp w3 0) = 0)) = false := decide_eq_false (cn_eq.mp h4)
          exact absurd (Eq.trans (Eq.symm (hb3)) h4) (by decide)
    · have h2 : (decide ((lg_cmp w1 0) = 0)) = false := decide_eq_false (cn_eq.mp h2)
      exact absurd (Eq.trans (Eq.symm (hb1)) h2) (by decide)
  · have h1 : (decide ((lg_cmp w0 0) = 0)) = false := decide_eq_false (cn_eq.mp h1)
    exact absurd (Eq.trans (Eq.symm (hb0)) h1) (by decide)
noncomputable def nM0011 (μ : zM) : zM := z_ui (z_ui (z_ui (z_ui (z_ui (z_ui (z_ui (z_ui (z_zero μ) 79 0 0) 79 1 0) 79 2 1) 79 3 1) 61 0 ((μ.1 61 0) + (-1500))) 61 1 ((μ.1 61 1) + (-1500))) 61 2 ((μ.1 61 2) + 1500)) 61 3 ((μ.1 61 3) + 1500)
theorem gm_nobody0011 (d : Nat) (hd : 700 ≤ d) (μ : zM) (hH0 : a_H μ) (dl e : Nat) (hdl : μ.1 50 40 = nI dl) (hdl4 : dl < 4) (he : (dl + 1) % 4 = e) (w0 : Int64) (hw0 : ∀ M, SE μ M → a_H M → ∀ d, 699 ≤ d → z_C d mi_X7_waitsAt [.ref 50, .int 0] M (fun r W => r = some (.long w0) ∧ SMj M W ∧ a_H W)) (hb0 : decide (lg_cmp w0 0 = 0) = true) (w1 : Int64) (hw1 : ∀ M, SE μ M → a_H M → ∀ d, 699 ≤ d → z_C d mi_X7_waitsAt [.ref 50, .int 1] M (fun r W => r = some (.long w1) ∧ SMj M W ∧ a_H W)) (hb1 : decide (lg_cmp w1 0 = 0) = true) (w2 : Int64) (hw2 : ∀ M, SE μ M → a_H M → ∀ d, 699 ≤ d → z_C d mi_X7_waitsAt [.ref 50, .int 2] M (fun r W => r = some (.long w2) ∧ SMj M W ∧ a_H W)) (hb2 : decide (lg_cmp w2 0 = 0) = false) (w3 : Int64) (hw3 : ∀ M, SE μ M → a_H M → ∀ d, 699 ≤ d → z_C d mi_X7_waitsAt [.ref 50, .int 3] M (fun r W => r = some (.long w3) ∧ SMj M W ∧ a_H W)) (hb3 : decide (lg_cmp w3 0 = 0) = false) : z_C d mi_X7_nobodyWins [.ref 50] μ (fun r μ' => r = none ∧ SMj (eMB (nM0011 μ) (nbS false false true true dl) true dl e) μ') := by
  obtain ⟨d', rfl⟩ : ∃ d', d = d' + 1 := ⟨d - 1, by omega⟩
  intro Z hc hr
  refine ⟨rfl, ?_⟩
  have hH := zh_X7_nobodyWins
  refine z_rcs hc hH 9 (pc' := 17) (lv' := [(3, .int 0), (2, .ref 79), (1, .int 0), (0, .ref 50)]) (st' := [.int 0, .ref 50, .int 0, .ref 79]) (μ' := z_zero μ) (by rfl) ?_
  refine zq_call hc (z_cx_ok hH (by rfl)) (hw0 _ (SE_zr _) (a_H_zero hH0) d' (by omega)) (by decide +kernel) (fun r9 W0 hq => ?_)
  obtain ⟨rfl, hO0, hA0⟩ := hq
  show Z 1 20 [(3, .int 0), (2, .ref 79), (1, .int 0), (0, .ref 50)] [.long w0, .int 0, .ref 79] W0
  refine z_rcs hc hH 2 (pc' := 22) (lv' := [(3, .int 0), (2, .ref 79), (1, .int 0), (0, .ref 50)]) (st' := [.int (lg_cmp w0 0), .int 0, .ref 79]) (μ' := W0) (by rfl) ?_
  refine zq_if hc hH (by rfl) (tg := 29) (by rfl) (fun h1 => ?_) (fun h1 => ?_)
  · have h1 : (decide ((lg_cmp w0 0) = 0)) = true := decide_eq_true (cm_eq9.mp h1)
    refine z_rcs hc hH 1 (pc' := 30) (lv' := [(3, .int 0), (2, .ref 79), (1, .int 0), (0, .ref 50)]) (st' := [.int 0, .int 0, .ref 79]) (μ' := W0) (by rfl) ?_
    refine zq_bast hc hH (by rfl) 4 (by decide +kernel) (show vp_in (nI 0) 4 from vp_in_nI (by decide) (by decide)) (by decide) ?_
    rw [show (0 : Int32).toNatClampNeg = 0 from rfl]
    show Z 1 31 [(3, .int 0), (2, .ref 79), (1, .int 0), (0, .ref 50)] [] (z_ui W0 79 0 0)
    refine z_rcs hc hH 3 (pc' := 34) (lv' := [(3, .int 0), (2, .ref 79), (1, .int 0), (0, .ref 50)]) (st' := [.int 0, .ref 79, .int 0]) (μ' := z_ui W0 79 0 0) (by rfl) ?_
    refine zq_bald hc hH (by rfl) 4 (by decide +kernel) (show vp_in (nI 0) 4 from vp_in_nI (by decide) (by decide)) ?_
    rw [show (0 : Int32).toNatClampNeg = 0 from rfl]
    rw [ui_s]
    refine z_rcs hc hH 13 (pc' := 17) (lv' := [(3, .int 1), (1, .int 0), (2, .ref 79), (0, .ref 50)]) (st' := [.int 1, .ref 50, .int 1, .ref 79]) (μ' := z_ui W0 79 0 0) (by rfl) ?_
    refine zq_call hc (z_cx_ok hH (by rfl)) (hw1 _ (SE_ui (SE_sm (SE_zr _) hO0) (by omega)) (a_H_ui (r := 79) (k := 0) (hA0) ⟨by decide, by decide⟩) d' (by omega)) (by decide +kernel) (fun r9 W1 hq => ?_)
    obtain ⟨rfl, hO1, hA1⟩ := hq
    show Z 1 20 [(3, .int 1), (1, .int 0), (2, .ref 79), (0, .ref 50)] [.long w1, .int 1, .ref 79] W1
    refine z_rcs hc hH 2 (pc' := 22) (lv' := [(3, .int 1), (1, .int 0), (2, .ref 79), (0, .ref 50)]) (st' := [.int (lg_cmp w1 0), .int 1, .ref 79]) (μ' := W1) (by rfl) ?_
    refine zq_if hc hH (by rfl) (tg := 29) (by rfl) (fun h2 => ?_) (fun h2 => ?_)
    · have h2 : (decide ((lg_cmp w1 0) = 0)) = true := decide_eq_true (cm_eq9.mp h2)
      refine z_rcs hc hH 1 (pc' := 30) (lv' := [(3, .int 1), (1, .int 0), (2, .ref 79), (0, .ref 50)]) (st' := [.int 0, .int 1, .ref 79]) (μ' := W1) (by rfl) ?_
      refine zq_bast hc hH (by rfl) 4 (by decide +kernel) (show vp_in (nI 1) 4 from vp_in_nI (by decide) (by decide)) (by decide) ?_
      rw [show (1 : Int32).toNatClampNeg = 1 from rfl]
      show Z 1 31 [(3, .int 1), (1, .int 0), (2, .ref 79), (0, .ref 50)] [] (z_ui W1 79 1 0)
      refine z_rcs hc hH 3 (pc' := 34) (lv' := [(3, .int 1), (1, .int 0), (2, .ref 79), (0, .ref 50)]) (st' := [.int 1, .ref 79, .int 0]) (μ' := z_ui W1 79 1 0) (by rfl) ?_
      refine zq_bald hc hH (by rfl) 4 (by decide +kernel) (show vp_in (nI 1) 4 from vp_in_nI (by decide) (by decide)) ?_
      rw [show (1 : Int32).toNatClampNeg = 1 from rfl]
      rw [ui_s]
      refine z_rcs hc hH 13 (pc' := 17) (lv' := [(3, .int 2), (1, .int 0), (2, .ref 79), (0, .ref 50)]) (st' := [.int 2, .ref 50, .int 2, .ref 79]) (μ' := z_ui W1 79 1 0) (by rfl) ?_
      refine zq_call hc (z_cx_ok hH (by rfl)) (hw2 _ (SE_ui (SE_sm (SE_ui (SE_sm (SE_zr _) hO0) (by omega)) hO1) (by omega)) (a_H_ui (r := 79) (k := 1) (hA1) ⟨by decide, by decide⟩) d' (by omega)) (by decide +kernel) (fun r9 W2 hq => ?_)
      obtain ⟨rfl, hO2, hA2⟩ := hq
      show Z 1 20 [(3, .int 2), (1, .int 0), (2, .ref 79), (0, .ref 50)] [.long w2, .int 2, .ref 79] W2
      refine z_rcs hc hH 2 (pc' := 22) (lv' := [(3, .int 2), (1, .int 0), (2, .ref 79), (0, .ref 50)]) (st' := [.int (lg_cmp w2 0), .int 2, .ref 79]) (μ' := W2) (by rfl) ?_
      refine zq_if hc hH (by rfl) (tg := 29) (by rfl) (fun h3 => ?_) (fun h3 => ?_)
      · have h3 : (decide ((lg_cmp w2 0) = 0)) = true := decide_eq_true (cm_eq9.mp h3)
        exact absurd (Eq.trans (Eq.symm (hb2)) h3) (by decide)
      · have h3 : (decide ((lg_cmp w2 0) = 0)) = false := decide_eq_false (cn_eq.mp h3)
        refine z_rcs hc hH 2 (pc' := 30) (lv' := [(3, .int 2), (1, .int 0), (2, .ref 79), (0, .ref 50)]) (st' := [.int 1, .int 2, .ref 79]) (μ' := W2) (by rfl) ?_
        refine zq_bast hc hH (by rfl) 4 (by decide +kernel) (show vp_in (nI 2) 4 from vp_in_nI (by decide) (by decide)) (by decide) ?_
        rw [show (2 : Int32).toNatClampNeg = 2 from rfl]
        show Z 1 31 [(3, .int 2), (1, .int 0), (2, .ref 79), (0, .ref 50)] [] (z_ui W2 79 2 1)
        refine z_rcs hc hH 3 (pc' := 34) (lv' := [(3, .int 2), (1, .int 0), (2, .ref 79), (0, .ref 50)]) (st' := [.int 2, .ref 79, .int 0]) (μ' := z_ui W2 79 2 1) (by rfl) ?_
        refine zq_bald hc hH (by rfl) 4 (by decide +kernel) (show vp_in (nI 2) 4 from vp_in_nI (by decide) (by decide)) ?_
        rw [show (2 : Int32).toNatClampNeg = 2 from rfl]
        rw [ui_s]
        refine z_rcs hc hH 14 (pc' := 17) (lv' := [(3, .int 3), (1, .int 1), (2, .ref 79), (0, .ref 50)]) (st' := [.int 3, .ref 50, .int 3, .ref 79]) (μ' := z_ui W2 79 2 1) (by rfl) ?_
        refine zq_call hc (z_cx_ok hH (by rfl)) (hw3 _ (SE_ui (SE_sm (SE_ui (SE_sm (SE_ui (SE_sm (SE_zr _) hO0) (by omega)) hO1) (by omega)) hO2) (by omega)) (a_H_ui (r := 79) (k := 2) (hA2) ⟨by decide, by decide⟩) d' (by omega)) (by decide +kernel) (fun r9 W3 hq => ?_)
        obtain ⟨rfl, hO3, hA3⟩ := hq
        show Z 1 20 [(3, .int 3), (1, .int 1), (2, .ref 79), (0, .ref 50)] [.long w3, .int 3, .ref 79] W3
        refine z_rcs hc hH 2 (pc' := 22) (lv' := [(3, .int 3), (1, .int 1), (2, .ref 79), (0, .ref 50)]) (st' := [.int (lg_cmp w3 0), .int 3, .ref 79]) (μ' := W3) (by rfl) ?_
        refine zq_if hc hH (by rfl) (tg := 29) (by rfl) (fun h4 => ?_) (fun h4 => ?_)
        · have h4 : (decide ((lg_cmp w3 0) = 0)) = true := decide_eq_true (cm_eq9.mp h4)
          exact absurd (Eq.trans (Eq.symm (hb3)) h4) (by decide)
        · have h4 : (decide ((lg_cmp w3 0) = 0)) = false := decide_eq_false (cn_eq.mp h4)
          refine z_rcs hc hH 2 (pc' := 30) (lv' := [(3, .int 3), (1, .int 1), (2, .ref 79), (0, .ref 50)]) (st' := [.int 1, .int 3, .ref 79]) (μ' := W3) (by rfl) ?_
          refine zq_bast hc hH (by rfl) 4 (by decide +kernel) (show vp_in (nI 3) 4 from vp_in_nI (by decide) (by decide)) (by decide) ?_
          rw [show (3 : Int32).toNatClampNeg = 3 from rfl]
          show Z 1 31 [(3, .int 3), (1, .int 1), (2, .ref 79), (0, .ref 50)] [] (z_ui W3 79 3 1)
          refine z_rcs hc hH 3 (pc' := 34) (lv' := [(3, .int 3), (1, .int 1), (2, .ref 79), (0, .ref 50)]) (st' := [.int 3, .ref 79, .int 1]) (μ' := z_ui W3 79 3 1) (by rfl) ?_
          refine zq_bald hc hH (by rfl) 4 (by decide +kernel) (show vp_in (nI 3) 4 from vp_in_nI (by decide) (by decide)) ?_
          rw [show (3 : Int32).toNatClampNeg = 3 from rfl]
          rw [ui_s]
          refine z_rcs hc hH 21 (pc' := 68) (lv' := [(3, .int 0), (1, .int 2), (2, .ref 79), (0, .ref 50)]) (st' := [.ref 50]) (μ' := z_ui W3 79 3 1) (by rfl) ?_
          refine zq_gfr hc hH (by rfl) (ci := 6) (f := 29) (q := 61) (by rfl) (by decide +kernel) (by rfl) (by decide +kernel) ?_
          refine z_rcs hc hH 2 (pc' := 73) (lv' := [(3, .int 0), (1, .int 2), (2, .ref 79), (0, .ref 50)]) (st' := [.int 0, .ref 61, .int 0, .ref 61]) (μ' := z_ui W3 79 3 1) (by rfl) ?_
          refine zq_iald hc hH (by rfl) 4 (oka_i (by decide +kernel)) (show vp_in (nI 0) 4 from vp_in_nI (by decide) (by decide)) ?_
          rw [show (0 : Int32).toNatClampNeg = 0 from rfl]
          refine zV1 (Z := Z) (Eq.trans (ui_o (by first | decide | omega)) (Eq.trans (hO3 61 0 (by omega)).1 (Eq.trans (ui_o (by first | decide | omega)) (Eq.trans (hO2 61 0 (by omega)).1 (Eq.trans (ui_o (by first | decide | omega)) (Eq.trans (hO1 61 0 (by omega)).1 (Eq.trans (ui_o (by first | decide | omega)) (hO0 61 0 (by omega)).1))))))) ?_
          rw [z_zero_o (by decide)]
          refine z_rcs hc hH 2 (pc' := 76) (lv' := [(3, .int 0), (1, .int 2), (2, .ref 79), (0, .ref 50)]) (st' := [.int 0, .ref 79, .int (μ.1 61 0), .int 0, .ref 61]) (μ' := z_ui W3 79 3 1) (by rfl) ?_
          refine zq_bald hc hH (by rfl) 4 (by decide +kernel) (show vp_in (nI 0) 4 from vp_in_nI (by decide) (by decide)) ?_
          rw [show (0 : Int32).toNatClampNeg = 0 from rfl]
          refine zV1 (Z := Z) (Eq.trans (ui_k (by first | decide | omega)) (Eq.trans (hO3 79 0 (by omega)).1 (Eq.trans (ui_k (by first | decide | omega)) (Eq.trans (hO2 79 0 (by omega)).1 (Eq.trans (ui_k (by first | decide | omega)) (Eq.trans (hO1 79 0 (by omega)).1 (ui_s))))))) ?_
          refine z_rcs hc hH 7 (pc' := 96) (lv' := [(3, .int 0), (1, .int 2), (2, .ref 79), (0, .ref 50)]) (st' := [.int ((μ.1 61 0) + (-1500)), .int 0, .ref 61]) (μ' := z_ui W3 79 3 1) (by rfl) ?_
          refine zq_iast hc hH (by rfl) 4 (oka_i (by decide +kernel)).2 (show vp_in (nI 0) 4 from vp_in_nI (by decide) (by decide)) ?_
          rw [show (0 : Int32).toNatClampNeg = 0 from rfl]
          show Z 1 97 [(3, .int 0), (1, .int 2), (2, .ref 79), (0, .ref 50)] [] (z_ui (z_ui W3 79 3 1) 61 0 ((μ.1 61 0) + (-1500)))
          refine z_rcs0 hc hH 6 (pc' := 68) (lv' := [(3, .int 1), (1, .int 2), (2, .ref 79), (0, .ref 50)]) (st' := [.ref 50]) (by rfl) ?_
          refine zq_gfr hc hH (by rfl) (ci := 6) (f := 29) (q := 61) (by rfl) (by decide +kernel) (by rfl) (by decide +kernel) ?_
          refine z_rcs0 hc hH 2 (pc' := 73) (lv' := [(3, .int 1), (1, .int 2), (2, .ref 79), (0, .ref 50)]) (st' := [.int 1, .ref 61, .int 1, .ref 61]) (by rfl) ?_
          refine zq_iald hc hH (by rfl) 4 (oka_i (by decide +kernel)) (show vp_in (nI 1) 4 from vp_in_nI (by decide) (by decide)) ?_
          rw [show (1 : Int32).toNatClampNeg = 1 from rfl]
          refine zV1 (Z := Z) (Eq.trans (ui_k (by first | decide | omega)) (Eq.trans (ui_o (by first | decide | omega)) (Eq.trans (hO3 61 1 (by omega)).1 (Eq.trans (ui_o (by first | decide | omega)) (Eq.trans (hO2 61 1 (by omega)).1 (Eq.trans (ui_o (by first | decide | omega)) (Eq.trans (hO1 61 1 (by omega)).1 (Eq.trans (ui_o (by first | decide | omega)) (hO0 61 1 (by omega)).1)))))))) ?_
          rw [z_zero_o (by decide)]
          refine z_rcs0 hc hH 2 (pc' := 76) (lv' := [(3, .int 1), (1, .int 2), (2, .ref 79), (0, .ref 50)]) (st' := [.int 1, .ref 79, .int (μ.1 61 1), .int 1, .ref 61]) (by rfl) ?_
          refine zq_bald hc hH (by rfl) 4 (by decide +kernel) (show vp_in (nI 1) 4 from vp_in_nI (by decide) (by decide)) ?_
          rw [show (1 : Int32).toNatClampNeg = 1 from rfl]
          refine zV1 (Z := Z) (Eq.trans (ui_o (by first | decide | omega)) (Eq.trans (ui_k (by first | decide | omega)) (Eq.trans (hO3 79 1 (by omega)).1 (Eq.trans (ui_k (by first | decide | omega)) (Eq.trans (hO2 79 1 (by omega)).1 (ui_s)))))) ?_
          refine z_rcs0 hc hH 7 (pc' := 96) (lv' := [(3, .int 1), (1, .int 2), (2, .ref 79), (0, .ref 50)]) (st' := [.int ((μ.1 61 1) + (-1500)), .int 1, .ref 61]) (by rfl) ?_
          refine zq_iast hc hH (by rfl) 4 (oka_i (by decide +kernel)).2 (show vp_in (nI 1) 4 from vp_in_nI (by decide) (by decide)) ?_
          rw [show (1 : Int32).toNatClampNeg = 1 from rfl]
          show Z 1 97 [(3, .int 1), (1, .int 2), (2, .ref 79), (0, .ref 50)] [] (z_ui (z_ui (z_ui W3 79 3 1) 61 0 ((μ.1 61 0) + (-1500))) 61 1 ((μ.1 61 1) + (-1500)))
          refine z_rcs0 hc hH 6 (pc' := 68) (lv' := [(3, .int 2), (1, .int 2), (2, .ref 79), (0, .ref 50)]) (st' := [.ref 50]) (by rfl) ?_
          refine zq_gfr hc hH (by rfl) (ci := 6) (f := 29) (q := 61) (by rfl) (by decide +kernel) (by rfl) (by decide +kernel) ?_
          refine z_rcs0 hc hH 2 (pc' := 73) (lv' := [(3, .int 2), (1, .int 2), (2, .ref 79), (0, .ref 50)]) (st' := [.int 2, .ref 61, .int 2, .ref 61]) (by rfl) ?_
          refine zq_iald hc hH (by rfl) 4 (oka_i (by decide +kernel)) (show vp_in (nI 2) 4 from vp_in_nI (by decide) (by decide)) ?_
          rw [show (2 : Int32).toNatClampNeg = 2 from rfl]
          refine zV1 (Z := Z) (Eq.trans (ui_k (by first | decide | omega)) (Eq.trans (ui_k (by first | decide | omega)) (Eq.trans (ui_o (by first | decide | omega)) (Eq.trans (hO3 61 2 (by omega)).1 (Eq.trans (ui_o (by first | decide | omega)) (Eq.trans (hO2 61 2 (by omega)).1 (Eq.trans (ui_o (by first | decide | omega)) (Eq.trans (hO1 61 2 (by omega)).1 (Eq.trans (ui_o (by first | decide | omega)) (hO0 61 2 (by omega)).1))))))))) ?_
          rw [z_zero_o (by decide)]
          refine z_rcs0 hc hH 2 (pc' := 76) (lv' := [(3, .int 2), (1, .int 2), (2, .ref 79), (0, .ref 50)]) (st' := [.int 2, .ref 79, .int (μ.1 61 2), .int 2, .ref 61]) (by rfl) ?_
          refine zq_bald hc hH (by rfl) 4 (by decide +kernel) (show vp_in (nI 2) 4 from vp_in_nI (by decide) (by decide)) ?_
          rw [show (2 : Int32).toNatClampNeg = 2 from rfl]
          refine zV1 (Z := Z) (Eq.trans (ui_o (by first | decide | omega)) (Eq.trans (ui_o (by first | decide | omega)) (Eq.trans (ui_k (by first | decide | omega)) (Eq.trans (hO3 79 2 (by omega)).1 (ui_s))))) ?_
          refine z_rcs0 hc hH 6 (pc' := 96) (lv' := [(3, .int 2), (1, .int 2), (2, .ref 79), (0, .ref 50)]) (st' := [.int ((μ.1 61 2) + 1500), .int 2, .ref 61]) (by rfl) ?_
          refine zq_iast hc hH (by rfl) 4 (oka_i (by decide +kernel)).2 (show vp_in (nI 2) 4 from vp_in_nI (by decide) (by decide)) ?_
          rw [show (2 : Int32).toNatClampNeg = 2 from rfl]
          show Z 1 97 [(3, .int 2), (1, .int 2), (2, .ref 79), (0, .ref 50)] [] (z_ui (z_ui (z_ui (z_ui W3 79 3 1) 61 0 ((μ.1 61 0) + (-1500))) 61 1 ((μ.1 61 1) + (-1500))) 61 2 ((μ.1 61 2) + 1500))
          refine z_rcs0 hc hH 6 (pc' := 68) (lv' := [(3, .int 3), (1, .int 2), (2, .ref 79), (0, .ref 50)]) (st' := [.ref 50]) (by rfl) ?_
          refine zq_gfr hc hH (by rfl) (ci := 6) (f := 29) (q := 61) (by rfl) (by decide +kernel) (by rfl) (by decide +kernel) ?_
          refine z_rcs0 hc hH 2 (pc' := 73) (lv' := [(3, .int 3), (1, .int 2), (2, .ref 79), (0, .ref 50)]) (st' := [.int 3, .ref 61, .int 3, .ref 61]) (by rfl) ?_
          refine zq_iald hc hH (by rfl) 4 (oka_i (by decide +kernel)) (show vp_in (nI 3) 4 from vp_in_nI (by decide) (by decide)) ?_
          rw [show (3 : Int32).toNatClampNeg = 3 from rfl]
          refine zV1 (Z := Z) (Eq.trans (ui_k (by first | decide | omega)) (Eq.trans (ui_k (by first | decide | omega)) (Eq.trans (ui_k (by first | decide | omega)) (Eq.trans (ui_o (by first | decide | omega)) (Eq.trans (hO3 61 3 (by omega)).1 (Eq.trans (ui_o (by first | decide | omega)) (Eq.trans (hO2 61 3 (by omega)).1 (Eq.trans (ui_o (by first | decide | omega)) (Eq.trans (hO1 61 3 (by omega)).1 (Eq.trans (ui_o (by first | decide | omega)) (hO0 61 3 (by omega)).1)))))))))) ?_
          rw [z_zero_o (by decide)]
          refine z_rcs0 hc hH 2 (pc' := 76) (lv' := [(3, .int 3), (1, .int 2), (2, .ref 79), (0, .ref 50)]) (st' := [.int 3, .ref 79, .int (μ.1 61 3), .int 3, .ref 61]) (by rfl) ?_
          refine zq_bald hc hH (by rfl) 4 (by decide +kernel) (show vp_in (nI 3) 4 from vp_in_nI (by decide) (by decide)) ?_
          rw [show (3 : Int32).toNatClampNeg = 3 from rfl]
          refine zV1 (Z := Z) (Eq.trans (ui_o (by first | decide | omega)) (Eq.trans (ui_o (by first | decide | omega)) (Eq.trans (ui_o (by first | decide | omega)) (ui_s)))) ?_
          refine z_rcs0 hc hH 6 (pc' := 96) (lv' := [(3, .int 3), (1, .int 2), (2, .ref 79), (0, .ref 50)]) (st' := [.int ((μ.1 61 3) + 1500), .int 3, .ref 61]) (by rfl) ?_
          refine zq_iast hc hH (by rfl) 4 (oka_i (by decide +kernel)).2 (show vp_in (nI 3) 4 from vp_in_nI (by decide) (by decide)) ?_
          rw [show (3 : Int32).toNatClampNeg = 3 from rfl]
          show Z 1 97 [(3, .int 3), (1, .int 2), (2, .ref 79), (0, .ref 50)] [] (z_ui (z_ui (z_ui (z_ui (z_ui W3 79 3 1) 61 0 ((μ.1 61 0) + (-1500))) 61 1 ((μ.1 61 1) + (-1500))) 61 2 ((μ.1 61 2) + 1500)) 61 3 ((μ.1 61 3) + 1500))
          refine z_rcs0 hc hH 5 (pc' := 103) (lv' := [(3, .int 4), (1, .int 2), (2, .ref 79), (0, .ref 50)]) (st' := []) (by rfl) ?_
          obtain rfl | rfl | rfl | rfl : dl = 0 ∨ dl = 1 ∨ dl = 2 ∨ dl = 3 := by omega
          · skip
            refine z_rcs0 hc hH 3 (pc' := 106) (lv' := [(3, .int 4), (1, .int 2), (2, .ref 79), (0, .ref 50)]) (st' := [.ref 50, .ref 79, .ref 50]) (by rfl) ?_
            refine zq_gfi hc hH (by rfl) (ci := 6) (f := 40) (by rfl) (by decide +kernel) (by rfl) ?_
            refine zV1 (Z := Z) (Eq.trans (ui_o (by first | decide | omega)) (Eq.trans (ui_o (by first | decide | omega)) (Eq.trans (ui_o (by first | decide | omega)) (Eq.trans (ui_o (by first | decide | omega)) (Eq.trans (ui_o (by first | decide | omega)) (Eq.trans (hO3 50 40 (by omega)).1 (Eq.trans (ui_o (by first | decide | omega)) (Eq.trans (hO2 50 40 (by omega)).1 (Eq.trans (ui_o (by first | decide | omega)) (Eq.trans (hO1 50 40 (by omega)).1 (Eq.trans (ui_o (by first | decide | omega)) (hO0 50 40 (by omega)).1))))))))))) ?_
            rw [(z_zero_o (by decide)).trans hdl]
            refine zq_bald hc hH (by rfl) 4 (by decide +kernel) (vp_in_nI (by omega) (by decide)) ?_
            rw [nI_clamp (by omega)]
            refine zV1 (Z := Z) (Eq.trans (ui_o (by first | decide | omega)) (Eq.trans (ui_o (by first | decide | omega)) (Eq.trans (ui_o (by first | decide | omega)) (Eq.trans (ui_o (by first | decide | omega)) (Eq.trans (ui_k (by first | decide | omega)) (Eq.trans (hO3 79 0 (by omega)).1 (Eq.trans (ui_k (by first | decide | omega)) (Eq.trans (hO2 79 0 (by omega)).1 (Eq.trans (ui_k (by first | decide | omega)) (Eq.trans (hO1 79 0 (by omega)).1 (ui_s))))))))))) ?_
            refine z_rcs0 hc hH 1 (pc' := 111) (lv' := [(3, .int 4), (1, .int 2), (2, .ref 79), (0, .ref 50)]) (st' := [.int 1, .int 0, .ref 50]) (by rfl) ?_
            refine zq_call hc (z_cx_ok hH (by rfl)) (gm_endsB d' (by omega) (z_ui (z_ui (z_ui (z_ui (z_ui W3 79 3 1) 61 0 ((μ.1 61 0) + (-1500))) 61 1 ((μ.1 61 1) + (-1500))) 61 2 ((μ.1 61 2) + 1500)) 61 3 ((μ.1 61 3) + 1500)) false true 0 e (by rw [ui_o (by first | decide | omega), ui_o (by first | decide | omega), ui_o (by first | decide | omega), ui_o (by first | decide | omega), ui_o (by first | decide | omega), (hO3 50 40 (by omega)).1, ui_o (by first | decide | omega), (hO2 50 40 (by omega)).1, ui_o (by first | decide | omega), (hO1 50 40 (by omega)).1, ui_o (by first | decide | omega), (hO0 50 40 (by omega)).1]; exact (z_zero_o (by decide)).trans hdl) hdl4 he) (by decide +kernel) (fun r9 μ9 hq => ?_)
            obtain ⟨hr9, hm9⟩ := hq
            rw [hr9, hm9]
            clear hr9 hm9
            show Z 1 114 [(3, .int 4), (1, .int 2), (2, .ref 79), (0, .ref 50)] [] (eMB (z_ui (z_ui (z_ui (z_ui (z_ui W3 79 3 1) 61 0 ((μ.1 61 0) + (-1500))) 61 1 ((μ.1 61 1) + (-1500))) 61 2 ((μ.1 61 2) + 1500)) 61 3 ((μ.1 61 3) + 1500)) false true 0 e)
            exact hr 1 114 _ _ _ none (by decide +kernel) (by rfl) (by refine ⟨rfl, ?_⟩; unfold nM0011; exact SM_eMB (SM_ui (SM_ui (SM_ui (SM_ui (SM_ui (SM_tr (SM_ui (SM_tr (SM_ui (SM_tr (SM_ui (SM_tr (SM_rf _) hO0)) hO1)) hO2)) hO3)))))))
          · skip
            refine z_rcs hc hH 3 (pc' := 106) (lv' := [(3, .int 4), (1, .int 2), (2, .ref 79), (0, .ref 50)]) (st' := [.ref 50, .ref 79, .ref 50]) (μ' := z_ui (z_ui (z_ui (z_ui (z_ui W3 79 3 1) 61 0 ((μ.1 61 0) + (-1500))) 61 1 ((μ.1 61 1) + (-1500))) 61 2 ((μ.1 61 2) + 1500)) 61 3 ((μ.1 61 3) + 1500)) (by rfl) ?_
            refine zq_gfi hc hH (by rfl) (ci := 6) (f := 40) (by rfl) (by decide +kernel) (by rfl) ?_
            refine zV1 (Z := Z) (Eq.trans (ui_o (by first | decide | omega)) (Eq.trans (ui_o (by first | decide | omega)) (Eq.trans (ui_o (by first | decide | omega)) (Eq.trans (ui_o (by first | decide | omega)) (Eq.trans (ui_o (by first | decide | omega)) (Eq.trans (hO3 50 40 (by omega)).1 (Eq.trans (ui_o (by first | decide | omega)) (Eq.trans (hO2 50 40 (by omega)).1 (Eq.trans (ui_o (by first | decide | omega)) (Eq.trans (hO1 50 40 (by omega)).1 (Eq.trans (ui_o (by first | decide | omega)) (hO0 50 40 (by omega)).1))))))))))) ?_
            rw [(z_zero_o (by decide)).trans hdl]
            refine zq_bald hc hH (by rfl) 4 (by decide +kernel) (vp_in_nI (by omega) (by decide)) ?_
            rw [nI_clamp (by omega)]
            refine zV1 (Z := Z) (Eq.trans (ui_o (by first | decide | omega)) (Eq.trans (ui_o (by first | decide | omega)) (Eq.trans (ui_o (by first | decide | omega)) (Eq.trans (ui_o (by first | decide | omega)) (Eq.trans (ui_k (by first | decide | omega)) (Eq.trans (hO3 79 1 (by omega)).1 (Eq.trans (ui_k (by first | decide | omega)) (Eq.trans (hO2 79 1 (by omega)).1 (ui_s))))))))) ?_
            refine z_rcs0 hc hH 1 (pc' := 111) (lv' := [(3, .int 4), (1, .int 2), (2, .ref 79), (0, .ref 50)]) (st' := [.int 1, .int 0, .ref 50]) (by rfl) ?_
            refine zq_call hc (z_cx_ok hH (by rfl)) (gm_endsB d' (by omega) (z_ui (z_ui (z_ui (z_ui (z_ui W3 79 3 1) 61 0 ((μ.1 61 0) + (-1500))) 61 1 ((μ.1 61 1) + (-1500))) 61 2 ((μ.1 61 2) + 1500)) 61 3 ((μ.1 61 3) + 1500)) false true 1 e (by rw [ui_o (by first | decide | omega), ui_o (by first | decide | omega), ui_o (by first | decide | omega), ui_o (by first | decide | omega), ui_o (by first | decide | omega), (hO3 50 40 (by omega)).1, ui_o (by first | decide | omega), (hO2 50 40 (by omega)).1, ui_o (by first | decide | omega), (hO1 50 40 (by omega)).1, ui_o (by first | decide | omega), (hO0 50 40 (by omega)).1]; exact (z_zero_o (by decide)).trans hdl) hdl4 he) (by decide +kernel) (fun r9 μ9 hq => ?_)
            obtain ⟨hr9, hm9⟩ := hq
            rw [hr9, hm9]
            clear hr9 hm9
            show Z 1 114 [(3, .int 4), (1, .int 2), (2, .ref 79), (0, .ref 50)] [] (eMB (z_ui (z_ui (z_ui (z_ui (z_ui W3 79 3 1) 61 0 ((μ.1 61 0) + (-1500))) 61 1 ((μ.1 61 1) + (-1500))) 61 2 ((μ.1 61 2) + 1500)) 61 3 ((μ.1 61 3) + 1500)) false true 1 e)
            exact hr 1 114 _ _ _ none (by decide +kernel) (by rfl) (by refine ⟨rfl, ?_⟩; unfold nM0011; exact SM_eMB (SM_ui (SM_ui (SM_ui (SM_ui (SM_ui (SM_tr (SM_ui (SM_tr (SM_ui (SM_tr (SM_ui (SM_tr (SM_rf _) hO0)) hO1)) hO2)) hO3)))))))
          · skip
            refine z_rcs hc hH 3 (pc' := 106) (lv' := [(3, .int 4), (1, .int 2), (2, .ref 79), (0, .ref 50)]) (st' := [.ref 50, .ref 79, .ref 50]) (μ' := z_ui (z_ui (z_ui (z_ui (z_ui W3 79 3 1) 61 0 ((μ.1 61 0) + (-1500))) 61 1 ((μ.1 61 1) + (-1500))) 61 2 ((μ.1 61 2) + 1500)) 61 3 ((μ.1 61 3) + 1500)) (by rfl) ?_
            refine zq_gfi hc hH (by rfl) (ci := 6) (f := 40) (by rfl) (by decide +kernel) (by rfl) ?_
            refine zV1 (Z := Z) (Eq.trans (ui_o (by first | decide | omega)) (Eq.trans (ui_o (by first | decide | omega)) (Eq.trans (ui_o (by first | decide | omega)) (Eq.trans (ui_o (by first | decide | omega)) (Eq.trans (ui_o (by first | decide | omega)) (Eq.trans (hO3 50 40 (by omega)).1 (Eq.trans (ui_o (by first | decide | omega)) (Eq.trans (hO2 50 40 (by omega)).1 (Eq.trans (ui_o (by first | decide | omega)) (Eq.trans (hO1 50 40 (by omega)).1 (Eq.trans (ui_o (by first | decide | omega)) (hO0 50 40 (by omega)).1))))))))))) ?_
            rw [(z_zero_o (by decide)).trans hdl]
            refine zq_bald hc hH (by rfl) 4 (by decide +kernel) (vp_in_nI (by omega) (by decide)) ?_
            rw [nI_clamp (by omega)]
            refine zV1 (Z := Z) (Eq.trans (ui_o (by first | decide | omega)) (Eq.trans (ui_o (by first | decide | omega)) (Eq.trans (ui_o (by first | decide | omega)) (Eq.trans (ui_o (by first | decide | omega)) (Eq.trans (ui_k (by first | decide | omega)) (Eq.trans (hO3 79 2 (by omega)).1 (ui_s))))))) ?_
            refine z_rcs0 hc hH 1 (pc' := 111) (lv' := [(3, .int 4), (1, .int 2), (2, .ref 79), (0, .ref 50)]) (st' := [.int 1, .int 1, .ref 50]) (by rfl) ?_
            refine zq_call hc (z_cx_ok hH (by rfl)) (gm_endsB d' (by omega) (z_ui (z_ui (z_ui (z_ui (z_ui W3 79 3 1) 61 0 ((μ.1 61 0) + (-1500))) 61 1 ((μ.1 61 1) + (-1500))) 61 2 ((μ.1 61 2) + 1500)) 61 3 ((μ.1 61 3) + 1500)) true true 2 e (by rw [ui_o (by first | decide | omega), ui_o (by first | decide | omega), ui_o (by first | decide | omega), ui_o (by first | decide | omega), ui_o (by first | decide | omega), (hO3 50 40 (by omega)).1, ui_o (by first | decide | omega), (hO2 50 40 (by omega)).1, ui_o (by first | decide | omega), (hO1 50 40 (by omega)).1, ui_o (by first | decide | omega), (hO0 50 40 (by omega)).1]; exact (z_zero_o (by decide)).trans hdl) hdl4 he) (by decide +kernel) (fun r9 μ9 hq => ?_)
            obtain ⟨hr9, hm9⟩ := hq
            rw [hr9, hm9]
            clear hr9 hm9
            show Z 1 114 [(3, .int 4), (1, .int 2), (2, .ref 79), (0, .ref 50)] [] (eMB (z_ui (z_ui (z_ui (z_ui (z_ui W3 79 3 1) 61 0 ((μ.1 61 0) + (-1500))) 61 1 ((μ.1 61 1) + (-1500))) 61 2 ((μ.1 61 2) + 1500)) 61 3 ((μ.1 61 3) + 1500)) true true 2 e)
            exact hr 1 114 _ _ _ none (by decide +kernel) (by rfl) (by refine ⟨rfl, ?_⟩; unfold nM0011; exact SM_eMB (SM_ui (SM_ui (SM_ui (SM_ui (SM_ui (SM_tr (SM_ui (SM_tr (SM_ui (SM_tr (SM_ui (SM_tr (SM_rf _) hO0)) hO1)) hO2)) hO3)))))))
          · skip
            refine z_rcs hc hH 3 (pc' := 106) (lv' := [(3, .int 4), (1, .int 2), (2, .ref 79), (0, .ref 50)]) (st' := [.ref 50, .ref 79, .ref 50]) (μ' := z_ui (z_ui (z_ui (z_ui (z_ui W3 79 3 1) 61 0 ((μ.1 61 0) + (-1500))) 61 1 ((μ.1 61 1) + (-1500))) 61 2 ((μ.1 61 2) + 1500)) 61 3 ((μ.1 61 3) + 1500)) (by rfl) ?_
            refine zq_gfi hc hH (by rfl) (ci := 6) (f := 40) (by rfl) (by decide +kernel) (by rfl) ?_
            refine zV1 (Z := Z) (Eq.trans (ui_o (by first | decide | omega)) (Eq.trans (ui_o (by first | decide | omega)) (Eq.trans (ui_o (by first | decide | omega)) (Eq.trans (ui_o (by first | decide | omega)) (Eq.trans (ui_o (by first | decide | omega)) (Eq.trans (hO3 50 40 (by omega)).1 (Eq.trans (ui_o (by first | decide | omega)) (Eq.trans (hO2 50 40 (by omega)).1 (Eq.trans (ui_o (by first | decide | omega)) (Eq.trans (hO1 50 40 (by omega)).1 (Eq.trans (ui_o (by first | decide | omega)) (hO0 50 40 (by omega)).1))))))))))) ?_
            rw [(z_zero_o (by decide)).trans hdl]
            refine zq_bald hc hH (by rfl) 4 (by decide +kernel) (vp_in_nI (by omega) (by decide)) ?_
            rw [nI_clamp (by omega)]
            refine zV1 (Z := Z) (Eq.trans (ui_o (by first | decide | omega)) (Eq.trans (ui_o (by first | decide | omega)) (Eq.trans (ui_o (by first | decide | omega)) (Eq.trans (ui_o (by first | decide | omega)) (ui_s))))) ?_
            refine z_rcs0 hc hH 1 (pc' := 111) (lv' := [(3, .int 4), (1, .int 2), (2, .ref 79), (0, .ref 50)]) (st' := [.int 1, .int 1, .ref 50]) (by rfl) ?_
            refine zq_call hc (z_cx_ok hH (by rfl)) (gm_endsB d' (by omega) (z_ui (z_ui (z_ui (z_ui (z_ui W3 79 3 1) 61 0 ((μ.1 61 0) + (-1500))) 61 1 ((μ.1 61 1) + (-1500))) 61 2 ((μ.1 61 2) + 1500)) 61 3 ((μ.1 61 3) + 1500)) true true 3 e (by rw [ui_o (by first | decide | omega), ui_o (by first | decide | omega), ui_o (by first | decide | omega), ui_o (by first | decide | omega), ui_o (by first | decide | omega), (hO3 50 40 (by omega)).1, ui_o (by first | decide | omega), (hO2 50 40 (by omega)).1, ui_o (by first | decide | omega), (hO1 50 40 (by omega)).1, ui_o (by first | decide | omega), (hO0 50 40 (by omega)).1]; exact (z_zero_o (by decide)).trans hdl) hdl4 he) (by decide +kernel) (fun r9 μ9 hq => ?_)
            obtain ⟨hr9, hm9⟩ := hq
            rw [hr9, hm9]
            clear hr9 hm9
            show Z 1 114 [(3, .int 4), (1, .int 2), (2, .ref 79), (0, .ref 50)] [] (eMB (z_ui (z_ui (z_ui (z_ui (z_ui W3 79 3 1) 61 0 ((μ.1 61 0) + (-1500))) 61 1 ((μ.1 61 1) + (-1500))) 61 2 ((μ.1 61 2) + 1500)) 61 3 ((μ.1 61 3) + 1500)) true true 3 e)
            exact hr 1 114 _ _ _ none (by decide +kernel) (by rfl) (by refine ⟨rfl, ?_⟩; unfold nM0011; exact SM_eMB (SM_ui (SM_ui (SM_ui (SM_ui (SM_ui (SM_tr (SM_ui (SM_tr (SM_ui (SM_tr (SM_ui (SM_tr (SM_rf _) hO0)) hO1)) hO2)) hO3)))))))
    · have h2 : (decide ((lg_cmp w1 0) = 0)) = false := decide_eq_false (cn_eq.mp h2)
      exact absurd (Eq.trans (Eq.symm (hb1)) h2) (by decide)
  · have h1 : (decide ((lg_cmp w0 0) = 0)) = false := decide_eq_false (cn_eq.mp h1)
    exact absurd (Eq.trans (Eq.symm (hb0)) h1) (by decide)
noncomputable def nM0100 (μ : zM) : zM := z_ui (z_ui (z_ui (z_ui (z_ui (z_ui (z_ui (z_ui (z_zero μ) 79 0 0) 79 1 1) 79 2 0) 79 3 0) 61 0 ((μ.1 61 0) + (-1000))) 61 1 ((μ.1 61 1) + 3000)) 61 2 ((μ.1 61 2) + (-1000))) 61 3 ((μ.1 61 3) + (-1000))
theorem gm_nobody0100 (d : Nat) (hd : 700 ≤ d) (μ : zM) (hH0 : a_H μ) (dl e : Nat) (hdl : μ.1 50 40 = nI dl) (hdl4 : dl < 4) (he : (dl + 1) % 4 = e) (w0 : Int64) (hw0 : ∀ M, SE μ M → a_H M → ∀ d, 699 ≤ d → z_C d mi_X7_waitsAt [.ref 50, .int 0] M (fun r W => r = some (.long w0) ∧ SMj M W ∧ a_H W)) (hb0 : decide (lg_cmp w0 0 = 0) = true) (w1 : Int64) (hw1 : ∀ M, SE μ M → a_H M → ∀ d, 699 ≤ d → z_C d mi_X7_waitsAt [.ref 50, .int 1] M (fun r W => r = some (.long w1) ∧ SMj M W ∧ a_H W)) (hb1 : decide (lg_cmp w1 0 = 0) = false) (w2 : Int64) (hw2 : ∀ M, SE μ M → a_H M → ∀ d, 699 ≤ d → z_C d mi_X7_waitsAt [.ref 50, .int 2] M (fun r W => r = some (.long w2) ∧ SMj M W ∧ a_H W)) (hb2 : decide (lg_cmp w2 0 = 0) = true) (w3 : Int64) (hw3 : ∀ M, SE μ M → a_H M → ∀ d, 699 ≤ d → z_C d mi_X7_waitsAt [.ref 50, .int 3] M (fun r W => r = some (.long w3) ∧ SMj M W ∧ a_H W)) (hb3 : decide (lg_cmp w3 0 = 0) = true) : z_C d mi_X7_nobodyWins [.ref 50] μ (fun r μ' => r = none ∧ SMj (eMB (nM0100 μ) (nbS false true false false dl) true dl e) μ') := by
  obtain ⟨d', rfl⟩ : ∃ d', d = d' + 1 := ⟨d - 1, by omega⟩
  intro Z hc hr
  refine ⟨rfl, ?_⟩
  have hH := zh_X7_nobodyWins
  refine z_rcs hc hH 9 (pc' := 17) (lv' := [(3, .int 0), (2, .ref 79), (1, .int 0), (0, .ref 50)]) (st' := [.int 0, .ref 50, .int 0, .ref 79]) (μ' := z_zero μ) (by rfl) ?_
  refine zq_call hc (z_cx_ok hH (by rfl)) (hw0 _ (SE_zr _) (a_H_zero hH0) d' (by omega)) (by decide +kernel) (fun r9 W0 hq => ?_)
  obtain ⟨rfl, hO0, hA0⟩ := hq
  show Z 1 20 [(3, .int 0), (2, .ref 79), (1, .int 0), (0, .ref 50)] [.long w0, .int 0, .ref 79] W0
  refine z_rcs hc hH 2 (pc' := 22) (lv' := [(3, .int 0), (2, .ref 79), (1, .int 0), (0, .ref 50)]) (st' := [.int (lg_cmp w0 0), .int 0, .ref 79]) (μ' := W0) (by rfl) ?_
  refine zq_if hc hH (by rfl) (tg := 29) (by rfl) (fun h1 => ?_) (fun h1 => ?_)
  · have h1 : (decide ((lg_cmp w0 0) = 0)) = true := decide_eq_true (cm_eq9.mp h1)
    refine z_rcs hc hH 1 (pc' := 30) (lv' := [(3, .int 0), (2, .ref 79), (1, .int 0), (0, .ref 50)]) (st' := [.int 0, .int 0, .ref 79]) (μ' := W0) (by rfl) ?_
    refine zq_bast hc hH (by rfl) 4 (by decide +kernel) (show vp_in (nI 0) 4 from vp_in_nI (by decide) (by decide)) (by decide) ?_
    rw [show (0 : Int32).toNatClampNeg = 0 from rfl]
    show Z 1 31 [(3, .int 0), (2, .ref 79), (1, .int 0), (0, .ref 50)] [] (z_ui W0 79 0 0)
    refine z_rcs hc hH 3 (pc' := 34) (lv' := [(3, .int 0), (2, .ref 79), (1, .int 0), (0, .ref 50)]) (st' := [.int 0, .ref 79, .int 0]) (μ' := z_ui W0 79 0 0) (by rfl) ?_
    refine zq_bald hc hH (by rfl) 4 (by decide +kernel) (show vp_in (nI 0) 4 from vp_in_nI (by decide) (by decide)) ?_
    rw [show (0 : Int32).toNatClampNeg = 0 from rfl]
    rw [ui_s]
    refine z_rcs hc hH 13 (pc' := 17) (lv' := [(3, .int 1), (1, .int 0), (2, .ref 79), (0, .ref 50)]) (st' := [.int 1, .ref 50, .int 1, .ref 79]) (μ' := z_ui W0 79 0 0) (by rfl) ?_
    refine zq_call hc (z_cx_ok hH (by rfl)) (hw1 _ (SE_ui (SE_sm (SE_zr _) hO0) (by omega)) (a_H_ui (r := 79) (k := 0) (hA0) ⟨by decide, by decide⟩) d' (by omega)) (by decide +kernel) (fun r9 W1 hq => ?_)
    obtain ⟨rfl, hO1, hA1⟩ := hq
    show Z 1 20 [(3, .int 1), (1, .int 0), (2, .ref 79), (0, .ref 50)] [.long w1, .int 1, .ref 79] W1
    refine z_rcs hc hH 2 (pc' := 22) (lv' := [(3, .int 1), (1, .int 0), (2, .ref 79), (0, .ref 50)]) (st' := [.int (lg_cmp w1 0), .int 1, .ref 79]) (μ' := W1) (by rfl) ?_
    refine zq_if hc hH (by rfl) (tg := 29) (by rfl) (fun h2 => ?_) (fun h2 => ?_)
    · have h2 : (decide ((lg_cmp w1 0) = 0)) = true := decide_eq_true (cm_eq9.mp h2)
      exact absurd (Eq.trans (Eq.symm (hb1)) h2) (by decide)
    · have h2 : (decide ((lg_cmp w1 0) = 0)) = false := decide_eq_false (cn_eq.mp h2)
      refine z_rcs hc hH 2 (pc' := 30) (lv' := [(3, .int 1), (1, .int 0), (2, .ref 79), (0, .ref 50)]) (st' := [.int 1, .int 1, .ref 79]) (μ' := W1) (by rfl) ?_
      refine zq_bast hc hH (by rfl) 4 (by decide +kernel) (show vp_in (nI 1) 4 from vp_in_nI (by decide) (by decide)) (by decide) ?_
      rw [show (1 : Int32).toNatClampNeg = 1 from rfl]
      show Z 1 31 [(3, .int 1), (1, .int 0), (2, .ref 79), (0, .ref 50)] [] (z_ui W1 79 1 1)
      refine z_rcs hc hH 3 (pc' := 34) (lv' := [(3, .int 1), (1, .int 0), (2, .ref 79), (0, .ref 50)]) (st' := [.int 1, .ref 79, .int 0]) (μ' := z_ui W1 79 1 1) (by rfl) ?_
      refine zq_bald hc hH (by rfl) 4 (by decide +kernel) (show vp_in (nI 1) 4 from vp_in_nI (by decide) (by decide)) ?_
      rw [show (1 : Int32).toNatClampNeg = 1 from rfl]
      rw [ui_s]
      refine z_rcs hc hH 14 (pc' := 17) (lv' := [(3, .int 2), (1, .int 1), (2, .ref 79), (0, .ref 50)]) (st' := [.int 2, .ref 50, .int 2, .ref 79]) (μ' := z_ui W1 79 1 1) (by rfl) ?_
      refine zq_call hc (z_cx_ok hH (by rfl)) (hw2 _ (SE_ui (SE_sm (SE_ui (SE_sm (SE_zr _) hO0) (by omega)) hO1) (by omega)) (a_H_ui (r := 79) (k := 1) (hA1) ⟨by decide, by decide⟩) d' (by omega)) (by decide +kernel) (fun r9 W2 hq => ?_)
      obtain ⟨rfl, hO2, hA2⟩ := hq
      show Z 1 20 [(3, .int 2), (1, .int 1), (2, .ref 79), (0, .ref 50)] [.long w2, .int 2, .ref 79] W2
      refine z_rcs hc hH 2 (pc' := 22) (lv' := [(3, .int 2), (1, .int 1), (2, .ref 79), (0, .ref 50)]) (st' := [.int (lg_cmp w2 0), .int 2, .ref 79]) (μ' := W2) (by rfl) ?_
      refine zq_if hc hH (by rfl) (tg := 29) (by rfl) (fun h3 => ?_) (fun h3 => ?_)
      · have h3 : (decide ((lg_cmp w2 0) = 0)) = true := decide_eq_true (cm_eq9.mp h3)
        refine z_rcs hc hH 1 (pc' := 30) (lv' := [(3, .int 2), (1, .int 1), (2, .ref 79), (0, .ref 50)]) (st' := [.int 0, .int 2, .ref 79]) (μ' := W2) (by rfl) ?_
        refine zq_bast hc hH (by rfl) 4 (by decide +kernel) (show vp_in (nI 2) 4 from vp_in_nI (by decide) (by decide)) (by decide) ?_
        rw [show (2 : Int32).toNatClampNeg = 2 from rfl]
        show Z 1 31 [(3, .int 2), (1, .int 1), (2, .ref 79), (0, .ref 50)] [] (z_ui W2 79 2 0)
        refine z_rcs hc hH 3 (pc' := 34) (lv' := [(3, .int 2), (1, .int 1), (2, .ref 79), (0, .ref 50)]) (st' := [.int 2, .ref 79, .int 1]) (μ' := z_ui W2 79 2 0) (by rfl) ?_
        refine zq_bald hc hH (by rfl) 4 (by decide +kernel) (show vp_in (nI 2) 4 from vp_in_nI (by decide) (by decide)) ?_
        rw [show (2 : Int32).toNatClampNeg = 2 from rfl]
        rw [ui_s]
        refine z_rcs hc hH 13 (pc' := 17) (lv' := [(3, .int 3), (1, .int 1), (2, .ref 79), (0, .ref 50)]) (st' := [.int 3, .ref 50, .int 3, .ref 79]) (μ' := z_ui W2 79 2 0) (by rfl) ?_
        refine zq_call hc (z_cx_ok hH (by rfl)) (hw3 _ (SE_ui (SE_sm (SE_ui (SE_sm (SE_ui (SE_sm (SE_zr _) hO0) (by omega)) hO1) (by omega)) hO2) (by omega)) (a_H_ui (r := 79) (k := 2) (hA2) ⟨by decide, by decide⟩) d' (by omega)) (by decide +kernel) (fun r9 W3 hq => ?_)
        obtain ⟨rfl, hO3, hA3⟩ := hq
        show Z 1 20 [(3, .int 3), (1, .int 1), (2, .ref 79), (0, .ref 50)] [.long w3, .int 3, .ref 79] W3
        refine z_rcs hc hH 2 (pc' := 22) (lv' := [(3, .int 3), (1, .int 1), (2, .ref 79), (0, .ref 50)]) (st' := [.int (lg_cmp w3 0), .int 3, .ref 79]) (μ' := W3) (by rfl) ?_
        refine zq_if hc hH (by rfl) (tg := 29) (by rfl) (fun h4 => ?_) (fun h4 => ?_)
        · have h4 : (decide ((lg_cmp w3 0) = 0)) = true := decide_eq_true (cm_eq9.mp h4)
          refine z_rcs hc hH 1 (pc' := 30) (lv' := [(3, .int 3), (1, .int 1), (2, .ref 79), (0, .ref 50)]) (st' := [.int 0, .int 3, .ref 79]) (μ' := W3) (by rfl) ?_
          refine zq_bast hc hH (by rfl) 4 (by decide +kernel) (show vp_in (nI 3) 4 from vp_in_nI (by decide) (by decide)) (by decide) ?_
          rw [show (3 : Int32).toNatClampNeg = 3 from rfl]
          show Z 1 31 [(3, .int 3), (1, .int 1), (2, .ref 79), (0, .ref 50)] [] (z_ui W3 79 3 0)
          refine z_rcs hc hH 3 (pc' := 34) (lv' := [(3, .int 3), (1, .int 1), (2, .ref 79), (0, .ref 50)]) (st' := [.int 3, .ref 79, .int 1]) (μ' := z_ui W3 79 3 0) (by rfl) ?_
          refine zq_bald hc hH (by rfl) 4 (by decide +kernel) (show vp_in (nI 3) 4 from vp_in_nI (by decide) (by decide)) ?_
          rw [show (3 : Int32).toNatClampNeg = 3 from rfl]
          rw [ui_s]
          refine z_rcs hc hH 20 (pc' := 68) (lv' := [(3, .int 0), (1, .int 1), (2, .ref 79), (0, .ref 50)]) (st' := [.ref 50]) (μ' := z_ui W3 79 3 0) (by rfl) ?_
          refine zq_gfr hc hH (by rfl) (ci := 6) (f := 29) (q := 61) (by rfl) (by decide +kernel) (by rfl) (by decide +kernel) ?_
          refine z_rcs hc hH 2 (pc' := 73) (lv' := [(3, .int 0), (1, .int 1), (2, .ref 79), (0, .ref 50)]) (st' := [.int 0, .ref 61, .int 0, .ref 61]) (μ' := z_ui W3 79 3 0) (by rfl) ?_
          refine zq_iald hc hH (by rfl) 4 (oka_i (by decide +kernel)) (show vp_in (nI 0) 4 from vp_in_nI (by decide) (by decide)) ?_
          rw [show (0 : Int32).toNatClampNeg = 0 from rfl]
          refine zV1 (Z := Z) (Eq.trans (ui_o (by first | decide | omega)) (Eq.trans (hO3 61 0 (by omega)).1 (Eq.trans (ui_o (by first | decide | omega)) (Eq.trans (hO2 61 0 (by omega)).1 (Eq.trans (ui_o (by first | decide | omega)) (Eq.trans (hO1 61 0 (by omega)).1 (Eq.trans (ui_o (by first | decide | omega)) (hO0 61 0 (by omega)).1))))))) ?_
          rw [z_zero_o (by decide)]
          refine z_rcs hc hH 2 (pc' := 76) (lv' := [(3, .int 0), (1, .int 1), (2, .ref 79), (0, .ref 50)]) (st' := [.int 0, .ref 79, .int (μ.1 61 0), .int 0, .ref 61]) (μ' := z_ui W3 79 3 0) (by rfl) ?_
          refine zq_bald hc hH (by rfl) 4 (by decide +kernel) (show vp_in (nI 0) 4 from vp_in_nI (by decide) (by decide)) ?_
          rw [show (0 : Int32).toNatClampNeg = 0 from rfl]
          refine zV1 (Z := Z) (Eq.trans (ui_k (by first | decide | omega)) (Eq.trans (hO3 79 0 (by omega)).1 (Eq.trans (ui_k (by first | decide | omega)) (Eq.trans (hO2 79 0 (by omega)).1 (Eq.trans (ui_k (by first | decide | omega)) (Eq.trans (hO1 79 0 (by omega)).1 (ui_s))))))) ?_
          refine z_rcs hc hH 7 (pc' := 96) (lv' := [(3, .int 0), (1, .int 1), (2, .ref 79), (0, .ref 50)]) (st' := [.int ((μ.1 61 0) + (-1000)), .int 0, .ref 61]) (μ' := z_ui W3 79 3 0) (by rfl) ?_
          refine zq_iast hc hH (by rfl) 4 (oka_i (by decide +kernel)).2 (show vp_in (nI 0) 4 from vp_in_nI (by decide) (by decide)) ?_
          rw [show (0 : Int32).toNatClampNeg = 0 from rfl]
          show Z 1 97 [(3, .int 0), (1, .int 1), (2, .ref 79), (0, .ref 50)] [] (z_ui (z_ui W3 79 3 0) 61 0 ((μ.1 61 0) + (-1000)))
          refine z_rcs0 hc hH 6 (pc' := 68) (lv' := [(3, .int 1), (1, .int 1), (2, .ref 79), (0, .ref 50)]) (st' := [.ref 50]) (by rfl) ?_
          refine zq_gfr hc hH (by rfl) (ci := 6) (f := 29) (q := 61) (by rfl) (by decide +kernel) (by rfl) (by decide +kernel) ?_
          refine z_rcs0 hc hH 2 (pc' := 73) (lv' := [(3, .int 1), (1, .int 1), (2, .ref 79), (0, .ref 50)]) (st' := [.int 1, .ref 61, .int 1, .ref 61]) (by rfl) ?_
          refine zq_iald hc hH (by rfl) 4 (oka_i (by decide +kernel)) (show vp_in (nI 1) 4 from vp_in_nI (by decide) (by decide)) ?_
          rw [show (1 : Int32).toNatClampNeg = 1 from rfl]
          refine zV1 (Z := Z) (Eq.trans (ui_k (by first | decide | omega)) (Eq.trans (ui_o (by first | decide | omega)) (Eq.trans (hO3 61 1 (by omega)).1 (Eq.trans (ui_o (by first | decide | omega)) (Eq.trans (hO2 61 1 (by omega)).1 (Eq.trans (ui_o (by first | decide | omega)) (Eq.trans (hO1 61 1 (by omega)).1 (Eq.trans (ui_o (by first | decide | omega)) (hO0 61 1 (by omega)).1)))))))) ?_
          rw [z_zero_o (by decide)]
          refine z_rcs0 hc hH 2 (pc' := 76) (lv' := [(3, .int 1), (1, .int 1), (2, .ref 79), (0, .ref 50)]) (st' := [.int 1, .ref 79, .int (μ.1 61 1), .int 1, .ref 61]) (by rfl) ?_
          refine zq_bald hc hH (by rfl) 4 (by decide +kernel) (show vp_in (nI 1) 4 from vp_in_nI (by decide) (by decide)) ?_
          rw [show (1 : Int32).toNatClampNeg = 1 from rfl]
          refine zV1 (Z := Z) (Eq.trans (ui_o (by first | decide | omega)) (Eq.trans (ui_k (by first | decide | omega)) (Eq.trans (hO3 79 1 (by omega)).1 (Eq.trans (ui_k (by first | decide | omega)) (Eq.trans (hO2 79 1 (by omega)).1 (ui_s)))))) ?_
          refine z_rcs0 hc hH 6 (pc' := 96) (lv' := [(3, .int 1), (1, .int 1), (2, .ref 79), (0, .ref 50)]) (st' := [.int ((μ.1 61 1) + 3000), .int 1, .ref 61]) (by rfl) ?_
          refine zq_iast hc hH (by rfl) 4 (oka_i (by decide +kernel)).2 (show vp_in (nI 1) 4 from vp_in_nI (by decide) (by decide)) ?_
          rw [show (1 : Int32).toNatClampNeg = 1 from rfl]
          show Z 1 97 [(3, .int 1), (1, .int 1), (2, .ref 79), (0, .ref 50)] [] (z_ui (z_ui (z_ui W3 79 3 0) 61 0 ((μ.1 61 0) + (-1000))) 61 1 ((μ.1 61 1) + 3000))
          refine z_rcs0 hc hH 6 (pc' := 68) (lv' := [(3, .int 2), (1, .int 1), (2, .ref 79), (0, .ref 50)]) (st' := [.ref 50]) (by rfl) ?_
          refine zq_gfr hc hH (by rfl) (ci := 6) (f := 29) (q := 61) (by rfl) (by decide +kernel) (by rfl) (by decide +kernel) ?_
          refine z_rcs0 hc hH 2 (pc' := 73) (lv' := [(3, .int 2), (1, .int 1), (2, .ref 79), (0, .ref 50)]) (st' := [.int 2, .ref 61, .int 2, .ref 61]) (by rfl) ?_
          refine zq_iald hc hH (by rfl) 4 (oka_i (by decide +kernel)) (show vp_in (nI 2) 4 from vp_in_nI (by decide) (by decide)) ?_
          rw [show (2 : Int32).toNatClampNeg = 2 from rfl]
          refine zV1 (Z := Z) (Eq.trans (ui_k (by first | decide | omega)) (Eq.trans (ui_k (by first | decide | omega)) (Eq.trans (ui_o (by first | decide | omega)) (Eq.trans (hO3 61 2 (by omega)).1 (Eq.trans (ui_o (by first | decide | omega)) (Eq.trans (hO2 61 2 (by omega)).1 (Eq.trans (ui_o (by first | decide | omega)) (Eq.trans (hO1 61 2 (by omega)).1 (Eq.trans (ui_o (by first | decide | omega)) (hO0 61 2 (by omega)).1))))))))) ?_
          rw [z_zero_o (by decide)]
          refine z_rcs0 hc hH 2 (pc' := 76) (lv' := [(3, .int 2), (1, .int 1), (2, .ref 79), (0, .ref 50)]) (st' := [.int 2, .ref 79, .int (μ.1 61 2), .int 2, .ref 61]) (by rfl) ?_
          refine zq_bald hc hH (by rfl) 4 (by decide +kernel) (show vp_in (nI 2) 4 from vp_in_nI (by decide) (by decide)) ?_
          rw [show (2 : Int32).toNatClampNeg = 2 from rfl]
          refine zV1 (Z := Z) (Eq.trans (ui_o (by first | decide | omega)) (Eq.trans (ui_o (by first | decide | omega)) (Eq.trans (ui_k (by first | decide | omega)) (Eq.trans (hO3 79 2 (by omega)).1 (ui_s))))) ?_
          refine z_rcs0 hc hH 7 (pc' := 96) (lv' := [(3, .int 2), (1, .int 1), (2, .ref 79), (0, .ref 50)]) (st' := [.int ((μ.1 61 2) + (-1000)), .int 2, .ref 61]) (by rfl) ?_
          refine zq_iast hc hH (by rfl) 4 (oka_i (by decide +kernel)).2 (show vp_in (nI 2) 4 from vp_in_nI (by decide) (by decide)) ?_
          rw [show (2 : Int32).toNatClampNeg = 2 from rfl]
          show Z 1 97 [(3, .int 2), (1, .int 1), (2, .ref 79), (0, .ref 50)] [] (z_ui (z_ui (z_ui (z_ui W3 79 3 0) 61 0 ((μ.1 61 0) + (-1000))) 61 1 ((μ.1 61 1) + 3000)) 61 2 ((μ.1 61 2) + (-1000)))
          refine z_rcs0 hc hH 6 (pc' := 68) (lv' := [(3, .int 3), (1, .int 1), (2, .ref 79), (0, .ref 50)]) (st' := [.ref 50]) (by rfl) ?_
          refine zq_gfr hc hH (by rfl) (ci := 6) (f := 29) (q := 61) (by rfl) (by decide +kernel) (by rfl) (by decide +kernel) ?_
          refine z_rcs0 hc hH 2 (pc' := 73) (lv' := [(3, .int 3), (1, .int 1), (2, .ref 79), (0, .ref 50)]) (st' := [.int 3, .ref 61, .int 3, .ref 61]) (by rfl) ?_
          refine zq_iald hc hH (by rfl) 4 (oka_i (by decide +kernel)) (show vp_in (nI 3) 4 from vp_in_nI (by decide) (by decide)) ?_
          rw [show (3 : Int32).toNatClampNeg = 3 from rfl]
          refine zV1 (Z := Z) (Eq.trans (ui_k (by first | decide | omega)) (Eq.trans (ui_k (by first | decide | omega)) (Eq.trans (ui_k (by first | decide | omega)) (Eq.trans (ui_o (by first | decide | omega)) (Eq.trans (hO3 61 3 (by omega)).1 (Eq.trans (ui_o (by first | decide | omega)) (Eq.trans (hO2 61 3 (by omega)).1 (Eq.trans (ui_o (by first | decide | omega)) (Eq.trans (hO1 61 3 (by omega)).1 (Eq.trans (ui_o (by first | decide | omega)) (hO0 61 3 (by omega)).1)))))))))) ?_
          rw [z_zero_o (by decide)]
          refine z_rcs0 hc hH 2 (pc' := 76) (lv' := [(3, .int 3), (1, .int 1), (2, .ref 79), (0, .ref 50)]) (st' := [.int 3, .ref 79, .int (μ.1 61 3), .int 3, .ref 61]) (by rfl) ?_
          refine zq_bald hc hH (by rfl) 4 (by decide +kernel) (show vp_in (nI 3) 4 from vp_in_nI (by decide) (by decide)) ?_
          rw [show (3 : Int32).toNatClampNeg = 3 from rfl]
          refine zV1 (Z := Z) (Eq.trans (ui_o (by first | decide | omega)) (Eq.trans (ui_o (by first | decide | omega)) (Eq.trans (ui_o (by first | decide | omega)) (ui_s)))) ?_
          refine z_rcs0 hc hH 7 (pc' := 96) (lv' := [(3, .int 3), (1, .int 1), (2, .ref 79), (0, .ref 50)]) (st' := [.int ((μ.1 61 3) + (-1000)), .int 3, .ref 61]) (by rfl) ?_
          refine zq_iast hc hH (by rfl) 4 (oka_i (by decide +kernel)).2 (show vp_in (nI 3) 4 from vp_in_nI (by decide) (by decide)) ?_
          rw [show (3 : Int32).toNatClampNeg = 3 from rfl]
          show Z 1 97 [(3, .int 3), (1, .int 1), (2, .ref 79), (0, .ref 50)] [] (z_ui (z_ui (z_ui (z_ui (z_ui W3 79 3 0) 61 0 ((μ.1 61 0) + (-1000))) 61 1 ((μ.1 61 1) + 3000)) 61 2 ((μ.1 61 2) + (-1000))) 61 3 ((μ.1 61 3) + (-1000)))
          refine z_rcs0 hc hH 5 (pc' := 103) (lv' := [(3, .int 4), (1, .int 1), (2, .ref 79), (0, .ref 50)]) (st' := []) (by rfl) ?_
          obtain rfl | rfl | rfl | rfl : dl = 0 ∨ dl = 1 ∨ dl = 2 ∨ dl = 3 := by omega
          · skip
            refine z_rcs0 hc hH 3 (pc' := 106) (lv' := [(3, .int 4), (1, .int 1), (2, .ref 79), (0, .ref 50)]) (st' := [.ref 50, .ref 79, .ref 50]) (by rfl) ?_
            refine zq_gfi hc hH (by rfl) (ci := 6) (f := 40) (by rfl) (by decide +kernel) (by rfl) ?_
            refine zV1 (Z := Z) (Eq.trans (ui_o (by first | decide | omega)) (Eq.trans (ui_o (by first | decide | omega)) (Eq.trans (ui_o (by first | decide | omega)) (Eq.trans (ui_o (by first | decide | omega)) (Eq.trans (ui_o (by first | decide | omega)) (Eq.trans (hO3 50 40 (by omega)).1 (Eq.trans (ui_o (by first | decide | omega)) (Eq.trans (hO2 50 40 (by omega)).1 (Eq.trans (ui_o (by first | decide | omega)) (Eq.trans (hO1 50 40 (by omega)).1 (Eq.trans (ui_o (by first | decide | omega)) (hO0 50 40 (by omega)).1))))))))))) ?_
            rw [(z_zero_o (by decide)).trans hdl]
            refine zq_bald hc hH (by rfl) 4 (by decide +kernel) (vp_in_nI (by omega) (by decide)) ?_
            rw [nI_clamp (by omega)]
            refine zV1 (Z := Z) (Eq.trans (ui_o (by first | decide | omega)) (Eq.trans (ui_o (by first | decide | omega)) (Eq.trans (ui_o (by first | decide | omega)) (Eq.trans (ui_o (by first | decide | omega)) (Eq.trans (ui_k (by first | decide | omega)) (Eq.trans (hO3 79 0 (by omega)).1 (Eq.trans (ui_k (by first | decide | omega)) (Eq.trans (hO2 79 0 (by omega)).1 (Eq.trans (ui_k (by first | decide | omega)) (Eq.trans (hO1 79 0 (by omega)).1 (ui_s))))))))))) ?_
            refine z_rcs0 hc hH 1 (pc' := 111) (lv' := [(3, .int 4), (1, .int 1), (2, .ref 79), (0, .ref 50)]) (st' := [.int 1, .int 0, .ref 50]) (by rfl) ?_
            refine zq_call hc (z_cx_ok hH (by rfl)) (gm_endsB d' (by omega) (z_ui (z_ui (z_ui (z_ui (z_ui W3 79 3 0) 61 0 ((μ.1 61 0) + (-1000))) 61 1 ((μ.1 61 1) + 3000)) 61 2 ((μ.1 61 2) + (-1000))) 61 3 ((μ.1 61 3) + (-1000))) false true 0 e (by rw [ui_o (by first | decide | omega), ui_o (by first | decide | omega), ui_o (by first | decide | omega), ui_o (by first | decide | omega), ui_o (by first | decide | omega), (hO3 50 40 (by omega)).1, ui_o (by first | decide | omega), (hO2 50 40 (by omega)).1, ui_o (by first | decide | omega), (hO1 50 40 (by omega)).1, ui_o (by first | decide | omega), (hO0 50 40 (by omega)).1]; exact (z_zero_o (by decide)).trans hdl) hdl4 he) (by decide +kernel) (fun r9 μ9 hq => ?_)
            obtain ⟨hr9, hm9⟩ := hq
            rw [hr9, hm9]
            clear hr9 hm9
            show Z 1 114 [(3, .int 4), (1, .int 1), (2, .ref 79), (0, .ref 50)] [] (eMB (z_ui (z_ui (z_ui (z_ui (z_ui W3 79 3 0) 61 0 ((μ.1 61 0) + (-1000))) 61 1 ((μ.1 61 1) + 3000)) 61 2 ((μ.1 61 2) + (-1000))) 61 3 ((μ.1 61 3) + (-1000))) false true 0 e)
            exact hr 1 114 _ _ _ none (by decide +kernel) (by rfl) (by refine ⟨rfl, ?_⟩; unfold nM0100; exact SM_eMB (SM_ui (SM_ui (SM_ui (SM_ui (SM_ui (SM_tr (SM_ui (SM_tr (SM_ui (SM_tr (SM_ui (SM_tr (SM_rf _) hO0)) hO1)) hO2)) hO3)))))))
          · skip
            refine z_rcs hc hH 3 (pc' := 106) (lv' := [(3, .int 4), (1, .int 1), (2, .ref 79), (0, .ref 50)]) (st' := [.ref 50, .ref 79, .ref 50]) (μ' := z_ui (z_ui (z_ui (z_ui (z_ui W3 79 3 0) 61 0 ((μ.1 61 0) + (-1000))) 61 1 ((μ.1 61 1) + 3000)) 61 2 ((μ.1 61 2) + (-1000))) 61 3 ((μ.1 61 3) + (-1000))) (by rfl) ?_
            refine zq_gfi hc hH (by rfl) (ci := 6) (f := 40) (by rfl) (by decide +kernel) (by rfl) ?_
            refine zV1 (Z := Z) (Eq.trans (ui_o (by first | decide | omega)) (Eq.trans (ui_o (by first | decide | omega)) (Eq.trans (ui_o (by first | decide | omega)) (Eq.trans (ui_o (by first | decide | omega)) (Eq.trans (ui_o (by first | decide | omega)) (Eq.trans (hO3 50 40 (by omega)).1 (Eq.trans (ui_o (by first | decide | omega)) (Eq.trans (hO2 50 40 (by omega)).1 (Eq.trans (ui_o (by first | decide | omega)) (Eq.trans (hO1 50 40 (by omega)).1 (Eq.trans (ui_o (by first | decide | omega)) (hO0 50 40 (by omega)).1))))))))))) ?_
            rw [(z_zero_o (by decide)).trans hdl]
            refine zq_bald hc hH (by rfl) 4 (by decide +kernel) (vp_in_nI (by omega) (by decide)) ?_
            rw [nI_clamp (by omega)]
            refine zV1 (Z := Z) (Eq.trans (ui_o (by first | decide | omega)) (Eq.trans (ui_o (by first | decide | omega)) (Eq.trans (ui_o (by first | decide | omega)) (Eq.trans (ui_o (by first | decide | omega)) (Eq.trans (ui_k (by first | decide | omega)) (Eq.trans (hO3 79 1 (by omega)).1 (Eq.trans (ui_k (by first | decide | omega)) (Eq.trans (hO2 79 1 (by omega)).1 (ui_s))))))))) ?_
            refine z_rcs0 hc hH 1 (pc' := 111) (lv' := [(3, .int 4), (1, .int 1), (2, .ref 79), (0, .ref 50)]) (st' := [.int 1, .int 1, .ref 50]) (by rfl) ?_
            refine zq_call hc (z_cx_ok hH (by rfl)) (gm_endsB d' (by omega) (z_ui (z_ui (z_ui (z_ui (z_ui W3 79 3 0) 61 0 ((μ.1 61 0) + (-1000))) 61 1 ((μ.1 61 1) + 3000)) 61 2 ((μ.1 61 2) + (-1000))) 61 3 ((μ.1 61 3) + (-1000))) true true 1 e (by rw [ui_o (by first | decide | omega), ui_o (by first | decide | omega), ui_o (by first | decide | omega), ui_o (by first | decide | omega), ui_o (by first | decide | omega), (hO3 50 40 (by omega)).1, ui_o (by first | decide | omega), (hO2 50 40 (by omega)).1, ui_o (by first | decide | omega), (hO1 50 40 (by omega)).1, ui_o (by first | decide | omega), (hO0 50 40 (by omega)).1]; exact (z_zero_o (by decide)).trans hdl) hdl4 he) (by decide +kernel) (fun r9 μ9 hq => ?_)
            obtain ⟨hr9, hm9⟩ := hq
            rw [hr9, hm9]
            clear hr9 hm9
            show Z 1 114 [(3, .int 4), (1, .int 1), (2, .ref 79), (0, .ref 50)] [] (eMB (z_ui (z_ui (z_ui (z_ui (z_ui W3 79 3 0) 61 0 ((μ.1 61 0) + (-1000))) 61 1 ((μ.1 61 1) + 3000)) 61 2 ((μ.1 61 2) + (-1000))) 61 3 ((μ.1 61 3) + (-1000))) true true 1 e)
            exact hr 1 114 _ _ _ none (by decide +kernel) (by rfl) (by refine ⟨rfl, ?_⟩; unfold nM0100; exact SM_eMB (SM_ui (SM_ui (SM_ui (SM_ui (SM_ui (SM_tr (SM_ui (SM_tr (SM_ui (SM_tr (SM_ui (SM_tr (SM_rf _) hO0)) hO1)) hO2)) hO3)))))))
          · skip
            refine z_rcs hc hH 3 (pc' := 106) (lv' := [(3, .int 4), (1, .int 1), (2, .ref 79), (0, .ref 50)]) (st' := [.ref 50, .ref 79, .ref 50]) (μ' := z_ui (z_ui (z_ui (z_ui (z_ui W3 79 3 0) 61 0 ((μ.1 61 0) + (-1000))) 61 1 ((μ.1 61 1) + 3000)) 61 2 ((μ.1 61 2) + (-1000))) 61 3 ((μ.1 61 3) + (-1000))) (by rfl) ?_
            refine zq_gfi hc hH (by rfl) (ci := 6) (f := 40) (by rfl) (by decide +kernel) (by rfl) ?_
            refine zV1 (Z := Z) (Eq.trans (ui_o (by first | decide | omega)) (Eq.trans (ui_o (by first | decide | omega)) (Eq.trans (ui_o (by first | decide | omega)) (Eq.trans (ui_o (by first | decide | omega)) (Eq.trans (ui_o (by first | decide | omega)) (Eq.trans (hO3 50 40 (by omega)).1 (Eq.trans (ui_o (by first | decide | omega)) (Eq.trans (hO2 50 40 (by omega)).1 (Eq.trans (ui_o (by first | decide | omega)) (Eq.trans (hO1 50 40 (by omega)).1 (Eq.trans (ui_o (by first | decide | omega)) (hO0 50 40 (by omega)).1))))))))))) ?_
            rw [(z_zero_o (by decide)).trans hdl]
            refine zq_bald hc hH (by rfl) 4 (by decide +kernel) (vp_in_nI (by omega) (by decide)) ?_
            rw [nI_clamp (by omega)]
            refine zV1 (Z := Z) (Eq.trans (ui_o (by first | decide | omega)) (Eq.trans (ui_o (by first | decide | omega)) (Eq.trans (ui_o (by first | decide | omega)) (Eq.trans (ui_o (by first | decide | omega)) (Eq.trans (ui_k (by first | decide | omega)) (Eq.trans (hO3 79 2 (by omega)).1 (ui_s))))))) ?_
            refine z_rcs0 hc hH 1 (pc' := 111) (lv' := [(3, .int 4), (1, .int 1), (2, .ref 79), (0, .ref 50)]) (st' := [.int 1, .int 0, .ref 50]) (by rfl) ?_
            refine zq_call hc (z_cx_ok hH (by rfl)) (gm_endsB d' (by omega) (z_ui (z_ui (z_ui (z_ui (z_ui W3 79 3 0) 61 0 ((μ.1 61 0) + (-1000))) 61 1 ((μ.1 61 1) + 3000)) 61 2 ((μ.1 61 2) + (-1000))) 61 3 ((μ.1 61 3) + (-1000))) false true 2 e (by rw [ui_o (by first | decide | omega), ui_o (by first | decide | omega), ui_o (by first | decide | omega), ui_o (by first | decide | omega), ui_o (by first | decide | omega), (hO3 50 40 (by omega)).1, ui_o (by first | decide | omega), (hO2 50 40 (by omega)).1, ui_o (by first | decide | omega), (hO1 50 40 (by omega)).1, ui_o (by first | decide | omega), (hO0 50 40 (by omega)).1]; exact (z_zero_o (by decide)).trans hdl) hdl4 he) (by decide +kernel) (fun r9 μ9 hq => ?_)
            obtain ⟨hr9, hm9⟩ := hq
            rw [hr9, hm9]
            clear hr9 hm9
            show Z 1 114 [(3, .int 4), (1, .int 1), (2, .ref 79), (0, .ref 50)] [] (eMB (z_ui (z_ui (z_ui (z_ui (z_ui W3 79 3 0) 61 0 ((μ.1 61 0) + (-1000))) 61 1 ((μ.1 61 1) + 3000)) 61 2 ((μ.1 61 2) + (-1000))) 61 3 ((μ.1 61 3) + (-1000))) false true 2 e)
            exact hr 1 114 _ _ _ none (by decide +kernel) (by rfl) (by refine ⟨rfl, ?_⟩; unfold nM0100; exact SM_eMB (SM_ui (SM_ui (SM_ui (SM_ui (SM_ui (SM_tr (SM_ui (SM_tr (SM_ui (SM_tr (SM_ui (SM_tr (SM_rf _) hO0)) hO1)) hO2)) hO3)))))))
          · skip
            refine z_rcs hc hH 3 (pc' := 106) (lv' := [(3, .int 4), (1, .int 1), (2, .ref 79), (0, .ref 50)]) (st' := [.ref 50, .ref 79, .ref 50]) (μ' := z_ui (z_ui (z_ui (z_ui (z_ui W3 79 3 0) 61 0 ((μ.1 61 0) + (-1000))) 61 1 ((μ.1 61 1) + 3000)) 61 2 ((μ.1 61 2) + (-1000))) 61 3 ((μ.1 61 3) + (-1000))) (by rfl) ?_
            refine zq_gfi hc hH (by rfl) (ci := 6) (f := 40) (by rfl) (by decide +kernel) (by rfl) ?_
            refine zV1 (Z := Z) (Eq.trans (ui_o (by first | decide | omega)) (Eq.trans (ui_o (by first | decide | omega)) (Eq.trans (ui_o (by first | decide | omega)) (Eq.trans (ui_o (by first | decide | omega)) (Eq.trans (ui_o (by first | decide | omega)) (Eq.trans (hO3 50 40 (by omega)).1 (Eq.trans (ui_o (by first | decide | omega)) (Eq.trans (hO2 50 40 (by omega)).1 (Eq.trans (ui_o (by first | decide | omega)) (Eq.trans (hO1 50 40 (by omega)).1 (Eq.trans (ui_o (by first | decide | omega)) (hO0 50 40 (by omega)).1))))))))))) ?_
            rw [(z_zero_o (by decide)).trans hdl]
            refine zq_bald hc hH (by rfl) 4 (by decide +kernel) (vp_in_nI (by omega) (by decide)) ?_
            rw [nI_clamp (by omega)]
            refine zV1 (Z := Z) (Eq.trans (ui_o (by first | decide | omega)) (Eq.trans (ui_o (by first | decide | omega)) (Eq.trans (ui_o (by first | decide | omega)) (Eq.trans (ui_o (by first | decide | omega)) (ui_s))))) ?_
            refine z_rcs0 hc hH 1 (pc' := 111) (lv' := [(3, .int 4), (1, .int 1), (2, .ref 79), (0, .ref 50)]) (st' := [.int 1, .int 0, .ref 50]) (by rfl) ?_
            refine zq_call hc (z_cx_ok hH (by rfl)) (gm_endsB d' (by omega) (z_ui (z_ui (z_ui (z_ui (z_ui W3 79 3 0) 61 0 ((μ.1 61 0) + (-1000))) 61 1 ((μ.1 61 1) + 3000)) 61 2 ((μ.1 61 2) + (-1000))) 61 3 ((μ.1 61 3) + (-1000))) false true 3 e (by rw [ui_o (by first | decide | omega), ui_o (by first | decide | omega), ui_o (by first | decide | omega), ui_o (by first | decide | omega), ui_o (by first | decide | omega), (hO3 50 40 (by omega)).1, ui_o (by first | decide | omega), (hO2 50 40 (by omega)).1, ui_o (by first | decide | omega), (hO1 50 40 (by omega)).1, ui_o (by first | decide | omega), (hO0 50 40 (by omega)).1]; exact (z_zero_o (by decide)).trans hdl) hdl4 he) (by decide +kernel) (fun r9 μ9 hq => ?_)
            obtain ⟨hr9, hm9⟩ := hq
            rw [hr9, hm9]
            clear hr9 hm9
            show Z 1 114 [(3, .int 4), (1, .int 1), (2, .ref 79), (0, .ref 50)] [] (eMB (z_ui (z_ui (z_ui (z_ui (z_ui W3 79 3 0) 61 0 ((μ.1 61 0) + (-1000))) 61 1 ((μ.1 61 1) + 3000)) 61 2 ((μ.1 61 2) + (-1000))) 61 3 ((μ.1 61 3) + (-1000))) false true 3 e)
            exact hr 1 114 _ _ _ none (by decide +kernel) (by rfl) (by refine ⟨rfl, ?_⟩; unfold nM0100; exact SM_eMB (SM_ui (SM_ui (SM_ui (SM_ui (SM_ui (SM_tr (SM_ui (SM_tr (SM_ui (SM_tr (SM_ui (SM_tr (SM_rf _) hO0)) hO1)) hO2)) hO3)))))))
        · have h4 : (decide ((lg_cmp w3 0) = 0)) = false := decide_eq_false (cn_eq.mp h4)
          exact absurd (Eq.trans (Eq.symm (hb3)) h4) (by decide)
      · have h3 : (decide ((lg_cmp w2 0) = 0)) = false := decide_eq_false (cn_eq.mp h3)
        exact absurd (Eq.trans (Eq.symm (hb2)) h3) (by decide)
  · have h1 : (decide ((lg_cmp w0 0) = 0)) = false := decide_eq_false (cn_eq.mp h1)
    exact absurd (Eq.trans (Eq.symm (hb0)) h1) (by decide)
noncomputable def nM0101 (μ : zM) : zM := z_ui (z_ui (z_ui (z_ui (z_ui (z_ui (z_ui (z_ui (z_zero μ) 79 0 0) 79 1 1) 79 2 0) 79 3 1) 61 0 ((μ.1 61 0) + (-1500))) 61 1 ((μ.1 61 1) + 1500)) 61 2 ((μ.1 61 2) + (-1500))) 61 3 ((μ.1 61 3) + 1500)
theorem gm_nobody0101 (d : Nat) (hd : 700 ≤ d) (μ : zM) (hH0 : a_H μ) (dl e : Nat) (hdl : μ.1 50 40 = nI dl) (hdl4 : dl < 4) (he : (dl + 1) % 4 = e) (w0 : Int64) (hw0 : ∀ M, SE μ M → a_H M → ∀ d, 699 ≤ d → z_C d mi_X7_waitsAt [.ref 50, .int 0] M (fun r W => r = some (.long w0) ∧ SMj M W ∧ a_H W)) (hb0 : decide (lg_cmp w0 0 = 0) = true) (w1 : Int64) (hw1 : ∀ M, SE μ M → a_H M → ∀ d, 699 ≤ d → z_C d mi_X7_waitsAt [.ref 50, .int 1] M (fun r W => r = some (.long w1) ∧ SMj M W ∧ a_H W)) (hb1 : decide (lg_cmp w1 0 = 0) = false) (w2 : Int64) (hw2 : ∀ M, SE μ M → a_H M → ∀ d, 699 ≤ d → z_C d mi_X7_waitsAt [.ref 50, .int 2] M (fun r W => r = some (.long w2) ∧ SMj M W ∧ a_H W)) (hb2 : decide (lg_cmp w2 0 = 0) = true) (w3 : Int64) (hw3 : ∀ M, SE μ M → a_H M → ∀ d, 699 ≤ d → z_C d mi_X7_waitsAt [.ref 50, .int 3] M (fun r W => r = some (.long w3) ∧ SMj M W ∧ a_H W)) (hb3 : decide (lg_cmp w3 0 = 0) = false) : z_C d mi_X7_nobodyWins [.ref 50] μ (fun r μ' => r = none ∧ SMj (eMB (nM0101 μ) (nbS false true false true dl) true dl e) μ') := by
  obtain ⟨d', rfl⟩ : ∃ d', d = d' + 1 := ⟨d - 1, by omega⟩
  intro Z hc hr
  refine ⟨rfl, ?_⟩
  have hH := zh_X7_nobodyWins
  refine z_rcs hc hH 9 (pc' := 17) (lv' := [(3, .int 0), (2, .ref 79), (1, .int 0), (0, .ref 50)]) (st' := [.int 0, .ref 50, .int 0, .ref 79]) (μ' := z_zero μ) (by rfl) ?_
  refine zq_call hc (z_cx_ok hH (by rfl)) (hw0 _ (SE_zr _) (a_H_zero hH0) d' (by omega)) (by decide +kernel) (fun r9 W0 hq => ?_)
  obtain ⟨rfl, hO0, hA0⟩ := hq
  show Z 1 20 [(3, .int 0), (2, .ref 79), (1, .int 0), (0, .ref 50)] [.long w0, .int 0, .ref 79] W0
  refine z_rcs hc hH 2 (pc' := 22) (lv' := [(3, .int 0), (2, .ref 79), (1, .int 0), (0, .ref 50)]) (st' := [.int (lg_cmp w0 0), .int 0, .ref 79]) (μ' := W0) (by rfl) ?_
  refine zq_if hc hH (by rfl) (tg := 29) (by rfl) (fun h1 => ?_) (fun h1 => ?_)
  · have h1 : (decide ((lg_cmp w0 0) = 0)) = true := decide_eq_true (cm_eq9.mp h1)
    refine z_rcs hc hH 1 (pc' := 30) (lv' := [(3, .int 0), (2, .ref 79), (1, .int 0), (0, .ref 50)]) (st' := [.int 0, .int 0, .ref 79]) (μ' := W0) (by rfl) ?_
    refine zq_bast hc hH (by rfl) 4 (by decide +kernel) (show vp_in (nI 0) 4 from vp_in_nI (by decide) (by decide)) (by decide) ?_
    rw [show (0 : Int32).toNatClampNeg = 0 from rfl]
    show Z 1 31 [(3, .int 0), (2, .ref 79), (1, .int 0), (0, .ref 50)] [] (z_ui W0 79 0 0)
    refine z_rcs hc hH 3 (pc' := 34) (lv' := [(3, .int 0), (2, .ref 79), (1, .int 0), (0, .ref 50)]) (st' := [.int 0, .ref 79, .int 0]) (μ' := z_ui W0 79 0 0) (by rfl) ?_
    refine zq_bald hc hH (by rfl) 4 (by decide +kernel) (show vp_in (nI 0) 4 from vp_in_nI (by decide) (by decide)) ?_
    rw [show (0 : Int32).toNatClampNeg = 0 from rfl]
    rw [ui_s]
    refine z_rcs hc hH 13 (pc' := 17) (lv' := [(3, .int 1), (1, .int 0), (2, .ref 79), (0, .ref 50)]) (st' := [.int 1, .ref 50, .int 1, .ref 79]) (μ' := z_ui W0 79 0 0) (by rfl) ?_
    refine zq_call hc (z_cx_ok hH (by rfl)) (hw1 _ (SE_ui (SE_sm (SE_zr _) hO0) (by omega)) (a_H_ui (r := 79) (k := 0) (hA0) ⟨by decide, by decide⟩) d' (by omega)) (by decide +kernel) (fun r9 W1 hq => ?_)
    obtain ⟨rfl, hO1, hA1⟩ := hq
    show Z 1 20 [(3, .int 1), (1, .int 0), (2, .ref 79), (0, .ref 50)] [.long w1, .int 1, .ref 79] W1
    refine z_rcs hc hH 2 (pc' := 22) (lv' := [(3, .int 1), (1, .int 0), (2, .ref 79), (0, .ref 50)]) (st' := [.int (lg_cmp w1 0), .int 1, .ref 79]) (μ' := W1) (by rfl) ?_
    refine zq_if hc hH (by rfl) (tg := 29) (by rfl) (fun h2 => ?_) (fun h2 => ?_)
    · have h2 : (decide ((lg_cmp w1 0) = 0)) = true := decide_eq_true (cm_eq9.mp h2)
      exact absurd (Eq.trans (Eq.symm (hb1)) h2) (by decide)
    · have h2 : (decide ((lg_cmp w1 0) = 0)) = false := decide_eq_false (cn_eq.mp h2)
      refine z_rcs hc hH 2 (pc' := 30) (lv' := [(3, .int 1), (1, .int 0), (2, .ref 79), (0, .ref 50)]) (st' := [.int 1, .int 1, .ref 79]) (μ' := W1) (by rfl) ?_
      refine zq_bast hc hH (by rfl) 4 (by decide +kernel) (show vp_in (nI 1) 4 from vp_in_nI (by decide) (by decide)) (by decide) ?_
      rw [show (1 : Int32).toNatClampNeg = 1 from rfl]
      show Z 1 31 [(3, .int 1), (1, .int 0), (2, .ref 79), (0, .ref 50)] [] (z_ui W1 79 1 1)
      refine z_rcs hc hH 3 (pc' := 34) (lv' := [(3, .int 1), (1, .int 0), (2, .ref 79), (0, .ref 50)]) (st' := [.int 1, .ref 79, .int 0]) (μ' := z_ui W1 79 1 1) (by rfl) ?_
      refine zq_bald hc hH (by rfl) 4 (by decide +kernel) (show vp_in (nI 1) 4 from vp_in_nI (by decide) (by decide)) ?_
      rw [show (1 : Int32).toNatClampNeg = 1 from rfl]
      rw [ui_s]
      refine z_rcs hc hH 14 (pc' := 17) (lv' := [(3, .int 2), (1, .int 1), (2, .ref 79), (0, .ref 50)]) (st' := [.int 2, .ref 50, .int 2, .ref 79]) (μ' := z_ui W1 79 1 1) (by rfl) ?_
      refine zq_call hc (z_cx_ok hH (by rfl)) (hw2 _ (SE_ui (SE_sm (SE_ui (SE_sm (SE_zr _) hO0) (by omega)) hO1) (by omega)) (a_H_ui (r := 79) (k := 1) (hA1) ⟨by decide, by decide⟩) d' (by omega)) (by decide +kernel) (fun r9 W2 hq => ?_)
      obtain ⟨rfl, hO2, hA2⟩ := hq
      show Z 1 20 [(3, .int 2), (1, .int 1), (2, .ref 79), (0, .ref 50)] [.long w2, .int 2, .ref 79] W2
      refine z_rcs hc hH 2 (pc' := 22) (lv' := [(3, .int 2), (1, .int 1), (2, .ref 79), (0, .ref 50)]) (st' := [.int (lg_cmp w2 0), .int 2, .ref 79]) (μ' := W2) (by rfl) ?_
      refine zq_if hc hH (by rfl) (tg := 29) (by rfl) (fun h3 => ?_) (fun h3 => ?_)
      · have h3 : (decide ((lg_cmp w2 0) = 0)) = true := decide_eq_true (cm_eq9.mp h3)
        refine z_rcs hc hH 1 (pc' := 30) (lv' := [(3, .int 2), (1, .int 1), (2, .ref 79), (0, .ref 50)]) (st' := [.int 0, .int 2, .ref 79]) (μ' := W2) (by rfl) ?_
        refine zq_bast hc hH (by rfl) 4 (by decide +kernel) (show vp_in (nI 2) 4 from vp_in_nI (by decide) (by decide)) (by decide) ?_
        rw [show (2 : Int32).toNatClampNeg = 2 from rfl]
        show Z 1 31 [(3, .int 2), (1, .int 1), (2, .ref 79), (0, .ref 50)] [] (z_ui W2 79 2 0)
        refine z_rcs hc hH 3 (pc' := 34) (lv' := [(3, .int 2), (1, .int 1), (2, .ref 79), (0, .ref 50)]) (st' := [.int 2, .ref 79, .int 1]) (μ' := z_ui W2 79 2 0) (by rfl) ?_
        refine zq_bald hc hH (by rfl) 4 (by decide +kernel) (show vp_in (nI 2) 4 from vp_in_nI (by decide) (by decide)) ?_
        rw [show (2 : Int32).toNatClampNeg = 2 from rfl]
        rw [ui_s]
        refine z_rcs hc hH 13 (pc' := 17) (lv' := [(3, .int 3), (1, .int 1), (2, .ref 79), (0, .ref 50)]) (st' := [.int 3, .ref 50, .int 3, .ref 79]) (μ' := z_ui W2 79 2 0) (by rfl) ?_
        refine zq_call hc (z_cx_ok hH (by rfl)) (hw3 _ (SE_ui (SE_sm (SE_ui (SE_sm (SE_ui (SE_sm (SE_zr _) hO0) (by omega)) hO1) (by omega)) hO2) (by omega)) (a_H_ui (r := 79) (k := 2) (hA2) ⟨by decide, by decide⟩) d' (by omega)) (by decide +kernel) (fun r9 W3 hq => ?_)
        obtain ⟨rfl, hO3, hA3⟩ := hq
        show Z 1 20 [(3, .int 3), (1, .int 1), (2, .ref 79), (0, .ref 50)] [.long w3, .int 3, .ref 79] W3
        refine z_rcs hc hH 2 (pc' := 22) (lv' := [(3, .int 3), (1, .int 1), (2, .ref 79), (0, .ref 50)]) (st' := [.int (lg_cmp w3 0), .int 3, .ref 79]) (μ' := W3) (by rfl) ?_
        refine zq_if hc hH (by rfl) (tg := 29) (by rfl) (fun h4 => ?_) (fun h4 => ?_)
        · have h4 : (decide ((lg_cmp w3 0) = 0)) = true := decide_eq_true (cm_eq9.mp h4)
          exact absurd (Eq.trans (Eq.symm (hb3)) h4) (by decide)
        · have h4 : (decide ((lg_cmp w3 0) = 0)) = false := decide_eq_false (cn_eq.mp h4)
          refine z_rcs hc hH 2 (pc' := 30) (lv' := [(3, .int 3), (1, .int 1), (2, .ref 79), (0, .ref 50)]) (st' := [.int 1, .int 3, .ref 79]) (μ' := W3) (by rfl) ?_
          refine zq_bast hc hH (by rfl) 4 (by decide +kernel) (show vp_in (nI 3) 4 from vp_in_nI (by decide) (by decide)) (by decide) ?_
          rw [show (3 : Int32).toNatClampNeg = 3 from rfl]
          show Z 1 31 [(3, .int 3), (1, .int 1), (2, .ref 79), (0, .ref 50)] [] (z_ui W3 79 3 1)
          refine z_rcs hc hH 3 (pc' := 34) (lv' := [(3, .int 3), (1, .int 1), (2, .ref 79), (0, .ref 50)]) (st' := [.int 3, .ref 79, .int 1]) (μ' := z_ui W3 79 3 1) (by rfl) ?_
          refine zq_bald hc hH (by rfl) 4 (by decide +kernel) (show vp_in (nI 3) 4 from vp_in_nI (by decide) (by decide)) ?_
          rw [show (3 : Int32).toNatClampNeg = 3 from rfl]
          rw [ui_s]
          refine z_rcs hc hH 21 (pc' := 68) (lv' := [(3, .int 0), (1, .int 2), (2, .ref 79), (0, .ref 50)]) (st' := [.ref 50]) (μ' := z_ui W3 79 3 1) (by rfl) ?_
          refine zq_gfr hc hH (by rfl) (ci := 6) (f := 29) (q := 61) (by rfl) (by decide +kernel) (by rfl) (by decide +kernel) ?_
          refine z_rcs hc hH 2 (pc' := 73) (lv' := [(3, .int 0), (1, .int 2), (2, .ref 79), (0, .ref 50)]) (st' := [.int 0, .ref 61, .int 0, .ref 61]) (μ' := z_ui W3 79 3 1) (by rfl) ?_
          refine zq_iald hc hH (by rfl) 4 (oka_i (by decide +kernel)) (show vp_in (nI 0) 4 from vp_in_nI (by decide) (by decide)) ?_
          rw [show (0 : Int32).toNatClampNeg = 0 from rfl]
          refine zV1 (Z := Z) (Eq.trans (ui_o (by first | decide | omega)) (Eq.trans (hO3 61 0 (by omega)).1 (Eq.trans (ui_o (by first | decide | omega)) (Eq.trans (hO2 61 0 (by omega)).1 (Eq.trans (ui_o (by first | decide | omega)) (Eq.trans (hO1 61 0 (by omega)).1 (Eq.trans (ui_o (by first | decide | omega)) (hO0 61 0 (by omega)).1))))))) ?_
          rw [z_zero_o (by decide)]
          refine z_rcs hc hH 2 (pc' := 76) (lv' := [(3, .int 0), (1, .int 2), (2, .ref 79), (0, .ref 50)]) (st' := [.int 0, .ref 79, .int (μ.1 61 0), .int 0, .ref 61]) (μ' := z_ui W3 79 3 1) (by rfl) ?_
          refine zq_bald hc hH (by rfl) 4 (by decide +kernel) (show vp_in (nI 0) 4 from vp_in_nI (by decide) (by decide)) ?_
          rw [show (0 : Int32).toNatClampNeg = 0 from rfl]
          refine zV1 (Z := Z) (Eq.trans (ui_k (by first | decide | omega)) (Eq.trans (hO3 79 0 (by omega)).1 (Eq.trans (ui_k (by first | decide | omega)) (Eq.trans (hO2 79 0 (by omega)).1 (Eq.trans (ui_k (by first | decide | omega)) (Eq.trans (hO1 79 0 (by omega)).1 (ui_s))))))) ?_
          refine z_rcs hc hH 7 (pc' := 96) (lv' := [(3, .int 0), (1, .int 2), (2, .ref 79), (0, .ref 50)]) (st' := [.int ((μ.1 61 0) + (-1500)), .int 0, .ref 61]) (μ' := z_ui W3 79 3 1) (by rfl) ?_
          refine zq_iast hc hH (by rfl) 4 (oka_i (by decide +kernel)).2 (show vp_in (nI 0) 4 from vp_in_nI (by decide) (by decide)) ?_
          rw [show (0 : Int32).toNatClampNeg = 0 from rfl]
          show Z 1 97 [(3, .int 0), (1, .int 2), (2, .ref 79), (0, .ref 50)] [] (z_ui (z_ui W3 79 3 1) 61 0 ((μ.1 61 0) + (-1500)))
          refine z_rcs0 hc hH 6 (pc' := 68) (lv' := [(3, .int 1), (1, .int 2), (2, .ref 79), (0, .ref 50)]) (st' := [.ref 50]) (by rfl) ?_
          refine zq_gfr hc hH (by rfl) (ci := 6) (f := 29) (q := 61) (by rfl) (by decide +kernel) (by rfl) (by decide +kernel) ?_
          refine z_rcs0 hc hH 2 (pc' := 73) (lv' := [(3, .int 1), (1, .int 2), (2, .ref 79), (0, .ref 50)]) (st' := [.int 1, .ref 61, .int 1, .ref 61]) (by rfl) ?_
          refine zq_iald hc hH (by rfl) 4 (oka_i (by decide +kernel)) (show vp_in (nI 1) 4 from vp_in_nI (by decide) (by decide)) ?_
          rw [show (1 : Int32).toNatClampNeg = 1 from rfl]
          refine zV1 (Z := Z) (Eq.trans (ui_k (by first | decide | omega)) (Eq.trans (ui_o (by first | decide | omega)) (Eq.trans (hO3 61 1 (by omega)).1 (Eq.trans (ui_o (by first | decide | omega)) (Eq.trans (hO2 61 1 (by omega)).1 (Eq.trans (ui_o (by first | decide | omega)) (Eq.trans (hO1 61 1 (by omega)).1 (Eq.trans (ui_o (by first | decide | omega)) (hO0 61 1 (by omega)).1)))))))) ?_
          rw [z_zero_o (by decide)]
          refine z_rcs0 hc hH 2 (pc' := 76) (lv' := [(3, .int 1), (1, .int 2), (2, .ref 79), (0, .ref 50)]) (st' := [.int 1, .ref 79, .int (μ.1 61 1), .int 1, .ref 61]) (by rfl) ?_
          refine zq_bald hc hH (by rfl) 4 (by decide +kernel) (show vp_in (nI 1) 4 from vp_in_nI (by decide) (by decide)) ?_
          rw [show (1 : Int32).toNatClampNeg = 1 from rfl]
          refine zV1 (Z := Z) (Eq.trans (ui_o (by first | decide | omega)) (Eq.trans (ui_k (by first | decide | omega)) (Eq.trans (hO3 79 1 (by omega)).1 (Eq.trans (ui_k (by first | decide | omega)) (Eq.trans (hO2 79 1 (by omega)).1 (ui_s)))))) ?_
          refine z_rcs0 hc hH 6 (pc' := 96) (lv' := [(3, .int 1), (1, .int 2), (2, .ref 79), (0, .ref 50)]) (st' := [.int ((μ.1 61 1) + 1500), .int 1, .ref 61]) (by rfl) ?_
          refine zq_iast hc hH (by rfl) 4 (oka_i (by decide +kernel)).2 (show vp_in (nI 1) 4 from vp_in_nI (by decide) (by decide)) ?_
          rw [show (1 : Int32).toNatClampNeg = 1 from rfl]
          show Z 1 97 [(3, .int 1), (1, .int 2), (2, .ref 79), (0, .ref 50)] [] (z_ui (z_ui (z_ui W3 79 3 1) 61 0 ((μ.1 61 0) + (-1500))) 61 1 ((μ.1 61 1) + 1500))
          refine z_rcs0 hc hH 6 (pc' := 68) (lv' := [(3, .int 2), (1, .int 2), (2, .ref 79), (0, .ref 50)]) (st' := [.ref 50]) (by rfl) ?_
          refine zq_gfr hc hH (by rfl) (ci := 6) (f := 29) (q := 61) (by rfl) (by decide +kernel) (by rfl) (by decide +kernel) ?_
          refine z_rcs0 hc hH 2 (pc' := 73) (lv' := [(3, .int 2), (1, .int 2), (2, .ref 79), (0, .ref 50)]) (st' := [.int 2, .ref 61, .int 2, .ref 61]) (by rfl) ?_
          refine zq_iald hc hH (by rfl) 4 (oka_i (by decide +kernel)) (show vp_in (nI 2) 4 from vp_in_nI (by decide) (by decide)) ?_
          rw [show (2 : Int32).toNatClampNeg = 2 from rfl]
          refine zV1 (Z := Z) (Eq.trans (ui_k (by first | decide | omega)) (Eq.trans (ui_k (by first | decide | omega)) (Eq.trans (ui_o (by first | decide | omega)) (Eq.trans (hO3 61 2 (by omega)).1 (Eq.trans (ui_o (by first | decide | omega)) (Eq.trans (hO2 61 2 (by omega)).1 (Eq.trans (ui_o (by first | decide | omega)) (Eq.trans (hO1 61 2 (by omega)).1 (Eq.trans (ui_o (by first | decide | omega)) (hO0 61 2 (by omega)).1))))))))) ?_
          rw [z_zero_o (by decide)]
          refine z_rcs0 hc hH 2 (pc' := 76) (lv' := [(3, .int 2), (1, .int 2), (2, .ref 79), (0, .ref 50)]) (st' := [.int 2, .ref 79, .int (μ.1 61 2), .int 2, .ref 61]) (by rfl) ?_
          refine zq_bald hc hH (by rfl) 4 (by decide +kernel) (show vp_in (nI 2) 4 from vp_in_nI (by decide) (by decide)) ?_
          rw [show (2 : Int32).toNatClampNeg = 2 from rfl]
          refine zV1 (Z := Z) (Eq.trans (ui_o (by first | decide | omega)) (Eq.trans (ui_o (by first | decide | omega)) (Eq.trans (ui_k (by first | decide | omega)) (Eq.trans (hO3 79 2 (by omega)).1 (ui_s))))) ?_
          refine z_rcs0 hc hH 7 (pc' := 96) (lv' := [(3, .int 2), (1, .int 2), (2, .ref 79), (0, .ref 50)]) (st' := [.int ((μ.1 61 2) + (-1500)), .int 2, .ref 61]) (by rfl) ?_
          refine zq_iast hc hH (by rfl) 4 (oka_i (by decide +kernel)).2 (show vp_in (nI 2) 4 from vp_in_nI (by decide) (by decide)) ?_
          rw [show (2 : Int32).toNatClampNeg = 2 from rfl]
          show Z 1 97 [(3, .int 2), (1, .int 2), (2, .ref 79), (0, .ref 50)] [] (z_ui (z_ui (z_ui (z_ui W3 79 3 1) 61 0 ((μ.1 61 0) + (-1500))) 61 1 ((μ.1 61 1) + 1500)) 61 2 ((μ.1 61 2) + (-1500)))
          refine z_rcs0 hc hH 6 (pc' := 68) (lv' := [(3, .int 3), (1, .int 2), (2, .ref 79), (0, .ref 50)]) (st' := [.ref 50]) (by rfl) ?_
          refine zq_gfr hc hH (by rfl) (ci := 6) (f := 29) (q := 61) (by rfl) (by decide +kernel) (by rfl) (by decide +kernel) ?_
          refine z_rcs0 hc hH 2 (pc' := 73) (lv' := [(3, .int 3), (1, .int 2), (2, .ref 79), (0, .ref 50)]) (st' := [.int 3, .ref 61, .int 3, .ref 61]) (by rfl) ?_
          refine zq_iald hc hH (by rfl) 4 (oka_i (by decide +kernel)) (show vp_in (nI 3) 4 from vp_in_nI (by decide) (by decide)) ?_
          rw [show (3 : Int32).toNatClampNeg = 3 from rfl]
          refine zV1 (Z := Z) (Eq.trans (ui_k (by first | decide | omega)) (Eq.trans (ui_k (by first | decide | omega)) (Eq.trans (ui_k (by first | decide | omega)) (Eq.trans (ui_o (by first | decide | omega)) (Eq.trans (hO3 61 3 (by omega)).1 (Eq.trans (ui_o (by first | decide | omega)) (Eq.trans (hO2 61 3 (by omega)).1 (Eq.trans (ui_o (by first | decide | omega)) (Eq.trans (hO1 61 3 (by omega)).1 (Eq.trans (ui_o (by first | decide | omega)) (hO0 61 3 (by omega)).1)))))))))) ?_
          rw [z_zero_o (by decide)]
          refine z_rcs0 hc hH 2 (pc' := 76) (lv' := [(3, .int 3), (1, .int 2), (2, .ref 79), (0, .ref 50)]) (st' := [.int 3, .ref 79, .int (μ.1 61 3), .int 3, .ref 61]) (by rfl) ?_
          refine zq_bald hc hH (by rfl) 4 (by decide +kernel) (show vp_in (nI 3) 4 from vp_in_nI (by decide) (by decide)) ?_
          rw [show (3 : Int32).toNatClampNeg = 3 from rfl]
          refine zV1 (Z := Z) (Eq.trans (ui_o (by first | decide | omega)) (Eq.trans (ui_o (by first | decide | omega)) (Eq.trans (ui_o (by first | decide | omega)) (ui_s)))) ?_
          refine z_rcs0 hc hH 6 (pc' := 96) (lv' := [(3, .int 3), (1, .int 2), (2, .ref 79), (0, .ref 50)]) (st' := [.int ((μ.1 61 3) + 1500), .int 3, .ref 61]) (by rfl) ?_
          refine zq_iast hc hH (by rfl) 4 (oka_i (by decide +kernel)).2 (show vp_in (nI 3) 4 from vp_in_nI (by decide) (by decide)) ?_
          rw [show (3 : Int32).toNatClampNeg = 3 from rfl]
          show Z 1 97 [(3, .int 3), (1, .int 2), (2, .ref 79), (0, .ref 50)] [] (z_ui (z_ui (z_ui (z_ui (z_ui W3 79 3 1) 61 0 ((μ.1 61 0) + (-1500))) 61 1 ((μ.1 61 1) + 1500)) 61 2 ((μ.1 61 2) + (-1500))) 61 3 ((μ.1 61 3) + 1500))
          refine z_rcs0 hc hH 5 (pc' := 103) (lv' := [(3, .int 4), (1, .int 2), (2, .ref 79), (0, .ref 50)]) (st' := []) (by rfl) ?_
          obtain rfl | rfl | rfl | rfl : dl = 0 ∨ dl = 1 ∨ dl = 2 ∨ dl = 3 := by omega
          · skip
            refine z_rcs0 hc hH 3 (pc' := 106) (lv' := [(3, .int 4), (1, .int 2), (2, .ref 79), (0, .ref 50)]) (st' := [.ref 50, .ref 79, .ref 50]) (by rfl) ?_
            refine zq_gfi hc hH (by rfl) (ci := 6) (f := 40) (by rfl) (by decide +kernel) (by rfl) ?_
            refine zV1 (Z := Z) (Eq.trans (ui_o (by first | decide | omega)) (Eq.trans (ui_o (by first | decide | omega)) (Eq.trans (ui_o (by first | decide | omega)) (Eq.trans (ui_o (by first | decide | omega)) (Eq.trans (ui_o (by first | decide | omega)) (Eq.trans (hO3 50 40 (by omega)).1 (Eq.trans (ui_o (by first | decide | omega)) (Eq.trans (hO2 50 40 (by omega)).1 (Eq.trans (ui_o (by first | decide | omega)) (Eq.trans (hO1 50 40 (by omega)).1 (Eq.trans (ui_o (by first | decide | omega)) (hO0 50 40 (by omega)).1))))))))))) ?_
            rw [(z_zero_o (by decide)).trans hdl]
            refine zq_bald hc hH (by rfl) 4 (by decide +kernel) (vp_in_nI (by omega) (by decide)) ?_
            rw [nI_clamp (by omega)]
            refine zV1 (Z := Z) (Eq.trans (ui_o (by first | decide | omega)) (Eq.trans (ui_o (by first | decide | omega)) (Eq.trans (ui_o (by first | decide | omega)) (Eq.trans (ui_o (by first | decide | omega)) (Eq.trans (ui_k (by first | decide | omega)) (Eq.trans (hO3 79 0 (by omega)).1 (Eq.trans (ui_k (by first | decide | omega)) (Eq.trans (hO2 79 0 (by omega)).1 (Eq.trans (ui_k (by first | decide | omega)) (Eq.trans (hO1 79 0 (by omega)).1 (ui_s))))))))))) ?_
            refine z_rcs0 hc hH 1 (pc' := 111) (lv' := [(3, .int 4), (1, .int 2), (2, .ref 79), (0, .ref 50)]) (st' := [.int 1, .int 0, .ref 50]) (by rfl) ?_
            refine zq_call hc (z_cx_ok hH (by rfl)) (gm_endsB d' (by omega) (z_ui (z_ui (z_ui (z_ui (z_ui W3 79 3 1) 61 0 ((μ.1 61 0) + (-1500))) 61 1 ((μ.1 61 1) + 1500)) 61 2 ((μ.1 61 2) + (-1500))) 61 3 ((μ.1 61 3) + 1500)) false true 0 e (by rw [ui_o (by first | decide | omega), ui_o (by first | decide | omega), ui_o (by first | decide | omega), ui_o (by first | decide | omega), ui_o (by first | decide | omega), (hO3 50 40 (by omega)).1, ui_o (by first | decide | omega), (hO2 50 40 (by omega)).1, ui_o (by first | decide | omega), (hO1 50 40 (by omega)).1, ui_o (by first | decide | omega), (hO0 50 40 (by omega)).1]; exact (z_zero_o (by decide)).trans hdl) hdl4 he) (by decide +kernel) (fun r9 μ9 hq => ?_)
            obtain ⟨hr9, hm9⟩ := hq
            rw [hr9, hm9]
            clear hr9 hm9
            show Z 1 114 [(3, .int 4), (1, .int 2), (2, .ref 79), (0, .ref 50)] [] (eMB (z_ui (z_ui (z_ui (z_ui (z_ui W3 79 3 1) 61 0 ((μ.1 61 0) + (-1500))) 61 1 ((μ.1 61 1) + 1500)) 61 2 ((μ.1 61 2) + (-1500))) 61 3 ((μ.1 61 3) + 1500)) false true 0 e)
            exact hr 1 114 _ _ _ none (by decide +kernel) (by rfl) (by refine ⟨rfl, ?_⟩; unfold nM0101; exact SM_eMB (SM_ui (SM_ui (SM_ui (SM_ui (SM_ui (SM_tr (SM_ui (SM_tr (SM_ui (SM_tr (SM_ui (SM_tr (SM_rf _) hO0)) hO1)) hO2)) hO3)))))))
          · skip
            refine z_rcs hc hH 3 (pc' := 106) (lv' := [(3, .int 4), (1, .int 2), (2, .ref 79), (0, .ref 50)]) (st' := [.ref 50, .ref 79, .ref 50]) (μ' := z_ui (z_ui (z_ui (z_ui (z_ui W3 79 3 1) 61 0 ((μ.1 61 0) + (-1500))) 61 1 ((μ.1 61 1) + 1500)) 61 2 ((μ.1 61 2) + (-1500))) 61 3 ((μ.1 61 3) + 1500)) (by rfl) ?_
            refine zq_gfi hc hH (by rfl) (ci := 6) (f := 40) (by rfl) (by decide +kernel) (by rfl) ?_
            refine zV1 (Z := Z) (Eq.trans (ui_o (by first | decide | omega)) (Eq.trans (ui_o (by first | decide | omega)) (Eq.trans (ui_o (by first | decide | omega)) (Eq.trans (ui_o (by first | decide | omega)) (Eq.trans (ui_o (by first | decide | omega)) (Eq.trans (hO3 50 40 (by omega)).1 (Eq.trans (ui_o (by first | decide | omega)) (Eq.trans (hO2 50 40 (by omega)).1 (Eq.trans (ui_o (by first | decide | omega)) (Eq.trans (hO1 50 40 (by omega)).1 (Eq.trans (ui_o (by first | decide | omega)) (hO0 50 40 (by omega)).1))))))))))) ?_
            rw [(z_zero_o (by decide)).trans hdl]
            refine zq_bald hc hH (by rfl) 4 (by decide +kernel) (vp_in_nI (by omega) (by decide)) ?_
            rw [nI_clamp (by omega)]
            refine zV1 (Z := Z) (Eq.trans (ui_o (by first | decide | omega)) (Eq.trans (ui_o (by first | decide | omega)) (Eq.trans (ui_o (by first | decide | omega)) (Eq.trans (ui_o (by first | decide | omega)) (Eq.trans (ui_k (by first | decide | omega)) (Eq.trans (hO3 79 1 (by omega)).1 (Eq.trans (ui_k (by first | decide | omega)) (Eq.trans (hO2 79 1 (by omega)).1 (ui_s))))))))) ?_
            refine z_rcs0 hc hH 1 (pc' := 111) (lv' := [(3, .int 4), (1, .int 2), (2, .ref 79), (0, .ref 50)]) (st' := [.int 1, .int 1, .ref 50]) (by rfl) ?_
            refine zq_call hc (z_cx_ok hH (by rfl)) (gm_endsB d' (by omega) (z_ui (z_ui (z_ui (z_ui (z_ui W3 79 3 1) 61 0 ((μ.1 61 0) + (-1500))) 61 1 ((μ.1 61 1) + 1500)) 61 2 ((μ.1 61 2) + (-1500))) 61 3 ((μ.1 61 3) + 1500)) true true 1 e (by rw [ui_o (by first | decide | omega), ui_o (by first | decide | omega), ui_o (by first | decide | omega), ui_o (by first | decide | omega), ui_o (by first | decide | omega), (hO3 50 40 (by omega)).1, ui_o (by first | decide | omega), (hO2 50 40 (by omega)).1, ui_o (by first | decide | omega), (hO1 50 40 (by omega)).1, ui_o (by first | decide | omega), (hO0 50 40 (by omega)).1]; exact (z_zero_o (by decide)).trans hdl) hdl4 he) (by decide +kernel) (fun r9 μ9 hq => ?_)
            obtain ⟨hr9, hm9⟩ := hq
            rw [hr9, hm9]
            clear hr9 hm9
            show Z 1 114 [(3, .int 4), (1, .int 2), (2, .ref 79), (0, .ref 50)] [] (eMB (z_ui (z_ui (z_ui (z_ui (z_ui W3 79 3 1) 61 0 ((μ.1 61 0) + (-1500))) 61 1 ((μ.1 61 1) + 1500)) 61 2 ((μ.1 61 2) + (-1500))) 61 3 ((μ.1 61 3) + 1500)) true true 1 e)
            exact hr 1 114 _ _ _ none (by decide +kernel) (by rfl) (by refine ⟨rfl, ?_⟩; unfold nM0101; exact SM_eMB (SM_ui (SM_ui (SM_ui (SM_ui (SM_ui (SM_tr (SM_ui (SM_tr (SM_ui (SM_tr (SM_ui (SM_tr (SM_rf _) hO0)) hO1)) hO2)) hO3)))))))
          · skip
            refine z_rcs hc hH 3 (pc' := 106) (lv' := [(3, .int 4), (1, .int 2), (2, .ref 79), (0, .ref 50)]) (st' := [.ref 50, .ref 79, .ref 50]) (μ' := z_ui (z_ui (z_ui (z_ui (z_ui W3 79 3 1) 61 0 ((μ.1 61 0) + (-1500))) 61 1 ((μ.1 61 1) + 1500)) 61 2 ((μ.1 61 2) + (-1500))) 61 3 ((μ.1 61 3) + 1500)) (by rfl) ?_
            refine zq_gfi hc hH (by rfl) (ci := 6) (f := 40) (by rfl) (by decide +kernel) (by rfl) ?_
            refine zV1 (Z := Z) (Eq.trans (ui_o (by first | decide | omega)) (Eq.trans (ui_o (by first | decide | omega)) (Eq.trans (ui_o (by first | decide | omega)) (Eq.trans (ui_o (by first | decide | omega)) (Eq.trans (ui_o (by first | decide | omega)) (Eq.trans (hO3 50 40 (by omega)).1 (Eq.trans (ui_o (by first | decide | omega)) (Eq.trans (hO2 50 40 (by omega)).1 (Eq.trans (ui_o (by first | decide | omega)) (Eq.trans (hO1 50 40 (by omega)).1 (Eq.trans (ui_o (by first | decide | omega)) (hO0 50 40 (by omega)).1))))))))))) ?_
            rw [(z_zero_o (by decide)).trans hdl]
            refine zq_bald hc hH (by rfl) 4 (by decide +kernel) (vp_in_nI (by omega) (by decide)) ?_
            rw [nI_clamp (by omega)]
            refine zV1 (Z := Z) (Eq.trans (ui_o (by first | decide | omega)) (Eq.trans (ui_o (by first | decide | omega)) (Eq.trans (ui_o (by first | decide | omega)) (Eq.trans (ui_o (by first | decide | omega)) (Eq.trans (ui_k (by first | decide | omega)) (Eq.trans (hO3 79 2 (by omega)).1 (ui_s))))))) ?_
            refine z_rcs0 hc hH 1 (pc' := 111) (lv' := [(3, .int 4), (1, .int 2), (2, .ref 79), (0, .ref 50)]) (st' := [.int 1, .int 0, .ref 50]) (by rfl) ?_
            refine zq_call hc (z_cx_ok hH (by rfl)) (gm_endsB d' (by omega) (z_ui (z_ui (z_ui (z_ui (z_ui W3 79 3 1) 61 0 ((μ.1 61 0) + (-1500))) 61 1 ((μ.1 61 1) + 1500)) 61 2 ((μ.1 61 2) + (-1500))) 61 3 ((μ.1 61 3) + 1500)) false true 2 e (by rw [ui_o (by first | decide | omega), ui_o (by first | decide | omega), ui_o (by first | decide | omega), ui_o (by first | decide | omega), ui_o (by first | decide | omega), (hO3 50 40 (by omega)).1, ui_o (by first | decide | omega), (hO2 50 40 (by omega)).1, ui_o (by first | decide | omega), (hO1 50 40 (by omega)).1, ui_o (by first | decide | omega), (hO0 50 40 (by omega)).1]; exact (z_zero_o (by decide)).trans hdl) hdl4 he) (by decide +kernel) (fun r9 μ9 hq => ?_)
            obtain ⟨hr9, hm9⟩ := hq
            rw [hr9, hm9]
            clear hr9 hm9
            show Z 1 114 [(3, .int 4), (1, .int 2), (2, .ref 79), (0, .ref 50)] [] (eMB (z_ui (z_ui (z_ui (z_ui (z_ui W3 79 3 1) 61 0 ((μ.1 61 0) + (-1500))) 61 1 ((μ.1 61 1) + 1500)) 61 2 ((μ.1 61 2) + (-1500))) 61 3 ((μ.1 61 3) + 1500)) false true 2 e)
            exact hr 1 114 _ _ _ none (by decide +kernel) (by rfl) (by refine ⟨rfl, ?_⟩; unfold nM0101; exact SM_eMB (SM_ui (SM_ui (SM_ui (SM_ui (SM_ui (SM_tr (SM_ui (SM_tr (SM_ui (SM_tr (SM_ui (SM_tr (SM_rf _) hO0)) hO1)) hO2)) hO3)))))))
          · skip
            refine z_rcs hc hH 3 (pc' := 106) (lv' := [(3, .int 4), (1, .int 2), (2, .ref 79), (0, .ref 50)]) (st' := [.ref 50, .ref 79, .ref 50]) (μ' := z_ui (z_ui (z_ui (z_ui (z_ui W3 79 3 1) 61 0 ((μ.1 61 0) + (-1500))) 61 1 ((μ.1 61 1) + 1500)) 61 2 ((μ.1 61 2) + (-1500))) 61 3 ((μ.1 61 3) + 1500)) (by rfl) ?_
            refine zq_gfi hc hH (by rfl) (ci := 6) (f := 40) (by rfl) (by decide +kernel) (by rfl) ?_
            refine zV1 (Z := Z) (Eq.trans (ui_o (by first | decide | omega)) (Eq.trans (ui_o (by first | decide | omega)) (Eq.trans (ui_o (by first | decide | omega)) (Eq.trans (ui_o (by first | decide | omega)) (Eq.trans (ui_o (by first | decide | omega)) (Eq.trans (hO3 50 40 (by omega)).1 (Eq.trans (ui_o (by first | decide | omega)) (Eq.trans (hO2 50 40 (by omega)).1 (Eq.trans (ui_o (by first | decide | omega)) (Eq.trans (hO1 50 40 (by omega)).1 (Eq.trans (ui_o (by first | decide | omega)) (hO0 50 40 (by omega)).1))))))))))) ?_
            rw [(z_zero_o (by decide)).trans hdl]
            refine zq_bald hc hH (by rfl) 4 (by decide +kernel) (vp_in_nI (by omega) (by decide)) ?_
            rw [nI_clamp (by omega)]
            refine zV1 (Z := Z) (Eq.trans (ui_o (by first | decide | omega)) (Eq.trans (ui_o (by first | decide | omega)) (Eq.trans (ui_o (by first | decide | omega)) (Eq.trans (ui_o (by first | decide | omega)) (ui_s))))) ?_
            refine z_rcs0 hc hH 1 (pc' := 111) (lv' := [(3, .int 4), (1, .int 2), (2, .ref 79), (0, .ref 50)]) (st' := [.int 1, .int 1, .ref 50]) (by rfl) ?_
            refine zq_call hc (z_cx_ok hH (by rfl)) (gm_endsB d' (by omega) (z_ui (z_ui (z_ui (z_ui (z_ui W3 79 3 1) 61 0 ((μ.1 61 0) + (-1500))) 61 1 ((μ.1 61 1) + 1500)) 61 2 ((μ.1 61 2) + (-1500))) 61 3 ((μ.1 61 3) + 1500)) true true 3 e (by rw [ui_o (by first | decide | omega), ui_o (by first | decide | omega), ui_o (by first | decide | omega), ui_o (by first | decide | omega), ui_o (by first | decide | omega), (hO3 50 40 (by omega)).1, ui_o (by first | decide | omega), (hO2 50 40 (by omega)).1, ui_o (by first | decide | omega), (hO1 50 40 (by omega)).1, ui_o (by first | decide | omega), (hO0 50 40 (by omega)).1]; exact (z_zero_o (by decide)).trans hdl) hdl4 he) (by decide +kernel) (fun r9 μ9 hq => ?_)
            obtain ⟨hr9, hm9⟩ := hq
            rw [hr9, hm9]
            clear hr9 hm9
            show Z 1 114 [(3, .int 4), (1, .int 2), (2, .ref 79), (0, .ref 50)] [] (eMB (z_ui (z_ui (z_ui (z_ui (z_ui W3 79 3 1) 61 0 ((μ.1 61 0) + (-1500))) 61 1 ((μ.1 61 1) + 1500)) 61 2 ((μ.1 61 2) + (-1500))) 61 3 ((μ.1 61 3) + 1500)) true true 3 e)
            exact hr 1 114 _ _ _ none (by decide +kernel) (by rfl) (by refine ⟨rfl, ?_⟩; unfold nM0101; exact SM_eMB (SM_ui (SM_ui (SM_ui (SM_ui (SM_ui (SM_tr (SM_ui (SM_tr (SM_ui (SM_tr (SM_ui (SM_tr (SM_rf _) hO0)) hO1)) hO2)) hO3)))))))
      · have h3 : (decide ((lg_cmp w2 0) = 0)) = false := decide_eq_false (cn_eq.mp h3)
        exact absurd (Eq.trans (Eq.symm (hb2)) h3) (by decide)
  · have h1 : (decide ((lg_cmp w0 0) = 0)) = false := decide_eq_false (cn_eq.mp h1)
    exact absurd (Eq.trans (Eq.symm (hb0)) h1) (by decide)
noncomputable def nM0110 (μ : zM) : zM := z_ui (z_ui (z_ui (z_ui (z_ui (z_ui (z_ui (z_ui (z_zero μ) 79 0 0) 79 1 1) 79 2 1) 79 3 0) 61 0 ((μ.1 61 0) + (-1500))) 61 1 ((μ.1 61 1) + 1500)) 61 2 ((μ.1 61 2) + 1500)) 61 3 ((μ.1 61 3) + (-1500))
theorem gm_nobody0110 (d : Nat) (hd : 700 ≤ d) (μ : zM) (hH0 : a_H μ) (dl e : Nat) (hdl : μ.1 50 40 = nI dl) (hdl4 : dl < 4) (he : (dl + 1) % 4 = e) (w0 : Int64) (hw0 : ∀ M, SE μ M → a_H M → ∀ d, 699 ≤ d → z_C d mi_X7_waitsAt [.ref 50, .int 0] M (fun r W => r = some (.long w0) ∧ SMj M W ∧ a_H W)) (hb0 : decide (lg_cmp w0 0 = 0) = true) (w1 : Int64) (hw1 : ∀ M, SE μ M → a_H M → ∀ d, 699 ≤ d → z_C d mi_X7_waitsAt [.ref 50, .int 1] M (fun r W => r = some (.long w1) ∧ SMj M W ∧ a_H W)) (hb1 : decide (lg_cmp w1 0 = 0) = false) (w2 : Int64) (hw2 : ∀ M, SE μ M → a_H M → ∀ d, 699 ≤ d → z_C d mi_X7_waitsAt [.ref 50, .int 2] M (fun r W => r = some (.long w2) ∧ SMj M W ∧ a_H W)) (hb2 : decide (lg_cmp w2 0 = 0) = false) (w3 : Int64) (hw3 : ∀ M, SE μ M → a_H M → ∀ d, 699 ≤ d → z_C d mi_X7_waitsAt [.ref 50, .int 3] M (fun r W => r = some (.long w3) ∧ SMj M W ∧ a_H W)) (hb3 : decide (lg_cmp w3 0 = 0) = true) : z_C d mi_X7_nobodyWins [.ref 50] μ (fun r μ' => r = none ∧ SMj (eMB (nM0110 μ) (nbS false true true false dl) true dl e) μ') := by
  obtain ⟨d', rfl⟩ : ∃ d', d = d' + 1 := ⟨d - 1, by omega⟩
  intro Z hc hr
  refine ⟨rfl, ?_⟩
  have hH := zh_X7_nobodyWins
  refine z_rcs hc hH 9 (pc' := 17) (lv' := [(3, .int 0), (2, .ref 79), (1, .int 0), (0, .ref 50)]) (st' := [.int 0, .ref 50, .int 0, .ref 79]) (μ' := z_zero μ) (by rfl) ?_
  refine zq_call hc (z_cx_ok hH (by rfl)) (hw0 _ (SE_zr _) (a_H_zero hH0) d' (by omega)) (by decide +kernel) (fun r9 W0 hq => ?_)
  obtain ⟨rfl, hO0, hA0⟩ := hq
  show Z 1 20 [(3, .int 0), (2, .ref 79), (1, .int 0), (0, .ref 50)] [.long w0, .int 0, .ref 79] W0
  refine z_rcs hc hH 2 (pc' := 22) (lv' := [(3, .int 0), (2, .ref 79), (1, .int 0), (0, .ref 50)]) (st' := [.int (lg_cmp w0 0), .int 0, .ref 79]) (μ' := W0) (by rfl) ?_
  refine zq_if hc hH (by rfl) (tg := 29) (by rfl) (fun h1 => ?_) (fun h1 => ?_)
  · have h1 : (decide ((lg_cmp w0 0) = 0)) = true := decide_eq_true (cm_eq9.mp h1)
    refine z_rcs hc hH 1 (pc' := 30) (lv' := [(3, .int 0), (2, .ref 79), (1, .int 0), (0, .ref 50)]) (st' := [.int 0, .int 0, .ref 79]) (μ' := W0) (by rfl) ?_
    refine zq_bast hc hH (by rfl) 4 (by decide +kernel) (show vp_in (nI 0) 4 from vp_in_nI (by decide) (by decide)) (by decide) ?_
    rw [show (0 : Int32).toNatClampNeg = 0 from rfl]
    show Z 1 31 [(3, .int 0), (2, .ref 79), (1, .int 0), (0, .ref 50)] [] (z_ui W0 79 0 0)
    refine z_rcs hc hH 3 (pc' := 34) (lv' := [(3, .int 0), (2, .ref 79), (1, .int 0), (0, .ref 50)]) (st' := [.int 0, .ref 79, .int 0]) (μ' := z_ui W0 79 0 0) (by rfl) ?_
    refine zq_bald hc hH (by rfl) 4 (by decide +kernel) (show vp_in (nI 0) 4 from vp_in_nI (by decide) (by decide)) ?_
    rw [show (0 : Int32).toNatClampNeg = 0 from rfl]
    rw [ui_s]
    refine z_rcs hc hH 13 (pc' := 17) (lv' := [(3, .int 1), (1, .int 0), (2, .ref 79), (0, .ref 50)]) (st' := [.int 1, .ref 50, .int 1, .ref 79]) (μ' := z_ui W0 79 0 0) (by rfl) ?_
    refine zq_call hc (z_cx_ok hH (by rfl)) (hw1 _ (SE_ui (SE_sm (SE_zr _) hO0) (by omega)) (a_H_ui (r := 79) (k := 0) (hA0) ⟨by decide, by decide⟩) d' (by omega)) (by decide +kernel) (fun r9 W1 hq => ?_)
    obtain ⟨rfl, hO1, hA1⟩ := hq
    show Z 1 20 [(3, .int 1), (1, .int 0), (2, .ref 79), (0, .ref 50)] [.long w1, .int 1, .ref 79] W1
    refine z_rcs hc hH 2 (pc' := 22) (lv' := [(3, .int 1), (1, .int 0), (2, .ref 79), (0, .ref 50)]) (st' := [.int (lg_cmp w1 0), .int 1, .ref 79]) (μ' := W1) (by rfl) ?_
    refine zq_if hc hH (by rfl) (tg := 29) (by rfl) (fun h2 => ?_) (fun h2 => ?_)
    · have h2 : (decide ((lg_cmp w1 0) = 0)) = true := decide_eq_true (cm_eq9.mp h2)
      exact absurd (Eq.trans (Eq.symm (hb1)) h2) (by decide)
    · have h2 : (decide ((lg_cmp w1 0) = 0)) = false := decide_eq_false (cn_eq.mp h2)
      refine z_rcs hc hH 2 (pc' := 30) (lv' := [(3, .int 1), (1, .int 0), (2, .ref 79), (0, .ref 50)]) (st' := [.int 1, .int 1, .ref 79]) (μ' := W1) (by rfl) ?_
      refine zq_bast hc hH (by rfl) 4 (by decide +kernel) (show vp_in (nI 1) 4 from vp_in_nI (by decide) (by decide)) (by decide) ?_
      rw [show (1 : Int32).toNatClampNeg = 1 from rfl]
      show Z 1 31 [(3, .int 1), (1, .int 0), (2, .ref 79), (0, .ref 50)] [] (z_ui W1 79 1 1)
      refine z_rcs hc hH 3 (pc' := 34) (lv' := [(3, .int 1), (1, .int 0), (2, .ref 79), (0, .ref 50)]) (st' := [.int 1, .ref 79, .int 0]) (μ' := z_ui W1 79 1 1) (by rfl) ?_
      refine zq_bald hc hH (by rfl) 4 (by decide +kernel) (show vp_in (nI 1) 4 from vp_in_nI (by decide) (by decide)) ?_
      rw [show (1 : Int32).toNatClampNeg = 1 from rfl]
      rw [ui_s]
      refine z_rcs hc hH 14 (pc' := 17) (lv' := [(3, .int 2), (1, .int 1), (2, .ref 79), (0, .ref 50)]) (st' := [.int 2, .ref 50, .int 2, .ref 79]) (μ' := z_ui W1 79 1 1) (by rfl) ?_
      refine zq_call hc (z_cx_ok hH (by rfl)) (hw2 _ (SE_ui (SE_sm (SE_ui (SE_sm (SE_zr _) hO0) (by omega)) hO1) (by omega)) (a_H_ui (r := 79) (k := 1) (hA1) ⟨by decide, by decide⟩) d' (by omega)) (by decide +kernel) (fun r9 W2 hq => ?_)
      obtain ⟨rfl, hO2, hA2⟩ := hq
      show Z 1 20 [(3, .int 2), (1, .int 1), (2, .ref 79), (0, .ref 50)] [.long w2, .int 2, .ref 79] W2
      refine z_rcs hc hH 2 (pc' := 22) (lv' := [(3, .int 2), (1, .int 1), (2, .ref 79), (0, .ref 50)]) (st' := [.int (lg_cmp w2 0), .int 2, .ref 79]) (μ' := W2) (by rfl) ?_
      refine zq_if hc hH (by rfl) (tg := 29) (by rfl) (fun h3 => ?_) (fun h3 => ?_)
      · have h3 : (decide ((lg_cmp w2 0) = 0)) = true := decide_eq_true (cm_eq9.mp h3)
        exact absurd (Eq.trans (Eq.symm (hb2)) h3) (by decide)
      · have h3 : (decide ((lg_cmp w2 0) = 0)) = false := decide_eq_false (cn_eq.mp h3)
        refine z_rcs hc hH 2 (pc' := 30) (lv' := [(3, .int 2), (1, .int 1), (2, .ref 79), (0, .ref 50)]) (st' := [.int 1, .int 2, .ref 79]) (μ' := W2) (by rfl) ?_
        refine zq_bast hc hH (by rfl) 4 (by decide +kernel) (show vp_in (nI 2) 4 from vp_in_nI (by decide) (by decide)) (by decide) ?_
        rw [show (2 : Int32).toNatClampNeg = 2 from rfl]
        show Z 1 31 [(3, .int 2), (1, .int 1), (2, .ref 79), (0, .ref 50)] [] (z_ui W2 79 2 1)
        refine z_rcs hc hH 3 (pc' := 34) (lv' := [(3, .int 2), (1, .int 1), (2, .ref 79), (0, .ref 50)]) (st' := [.int 2, .ref 79, .int 1]) (μ' := z_ui W2 79 2 1) (by rfl) ?_
        refine zq_bald hc hH (by rfl) 4 (by decide +kernel) (show vp_in (nI 2) 4 from vp_in_nI (by decide) (by decide)) ?_
        rw [show (2 : Int32).toNatClampNeg = 2 from rfl]
        rw [ui_s]
        refine z_rcs hc hH 14 (pc' := 17) (lv' := [(3, .int 3), (1, .int 2), (2, .ref 79), (0, .ref 50)]) (st' := [.int 3, .ref 50, .int 3, .ref 79]) (μ' := z_ui W2 79 2 1) (by rfl) ?_
        refine zq_call hc (z_cx_ok hH (by rfl)) (hw3 _ (SE_ui (SE_sm (SE_ui (SE_sm (SE_ui (SE_sm (SE_zr _) hO0) (by omega)) hO1) (by omega)) hO2) (by omega)) (a_H_ui (r := 79) (k := 2) (hA2) ⟨by decide, by decide⟩) d' (by omega)) (by decide +kernel) (fun r9 W3 hq => ?_)
        obtain ⟨rfl, hO3, hA3⟩ := hq
        show Z 1 20 [(3, .int 3), (1, .int 2), (2, .ref 79), (0, .ref 50)] [.long w3, .int 3, .ref 79] W3
        refine z_rcs hc hH 2 (pc' := 22) (lv' := [(3, .int 3), (1, .int 2), (2, .ref 79), (0, .ref 50)]) (st' := [.int (lg_cmp w3 0), .int 3, .ref 79]) (μ' := W3) (by rfl) ?_
        refine zq_if hc hH (by rfl) (tg := 29) (by rfl) (fun h4 => ?_) (fun h4 => ?_)
        · have h4 : (decide ((lg_cmp w3 0) = 0)) = true := decide_eq_true (cm_eq9.mp h4)
          refine z_rcs hc hH 1 (pc' := 30) (lv' := [(3, .int 3), (1, .int 2), (2, .ref 79), (0, .ref 50)]) (st' := [.int 0, .int 3, .ref 79]) (μ' := W3) (by rfl) ?_
          refine zq_bast hc hH (by rfl) 4 (by decide +kernel) (show vp_in (nI 3) 4 from vp_in_nI (by decide) (by decide)) (by decide) ?_
          rw [show (3 : Int32).toNatClampNeg = 3 from rfl]
          show Z 1 31 [(3, .int 3), (1, .int 2), (2, .ref 79), (0, .ref 50)] [] (z_ui W3 79 3 0)
          refine z_rcs hc hH 3 (pc' := 34) (lv' := [(3, .int 3), (1, .int 2), (2, .ref 79), (0, .ref 50)]) (st' := [.int 3, .ref 79, .int 2]) (μ' := z_ui W3 79 3 0) (by rfl) ?_
          refine zq_bald hc hH (by rfl) 4 (by decide +kernel) (show vp_in (nI 3) 4 from vp_in_nI (by decide) (by decide)) ?_
          rw [show (3 : Int32).toNatClampNeg = 3 from rfl]
          rw [ui_s]
          refine z_rcs hc hH 20 (pc' := 68) (lv' := [(3, .int 0), (1, .int 2), (2, .ref 79), (0, .ref 50)]) (st' := [.ref 50]) (μ' := z_ui W3 79 3 0) (by rfl) ?_
          refine zq_gfr hc hH (by rfl) (ci := 6) (f := 29) (q := 61) (by rfl) (by decide +kernel) (by rfl) (by decide +kernel) ?_
          refine z_rcs hc hH 2 (pc' := 73) (lv' := [(3, .int 0), (1, .int 2), (2, .ref 79), (0, .ref 50)]) (st' := [.int 0, .ref 61, .int 0, .ref 61]) (μ' := z_ui W3 79 3 0) (by rfl) ?_
          refine zq_iald hc hH (by rfl) 4 (oka_i (by decide +kernel)) (show vp_in (nI 0) 4 from vp_in_nI (by decide) (by decide)) ?_
          rw [show (0 : Int32).toNatClampNeg = 0 from rfl]
          refine zV1 (Z := Z) (Eq.trans (ui_o (by first | decide | omega)) (Eq.trans (hO3 61 0 (by omega)).1 (Eq.trans (ui_o (by first | decide | omega)) (Eq.trans (hO2 61 0 (by omega)).1 (Eq.trans (ui_o (by first | decide | omega)) (Eq.trans (hO1 61 0 (by omega)).1 (Eq.trans (ui_o (by first | decide | omega)) (hO0 61 0 (by omega)).1))))))) ?_
          rw [z_zero_o (by decide)]
          refine z_rcs hc hH 2 (pc' := 76) (lv' := [(3, .int 0), (1, .int 2), (2, .ref 79), (0, .ref 50)]) (st' := [.int 0, .ref 79, .int (μ.1 61 0), .int 0, .ref 61]) (μ' := z_ui W3 79 3 0) (by rfl) ?_
          refine zq_bald hc hH (by rfl) 4 (by decide +kernel) (show vp_in (nI 0) 4 from vp_in_nI (by decide) (by decide)) ?_
          rw [show (0 : Int32).toNatClampNeg = 0 from rfl]
          refine zV1 (Z := Z) (Eq.trans (ui_k (by first | decide | omega)) (Eq.trans (hO3 79 0 (by omega)).1 (Eq.trans (ui_k (by first | decide | omega)) (Eq.trans (hO2 79 0 (by omega)).1 (Eq.trans (ui_k (by first | decide | omega)) (Eq.trans (hO1 79 0 (by omega)).1 (ui_s))))))) ?_
          refine z_rcs hc hH 7 (pc' := 96) (lv' := [(3, .int 0), (1, .int 2), (2, .ref 79), (0, .ref 50)]) (st' := [.int ((μ.1 61 0) + (-1500)), .int 0, .ref 61]) (μ' := z_ui W3 79 3 0) (by rfl) ?_
          refine zq_iast hc hH (by rfl) 4 (oka_i (by decide +kernel)).2 (show vp_in (nI 0) 4 from vp_in_nI (by decide) (by decide)) ?_
          rw [show (0 : Int32).toNatClampNeg = 0 from rfl]
          show Z 1 97 [(3, .int 0), (1, .int 2), (2, .ref 79), (0, .ref 50)] [] (z_ui (z_ui W3 79 3 0) 61 0 ((μ.1 61 0) + (-1500)))
          refine z_rcs0 hc hH 6 (pc' := 68) (lv' := [(3, .int 1), (1, .int 2), (2, .ref 79), (0, .ref 50)]) (st' := [.ref 50]) (by rfl) ?_
          refine zq_gfr hc hH (by rfl) (ci := 6) (f := 29) (q := 61) (by rfl) (by decide +kernel) (by rfl) (by decide +kernel) ?_
          refine z_rcs0 hc hH 2 (pc' := 73) (lv' := [(3, .int 1), (1, .int 2), (2, .ref 79), (0, .ref 50)]) (st' := [.int 1, .ref 61, .int 1, .ref 61]) (by rfl) ?_
          refine zq_iald hc hH (by rfl) 4 (oka_i (by decide +kernel)) (show vp_in (nI 1) 4 from vp_in_nI (by decide) (by decide)) ?_
          rw [show (1 : Int32).toNatClampNeg = 1 from rfl]
          refine zV1 (Z := Z) (Eq.trans (ui_k (by first | decide | omega)) (Eq.trans (ui_o (by first | decide | omega)) (Eq.trans (hO3 61 1 (by omega)).1 (Eq.trans (ui_o (by first | decide | omega)) (Eq.trans (hO2 61 1 (by omega)).1 (Eq.trans (ui_o (by first | decide | omega)) (Eq.trans (hO1 61 1 (by omega)).1 (Eq.trans (ui_o (by first | decide | omega)) (hO0 61 1 (by omega)).1)))))))) ?_
          rw [z_zero_o (by decide)]
          refine z_rcs0 hc hH 2 (pc' := 76) (lv' := [(3, .int 1), (1, .int 2), (2, .ref 79), (0, .ref 50)]) (st' := [.int 1, .ref 79, .int (μ.1 61 1), .int 1, .ref 61]) (by rfl) ?_
          refine zq_bald hc hH (by rfl) 4 (by decide +kernel) (show vp_in (nI 1) 4 from vp_in_nI (by decide) (by decide)) ?_
          rw [show (1 : Int32).toNatClampNeg = 1 from rfl]
          refine zV1 (Z := Z) (Eq.trans (ui_o (by first | decide | omega)) (Eq.trans (ui_k (by first | decide | omega)) (Eq.trans (hO3 79 1 (by omega)).1 (Eq.trans (ui_k (by first | decide | omega)) (Eq.trans (hO2 79 1 (by omega)).1 (ui_s)))))) ?_
          refine z_rcs0 hc hH 6 (pc' := 96) (lv' := [(3, .int 1), (1, .int 2), (2, .ref 79), (0, .ref 50)]) (st' := [.int ((μ.1 61 1) + 1500), .int 1, .ref 61]) (by rfl) ?_
          refine zq_iast hc hH (by rfl) 4 (oka_i (by decide +kernel)).2 (show vp_in (nI 1) 4 from vp_in_nI (by decide) (by decide)) ?_
          rw [show (1 : Int32).toNatClampNeg = 1 from rfl]
          show Z 1 97 [(3, .int 1), (1, .int 2), (2, .ref 79), (0, .ref 50)] [] (z_ui (z_ui (z_ui W3 79 3 0) 61 0 ((μ.1 61 0) + (-1500))) 61 1 ((μ.1 61 1) + 1500))
          refine z_rcs0 hc hH 6 (pc' := 68) (lv' := [(3, .int 2), (1, .int 2), (2, .ref 79), (0, .ref 50)]) (st' := [.ref 50]) (by rfl) ?_
          refine zq_gfr hc hH (by rfl) (ci := 6) (f := 29) (q := 61) (by rfl) (by decide +kernel) (by rfl) (by decide +kernel) ?_
          refine z_rcs0 hc hH 2 (pc' := 73) (lv' := [(3, .int 2), (1, .int 2), (2, .ref 79), (0, .ref 50)]) (st' := [.int 2, .ref 61, .int 2, .ref 61]) (by rfl) ?_
          refine zq_iald hc hH (by rfl) 4 (oka_i (by decide +kernel)) (show vp_in (nI 2) 4 from vp_in_nI (by decide) (by decide)) ?_
          rw [show (2 : Int32).toNatClampNeg = 2 from rfl]
          refine zV1 (Z := Z) (Eq.trans (ui_k (by first | decide | omega)) (Eq.trans (ui_k (by first | decide | omega)) (Eq.trans (ui_o (by first | decide | omega)) (Eq.trans (hO3 61 2 (by omega)).1 (Eq.trans (ui_o (by first | decide | omega)) (Eq.trans (hO2 61 2 (by omega)).1 (Eq.trans (ui_o (by first | decide | omega)) (Eq.trans (hO1 61 2 (by omega)).1 (Eq.trans (ui_o (by first | decide | omega)) (hO0 61 2 (by omega)).1))))))))) ?_
          rw [z_zero_o (by decide)]
          refine z_rcs0 hc hH 2 (pc' := 76) (lv' := [(3, .int 2), (1, .int 2), (2, .ref 79), (0, .ref 50)]) (st' := [.int 2, .ref 79, .int (μ.1 61 2), .int 2, .ref 61]) (by rfl) ?_
          refine zq_bald hc hH (by rfl) 4 (by decide +kernel) (show vp_in (nI 2) 4 from vp_in_nI (by decide) (by decide)) ?_
          rw [show (2 : Int32).toNatClampNeg = 2 from rfl]
          refine zV1 (Z := Z) (Eq.trans (ui_o (by first | decide | omega)) (Eq.trans (ui_o (by first | decide | omega)) (Eq.trans (ui_k (by first | decide | omega)) (Eq.trans (hO3 79 2 (by omega)).1 (ui_s))))) ?_
          refine z_rcs0 hc hH 6 (pc' := 96) (lv' := [(3, .int 2), (1, .int 2), (2, .ref 79), (0, .ref 50)]) (st' := [.int ((μ.1 61 2) + 1500), .int 2, .ref 61]) (by rfl) ?_
          refine zq_iast hc hH (by rfl) 4 (oka_i (by decide +kernel)).2 (show vp_in (nI 2) 4 from vp_in_nI (by decide) (by decide)) ?_
          rw [show (2 : Int32).toNatClampNeg = 2 from rfl]
          show Z 1 97 [(3, .int 2), (1, .int 2), (2, .ref 79), (0, .ref 50)] [] (z_ui (z_ui (z_ui (z_ui W3 79 3 0) 61 0 ((μ.1 61 0) + (-1500))) 61 1 ((μ.1 61 1) + 1500)) 61 2 ((μ.1 61 2) + 1500))
          refine z_rcs0 hc hH 6 (pc' := 68) (lv' := [(3, .int 3), (1, .int 2), (2, .ref 79), (0, .ref 50)]) (st' := [.ref 50]) (by rfl) ?_
          refine zq_gfr hc hH (by rfl) (ci := 6) (f := 29) (q := 61) (by rfl) (by decide +kernel) (by rfl) (by decide +kernel) ?_
          refine z_rcs0 hc hH 2 (pc' := 73) (lv' := [(3, .int 3), (1, .int 2), (2, .ref 79), (0, .ref 50)]) (st' := [.int 3, .ref 61, .int 3, .ref 61]) (by rfl) ?_
          refine zq_iald hc hH (by rfl) 4 (oka_i (by decide +kernel)) (show vp_in (nI 3) 4 from vp_in_nI (by decide) (by decide)) ?_
          rw [show (3 : Int32).toNatClampNeg = 3 from rfl]
          refine zV1 (Z := Z) (Eq.trans (ui_k (by first | decide | omega)) (Eq.trans (ui_k (by first | decide | omega)) (Eq.trans (ui_k (by first | decide | omega)) (Eq.trans (ui_o (by first | decide | omega)) (Eq.trans (hO3 61 3 (by omega)).1 (Eq.trans (ui_o (by first | decide | omega)) (Eq.trans (hO2 61 3 (by omega)).1 (Eq.trans (ui_o (by first | decide | omega)) (Eq.trans (hO1 61 3 (by omega)).1 (Eq.trans (ui_o (by first | decide | omega)) (hO0 61 3 (by omega)).1)))))))))) ?_
          rw [z_zero_o (by decide)]
          refine z_rcs0 hc hH 2 (pc' := 76) (lv' := [(3, .int 3), (1, .int 2), (2, .ref 79), (0, .ref 50)]) (st' := [.int 3, .ref 79, .int (μ.1 61 3), .int 3, .ref 61]) (by rfl) ?_
          refine zq_bald hc hH (by rfl) 4 (by decide +kernel) (show vp_in (nI 3) 4 from vp_in_nI (by decide) (by decide)) ?_
          rw [show (3 : Int32).toNatClampNeg = 3 from rfl]
          refine zV1 (Z := Z) (Eq.trans (ui_o (by first | decide | omega)) (Eq.trans (ui_o (by first | decide | omega)) (Eq.trans (ui_o (by first | decide | omega)) (ui_s)))) ?_
          refine z_rcs0 hc hH 7 (pc' := 96) (lv' := [(3, .int 3), (1, .int 2), (2, .ref 79), (0, .ref 50)]) (st' := [.int ((μ.1 61 3) + (-1500)), .int 3, .ref 61]) (by rfl) ?_
          refine zq_iast hc hH (by rfl) 4 (oka_i (by decide +kernel)).2 (show vp_in (nI 3) 4 from vp_in_nI (by decide) (by decide)) ?_
          rw [show (3 : Int32).toNatClampNeg = 3 from rfl]
          show Z 1 97 [(3, .int 3), (1, .int 2), (2, .ref 79), (0, .ref 50)] [] (z_ui (z_ui (z_ui (z_ui (z_ui W3 79 3 0) 61 0 ((μ.1 61 0) + (-1500))) 61 1 ((μ.1 61 1) + 1500)) 61 2 ((μ.1 61 2) + 1500)) 61 3 ((μ.1 61 3) + (-1500)))
          refine z_rcs0 hc hH 5 (pc' := 103) (lv' := [(3, .int 4), (1, .int 2), (2, .ref 79), (0, .ref 50)]) (st' := []) (by rfl) ?_
          obtain rfl | rfl | rfl | rfl : dl = 0 ∨ dl = 1 ∨ dl = 2 ∨ dl = 3 := by omega
          · skip
            refine z_rcs0 hc hH 3 (pc' := 106) (lv' := [(3, .int 4), (1, .int 2), (2, .ref 79), (0, .ref 50)]) (st' := [.ref 50, .ref 79, .ref 50]) (by rfl) ?_
            refine zq_gfi hc hH (by rfl) (ci := 6) (f := 40) (by rfl) (by decide +kernel) (by rfl) ?_
            refine zV1 (Z := Z) (Eq.trans (ui_o (by first | decide | omega)) (Eq.trans (ui_o (by first | decide | omega)) (Eq.trans (ui_o (by first | decide | omega)) (Eq.trans (ui_o (by first | decide | omega)) (Eq.trans (ui_o (by first | decide | omega)) (Eq.trans (hO3 50 40 (by omega)).1 (Eq.trans (ui_o (by first | decide | omega)) (Eq.trans (hO2 50 40 (by omega)).1 (Eq.trans (ui_o (by first | decide | omega)) (Eq.trans (hO1 50 40 (by omega)).1 (Eq.trans (ui_o (by first | decide | omega)) (hO0 50 40 (by omega)).1))))))))))) ?_
            rw [(z_zero_o (by decide)).trans hdl]
            refine zq_bald hc hH (by rfl) 4 (by decide +kernel) (vp_in_nI (by omega) (by decide)) ?_
            rw [nI_clamp (by omega)]
            refine zV1 (Z := Z) (Eq.trans (ui_o (by first | decide | omega)) (Eq.trans (ui_o (by first | decide | omega)) (Eq.trans (ui_o (by first | decide | omega)) (Eq.trans (ui_o (by first | decide | omega)) (Eq.trans (ui_k (by first | decide | omega)) (Eq.trans (hO3 79 0 (by omega)).1 (Eq.trans (ui_k (by first | decide | omega)) (Eq.trans (hO2 79 0 (by omega)).1 (Eq.trans (ui_k (by first | decide | omega)) (Eq.trans (hO1 79 0 (by omega)).1 (ui_s))))))))))) ?_
            refine z_rcs0 hc hH 1 (pc' := 111) (lv' := [(3, .int 4), (1, .int 2), (2, .ref 79), (0, .ref 50)]) (st' := [.int 1, .int 0, .ref 50]) (by rfl) ?_
            refine zq_call hc (z_cx_ok hH (by rfl)) (gm_endsB d' (by omega) (z_ui (z_ui (z_ui (z_ui (z_ui W3 79 3 0) 61 0 ((μ.1 61 0) + (-1500))) 61 1 ((μ.1 61 1) + 1500)) 61 2 ((μ.1 61 2) + 1500)) 61 3 ((μ.1 61 3) + (-1500))) false true 0 e (by rw [ui_o (by first | decide | omega), ui_o (by first | decide | omega), ui_o (by first | decide | omega), ui_o (by first | decide | omega), ui_o (by first | decide | omega), (hO3 50 40 (by omega)).1, ui_o (by first | decide | omega), (hO2 50 40 (by omega)).1, ui_o (by first | decide | omega), (hO1 50 40 (by omega)).1, ui_o (by first | decide | omega), (hO0 50 40 (by omega)).1]; exact (z_zero_o (by decide)).trans hdl) hdl4 he) (by decide +kernel) (fun r9 μ9 hq => ?_)
            obtain ⟨hr9, hm9⟩ := hq
            rw [hr9, hm9]
            clear hr9 hm9
            show Z 1 114 [(3, .int 4), (1, .int 2), (2, .ref 79), (0, .ref 50)] [] (eMB (z_ui (z_ui (z_ui (z_ui (z_ui W3 79 3 0) 61 0 ((μ.1 61 0) + (-1500))) 61 1 ((μ.1 61 1) + 1500)) 61 2 ((μ.1 61 2) + 1500)) 61 3 ((μ.1 61 3) + (-1500))) false true 0 e)
            exact hr 1 114 _ _ _ none (by decide +kernel) (by rfl) (by refine ⟨rfl, ?_⟩; unfold nM0110; exact SM_eMB (SM_ui (SM_ui (SM_ui (SM_ui (SM_ui (SM_tr (SM_ui (SM_tr (SM_ui (SM_tr (SM_ui (SM_tr (SM_rf _) hO0)) hO1)) hO2)) hO3)))))))
          · skip
            refine z_rcs hc hH 3 (pc' := 106) (lv' := [(3, .int 4), (1, .int 2), (2, .ref 79), (0, .ref 50)]) (st' := [.ref 50, .ref 79, .ref 50]) (μ' := z_ui (z_ui (z_ui (z_ui (z_ui W3 79 3 0) 61 0 ((μ.1 61 0) + (-1500))) 61 1 ((μ.1 61 1) + 1500)) 61 2 ((μ.1 61 2) + 1500)) 61 3 ((μ.1 61 3) + (-1500))) (by rfl) ?_
            refine zq_gfi hc hH (by rfl) (ci := 6) (f := 40) (by rfl) (by decide +kernel) (by rfl) ?_
            refine zV1 (Z := Z) (Eq.trans (ui_o (by first | decide | omega)) (Eq.trans (ui_o (by first | decide | omega)) (Eq.trans (ui_o (by first | decide | omega)) (Eq.trans (ui_o (by first | decide | omega)) (Eq.trans (ui_o (by first | decide | omega)) (Eq.trans (hO3 50 40 (by omega)).1 (Eq.trans (ui_o (by first | decide | omega)) (Eq.trans (hO2 50 40 (by omega)).1 (Eq.trans (ui_o (by first | decide | omega)) (Eq.trans (hO1 50 40 (by omega)).1 (Eq.trans (ui_o (by first | decide | omega)) (hO0 50 40 (by omega)).1))))))))))) ?_
            rw [(z_zero_o (by decide)).trans hdl]
            refine zq_bald hc hH (by rfl) 4 (by decide +kernel) (vp_in_nI (by omega) (by decide)) ?_
            rw [nI_clamp (by omega)]
            refine zV1 (Z := Z) (Eq.trans (ui_o (by first | decide | omega)) (Eq.trans (ui_o (by first | decide | omega)) (Eq.trans (ui_o (by first | decide | omega)) (Eq.trans (ui_o (by first | decide | omega)) (Eq.trans (ui_k (by first | decide | omega)) (Eq.trans (hO3 79 1 (by omega)).1 (Eq.trans (ui_k (by first | decide | omega)) (Eq.trans (hO2 79 1 (by omega)).1 (ui_s))))))))) ?_
            refine z_rcs0 hc hH 1 (pc' := 111) (lv' := [(3, .int 4), (1, .int 2), (2, .ref 79), (0, .ref 50)]) (st' := [.int 1, .int 1, .ref 50]) (by rfl) ?_
            refine zq_call hc (z_cx_ok hH (by rfl)) (gm_endsB d' (by omega) (z_ui (z_ui (z_ui (z_ui (z_ui W3 79 3 0) 61 0 ((μ.1 61 0) + (-1500))) 61 1 ((μ.1 61 1) + 1500)) 61 2 ((μ.1 61 2) + 1500)) 61 3 ((μ.1 61 3) + (-1500))) true true 1 e (by rw [ui_o (by first | decide | omega), ui_o (by first | decide | omega), ui_o (by first | decide | omega), ui_o (by first | decide | omega), ui_o (by first | decide | omega), (hO3 50 40 (by omega)).1, ui_o (by first | decide | omega), (hO2 50 40 (by omega)).1, ui_o (by first | decide | omega), (hO1 50 40 (by omega)).1, ui_o (by first | decide | omega), (hO0 50 40 (by omega)).1]; exact (z_zero_o (by decide)).trans hdl) hdl4 he) (by decide +kernel) (fun r9 μ9 hq => ?_)
            obtain ⟨hr9, hm9⟩ := hq
            rw [hr9, hm9]
            clear hr9 hm9
            show Z 1 114 [(3, .int 4), (1, .int 2), (2, .ref 79), (0, .ref 50)] [] (eMB (z_ui (z_ui (z_ui (z_ui (z_ui W3 79 3 0) 61 0 ((μ.1 61 0) + (-1500))) 61 1 ((μ.1 61 1) + 1500)) 61 2 ((μ.1 61 2) + 1500)) 61 3 ((μ.1 61 3) + (-1500))) true true 1 e)
            exact hr 1 114 _ _ _ none (by decide +kernel) (by rfl) (by refine ⟨rfl, ?_⟩; unfold nM0110; exact SM_eMB (SM_ui (SM_ui (SM_ui (SM_ui (SM_ui (SM_tr (SM_ui (SM_tr (SM_ui (SM_tr (SM_ui (SM_tr (SM_rf _) hO0)) hO1)) hO2)) hO3)))))))
          · skip
            refine z_rcs hc hH 3 (pc' := 106) (lv' := [(3, .int 4), (1, .int 2), (2, .ref 79), (0, .ref 50)]) (st' := [.ref 50, .ref 79, .ref 50]) (μ' := z_ui (z_ui (z_ui (z_ui (z_ui W3 79 3 0) 61 0 ((μ.1 61 0) + (-1500))) 61 1 ((μ.1 61 1) + 1500)) 61 2 ((μ.1 61 2) + 1500)) 61 3 ((μ.1 61 3) + (-1500))) (by rfl) ?_
            refine zq_gfi hc hH (by rfl) (ci := 6) (f := 40) (by rfl) (by decide +kernel) (by rfl) ?_
            refine zV1 (Z := Z) (Eq.trans (ui_o (by first | decide | omega)) (Eq.trans (ui_o (by first | decide | omega)) (Eq.trans (ui_o (by first | decide | omega)) (Eq.trans (ui_o (by first | decide | omega)) (Eq.trans (ui_o (by first | decide | omega)) (Eq.trans (hO3 50 40 (by omega)).1 (Eq.trans (ui_o (by first | decide | omega)) (Eq.trans (hO2 50 40 (by omega)).1 (Eq.trans (ui_o (by first | decide | omega)) (Eq.trans (hO1 50 40 (by omega)).1 (Eq.trans (ui_o (by first | decide | omega)) (hO0 50 40 (by omega)).1))))))))))) ?_
            rw [(z_zero_o (by decide)).trans hdl]
            refine zq_bald hc hH (by rfl) 4 (by decide +kernel) (vp_in_nI (by omega) (by decide)) ?_
            rw [nI_clamp (by omega)]
            refine zV1 (Z := Z) (Eq.trans (ui_o (by first | decide | omega)) (Eq.trans (ui_o (by first | decide | omega)) (Eq.trans (ui_o (by first | decide | omega)) (Eq.trans (ui_o (by first | decide | omega)) (Eq.trans (ui_k (by first | decide | omega)) (Eq.trans (hO3 79 2 (by omega)).1 (ui_s))))))) ?_
            refine z_rcs0 hc hH 1 (pc' := 111) (lv' := [(3, .int 4), (1, .int 2), (2, .ref 79), (0, .ref 50)]) (st' := [.int 1, .int 1, .ref 50]) (by rfl) ?_
            refine zq_call hc (z_cx_ok hH (by rfl)) (gm_endsB d' (by omega) (z_ui (z_ui (z_ui (z_ui (z_ui W3 79 3 0) 61 0 ((μ.1 61 0) + (-1500))) 61 1 ((μ.1 61 1) + 1500)) 61 2 ((μ.1 61 2) + 1500)) 61 3 ((μ.1 61 3) + (-1500))) true true 2 e (by rw [ui_o (by first | decide | omega), ui_o (by first | decide | omega), ui_o (by first | decide | omega), ui_o (by first | decide | omega), ui_o (by first | decide | omega), (hO3 50 40 (by omega)).1, ui_o (by first | decide | omega), (hO2 50 40 (by omega)).1, ui_o (by first | decide | omega), (hO1 50 40 (by omega)).1, ui_o (by first | decide | omega), (hO0 50 40 (by omega)).1]; exact (z_zero_o (by decide)).trans hdl) hdl4 he) (by decide +kernel) (fun r9 μ9 hq => ?_)
            obtain ⟨hr9, hm9⟩ := hq
            rw [hr9, hm9]
            clear hr9 hm9
            show Z 1 114 [(3, .int 4), (1, .int 2), (2, .ref 79), (0, .ref 50)] [] (eMB (z_ui (z_ui (z_ui (z_ui (z_ui W3 79 3 0) 61 0 ((μ.1 61 0) + (-1500))) 61 1 ((μ.1 61 1) + 1500)) 61 2 ((μ.1 61 2) + 1500)) 61 3 ((μ.1 61 3) + (-1500))) true true 2 e)
            exact hr 1 114 _ _ _ none (by decide +kernel) (by rfl) (by refine ⟨rfl, ?_⟩; unfold nM0110; exact SM_eMB (SM_ui (SM_ui (SM_ui (SM_ui (SM_ui (SM_tr (SM_ui (SM_tr (SM_ui (SM_tr (SM_ui (SM_tr (SM_rf _) hO0)) hO1)) hO2)) hO3)))))))
          · skip
            refine z_rcs hc hH 3 (pc' := 106) (lv' := [(3, .int 4), (1, .int 2), (2, .ref 79), (0, .ref 50)]) (st' := [.ref 50, .ref 79, .ref 50]) (μ' := z_ui (z_ui (z_ui (z_ui (z_ui W3 79 3 0) 61 0 ((μ.1 61 0) + (-1500))) 61 1 ((μ.1 61 1) + 1500)) 61 2 ((μ.1 61 2) + 1500)) 61 3 ((μ.1 61 3) + (-1500))) (by rfl) ?_
            refine zq_gfi hc hH (by rfl) (ci := 6) (f := 40) (by rfl) (by decide +kernel) (by rfl) ?_
            refine zV1 (Z := Z) (Eq.trans (ui_o (by first | decide | omega)) (Eq.trans (ui_o (by first | decide | omega)) (Eq.trans (ui_o (by first | decide | omega)) (Eq.trans (ui_o (by first | decide | omega)) (Eq.trans (ui_o (by first | decide | omega)) (Eq.trans (hO3 50 40 (by omega)).1 (Eq.trans (ui_o (by first | decide | omega)) (Eq.trans (hO2 50 40 (by omega)).1 (Eq.trans (ui_o (by first | decide | omega)) (Eq.trans (hO1 50 40 (by omega)).1 (Eq.trans (ui_o (by first | decide | omega)) (hO0 50 40 (by omega)).1))))))))))) ?_
            rw [(z_zero_o (by decide)).trans hdl]
            refine zq_bald hc hH (by rfl) 4 (by decide +kernel) (vp_in_nI (by omega) (by decide)) ?_
            rw [nI_clamp (by omega)]
            refine zV1 (Z := Z) (Eq.trans (ui_o (by first | decide | omega)) (Eq.trans (ui_o (by first | decide | omega)) (Eq.trans (ui_o (by first | decide | omega)) (Eq.trans (ui_o (by first | decide | omega)) (ui_s))))) ?_
            refine z_rcs0 hc hH 1 (pc' := 111) (lv' := [(3, .int 4), (1, .int 2), (2, .ref 79), (0, .ref 50)]) (st' := [.int 1, .int 0, .ref 50]) (by rfl) ?_
            refine zq_call hc (z_cx_ok hH (by rfl)) (gm_endsB d' (by omega) (z_ui (z_ui (z_ui (z_ui (z_ui W3 79 3 0) 61 0 ((μ.1 61 0) + (-1500))) 61 1 ((μ.1 61 1) + 1500)) 61 2 ((μ.1 61 2) + 1500)) 61 3 ((μ.1 61 3) + (-1500))) false true 3 e (by rw [ui_o (by first | decide | omega), ui_o (by first | decide | omega), ui_o (by first | decide | omega), ui_o (by first | decide | omega), ui_o (by first | decide | omega), (hO3 50 40 (by omega)).1, ui_o (by first | decide | omega), (hO2 50 40 (by omega)).1, ui_o (by first | decide | omega), (hO1 50 40 (by omega)).1, ui_o (by first | decide | omega), (hO0 50 40 (by omega)).1]; exact (z_zero_o (by decide)).trans hdl) hdl4 he) (by decide +kernel) (fun r9 μ9 hq => ?_)
            obtain ⟨hr9, hm9⟩ := hq
            rw [hr9, hm9]
            clear hr9 hm9
            show Z 1 114 [(3, .int 4), (1, .int 2), (2, .ref 79), (0, .ref 50)] [] (eMB (z_ui (z_ui (z_ui (z_ui (z_ui W3 79 3 0) 61 0 ((μ.1 61 0) + (-1500))) 61 1 ((μ.1 61 1) + 1500)) 61 2 ((μ.1 61 2) + 1500)) 61 3 ((μ.1 61 3) + (-1500))) false true 3 e)
            exact hr 1 114 _ _ _ none (by decide +kernel) (by rfl) (by refine ⟨rfl, ?_⟩; unfold nM0110; exact SM_eMB (SM_ui (SM_ui (SM_ui (SM_ui (SM_ui (SM_tr (SM_ui (SM_tr (SM_ui (SM_tr (SM_ui (SM_tr (SM_rf _) hO0)) hO1)) hO2)) hO3)))))))
        · have h4 : (decide ((lg_cmp w3 0) = 0)) = false := decide_eq_false (cn_eq.mp h4)
          exact absurd (Eq.trans (Eq.symm (hb3)) h4) (by decide)
  · have h1 : (decide ((lg_cmp w0 0) = 0)) = false := decide_eq_false (cn_eq.mp h1)
    exact absurd (Eq.trans (Eq.symm (hb0)) h1) (by decide)
noncomputable def nM0111 (μ : zM) : zM := z_ui (z_ui (z_ui (z_ui (z_ui (z_ui (z_ui (z_ui (z_zero μ) 79 0 0) 79 1 1) 79 2 1) 79 3 1) 61 0 ((μ.1 61 0) + (-3000))) 61 1 ((μ.1 61 1) + 1000)) 61 2 ((μ.1 61 2) + 1000)) 61 3 ((μ.1 61 3) + 1000)
theorem gm_nobody0111 (d : Nat) (hd : 700 ≤ d) (μ : zM) (hH0 : a_H μ) (dl e : Nat) (hdl : μ.1 50 40 = nI dl) (hdl4 : dl < 4) (he : (dl + 1) % 4 = e) (w0 : Int64) (hw0 : ∀ M, SE μ M → a_H M → ∀ d, 699 ≤ d → z_C d mi_X7_waitsAt [.ref 50, .int 0] M (fun r W => r = some (.long w0) ∧ SMj M W ∧ a_H W)) (hb0 : decide (lg_cmp w0 0 = 0) = true) (w1 : Int64) (hw1 : ∀ M, SE μ M → a_H M → ∀ d, 699 ≤ d → z_C d mi_X7_waitsAt [.ref 50, .int 1] M (fun r W => r = some (.long w1) ∧ SMj M W ∧ a_H W)) (hb1 : decide (lg_cmp w1 0 = 0) = false) (w2 : Int64) (hw2 : ∀ M, SE μ M → a_H M → ∀ d, 699 ≤ d → z_C d mi_X7_waitsAt [.ref 50, .int 2] M (fun r W => r = some (.long w2) ∧ SMj M W ∧ a_H W)) (hb2 : decide (lg_cmp w2 0 = 0) = false) (w3 : Int64) (hw3 : ∀ M, SE μ M → a_H M → ∀ d, 699 ≤ d → z_C d mi_X7_waitsAt [.ref 50, .int 3] M (fun r W => r = some (.long w3) ∧ SMj M W ∧ a_H W)) (hb3 : decide (lg_cmp w3 0 = 0) = false) : z_C d mi_X7_nobodyWins [.ref 50] μ (fun r μ' => r = none ∧ SMj (eMB (nM0111 μ) (nbS false true true true dl) true dl e) μ') := by
  obtain ⟨d', rfl⟩ : ∃ d', d = d' + 1 := ⟨d - 1, by omega⟩
  intro Z hc hr
  refine ⟨rfl, ?_⟩
  have hH := zh_X7_nobodyWins
  refine z_rcs hc hH 9 (pc' := 17) (lv' := [(3, .int 0), (2, .ref 79), (1, .int 0), (0, .ref 50)]) (st' := [.int 0, .ref 50, .int 0, .ref 79]) (μ' := z_zero μ) (by rfl) ?_
  refine zq_call hc (z_cx_ok hH (by rfl)) (hw0 _ (SE_zr _) (a_H_zero hH0) d' (by omega)) (by decide +kernel) (fun r9 W0 hq => ?_)
  obtain ⟨rfl, hO0, hA0⟩ := hq
  show Z 1 20 [(3, .int 0), (2, .ref 79), (1, .int 0), (0, .ref 50)] [.long w0, .int 0, .ref 79] W0
  refine z_rcs hc hH 2 (pc' := 22) (lv' := [(3, .int 0), (2, .ref 79), (1, .int 0), (0, .ref 50)]) (st' := [.int (lg_cmp w0 0), .int 0, .ref 79]) (μ' := W0) (by rfl) ?_
  refine zq_if hc hH (by rfl) (tg := 29) (by rfl) (fun h1 => ?_) (fun h1 => ?_)
  · have h1 : (decide ((lg_cmp w0 0) = 0)) = true := decide_eq_true (cm_eq9.mp h1)
    refine z_rcs hc hH 1 (pc' := 30) (lv' := [(3, .int 0), (2, .ref 79), (1, .int 0), (0, .ref 50)]) (st' := [.int 0, .int 0, .ref 79]) (μ' := W0) (by rfl) ?_
    refine zq_bast hc hH (by rfl) 4 (by decide +kernel) (show vp_in (nI 0) 4 from vp_in_nI (by decide) (by decide)) (by decide) ?_
    rw [show (0 : Int32).toNatClampNeg = 0 from rfl]
    show Z 1 31 [(3, .int 0), (2, .ref 79), (1, .int 0), (0, .ref 50)] [] (z_ui W0 79 0 0)
    refine z_rcs hc hH 3 (pc' := 34) (lv' := [(3, .int 0), (2, .ref 79), (1, .int 0), (0, .ref 50)]) (st' := [.int 0, .ref 79, .int 0]) (μ' := z_ui W0 79 0 0) (by rfl) ?_
    refine zq_bald hc hH (by rfl) 4 (by decide +kernel) (show vp_in (nI 0) 4 from vp_in_nI (by decide) (by decide)) ?_
    rw [show (0 : Int32).toNatClampNeg = 0 from rfl]
    rw [ui_s]
    refine z_rcs hc hH 13 (pc' := 17) (lv' := [(3, .int 1), (1, .int 0), (2, .ref 79), (0, .ref 50)]) (st' := [.int 1, .ref 50, .int 1, .ref 79]) (μ' := z_ui W0 79 0 0) (by rfl) ?_
    refine zq_call hc (z_cx_ok hH (by rfl)) (hw1 _ (SE_ui (SE_sm (SE_zr _) hO0) (by omega)) (a_H_ui (r := 79) (k := 0) (hA0) ⟨by decide, by decide⟩) d' (by omega)) (by decide +kernel) (fun r9 W1 hq => ?_)
    obtain ⟨rfl, hO1, hA1⟩ := hq
    show Z 1 20 [(3, .int 1), (1, .int 0), (2, .ref 79), (0, .ref 50)] [.long w1, .int 1, .ref 79] W1
    refine z_rcs hc hH 2 (pc' := 22) (lv' := [(3, .int 1), (1, .int 0), (2, .ref 79), (0, .ref 50)]) (st' := [.int (lg_cmp w1 0), .int 1, .ref 79]) (μ' := W1) (by rfl) ?_
    refine zq_if hc hH (by rfl) (tg := 29) (by rfl) (fun h2 => ?_) (fun h2 => ?_)
    · have h2 : (decide ((lg_cmp w1 0) = 0)) = true := decide_eq_true (cm_eq9.mp h2)
      exact absurd (Eq.trans (Eq.symm (hb1)) h2) (by decide)
    · have h2 : (decide ((lg_cmp w1 0) = 0)) = false := decide_eq_false (cn_eq.mp h2)
      refine z_rcs hc hH 2 (pc' := 30) (lv' := [(3, .int 1), (1, .int 0), (2, .ref 79), (0, .ref 50)]) (st' := [.int 1, .int 1, .ref 79]) (μ' := W1) (by rfl) ?_
      refine zq_bast hc hH (by rfl) 4 (by decide +kernel) (show vp_in (nI 1) 4 from vp_in_nI (by decide) (by decide)) (by decide) ?_
      rw [show (1 : Int32).toNatClampNeg = 1 from rfl]
      show Z 1 31 [(3, .int 1), (1, .int 0), (2, .ref 79), (0, .ref 50)] [] (z_ui W1 79 1 1)
      refine z_rcs hc hH 3 (pc' := 34) (lv' := [(3, .int 1), (1, .int 0), (2, .ref 79), (0, .ref 50)]) (st' := [.int 1, .ref 79, .int 0]) (μ' := z_ui W1 79 1 1) (by rfl) ?_
      refine zq_bald hc hH (by rfl) 4 (by decide +kernel) (show vp_in (nI 1) 4 from vp_in_nI (by decide) (by decide)) ?_
      rw [show (1 : Int32).toNatClampNeg = 1 from rfl]
      rw [ui_s]
      refine z_rcs hc hH 14 (pc' := 17) (lv' := [(3, .int 2), (1, .int 1), (2, .ref 79), (0, .ref 50)]) (st' := [.int 2, .ref 50, .int 2, .ref 79]) (μ' := z_ui W1 79 1 1) (by rfl) ?_
      refine zq_call hc (z_cx_ok hH (by rfl)) (hw2 _ (SE_ui (SE_sm (SE_ui (SE_sm (SE_zr _) hO0) (by omega)) hO1) (by omega)) (a_H_ui (r := 79) (k := 1) (hA1) ⟨by decide, by decide⟩) d' (by omega)) (by decide +kernel) (fun r9 W2 hq => ?_)
      obtain ⟨rfl, hO2, hA2⟩ := hq
      show Z 1 20 [(3, .int 2), (1, .int 1), (2, .ref 79), (0, .ref 50)] [.long w2, .int 2, .ref 79] W2
      refine z_rcs hc hH 2 (pc' := 22) (lv' := [(3, .int 2), (1, .int 1), (2, .ref 79), (0, .ref 50)]) (st' := [.int (lg_cmp w2 0), .int 2, .ref 79]) (μ' := W2) (by rfl) ?_
      refine zq_if hc hH (by rfl) (tg := 29) (by rfl) (fun h3 => ?_) (fun h3 => ?_)
      · have h3 : (decide ((lg_cmp w2 0) = 0)) = true := decide_eq_true (cm_eq9.mp h3)
        exact absurd (Eq.trans (Eq.symm (hb2)) h3) (by decide)
      · have h3 : (decide ((lg_cmp w2 0) = 0)) = false := decide_eq_false (cn_eq.mp h3)
        refine z_rcs hc hH 2 (pc' := 30) (lv' := [(3, .int 2), (1, .int 1), (2, .ref 79), (0, .ref 50)]) (st' := [.int 1, .int 2, .ref 79]) (μ' := W2) (by rfl) ?_
        refine zq_bast hc hH (by rfl) 4 (by decide +kernel) (show vp_in (nI 2) 4 from vp_in_nI (by decide) (by decide)) (by decide) ?_
        rw [show (2 : Int32).toNatClampNeg = 2 from rfl]
        show Z 1 31 [(3, .int 2), (1, .int 1), (2, .ref 79), (0, .ref 50)] [] (z_ui W2 79 2 1)
        refine z_rcs hc hH 3 (pc' := 34) (lv' := [(3, .int 2), (1, .int 1), (2, .ref 79), (0, .ref 50)]) (st' := [.int 2, .ref 79, .int 1]) (μ' := z_ui W2 79 2 1) (by rfl) ?_
        refine zq_bald hc hH (by rfl) 4 (by decide +kernel) (show vp_in (nI 2) 4 from vp_in_nI (by decide) (by decide)) ?_
        rw [show (2 : Int32).toNatClampNeg = 2 from rfl]
        rw [ui_s]
        refine z_rcs hc hH 14 (pc' := 17) (lv' := [(3, .int 3), (1, .int 2), (2, .ref 79), (0, .ref 50)]) (st' := [.int 3, .ref 50, .int 3, .ref 79]) (μ' := z_ui W2 79 2 1) (by rfl) ?_
        refine zq_call hc (z_cx_ok hH (by rfl)) (hw3 _ (SE_ui (SE_sm (SE_ui (SE_sm (SE_ui (SE_sm (SE_zr _) hO0) (by omega)) hO1) (by omega)) hO2) (by omega)) (a_H_ui (r := 79) (k := 2) (hA2) ⟨by decide, by decide⟩) d' (by omega)) (by decide +kernel) (fun r9 W3 hq => ?_)
        obtain ⟨rfl, hO3, hA3⟩ := hq
        show Z 1 20 [(3, .int 3), (1, .int 2), (2, .ref 79), (0, .ref 50)] [.long w3, .int 3, .ref 79] W3
        refine z_rcs hc hH 2 (pc' := 22) (lv' := [(3, .int 3), (1, .int 2), (2, .ref 79), (0, .ref 50)]) (st' := [.int (lg_cmp w3 0), .int 3, .ref 79]) (μ' := W3) (by rfl) ?_
        refine zq_if hc hH (by rfl) (tg := 29) (by rfl) (fun h4 => ?_) (fun h4 => ?_)
        · have h4 : (decide ((lg_cmp w3 0) = 0)) = true := decide_eq_true (cm_eq9.mp h4)
          exact absurd (Eq.trans (Eq.symm (hb3)) h4) (by decide)
        · have h4 : (decide ((lg_cmp w3 0) = 0)) = false := decide_eq_false (cn_eq.mp h4)
          refine z_rcs hc hH 2 (pc' := 30) (lv' := [(3, .int 3), (1, .int 2), (2, .ref 79), (0, .ref 50)]) (st' := [.int 1, .int 3, .ref 79]) (μ' := W3) (by rfl) ?_
          refine zq_bast hc hH (by rfl) 4 (by decide +kernel) (show vp_in (nI 3) 4 from vp_in_nI (by decide) (by decide)) (by decide) ?_
          rw [show (3 : Int32).toNatClampNeg = 3 from rfl]
          show Z 1 31 [(3, .int 3), (1, .int 2), (2, .ref 79), (0, .ref 50)] [] (z_ui W3 79 3 1)
          refine z_rcs hc hH 3 (pc' := 34) (lv' := [(3, .int 3), (1, .int 2), (2, .ref 79), (0, .ref 50)]) (st' := [.int 3, .ref 79, .int 2]) (μ' := z_ui W3 79 3 1) (by rfl) ?_
          refine zq_bald hc hH (by rfl) 4 (by decide +kernel) (show vp_in (nI 3) 4 from vp_in_nI (by decide) (by decide)) ?_
          rw [show (3 : Int32).toNatClampNeg = 3 from rfl]
          rw [ui_s]
          refine z_rcs hc hH 21 (pc' := 68) (lv' := [(3, .int 0), (1, .int 3), (2, .ref 79), (0, .ref 50)]) (st' := [.ref 50]) (μ' := z_ui W3 79 3 1) (by rfl) ?_
          refine zq_gfr hc hH (by rfl) (ci := 6) (f := 29) (q := 61) (by rfl) (by decide +kernel) (by rfl) (by decide +kernel) ?_
          refine z_rcs hc hH 2 (pc' := 73) (lv' := [(3, .int 0), (1, .int 3), (2, .ref 79), (0, .ref 50)]) (st' := [.int 0, .ref 61, .int 0, .ref 61]) (μ' := z_ui W3 79 3 1) (by rfl) ?_
          refine zq_iald hc hH (by rfl) 4 (oka_i (by decide +kernel)) (show vp_in (nI 0) 4 from vp_in_nI (by decide) (by decide)) ?_
          rw [show (0 : Int32).toNatClampNeg = 0 from rfl]
          refine zV1 (Z := Z) (Eq.trans (ui_o (by first | decide | omega)) (Eq.trans (hO3 61 0 (by omega)).1 (Eq.trans (ui_o (by first | decide | omega)) (Eq.trans (hO2 61 0 (by omega)).1 (Eq.trans (ui_o (by first | decide | omega)) (Eq.trans (hO1 61 0 (by omega)).1 (Eq.trans (ui_o (by first | decide | omega)) (hO0 61 0 (by omega)).1))))))) ?_
          rw [z_zero_o (by decide)]
          refine z_rcs hc hH 2 (pc' := 76) (lv' := [(3, .int 0), (1, .int 3), (2, .ref 79), (0, .ref 50)]) (st' := [.int 0, .ref 79, .int (μ.1 61 0), .int 0, .ref 61]) (μ' := z_ui W3 79 3 1) (by rfl) ?_
          refine zq_bald hc hH (by rfl) 4 (by decide +kernel) (show vp_in (nI 0) 4 from vp_in_nI (by decide) (by decide)) ?_
          rw [show (0 : Int32).toNatClampNeg = 0 from rfl]
          refine zV1 (Z := Z) (Eq.trans (ui_k (by first | decide | omega)) (Eq.trans (hO3 79 0 (by omega)).1 (Eq.trans (ui_k (by first | decide | omega)) (Eq.trans (hO2 79 0 (by omega)).1 (Eq.trans (ui_k (by first | decide | omega)) (Eq.trans (hO1 79 0 (by omega)).1 (ui_s))))))) ?_
          refine z_rcs hc hH 7 (pc' := 96) (lv' := [(3, .int 0), (1, .int 3), (2, .ref 79), (0, .ref 50)]) (st' := [.int ((μ.1 61 0) + (-3000)), .int 0, .ref 61]) (μ' := z_ui W3 79 3 1) (by rfl) ?_
          refine zq_iast hc hH (by rfl) 4 (oka_i (by decide +kernel)).2 (show vp_in (nI 0) 4 from vp_in_nI (by decide) (by decide)) ?_
          rw [show (0 : Int32).toNatClampNeg = 0 from rfl]
          show Z 1 97 [(3, .int 0), (1, .int 3), (2, .ref 79), (0, .ref 50)] [] (z_ui (z_ui W3 79 3 1) 61 0 ((μ.1 61 0) + (-3000)))
          refine z_rcs0 hc hH 6 (pc' := 68) (lv' := [(3, .int 1), (1, .int 3), (2, .ref 79), (0, .ref 50)]) (st' := [.ref 50]) (by rfl) ?_
          refine zq_gfr hc hH (by rfl) (ci := 6) (f := 29) (q := 61) (by rfl) (by decide +kernel) (by rfl) (by decide +kernel) ?_
          refine z_rcs0 hc hH 2 (pc' := 73) (lv' := [(3, .int 1), (1, .int 3), (2, .ref 79), (0, .ref 50)]) (st' := [.int 1, .ref 61, .int 1, .ref 61]) (by rfl) ?_
          refine zq_iald hc hH (by rfl) 4 (oka_i (by decide +kernel)) (show vp_in (nI 1) 4 from vp_in_nI (by decide) (by decide)) ?_
          rw [show (1 : Int32).toNatClampNeg = 1 from rfl]
          refine zV1 (Z := Z) (Eq.trans (ui_k (by first | decide | omega)) (Eq.trans (ui_o (by first | decide | omega)) (Eq.trans (hO3 61 1 (by omega)).1 (Eq.trans (ui_o (by first | decide | omega)) (Eq.trans (hO2 61 1 (by omega)).1 (Eq.trans (ui_o (by first | decide | omega)) (Eq.trans (hO1 61 1 (by omega)).1 (Eq.trans (ui_o (by first | decide | omega)) (hO0 61 1 (by omega)).1)))))))) ?_
          rw [z_zero_o (by decide)]
          refine z_rcs0 hc hH 2 (pc' := 76) (lv' := [(3, .int 1), (1, .int 3), (2, .ref 79), (0, .ref 50)]) (st' := [.int 1, .ref 79, .int (μ.1 61 1), .int 1, .ref 61]) (by rfl) ?_
          refine zq_bald hc hH (by rfl) 4 (by decide +kernel) (show vp_in (nI 1) 4 from vp_in_nI (by decide) (by decide)) ?_
          rw [show (1 : Int32).toNatClampNeg = 1 from rfl]
          refine zV1 (Z := Z) (Eq.trans (ui_o (by first | decide | omega)) (Eq.trans (ui_k (by first | decide | omega)) (Eq.trans (hO3 79 1 (by omega)).1 (Eq.trans (ui_k (by first | decide | omega)) (Eq.trans (hO2 79 1 (by omega)).1 (ui_s)))))) ?_
          refine z_rcs0 hc hH 6 (pc' := 96) (lv' := [(3, .int 1), (1, .int 3), (2, .ref 79), (0, .ref 50)]) (st' := [.int ((μ.1 61 1) + 1000), .int 1, .ref 61]) (by rfl) ?_
          refine zq_iast hc hH (by rfl) 4 (oka_i (by decide +kernel)).2 (show vp_in (nI 1) 4 from vp_in_nI (by decide) (by decide)) ?_
          rw [show (1 : Int32).toNatClampNeg = 1 from rfl]
          show Z 1 97 [(3, .int 1), (1, .int 3), (2, .ref 79), (0, .ref 50)] [] (z_ui (z_ui (z_ui W3 79 3 1) 61 0 ((μ.1 61 0) + (-3000))) 61 1 ((μ.1 61 1) + 1000))
          refine z_rcs0 hc hH 6 (pc' := 68) (lv' := [(3, .int 2), (1, .int 3), (2, .ref 79), (0, .ref 50)]) (st' := [.ref 50]) (by rfl) ?_
          refine zq_gfr hc hH (by rfl) (ci := 6) (f := 29) (q := 61) (by rfl) (by decide +kernel) (by rfl) (by decide +kernel) ?_
          refine z_rcs0 hc hH 2 (pc' := 73) (lv' := [(3, .int 2), (1, .int 3), (2, .ref 79), (0, .ref 50)]) (st' := [.int 2, .ref 61, .int 2, .ref 61]) (by rfl) ?_
          refine zq_iald hc hH (by rfl) 4 (oka_i (by decide +kernel)) (show vp_in (nI 2) 4 from vp_in_nI (by decide) (by decide)) ?_
          rw [show (2 : Int32).toNatClampNeg = 2 from rfl]
          refine zV1 (Z := Z) (Eq.trans (ui_k (by first | decide | omega)) (Eq.trans (ui_k (by first | decide | omega)) (Eq.trans (ui_o (by first | decide | omega)) (Eq.trans (hO3 61 2 (by omega)).1 (Eq.trans (ui_o (by first | decide | omega)) (Eq.trans (hO2 61 2 (by omega)).1 (Eq.trans (ui_o (by first | decide | omega)) (Eq.trans (hO1 61 2 (by omega)).1 (Eq.trans (ui_o (by first | decide | omega)) (hO0 61 2 (by omega)).1))))))))) ?_
          rw [z_zero_o (by decide)]
          refine z_rcs0 hc hH 2 (pc' := 76) (lv' := [(3, .int 2), (1, .int 3), (2, .ref 79), (0, .ref 50)]) (st' := [.int 2, .ref 79, .int (μ.1 61 2), .int 2, .ref 61]) (by rfl) ?_
          refine zq_bald hc hH (by rfl) 4 (by decide +kernel) (show vp_in (nI 2) 4 from vp_in_nI (by decide) (by decide)) ?_
          rw [show (2 : Int32).toNatClampNeg = 2 from rfl]
          refine zV1 (Z := Z) (Eq.trans (ui_o (by first | decide | omega)) (Eq.trans (ui_o (by first | decide | omega)) (Eq.trans (ui_k (by first | decide | omega)) (Eq.trans (hO3 79 2 (by omega)).1 (ui_s))))) ?_
          refine z_rcs0 hc hH 6 (pc' := 96) (lv' := [(3, .int 2), (1, .int 3), (2, .ref 79), (0, .ref 50)]) (st' := [.int ((μ.1 61 2) + 1000), .int 2, .ref 61]) (by rfl) ?_
          refine zq_iast hc hH (by rfl) 4 (oka_i (by decide +kernel)).2 (show vp_in (nI 2) 4 from vp_in_nI (by decide) (by decide)) ?_
          rw [show (2 : Int32).toNatClampNeg = 2 from rfl]
          show Z 1 97 [(3, .int 2), (1, .int 3), (2, .ref 79), (0, .ref 50)] [] (z_ui (z_ui (z_ui (z_ui W3 79 3 1) 61 0 ((μ.1 61 0) + (-3000))) 61 1 ((μ.1 61 1) + 1000)) 61 2 ((μ.1 61 2) + 1000))
          refine z_rcs0 hc hH 6 (pc' := 68) (lv' := [(3, .int 3), (1, .int 3), (2, .ref 79), (0, .ref 50)]) (st' := [.ref 50]) (by rfl) ?_
          refine zq_gfr hc hH (by rfl) (ci := 6) (f := 29) (q := 61) (by rfl) (by decide +kernel) (by rfl) (by decide +kernel) ?_
          refine z_rcs0 hc hH 2 (pc' := 73) (lv' := [(3, .int 3), (1, .int 3), (2, .ref 79), (0, .ref 50)]) (st' := [.int 3, .ref 61, .int 3, .ref 61]) (by rfl) ?_
          refine zq_iald hc hH (by rfl) 4 (oka_i (by decide +kernel)) (show vp_in (nI 3) 4 from vp_in_nI (by decide) (by decide)) ?_
          rw [show (3 : Int32).toNatClampNeg = 3 from rfl]
          refine zV1 (Z := Z) (Eq.trans (ui_k (by first | decide | omega)) (Eq.trans (ui_k (by first | decide | omega)) (Eq.trans (ui_k (by first | decide | omega)) (Eq.trans (ui_o (by first | decide | omega)) (Eq.trans (hO3 61 3 (by omega)).1 (Eq.trans (ui_o (by first | decide | omega)) (Eq.trans (hO2 61 3 (by omega)).1 (Eq.trans (ui_o (by first | decide | omega)) (Eq.trans (hO1 61 3 (by omega)).1 (Eq.trans (ui_o (by first | decide | omega)) (hO0 61 3 (by omega)).1)))))))))) ?_
          rw [z_zero_o (by decide)]
          refine z_rcs0 hc hH 2 (pc' := 76) (lv' := [(3, .int 3), (1, .int 3), (2, .ref 79), (0, .ref 50)]) (st' := [.int 3, .ref 79, .int (μ.1 61 3), .int 3, .ref 61]) (by rfl) ?_
          refine zq_bald hc hH (by rfl) 4 (by decide +kernel) (show vp_in (nI 3) 4 from vp_in_nI (by decide) (by decide)) ?_
          rw [show (3 : Int32).toNatClampNeg = 3 from rfl]
          refine zV1 (Z := Z) (Eq.trans (ui_o (by first | decide | omega)) (Eq.trans (ui_o (by first | decide | omega)) (Eq.trans (ui_o (by first | decide | omega)) (ui_s)))) ?_
          refine z_rcs0 hc hH 6 (pc' := 96) (lv' := [(3, .int 3), (1, .int 3), (2, .ref 79), (0, .ref 50)]) (st' := [.int ((μ.1 61 3) + 1000), .int 3, .ref 61]) (by rfl) ?_
          refine zq_iast hc hH (by rfl) 4 (oka_i (by decide +kernel)).2 (show vp_in (nI 3) 4 from vp_in_nI (by decide) (by decide)) ?_
          rw [show (3 : Int32).toNatClampNeg = 3 from rfl]
          show Z 1 97 [(3, .int 3), (1, .int 3), (2, .ref 79), (0, .ref 50)] [] (z_ui (z_ui (z_ui (z_ui (z_ui W3 79 3 1) 61 0 ((μ.1 61 0) + (-3000))) 61 1 ((μ.1 61 1) + 1000)) 61 2 ((μ.1 61 2) + 1000)) 61 3 ((μ.1 61 3) + 1000))
          refine z_rcs0 hc hH 5 (pc' := 103) (lv' := [(3, .int 4), (1, .int 3), (2, .ref 79), (0, .ref 50)]) (st' := []) (by rfl) ?_
          obtain rfl | rfl | rfl | rfl : dl = 0 ∨ dl = 1 ∨ dl = 2 ∨ dl = 3 := by omega
          · skip
            refine z_rcs0 hc hH 3 (pc' := 106) (lv' := [(3, .int 4), (1, .int 3), (2, .ref 79), (0, .ref 50)]) (st' := [.ref 50, .ref 79, .ref 50]) (by rfl) ?_
            refine zq_gfi hc hH (by rfl) (ci := 6) (f := 40) (by rfl) (by decide +kernel) (by rfl) ?_
            refine zV1 (Z := Z) (Eq.trans (ui_o (by first | decide | omega)) (Eq.trans (ui_o (by first | decide | omega)) (Eq.trans (ui_o (by first | decide | omega)) (Eq.trans (ui_o (by first | decide | omega)) (Eq.trans (ui_o (by first | decide | omega)) (Eq.trans (hO3 50 40 (by omega)).1 (Eq.trans (ui_o (by first | decide | omega)) (Eq.trans (hO2 50 40 (by omega)).1 (Eq.trans (ui_o (by first | decide | omega)) (Eq.trans (hO1 50 40 (by omega)).1 (Eq.trans (ui_o (by first | decide | omega)) (hO0 50 40 (by omega)).1))))))))))) ?_
            rw [(z_zero_o (by decide)).trans hdl]
            refine zq_bald hc hH (by rfl) 4 (by decide +kernel) (vp_in_nI (by omega) (by decide)) ?_
            rw [nI_clamp (by omega)]
            refine zV1 (Z := Z) (Eq.trans (ui_o (by first | decide | omega)) (Eq.trans (ui_o (by first | decide | omega)) (Eq.trans (ui_o (by first | decide | omega)) (Eq.trans (ui_o (by first | decide | omega)) (Eq.trans (ui_k (by first | decide | omega)) (Eq.trans (hO3 79 0 (by omega)).1 (Eq.trans (ui_k (by first | decide | omega)) (Eq.trans (hO2 79 0 (by omega)).1 (Eq.trans (ui_k (by first | decide | omega)) (Eq.trans (hO1 79 0 (by omega)).1 (ui_s))))))))))) ?_
            refine z_rcs0 hc hH 1 (pc' := 111) (lv' := [(3, .int 4), (1, .int 3), (2, .ref 79), (0, .ref 50)]) (st' := [.int 1, .int 0, .ref 50]) (by rfl) ?_
            refine zq_call hc (z_cx_ok hH (by rfl)) (gm_endsB d' (by omega) (z_ui (z_ui (z_ui (z_ui (z_ui W3 79 3 1) 61 0 ((μ.1 61 0) + (-3000))) 61 1 ((μ.1 61 1) + 1000)) 61 2 ((μ.1 61 2) + 1000)) 61 3 ((μ.1 61 3) + 1000)) false true 0 e (by rw [ui_o (by first | decide | omega), ui_o (by first | decide | omega), ui_o (by first | decide | omega), ui_o (by first | decide | omega), ui_o (by first | decide | omega), (hO3 50 40 (by omega)).1, ui_o (by first | decide | omega), (hO2 50 40 (by omega)).1, ui_o (by first | decide | omega), (hO1 50 40 (by omega)).1, ui_o (by first | decide | omega), (hO0 50 40 (by omega)).1]; exact (z_zero_o (by decide)).trans hdl) hdl4 he) (by decide +kernel) (fun r9 μ9 hq => ?_)
            obtain ⟨hr9, hm9⟩ := hq
            rw [hr9, hm9]
            clear hr9 hm9
            show Z 1 114 [(3, .int 4), (1, .int 3), (2, .ref 79), (0, .ref 50)] [] (eMB (z_ui (z_ui (z_ui (z_ui (z_ui W3 79 3 1) 61 0 ((μ.1 61 0) + (-3000))) 61 1 ((μ.1 61 1) + 1000)) 61 2 ((μ.1 61 2) + 1000)) 61 3 ((μ.1 61 3) + 1000)) false true 0 e)
            exact hr 1 114 _ _ _ none (by decide +kernel) (by rfl) (by refine ⟨rfl, ?_⟩; unfold nM0111; exact SM_eMB (SM_ui (SM_ui (SM_ui (SM_ui (SM_ui (SM_tr (SM_ui (SM_tr (SM_ui (SM_tr (SM_ui (SM_tr (SM_rf _) hO0)) hO1)) hO2)) hO3)))))))
          · skip
            refine z_rcs hc hH 3 (pc' := 106) (lv' := [(3, .int 4), (1, .int 3), (2, .ref 79), (0, .ref 50)]) (st' := [.ref 50, .ref 79, .ref 50]) (μ' := z_ui (z_ui (z_ui (z_ui (z_ui W3 79 3 1) 61 0 ((μ.1 61 0) + (-3000))) 61 1 ((μ.1 61 1) + 1000)) 61 2 ((μ.1 61 2) + 1000)) 61 3 ((μ.1 61 3) + 1000)) (by rfl) ?_
            refine zq_gfi hc hH (by rfl) (ci := 6) (f := 40) (by rfl) (by decide +kernel) (by rfl) ?_
            refine zV1 (Z := Z) (Eq.trans (ui_o (by first | decide | omega)) (Eq.trans (ui_o (by first | decide | omega)) (Eq.trans (ui_o (by first | decide | omega)) (Eq.trans (ui_o (by first | decide | omega)) (Eq.trans (ui_o (by first | decide | omega)) (Eq.trans (hO3 50 40 (by omega)).1 (Eq.trans (ui_o (by first | decide | omega)) (Eq.trans (hO2 50 40 (by omega)).1 (Eq.trans (ui_o (by first | decide | omega)) (Eq.trans (hO1 50 40 (by omega)).1 (Eq.trans (ui_o (by first | decide | omega)) (hO0 50 40 (by omega)).1))))))))))) ?_
            rw [(z_zero_o (by decide)).trans hdl]
            refine zq_bald hc hH (by rfl) 4 (by decide +kernel) (vp_in_nI (by omega) (by decide)) ?_
            rw [nI_clamp (by omega)]
            refine zV1 (Z := Z) (Eq.trans (ui_o (by first | decide | omega)) (Eq.trans (ui_o (by first | decide | omega)) (Eq.trans (ui_o (by first | decide | omega)) (Eq.trans (ui_o (by first | decide | omega)) (Eq.trans (ui_k (by first | decide | omega)) (Eq.trans (hO3 79 1 (by omega)).1 (Eq.trans (ui_k (by first | decide | omega)) (Eq.trans (hO2 79 1 (by omega)).1 (ui_s))))))))) ?_
            refine z_rcs0 hc hH 1 (pc' := 111) (lv' := [(3, .int 4), (1, .int 3), (2, .ref 79), (0, .ref 50)]) (st' := [.int 1, .int 1, .ref 50]) (by rfl) ?_
            refine zq_call hc (z_cx_ok hH (by rfl)) (gm_endsB d' (by omega) (z_ui (z_ui (z_ui (z_ui (z_ui W3 79 3 1) 61 0 ((μ.1 61 0) + (-3000))) 61 1 ((μ.1 61 1) + 1000)) 61 2 ((μ.1 61 2) + 1000)) 61 3 ((μ.1 61 3) + 1000)) true true 1 e (by rw [ui_o (by first | decide | omega), ui_o (by first | decide | omega), ui_o (by first | decide | omega), ui_o (by first | decide | omega), ui_o (by first | decide | omega), (hO3 50 40 (by omega)).1, ui_o (by first | decide | omega), (hO2 50 40 (by omega)).1, ui_o (by first | decide | omega), (hO1 50 40 (by omega)).1, ui_o (by first | decide | omega), (hO0 50 40 (by omega)).1]; exact (z_zero_o (by decide)).trans hdl) hdl4 he) (by decide +kernel) (fun r9 μ9 hq => ?_)
            obtain ⟨hr9, hm9⟩ := hq
            rw [hr9, hm9]
            clear hr9 hm9
            show Z 1 114 [(3, .int 4), (1, .int 3), (2, .ref 79), (0, .ref 50)] [] (eMB (z_ui (z_ui (z_ui (z_ui (z_ui W3 79 3 1) 61 0 ((μ.1 61 0) + (-3000))) 61 1 ((μ.1 61 1) + 1000)) 61 2 ((μ.1 61 2) + 1000)) 61 3 ((μ.1 61 3) + 1000)) true true 1 e)
            exact hr 1 114 _ _ _ none (by decide +kernel) (by rfl) (by refine ⟨rfl, ?_⟩; unfold nM0111; exact SM_eMB (SM_ui (SM_ui (SM_ui (SM_ui (SM_ui (SM_tr (SM_ui (SM_tr (SM_ui (SM_tr (SM_ui (SM_tr (SM_rf _) hO0)) hO1)) hO2)) hO3)))))))
          · skip
            refine z_rcs hc hH 3 (pc' := 106) (lv' := [(3, .int 4), (1, .int 3), (2, .ref 79), (0, .ref 50)]) (st' := [.ref 50, .ref 79, .ref 50]) (μ' := z_ui (z_ui (z_ui (z_ui (z_ui W3 79 3 1) 61 0 ((μ.1 61 0) + (-3000))) 61 1 ((μ.1 61 1) + 1000)) 61 2 ((μ.1 61 2) + 1000)) 61 3 ((μ.1 61 3) + 1000)) (by rfl) ?_
            refine zq_gfi hc hH (by rfl) (ci := 6) (f := 40) (by rfl) (by decide +kernel) (by rfl) ?_
            refine zV1 (Z := Z) (Eq.trans (ui_o (by first | decide | omega)) (Eq.trans (ui_o (by first | decide | omega)) (Eq.trans (ui_o (by first | decide | omega)) (Eq.trans (ui_o (by first | decide | omega)) (Eq.trans (ui_o (by first | decide | omega)) (Eq.trans (hO3 50 40 (by omega)).1 (Eq.trans (ui_o (by first | decide | omega)) (Eq.trans (hO2 50 40 (by omega)).1 (Eq.trans (ui_o (by first | decide | omega)) (Eq.trans (hO1 50 40 (by omega)).1 (Eq.trans (ui_o (by first | decide | omega)) (hO0 50 40 (by omega)).1))))))))))) ?_
            rw [(z_zero_o (by decide)).trans hdl]
            refine zq_bald hc hH (by rfl) 4 (by decide +kernel) (vp_in_nI (by omega) (by decide)) ?_
            rw [nI_clamp (by omega)]
            refine zV1 (Z := Z) (Eq.trans (ui_o (by first | decide | omega)) (Eq.trans (ui_o (by first | decide | omega)) (Eq.trans (ui_o (by first | decide | omega)) (Eq.trans (ui_o (by first | decide | omega)) (Eq.trans (ui_k (by first | decide | omega)) (Eq.trans (hO3 79 2 (by omega)).1 (ui_s))))))) ?_
            refine z_rcs0 hc hH 1 (pc' := 111) (lv' := [(3, .int 4), (1, .int 3), (2, .ref 79), (0, .ref 50)]) (st' := [.int 1, .int 1, .ref 50]) (by rfl) ?_
            refine zq_call hc (z_cx_ok hH (by rfl)) (gm_endsB d' (by omega) (z_ui (z_ui (z_ui (z_ui (z_ui W3 79 3 1) 61 0 ((μ.1 61 0) + (-3000))) 61 1 ((μ.1 61 1) + 1000)) 61 2 ((μ.1 61 2) + 1000)) 61 3 ((μ.1 61 3) + 1000)) true true 2 e (by rw [ui_o (by first | decide | omega), ui_o (by first | decide | omega), ui_o (by first | decide | omega), ui_o (by first | decide | omega), ui_o (by first | decide | omega), (hO3 50 40 (by omega)).1, ui_o (by first | decide | omega), (hO2 50 40 (by omega)).1, ui_o (by first | decide | omega), (hO1 50 40 (by omega)).1, ui_o (by first | decide | omega), (hO0 50 40 (by omega)).1]; exact (z_zero_o (by decide)).trans hdl) hdl4 he) (by decide +kernel) (fun r9 μ9 hq => ?_)
            obtain ⟨hr9, hm9⟩ := hq
            rw [hr9, hm9]
            clear hr9 hm9
            show Z 1 114 [(3, .int 4), (1, .int 3), (2, .ref 79), (0, .ref 50)] [] (eMB (z_ui (z_ui (z_ui (z_ui (z_ui W3 79 3 1) 61 0 ((μ.1 61 0) + (-3000))) 61 1 ((μ.1 61 1) + 1000)) 61 2 ((μ.1 61 2) + 1000)) 61 3 ((μ.1 61 3) + 1000)) true true 2 e)
            exact hr 1 114 _ _ _ none (by decide +kernel) (by rfl) (by refine ⟨rfl, ?_⟩; unfold nM0111; exact SM_eMB (SM_ui (SM_ui (SM_ui (SM_ui (SM_ui (SM_tr (SM_ui (SM_tr (SM_ui (SM_tr (SM_ui (SM_tr (SM_rf _) hO0)) hO1)) hO2)) hO3)))))))
          · skip
            refine z_rcs hc hH 3 (pc' := 106) (lv' := [(3, .int 4), (1, .int 3), (2, .ref 79), (0, .ref 50)]) (st' := [.ref 50, .ref 79, .ref 50]) (μ' := z_ui (z_ui (z_ui (z_ui (z_ui W3 79 3 1) 61 0 ((μ.1 61 0) + (-3000))) 61 1 ((μ.1 61 1) + 1000)) 61 2 ((μ.1 61 2) + 1000)) 61 3 ((μ.1 61 3) + 1000)) (by rfl) ?_
            refine zq_gfi hc hH (by rfl) (ci := 6) (f := 40) (by rfl) (by decide +kernel) (by rfl) ?_
            refine zV1 (Z := Z) (Eq.trans (ui_o (by first | decide | omega)) (Eq.trans (ui_o (by first | decide | omega)) (Eq.trans (ui_o (by first | decide | omega)) (Eq.trans (ui_o (by first | decide | omega)) (Eq.trans (ui_o (by first | decide | omega)) (Eq.trans (hO3 50 40 (by omega)).1 (Eq.trans (ui_o (by first | decide | omega)) (Eq.trans (hO2 50 40 (by omega)).1 (Eq.trans (ui_o (by first | decide | omega)) (Eq.trans (hO1 50 40 (by omega)).1 (Eq.trans (ui_o (by first | decide | omega)) (hO0 50 40 (by omega)).1))))))))))) ?_
            rw [(z_zero_o (by decide)).trans hdl]
            refine zq_bald hc hH (by rfl) 4 (by decide +kernel) (vp_in_nI (by omega) (by decide)) ?_
            rw [nI_clamp (by omega)]
            refine zV1 (Z := Z) (Eq.trans (ui_o (by first | decide | omega)) (Eq.trans (ui_o (by first | decide | omega)) (Eq.trans (ui_o (by first | decide | omega)) (Eq.trans (ui_o (by first | decide | omega)) (ui_s))))) ?_
            refine z_rcs0 hc hH 1 (pc' := 111) (lv' := [(3, .int 4), (1, .int 3), (2, .ref 79), (0, .ref 50)]) (st' := [.int 1, .int 1, .ref 50]) (by rfl) ?_
            refine zq_call hc (z_cx_ok hH (by rfl)) (gm_endsB d' (by omega) (z_ui (z_ui (z_ui (z_ui (z_ui W3 79 3 1) 61 0 ((μ.1 61 0) + (-3000))) 61 1 ((μ.1 61 1) + 1000)) 61 2 ((μ.1 61 2) + 1000)) 61 3 ((μ.1 61 3) + 1000)) true true 3 e (by rw [ui_o (by first | decide | omega), ui_o (by first | decide | omega), ui_o (by first | decide | omega), ui_o (by first | decide | omega), ui_o (by first | decide | omega), (hO3 50 40 (by omega)).1, ui_o (by first | decide | omega), (hO2 50 40 (by omega)).1, ui_o (by first | decide | omega), (hO1 50 40 (by omega)).1, ui_o (by first | decide | omega), (hO0 50 40 (by omega)).1]; exact (z_zero_o (by decide)).trans hdl) hdl4 he) (by decide +kernel) (fun r9 μ9 hq => ?_)
            obtain ⟨hr9, hm9⟩ := hq
            rw [hr9, hm9]
            clear hr9 hm9
            show Z 1 114 [(3, .int 4), (1, .int 3), (2, .ref 79), (0, .ref 50)] [] (eMB (z_ui (z_ui (z_ui (z_ui (z_ui W3 79 3 1) 61 0 ((μ.1 61 0) + (-3000))) 61 1 ((μ.1 61 1) + 1000)) 61 2 ((μ.1 61 2) + 1000)) 61 3 ((μ.1 61 3) + 1000)) true true 3 e)
            exact hr 1 114 _ _ _ none (by decide +kernel) (by rfl) (by refine ⟨rfl, ?_⟩; unfold nM0111; exact SM_eMB (SM_ui (SM_ui (SM_ui (SM_ui (SM_ui (SM_tr (SM_ui (SM_tr (SM_ui (SM_tr (SM_ui (SM_tr (SM_rf _) hO0)) hO1)) hO2)) hO3)))))))
  · have h1 : (decide ((lg_cmp w0 0) = 0)) = false := decide_eq_false (cn_eq.mp h1)
    exact absurd (Eq.trans (Eq.symm (hb0)) h1) (by decide)
noncomputable def nM1000 (μ : zM) : zM := z_ui (z_ui (z_ui (z_ui (z_ui (z_ui (z_ui (z_ui (z_zero μ) 79 0 1) 79 1 0) 79 2 0) 79 3 0) 61 0 ((μ.1 61 0) + 3000)) 61 1 ((μ.1 61 1) + (-1000))) 61 2 ((μ.1 61 2) + (-1000))) 61 3 ((μ.1 61 3) + (-1000))
theorem gm_nobody1000 (d : Nat) (hd : 700 ≤ d) (μ : zM) (hH0 : a_H μ) (dl e : Nat) (hdl : μ.1 50 40 = nI dl) (hdl4 : dl < 4) (he : (dl + 1) % 4 = e) (w0 : Int64) (hw0 : ∀ M, SE μ M → a_H M → ∀ d, 699 ≤ d → z_C d mi_X7_waitsAt [.ref 50, .int 0] M (fun r W => r = some (.long w0) ∧ SMj M W ∧ a_H W)) (hb0 : decide (lg_cmp w0 0 = 0) = false) (w1 : Int64) (hw1 : ∀ M, SE μ M → a_H M → ∀ d, 699 ≤ d → z_C d mi_X7_waitsAt [.ref 50, .int 1] M (fun r W => r = some (.long w1) ∧ SMj M W ∧ a_H W)) (hb1 : decide (lg_cmp w1 0 = 0) = true) (w2 : Int64) (hw2 : ∀ M, SE μ M → a_H M → ∀ d, 699 ≤ d → z_C d mi_X7_waitsAt [.ref 50, .int 2] M (fun r W => r = some (.long w2) ∧ SMj M W ∧ a_H W)) (hb2 : decide (lg_cmp w2 0 = 0) = true) (w3 : Int64) (hw3 : ∀ M, SE μ M → a_H M → ∀ d, 699 ≤ d → z_C d mi_X7_waitsAt [.ref 50, .int 3] M (fun r W => r = some (.long w3) ∧ SMj M W ∧ a_H W)) (hb3 : decide (lg_cmp w3 0 = 0) = true) : z_C d mi_X7_nobodyWins [.ref 50] μ (fun r μ' => r = none ∧ SMj (eMB (nM1000 μ) (nbS true false false false dl) true dl e) μ') := by
  obtain ⟨d', rfl⟩ : ∃ d', d = d' + 1 := ⟨d - 1, by omega⟩
  intro Z hc hr
  refine ⟨rfl, ?_⟩
  have hH := zh_X7_nobodyWins
  refine z_rcs hc hH 9 (pc' := 17) (lv' := [(3, .int 0), (2, .ref 79), (1, .int 0), (0, .ref 50)]) (st' := [.int 0, .ref 50, .int 0, .ref 79]) (μ' := z_zero μ) (by rfl) ?_
  refine zq_call hc (z_cx_ok hH (by rfl)) (hw0 _ (SE_zr _) (a_H_zero hH0) d' (by omega)) (by decide +kernel) (fun r9 W0 hq => ?_)
  obtain ⟨rfl, hO0, hA0⟩ := hq
  show Z 1 20 [(3, .int 0), (2, .ref 79), (1, .int 0), (0, .ref 50)] [.long w0, .int 0, .ref 79] W0
  refine z_rcs hc hH 2 (pc' := 22) (lv' := [(3, .int 0), (2, .ref 79), (1, .int 0), (0, .ref 50)]) (st' := [.int (lg_cmp w0 0), .int 0, .ref 79]) (μ' := W0) (by rfl) ?_
  refine zq_if hc hH (by rfl) (tg := 29) (by rfl) (fun h1 => ?_) (fun h1 => ?_)
  · have h1 : (decide ((lg_cmp w0 0) = 0)) = true := decide_eq_true (cm_eq9.mp h1)
    exact absurd (Eq.trans (Eq.symm (hb0)) h1) (by decide)
  · have h1 : (decide ((lg_cmp w0 0) = 0)) = false := decide_eq_false (cn_eq.mp h1)
    refine z_rcs hc hH 2 (pc' := 30) (lv' := [(3, .int 0), (2, .ref 79), (1, .int 0), (0, .ref 50)]) (st' := [.int 1, .int 0, .ref 79]) (μ' := W0) (by rfl) ?_
    refine zq_bast hc hH (by rfl) 4 (by decide +kernel) (show vp_in (nI 0) 4 from vp_in_nI (by decide) (by decide)) (by decide) ?_
    rw [show (0 : Int32).toNatClampNeg = 0 from rfl]
    show Z 1 31 [(3, .int 0), (2, .ref 79), (1, .int 0), (0, .ref 50)] [] (z_ui W0 79 0 1)
    refine z_rcs hc hH 3 (pc' := 34) (lv' := [(3, .int 0), (2, .ref 79), (1, .int 0), (0, .ref 50)]) (st' := [.int 0, .ref 79, .int 0]) (μ' := z_ui W0 79 0 1) (by rfl) ?_
    refine zq_bald hc hH (by rfl) 4 (by decide +kernel) (show vp_in (nI 0) 4 from vp_in_nI (by decide) (by decide)) ?_
    rw [show (0 : Int32).toNatClampNeg = 0 from rfl]
    rw [ui_s]
    refine z_rcs hc hH 14 (pc' := 17) (lv' := [(3, .int 1), (1, .int 1), (2, .ref 79), (0, .ref 50)]) (st' := [.int 1, .ref 50, .int 1, .ref 79]) (μ' := z_ui W0 79 0 1) (by rfl) ?_
    refine zq_call hc (z_cx_ok hH (by rfl)) (hw1 _ (SE_ui (SE_sm (SE_zr _) hO0) (by omega)) (a_H_ui (r := 79) (k := 0) (hA0) ⟨by decide, by decide⟩) d' (by omega)) (by decide +kernel) (fun r9 W1 hq => ?_)
    obtain ⟨rfl, hO1, hA1⟩ := hq
    show Z 1 20 [(3, .int 1), (1, .int 1), (2, .ref 79), (0, .ref 50)] [.long w1, .int 1, .ref 79] W1
    refine z_rcs hc hH 2 (pc' := 22) (lv' := [(3, .int 1), (1, .int 1), (2, .ref 79), (0, .ref 50)]) (st' := [.int (lg_cmp w1 0), .int 1, .ref 79]) (μ' := W1) (by rfl) ?_
    refine zq_if hc hH (by rfl) (tg := 29) (by rfl) (fun h2 => ?_) (fun h2 => ?_)
    · have h2 : (decide ((lg_cmp w1 0) = 0)) = true := decide_eq_true (cm_eq9.mp h2)
      refine z_rcs hc hH 1 (pc' := 30) (lv' := [(3, .int 1), (1, .int 1), (2, .ref 79), (0, .ref 50)]) (st' := [.int 0, .int 1, .ref 79]) (μ' := W1) (by rfl) ?_
      refine zq_bast hc hH (by rfl) 4 (by decide +kernel) (show vp_in (nI 1) 4 from vp_in_nI (by decide) (by decide)) (by decide) ?_
      rw [show (1 : Int32).toNatClampNeg = 1 from rfl]
      show Z 1 31 [(3, .int 1), (1, .int 1), (2, .ref 79), (0, .ref 50)] [] (z_ui W1 79 1 0)
      refine z_rcs hc hH 3 (pc' := 34) (lv' := [(3, .int 1), (1, .int 1), (2, .ref 79), (0, .ref 50)]) (st' := [.int 1, .ref 79, .int 1]) (μ' := z_ui W1 79 1 0) (by rfl) ?_
      refine zq_bald hc hH (by rfl) 4 (by decide +kernel) (show vp_in (nI 1) 4 from vp_in_nI (by decide) (by decide)) ?_
      rw [show (1 : Int32).toNatClampNeg = 1 from rfl]
      rw [ui_s]
      refine z_rcs hc hH 13 (pc' := 17) (lv' := [(3, .int 2), (1, .int 1), (2, .ref 79), (0, .ref 50)]) (st' := [.int 2, .ref 50, .int 2, .ref 79]) (μ' := z_ui W1 79 1 0) (by rfl) ?_
      refine zq_call hc (z_cx_ok hH (by rfl)) (hw2 _ (SE_ui (SE_sm (SE_ui (SE_sm (SE_zr _) hO0) (by omega)) hO1) (by omega)) (a_H_ui (r := 79) (k := 1) (hA1) ⟨by decide, by decide⟩) d' (by omega)) (by decide +kernel) (fun r9 W2 hq => ?_)
      obtain ⟨rfl, hO2, hA2⟩ := hq
      show Z 1 20 [(3, .int 2), (1, .int 1), (2, .ref 79), (0, .ref 50)] [.long w2, .int 2, .ref 79] W2
      refine z_rcs hc hH 2 (pc' := 22) (lv' := [(3, .int 2), (1, .int 1), (2, .ref 79), (0, .ref 50)]) (st' := [.int (lg_cmp w2 0), .int 2, .ref 79]) (μ' := W2) (by rfl) ?_
      refine zq_if hc hH (by rfl) (tg := 29) (by rfl) (fun h3 => ?_) (fun h3 => ?_)
      · have h3 : (decide ((lg_cmp w2 0) = 0)) = true := decide_eq_true (cm_eq9.mp h3)
        refine z_rcs hc hH 1 (pc' := 30) (lv' := [(3, .int 2), (1, .int 1), (2, .ref 79), (0, .ref 50)]) (st' := [.int 0, .int 2, .ref 79]) (μ' := W2) (by rfl) ?_
        refine zq_bast hc hH (by rfl) 4 (by decide +kernel) (show vp_in (nI 2) 4 from vp_in_nI (by decide) (by decide)) (by decide) ?_
        rw [show (2 : Int32).toNatClampNeg = 2 from rfl]
        show Z 1 31 [(3, .int 2), (1, .int 1), (2, .ref 79), (0, .ref 50)] [] (z_ui W2 79 2 0)
        refine z_rcs hc hH 3 (pc' := 34) (lv' := [(3, .int 2), (1, .int 1), (2, .ref 79), (0, .ref 50)]) (st' := [.int 2, .ref 79, .int 1]) (μ' := z_ui W2 79 2 0) (by rfl) ?_
        refine zq_bald hc hH (by rfl) 4 (by decide +kernel) (show vp_in (nI 2) 4 from vp_in_nI (by decide) (by decide)) ?_
        rw [show (2 : Int32).toNatClampNeg = 2 from rfl]
        rw [ui_s]
        refine z_rcs hc hH 13 (pc' := 17) (lv' := [(3, .int 3), (1, .int 1), (2, .ref 79), (0, .ref 50)]) (st' := [.int 3, .ref 50, .int 3, .ref 79]) (μ' := z_ui W2 79 2 0) (by rfl) ?_
        refine zq_call hc (z_cx_ok hH (by rfl)) (hw3 _ (SE_ui (SE_sm (SE_ui (SE_sm (SE_ui (SE_sm (SE_zr _) hO0) (by omega)) hO1) (by omega)) hO2) (by omega)) (a_H_ui (r := 79) (k := 2) (hA2) ⟨by decide, by decide⟩) d' (by omega)) (by decide +kernel) (fun r9 W3 hq => ?_)
        obtain ⟨rfl, hO3, hA3⟩ := hq
        show Z 1 20 [(3, .int 3), (1, .int 1), (2, .ref 79), (0, .ref 50)] [.long w3, .int 3, .ref 79] W3
        refine z_rcs hc hH 2 (pc' := 22) (lv' := [(3, .int 3), (1, .int 1), (2, .ref 79), (0, .ref 50)]) (st' := [.int (lg_cmp w3 0), .int 3, .ref 79]) (μ' := W3) (by rfl) ?_
        refine zq_if hc hH (by rfl) (tg := 29) (by rfl) (fun h4 => ?_) (fun h4 => ?_)
        · have h4 : (decide ((lg_cmp w3 0) = 0)) = true := decide_eq_true (cm_eq9.mp h4)
          refine z_rcs hc hH 1 (pc' := 30) (lv' := [(3, .int 3), (1, .int 1), (2, .ref 79), (0, .ref 50)]) (st' := [.int 0, .int 3, .ref 79]) (μ' := W3) (by rfl) ?_
          refine zq_bast hc hH (by rfl) 4 (by decide +kernel) (show vp_in (nI 3) 4 from vp_in_nI (by decide) (by decide)) (by decide) ?_
          rw [show (3 : Int32).toNatClampNeg = 3 from rfl]
          show Z 1 31 [(3, .int 3), (1, .int 1), (2, .ref 79), (0, .ref 50)] [] (z_ui W3 79 3 0)
          refine z_rcs hc hH 3 (pc' := 34) (lv' := [(3, .int 3), (1, .int 1), (2, .ref 79), (0, .ref 50)]) (st' := [.int 3, .ref 79, .int 1]) (μ' := z_ui W3 79 3 0) (by rfl) ?_
          refine zq_bald hc hH (by rfl) 4 (by decide +kernel) (show vp_in (nI 3) 4 from vp_in_nI (by decide) (by decide)) ?_
          rw [show (3 : Int32).toNatClampNeg = 3 from rfl]
          rw [ui_s]
          refine z_rcs hc hH 20 (pc' := 68) (lv' := [(3, .int 0), (1, .int 1), (2, .ref 79), (0, .ref 50)]) (st' := [.ref 50]) (μ' := z_ui W3 79 3 0) (by rfl) ?_
          refine zq_gfr hc hH (by rfl) (ci := 6) (f := 29) (q := 61) (by rfl) (by decide +kernel) (by rfl) (by decide +kernel) ?_
          refine z_rcs hc hH 2 (pc' := 73) (lv' := [(3, .int 0), (1, .int 1), (2, .ref 79), (0, .ref 50)]) (st' := [.int 0, .ref 61, .int 0, .ref 61]) (μ' := z_ui W3 79 3 0) (by rfl) ?_
          refine zq_iald hc hH (by rfl) 4 (oka_i (by decide +kernel)) (show vp_in (nI 0) 4 from vp_in_nI (by decide) (by decide)) ?_
          rw [show (0 : Int32).toNatClampNeg = 0 from rfl]
          refine zV1 (Z := Z) (Eq.trans (ui_o (by first | decide | omega)) (Eq.trans (hO3 61 0 (by omega)).1 (Eq.trans (ui_o (by first | decide | omega)) (Eq.trans (hO2 61 0 (by omega)).1 (Eq.trans (ui_o (by first | decide | omega)) (Eq.trans (hO1 61 0 (by omega)).1 (Eq.trans (ui_o (by first | decide | omega)) (hO0 61 0 (by omega)).1))))))) ?_
          rw [z_zero_o (by decide)]
          refine z_rcs hc hH 2 (pc' := 76) (lv' := [(3, .int 0), (1, .int 1), (2, .ref 79), (0, .ref 50)]) (st' := [.int 0, .ref 79, .int (μ.1 61 0), .int 0, .ref 61]) (μ' := z_ui W3 79 3 0) (by rfl) ?_
          refine zq_bald hc hH (by rfl) 4 (by decide +kernel) (show vp_in (nI 0) 4 from vp_in_nI (by decide) (by decide)) ?_
          rw [show (0 : Int32).toNatClampNeg = 0 from rfl]
          refine zV1 (Z := Z) (Eq.trans (ui_k (by first | decide | omega)) (Eq.trans (hO3 79 0 (by omega)).1 (Eq.trans (ui_k (by first | decide | omega)) (Eq.trans (hO2 79 0 (by omega)).1 (Eq.trans (ui_k (by first | decide | omega)) (Eq.trans (hO1 79 0 (by omega)).1 (ui_s))))))) ?_
          refine z_rcs hc hH 6 (pc' := 96) (lv' := [(3, .int 0), (1, .int 1), (2, .ref 79), (0, .ref 50)]) (st' := [.int ((μ.1 61 0) + 3000), .int 0, .ref 61]) (μ' := z_ui W3 79 3 0) (by rfl) ?_
          refine zq_iast hc hH (by rfl) 4 (oka_i (by decide +kernel)).2 (show vp_in (nI 0) 4 from vp_in_nI (by decide) (by decide)) ?_
          rw [show (0 : Int32).toNatClampNeg = 0 from rfl]
          show Z 1 97 [(3, .int 0), (1, .int 1), (2, .ref 79), (0, .ref 50)] [] (z_ui (z_ui W3 79 3 0) 61 0 ((μ.1 61 0) + 3000))
          refine z_rcs0 hc hH 6 (pc' := 68) (lv' := [(3, .int 1), (1, .int 1), (2, .ref 79), (0, .ref 50)]) (st' := [.ref 50]) (by rfl) ?_
          refine zq_gfr hc hH (by rfl) (ci := 6) (f := 29) (q := 61) (by rfl) (by decide +kernel) (by rfl) (by decide +kernel) ?_
          refine z_rcs0 hc hH 2 (pc' := 73) (lv' := [(3, .int 1), (1, .int 1), (2, .ref 79), (0, .ref 50)]) (st' := [.int 1, .ref 61, .int 1, .ref 61]) (by rfl) ?_
          refine zq_iald hc hH (by rfl) 4 (oka_i (by decide +kernel)) (show vp_in (nI 1) 4 from vp_in_nI (by decide) (by decide)) ?_
          rw [show (1 : Int32).toNatClampNeg = 1 from rfl]
          refine zV1 (Z := Z) (Eq.trans (ui_k (by first | decide | omega)) (Eq.trans (ui_o (by first | decide | omega)) (Eq.trans (hO3 61 1 (by omega)).1 (Eq.trans (ui_o (by first | decide | omega)) (Eq.trans (hO2 61 1 (by omega)).1 (Eq.trans (ui_o (by first | decide | omega)) (Eq.trans (hO1 61 1 (by omega)).1 (Eq.trans (ui_o (by first | decide | omega)) (hO0 61 1 (by omega)).1)))))))) ?_
          rw [z_zero_o (by decide)]
          refine z_rcs0 hc hH 2 (pc' := 76) (lv' := [(3, .int 1), (1, .int 1), (2, .ref 79), (0, .ref 50)]) (st' := [.int 1, .ref 79, .int (μ.1 61 1), .int 1, .ref 61]) (by rfl) ?_
          refine zq_bald hc hH (by rfl) 4 (by decide +kernel) (show vp_in (nI 1) 4 from vp_in_nI (by decide) (by decide)) ?_
          rw [show (1 : Int32).toNatClampNeg = 1 from rfl]
          refine zV1 (Z := Z) (Eq.trans (ui_o (by first | decide | omega)) (Eq.trans (ui_k (by first | decide | omega)) (Eq.trans (hO3 79 1 (by omega)).1 (Eq.trans (ui_k (by first | decide | omega)) (Eq.trans (hO2 79 1 (by omega)).1 (ui_s)))))) ?_
          refine z_rcs0 hc hH 7 (pc' := 96) (lv' := [(3, .int 1), (1, .int 1), (2, .ref 79), (0, .ref 50)]) (st' := [.int ((μ.1 61 1) + (-1000)), .int 1, .ref 61]) (by rfl) ?_
          refine zq_iast hc hH (by rfl) 4 (oka_i (by decide +kernel)).2 (show vp_in (nI 1) 4 from vp_in_nI (by decide) (by decide)) ?_
          rw [show (1 : Int32).toNatClampNeg = 1 from rfl]
          show Z 1 97 [(3, .int 1), (1, .int 1), (2, .ref 79), (0, .ref 50)] [] (z_ui (z_ui (z_ui W3 79 3 0) 61 0 ((μ.1 61 0) + 3000)) 61 1 ((μ.1 61 1) + (-1000)))
          refine z_rcs0 hc hH 6 (pc' := 68) (lv' := [(3, .int 2), (1, .int 1), (2, .ref 79), (0, .ref 50)]) (st' := [.ref 50]) (by rfl) ?_
          refine zq_gfr hc hH (by rfl) (ci := 6) (f := 29) (q := 61) (by rfl) (by decide +kernel) (by rfl) (by decide +kernel) ?_
          refine z_rcs0 hc hH 2 (pc' := 73) (lv' := [(3, .int 2), (1, .int 1), (2, .ref 79), (0, .ref 50)]) (st' := [.int 2, .ref 61, .int 2, .ref 61]) (by rfl) ?_
          refine zq_iald hc hH (by rfl) 4 (oka_i (by decide +kernel)) (show vp_in (nI 2) 4 from vp_in_nI (by decide) (by decide)) ?_
          rw [show (2 : Int32).toNatClampNeg = 2 from rfl]
          refine zV1 (Z := Z) (Eq.trans (ui_k (by first | decide | omega)) (Eq.trans (ui_k (by first | decide | omega)) (Eq.trans (ui_o (by first | decide | omega)) (Eq.trans (hO3 61 2 (by omega)).1 (Eq.trans (ui_o (by first | decide | omega)) (Eq.trans (hO2 61 2 (by omega)).1 (Eq.trans (ui_o (by first | decide | omega)) (Eq.trans (hO1 61 2 (by omega)).1 (Eq.trans (ui_o (by first | decide | omega)) (hO0 61 2 (by omega)).1))))))))) ?_
          rw [z_zero_o (by decide)]
          refine z_rcs0 hc hH 2 (pc' := 76) (lv' := [(3, .int 2), (1, .int 1), (2, .ref 79), (0, .ref 50)]) (st' := [.int 2, .ref 79, .int (μ.1 61 2), .int 2, .ref 61]) (by rfl) ?_
          refine zq_bald hc hH (by rfl) 4 (by decide +kernel) (show vp_in (nI 2) 4 from vp_in_nI (by decide) (by decide)) ?_
          rw [show (2 : Int32).toNatClampNeg = 2 from rfl]
          refine zV1 (Z := Z) (Eq.trans (ui_o (by first | decide | omega)) (Eq.trans (ui_o (by first | decide | omega)) (Eq.trans (ui_k (by first | decide | omega)) (Eq.trans (hO3 79 2 (by omega)).1 (ui_s))))) ?_
          refine z_rcs0 hc hH 7 (pc' := 96) (lv' := [(3, .int 2), (1, .int 1), (2, .ref 79), (0, .ref 50)]) (st' := [.int ((μ.1 61 2) + (-1000)), .int 2, .ref 61]) (by rfl) ?_
          refine zq_iast hc hH (by rfl) 4 (oka_i (by decide +kernel)).2 (show vp_in (nI 2) 4 from vp_in_nI (by decide) (by decide)) ?_
          rw [show (2 : Int32).toNatClampNeg = 2 from rfl]
          show Z 1 97 [(3, .int 2), (1, .int 1), (2, .ref 79), (0, .ref 50)] [] (z_ui (z_ui (z_ui (z_ui W3 79 3 0) 61 0 ((μ.1 61 0) + 3000)) 61 1 ((μ.1 61 1) + (-1000))) 61 2 ((μ.1 61 2) + (-1000)))
          refine z_rcs0 hc hH 6 (pc' := 68) (lv' := [(3, .int 3), (1, .int 1), (2, .ref 79), (0, .ref 50)]) (st' := [.ref 50]) (by rfl) ?_
          refine zq_gfr hc hH (by rfl) (ci := 6) (f := 29) (q := 61) (by rfl) (by decide +kernel) (by rfl) (by decide +kernel) ?_
          refine z_rcs0 hc hH 2 (pc' := 73) (lv' := [(3, .int 3), (1, .int 1), (2, .ref 79), (0, .ref 50)]) (st' := [.int 3, .ref 61, .int 3, .ref 61]) (by rfl) ?_
          refine zq_iald hc hH (by rfl) 4 (oka_i (by decide +kernel)) (show vp_in (nI 3) 4 from vp_in_nI (by decide) (by decide)) ?_
          rw [show (3 : Int32).toNatClampNeg = 3 from rfl]
          refine zV1 (Z := Z) (Eq.trans (ui_k (by first | decide | omega)) (Eq.trans (ui_k (by first | decide | omega)) (Eq.trans (ui_k (by first | decide | omega)) (Eq.trans (ui_o (by first | decide | omega)) (Eq.trans (hO3 61 3 (by omega)).1 (Eq.trans (ui_o (by first | decide | omega)) (Eq.trans (hO2 61 3 (by omega)).1 (Eq.trans (ui_o (by first | decide | omega)) (Eq.trans (hO1 61 3 (by omega)).1 (Eq.trans (ui_o (by first | decide | omega)) (hO0 61 3 (by omega)).1)))))))))) ?_
          rw [z_zero_o (by decide)]
          refine z_rcs0 hc hH 2 (pc' := 76) (lv' := [(3, .int 3), (1, .int 1), (2, .ref 79), (0, .ref 50)]) (st' := [.int 3, .ref 79, .int (μ.1 61 3), .int 3, .ref 61]) (by rfl) ?_
          refine zq_bald hc hH (by rfl) 4 (by decide +kernel) (show vp_in (nI 3) 4 from vp_in_nI (by decide) (by decide)) ?_
          rw [show (3 : Int32).toNatClampNeg = 3 from rfl]
          refine zV1 (Z := Z) (Eq.trans (ui_o (by first | decide | omega)) (Eq.trans (ui_o (by first | decide | omega)) (Eq.trans (ui_o (by first | decide | omega)) (ui_s)))) ?_
          refine z_rcs0 hc hH 7 (pc' := 96) (lv' := [(3, .int 3), (1, .int 1), (2, .ref 79), (0, .ref 50)]) (st' := [.int ((μ.1 61 3) + (-1000)), .int 3, .ref 61]) (by rfl) ?_
          refine zq_iast hc hH (by rfl) 4 (oka_i (by decide +kernel)).2 (show vp_in (nI 3) 4 from vp_in_nI (by decide) (by decide)) ?_
          rw [show (3 : Int32).toNatClampNeg = 3 from rfl]
          show Z 1 97 [(3, .int 3), (1, .int 1), (2, .ref 79), (0, .ref 50)] [] (z_ui (z_ui (z_ui (z_ui (z_ui W3 79 3 0) 61 0 ((μ.1 61 0) + 3000)) 61 1 ((μ.1 61 1) + (-1000))) 61 2 ((μ.1 61 2) + (-1000))) 61 3 ((μ.1 61 3) + (-1000)))
          refine z_rcs0 hc hH 5 (pc' := 103) (lv' := [(3, .int 4), (1, .int 1), (2, .ref 79), (0, .ref 50)]) (st' := []) (by rfl) ?_
          obtain rfl | rfl | rfl | rfl : dl = 0 ∨ dl = 1 ∨ dl = 2 ∨ dl = 3 := by omega
          · skip
            refine z_rcs0 hc hH 3 (pc' := 106) (lv' := [(3, .int 4), (1, .int 1), (2, .ref 79), (0, .ref 50)]) (st' := [.ref 50, .ref 79, .ref 50]) (by rfl) ?_
            refine zq_gfi hc hH (by rfl) (ci := 6) (f := 40) (by rfl) (by decide +kernel) (by rfl) ?_
            refine zV1 (Z := Z) (Eq.trans (ui_o (by first | decide | omega)) (Eq.trans (ui_o (by first | decide | omega)) (Eq.trans (ui_o (by first | decide | omega)) (Eq.trans (ui_o (by first | decide | omega)) (Eq.trans (ui_o (by first | decide | omega)) (Eq.trans (hO3 50 40 (by omega)).1 (Eq.trans (ui_o (by first | decide | omega)) (Eq.trans (hO2 50 40 (by omega)).1 (Eq.trans (ui_o (by first | decide | omega)) (Eq.trans (hO1 50 40 (by omega)).1 (Eq.trans (ui_o (by first | decide | omega)) (hO0 50 40 (by omega)).1))))))))))) ?_
            rw [(z_zero_o (by decide)).trans hdl]
            refine zq_bald hc hH (by rfl) 4 (by decide +kernel) (vp_in_nI (by omega) (by decide)) ?_
            rw [nI_clamp (by omega)]
            refine zV1 (Z := Z) (Eq.trans (ui_o (by first | decide | omega)) (Eq.trans (ui_o (by first | decide | omega)) (Eq.trans (ui_o (by first | decide | omega)) (Eq.trans (ui_o (by first | decide | omega)) (Eq.trans (ui_k (by first | decide | omega)) (Eq.trans (hO3 79 0 (by omega)).1 (Eq.trans (ui_k (by first | decide | omega)) (Eq.trans (hO2 79 0 (by omega)).1 (Eq.trans (ui_k (by first | decide | omega)) (Eq.trans (hO1 79 0 (by omega)).1 (ui_s))))))))))) ?_
            refine z_rcs0 hc hH 1 (pc' := 111) (lv' := [(3, .int 4), (1, .int 1), (2, .ref 79), (0, .ref 50)]) (st' := [.int 1, .int 1, .ref 50]) (by rfl) ?_
            refine zq_call hc (z_cx_ok hH (by rfl)) (gm_endsB d' (by omega) (z_ui (z_ui (z_ui (z_ui (z_ui W3 79 3 0) 61 0 ((μ.1 61 0) + 3000)) 61 1 ((μ.1 61 1) + (-1000))) 61 2 ((μ.1 61 2) + (-1000))) 61 3 ((μ.1 61 3) + (-1000))) true true 0 e (by rw [ui_o (by first | decide | omega), ui_o (by first | decide | omega), ui_o (by first | decide | omega), ui_o (by first | decide | omega), ui_o (by first | decide | omega), (hO3 50 40 (by omega)).1, ui_o (by first | decide | omega), (hO2 50 40 (by omega)).1, ui_o (by first | decide | omega), (hO1 50 40 (by omega)).1, ui_o (by first | decide | omega), (hO0 50 40 (by omega)).1]; exact (z_zero_o (by decide)).trans hdl) hdl4 he) (by decide +kernel) (fun r9 μ9 hq => ?_)
            obtain ⟨hr9, hm9⟩ := hq
            rw [hr9, hm9]
            clear hr9 hm9
            show Z 1 114 [(3, .int 4), (1, .int 1), (2, .ref 79), (0, .ref 50)] [] (eMB (z_ui (z_ui (z_ui (z_ui (z_ui W3 79 3 0) 61 0 ((μ.1 61 0) + 3000)) 61 1 ((μ.1 61 1) + (-1000))) 61 2 ((μ.1 61 2) + (-1000))) 61 3 ((μ.1 61 3) + (-1000))) true true 0 e)
            exact hr 1 114 _ _ _ none (by decide +kernel) (by rfl) (by refine ⟨rfl, ?_⟩; unfold nM1000; exact SM_eMB (SM_ui (SM_ui (SM_ui (SM_ui (SM_ui (SM_tr (SM_ui (SM_tr (SM_ui (SM_tr (SM_ui (SM_tr (SM_rf _) hO0)) hO1)) hO2)) hO3)))))))
          · skip
            refine z_rcs hc hH 3 (pc' := 106) (lv' := [(3, .int 4), (1, .int 1), (2, .ref 79), (0, .ref 50)]) (st' := [.ref 50, .ref 79, .ref 50]) (μ' := z_ui (z_ui (z_ui (z_ui (z_ui W3 79 3 0) 61 0 ((μ.1 61 0) + 3000)) 61 1 ((μ.1 61 1) + (-1000))) 61 2 ((μ.1 61 2) + (-1000))) 61 3 ((μ.1 61 3) + (-1000))) (by rfl) ?_
            refine zq_gfi hc hH (by rfl) (ci := 6) (f := 40) (by rfl) (by decide +kernel) (by rfl) ?_
            refine zV1 (Z := Z) (Eq.trans (ui_o (by first | decide | omega)) (Eq.trans (ui_o (by first | decide | omega)) (Eq.trans (ui_o (by first | decide | omega)) (Eq.trans (ui_o (by first | decide | omega)) (Eq.trans (ui_o (by first | decide | omega)) (Eq.trans (hO3 50 40 (by omega)).1 (Eq.trans (ui_o (by first | decide | omega)) (Eq.trans (hO2 50 40 (by omega)).1 (Eq.trans (ui_o (by first | decide | omega)) (Eq.trans (hO1 50 40 (by omega)).1 (Eq.trans (ui_o (by first | decide | omega)) (hO0 50 40 (by omega)).1))))))))))) ?_
            rw [(z_zero_o (by decide)).trans hdl]
            refine zq_bald hc hH (by rfl) 4 (by decide +kernel) (vp_in_nI (by omega) (by decide)) ?_
            rw [nI_clamp (by omega)]
            refine zV1 (Z := Z) (Eq.trans (ui_o (by first | decide | omega)) (Eq.trans (ui_o (by first | decide | omega)) (Eq.trans (ui_o (by first | decide | omega)) (Eq.trans (ui_o (by first | decide | omega)) (Eq.trans (ui_k (by first | decide | omega)) (Eq.trans (hO3 79 1 (by omega)).1 (Eq.trans (ui_k (by first | decide | omega)) (Eq.trans (hO2 79 1 (by omega)).1 (ui_s))))))))) ?_
            refine z_rcs0 hc hH 1 (pc' := 111) (lv' := [(3, .int 4), (1, .int 1), (2, .ref 79), (0, .ref 50)]) (st' := [.int 1, .int 0, .ref 50]) (by rfl) ?_
            refine zq_call hc (z_cx_ok hH (by rfl)) (gm_endsB d' (by omega) (z_ui (z_ui (z_ui (z_ui (z_ui W3 79 3 0) 61 0 ((μ.1 61 0) + 3000)) 61 1 ((μ.1 61 1) + (-1000))) 61 2 ((μ.1 61 2) + (-1000))) 61 3 ((μ.1 61 3) + (-1000))) false true 1 e (by rw [ui_o (by first | decide | omega), ui_o (by first | decide | omega), ui_o (by first | decide | omega), ui_o (by first | decide | omega), ui_o (by first | decide | omega), (hO3 50 40 (by omega)).1, ui_o (by first | decide | omega), (hO2 50 40 (by omega)).1, ui_o (by first | decide | omega), (hO1 50 40 (by omega)).1, ui_o (by first | decide | omega), (hO0 50 40 (by omega)).1]; exact (z_zero_o (by decide)).trans hdl) hdl4 he) (by decide +kernel) (fun r9 μ9 hq => ?_)
            obtain ⟨hr9, hm9⟩ := hq
            rw [hr9, hm9]
            clear hr9 hm9
            show Z 1 114 [(3, .int 4), (1, .int 1), (2, .ref 79), (0, .ref 50)] [] (eMB (z_ui (z_ui (z_ui (z_ui (z_ui W3 79 3 0) 61 0 ((μ.1 61 0) + 3000)) 61 1 ((μ.1 61 1) + (-1000))) 61 2 ((μ.1 61 2) + (-1000))) 61 3 ((μ.1 61 3) + (-1000))) false true 1 e)
            exact hr 1 114 _ _ _ none (by decide +kernel) (by rfl) (by refine ⟨rfl, ?_⟩; unfold nM1000; exact SM_eMB (SM_ui (SM_ui (SM_ui (SM_ui (SM_ui (SM_tr (SM_ui (SM_tr (SM_ui (SM_tr (SM_ui (SM_tr (SM_rf _) hO0)) hO1)) hO2)) hO3)))))))
          · skip
            refine z_rcs hc hH 3 (pc' := 106) (lv' := [(3, .int 4), (1, .int 1), (2, .ref 79), (0, .ref 50)]) (st' := [.ref 50, .ref 79, .ref 50]) (μ' := z_ui (z_ui (z_ui (z_ui (z_ui W3 79 3 0) 61 0 ((μ.1 61 0) + 3000)) 61 1 ((μ.1 61 1) + (-1000))) 61 2 ((μ.1 61 2) + (-1000))) 61 3 ((μ.1 61 3) + (-1000))) (by rfl) ?_
            refine zq_gfi hc hH (by rfl) (ci := 6) (f := 40) (by rfl) (by decide +kernel) (by rfl) ?_
            refine zV1 (Z := Z) (Eq.trans (ui_o (by first | decide | omega)) (Eq.trans (ui_o (by first | decide | omega)) (Eq.trans (ui_o (by first | decide | omega)) (Eq.trans (ui_o (by first | decide | omega)) (Eq.trans (ui_o (by first | decide | omega)) (Eq.trans (hO3 50 40 (by omega)).1 (Eq.trans (ui_o (by first | decide | omega)) (Eq.trans (hO2 50 40 (by omega)).1 (Eq.trans (ui_o (by first | decide | omega)) (Eq.trans (hO1 50 40 (by omega)).1 (Eq.trans (ui_o (by first | decide | omega)) (hO0 50 40 (by omega)).1))))))))))) ?_
            rw [(z_zero_o (by decide)).trans hdl]
            refine zq_bald hc hH (by rfl) 4 (by decide +kernel) (vp_in_nI (by omega) (by decide)) ?_
            rw [nI_clamp (by omega)]
            refine zV1 (Z := Z) (Eq.trans (ui_o (by first | decide | omega)) (Eq.trans (ui_o (by first | decide | omega)) (Eq.trans (ui_o (by first | decide | omega)) (Eq.trans (ui_o (by first | decide | omega)) (Eq.trans (ui_k (by first | decide | omega)) (Eq.trans (hO3 79 2 (by omega)).1 (ui_s))))))) ?_
            refine z_rcs0 hc hH 1 (pc' := 111) (lv' := [(3, .int 4), (1, .int 1), (2, .ref 79), (0, .ref 50)]) (st' := [.int 1, .int 0, .ref 50]) (by rfl) ?_
            refine zq_call hc (z_cx_ok hH (by rfl)) (gm_endsB d' (by omega) (z_ui (z_ui (z_ui (z_ui (z_ui W3 79 3 0) 61 0 ((μ.1 61 0) + 3000)) 61 1 ((μ.1 61 1) + (-1000))) 61 2 ((μ.1 61 2) + (-1000))) 61 3 ((μ.1 61 3) + (-1000))) false true 2 e (by rw [ui_o (by first | decide | omega), ui_o (by first | decide | omega), ui_o (by first | decide | omega), ui_o (by first | decide | omega), ui_o (by first | decide | omega), (hO3 50 40 (by omega)).1, ui_o (by first | decide | omega), (hO2 50 40 (by omega)).1, ui_o (by first | decide | omega), (hO1 50 40 (by omega)).1, ui_o (by first | decide | omega), (hO0 50 40 (by omega)).1]; exact (z_zero_o (by decide)).trans hdl) hdl4 he) (by decide +kernel) (fun r9 μ9 hq => ?_)
            obtain ⟨hr9, hm9⟩ := hq
            rw [hr9, hm9]
            clear hr9 hm9
            show Z 1 114 [(3, .int 4), (1, .int 1), (2, .ref 79), (0, .ref 50)] [] (eMB (z_ui (z_ui (z_ui (z_ui (z_ui W3 79 3 0) 61 0 ((μ.1 61 0) + 3000)) 61 1 ((μ.1 61 1) + (-1000))) 61 2 ((μ.1 61 2) + (-1000))) 61 3 ((μ.1 61 3) + (-1000))) false true 2 e)
            exact hr 1 114 _ _ _ none (by decide +kernel) (by rfl) (by refine ⟨rfl, ?_⟩; unfold nM1000; exact SM_eMB (SM_ui (SM_ui (SM_ui (SM_ui (SM_ui (SM_tr (SM_ui (SM_tr (SM_ui (SM_tr (SM_ui (SM_tr (SM_rf _) hO0)) hO1)) hO2)) hO3)))))))
          · skip
            refine z_rcs hc hH 3 (pc' := 106) (lv' := [(3, .int 4), (1, .int 1), (2, .ref 79), (0, .ref 50)]) (st' := [.ref 50, .ref 79, .ref 50]) (μ' := z_ui (z_ui (z_ui (z_ui (z_ui W3 79 3 0) 61 0 ((μ.1 61 0) + 3000)) 61 1 ((μ.1 61 1) + (-1000))) 61 2 ((μ.1 61 2) + (-1000))) 61 3 ((μ.1 61 3) + (-1000))) (by rfl) ?_
            refine zq_gfi hc hH (by rfl) (ci := 6) (f := 40) (by rfl) (by decide +kernel) (by rfl) ?_
            refine zV1 (Z := Z) (Eq.trans (ui_o (by first | decide | omega)) (Eq.trans (ui_o (by first | decide | omega)) (Eq.trans (ui_o (by first | decide | omega)) (Eq.trans (ui_o (by first | decide | omega)) (Eq.trans (ui_o (by first | decide | omega)) (Eq.trans (hO3 50 40 (by omega)).1 (Eq.trans (ui_o (by first | decide | omega)) (Eq.trans (hO2 50 40 (by omega)).1 (Eq.trans (ui_o (by first | decide | omega)) (Eq.trans (hO1 50 40 (by omega)).1 (Eq.trans (ui_o (by first | decide | omega)) (hO0 50 40 (by omega)).1))))))))))) ?_
            rw [(z_zero_o (by decide)).trans hdl]
            refine zq_bald hc hH (by rfl) 4 (by decide +kernel) (vp_in_nI (by omega) (by decide)) ?_
            rw [nI_clamp (by omega)]
            refine zV1 (Z := Z) (Eq.trans (ui_o (by first | decide | omega)) (Eq.trans (ui_o (by first | decide | omega)) (Eq.trans (ui_o (by first | decide | omega)) (Eq.trans (ui_o (by first | decide | omega)) (ui_s))))) ?_
            refine z_rcs0 hc hH 1 (pc' := 111) (lv' := [(3, .int 4), (1, .int 1), (2, .ref 79), (0, .ref 50)]) (st' := [.int 1, .int 0, .ref 50]) (by rfl) ?_
            refine zq_call hc (z_cx_ok hH (by rfl)) (gm_endsB d' (by omega) (z_ui (z_ui (z_ui (z_ui (z_ui W3 79 3 0) 61 0 ((μ.1 61 0) + 3000)) 61 1 ((μ.1 61 1) + (-1000))) 61 2 ((μ.1 61 2) + (-1000))) 61 3 ((μ.1 61 3) + (-1000))) false true 3 e (by rw [ui_o (by first | decide | omega), ui_o (by first | decide | omega), ui_o (by first | decide | omega), ui_o (by first | decide | omega), ui_o (by first | decide | omega), (hO3 50 40 (by omega)).1, ui_o (by first | decide | omega), (hO2 50 40 (by omega)).1, ui_o (by first | decide | omega), (hO1 50 40 (by omega)).1, ui_o (by first | decide | omega), (hO0 50 40 (by omega)).1]; exact (z_zero_o (by decide)).trans hdl) hdl4 he) (by decide +kernel) (fun r9 μ9 hq => ?_)
            obtain ⟨hr9, hm9⟩ := hq
            rw [hr9, hm9]
            clear hr9 hm9
            show Z 1 114 [(3, .int 4), (1, .int 1), (2, .ref 79), (0, .ref 50)] [] (eMB (z_ui (z_ui (z_ui (z_ui (z_ui W3 79 3 0) 61 0 ((μ.1 61 0) + 3000)) 61 1 ((μ.1 61 1) + (-1000))) 61 2 ((μ.1 61 2) + (-1000))) 61 3 ((μ.1 61 3) + (-1000))) false true 3 e)
            exact hr 1 114 _ _ _ none (by decide +kernel) (by rfl) (by refine ⟨rfl, ?_⟩; unfold nM1000; exact SM_eMB (SM_ui (SM_ui (SM_ui (SM_ui (SM_ui (SM_tr (SM_ui (SM_tr (SM_ui (SM_tr (SM_ui (SM_tr (SM_rf _) hO0)) hO1)) hO2)) hO3)))))))
        · have h4 : (decide ((lg_cmp w3 0) = 0)) = false := decide_eq_false (cn_eq.mp h4)
          exact absurd (Eq.trans (Eq.symm (hb3)) h4) (by decide)
      · have h3 : (decide ((lg_cmp w2 0) = 0)) = false := decide_eq_false (cn_eq.mp h3)
        exact absurd (Eq.trans (Eq.symm (hb2)) h3) (by decide)
    · have h2 : (decide ((lg_cmp w1 0) = 0)) = false := decide_eq_false (cn_eq.mp h2)
      exact absurd (Eq.trans (Eq.symm (hb1)) h2) (by decide)
noncomputable def nM1001 (μ : zM) : zM := z_ui (z_ui (z_ui (z_ui (z_ui (z_ui (z_ui (z_ui (z_zero μ) 79 0 1) 79 1 0) 79 2 0) 79 3 1) 61 0 ((μ.1 61 0) + 1500)) 61 1 ((μ.1 61 1) + (-1500))) 61 2 ((μ.1 61 2) + (-1500))) 61 3 ((μ.1 61 3) + 1500)
theorem gm_nobody1001 (d : Nat) (hd : 700 ≤ d) (μ : zM) (hH0 : a_H μ) (dl e : Nat) (hdl : μ.1 50 40 = nI dl) (hdl4 : dl < 4) (he : (dl + 1) % 4 = e) (w0 : Int64) (hw0 : ∀ M, SE μ M → a_H M → ∀ d, 699 ≤ d → z_C d mi_X7_waitsAt [.ref 50, .int 0] M (fun r W => r = some (.long w0) ∧ SMj M W ∧ a_H W)) (hb0 : decide (lg_cmp w0 0 = 0) = false) (w1 : Int64) (hw1 : ∀ M, SE μ M → a_H M → ∀ d, 699 ≤ d → z_C d mi_X7_waitsAt [.ref 50, .int 1] M (fun r W => r = some (.long w1) ∧ SMj M W ∧ a_H W)) (hb1 : decide (lg_cmp w1 0 = 0) = true) (w2 : Int64) (hw2 : ∀ M, SE μ M → a_H M → ∀ d, 699 ≤ d → z_C d mi_X7_waitsAt [.ref 50, .int 2] M (fun r W => r = some (.long w2) ∧ SMj M W ∧ a_H W)) (hb2 : decide (lg_cmp w2 0 = 0) = true) (w3 : Int64) (hw3 : ∀ M, SE μ M → a_H M → ∀ d, 699 ≤ d → z_C d mi_X7_waitsAt [.ref 50, .int 3] M (fun r W => r = some (.long w3) ∧ SMj M W ∧ a_H W)) (hb3 : decide (lg_cmp w3 0 = 0) = false) : z_C d mi_X7_nobodyWins [.ref 50] μ (fun r μ' => r = none ∧ SMj (eMB (nM1001 μ) (nbS true false false true dl) true dl e) μ') := by
  obtain ⟨d', rfl⟩ : ∃ d', d = d' + 1 := ⟨d - 1, by omega⟩
  intro Z hc hr
  refine ⟨rfl, ?_⟩
  have hH := zh_X7_nobodyWins
  refine z_rcs hc hH 9 (pc' := 17) (lv' := [(3, .int 0), (2, .ref 79), (1, .int 0), (0, .ref 50)]) (st' := [.int 0, .ref 50, .int 0, .ref 79]) (μ' := z_zero μ) (by rfl) ?_
  refine zq_call hc (z_cx_ok hH (by rfl)) (hw0 _ (SE_zr _) (a_H_zero hH0) d' (by omega)) (by decide +kernel) (fun r9 W0 hq => ?_)
  obtain ⟨rfl, hO0, hA0⟩ := hq
  show Z 1 20 [(3, .int 0), (2, .ref 79), (1, .int 0), (0, .ref 50)] [.long w0, .int 0, .ref 79] W0
  refine z_rcs hc hH 2 (pc' := 22) (lv' := [(3, .int 0), (2, .ref 79), (1, .int 0), (0, .ref 50)]) (st' := [.int (lg_cmp w0 0), .int 0, .ref 79]) (μ' := W0) (by rfl) ?_
  refine zq_if hc hH (by rfl) (tg := 29) (by rfl) (fun h1 => ?_) (fun h1 => ?_)
  · have h1 : (decide ((lg_cmp w0 0) = 0)) = true := decide_eq_true (cm_eq9.mp h1)
    exact absurd (Eq.trans (Eq.symm (hb0)) h1) (by decide)
  · have h1 : (decide ((lg_cmp w0 0) = 0)) = false := decide_eq_false (cn_eq.mp h1)
    refine z_rcs hc hH 2 (pc' := 30) (lv' := [(3, .int 0), (2, .ref 79), (1, .int 0), (0, .ref 50)]) (st' := [.int 1, .int 0, .ref 79]) (μ' := W0) (by rfl) ?_
    refine zq_bast hc hH (by rfl) 4 (by decide +kernel) (show vp_in (nI 0) 4 from vp_in_nI (by decide) (by decide)) (by decide) ?_
    rw [show (0 : Int32).toNatClampNeg = 0 from rfl]
    show Z 1 31 [(3, .int 0), (2, .ref 79), (1, .int 0), (0, .ref 50)] [] (z_ui W0 79 0 1)
    refine z_rcs hc hH 3 (pc' := 34) (lv' := [(3, .int 0), (2, .ref 79), (1, .int 0), (0, .ref 50)]) (st' := [.int 0, .ref 79, .int 0]) (μ' := z_ui W0 79 0 1) (by rfl) ?_
    refine zq_bald hc hH (by rfl) 4 (by decide +kernel) (show vp_in (nI 0) 4 from vp_in_nI (by decide) (by decide)) ?_
    rw [show (0 : Int32).toNatClampNeg = 0 from rfl]
    rw [ui_s]
    refine z_rcs hc hH 14 (pc' := 17) (lv' := [(3, .int 1), (1, .int 1), (2, .ref 79), (0, .ref 50)]) (st' := [.int 1, .ref 50, .int 1, .ref 79]) (μ' := z_ui W0 79 0 1) (by rfl) ?_
    refine zq_call hc (z_cx_ok hH (by rfl)) (hw1 _ (SE_ui (SE_sm (SE_zr _) hO0) (by omega)) (a_H_ui (r := 79) (k := 0) (hA0) ⟨by decide, by decide⟩) d' (by omega)) (by decide +kernel) (fun r9 W1 hq => ?_)
    obtain ⟨rfl, hO1, hA1⟩ := hq
    show Z 1 20 [(3, .int 1), (1, .int 1), (2, .ref 79), (0, .ref 50)] [.long w1, .int 1, .ref 79] W1
    refine z_rcs hc hH 2 (pc' := 22) (lv' := [(3, .int 1), (1, .int 1), (2, .ref 79), (0, .ref 50)]) (st' := [.int (lg_cmp w1 0), .int 1, .ref 79]) (μ' := W1) (by rfl) ?_
    refine zq_if hc hH (by rfl) (tg := 29) (by rfl) (fun h2 => ?_) (fun h2 => ?_)
    · have h2 : (decide ((lg_cmp w1 0) = 0)) = true := decide_eq_true (cm_eq9.mp h2)
      refine z_rcs hc hH 1 (pc' := 30) (lv' := [(3, .int 1), (1, .int 1), (2, .ref 79), (0, .ref 50)]) (st' := [.int 0, .int 1, .ref 79]) (μ' := W1) (by rfl) ?_
      refine zq_bast hc hH (by rfl) 4 (by decide +kernel) (show vp_in (nI 1) 4 from vp_in_nI (by decide) (by decide)) (by decide) ?_
      rw [show (1 : Int32).toNatClampNeg = 1 from rfl]
      show Z 1 31 [(3, .int 1), (1, .int 1), (2, .ref 79), (0, .ref 50)] [] (z_ui W1 79 1 0)
      refine z_rcs hc hH 3 (pc' := 34) (lv' := [(3, .int 1), (1, .int 1), (2, .ref 79), (0, .ref 50)]) (st' := [.int 1, .ref 79, .int 1]) (μ' := z_ui W1 79 1 0) (by rfl) ?_
      refine zq_bald hc hH (by rfl) 4 (by decide +kernel) (show vp_in (nI 1) 4 from vp_in_nI (by decide) (by decide)) ?_
      rw [show (1 : Int32).toNatClampNeg = 1 from rfl]
      rw [ui_s]
      refine z_rcs hc hH 13 (pc' := 17) (lv' := [(3, .int 2), (1, .int 1), (2, .ref 79), (0, .ref 50)]) (st' := [.int 2, .ref 50, .int 2, .ref 79]) (μ' := z_ui W1 79 1 0) (by rfl) ?_
      refine zq_call hc (z_cx_ok hH (by rfl)) (hw2 _ (SE_ui (SE_sm (SE_ui (SE_sm (SE_zr _) hO0) (by omega)) hO1) (by omega)) (a_H_ui (r := 79) (k := 1) (hA1) ⟨by decide, by decide⟩) d' (by omega)) (by decide +kernel) (fun r9 W2 hq => ?_)
      obtain ⟨rfl, hO2, hA2⟩ := hq
      show Z 1 20 [(3, .int 2), (1, .int 1), (2, .ref 79), (0, .ref 50)] [.long w2, .int 2, .ref 79] W2
      refine z_rcs hc hH 2 (pc' := 22) (lv' := [(3, .int 2), (1, .int 1), (2, .ref 79), (0, .ref 50)]) (st' := [.int (lg_cmp w2 0), .int 2, .ref 79]) (μ' := W2) (by rfl) ?_
      refine zq_if hc hH (by rfl) (tg := 29) (by rfl) (fun h3 => ?_) (fun h3 => ?_)
      · have h3 : (decide ((lg_cmp w2 0) = 0)) = true := decide_eq_true (cm_eq9.mp h3)
        refine z_rcs hc hH 1 (pc' := 30) (lv' := [(3, .int 2), (1, .int 1), (2, .ref 79), (0, .ref 50)]) (st' := [.int 0, .int 2, .ref 79]) (μ' := W2) (by rfl) ?_
        refine zq_bast hc hH (by rfl) 4 (by decide +kernel) (show vp_in (nI 2) 4 from vp_in_nI (by decide) (by decide)) (by decide) ?_
        rw [show (2 : Int32).toNatClampNeg = 2 from rfl]
        show Z 1 31 [(3, .int 2), (1, .int 1), (2, .ref 79), (0, .ref 50)] [] (z_ui W2 79 2 0)
        refine z_rcs hc hH 3 (pc' := 34) (lv' := [(3, .int 2), (1, .int 1), (2, .ref 79), (0, .ref 50)]) (st' := [.int 2, .ref 79, .int 1]) (μ' := z_ui W2 79 2 0) (by rfl) ?_
        refine zq_bald hc hH (by rfl) 4 (by decide +kernel) (show vp_in (nI 2) 4 from vp_in_nI (by decide) (by decide)) ?_
        rw [show (2 : Int32).toNatClampNeg = 2 from rfl]
        rw [ui_s]
        refine z_rcs hc hH 13 (pc' := 17) (lv' := [(3, .int 3), (1, .int 1), (2, .ref 79), (0, .ref 50)]) (st' := [.int 3, .ref 50, .int 3, .ref 79]) (μ' := z_ui W2 79 2 0) (by rfl) ?_
        refine zq_call hc (z_cx_ok hH (by rfl)) (hw3 _ (SE_ui (SE_sm (SE_ui (SE_sm (SE_ui (SE_sm (SE_zr _) hO0) (by omega)) hO1) (by omega)) hO2) (by omega)) (a_H_ui (r := 79) (k := 2) (hA2) ⟨by decide, by decide⟩) d' (by omega)) (by decide +kernel) (fun r9 W3 hq => ?_)
        obtain ⟨rfl, hO3, hA3⟩ := hq
        show Z 1 20 [(3, .int 3), (1, .int 1), (2, .ref 79), (0, .ref 50)] [.long w3, .int 3, .ref 79] W3
        refine z_rcs hc hH 2 (pc' := 22) (lv' := [(3, .int 3), (1, .int 1), (2, .ref 79), (0, .ref 50)]) (st' := [.int (lg_cmp w3 0), .int 3, .ref 79]) (μ' := W3) (by rfl) ?_
        refine zq_if hc hH (by rfl) (tg := 29) (by rfl) (fun h4 => ?_) (fun h4 => ?_)
        · have h4 : (decide ((lg_cmp w3 0) = 0)) = true := decide_eq_true (cm_eq9.mp h4)
          exact absurd (Eq.trans (Eq.symm (hb3)) h4) (by decide)
        · have h4 : (decide ((lg_cmp w3 0) = 0)) = false := decide_eq_false (cn_eq.mp h4)
          refine z_rcs hc hH 2 (pc' := 30) (lv' := [(3, .int 3), (1, .int 1), (2, .ref 79), (0, .ref 50)]) (st' := [.int 1, .int 3, .ref 79]) (μ' := W3) (by rfl) ?_
          refine zq_bast hc hH (by rfl) 4 (by decide +kernel) (show vp_in (nI 3) 4 from vp_in_nI (by decide) (by decide)) (by decide) ?_
          rw [show (3 : Int32).toNatClampNeg = 3 from rfl]
          show Z 1 31 [(3, .int 3), (1, .int 1), (2, .ref 79), (0, .ref 50)] [] (z_ui W3 79 3 1)
          refine z_rcs hc hH 3 (pc' := 34) (lv' := [(3, .int 3), (1, .int 1), (2, .ref 79), (0, .ref 50)]) (st' := [.int 3, .ref 79, .int 1]) (μ' := z_ui W3 79 3 1) (by rfl) ?_
          refine zq_bald hc hH (by rfl) 4 (by decide +kernel) (show vp_in (nI 3) 4 from vp_in_nI (by decide) (by decide)) ?_
          rw [show (3 : Int32).toNatClampNeg = 3 from rfl]
          rw [ui_s]
          refine z_rcs hc hH 21 (pc' := 68) (lv' := [(3, .int 0), (1, .int 2), (2, .ref 79), (0, .ref 50)]) (st' := [.ref 50]) (μ' := z_ui W3 79 3 1) (by rfl) ?_
          refine zq_gfr hc hH (by rfl) (ci := 6) (f := 29) (q := 61) (by rfl) (by decide +kernel) (by rfl) (by decide +kernel) ?_
          refine z_rcs hc hH 2 (pc' := 73) (lv' := [(3, .int 0), (1, .int 2), (2, .ref 79), (0, .ref 50)]) (st' := [.int 0, .ref 61, .int 0, .ref 61]) (μ' := z_ui W3 79 3 1) (by rfl) ?_
          refine zq_iald hc hH (by rfl) 4 (oka_i (by decide +kernel)) (show vp_in (nI 0) 4 from vp_in_nI (by decide) (by decide)) ?_
          rw [show (0 : Int32).toNatClampNeg = 0 from rfl]
          refine zV1 (Z := Z) (Eq.trans (ui_o (by first | decide | omega)) (Eq.trans (hO3 61 0 (by omega)).1 (Eq.trans (ui_o (by first | decide | omega)) (Eq.trans (hO2 61 0 (by omega)).1 (Eq.trans (ui_o (by first | decide | omega)) (Eq.trans (hO1 61 0 (by omega)).1 (Eq.trans (ui_o (by first | decide | omega)) (hO0 61 0 (by omega)).1))))))) ?_
          rw [z_zero_o (by decide)]
          refine z_rcs hc hH 2 (pc' := 76) (lv' := [(3, .int 0), (1, .int 2), (2, .ref 79), (0, .ref 50)]) (st' := [.int 0, .ref 79, .int (μ.1 61 0), .int 0, .ref 61]) (μ' := z_ui W3 79 3 1) (by rfl) ?_
          refine zq_bald hc hH (by rfl) 4 (by decide +kernel) (show vp_in (nI 0) 4 from vp_in_nI (by decide) (by decide)) ?_
          rw [show (0 : Int32).toNatClampNeg = 0 from rfl]
          refine zV1 (Z := Z) (Eq.trans (ui_k (by first | decide | omega)) (Eq.trans (hO3 79 0 (by omega)).1 (Eq.trans (ui_k (by first | decide | omega)) (Eq.trans (hO2 79 0 (by omega)).1 (Eq.trans (ui_k (by first | decide | omega)) (Eq.trans (hO1 79 0 (by omega)).1 (ui_s))))))) ?_
          refine z_rcs hc hH 6 (pc' := 96) (lv' := [(3, .int 0), (1, .int 2), (2, .ref 79), (0, .ref 50)]) (st' := [.int ((μ.1 61 0) + 1500), .int 0, .ref 61]) (μ' := z_ui W3 79 3 1) (by rfl) ?_
          refine zq_iast hc hH (by rfl) 4 (oka_i (by decide +kernel)).2 (show vp_in (nI 0) 4 from vp_in_nI (by decide) (by decide)) ?_
          rw [show (0 : Int32).toNatClampNeg = 0 from rfl]
          show Z 1 97 [(3, .int 0), (1, .int 2), (2, .ref 79), (0, .ref 50)] [] (z_ui (z_ui W3 79 3 1) 61 0 ((μ.1 61 0) + 1500))
          refine z_rcs0 hc hH 6 (pc' := 68) (lv' := [(3, .int 1), (1, .int 2), (2, .ref 79), (0, .ref 50)]) (st' := [.ref 50]) (by rfl) ?_
          refine zq_gfr hc hH (by rfl) (ci := 6) (f := 29) (q := 61) (by rfl) (by decide +kernel) (by rfl) (by decide +kernel) ?_
          refine z_rcs0 hc hH 2 (pc' := 73) (lv' := [(3, .int 1), (1, .int 2), (2, .ref 79), (0, .ref 50)]) (st' := [.int 1, .ref 61, .int 1, .ref 61]) (by rfl) ?_
          refine zq_iald hc hH (by rfl) 4 (oka_i (by decide +kernel)) (show vp_in (nI 1) 4 from vp_in_nI (by decide) (by decide)) ?_
          rw [show (1 : Int32).toNatClampNeg = 1 from rfl]
          refine zV1 (Z := Z) (Eq.trans (ui_k (by first | decide | omega)) (Eq.trans (ui_o (by first | decide | omega)) (Eq.trans (hO3 61 1 (by omega)).1 (Eq.trans (ui_o (by first | decide | omega)) (Eq.trans (hO2 61 1 (by omega)).1 (Eq.trans (ui_o (by first | decide | omega)) (Eq.trans (hO1 61 1 (by omega)).1 (Eq.trans (ui_o (by first | decide | omega)) (hO0 61 1 (by omega)).1)))))))) ?_
          rw [z_zero_o (by decide)]
          refine z_rcs0 hc hH 2 (pc' := 76) (lv' := [(3, .int 1), (1, .int 2), (2, .ref 79), (0, .ref 50)]) (st' := [.int 1, .ref 79, .int (μ.1 61 1), .int 1, .ref 61]) (by rfl) ?_
          refine zq_bald hc hH (by rfl) 4 (by decide +kernel) (show vp_in (nI 1) 4 from vp_in_nI (by decide) (by decide)) ?_
          rw [show (1 : Int32).toNatClampNeg = 1 from rfl]
          refine zV1 (Z := Z) (Eq.trans (ui_o (by first | decide | omega)) (Eq.trans (ui_k (by first | decide | omega)) (Eq.trans (hO3 79 1 (by omega)).1 (Eq.trans (ui_k (by first | decide | omega)) (Eq.trans (hO2 79 1 (by omega)).1 (ui_s)))))) ?_
          refine z_rcs0 hc hH 7 (pc' := 96) (lv' := [(3, .int 1), (1, .int 2), (2, .ref 79), (0, .ref 50)]) (st' := [.int ((μ.1 61 1) + (-1500)), .int 1, .ref 61]) (by rfl) ?_
          refine zq_iast hc hH (by rfl) 4 (oka_i (by decide +kernel)).2 (show vp_in (nI 1) 4 from vp_in_nI (by decide) (by decide)) ?_
          rw [show (1 : Int32).toNatClampNeg = 1 from rfl]
          show Z 1 97 [(3, .int 1), (1, .int 2), (2, .ref 79), (0, .ref 50)] [] (z_ui (z_ui (z_ui W3 79 3 1) 61 0 ((μ.1 61 0) + 1500)) 61 1 ((μ.1 61 1) + (-1500)))
          refine z_rcs0 hc hH 6 (pc' := 68) (lv' := [(3, .int 2), (1, .int 2), (2, .ref 79), (0, .ref 50)]) (st' := [.ref 50]) (by rfl) ?_
          refine zq_gfr hc hH (by rfl) (ci := 6) (f := 29) (q := 61) (by rfl) (by decide +kernel) (by rfl) (by decide +kernel) ?_
          refine z_rcs0 hc hH 2 (pc' := 73) (lv' := [(3, .int 2), (1, .int 2), (2, .ref 79), (0, .ref 50)]) (st' := [.int 2, .ref 61, .int 2, .ref 61]) (by rfl) ?_
          refine zq_iald hc hH (by rfl) 4 (oka_i (by decide +kernel)) (show vp_in (nI 2) 4 from vp_in_nI (by decide) (by decide)) ?_
          rw [show (2 : Int32).toNatClampNeg = 2 from rfl]
          refine zV1 (Z := Z) (Eq.trans (ui_k (by first | decide | omega)) (Eq.trans (ui_k (by first | decide | omega)) (Eq.trans (ui_o (by first | decide | omega)) (Eq.trans (hO3 61 2 (by omega)).1 (Eq.trans (ui_o (by first | decide | omega)) (Eq.trans (hO2 61 2 (by omega)).1 (Eq.trans (ui_o (by first | decide | omega)) (Eq.trans (hO1 61 2 (by omega)).1 (Eq.trans (ui_o (by first | decide | omega)) (hO0 61 2 (by omega)).1))))))))) ?_
          rw [z_zero_o (by decide)]
          refine z_rcs0 hc hH 2 (pc' := 76) (lv' := [(3, .int 2), (1, .int 2), (2, .ref 79), (0, .ref 50)]) (st' := [.int 2, .ref 79, .int (μ.1 61 2), .int 2, .ref 61]) (by rfl) ?_
          refine zq_bald hc hH (by rfl) 4 (by decide +kernel) (show vp_in (nI 2) 4 from vp_in_nI (by decide) (by decide)) ?_
          rw [show (2 : Int32).toNatClampNeg = 2 from rfl]
          refine zV1 (Z := Z) (Eq.trans (ui_o (by first | decide | omega)) (Eq.trans (ui_o (by first | decide | omega)) (Eq.trans (ui_k (by first | decide | omega)) (Eq.trans (hO3 79 2 (by omega)).1 (ui_s))))) ?_
          refine z_rcs0 hc hH 7 (pc' := 96) (lv' := [(3, .int 2), (1, .int 2), (2, .ref 79), (0, .ref 50)]) (st' := [.int ((μ.1 61 2) + (-1500)), .int 2, .ref 61]) (by rfl) ?_
          refine zq_iast hc hH (by rfl) 4 (oka_i (by decide +kernel)).2 (show vp_in (nI 2) 4 from vp_in_nI (by decide) (by decide)) ?_
          rw [show (2 : Int32).toNatClampNeg = 2 from rfl]
          show Z 1 97 [(3, .int 2), (1, .int 2), (2, .ref 79), (0, .ref 50)] [] (z_ui (z_ui (z_ui (z_ui W3 79 3 1) 61 0 ((μ.1 61 0) + 1500)) 61 1 ((μ.1 61 1) + (-1500))) 61 2 ((μ.1 61 2) + (-1500)))
          refine z_rcs0 hc hH 6 (pc' := 68) (lv' := [(3, .int 3), (1, .int 2), (2, .ref 79), (0, .ref 50)]) (st' := [.ref 50]) (by rfl) ?_
          refine zq_gfr hc hH (by rfl) (ci := 6) (f := 29) (q := 61) (by rfl) (by decide +kernel) (by rfl) (by decide +kernel) ?_
          refine z_rcs0 hc hH 2 (pc' := 73) (lv' := [(3, .int 3), (1, .int 2), (2, .ref 79), (0, .ref 50)]) (st' := [.int 3, .ref 61, .int 3, .ref 61]) (by rfl) ?_
          refine zq_iald hc hH (by rfl) 4 (oka_i (by decide +kernel)) (show vp_in (nI 3) 4 from vp_in_nI (by decide) (by decide)) ?_
          rw [show (3 : Int32).toNatClampNeg = 3 from rfl]
          refine zV1 (Z := Z) (Eq.trans (ui_k (by first | decide | omega)) (Eq.trans (ui_k (by first | decide | omega)) (Eq.trans (ui_k (by first | decide | omega)) (Eq.trans (ui_o (by first | decide | omega)) (Eq.trans (hO3 61 3 (by omega)).1 (Eq.trans (ui_o (by first | decide | omega)) (Eq.trans (hO2 61 3 (by omega)).1 (Eq.trans (ui_o (by first | decide | omega)) (Eq.trans (hO1 61 3 (by omega)).1 (Eq.trans (ui_o (by first | decide | omega)) (hO0 61 3 (by omega)).1)))))))))) ?_
          rw [z_zero_o (by decide)]
          refine z_rcs0 hc hH 2 (pc' := 76) (lv' := [(3, .int 3), (1, .int 2), (2, .ref 79), (0, .ref 50)]) (st' := [.int 3, .ref 79, .int (μ.1 61 3), .int 3, .ref 61]) (by rfl) ?_
          refine zq_bald hc hH (by rfl) 4 (by decide +kernel) (show vp_in (nI 3) 4 from vp_in_nI (by decide) (by decide)) ?_
          rw [show (3 : Int32).toNatClampNeg = 3 from rfl]
          refine zV1 (Z := Z) (Eq.trans (ui_o (by first | decide | omega)) (Eq.trans (ui_o (by first | decide | omega)) (Eq.trans (ui_o (by first | decide | omega)) (ui_s)))) ?_
          refine z_rcs0 hc hH 6 (pc' := 96) (lv' := [(3, .int 3), (1, .int 2), (2, .ref 79), (0, .ref 50)]) (st' := [.int ((μ.1 61 3) + 1500), .int 3, .ref 61]) (by rfl) ?_
          refine zq_iast hc hH (by rfl) 4 (oka_i (by decide +kernel)).2 (show vp_in (nI 3) 4 from vp_in_nI (by decide) (by decide)) ?_
          rw [show (3 : Int32).toNatClampNeg = 3 from rfl]
          show Z 1 97 [(3, .int 3), (1, .int 2), (2, .ref 79), (0, .ref 50)] [] (z_ui (z_ui (z_ui (z_ui (z_ui W3 79 3 1) 61 0 ((μ.1 61 0) + 1500)) 61 1 ((μ.1 61 1) + (-1500))) 61 2 ((μ.1 61 2) + (-1500))) 61 3 ((μ.1 61 3) + 1500))
          refine z_rcs0 hc hH 5 (pc' := 103) (lv' := [(3, .int 4), (1, .int 2), (2, .ref 79), (0, .ref 50)]) (st' := []) (by rfl) ?_
          obtain rfl | rfl | rfl | rfl : dl = 0 ∨ dl = 1 ∨ dl = 2 ∨ dl = 3 := by omega
          · skip
            refine z_rcs0 hc hH 3 (pc' := 106) (lv' := [(3, .int 4), (1, .int 2), (2, .ref 79), (0, .ref 50)]) (st' := [.ref 50, .ref 79, .ref 50]) (by rfl) ?_
            refine zq_gfi hc hH (by rfl) (ci := 6) (f := 40) (by rfl) (by decide +kernel) (by rfl) ?_
            refine zV1 (Z := Z) (Eq.trans (ui_o (by first | decide | omega)) (Eq.trans (ui_o (by first | decide | omega)) (Eq.trans (ui_o (by first | decide | omega)) (Eq.trans (ui_o (by first | decide | omega)) (Eq.trans (ui_o (by first | decide | omega)) (Eq.trans (hO3 50 40 (by omega)).1 (Eq.trans (ui_o (by first | decide | omega)) (Eq.trans (hO2 50 40 (by omega)).1 (Eq.trans (ui_o (by first | decide | omega)) (Eq.trans (hO1 50 40 (by omega)).1 (Eq.trans (ui_o (by first | decide | omega)) (hO0 50 40 (by omega)).1))))))))))) ?_
            rw [(z_zero_o (by decide)).trans hdl]
            refine zq_bald hc hH (by rfl) 4 (by decide +kernel) (vp_in_nI (by omega) (by decide)) ?_
            rw [nI_clamp (by omega)]
            refine zV1 (Z := Z) (Eq.trans (ui_o (by first | decide | omega)) (Eq.trans (ui_o (by first | decide | omega)) (Eq.trans (ui_o (by first | decide | omega)) (Eq.trans (ui_o (by first | decide | omega)) (Eq.trans (ui_k (by first | decide | omega)) (Eq.trans (hO3 79 0 (by omega)).1 (Eq.trans (ui_k (by first | decide | omega)) (Eq.trans (hO2 79 0 (by omega)).1 (Eq.trans (ui_k (by first | decide | omega)) (Eq.trans (hO1 79 0 (by omega)).1 (ui_s))))))))))) ?_
            refine z_rcs0 hc hH 1 (pc' := 111) (lv' := [(3, .int 4), (1, .int 2), (2, .ref 79), (0, .ref 50)]) (st' := [.int 1, .int 1, .ref 50]) (by rfl) ?_
            refine zq_call hc (z_cx_ok hH (by rfl)) (gm_endsB d' (by omega) (z_ui (z_ui (z_ui (z_ui (z_ui W3 79 3 1) 61 0 ((μ.1 61 0) + 1500)) 61 1 ((μ.1 61 1) + (-1500))) 61 2 ((μ.1 61 2) + (-1500))) 61 3 ((μ.1 61 3) + 1500)) true true 0 e (by rw [ui_o (by first | decide | omega), ui_o (by first | decide | omega), ui_o (by first | decide | omega), ui_o (by first | decide | omega), ui_o (by first | decide | omega), (hO3 50 40 (by omega)).1, ui_o (by first | decide | omega), (hO2 50 40 (by omega)).1, ui_o (by first | decide | omega), (hO1 50 40 (by omega)).1, ui_o (by first | decide | omega), (hO0 50 40 (by omega)).1]; exact (z_zero_o (by decide)).trans hdl) hdl4 he) (by decide +kernel) (fun r9 μ9 hq => ?_)
            obtain ⟨hr9, hm9⟩ := hq
            rw [hr9, hm9]
            clear hr9 hm9
            show Z 1 114 [(3, .int 4), (1, .int 2), (2, .ref 79), (0, .ref 50)] [] (eMB (z_ui (z_ui (z_ui (z_ui (z_ui W3 79 3 1) 61 0 ((μ.1 61 0) + 1500)) 61 1 ((μ.1 61 1) + (-1500))) 61 2 ((μ.1 61 2) + (-1500))) 61 3 ((μ.1 61 3) + 1500)) true true 0 e)
            exact hr 1 114 _ _ _ none (by decide +kernel) (by rfl) (by refine ⟨rfl, ?_⟩; unfold nM1001; exact SM_eMB (SM_ui (SM_ui (SM_ui (SM_ui (SM_ui (SM_tr (SM_ui (SM_tr (SM_ui (SM_tr (SM_ui (SM_tr (SM_rf _) hO0)) hO1)) hO2)) hO3)))))))
          · skip
            refine z_rcs hc hH 3 (pc' := 106) (lv' := [(3, .int 4), (1, .int 2), (2, .ref 79), (0, .ref 50)]) (st' := [.ref 50, .ref 79, .ref 50]) (μ' := z_ui (z_ui (z_ui (z_ui (z_ui W3 79 3 1) 61 0 ((μ.1 61 0) + 1500)) 61 1 ((μ.1 61 1) + (-1500))) 61 2 ((μ.1 61 2) + (-1500))) 61 3 ((μ.1 61 3) + 1500)) (by rfl) ?_
            refine zq_gfi hc hH (by rfl) (ci := 6) (f := 40) (by rfl) (by decide +kernel) (by rfl) ?_
            refine zV1 (Z := Z) (Eq.trans (ui_o (by first | decide | omega)) (Eq.trans (ui_o (by first | decide | omega)) (Eq.trans (ui_o (by first | decide | omega)) (Eq.trans (ui_o (by first | decide | omega)) (Eq.trans (ui_o (by first | decide | omega)) (Eq.trans (hO3 50 40 (by omega)).1 (Eq.trans (ui_o (by first | decide | omega)) (Eq.trans (hO2 50 40 (by omega)).1 (Eq.trans (ui_o (by first | decide | omega)) (Eq.trans (hO1 50 40 (by omega)).1 (Eq.trans (ui_o (by first | decide | omega)) (hO0 50 40 (by omega)).1))))))))))) ?_
            rw [(z_zero_o (by decide)).trans hdl]
            refine zq_bald hc hH (by rfl) 4 (by decide +kernel) (vp_in_nI (by omega) (by decide)) ?_
            rw [nI_clamp (by omega)]
            refine zV1 (Z := Z) (Eq.trans (ui_o (by first | decide | omega)) (Eq.trans (ui_o (by first | decide | omega)) (Eq.trans (ui_o (by first | decide | omega)) (Eq.trans (ui_o (by first | decide | omega)) (Eq.trans (ui_k (by first | decide | omega)) (Eq.trans (hO3 79 1 (by omega)).1 (Eq.trans (ui_k (by first | decide | omega)) (Eq.trans (hO2 79 1 (by omega)).1 (ui_s))))))))) ?_
            refine z_rcs0 hc hH 1 (pc' := 111) (lv' := [(3, .int 4), (1, .int 2), (2, .ref 79), (0, .ref 50)]) (st' := [.int 1, .int 0, .ref 50]) (by rfl) ?_
            refine zq_call hc (z_cx_ok hH (by rfl)) (gm_endsB d' (by omega) (z_ui (z_ui (z_ui (z_ui (z_ui W3 79 3 1) 61 0 ((μ.1 61 0) + 1500)) 61 1 ((μ.1 61 1) + (-1500))) 61 2 ((μ.1 61 2) + (-1500))) 61 3 ((μ.1 61 3) + 1500)) false true 1 e (by rw [ui_o (by first | decide | omega), ui_o (by first | decide | omega), ui_o (by first | decide | omega), ui_o (by first | decide | omega), ui_o (by first | decide | omega), (hO3 50 40 (by omega)).1, ui_o (by first | decide | omega), (hO2 50 40 (by omega)).1, ui_o (by first | decide | omega), (hO1 50 40 (by omega)).1, ui_o (by first | decide | omega), (hO0 50 40 (by omega)).1]; exact (z_zero_o (by decide)).trans hdl) hdl4 he) (by decide +kernel) (fun r9 μ9 hq => ?_)
            obtain ⟨hr9, hm9⟩ := hq
            rw [hr9, hm9]
            clear hr9 hm9
            show Z 1 114 [(3, .int 4), (1, .int 2), (2, .ref 79), (0, .ref 50)] [] (eMB (z_ui (z_ui (z_ui (z_ui (z_ui W3 79 3 1) 61 0 ((μ.1 61 0) + 1500)) 61 1 ((μ.1 61 1) + (-1500))) 61 2 ((μ.1 61 2) + (-1500))) 61 3 ((μ.1 61 3) + 1500)) false true 1 e)
            exact hr 1 114 _ _ _ none (by decide +kernel) (by rfl) (by refine ⟨rfl, ?_⟩; unfold nM1001; exact SM_eMB (SM_ui (SM_ui (SM_ui (SM_ui (SM_ui (SM_tr (SM_ui (SM_tr (SM_ui (SM_tr (SM_ui (SM_tr (SM_rf _) hO0)) hO1)) hO2)) hO3)))))))
          · skip
            refine z_rcs hc hH 3 (pc' := 106) (lv' := [(3, .int 4), (1, .int 2), (2, .ref 79), (0, .ref 50)]) (st' := [.ref 50, .ref 79, .ref 50]) (μ' := z_ui (z_ui (z_ui (z_ui (z_ui W3 79 3 1) 61 0 ((μ.1 61 0) + 1500)) 61 1 ((μ.1 61 1) + (-1500))) 61 2 ((μ.1 61 2) + (-1500))) 61 3 ((μ.1 61 3) + 1500)) (by rfl) ?_
            refine zq_gfi hc hH (by rfl) (ci := 6) (f := 40) (by rfl) (by decide +kernel) (by rfl) ?_
            refine zV1 (Z := Z) (Eq.trans (ui_o (by first | decide | omega)) (Eq.trans (ui_o (by first | decide | omega)) (Eq.trans (ui_o (by first | decide | omega)) (Eq.trans (ui_o (by first | decide | omega)) (Eq.trans (ui_o (by first | decide | omega)) (Eq.trans (hO3 50 40 (by omega)).1 (Eq.trans (ui_o (by first | decide | omega)) (Eq.trans (hO2 50 40 (by omega)).1 (Eq.trans (ui_o (by first | decide | omega)) (Eq.trans (hO1 50 40 (by omega)).1 (Eq.trans (ui_o (by first | decide | omega)) (hO0 50 40 (by omega)).1))))))))))) ?_
            rw [(z_zero_o (by decide)).trans hdl]
            refine zq_bald hc hH (by rfl) 4 (by decide +kernel) (vp_in_nI (by omega) (by decide)) ?_
            rw [nI_clamp (by omega)]
            refine zV1 (Z := Z) (Eq.trans (ui_o (by first | decide | omega)) (Eq.trans (ui_o (by first | decide | omega)) (Eq.trans (ui_o (by first | decide | omega)) (Eq.trans (ui_o (by first | decide | omega)) (Eq.trans (ui_k (by first | decide | omega)) (Eq.trans (hO3 79 2 (by omega)).1 (ui_s))))))) ?_
            refine z_rcs0 hc hH 1 (pc' := 111) (lv' := [(3, .int 4), (1, .int 2), (2, .ref 79), (0, .ref 50)]) (st' := [.int 1, .int 0, .ref 50]) (by rfl) ?_
            refine zq_call hc (z_cx_ok hH (by rfl)) (gm_endsB d' (by omega) (z_ui (z_ui (z_ui (z_ui (z_ui W3 79 3 1) 61 0 ((μ.1 61 0) + 1500)) 61 1 ((μ.1 61 1) + (-1500))) 61 2 ((μ.1 61 2) + (-1500))) 61 3 ((μ.1 61 3) + 1500)) false true 2 e (by rw [ui_o (by first | decide | omega), ui_o (by first | decide | omega), ui_o (by first | decide | omega), ui_o (by first | decide | omega), ui_o (by first | decide | omega), (hO3 50 40 (by omega)).1, ui_o (by first | decide | omega), (hO2 50 40 (by omega)).1, ui_o (by first | decide | omega), (hO1 50 40 (by omega)).1, ui_o (by first | decide | omega), (hO0 50 40 (by omega)).1]; exact (z_zero_o (by decide)).trans hdl) hdl4 he) (by decide +kernel) (fun r9 μ9 hq => ?_)
            obtain ⟨hr9, hm9⟩ := hq
            rw [hr9, hm9]
            clear hr9 hm9
            show Z 1 114 [(3, .int 4), (1, .int 2), (2, .ref 79), (0, .ref 50)] [] (eMB (z_ui (z_ui (z_ui (z_ui (z_ui W3 79 3 1) 61 0 ((μ.1 61 0) + 1500)) 61 1 ((μ.1 61 1) + (-1500))) 61 2 ((μ.1 61 2) + (-1500))) 61 3 ((μ.1 61 3) + 1500)) false true 2 e)
            exact hr 1 114 _ _ _ none (by decide +kernel) (by rfl) (by refine ⟨rfl, ?_⟩; unfold nM1001; exact SM_eMB (SM_ui (SM_ui (SM_ui (SM_ui (SM_ui (SM_tr (SM_ui (SM_tr (SM_ui (SM_tr (SM_ui (SM_tr (SM_rf _) hO0)) hO1)) hO2)) hO3)))))))
          · skip
            refine z_rcs hc hH 3 (pc' := 106) (lv' := [(3, .int 4), (1, .int 2), (2, .ref 79), (0, .ref 50)]) (st' := [.ref 50, .ref 79, .ref 50]) (μ' := z_ui (z_ui (z_ui (z_ui (z_ui W3 79 3 1) 61 0 ((μ.1 61 0) + 1500)) 61 1 ((μ.1 61 1) + (-1500))) 61 2 ((μ.1 61 2) + (-1500))) 61 3 ((μ.1 61 3) + 1500)) (by rfl) ?_
            refine zq_gfi hc hH (by rfl) (ci := 6) (f := 40) (by rfl) (by decide +kernel) (by rfl) ?_
            refine zV1 (Z := Z) (Eq.trans (ui_o (by first | decide | omega)) (Eq.trans (ui_o (by first | decide | omega)) (Eq.trans (ui_o (by first | decide | omega)) (Eq.trans (ui_o (by first | decide | omega)) (Eq.trans (ui_o (by first | decide | omega)) (Eq.trans (hO3 50 40 (by omega)).1 (Eq.trans (ui_o (by first | decide | omega)) (Eq.trans (hO2 50 40 (by omega)).1 (Eq.trans (ui_o (by first | decide | omega)) (Eq.trans (hO1 50 40 (by omega)).1 (Eq.trans (ui_o (by first | decide | omega)) (hO0 50 40 (by omega)).1))))))))))) ?_
            rw [(z_zero_o (by decide)).trans hdl]
            refine zq_bald hc hH (by rfl) 4 (by decide +kernel) (vp_in_nI (by omega) (by decide)) ?_
            rw [nI_clamp (by omega)]
            refine zV1 (Z := Z) (Eq.trans (ui_o (by first | decide | omega)) (Eq.trans (ui_o (by first | decide | omega)) (Eq.trans (ui_o (by first | decide | omega)) (Eq.trans (ui_o (by first | decide | omega)) (ui_s))))) ?_
            refine z_rcs0 hc hH 1 (pc' := 111) (lv' := [(3, .int 4), (1, .int 2), (2, .ref 79), (0, .ref 50)]) (st' := [.int 1, .int 1, .ref 50]) (by rfl) ?_
            refine zq_call hc (z_cx_ok hH (by rfl)) (gm_endsB d' (by omega) (z_ui (z_ui (z_ui (z_ui (z_ui W3 79 3 1) 61 0 ((μ.1 61 0) + 1500)) 61 1 ((μ.1 61 1) + (-1500))) 61 2 ((μ.1 61 2) + (-1500))) 61 3 ((μ.1 61 3) + 1500)) true true 3 e (by rw [ui_o (by first | decide | omega), ui_o (by first | decide | omega), ui_o (by first | decide | omega), ui_o (by first | decide | omega), ui_o (by first | decide | omega), (hO3 50 40 (by omega)).1, ui_o (by first | decide | omega), (hO2 50 40 (by omega)).1, ui_o (by first | decide | omega), (hO1 50 40 (by omega)).1, ui_o (by first | decide | omega), (hO0 50 40 (by omega)).1]; exact (z_zero_o (by decide)).trans hdl) hdl4 he) (by decide +kernel) (fun r9 μ9 hq => ?_)
            obtain ⟨hr9, hm9⟩ := hq
            rw [hr9, hm9]
            clear hr9 hm9
            show Z 1 114 [(3, .int 4), (1, .int 2), (2, .ref 79), (0, .ref 50)] [] (eMB (z_ui (z_ui (z_ui (z_ui (z_ui W3 79 3 1) 61 0 ((μ.1 61 0) + 1500)) 61 1 ((μ.1 61 1) + (-1500))) 61 2 ((μ.1 61 2) + (-1500))) 61 3 ((μ.1 61 3) + 1500)) true true 3 e)
            exact hr 1 114 _ _ _ none (by decide +kernel) (by rfl) (by refine ⟨rfl, ?_⟩; unfold nM1001; exact SM_eMB (SM_ui (SM_ui (SM_ui (SM_ui (SM_ui (SM_tr (SM_ui (SM_tr (SM_ui (SM_tr (SM_ui (SM_tr (SM_rf _) hO0)) hO1)) hO2)) hO3)))))))
      · have h3 : (decide ((lg_cmp w2 0) = 0)) = false := decide_eq_false (cn_eq.mp h3)
        exact absurd (Eq.trans (Eq.symm (hb2)) h3) (by decide)
    · have h2 : (decide ((lg_cmp w1 0) = 0)) = false := decide_eq_false (cn_eq.mp h2)
      exact absurd (Eq.trans (Eq.symm (hb1)) h2) (by decide)
noncomputable def nM1010 (μ : zM) : zM := z_ui (z_ui (z_ui (z_ui (z_ui (z_ui (z_ui (z_ui (z_zero μ) 79 0 1) 79 1 0) 79 2 1) 79 3 0) 61 0 ((μ.1 61 0) + 1500)) 61 1 ((μ.1 61 1) + (-1500))) 61 2 ((μ.1 61 2) + 1500)) 61 3 ((μ.1 61 3) + (-1500))
theorem gm_nobody1010 (d : Nat) (hd : 700 ≤ d) (μ : zM) (hH0 : a_H μ) (dl e : Nat) (hdl : μ.1 50 40 = nI dl) (hdl4 : dl < 4) (he : (dl + 1) % 4 = e) (w0 : Int64) (hw0 : ∀ M, SE μ M → a_H M → ∀ d, 699 ≤ d → z_C d mi_X7_waitsAt [.ref 50, .int 0] M (fun r W => r = some (.long w0) ∧ SMj M W ∧ a_H W)) (hb0 : decide (lg_cmp w0 0 = 0) = false) (w1 : Int64) (hw1 : ∀ M, SE μ M → a_H M → ∀ d, 699 ≤ d → z_C d mi_X7_waitsAt [.ref 50, .int 1] M (fun r W => r = some (.long w1) ∧ SMj M W ∧ a_H W)) (hb1 : decide (lg_cmp w1 0 = 0) = true) (w2 : Int64) (hw2 : ∀ M, SE μ M → a_H M → ∀ d, 699 ≤ d → z_C d mi_X7_waitsAt [.ref 50, .int 2] M (fun r W => r = some (.long w2) ∧ SMj M W ∧ a_H W)) (hb2 : decide (lg_cmp w2 0 = 0) = false) (w3 : Int64) (hw3 : ∀ M, SE μ M → a_H M → ∀ d, 699 ≤ d → z_C d mi_X7_waitsAt [.ref 50, .int 3] M (fun r W => r = some (.long w3) ∧ SMj M W ∧ a_H W)) (hb3 : decide (lg_cmp w3 0 = 0) = true) : z_C d mi_X7_nobodyWins [.ref 50] μ (fun r μ' => r = none ∧ SMj (eMB (nM1010 μ) (nbS true false true false dl) true dl e) μ') := by
  obtain ⟨d', rfl⟩ : ∃ d', d = d' + 1 := ⟨d - 1, by omega⟩
  intro Z hc hr
  refine ⟨rfl, ?_⟩
  have hH := zh_X7_nobodyWins
  refine z_rcs hc hH 9 (pc' := 17) (lv' := [(3, .int 0), (2, .ref 79), (1, .int 0), (0, .ref 50)]) (st' := [.int 0, .ref 50, .int 0, .ref 79]) (μ' := z_zero μ) (by rfl) ?_
  refine zq_call hc (z_cx_ok hH (by rfl)) (hw0 _ (SE_zr _) (a_H_zero hH0) d' (by omega)) (by decide +kernel) (fun r9 W0 hq => ?_)
  obtain ⟨rfl, hO0, hA0⟩ := hq
  show Z 1 20 [(3, .int 0), (2, .ref 79), (1, .int 0), (0, .ref 50)] [.long w0, .int 0, .ref 79] W0
  refine z_rcs hc hH 2 (pc' := 22) (lv' := [(3, .int 0), (2, .ref 79), (1, .int 0), (0, .ref 50)]) (st' := [.int (lg_cmp w0 0), .int 0, .ref 79]) (μ' := W0) (by rfl) ?_
  refine zq_if hc hH (by rfl) (tg := 29) (by rfl) (fun h1 => ?_) (fun h1 => ?_)
  · have h1 : (decide ((lg_cmp w0 0) = 0)) = true := decide_eq_true (cm_eq9.mp h1)
    exact absurd (Eq.trans (Eq.symm (hb0)) h1) (by decide)
  · have h1 : (decide ((lg_cmp w0 0) = 0)) = false := decide_eq_false (cn_eq.mp h1)
    refine z_rcs hc hH 2 (pc' := 30) (lv' := [(3, .int 0), (2, .ref 79), (1, .int 0), (0, .ref 50)]) (st' := [.int 1, .int 0, .ref 79]) (μ' := W0) (by rfl) ?_
    refine zq_bast hc hH (by rfl) 4 (by decide +kernel) (show vp_in (nI 0) 4 from vp_in_nI (by decide) (by decide)) (by decide) ?_
    rw [show (0 : Int32).toNatClampNeg = 0 from rfl]
    show Z 1 31 [(3, .int 0), (2, .ref 79), (1, .int 0), (0, .ref 50)] [] (z_ui W0 79 0 1)
    refine z_rcs hc hH 3 (pc' := 34) (lv' := [(3, .int 0), (2, .ref 79), (1, .int 0), (0, .ref 50)]) (st' := [.int 0, .ref 79, .int 0]) (μ' := z_ui W0 79 0 1) (by rfl) ?_
    refine zq_bald hc hH (by rfl) 4 (by decide +kernel) (show vp_in (nI 0) 4 from vp_in_nI (by decide) (by decide)) ?_
    rw [show (0 : Int32).toNatClampNeg = 0 from rfl]
    rw [ui_s]
    refine z_rcs hc hH 14 (pc' := 17) (lv' := [(3, .int 1), (1, .int 1), (2, .ref 79), (0, .ref 50)]) (st' := [.int 1, .ref 50, .int 1, .ref 79]) (μ' := z_ui W0 79 0 1) (by rfl) ?_
    refine zq_call hc (z_cx_ok hH (by rfl)) (hw1 _ (SE_ui (SE_sm (SE_zr _) hO0) (by omega)) (a_H_ui (r := 79) (k := 0) (hA0) ⟨by decide, by decide⟩) d' (by omega)) (by decide +kernel) (fun r9 W1 hq => ?_)
    obtain ⟨rfl, hO1, hA1⟩ := hq
    show Z 1 20 [(3, .int 1), (1, .int 1), (2, .ref 79), (0, .ref 50)] [.long w1, .int 1, .ref 79] W1
    refine z_rcs hc hH 2 (pc' := 22) (lv' := [(3, .int 1), (1, .int 1), (2, .ref 79), (0, .ref 50)]) (st' := [.int (lg_cmp w1 0), .int 1, .ref 79]) (μ' := W1) (by rfl) ?_
    refine zq_if hc hH (by rfl) (tg := 29) (by rfl) (fun h2 => ?_) (fun h2 => ?_)
    · have h2 : (decide ((lg_cmp w1 0) = 0)) = true := decide_eq_true (cm_eq9.mp h2)
      refine z_rcs hc hH 1 (pc' := 30) (lv' := [(3, .int 1), (1, .int 1), (2, .ref 79), (0, .ref 50)]) (st' := [.int 0, .int 1, .ref 79]) (μ' := W1) (by rfl) ?_
      refine zq_bast hc hH (by rfl) 4 (by decide +kernel) (show vp_in (nI 1) 4 from vp_in_nI (by decide) (by decide)) (by decide) ?_
      rw [show (1 : Int32).toNatClampNeg = 1 from rfl]
      show Z 1 31 [(3, .int 1), (1, .int 1), (2, .ref 79), (0, .ref 50)] [] (z_ui W1 79 1 0)
      refine z_rcs hc hH 3 (pc' := 34) (lv' := [(3, .int 1), (1, .int 1), (2, .ref 79), (0, .ref 50)]) (st' := [.int 1, .ref 79, .int 1]) (μ' := z_ui W1 79 1 0) (by rfl) ?_
      refine zq_bald hc hH (by rfl) 4 (by decide +kernel) (show vp_in (nI 1) 4 from vp_in_nI (by decide) (by decide)) ?_
      rw [show (1 : Int32).toNatClampNeg = 1 from rfl]
      rw [ui_s]
      refine z_rcs hc hH 13 (pc' := 17) (lv' := [(3, .int 2), (1, .int 1), (2, .ref 79), (0, .ref 50)]) (st' := [.int 2, .ref 50, .int 2, .ref 79]) (μ' := z_ui W1 79 1 0) (by rfl) ?_
      refine zq_call hc (z_cx_ok hH (by rfl)) (hw2 _ (SE_ui (SE_sm (SE_ui (SE_sm (SE_zr _) hO0) (by omega)) hO1) (by omega)) (a_H_ui (r := 79) (k := 1) (hA1) ⟨by decide, by decide⟩) d' (by omega)) (by decide +kernel) (fun r9 W2 hq => ?_)
      obtain ⟨rfl, hO2, hA2⟩ := hq
      show Z 1 20 [(3, .int 2), (1, .int 1), (2, .ref 79), (0, .ref 50)] [.long w2, .int 2, .ref 79] W2
      refine z_rcs hc hH 2 (pc' := 22) (lv' := [(3, .int 2), (1, .int 1), (2, .ref 79), (0, .ref 50)]) (st' := [.int (lg_cmp w2 0), .int 2, .ref 79]) (μ' := W2) (by rfl) ?_
      refine zq_if hc hH (by rfl) (tg := 29) (by rfl) (fun h3 => ?_) (fun h3 => ?_)
      · have h3 : (decide ((lg_cmp w2 0) = 0)) = true := decide_eq_true (cm_eq9.mp h3)
        exact absurd (Eq.trans (Eq.symm (hb2)) h3) (by decide)
      · have h3 : (decide ((lg_cmp w2 0) = 0)) = false := decide_eq_false (cn_eq.mp h3)
        refine z_rcs hc hH 2 (pc' := 30) (lv' := [(3, .int 2), (1, .int 1), (2, .ref 79), (0, .ref 50)]) (st' := [.int 1, .int 2, .ref 79]) (μ' := W2) (by rfl) ?_
        refine zq_bast hc hH (by rfl) 4 (by decide +kernel) (show vp_in (nI 2) 4 from vp_in_nI (by decide) (by decide)) (by decide) ?_
        rw [show (2 : Int32).toNatClampNeg = 2 from rfl]
        show Z 1 31 [(3, .int 2), (1, .int 1), (2, .ref 79), (0, .ref 50)] [] (z_ui W2 79 2 1)
        refine z_rcs hc hH 3 (pc' := 34) (lv' := [(3, .int 2), (1, .int 1), (2, .ref 79), (0, .ref 50)]) (st' := [.int 2, .ref 79, .int 1]) (μ' := z_ui W2 79 2 1) (by rfl) ?_
        refine zq_bald hc hH (by rfl) 4 (by decide +kernel) (show vp_in (nI 2) 4 from vp_in_nI (by decide) (by decide)) ?_
        rw [show (2 : Int32).toNatClampNeg = 2 from rfl]
        rw [ui_s]
        refine z_rcs hc hH 14 (pc' := 17) (lv' := [(3, .int 3), (1, .int 2), (2, .ref 79), (0, .ref 50)]) (st' := [.int 3, .ref 50, .int 3, .ref 79]) (μ' := z_ui W2 79 2 1) (by rfl) ?_
        refine zq_call hc (z_cx_ok hH (by rfl)) (hw3 _ (SE_ui (SE_sm (SE_ui (SE_sm (SE_ui (SE_sm (SE_zr _) hO0) (by omega)) hO1) (by omega)) hO2) (by omega)) (a_H_ui (r := 79) (k := 2) (hA2) ⟨by decide, by decide⟩) d' (by omega)) (by decide +kernel) (fun r9 W3 hq => ?_)
        obtain ⟨rfl, hO3, hA3⟩ := hq
        show Z 1 20 [(3, .int 3), (1, .int 2), (2, .ref 79), (0, .ref 50)] [.long w3, .int 3, .ref 79] W3
        refine z_rcs hc hH 2 (pc' := 22) (lv' := [(3, .int 3), (1, .int 2), (2, .ref 79), (0, .ref 50)]) (st' := [.int (lg_cmp w3 0), .int 3, .ref 79]) (μ' := W3) (by rfl) ?_
        refine zq_if hc hH (by rfl) (tg := 29) (by rfl) (fun h4 => ?_) (fun h4 => ?_)
        · have h4 : (decide ((lg_cmp w3 0) = 0)) = true := decide_eq_true (cm_eq9.mp h4)
          refine z_rcs hc hH 1 (pc' := 30) (lv' := [(3, .int 3), (1, .int 2), (2, .ref 79), (0, .ref 50)]) (st' := [.int 0, .int 3, .ref 79]) (μ' := W3) (by rfl) ?_
          refine zq_bast hc hH (by rfl) 4 (by decide +kernel) (show vp_in (nI 3) 4 from vp_in_nI (by decide) (by decide)) (by decide) ?_
          rw [show (3 : Int32).toNatClampNeg = 3 from rfl]
          show Z 1 31 [(3, .int 3), (1, .int 2), (2, .ref 79), (0, .ref 50)] [] (z_ui W3 79 3 0)
          refine z_rcs hc hH 3 (pc' := 34) (lv' := [(3, .int 3), (1, .int 2), (2, .ref 79), (0, .ref 50)]) (st' := [.int 3, .ref 79, .int 2]) (μ' := z_ui W3 79 3 0) (by rfl) ?_
          refine zq_bald hc hH (by rfl) 4 (by decide +kernel) (show vp_in (nI 3) 4 from vp_in_nI (by decide) (by decide)) ?_
          rw [show (3 : Int32).toNatClampNeg = 3 from rfl]
          rw [ui_s]
          refine z_rcs hc hH 20 (pc' := 68) (lv' := [(3, .int 0), (1, .int 2), (2, .ref 79), (0, .ref 50)]) (st' := [.ref 50]) (μ' := z_ui W3 79 3 0) (by rfl) ?_
          refine zq_gfr hc hH (by rfl) (ci := 6) (f := 29) (q := 61) (by rfl) (by decide +kernel) (by rfl) (by decide +kernel) ?_
          refine z_rcs hc hH 2 (pc' := 73) (lv' := [(3, .int 0), (1, .int 2), (2, .ref 79), (0, .ref 50)]) (st' := [.int 0, .ref 61, .int 0, .ref 61]) (μ' := z_ui W3 79 3 0) (by rfl) ?_
          refine zq_iald hc hH (by rfl) 4 (oka_i (by decide +kernel)) (show vp_in (nI 0) 4 from vp_in_nI (by decide) (by decide)) ?_
          rw [show (0 : Int32).toNatClampNeg = 0 from rfl]
          refine zV1 (Z := Z) (Eq.trans (ui_o (by first | decide | omega)) (Eq.trans (hO3 61 0 (by omega)).1 (Eq.trans (ui_o (by first | decide | omega)) (Eq.trans (hO2 61 0 (by omega)).1 (Eq.trans (ui_o (by first | decide | omega)) (Eq.trans (hO1 61 0 (by omega)).1 (Eq.trans (ui_o (by first | decide | omega)) (hO0 61 0 (by omega)).1))))))) ?_
          rw [z_zero_o (by decide)]
          refine z_rcs hc hH 2 (pc' := 76) (lv' := [(3, .int 0), (1, .int 2), (2, .ref 79), (0, .ref 50)]) (st' := [.int 0, .ref 79, .int (μ.1 61 0), .int 0, .ref 61]) (μ' := z_ui W3 79 3 0) (by rfl) ?_
          refine zq_bald hc hH (by rfl) 4 (by decide +kernel) (show vp_in (nI 0) 4 from vp_in_nI (by decide) (by decide)) ?_
          rw [show (0 : Int32).toNatClampNeg = 0 from rfl]
          refine zV1 (Z := Z) (Eq.trans (ui_k (by first | decide | omega)) (Eq.trans (hO3 79 0 (by omega)).1 (Eq.trans (ui_k (by first | decide | omega)) (Eq.trans (hO2 79 0 (by omega)).1 (Eq.trans (ui_k (by first | decide | omega)) (Eq.trans (hO1 79 0 (by omega)).1 (ui_s))))))) ?_
          refine z_rcs hc hH 6 (pc' := 96) (lv' := [(3, .int 0), (1, .int 2), (2, .ref 79), (0, .ref 50)]) (st' := [.int ((μ.1 61 0) + 1500), .int 0, .ref 61]) (μ' := z_ui W3 79 3 0) (by rfl) ?_
          refine zq_iast hc hH (by rfl) 4 (oka_i (by decide +kernel)).2 (show vp_in (nI 0) 4 from vp_in_nI (by decide) (by decide)) ?_
          rw [show (0 : Int32).toNatClampNeg = 0 from rfl]
          show Z 1 97 [(3, .int 0), (1, .int 2), (2, .ref 79), (0, .ref 50)] [] (z_ui (z_ui W3 79 3 0) 61 0 ((μ.1 61 0) + 1500))
          refine z_rcs0 hc hH 6 (pc' := 68) (lv' := [(3, .int 1), (1, .int 2), (2, .ref 79), (0, .ref 50)]) (st' := [.ref 50]) (by rfl) ?_
          refine zq_gfr hc hH (by rfl) (ci := 6) (f := 29) (q := 61) (by rfl) (by decide +kernel) (by rfl) (by decide +kernel) ?_
          refine z_rcs0 hc hH 2 (pc' := 73) (lv' := [(3, .int 1), (1, .int 2), (2, .ref 79), (0, .ref 50)]) (st' := [.int 1, .ref 61, .int 1, .ref 61]) (by rfl) ?_
          refine zq_iald hc hH (by rfl) 4 (oka_i (by decide +kernel)) (show vp_in (nI 1) 4 from vp_in_nI (by decide) (by decide)) ?_
          rw [show (1 : Int32).toNatClampNeg = 1 from rfl]
          refine zV1 (Z := Z) (Eq.trans (ui_k (by first | decide | omega)) (Eq.trans (ui_o (by first | decide | omega)) (Eq.trans (hO3 61 1 (by omega)).1 (Eq.trans (ui_o (by first | decide | omega)) (Eq.trans (hO2 61 1 (by omega)).1 (Eq.trans (ui_o (by first | decide | omega)) (Eq.trans (hO1 61 1 (by omega)).1 (Eq.trans (ui_o (by first | decide | omega)) (hO0 61 1 (by omega)).1)))))))) ?_
          rw [z_zero_o (by decide)]
          refine z_rcs0 hc hH 2 (pc' := 76) (lv' := [(3, .int 1), (1, .int 2), (2, .ref 79), (0, .ref 50)]) (st' := [.int 1, .ref 79, .int (μ.1 61 1), .int 1, .ref 61]) (by rfl) ?_
          refine zq_bald hc hH (by rfl) 4 (by decide +kernel) (show vp_in (nI 1) 4 from vp_in_nI (by decide) (by decide)) ?_
          rw [show (1 : Int32).toNatClampNeg = 1 from rfl]
          refine zV1 (Z := Z) (Eq.trans (ui_o (by first | decide | omega)) (Eq.trans (ui_k (by first | decide | omega)) (Eq.trans (hO3 79 1 (by omega)).1 (Eq.trans (ui_k (by first | decide | omega)) (Eq.trans (hO2 79 1 (by omega)).1 (ui_s)))))) ?_
          refine z_rcs0 hc hH 7 (pc' := 96) (lv' := [(3, .int 1), (1, .int 2), (2, .ref 79), (0, .ref 50)]) (st' := [.int ((μ.1 61 1) + (-1500)), .int 1, .ref 61]) (by rfl) ?_
          refine zq_iast hc hH (by rfl) 4 (oka_i (by decide +kernel)).2 (show vp_in (nI 1) 4 from vp_in_nI (by decide) (by decide)) ?_
          rw [show (1 : Int32).toNatClampNeg = 1 from rfl]
          show Z 1 97 [(3, .int 1), (1, .int 2), (2, .ref 79), (0, .ref 50)] [] (z_ui (z_ui (z_ui W3 79 3 0) 61 0 ((μ.1 61 0) + 1500)) 61 1 ((μ.1 61 1) + (-1500)))
          refine z_rcs0 hc hH 6 (pc' := 68) (lv' := [(3, .int 2), (1, .int 2), (2, .ref 79), (0, .ref 50)]) (st' := [.ref 50]) (by rfl) ?_
          refine zq_gfr hc hH (by rfl) (ci := 6) (f := 29) (q := 61) (by rfl) (by decide +kernel) (by rfl) (by decide +kernel) ?_
          refine z_rcs0 hc hH 2 (pc' := 73) (lv' := [(3, .int 2), (1, .int 2), (2, .ref 79), (0, .ref 50)]) (st' := [.int 2, .ref 61, .int 2, .ref 61]) (by rfl) ?_
          refine zq_iald hc hH (by rfl) 4 (oka_i (by decide +kernel)) (show vp_in (nI 2) 4 from vp_in_nI (by decide) (by decide)) ?_
          rw [show (2 : Int32).toNatClampNeg = 2 from rfl]
          refine zV1 (Z := Z) (Eq.trans (ui_k (by first | decide | omega)) (Eq.trans (ui_k (by first | decide | omega)) (Eq.trans (ui_o (by first | decide | omega)) (Eq.trans (hO3 61 2 (by omega)).1 (Eq.trans (ui_o (by first | decide | omega)) (Eq.trans (hO2 61 2 (by omega)).1 (Eq.trans (ui_o (by first | decide | omega)) (Eq.trans (hO1 61 2 (by omega)).1 (Eq.trans (ui_o (by first | decide | omega)) (hO0 61 2 (by omega)).1))))))))) ?_
          rw [z_zero_o (by decide)]
          refine z_rcs0 hc hH 2 (pc' := 76) (lv' := [(3, .int 2), (1, .int 2), (2, .ref 79), (0, .ref 50)]) (st' := [.int 2, .ref 79, .int (μ.1 61 2), .int 2, .ref 61]) (by rfl) ?_
          refine zq_bald hc hH (by rfl) 4 (by decide +kernel) (show vp_in (nI 2) 4 from vp_in_nI (by decide) (by decide)) ?_
          rw [show (2 : Int32).toNatClampNeg = 2 from rfl]
          refine zV1 (Z := Z) (Eq.trans (ui_o (by first | decide | omega)) (Eq.trans (ui_o (by first | decide | omega)) (Eq.trans (ui_k (by first | decide | omega)) (Eq.trans (hO3 79 2 (by omega)).1 (ui_s))))) ?_
          refine z_rcs0 hc hH 6 (pc' := 96) (lv' := [(3, .int 2), (1, .int 2), (2, .ref 79), (0, .ref 50)]) (st' := [.int ((μ.1 61 2) + 1500), .int 2, .ref 61]) (by rfl) ?_
          refine zq_iast hc hH (by rfl) 4 (oka_i (by decide +kernel)).2 (show vp_in (nI 2) 4 from vp_in_nI (by decide) (by decide)) ?_
          rw [show (2 : Int32).toNatClampNeg = 2 from rfl]
          show Z 1 97 [(3, .int 2), (1, .int 2), (2, .ref 79), (0, .ref 50)] [] (z_ui (z_ui (z_ui (z_ui W3 79 3 0) 61 0 ((μ.1 61 0) + 1500)) 61 1 ((μ.1 61 1) + (-1500))) 61 2 ((μ.1 61 2) + 1500))
          refine z_rcs0 hc hH 6 (pc' := 68) (lv' := [(3, .int 3), (1, .int 2), (2, .ref 79), (0, .ref 50)]) (st' := [.ref 50]) (by rfl) ?_
          refine zq_gfr hc hH (by rfl) (ci := 6) (f := 29) (q := 61) (by rfl) (by decide +kernel) (by rfl) (by decide +kernel) ?_
          refine z_rcs0 hc hH 2 (pc' := 73) (lv' := [(3, .int 3), (1, .int 2), (2, .ref 79), (0, .ref 50)]) (st' := [.int 3, .ref 61, .int 3, .ref 61]) (by rfl) ?_
          refine zq_iald hc hH (by rfl) 4 (oka_i (by decide +kernel)) (show vp_in (nI 3) 4 from vp_in_nI (by decide) (by decide)) ?_
          rw [show (3 : Int32).toNatClampNeg = 3 from rfl]
          refine zV1 (Z := Z) (Eq.trans (ui_k (by first | decide | omega)) (Eq.trans (ui_k (by first | decide | omega)) (Eq.trans (ui_k (by first | decide | omega)) (Eq.trans (ui_o (by first | decide | omega)) (Eq.trans (hO3 61 3 (by omega)).1 (Eq.trans (ui_o (by first | decide | omega)) (Eq.trans (hO2 61 3 (by omega)).1 (Eq.trans (ui_o (by first | decide | omega)) (Eq.trans (hO1 61 3 (by omega)).1 (Eq.trans (ui_o (by first | decide | omega)) (hO0 61 3 (by omega)).1)))))))))) ?_
          rw [z_zero_o (by decide)]
          refine z_rcs0 hc hH 2 (pc' := 76) (lv' := [(3, .int 3), (1, .int 2), (2, .ref 79), (0, .ref 50)]) (st' := [.int 3, .ref 79, .int (μ.1 61 3), .int 3, .ref 61]) (by rfl) ?_
          refine zq_bald hc hH (by rfl) 4 (by decide +kernel) (show vp_in (nI 3) 4 from vp_in_nI (by decide) (by decide)) ?_
          rw [show (3 : Int32).toNatClampNeg = 3 from rfl]
          refine zV1 (Z := Z) (Eq.trans (ui_o (by first | decide | omega)) (Eq.trans (ui_o (by first | decide | omega)) (Eq.trans (ui_o (by first | decide | omega)) (ui_s)))) ?_
          refine z_rcs0 hc hH 7 (pc' := 96) (lv' := [(3, .int 3), (1, .int 2), (2, .ref 79), (0, .ref 50)]) (st' := [.int ((μ.1 61 3) + (-1500)), .int 3, .ref 61]) (by rfl) ?_
          refine zq_iast hc hH (by rfl) 4 (oka_i (by decide +kernel)).2 (show vp_in (nI 3) 4 from vp_in_nI (by decide) (by decide)) ?_
          rw [show (3 : Int32).toNatClampNeg = 3 from rfl]
          show Z 1 97 [(3, .int 3), (1, .int 2), (2, .ref 79), (0, .ref 50)] [] (z_ui (z_ui (z_ui (z_ui (z_ui W3 79 3 0) 61 0 ((μ.1 61 0) + 1500)) 61 1 ((μ.1 61 1) + (-1500))) 61 2 ((μ.1 61 2) + 1500)) 61 3 ((μ.1 61 3) + (-1500)))
          refine z_rcs0 hc hH 5 (pc' := 103) (lv' := [(3, .int 4), (1, .int 2), (2, .ref 79), (0, .ref 50)]) (st' := []) (by rfl) ?_
          obtain rfl | rfl | rfl | rfl : dl = 0 ∨ dl = 1 ∨ dl = 2 ∨ dl = 3 := by omega
          · skip
            refine z_rcs0 hc hH 3 (pc' := 106) (lv' := [(3, .int 4), (1, .int 2), (2, .ref 79), (0, .ref 50)]) (st' := [.ref 50, .ref 79, .ref 50]) (by rfl) ?_
            refine zq_gfi hc hH (by rfl) (ci := 6) (f := 40) (by rfl) (by decide +kernel) (by rfl) ?_
            refine zV1 (Z := Z) (Eq.trans (ui_o (by first | decide | omega)) (Eq.trans (ui_o (by first | decide | omega)) (Eq.trans (ui_o (by first | decide | omega)) (Eq.trans (ui_o (by first | decide | omega)) (Eq.trans (ui_o (by first | decide | omega)) (Eq.trans (hO3 50 40 (by omega)).1 (Eq.trans (ui_o (by first | decide | omega)) (Eq.trans (hO2 50 40 (by omega)).1 (Eq.trans (ui_o (by first | decide | omega)) (Eq.trans (hO1 50 40 (by omega)).1 (Eq.trans (ui_o (by first | decide | omega)) (hO0 50 40 (by omega)).1))))))))))) ?_
            rw [(z_zero_o (by decide)).trans hdl]
            refine zq_bald hc hH (by rfl) 4 (by decide +kernel) (vp_in_nI (by omega) (by decide)) ?_
            rw [nI_clamp (by omega)]
            refine zV1 (Z := Z) (Eq.trans (ui_o (by first | decide | omega)) (Eq.trans (ui_o (by first | decide | omega)) (Eq.trans (ui_o (by first | decide | omega)) (Eq.trans (ui_o (by first | decide | omega)) (Eq.trans (ui_k (by first | decide | omega)) (Eq.trans (hO3 79 0 (by omega)).1 (Eq.trans (ui_k (by first | decide | omega)) (Eq.trans (hO2 79 0 (by omega)).1 (Eq.trans (ui_k (by first | decide | omega)) (Eq.trans (hO1 79 0 (by omega)).1 (ui_s))))))))))) ?_
            refine z_rcs0 hc hH 1 (pc' := 111) (lv' := [(3, .int 4), (1, .int 2), (2, .ref 79), (0, .ref 50)]) (st' := [.int 1, .int 1, .ref 50]) (by rfl) ?_
            refine zq_call hc (z_cx_ok hH (by rfl)) (gm_endsB d' (by omega) (z_ui (z_ui (z_ui (z_ui (z_ui W3 79 3 0) 61 0 ((μ.1 61 0) + 1500)) 61 1 ((μ.1 61 1) + (-1500))) 61 2 ((μ.1 61 2) + 1500)) 61 3 ((μ.1 61 3) + (-1500))) true true 0 e (by rw [ui_o (by first | decide | omega), ui_o (by first | decide | omega), ui_o (by first | decide | omega), ui_o (by first | decide | omega), ui_o (by first | decide | omega), (hO3 50 40 (by omega)).1, ui_o (by first | decide | omega), (hO2 50 40 (by omega)).1, ui_o (by first | decide | omega), (hO1 50 40 (by omega)).1, ui_o (by first | decide | omega), (hO0 50 40 (by omega)).1]; exact (z_zero_o (by decide)).trans hdl) hdl4 he) (by decide +kernel) (fun r9 μ9 hq => ?_)
            obtain ⟨hr9, hm9⟩ := hq
            rw [hr9, hm9]
            clear hr9 hm9
            show Z 1 114 [(3, .int 4), (1, .int 2), (2, .ref 79), (0, .ref 50)] [] (eMB (z_ui (z_ui (z_ui (z_ui (z_ui W3 79 3 0) 61 0 ((μ.1 61 0) + 1500)) 61 1 ((μ.1 61 1) + (-1500))) 61 2 ((μ.1 61 2) + 1500)) 61 3 ((μ.1 61 3) + (-1500))) true true 0 e)
            exact hr 1 114 _ _ _ none (by decide +kernel) (by rfl) (by refine ⟨rfl, ?_⟩; unfold nM1010; exact SM_eMB (SM_ui (SM_ui (SM_ui (SM_ui (SM_ui (SM_tr (SM_ui (SM_tr (SM_ui (SM_tr (SM_ui (SM_tr (SM_rf _) hO0)) hO1)) hO2)) hO3)))))))
          · skip
            refine z_rcs hc hH 3 (pc' := 106) (lv' := [(3, .int 4), (1, .int 2), (2, .ref 79), (0, .ref 50)]) (st' := [.ref 50, .ref 79, .ref 50]) (μ' := z_ui (z_ui (z_ui (z_ui (z_ui W3 79 3 0) 61 0 ((μ.1 61 0) + 1500)) 61 1 ((μ.1 61 1) + (-1500))) 61 2 ((μ.1 61 2) + 1500)) 61 3 ((μ.1 61 3) + (-1500))) (by rfl) ?_
            refine zq_gfi hc hH (by rfl) (ci := 6) (f := 40) (by rfl) (by decide +kernel) (by rfl) ?_
            refine zV1 (Z := Z) (Eq.trans (ui_o (by first | decide | omega)) (Eq.trans (ui_o (by first | decide | omega)) (Eq.trans (ui_o (by first | decide | omega)) (Eq.trans (ui_o (by first | decide | omega)) (Eq.trans (ui_o (by first | decide | omega)) (Eq.trans (hO3 50 40 (by omega)).1 (Eq.trans (ui_o (by first | decide | omega)) (Eq.trans (hO2 50 40 (by omega)).1 (Eq.trans (ui_o (by first | decide | omega)) (Eq.trans (hO1 50 40 (by omega)).1 (Eq.trans (ui_o (by first | decide | omega)) (hO0 50 40 (by omega)).1))))))))))) ?_
            rw [(z_zero_o (by decide)).trans hdl]
            refine zq_bald hc hH (by rfl) 4 (by decide +kernel) (vp_in_nI (by omega) (by decide)) ?_
            rw [nI_clamp (by omega)]
            refine zV1 (Z := Z) (Eq.trans (ui_o (by first | decide | omega)) (Eq.trans (ui_o (by first | decide | omega)) (Eq.trans (ui_o (by first | decide | omega)) (Eq.trans (ui_o (by first | decide | omega)) (Eq.trans (ui_k (by first | decide | omega)) (Eq.trans (hO3 79 1 (by omega)).1 (Eq.trans (ui_k (by first | decide | omega)) (Eq.trans (hO2 79 1 (by omega)).1 (ui_s))))))))) ?_
            refine z_rcs0 hc hH 1 (pc' := 111) (lv' := [(3, .int 4), (1, .int 2), (2, .ref 79), (0, .ref 50)]) (st' := [.int 1, .int 0, .ref 50]) (by rfl) ?_
            refine zq_call hc (z_cx_ok hH (by rfl)) (gm_endsB d' (by omega) (z_ui (z_ui (z_ui (z_ui (z_ui W3 79 3 0) 61 0 ((μ.1 61 0) + 1500)) 61 1 ((μ.1 61 1) + (-1500))) 61 2 ((μ.1 61 2) + 1500)) 61 3 ((μ.1 61 3) + (-1500))) false true 1 e (by rw [ui_o (by first | decide | omega), ui_o (by first | decide | omega), ui_o (by first | decide | omega), ui_o (by first | decide | omega), ui_o (by first | decide | omega), (hO3 50 40 (by omega)).1, ui_o (by first | decide | omega), (hO2 50 40 (by omega)).1, ui_o (by first | decide | omega), (hO1 50 40 (by omega)).1, ui_o (by first | decide | omega), (hO0 50 40 (by omega)).1]; exact (z_zero_o (by decide)).trans hdl) hdl4 he) (by decide +kernel) (fun r9 μ9 hq => ?_)
            obtain ⟨hr9, hm9⟩ := hq
            rw [hr9, hm9]
            clear hr9 hm9
            show Z 1 114 [(3, .int 4), (1, .int 2), (2, .ref 79), (0, .ref 50)] [] (eMB (z_ui (z_ui (z_ui (z_ui (z_ui W3 79 3 0) 61 0 ((μ.1 61 0) + 1500)) 61 1 ((μ.1 61 1) + (-1500))) 61 2 ((μ.1 61 2) + 1500)) 61 3 ((μ.1 61 3) + (-1500))) false true 1 e)
            exact hr 1 114 _ _ _ none (by decide +kernel) (by rfl) (by refine ⟨rfl, ?_⟩; unfold nM1010; exact SM_eMB (SM_ui (SM_ui (SM_ui (SM_ui (SM_ui (SM_tr (SM_ui (SM_tr (SM_ui (SM_tr (SM_ui (SM_tr (SM_rf _) hO0)) hO1)) hO2)) hO3)))))))
          · skip
            refine z_rcs hc hH 3 (pc' := 106) (lv' := [(3, .int 4), (1, .int 2), (2, .ref 79), (0, .ref 50)]) (st' := [.ref 50, .ref 79, .ref 50]) (μ' := z_ui (z_ui (z_ui (z_ui (z_ui W3 79 3 0) 61 0 ((μ.1 61 0) + 1500)) 61 1 ((μ.1 61 1) + (-1500))) 61 2 ((μ.1 61 2) + 1500)) 61 3 ((μ.1 61 3) + (-1500))) (by rfl) ?_
            refine zq_gfi hc hH (by rfl) (ci := 6) (f := 40) (by rfl) (by decide +kernel) (by rfl) ?_
            refine zV1 (Z := Z) (Eq.trans (ui_o (by first | decide | omega)) (Eq.trans (ui_o (by first | decide | omega)) (Eq.trans (ui_o (by first | decide | omega)) (Eq.trans (ui_o (by first | decide | omega)) (Eq.trans (ui_o (by first | decide | omega)) (Eq.trans (hO3 50 40 (by omega)).1 (Eq.trans (ui_o (by first | decide | omega)) (Eq.trans (hO2 50 40 (by omega)).1 (Eq.trans (ui_o (by first | decide | omega)) (Eq.trans (hO1 50 40 (by omega)).1 (Eq.trans (ui_o (by first | decide | omega)) (hO0 50 40 (by omega)).1))))))))))) ?_
            rw [(z_zero_o (by decide)).trans hdl]
            refine zq_bald hc hH (by rfl) 4 (by decide +kernel) (vp_in_nI (by omega) (by decide)) ?_
            rw [nI_clamp (by omega)]
            refine zV1 (Z := Z) (Eq.trans (ui_o (by first | decide | omega)) (Eq.trans (ui_o (by first | decide | omega)) (Eq.trans (ui_o (by first | decide | omega)) (Eq.trans (ui_o (by first | decide | omega)) (Eq.trans (ui_k (by first | decide | omega)) (Eq.trans (hO3 79 2 (by omega)).1 (ui_s))))))) ?_
            refine z_rcs0 hc hH 1 (pc' := 111) (lv' := [(3, .int 4), (1, .int 2), (2, .ref 79), (0, .ref 50)]) (st' := [.int 1, .int 1, .ref 50]) (by rfl) ?_
            refine zq_call hc (z_cx_ok hH (by rfl)) (gm_endsB d' (by omega) (z_ui (z_ui (z_ui (z_ui (z_ui W3 79 3 0) 61 0 ((μ.1 61 0) + 1500)) 61 1 ((μ.1 61 1) + (-1500))) 61 2 ((μ.1 61 2) + 1500)) 61 3 ((μ.1 61 3) + (-1500))) true true 2 e (by rw [ui_o (by first | decide | omega), ui_o (by first | decide | omega), ui_o (by first | decide | omega), ui_o (by first | decide | omega), ui_o (by first | decide | omega), (hO3 50 40 (by omega)).1, ui_o (by first | decide | omega), (hO2 50 40 (by omega)).1, ui_o (by first | decide | omega), (hO1 50 40 (by omega)).1, ui_o (by first | decide | omega), (hO0 50 40 (by omega)).1]; exact (z_zero_o (by decide)).trans hdl) hdl4 he) (by decide +kernel) (fun r9 μ9 hq => ?_)
            obtain ⟨hr9, hm9⟩ := hq
            rw [hr9, hm9]
            clear hr9 hm9
            show Z 1 114 [(3, .int 4), (1, .int 2), (2, .ref 79), (0, .ref 50)] [] (eMB (z_ui (z_ui (z_ui (z_ui (z_ui W3 79 3 0) 61 0 ((μ.1 61 0) + 1500)) 61 1 ((μ.1 61 1) + (-1500))) 61 2 ((μ.1 61 2) + 1500)) 61 3 ((μ.1 61 3) + (-1500))) true true 2 e)
            exact hr 1 114 _ _ _ none (by decide +kernel) (by rfl) (by refine ⟨rfl, ?_⟩; unfold nM1010; exact SM_eMB (SM_ui (SM_ui (SM_ui (SM_ui (SM_ui (SM_tr (SM_ui (SM_tr (SM_ui (SM_tr (SM_ui (SM_tr (SM_rf _) hO0)) hO1)) hO2)) hO3)))))))
          · skip
            refine z_rcs hc hH 3 (pc' := 106) (lv' := [(3, .int 4), (1, .int 2), (2, .ref 79), (0, .ref 50)]) (st' := [.ref 50, .ref 79, .ref 50]) (μ' := z_ui (z_ui (z_ui (z_ui (z_ui W3 79 3 0) 61 0 ((μ.1 61 0) + 1500)) 61 1 ((μ.1 61 1) + (-1500))) 61 2 ((μ.1 61 2) + 1500)) 61 3 ((μ.1 61 3) + (-1500))) (by rfl) ?_
            refine zq_gfi hc hH (by rfl) (ci := 6) (f := 40) (by rfl) (by decide +kernel) (by rfl) ?_
            refine zV1 (Z := Z) (Eq.trans (ui_o (by first | decide | omega)) (Eq.trans (ui_o (by first | decide | omega)) (Eq.trans (ui_o (by first | decide | omega)) (Eq.trans (ui_o (by first | decide | omega)) (Eq.trans (ui_o (by first | decide | omega)) (Eq.trans (hO3 50 40 (by omega)).1 (Eq.trans (ui_o (by first | decide | omega)) (Eq.trans (hO2 50 40 (by omega)).1 (Eq.trans (ui_o (by first | decide | omega)) (Eq.trans (hO1 50 40 (by omega)).1 (Eq.trans (ui_o (by first | decide | omega)) (hO0 50 40 (by omega)).1))))))))))) ?_
            rw [(z_zero_o (by decide)).trans hdl]
            refine zq_bald hc hH (by rfl) 4 (by decide +kernel) (vp_in_nI (by omega) (by decide)) ?_
            rw [nI_clamp (by omega)]
            refine zV1 (Z := Z) (Eq.trans (ui_o (by first | decide | omega)) (Eq.trans (ui_o (by first | decide | omega)) (Eq.trans (ui_o (by first | decide | omega)) (Eq.trans (ui_o (by first | decide | omega)) (ui_s))))) ?_
            refine z_rcs0 hc hH 1 (pc' := 111) (lv' := [(3, .int 4), (1, .int 2), (2, .ref 79), (0, .ref 50)]) (st' := [.int 1, .int 0, .ref 50]) (by rfl) ?_
            refine zq_call hc (z_cx_ok hH (by rfl)) (gm_endsB d' (by omega) (z_ui (z_ui (z_ui (z_ui (z_ui W3 79 3 0) 61 0 ((μ.1 61 0) + 1500)) 61 1 ((μ.1 61 1) + (-1500))) 61 2 ((μ.1 61 2) + 1500)) 61 3 ((μ.1 61 3) + (-1500))) false true 3 e (by rw [ui_o (by first | decide | omega), ui_o (by first | decide | omega), ui_o (by first | decide | omega), ui_o (by first | decide | omega), ui_o (by first | decide | omega), (hO3 50 40 (by omega)).1, ui_o (by first | decide | omega), (hO2 50 40 (by omega)).1, ui_o (by first | decide | omega), (hO1 50 40 (by omega)).1, ui_o (by first | decide | omega), (hO0 50 40 (by omega)).1]; exact (z_zero_o (by decide)).trans hdl) hdl4 he) (by decide +kernel) (fun r9 μ9 hq => ?_)
            obtain ⟨hr9, hm9⟩ := hq
            rw [hr9, hm9]
            clear hr9 hm9
            show Z 1 114 [(3, .int 4), (1, .int 2), (2, .ref 79), (0, .ref 50)] [] (eMB (z_ui (z_ui (z_ui (z_ui (z_ui W3 79 3 0) 61 0 ((μ.1 61 0) + 1500)) 61 1 ((μ.1 61 1) + (-1500))) 61 2 ((μ.1 61 2) + 1500)) 61 3 ((μ.1 61 3) + (-1500))) false true 3 e)
            exact hr 1 114 _ _ _ none (by decide +kernel) (by rfl) (by refine ⟨rfl, ?_⟩; unfold nM1010; exact SM_eMB (SM_ui (SM_ui (SM_ui (SM_ui (SM_ui (SM_tr (SM_ui (SM_tr (SM_ui (SM_tr (SM_ui (SM_tr (SM_rf _) hO0)) hO1)) hO2)) hO3)))))))
        · have h4 : (decide ((lg_cmp w3 0) = 0)) = false := decide_eq_false (cn_eq.mp h4)
          exact absurd (Eq.trans (Eq.symm (hb3)) h4) (by decide)
    · have h2 : (decide ((lg_cmp w1 0) = 0)) = false := decide_eq_false (cn_eq.mp h2)
      exact absurd (Eq.trans (Eq.symm (hb1)) h2) (by decide)
noncomputable def nM1011 (μ : zM) : zM := z_ui (z_ui (z_ui (z_ui (z_ui (z_ui (z_ui (z_ui (z_zero μ) 79 0 1) 79 1 0) 79 2 1) 79 3 1) 61 0 ((μ.1 61 0) + 1000)) 61 1 ((μ.1 61 1) + (-3000))) 61 2 ((μ.1 61 2) + 1000)) 61 3 ((μ.1 61 3) + 1000)
theorem gm_nobody1011 (d : Nat) (hd : 700 ≤ d) (μ : zM) (hH0 : a_H μ) (dl e : Nat) (hdl : μ.1 50 40 = nI dl) (hdl4 : dl < 4) (he : (dl + 1) % 4 = e) (w0 : Int64) (hw0 : ∀ M, SE μ M → a_H M → ∀ d, 699 ≤ d → z_C d mi_X7_waitsAt [.ref 50, .int 0] M (fun r W => r = some (.long w0) ∧ SMj M W ∧ a_H W)) (hb0 : decide (lg_cmp w0 0 = 0) = false) (w1 : Int64) (hw1 : ∀ M, SE μ M → a_H M → ∀ d, 699 ≤ d → z_C d mi_X7_waitsAt [.ref 50, .int 1] M (fun r W => r = some (.long w1) ∧ SMj M W ∧ a_H W)) (hb1 : decide (lg_cmp w1 0 = 0) = true) (w2 : Int64) (hw2 : ∀ M, SE μ M → a_H M → ∀ d, 699 ≤ d → z_C d mi_X7_waitsAt [.ref 50, .int 2] M (fun r W => r = some (.long w2) ∧ SMj M W ∧ a_H W)) (hb2 : decide (lg_cmp w2 0 = 0) = false) (w3 : Int64) (hw3 : ∀ M, SE μ M → a_H M → ∀ d, 699 ≤ d → z_C d mi_X7_waitsAt [.ref 50, .int 3] M (fun r W => r = some (.long w3) ∧ SMj M W ∧ a_H W)) (hb3 : decide (lg_cmp w3 0 = 0) = false) : z_C d mi_X7_nobodyWins [.ref 50] μ (fun r μ' => r = none ∧ SMj (eMB (nM1011 μ) (nbS true false true true dl) true dl e) μ') := by
  obtain ⟨d', rfl⟩ : ∃ d', d = d' + 1 := ⟨d - 1, by omega⟩
  intro Z hc hr
  refine ⟨rfl, ?_⟩
  have hH := zh_X7_nobodyWins
  refine z_rcs hc hH 9 (pc' := 17) (lv' := [(3, .int 0), (2, .ref 79), (1, .int 0), (0, .ref 50)]) (st' := [.int 0, .ref 50, .int 0, .ref 79]) (μ' := z_zero μ) (by rfl) ?_
  refine zq_call hc (z_cx_ok hH (by rfl)) (hw0 _ (SE_zr _) (a_H_zero hH0) d' (by omega)) (by decide +kernel) (fun r9 W0 hq => ?_)
  obtain ⟨rfl, hO0, hA0⟩ := hq
  show Z 1 20 [(3, .int 0), (2, .ref 79), (1, .int 0), (0, .ref 50)] [.long w0, .int 0, .ref 79] W0
  refine z_rcs hc hH 2 (pc' := 22) (lv' := [(3, .int 0), (2, .ref 79), (1, .int 0), (0, .ref 50)]) (st' := [.int (lg_cmp w0 0), .int 0, .ref 79]) (μ' := W0) (by rfl) ?_
  refine zq_if hc hH (by rfl) (tg := 29) (by rfl) (fun h1 => ?_) (fun h1 => ?_)
  · have h1 : (decide ((lg_cmp w0 0) = 0)) = true := decide_eq_true (cm_eq9.mp h1)
    exact absurd (Eq.trans (Eq.symm (hb0)) h1) (by decide)
  · have h1 : (decide ((lg_cmp w0 0) = 0)) = false := decide_eq_false (cn_eq.mp h1)
    refine z_rcs hc hH 2 (pc' := 30) (lv' := [(3, .int 0), (2, .ref 79), (1, .int 0), (0, .ref 50)]) (st' := [.int 1, .int 0, .ref 79]) (μ' := W0) (by rfl) ?_
    refine zq_bast hc hH (by rfl) 4 (by decide +kernel) (show vp_in (nI 0) 4 from vp_in_nI (by decide) (by decide)) (by decide) ?_
    rw [show (0 : Int32).toNatClampNeg = 0 from rfl]
    show Z 1 31 [(3, .int 0), (2, .ref 79), (1, .int 0), (0, .ref 50)] [] (z_ui W0 79 0 1)
    refine z_rcs hc hH 3 (pc' := 34) (lv' := [(3, .int 0), (2, .ref 79), (1, .int 0), (0, .ref 50)]) (st' := [.int 0, .ref 79, .int 0]) (μ' := z_ui W0 79 0 1) (by rfl) ?_
    refine zq_bald hc hH (by rfl) 4 (by decide +kernel) (show vp_in (nI 0) 4 from vp_in_nI (by decide) (by decide)) ?_
    rw [show (0 : Int32).toNatClampNeg = 0 from rfl]
    rw [ui_s]
    refine z_rcs hc hH 14 (pc' := 17) (lv' := [(3, .int 1), (1, .int 1), (2, .ref 79), (0, .ref 50)]) (st' := [.int 1, .ref 50, .int 1, .ref 79]) (μ' := z_ui W0 79 0 1) (by rfl) ?_
    refine zq_call hc (z_cx_ok hH (by rfl)) (hw1 _ (SE_ui (SE_sm (SE_zr _) hO0) (by omega)) (a_H_ui (r := 79) (k := 0) (hA0) ⟨by decide, by decide⟩) d' (by omega)) (by decide +kernel) (fun r9 W1 hq => ?_)
    obtain ⟨rfl, hO1, hA1⟩ := hq
    show Z 1 20 [(3, .int 1), (1, .int 1), (2, .ref 79), (0, .ref 50)] [.long w1, .int 1, .ref 79] W1
    refine z_rcs hc hH 2 (pc' := 22) (lv' := [(3, .int 1), (1, .int 1), (2, .ref 79), (0, .ref 50)]) (st' := [.int (lg_cmp w1 0), .int 1, .ref 79]) (μ' := W1) (by rfl) ?_
    refine zq_if hc hH (by rfl) (tg := 29) (by rfl) (fun h2 => ?_) (fun h2 => ?_)
    · have h2 : (decide ((lg_cmp w1 0) = 0)) = true := decide_eq_true (cm_eq9.mp h2)
      refine z_rcs hc hH 1 (pc' := 30) (lv' := [(3, .int 1), (1, .int 1), (2, .ref 79), (0, .ref 50)]) (st' := [.int 0, .int 1, .ref 79]) (μ' := W1) (by rfl) ?_
      refine zq_bast hc hH (by rfl) 4 (by decide +kernel) (show vp_in (nI 1) 4 from vp_in_nI (by decide) (by decide)) (by decide) ?_
      rw [show (1 : Int32).toNatClampNeg = 1 from rfl]
      show Z 1 31 [(3, .int 1), (1, .int 1), (2, .ref 79), (0, .ref 50)] [] (z_ui W1 79 1 0)
      refine z_rcs hc hH 3 (pc' := 34) (lv' := [(3, .int 1), (1, .int 1), (2, .ref 79), (0, .ref 50)]) (st' := [.int 1, .ref 79, .int 1]) (μ' := z_ui W1 79 1 0) (by rfl) ?_
      refine zq_bald hc hH (by rfl) 4 (by decide +kernel) (show vp_in (nI 1) 4 from vp_in_nI (by decide) (by decide)) ?_
      rw [show (1 : Int32).toNatClampNeg = 1 from rfl]
      rw [ui_s]
      refine z_rcs hc hH 13 (pc' := 17) (lv' := [(3, .int 2), (1, .int 1), (2, .ref 79), (0, .ref 50)]) (st' := [.int 2, .ref 50, .int 2, .ref 79]) (μ' := z_ui W1 79 1 0) (by rfl) ?_
      refine zq_call hc (z_cx_ok hH (by rfl)) (hw2 _ (SE_ui (SE_sm (SE_ui (SE_sm (SE_zr _) hO0) (by omega)) hO1) (by omega)) (a_H_ui (r := 79) (k := 1) (hA1) ⟨by decide, by decide⟩) d' (by omega)) (by decide +kernel) (fun r9 W2 hq => ?_)
      obtain ⟨rfl, hO2, hA2⟩ := hq
      show Z 1 20 [(3, .int 2), (1, .int 1), (2, .ref 79), (0, .ref 50)] [.long w2, .int 2, .ref 79] W2
      refine z_rcs hc hH 2 (pc' := 22) (lv' := [(3, .int 2), (1, .int 1), (2, .ref 79), (0, .ref 50)]) (st' := [.int (lg_cmp w2 0), .int 2, .ref 79]) (μ' := W2) (by rfl) ?_
      refine zq_if hc hH (by rfl) (tg := 29) (by rfl) (fun h3 => ?_) (fun h3 => ?_)
      · have h3 : (decide ((lg_cmp w2 0) = 0)) = true := decide_eq_true (cm_eq9.mp h3)
        exact absurd (Eq.trans (Eq.symm (hb2)) h3) (by decide)
      · have h3 : (decide ((lg_cmp w2 0) = 0)) = false := decide_eq_false (cn_eq.mp h3)
        refine z_rcs hc hH 2 (pc' := 30) (lv' := [(3, .int 2), (1, .int 1), (2, .ref 79), (0, .ref 50)]) (st' := [.int 1, .int 2, .ref 79]) (μ' := W2) (by rfl) ?_
        refine zq_bast hc hH (by rfl) 4 (by decide +kernel) (show vp_in (nI 2) 4 from vp_in_nI (by decide) (by decide)) (by decide) ?_
        rw [show (2 : Int32).toNatClampNeg = 2 from rfl]
        show Z 1 31 [(3, .int 2), (1, .int 1), (2, .ref 79), (0, .ref 50)] [] (z_ui W2 79 2 1)
        refine z_rcs hc hH 3 (pc' := 34) (lv' := [(3, .int 2), (1, .int 1), (2, .ref 79), (0, .ref 50)]) (st' := [.int 2, .ref 79, .int 1]) (μ' := z_ui W2 79 2 1) (by rfl) ?_
        refine zq_bald hc hH (by rfl) 4 (by decide +kernel) (show vp_in (nI 2) 4 from vp_in_nI (by decide) (by decide)) ?_
        rw [show (2 : Int32).toNatClampNeg = 2 from rfl]
        rw [ui_s]
        refine z_rcs hc hH 14 (pc' := 17) (lv' := [(3, .int 3), (1, .int 2), (2, .ref 79), (0, .ref 50)]) (st' := [.int 3, .ref 50, .int 3, .ref 79]) (μ' := z_ui W2 79 2 1) (by rfl) ?_
        refine zq_call hc (z_cx_ok hH (by rfl)) (hw3 _ (SE_ui (SE_sm (SE_ui (SE_sm (SE_ui (SE_sm (SE_zr _) hO0) (by omega)) hO1) (by omega)) hO2) (by omega)) (a_H_ui (r := 79) (k := 2) (hA2) ⟨by decide, by decide⟩) d' (by omega)) (by decide +kernel) (fun r9 W3 hq => ?_)
        obtain ⟨rfl, hO3, hA3⟩ := hq
        show Z 1 20 [(3, .int 3), (1, .int 2), (2, .ref 79), (0, .ref 50)] [.long w3, .int 3, .ref 79] W3
        refine z_rcs hc hH 2 (pc' := 22) (lv' := [(3, .int 3), (1, .int 2), (2, .ref 79), (0, .ref 50)]) (st' := [.int (lg_cmp w3 0), .int 3, .ref 79]) (μ' := W3) (by rfl) ?_
        refine zq_if hc hH (by rfl) (tg := 29) (by rfl) (fun h4 => ?_) (fun h4 => ?_)
        · have h4 : (decide ((lg_cmp w3 0) = 0)) = true := decide_eq_true (cm_eq9.mp h4)
          exact absurd (Eq.trans (Eq.symm (hb3)) h4) (by decide)
        · have h4 : (decide ((lg_cmp w3 0) = 0)) = false := decide_eq_false (cn_eq.mp h4)
          refine z_rcs hc hH 2 (pc' := 30) (lv' := [(3, .int 3), (1, .int 2), (2, .ref 79), (0, .ref 50)]) (st' := [.int 1, .int 3, .ref 79]) (μ' := W3) (by rfl) ?_
          refine zq_bast hc hH (by rfl) 4 (by decide +kernel) (show vp_in (nI 3) 4 from vp_in_nI (by decide) (by decide)) (by decide) ?_
          rw [show (3 : Int32).toNatClampNeg = 3 from rfl]
          show Z 1 31 [(3, .int 3), (1, .int 2), (2, .ref 79), (0, .ref 50)] [] (z_ui W3 79 3 1)
          refine z_rcs hc hH 3 (pc' := 34) (lv' := [(3, .int 3), (1, .int 2), (2, .ref 79), (0, .ref 50)]) (st' := [.int 3, .ref 79, .int 2]) (μ' := z_ui W3 79 3 1) (by rfl) ?_
          refine zq_bald hc hH (by rfl) 4 (by decide +kernel) (show vp_in (nI 3) 4 from vp_in_nI (by decide) (by decide)) ?_
          rw [show (3 : Int32).toNatClampNeg = 3 from rfl]
          rw [ui_s]
          refine z_rcs hc hH 21 (pc' := 68) (lv' := [(3, .int 0), (1, .int 3), (2, .ref 79), (0, .ref 50)]) (st' := [.ref 50]) (μ' := z_ui W3 79 3 1) (by rfl) ?_
          refine zq_gfr hc hH (by rfl) (ci := 6) (f := 29) (q := 61) (by rfl) (by decide +kernel) (by rfl) (by decide +kernel) ?_
          refine z_rcs hc hH 2 (pc' := 73) (lv' := [(3, .int 0), (1, .int 3), (2, .ref 79), (0, .ref 50)]) (st' := [.int 0, .ref 61, .int 0, .ref 61]) (μ' := z_ui W3 79 3 1) (by rfl) ?_
          refine zq_iald hc hH (by rfl) 4 (oka_i (by decide +kernel)) (show vp_in (nI 0) 4 from vp_in_nI (by decide) (by decide)) ?_
          rw [show (0 : Int32).toNatClampNeg = 0 from rfl]
          refine zV1 (Z := Z) (Eq.trans (ui_o (by first | decide | omega)) (Eq.trans (hO3 61 0 (by omega)).1 (Eq.trans (ui_o (by first | decide | omega)) (Eq.trans (hO2 61 0 (by omega)).1 (Eq.trans (ui_o (by first | decide | omega)) (Eq.trans (hO1 61 0 (by omega)).1 (Eq.trans (ui_o (by first | decide | omega)) (hO0 61 0 (by omega)).1))))))) ?_
          rw [z_zero_o (by decide)]
          refine z_rcs hc hH 2 (pc' := 76) (lv' := [(3, .int 0), (1, .int 3), (2, .ref 79), (0, .ref 50)]) (st' := [.int 0, .ref 79, .int (μ.1 61 0), .int 0, .ref 61]) (μ' := z_ui W3 79 3 1) (by rfl) ?_
          refine zq_bald hc hH (by rfl) 4 (by decide +kernel) (show vp_in (nI 0) 4 from vp_in_nI (by decide) (by decide)) ?_
          rw [show (0 : Int32).toNatClampNeg = 0 from rfl]
          refine zV1 (Z := Z) (Eq.trans (ui_k (by first | decide | omega)) (Eq.trans (hO3 79 0 (by omega)).1 (Eq.trans (ui_k (by first | decide | omega)) (Eq.trans (hO2 79 0 (by omega)).1 (Eq.trans (ui_k (by first | decide | omega)) (Eq.trans (hO1 79 0 (by omega)).1 (ui_s))))))) ?_
          refine z_rcs hc hH 6 (pc' := 96) (lv' := [(3, .int 0), (1, .int 3), (2, .ref 79), (0, .ref 50)]) (st' := [.int ((μ.1 61 0) + 1000), .int 0, .ref 61]) (μ' := z_ui W3 79 3 1) (by rfl) ?_
          refine zq_iast hc hH (by rfl) 4 (oka_i (by decide +kernel)).2 (show vp_in (nI 0) 4 from vp_in_nI (by decide) (by decide)) ?_
          rw [show (0 : Int32).toNatClampNeg = 0 from rfl]
          show Z 1 97 [(3, .int 0), (1, .int 3), (2, .ref 79), (0, .ref 50)] [] (z_ui (z_ui W3 79 3 1) 61 0 ((μ.1 61 0) + 1000))
          refine z_rcs0 hc hH 6 (pc' := 68) (lv' := [(3, .int 1), (1, .int 3), (2, .ref 79), (0, .ref 50)]) (st' := [.ref 50]) (by rfl) ?_
          refine zq_gfr hc hH (by rfl) (ci := 6) (f := 29) (q := 61) (by rfl) (by decide +kernel) (by rfl) (by decide +kernel) ?_
          refine z_rcs0 hc hH 2 (pc' := 73) (lv' := [(3, .int 1), (1, .int 3), (2, .ref 79), (0, .ref 50)]) (st' := [.int 1, .ref 61, .int 1, .ref 61]) (by rfl) ?_
          refine zq_iald hc hH (by rfl) 4 (oka_i (by decide +kernel)) (show vp_in (nI 1) 4 from vp_in_nI (by decide) (by decide)) ?_
          rw [show (1 : Int32).toNatClampNeg = 1 from rfl]
          refine zV1 (Z := Z) (Eq.trans (ui_k (by first | decide | omega)) (Eq.trans (ui_o (by first | decide | omega)) (Eq.trans (hO3 61 1 (by omega)).1 (Eq.trans (ui_o (by first | decide | omega)) (Eq.trans (hO2 61 1 (by omega)).1 (Eq.trans (ui_o (by first | decide | omega)) (Eq.trans (hO1 61 1 (by omega)).1 (Eq.trans (ui_o (by first | decide | omega)) (hO0 61 1 (by omega)).1)))))))) ?_
          rw [z_zero_o (by decide)]
          refine z_rcs0 hc hH 2 (pc' := 76) (lv' := [(3, .int 1), (1, .int 3), (2, .ref 79), (0, .ref 50)]) (st' := [.int 1, .ref 79, .int (μ.1 61 1), .int 1, .ref 61]) (by rfl) ?_
          refine zq_bald hc hH (by rfl) 4 (by decide +kernel) (show vp_in (nI 1) 4 from vp_in_nI (by decide) (by decide)) ?_
          rw [show (1 : Int32).toNatClampNeg = 1 from rfl]
          refine zV1 (Z := Z) (Eq.trans (ui_o (by first | decide | omega)) (Eq.trans (ui_k (by first | decide | omega)) (Eq.trans (hO3 79 1 (by omega)).1 (Eq.trans (ui_k (by first | decide | omega)) (Eq.trans (hO2 79 1 (by omega)).1 (ui_s)))))) ?_
          refine z_rcs0 hc hH 7 (pc' := 96) (lv' := [(3, .int 1), (1, .int 3), (2, .ref 79), (0, .ref 50)]) (st' := [.int ((μ.1 61 1) + (-3000)), .int 1, .ref 61]) (by rfl) ?_
          refine zq_iast hc hH (by rfl) 4 (oka_i (by decide +kernel)).2 (show vp_in (nI 1) 4 from vp_in_nI (by decide) (by decide)) ?_
          rw [show (1 : Int32).toNatClampNeg = 1 from rfl]
          show Z 1 97 [(3, .int 1), (1, .int 3), (2, .ref 79), (0, .ref 50)] [] (z_ui (z_ui (z_ui W3 79 3 1) 61 0 ((μ.1 61 0) + 1000)) 61 1 ((μ.1 61 1) + (-3000)))
          refine z_rcs0 hc hH 6 (pc' := 68) (lv' := [(3, .int 2), (1, .int 3), (2, .ref 79), (0, .ref 50)]) (st' := [.ref 50]) (by rfl) ?_
          refine zq_gfr hc hH (by rfl) (ci := 6) (f := 29) (q := 61) (by rfl) (by decide +kernel) (by rfl) (by decide +kernel) ?_
          refine z_rcs0 hc hH 2 (pc' := 73) (lv' := [(3, .int 2), (1, .int 3), (2, .ref 79), (0, .ref 50)]) (st' := [.int 2, .ref 61, .int 2, .ref 61]) (by rfl) ?_
          refine zq_iald hc hH (by rfl) 4 (oka_i (by decide +kernel)) (show vp_in (nI 2) 4 from vp_in_nI (by decide) (by decide)) ?_
          rw [show (2 : Int32).toNatClampNeg = 2 from rfl]
          refine zV1 (Z := Z) (Eq.trans (ui_k (by first | decide | omega)) (Eq.trans (ui_k (by first | decide | omega)) (Eq.trans (ui_o (by first | decide | omega)) (Eq.trans (hO3 61 2 (by omega)).1 (Eq.trans (ui_o (by first | decide | omega)) (Eq.trans (hO2 61 2 (by omega)).1 (Eq.trans (ui_o (by first | decide | omega)) (Eq.trans (hO1 61 2 (by omega)).1 (Eq.trans (ui_o (by first | decide | omega)) (hO0 61 2 (by omega)).1))))))))) ?_
          rw [z_zero_o (by decide)]
          refine z_rcs0 hc hH 2 (pc' := 76) (lv' := [(3, .int 2), (1, .int 3), (2, .ref 79), (0, .ref 50)]) (st' := [.int 2, .ref 79, .int (μ.1 61 2), .int 2, .ref 61]) (by rfl) ?_
          refine zq_bald hc hH (by rfl) 4 (by decide +kernel) (show vp_in (nI 2) 4 from vp_in_nI (by decide) (by decide)) ?_
          rw [show (2 : Int32).toNatClampNeg = 2 from rfl]
          refine zV1 (Z := Z) (Eq.trans (ui_o (by first | decide | omega)) (Eq.trans (ui_o (by first | decide | omega)) (Eq.trans (ui_k (by first | decide | omega)) (Eq.trans (hO3 79 2 (by omega)).1 (ui_s))))) ?_
          refine z_rcs0 hc hH 6 (pc' := 96) (lv' := [(3, .int 2), (1, .int 3), (2, .ref 79), (0, .ref 50)]) (st' := [.int ((μ.1 61 2) + 1000), .int 2, .ref 61]) (by rfl) ?_
          refine zq_iast hc hH (by rfl) 4 (oka_i (by decide +kernel)).2 (show vp_in (nI 2) 4 from vp_in_nI (by decide) (by decide)) ?_
          rw [show (2 : Int32).toNatClampNeg = 2 from rfl]
          show Z 1 97 [(3, .int 2), (1, .int 3), (2, .ref 79), (0, .ref 50)] [] (z_ui (z_ui (z_ui (z_ui W3 79 3 1) 61 0 ((μ.1 61 0) + 1000)) 61 1 ((μ.1 61 1) + (-3000))) 61 2 ((μ.1 61 2) + 1000))
          refine z_rcs0 hc hH 6 (pc' := 68) (lv' := [(3, .int 3), (1, .int 3), (2, .ref 79), (0, .ref 50)]) (st' := [.ref 50]) (by rfl) ?_
          refine zq_gfr hc hH (by rfl) (ci := 6) (f := 29) (q := 61) (by rfl) (by decide +kernel) (by rfl) (by decide +kernel) ?_
          refine z_rcs0 hc hH 2 (pc' := 73) (lv' := [(3, .int 3), (1, .int 3), (2, .ref 79), (0, .ref 50)]) (st' := [.int 3, .ref 61, .int 3, .ref 61]) (by rfl) ?_
          refine zq_iald hc hH (by rfl) 4 (oka_i (by decide +kernel)) (show vp_in (nI 3) 4 from vp_in_nI (by decide) (by decide)) ?_
          rw [show (3 : Int32).toNatClampNeg = 3 from rfl]
          refine zV1 (Z := Z) (Eq.trans (ui_k (by first | decide | omega)) (Eq.trans (ui_k (by first | decide | omega)) (Eq.trans (ui_k (by first | decide | omega)) (Eq.trans (ui_o (by first | decide | omega)) (Eq.trans (hO3 61 3 (by omega)).1 (Eq.trans (ui_o (by first | decide | omega)) (Eq.trans (hO2 61 3 (by omega)).1 (Eq.trans (ui_o (by first | decide | omega)) (Eq.trans (hO1 61 3 (by omega)).1 (Eq.trans (ui_o (by first | decide | omega)) (hO0 61 3 (by omega)).1)))))))))) ?_
          rw [z_zero_o (by decide)]
          refine z_rcs0 hc hH 2 (pc' := 76) (lv' := [(3, .int 3), (1, .int 3), (2, .ref 79), (0, .ref 50)]) (st' := [.int 3, .ref 79, .int (μ.1 61 3), .int 3, .ref 61]) (by rfl) ?_
          refine zq_bald hc hH (by rfl) 4 (by decide +kernel) (show vp_in (nI 3) 4 from vp_in_nI (by decide) (by decide)) ?_
          rw [show (3 : Int32).toNatClampNeg = 3 from rfl]
          refine zV1 (Z := Z) (Eq.trans (ui_o (by first | decide | omega)) (Eq.trans (ui_o (by first | decide | omega)) (Eq.trans (ui_o (by first | decide | omega)) (ui_s)))) ?_
          refine z_rcs0 hc hH 6 (pc' := 96) (lv' := [(3, .int 3), (1, .int 3), (2, .ref 79), (0, .ref 50)]) (st' := [.int ((μ.1 61 3) + 1000), .int 3, .ref 61]) (by rfl) ?_
          refine zq_iast hc hH (by rfl) 4 (oka_i (by decide +kernel)).2 (show vp_in (nI 3) 4 from vp_in_nI (by decide) (by decide)) ?_
          rw [show (3 : Int32).toNatClampNeg = 3 from rfl]
          show Z 1 97 [(3, .int 3), (1, .int 3), (2, .ref 79), (0, .ref 50)] [] (z_ui (z_ui (z_ui (z_ui (z_ui W3 79 3 1) 61 0 ((μ.1 61 0) + 1000)) 61 1 ((μ.1 61 1) + (-3000))) 61 2 ((μ.1 61 2) + 1000)) 61 3 ((μ.1 61 3) + 1000))
          refine z_rcs0 hc hH 5 (pc' := 103) (lv' := [(3, .int 4), (1, .int 3), (2, .ref 79), (0, .ref 50)]) (st' := []) (by rfl) ?_
          obtain rfl | rfl | rfl | rfl : dl = 0 ∨ dl = 1 ∨ dl = 2 ∨ dl = 3 := by omega
          · skip
            refine z_rcs0 hc hH 3 (pc' := 106) (lv' := [(3, .int 4), (1, .int 3), (2, .ref 79), (0, .ref 50)]) (st' := [.ref 50, .ref 79, .ref 50]) (by rfl) ?_
            refine zq_gfi hc hH (by rfl) (ci := 6) (f := 40) (by rfl) (by decide +kernel) (by rfl) ?_
            refine zV1 (Z := Z) (Eq.trans (ui_o (by first | decide | omega)) (Eq.trans (ui_o (by first | decide | omega)) (Eq.trans (ui_o (by first | decide | omega)) (Eq.trans (ui_o (by first | decide | omega)) (Eq.trans (ui_o (by first | decide | omega)) (Eq.trans (hO3 50 40 (by omega)).1 (Eq.trans (ui_o (by first | decide | omega)) (Eq.trans (hO2 50 40 (by omega)).1 (Eq.trans (ui_o (by first | decide | omega)) (Eq.trans (hO1 50 40 (by omega)).1 (Eq.trans (ui_o (by first | decide | omega)) (hO0 50 40 (by omega)).1))))))))))) ?_
            rw [(z_zero_o (by decide)).trans hdl]
            refine zq_bald hc hH (by rfl) 4 (by decide +kernel) (vp_in_nI (by omega) (by decide)) ?_
            rw [nI_clamp (by omega)]
            refine zV1 (Z := Z) (Eq.trans (ui_o (by first | decide | omega)) (Eq.trans (ui_o (by first | decide | omega)) (Eq.trans (ui_o (by first | decide | omega)) (Eq.trans (ui_o (by first | decide | omega)) (Eq.trans (ui_k (by first | decide | omega)) (Eq.trans (hO3 79 0 (by omega)).1 (Eq.trans (ui_k (by first | decide | omega)) (Eq.trans (hO2 79 0 (by omega)).1 (Eq.trans (ui_k (by first | decide | omega)) (Eq.trans (hO1 79 0 (by omega)).1 (ui_s))))))))))) ?_
            refine z_rcs0 hc hH 1 (pc' := 111) (lv' := [(3, .int 4), (1, .int 3), (2, .ref 79), (0, .ref 50)]) (st' := [.int 1, .int 1, .ref 50]) (by rfl) ?_
            refine zq_call hc (z_cx_ok hH (by rfl)) (gm_endsB d' (by omega) (z_ui (z_ui (z_ui (z_ui (z_ui W3 79 3 1) 61 0 ((μ.1 61 0) + 1000)) 61 1 ((μ.1 61 1) + (-3000))) 61 2 ((μ.1 61 2) + 1000)) 61 3 ((μ.1 61 3) + 1000)) true true 0 e (by rw [ui_o (by first | decide | omega), ui_o (by first | decide | omega), ui_o (by first | decide | omega), ui_o (by first | decide | omega), ui_o (by first | decide | omega), (hO3 50 40 (by omega)).1, ui_o (by first | decide | omega), (hO2 50 40 (by omega)).1, ui_o (by first | decide | omega), (hO1 50 40 (by omega)).1, ui_o (by first | decide | omega), (hO0 50 40 (by omega)).1]; exact (z_zero_o (by decide)).trans hdl) hdl4 he) (by decide +kernel) (fun r9 μ9 hq => ?_)
            obtain ⟨hr9, hm9⟩ := hq
            rw [hr9, hm9]
            clear hr9 hm9
            show Z 1 114 [(3, .int 4), (1, .int 3), (2, .ref 79), (0, .ref 50)] [] (eMB (z_ui (z_ui (z_ui (z_ui (z_ui W3 79 3 1) 61 0 ((μ.1 61 0) + 1000)) 61 1 ((μ.1 61 1) + (-3000))) 61 2 ((μ.1 61 2) + 1000)) 61 3 ((μ.1 61 3) + 1000)) true true 0 e)
            exact hr 1 114 _ _ _ none (by decide +kernel) (by rfl) (by refine ⟨rfl, ?_⟩; unfold nM1011; exact SM_eMB (SM_ui (SM_ui (SM_ui (SM_ui (SM_ui (SM_tr (SM_ui (SM_tr (SM_ui (SM_tr (SM_ui (SM_tr (SM_rf _) hO0)) hO1)) hO2)) hO3)))))))
          · skip
            refine z_rcs hc hH 3 (pc' := 106) (lv' := [(3, .int 4), (1, .int 3), (2, .ref 79), (0, .ref 50)]) (st' := [.ref 50, .ref 79, .ref 50]) (μ' := z_ui (z_ui (z_ui (z_ui (z_ui W3 79 3 1) 61 0 ((μ.1 61 0) + 1000)) 61 1 ((μ.1 61 1) + (-3000))) 61 2 ((μ.1 61 2) + 1000)) 61 3 ((μ.1 61 3) + 1000)) (by rfl) ?_
            refine zq_gfi hc hH (by rfl) (ci := 6) (f := 40) (by rfl) (by decide +kernel) (by rfl) ?_
            refine zV1 (Z := Z) (Eq.trans (ui_o (by first | decide | omega)) (Eq.trans (ui_o (by first | decide | omega)) (Eq.trans (ui_o (by first | decide | omega)) (Eq.trans (ui_o (by first | decide | omega)) (Eq.trans (ui_o (by first | decide | omega)) (Eq.trans (hO3 50 40 (by omega)).1 (Eq.trans (ui_o (by first | decide | omega)) (Eq.trans (hO2 50 40 (by omega)).1 (Eq.trans (ui_o (by first | decide | omega)) (Eq.trans (hO1 50 40 (by omega)).1 (Eq.trans (ui_o (by first | decide | omega)) (hO0 50 40 (by omega)).1))))))))))) ?_
            rw [(z_zero_o (by decide)).trans hdl]
            refine zq_bald hc hH (by rfl) 4 (by decide +kernel) (vp_in_nI (by omega) (by decide)) ?_
            rw [nI_clamp (by omega)]
            refine zV1 (Z := Z) (Eq.trans (ui_o (by first | decide | omega)) (Eq.trans (ui_o (by first | decide | omega)) (Eq.trans (ui_o (by first | decide | omega)) (Eq.trans (ui_o (by first | decide | omega)) (Eq.trans (ui_k (by first | decide | omega)) (Eq.trans (hO3 79 1 (by omega)).1 (Eq.trans (ui_k (by first | decide | omega)) (Eq.trans (hO2 79 1 (by omega)).1 (ui_s))))))))) ?_
            refine z_rcs0 hc hH 1 (pc' := 111) (lv' := [(3, .int 4), (1, .int 3), (2, .ref 79), (0, .ref 50)]) (st' := [.int 1, .int 0, .ref 50]) (by rfl) ?_
            refine zq_call hc (z_cx_ok hH (by rfl)) (gm_endsB d' (by omega) (z_ui (z_ui (z_ui (z_ui (z_ui W3 79 3 1) 61 0 ((μ.1 61 0) + 1000)) 61 1 ((μ.1 61 1) + (-3000))) 61 2 ((μ.1 61 2) + 1000)) 61 3 ((μ.1 61 3) + 1000)) false true 1 e (by rw [ui_o (by first | decide | omega), ui_o (by first | decide | omega), ui_o (by first | decide | omega), ui_o (by first | decide | omega), ui_o (by first | decide | omega), (hO3 50 40 (by omega)).1, ui_o (by first | decide | omega), (hO2 50 40 (by omega)).1, ui_o (by first | decide | omega), (hO1 50 40 (by omega)).1, ui_o (by first | decide | omega), (hO0 50 40 (by omega)).1]; exact (z_zero_o (by decide)).trans hdl) hdl4 he) (by decide +kernel) (fun r9 μ9 hq => ?_)
            obtain ⟨hr9, hm9⟩ := hq
            rw [hr9, hm9]
            clear hr9 hm9
            show Z 1 114 [(3, .int 4), (1, .int 3), (2, .ref 79), (0, .ref 50)] [] (eMB (z_ui (z_ui (z_ui (z_ui (z_ui W3 79 3 1) 61 0 ((μ.1 61 0) + 1000)) 61 1 ((μ.1 61 1) + (-3000))) 61 2 ((μ.1 61 2) + 1000)) 61 3 ((μ.1 61 3) + 1000)) false true 1 e)
            exact hr 1 114 _ _ _ none (by decide +kernel) (by rfl) (by refine ⟨rfl, ?_⟩; unfold nM1011; exact SM_eMB (SM_ui (SM_ui (SM_ui (SM_ui (SM_ui (SM_tr (SM_ui (SM_tr (SM_ui (SM_tr (SM_ui (SM_tr (SM_rf _) hO0)) hO1)) hO2)) hO3)))))))
          · skip
            refine z_rcs hc hH 3 (pc' := 106) (lv' := [(3, .int 4), (1, .int 3), (2, .ref 79), (0, .ref 50)]) (st' := [.ref 50, .ref 79, .ref 50]) (μ' := z_ui (z_ui (z_ui (z_ui (z_ui W3 79 3 1) 61 0 ((μ.1 61 0) + 1000)) 61 1 ((μ.1 61 1) + (-3000))) 61 2 ((μ.1 61 2) + 1000)) 61 3 ((μ.1 61 3) + 1000)) (by rfl) ?_
            refine zq_gfi hc hH (by rfl) (ci := 6) (f := 40) (by rfl) (by decide +kernel) (by rfl) ?_
            refine zV1 (Z := Z) (Eq.trans (ui_o (by first | decide | omega)) (Eq.trans (ui_o (by first | decide | omega)) (Eq.trans (ui_o (by first | decide | omega)) (Eq.trans (ui_o (by first | decide | omega)) (Eq.trans (ui_o (by first | decide | omega)) (Eq.trans (hO3 50 40 (by omega)).1 (Eq.trans (ui_o (by first | decide | omega)) (Eq.trans (hO2 50 40 (by omega)).1 (Eq.trans (ui_o (by first | decide | omega)) (Eq.trans (hO1 50 40 (by omega)).1 (Eq.trans (ui_o (by first | decide | omega)) (hO0 50 40 (by omega)).1))))))))))) ?_
            rw [(z_zero_o (by decide)).trans hdl]
            refine zq_bald hc hH (by rfl) 4 (by decide +kernel) (vp_in_nI (by omega) (by decide)) ?_
            rw [nI_clamp (by omega)]
            refine zV1 (Z := Z) (Eq.trans (ui_o (by first | decide | omega)) (Eq.trans (ui_o (by first | decide | omega)) (Eq.trans (ui_o (by first | decide | omega)) (Eq.trans (ui_o (by first | decide | omega)) (Eq.trans (ui_k (by first | decide | omega)) (Eq.trans (hO3 79 2 (by omega)).1 (ui_s))))))) ?_
            refine z_rcs0 hc hH 1 (pc' := 111) (lv' := [(3, .int 4), (1, .int 3), (2, .ref 79), (0, .ref 50)]) (st' := [.int 1, .int 1, .ref 50]) (by rfl) ?_
            refine zq_call hc (z_cx_ok hH (by rfl)) (gm_endsB d' (by omega) (z_ui (z_ui (z_ui (z_ui (z_ui W3 79 3 1) 61 0 ((μ.1 61 0) + 1000)) 61 1 ((μ.1 61 1) + (-3000))) 61 2 ((μ.1 61 2) + 1000)) 61 3 ((μ.1 61 3) + 1000)) true true 2 e (by rw [ui_o (by first | decide | omega), ui_o (by first | decide | omega), ui_o (by first | decide | omega), ui_o (by first | decide | omega), ui_o (by first | decide | omega), (hO3 50 40 (by omega)).1, ui_o (by first | decide | omega), (hO2 50 40 (by omega)).1, ui_o (by first | decide | omega), (hO1 50 40 (by omega)).1, ui_o (by first | decide | omega), (hO0 50 40 (by omega)).1]; exact (z_zero_o (by decide)).trans hdl) hdl4 he) (by decide +kernel) (fun r9 μ9 hq => ?_)
            obtain ⟨hr9, hm9⟩ := hq
            rw [hr9, hm9]
            clear hr9 hm9
            show Z 1 114 [(3, .int 4), (1, .int 3), (2, .ref 79), (0, .ref 50)] [] (eMB (z_ui (z_ui (z_ui (z_ui (z_ui W3 79 3 1) 61 0 ((μ.1 61 0) + 1000)) 61 1 ((μ.1 61 1) + (-3000))) 61 2 ((μ.1 61 2) + 1000)) 61 3 ((μ.1 61 3) + 1000)) true true 2 e)
            exact hr 1 114 _ _ _ none (by decide +kernel) (by rfl) (by refine ⟨rfl, ?_⟩; unfold nM1011; exact SM_eMB (SM_ui (SM_ui (SM_ui (SM_ui (SM_ui (SM_tr (SM_ui (SM_tr (SM_ui (SM_tr (SM_ui (SM_tr (SM_rf _) hO0)) hO1)) hO2)) hO3)))))))
          · skip
            refine z_rcs hc hH 3 (pc' := 106) (lv' := [(3, .int 4), (1, .int 3), (2, .ref 79), (0, .ref 50)]) (st' := [.ref 50, .ref 79, .ref 50]) (μ' := z_ui (z_ui (z_ui (z_ui (z_ui W3 79 3 1) 61 0 ((μ.1 61 0) + 1000)) 61 1 ((μ.1 61 1) + (-3000))) 61 2 ((μ.1 61 2) + 1000)) 61 3 ((μ.1 61 3) + 1000)) (by rfl) ?_
            refine zq_gfi hc hH (by rfl) (ci := 6) (f := 40) (by rfl) (by decide +kernel) (by rfl) ?_
            refine zV1 (Z := Z) (Eq.trans (ui_o (by first | decide | omega)) (Eq.trans (ui_o (by first | decide | omega)) (Eq.trans (ui_o (by first | decide | omega)) (Eq.trans (ui_o (by first | decide | omega)) (Eq.trans (ui_o (by first | decide | omega)) (Eq.trans (hO3 50 40 (by omega)).1 (Eq.trans (ui_o (by first | decide | omega)) (Eq.trans (hO2 50 40 (by omega)).1 (Eq.trans (ui_o (by first | decide | omega)) (Eq.trans (hO1 50 40 (by omega)).1 (Eq.trans (ui_o (by first | decide | omega)) (hO0 50 40 (by omega)).1))))))))))) ?_
            rw [(z_zero_o (by decide)).trans hdl]
            refine zq_bald hc hH (by rfl) 4 (by decide +kernel) (vp_in_nI (by omega) (by decide)) ?_
            rw [nI_clamp (by omega)]
            refine zV1 (Z := Z) (Eq.trans (ui_o (by first | decide | omega)) (Eq.trans (ui_o (by first | decide | omega)) (Eq.trans (ui_o (by first | decide | omega)) (Eq.trans (ui_o (by first | decide | omega)) (ui_s))))) ?_
            refine z_rcs0 hc hH 1 (pc' := 111) (lv' := [(3, .int 4), (1, .int 3), (2, .ref 79), (0, .ref 50)]) (st' := [.int 1, .int 1, .ref 50]) (by rfl) ?_
            refine zq_call hc (z_cx_ok hH (by rfl)) (gm_endsB d' (by omega) (z_ui (z_ui (z_ui (z_ui (z_ui W3 79 3 1) 61 0 ((μ.1 61 0) + 1000)) 61 1 ((μ.1 61 1) + (-3000))) 61 2 ((μ.1 61 2) + 1000)) 61 3 ((μ.1 61 3) + 1000)) true true 3 e (by rw [ui_o (by first | decide | omega), ui_o (by first | decide | omega), ui_o (by first | decide | omega), ui_o (by first | decide | omega), ui_o (by first | decide | omega), (hO3 50 40 (by omega)).1, ui_o (by first | decide | omega), (hO2 50 40 (by omega)).1, ui_o (by first | decide | omega), (hO1 50 40 (by omega)).1, ui_o (by first | decide | omega), (hO0 50 40 (by omega)).1]; exact (z_zero_o (by decide)).trans hdl) hdl4 he) (by decide +kernel) (fun r9 μ9 hq => ?_)
            obtain ⟨hr9, hm9⟩ := hq
            rw [hr9, hm9]
            clear hr9 hm9
            show Z 1 114 [(3, .int 4), (1, .int 3), (2, .ref 79), (0, .ref 50)] [] (eMB (z_ui (z_ui (z_ui (z_ui (z_ui W3 79 3 1) 61 0 ((μ.1 61 0) + 1000)) 61 1 ((μ.1 61 1) + (-3000))) 61 2 ((μ.1 61 2) + 1000)) 61 3 ((μ.1 61 3) + 1000)) true true 3 e)
            exact hr 1 114 _ _ _ none (by decide +kernel) (by rfl) (by refine ⟨rfl, ?_⟩; unfold nM1011; exact SM_eMB (SM_ui (SM_ui (SM_ui (SM_ui (SM_ui (SM_tr (SM_ui (SM_tr (SM_ui (SM_tr (SM_ui (SM_tr (SM_rf _) hO0)) hO1)) hO2)) hO3)))))))
    · have h2 : (decide ((lg_cmp w1 0) = 0)) = false := decide_eq_false (cn_eq.mp h2)
      exact absurd (Eq.trans (Eq.symm (hb1)) h2) (by decide)
noncomputable def nM1100 (μ : zM) : zM := z_ui (z_ui (z_ui (z_ui (z_ui (z_ui (z_ui (z_ui (z_zero μ) 79 0 1) 79 1 1) 79 2 0) 79 3 0) 61 0 ((μ.1 61 0) + 1500)) 61 1 ((μ.1 61 1) + 1500)) 61 2 ((μ.1 61 2) + (-1500))) 61 3 ((μ.1 61 3) + (-1500))
theorem gm_nobody1100 (d : Nat) (hd : 700 ≤ d) (μ : zM) (hH0 : a_H μ) (dl e : Nat) (hdl : μ.1 50 40 = nI dl) (hdl4 : dl < 4) (he : (dl + 1) % 4 = e) (w0 : Int64) (hw0 : ∀ M, SE μ M → a_H M → ∀ d, 699 ≤ d → z_C d mi_X7_waitsAt [.ref 50, .int 0] M (fun r W => r = some (.long w0) ∧ SMj M W ∧ a_H W)) (hb0 : decide (lg_cmp w0 0 = 0) = false) (w1 : Int64) (hw1 : ∀ M, SE μ M → a_H M → ∀ d, 699 ≤ d → z_C d mi_X7_waitsAt [.ref 50, .int 1] M (fun r W => r = some (.long w1) ∧ SMj M W ∧ a_H W)) (hb1 : decide (lg_cmp w1 0 = 0) = false) (w2 : Int64) (hw2 : ∀ M, SE μ M → a_H M → ∀ d, 699 ≤ d → z_C d mi_X7_waitsAt [.ref 50, .int 2] M (fun r W => r = some (.long w2) ∧ SMj M W ∧ a_H W)) (hb2 : decide (lg_cmp w2 0 = 0) = true) (w3 : Int64) (hw3 : ∀ M, SE μ M → a_H M → ∀ d, 699 ≤ d → z_C d mi_X7_waitsAt [.ref 50, .int 3] M (fun r W => r = some (.long w3) ∧ SMj M W ∧ a_H W)) (hb3 : decide (lg_cmp w3 0 = 0) = true) : z_C d mi_X7_nobodyWins [.ref 50] μ (fun r μ' => r = none ∧ SMj (eMB (nM1100 μ) (nbS true true false false dl) true dl e) μ') := by
  obtain ⟨d', rfl⟩ : ∃ d', d = d' + 1 := ⟨d - 1, by omega⟩
  intro Z hc hr
  refine ⟨rfl, ?_⟩
  have hH := zh_X7_nobodyWins
  refine z_rcs hc hH 9 (pc' := 17) (lv' := [(3, .int 0), (2, .ref 79), (1, .int 0), (0, .ref 50)]) (st' := [.int 0, .ref 50, .int 0, .ref 79]) (μ' := z_zero μ) (by rfl) ?_
  refine zq_call hc (z_cx_ok hH (by rfl)) (hw0 _ (SE_zr _) (a_H_zero hH0) d' (by omega)) (by decide +kernel) (fun r9 W0 hq => ?_)
  obtain ⟨rfl, hO0, hA0⟩ := hq
  show Z 1 20 [(3, .int 0), (2, .ref 79), (1, .int 0), (0, .ref 50)] [.long w0, .int 0, .ref 79] W0
  refine z_rcs hc hH 2 (pc' := 22) (lv' := [(3, .int 0), (2, .ref 79), (1, .int 0), (0, .ref 50)]) (st' := [.int (lg_cmp w0 0), .int 0, .ref 79]) (μ' := W0) (by rfl) ?_
  refine zq_if hc hH (by rfl) (tg := 29) (by rfl) (fun h1 => ?_) (fun h1 => ?_)
  · have h1 : (decide ((lg_cmp w0 0) = 0)) = true := decide_eq_true (cm_eq9.mp h1)
    exact absurd (Eq.trans (Eq.symm (hb0)) h1) (by decide)
  · have h1 : (decide ((lg_cmp w0 0) = 0)) = false := decide_eq_false (cn_eq.mp h1)
    refine z_rcs hc hH 2 (pc' := 30) (lv' := [(3, .int 0), (2, .ref 79), (1, .int 0), (0, .ref 50)]) (st' := [.int 1, .int 0, .ref 79]) (μ' := W0) (by rfl) ?_
    refine zq_bast hc hH (by rfl) 4 (by decide +kernel) (show vp_in (nI 0) 4 from vp_in_nI (by decide) (by decide)) (by decide) ?_
    rw [show (0 : Int32).toNatClampNeg = 0 from rfl]
    show Z 1 31 [(3, .int 0), (2, .ref 79), (1, .int 0), (0, .ref 50)] [] (z_ui W0 79 0 1)
    refine z_rcs hc hH 3 (pc' := 34) (lv' := [(3, .int 0), (2, .ref 79), (1, .int 0), (0, .ref 50)]) (st' := [.int 0, .ref 79, .int 0]) (μ' := z_ui W0 79 0 1) (by rfl) ?_
    refine zq_bald hc hH (by rfl) 4 (by decide +kernel) (show vp_in (nI 0) 4 from vp_in_nI (by decide) (by decide)) ?_
    rw [show (0 : Int32).toNatClampNeg = 0 from rfl]
    rw [ui_s]
    refine z_rcs hc hH 14 (pc' := 17) (lv' := [(3, .int 1), (1, .int 1), (2, .ref 79), (0, .ref 50)]) (st' := [.int 1, .ref 50, .int 1, .ref 79]) (μ' := z_ui W0 79 0 1) (by rfl) ?_
    refine zq_call hc (z_cx_ok hH (by rfl)) (hw1 _ (SE_ui (SE_sm (SE_zr _) hO0) (by omega)) (a_H_ui (r := 79) (k := 0) (hA0) ⟨by decide, by decide⟩) d' (by omega)) (by decide +kernel) (fun r9 W1 hq => ?_)
    obtain ⟨rfl, hO1, hA1⟩ := hq
    show Z 1 20 [(3, .int 1), (1, .int 1), (2, .ref 79), (0, .ref 50)] [.long w1, .int 1, .ref 79] W1
    refine z_rcs hc hH 2 (pc' := 22) (lv' := [(3, .int 1), (1, .int 1), (2, .ref 79), (0, .ref 50)]) (st' := [.int (lg_cmp w1 0), .int 1, .ref 79]) (μ' := W1) (by rfl) ?_
    refine zq_if hc hH (by rfl) (tg := 29) (by rfl) (fun h2 => ?_) (fun h2 => ?_)
    · have h2 : (decide ((lg_cmp w1 0) = 0)) = true := decide_eq_true (cm_eq9.mp h2)
      exact absurd (Eq.trans (Eq.symm (hb1)) h2) (by decide)
    · have h2 : (decide ((lg_cmp w1 0) = 0)) = false := decide_eq_false (cn_eq.mp h2)
      refine z_rcs hc hH 2 (pc' := 30) (lv' := [(3, .int 1), (1, .int 1), (2, .ref 79), (0, .ref 50)]) (st' := [.int 1, .int 1, .ref 79]) (μ' := W1) (by rfl) ?_
      refine zq_bast hc hH (by rfl) 4 (by decide +kernel) (show vp_in (nI 1) 4 from vp_in_nI (by decide) (by decide)) (by decide) ?_
      rw [show (1 : Int32).toNatClampNeg = 1 from rfl]
      show Z 1 31 [(3, .int 1), (1, .int 1), (2, .ref 79), (0, .ref 50)] [] (z_ui W1 79 1 1)
      refine z_rcs hc hH 3 (pc' := 34) (lv' := [(3, .int 1), (1, .int 1), (2, .ref 79), (0, .ref 50)]) (st' := [.int 1, .ref 79, .int 1]) (μ' := z_ui W1 79 1 1) (by rfl) ?_
      refine zq_bald hc hH (by rfl) 4 (by decide +kernel) (show vp_in (nI 1) 4 from vp_in_nI (by decide) (by decide)) ?_
      rw [show (1 : Int32).toNatClampNeg = 1 from rfl]
      rw [ui_s]
      refine z_rcs hc hH 14 (pc' := 17) (lv' := [(3, .int 2), (1, .int 2), (2, .ref 79), (0, .ref 50)]) (st' := [.int 2, .ref 50, .int 2, .ref 79]) (μ' := z_ui W1 79 1 1) (by rfl) ?_
      refine zq_call hc (z_cx_ok hH (by rfl)) (hw2 _ (SE_ui (SE_sm (SE_ui (SE_sm (SE_zr _) hO0) (by omega)) hO1) (by omega)) (a_H_ui (r := 79) (k := 1) (hA1) ⟨by decide, by decide⟩) d' (by omega)) (by decide +kernel) (fun r9 W2 hq => ?_)
      obtain ⟨rfl, hO2, hA2⟩ := hq
      show Z 1 20 [(3, .int 2), (1, .int 2), (2, .ref 79), (0, .ref 50)] [.long w2, .int 2, .ref 79] W2
      refine z_rcs hc hH 2 (pc' := 22) (lv' := [(3, .int 2), (1, .int 2), (2, .ref 79), (0, .ref 50)]) (st' := [.int (lg_cmp w2 0), .int 2, .ref 79]) (μ' := W2) (by rfl) ?_
      refine zq_if hc hH (by rfl) (tg := 29) (by rfl) (fun h3 => ?_) (fun h3 => ?_)
      · have h3 : (decide ((lg_cmp w2 0) = 0)) = true := decide_eq_true (cm_eq9.mp h3)
        refine z_rcs hc hH 1 (pc' := 30) (lv' := [(3, .int 2), (1, .int 2), (2, .ref 79), (0, .ref 50)]) (st' := [.int 0, .int 2, .ref 79]) (μ' := W2) (by rfl) ?_
        refine zq_bast hc hH (by rfl) 4 (by decide +kernel) (show vp_in (nI 2) 4 from vp_in_nI (by decide) (by decide)) (by decide) ?_
        rw [show (2 : Int32).toNatClampNeg = 2 from rfl]
        show Z 1 31 [(3, .int 2), (1, .int 2), (2, .ref 79), (0, .ref 50)] [] (z_ui W2 79 2 0)
        refine z_rcs hc hH 3 (pc' := 34) (lv' := [(3, .int 2), (1, .int 2), (2, .ref 79), (0, .ref 50)]) (st' := [.int 2, .ref 79, .int 2]) (μ' := z_ui W2 79 2 0) (by rfl) ?_
        refine zq_bald hc hH (by rfl) 4 (by decide +kernel) (show vp_in (nI 2) 4 from vp_in_nI (by decide) (by decide)) ?_
        rw [show (2 : Int32).toNatClampNeg = 2 from rfl]
        rw [ui_s]
        refine z_rcs hc hH 13 (pc' := 17) (lv' := [(3, .int 3), (1, .int 2), (2, .ref 79), (0, .ref 50)]) (st' := [.int 3, .ref 50, .int 3, .ref 79]) (μ' := z_ui W2 79 2 0) (by rfl) ?_
        refine zq_call hc (z_cx_ok hH (by rfl)) (hw3 _ (SE_ui (SE_sm (SE_ui (SE_sm (SE_ui (SE_sm (SE_zr _) hO0) (by omega)) hO1) (by omega)) hO2) (by omega)) (a_H_ui (r := 79) (k := 2) (hA2) ⟨by decide, by decide⟩) d' (by omega)) (by decide +kernel) (fun r9 W3 hq => ?_)
        obtain ⟨rfl, hO3, hA3⟩ := hq
        show Z 1 20 [(3, .int 3), (1, .int 2), (2, .ref 79), (0, .ref 50)] [.long w3, .int 3, .ref 79] W3
        refine z_rcs hc hH 2 (pc' := 22) (lv' := [(3, .int 3), (1, .int 2), (2, .ref 79), (0, .ref 50)]) (st' := [.int (lg_cmp w3 0), .int 3, .ref 79]) (μ' := W3) (by rfl) ?_
        refine zq_if hc hH (by rfl) (tg := 29) (by rfl) (fun h4 => ?_) (fun h4 => ?_)
        · have h4 : (decide ((lg_cmp w3 0) = 0)) = true := decide_eq_true (cm_eq9.mp h4)
          refine z_rcs hc hH 1 (pc' := 30) (lv' := [(3, .int 3), (1, .int 2), (2, .ref 79), (0, .ref 50)]) (st' := [.int 0, .int 3, .ref 79]) (μ' := W3) (by rfl) ?_
          refine zq_bast hc hH (by rfl) 4 (by decide +kernel) (show vp_in (nI 3) 4 from vp_in_nI (by decide) (by decide)) (by decide) ?_
          rw [show (3 : Int32).toNatClampNeg = 3 from rfl]
          show Z 1 31 [(3, .int 3), (1, .int 2), (2, .ref 79), (0, .ref 50)] [] (z_ui W3 79 3 0)
          refine z_rcs hc hH 3 (pc' := 34) (lv' := [(3, .int 3), (1, .int 2), (2, .ref 79), (0, .ref 50)]) (st' := [.int 3, .ref 79, .int 2]) (μ' := z_ui W3 79 3 0) (by rfl) ?_
          refine zq_bald hc hH (by rfl) 4 (by decide +kernel) (show vp_in (nI 3) 4 from vp_in_nI (by decide) (by decide)) ?_
          rw [show (3 : Int32).toNatClampNeg = 3 from rfl]
          rw [ui_s]
          refine z_rcs hc hH 20 (pc' := 68) (lv' := [(3, .int 0), (1, .int 2), (2, .ref 79), (0, .ref 50)]) (st' := [.ref 50]) (μ' := z_ui W3 79 3 0) (by rfl) ?_
          refine zq_gfr hc hH (by rfl) (ci := 6) (f := 29) (q := 61) (by rfl) (by decide +kernel) (by rfl) (by decide +kernel) ?_
          refine z_rcs hc hH 2 (pc' := 73) (lv' := [(3, .int 0), (1, .int 2), (2, .ref 79), (0, .ref 50)]) (st' := [.int 0, .ref 61, .int 0, .ref 61]) (μ' := z_ui W3 79 3 0) (by rfl) ?_
          refine zq_iald hc hH (by rfl) 4 (oka_i (by decide +kernel)) (show vp_in (nI 0) 4 from vp_in_nI (by decide) (by decide)) ?_
          rw [show (0 : Int32).toNatClampNeg = 0 from rfl]
          refine zV1 (Z := Z) (Eq.trans (ui_o (by first | decide | omega)) (Eq.trans (hO3 61 0 (by omega)).1 (Eq.trans (ui_o (by first | decide | omega)) (Eq.trans (hO2 61 0 (by omega)).1 (Eq.trans (ui_o (by first | decide | omega)) (Eq.trans (hO1 61 0 (by omega)).1 (Eq.trans (ui_o (by first | decide | omega)) (hO0 61 0 (by omega)).1))))))) ?_
          rw [z_zero_o (by decide)]
          refine z_rcs hc hH 2 (pc' := 76) (lv' := [(3, .int 0), (1, .int 2), (2, .ref 79), (0, .ref 50)]) (st' := [.int 0, .ref 79, .int (μ.1 61 0), .int 0, .ref 61]) (μ' := z_ui W3 79 3 0) (by rfl) ?_
          refine zq_bald hc hH (by rfl) 4 (by decide +kernel) (show vp_in (nI 0) 4 from vp_in_nI (by decide) (by decide)) ?_
          rw [show (0 : Int32).toNatClampNeg = 0 from rfl]
          refine zV1 (Z := Z) (Eq.trans (ui_k (by first | decide | omega)) (Eq.trans (hO3 79 0 (by omega)).1 (Eq.trans (ui_k (by first | decide | omega)) (Eq.trans (hO2 79 0 (by omega)).1 (Eq.trans (ui_k (by first | decide | omega)) (Eq.trans (hO1 79 0 (by omega)).1 (ui_s))))))) ?_
          refine z_rcs hc hH 6 (pc' := 96) (lv' := [(3, .int 0), (1, .int 2), (2, .ref 79), (0, .ref 50)]) (st' := [.int ((μ.1 61 0) + 1500), .int 0, .ref 61]) (μ' := z_ui W3 79 3 0) (by rfl) ?_
          refine zq_iast hc hH (by rfl) 4 (oka_i (by decide +kernel)).2 (show vp_in (nI 0) 4 from vp_in_nI (by decide) (by decide)) ?_
          rw [show (0 : Int32).toNatClampNeg = 0 from rfl]
          show Z 1 97 [(3, .int 0), (1, .int 2), (2, .ref 79), (0, .ref 50)] [] (z_ui (z_ui W3 79 3 0) 61 0 ((μ.1 61 0) + 1500))
          refine z_rcs0 hc hH 6 (pc' := 68) (lv' := [(3, .int 1), (1, .int 2), (2, .ref 79), (0, .ref 50)]) (st' := [.ref 50]) (by rfl) ?_
          refine zq_gfr hc hH (by rfl) (ci := 6) (f := 29) (q := 61) (by rfl) (by decide +kernel) (by rfl) (by decide +kernel) ?_
          refine z_rcs0 hc hH 2 (pc' := 73) (lv' := [(3, .int 1), (1, .int 2), (2, .ref 79), (0, .ref 50)]) (st' := [.int 1, .ref 61, .int 1, .ref 61]) (by rfl) ?_
          refine zq_iald hc hH (by rfl) 4 (oka_i (by decide +kernel)) (show vp_in (nI 1) 4 from vp_in_nI (by decide) (by decide)) ?_
          rw [show (1 : Int32).toNatClampNeg = 1 from rfl]
          refine zV1 (Z := Z) (Eq.trans (ui_k (by first | decide | omega)) (Eq.trans (ui_o (by first | decide | omega)) (Eq.trans (hO3 61 1 (by omega)).1 (Eq.trans (ui_o (by first | decide | omega)) (Eq.trans (hO2 61 1 (by omega)).1 (Eq.trans (ui_o (by first | decide | omega)) (Eq.trans (hO1 61 1 (by omega)).1 (Eq.trans (ui_o (by first | decide | omega)) (hO0 61 1 (by omega)).1)))))))) ?_
          rw [z_zero_o (by decide)]
          refine z_rcs0 hc hH 2 (pc' := 76) (lv' := [(3, .int 1), (1, .int 2), (2, .ref 79), (0, .ref 50)]) (st' := [.int 1, .ref 79, .int (μ.1 61 1), .int 1, .ref 61]) (by rfl) ?_
          refine zq_bald hc hH (by rfl) 4 (by decide +kernel) (show vp_in (nI 1) 4 from vp_in_nI (by decide) (by decide)) ?_
          rw [show (1 : Int32).toNatClampNeg = 1 from rfl]
          refine zV1 (Z := Z) (Eq.trans (ui_o (by first | decide | omega)) (Eq.trans (ui_k (by first | decide | omega)) (Eq.trans (hO3 79 1 (by omega)).1 (Eq.trans (ui_k (by first | decide | omega)) (Eq.trans (hO2 79 1 (by omega)).1 (ui_s)))))) ?_
          refine z_rcs0 hc hH 6 (pc' := 96) (lv' := [(3, .int 1), (1, .int 2), (2, .ref 79), (0, .ref 50)]) (st' := [.int ((μ.1 61 1) + 1500), .int 1, .ref 61]) (by rfl) ?_
          refine zq_iast hc hH (by rfl) 4 (oka_i (by decide +kernel)).2 (show vp_in (nI 1) 4 from vp_in_nI (by decide) (by decide)) ?_
          rw [show (1 : Int32).toNatClampNeg = 1 from rfl]
          show Z 1 97 [(3, .int 1), (1, .int 2), (2, .ref 79), (0, .ref 50)] [] (z_ui (z_ui (z_ui W3 79 3 0) 61 0 ((μ.1 61 0) + 1500)) 61 1 ((μ.1 61 1) + 1500))
          refine z_rcs0 hc hH 6 (pc' := 68) (lv' := [(3, .int 2), (1, .int 2), (2, .ref 79), (0, .ref 50)]) (st' := [.ref 50]) (by rfl) ?_
          refine zq_gfr hc hH (by rfl) (ci := 6) (f := 29) (q := 61) (by rfl) (by decide +kernel) (by rfl) (by decide +kernel) ?_
          refine z_rcs0 hc hH 2 (pc' := 73) (lv' := [(3, .int 2), (1, .int 2), (2, .ref 79), (0, .ref 50)]) (st' := [.int 2, .ref 61, .int 2, .ref 61]) (by rfl) ?_
          refine zq_iald hc hH (by rfl) 4 (oka_i (by decide +kernel)) (show vp_in (nI 2) 4 from vp_in_nI (by decide) (by decide)) ?_
          rw [show (2 : Int32).toNatClampNeg = 2 from rfl]
          refine zV1 (Z := Z) (Eq.trans (ui_k (by first | decide | omega)) (Eq.trans (ui_k (by first | decide | omega)) (Eq.trans (ui_o (by first | decide | omega)) (Eq.trans (hO3 61 2 (by omega)).1 (Eq.trans (ui_o (by first | decide | omega)) (Eq.trans (hO2 61 2 (by omega)).1 (Eq.trans (ui_o (by first | decide | omega)) (Eq.trans (hO1 61 2 (by omega)).1 (Eq.trans (ui_o (by first | decide | omega)) (hO0 61 2 (by omega)).1))))))))) ?_
          rw [z_zero_o (by decide)]
          refine z_rcs0 hc hH 2 (pc' := 76) (lv' := [(3, .int 2), (1, .int 2), (2, .ref 79), (0, .ref 50)]) (st' := [.int 2, .ref 79, .int (μ.1 61 2), .int 2, .ref 61]) (by rfl) ?_
          refine zq_bald hc hH (by rfl) 4 (by decide +kernel) (show vp_in (nI 2) 4 from vp_in_nI (by decide) (by decide)) ?_
          rw [show (2 : Int32).toNatClampNeg = 2 from rfl]
          refine zV1 (Z := Z) (Eq.trans (ui_o (by first | decide | omega)) (Eq.trans (ui_o (by first | decide | omega)) (Eq.trans (ui_k (by first | decide | omega)) (Eq.trans (hO3 79 2 (by omega)).1 (ui_s))))) ?_
          refine z_rcs0 hc hH 7 (pc' := 96) (lv' := [(3, .int 2), (1, .int 2), (2, .ref 79), (0, .ref 50)]) (st' := [.int ((μ.1 61 2) + (-1500)), .int 2, .ref 61]) (by rfl) ?_
          refine zq_iast hc hH (by rfl) 4 (oka_i (by decide +kernel)).2 (show vp_in (nI 2) 4 from vp_in_nI (by decide) (by decide)) ?_
          rw [show (2 : Int32).toNatClampNeg = 2 from rfl]
          show Z 1 97 [(3, .int 2), (1, .int 2), (2, .ref 79), (0, .ref 50)] [] (z_ui (z_ui (z_ui (z_ui W3 79 3 0) 61 0 ((μ.1 61 0) + 1500)) 61 1 ((μ.1 61 1) + 1500)) 61 2 ((μ.1 61 2) + (-1500)))
          refine z_rcs0 hc hH 6 (pc' := 68) (lv' := [(3, .int 3), (1, .int 2), (2, .ref 79), (0, .ref 50)]) (st' := [.ref 50]) (by rfl) ?_
          refine zq_gfr hc hH (by rfl) (ci := 6) (f := 29) (q := 61) (by rfl) (by decide +kernel) (by rfl) (by decide +kernel) ?_
          refine z_rcs0 hc hH 2 (pc' := 73) (lv' := [(3, .int 3), (1, .int 2), (2, .ref 79), (0, .ref 50)]) (st' := [.int 3, .ref 61, .int 3, .ref 61]) (by rfl) ?_
          refine zq_iald hc hH (by rfl) 4 (oka_i (by decide +kernel)) (show vp_in (nI 3) 4 from vp_in_nI (by decide) (by decide)) ?_
          rw [show (3 : Int32).toNatClampNeg = 3 from rfl]
          refine zV1 (Z := Z) (Eq.trans (ui_k (by first | decide | omega)) (Eq.trans (ui_k (by first | decide | omega)) (Eq.trans (ui_k (by first | decide | omega)) (Eq.trans (ui_o (by first | decide | omega)) (Eq.trans (hO3 61 3 (by omega)).1 (Eq.trans (ui_o (by first | decide | omega)) (Eq.trans (hO2 61 3 (by omega)).1 (Eq.trans (ui_o (by first | decide | omega)) (Eq.trans (hO1 61 3 (by omega)).1 (Eq.trans (ui_o (by first | decide | omega)) (hO0 61 3 (by omega)).1)))))))))) ?_
          rw [z_zero_o (by decide)]
          refine z_rcs0 hc hH 2 (pc' := 76) (lv' := [(3, .int 3), (1, .int 2), (2, .ref 79), (0, .ref 50)]) (st' := [.int 3, .ref 79, .int (μ.1 61 3), .int 3, .ref 61]) (by rfl) ?_
          refine zq_bald hc hH (by rfl) 4 (by decide +kernel) (show vp_in (nI 3) 4 from vp_in_nI (by decide) (by decide)) ?_
          rw [show (3 : Int32).toNatClampNeg = 3 from rfl]
          refine zV1 (Z := Z) (Eq.trans (ui_o (by first | decide | omega)) (Eq.trans (ui_o (by first | decide | omega)) (Eq.trans (ui_o (by first | decide | omega)) (ui_s)))) ?_
          refine z_rcs0 hc hH 7 (pc' := 96) (lv' := [(3, .int 3), (1, .int 2), (2, .ref 79), (0, .ref 50)]) (st' := [.int ((μ.1 61 3) + (-1500)), .int 3, .ref 61]) (by rfl) ?_
          refine zq_iast hc hH (by rfl) 4 (oka_i (by decide +kernel)).2 (show vp_in (nI 3) 4 from vp_in_nI (by decide) (by decide)) ?_
          rw [show (3 : Int32).toNatClampNeg = 3 from rfl]
          show Z 1 97 [(3, .int 3), (1, .int 2), (2, .ref 79), (0, .ref 50)] [] (z_ui (z_ui (z_ui (z_ui (z_ui W3 79 3 0) 61 0 ((μ.1 61 0) + 1500)) 61 1 ((μ.1 61 1) + 1500)) 61 2 ((μ.1 61 2) + (-1500))) 61 3 ((μ.1 61 3) + (-1500)))
          refine z_rcs0 hc hH 5 (pc' := 103) (lv' := [(3, .int 4), (1, .int 2), (2, .ref 79), (0, .ref 50)]) (st' := []) (by rfl) ?_
          obtain rfl | rfl | rfl | rfl : dl = 0 ∨ dl = 1 ∨ dl = 2 ∨ dl = 3 := by omega
          · skip
            refine z_rcs0 hc hH 3 (pc' := 106) (lv' := [(3, .int 4), (1, .int 2), (2, .ref 79), (0, .ref 50)]) (st' := [.ref 50, .ref 79, .ref 50]) (by rfl) ?_
            refine zq_gfi hc hH (by rfl) (ci := 6) (f := 40) (by rfl) (by decide +kernel) (by rfl) ?_
            refine zV1 (Z := Z) (Eq.trans (ui_o (by first | decide | omega)) (Eq.trans (ui_o (by first | decide | omega)) (Eq.trans (ui_o (by first | decide | omega)) (Eq.trans (ui_o (by first | decide | omega)) (Eq.trans (ui_o (by first | decide | omega)) (Eq.trans (hO3 50 40 (by omega)).1 (Eq.trans (ui_o (by first | decide | omega)) (Eq.trans (hO2 50 40 (by omega)).1 (Eq.trans (ui_o (by first | decide | omega)) (Eq.trans (hO1 50 40 (by omega)).1 (Eq.trans (ui_o (by first | decide | omega)) (hO0 50 40 (by omega)).1))))))))))) ?_
            rw [(z_zero_o (by decide)).trans hdl]
            refine zq_bald hc hH (by rfl) 4 (by decide +kernel) (vp_in_nI (by omega) (by decide)) ?_
            rw [nI_clamp (by omega)]
            refine zV1 (Z := Z) (Eq.trans (ui_o (by first | decide | omega)) (Eq.trans (ui_o (by first | decide | omega)) (Eq.trans (ui_o (by first | decide | omega)) (Eq.trans (ui_o (by first | decide | omega)) (Eq.trans (ui_k (by first | decide | omega)) (Eq.trans (hO3 79 0 (by omega)).1 (Eq.trans (ui_k (by first | decide | omega)) (Eq.trans (hO2 79 0 (by omega)).1 (Eq.trans (ui_k (by first | decide | omega)) (Eq.trans (hO1 79 0 (by omega)).1 (ui_s))))))))))) ?_
            refine z_rcs0 hc hH 1 (pc' := 111) (lv' := [(3, .int 4), (1, .int 2), (2, .ref 79), (0, .ref 50)]) (st' := [.int 1, .int 1, .ref 50]) (by rfl) ?_
            refine zq_call hc (z_cx_ok hH (by rfl)) (gm_endsB d' (by omega) (z_ui (z_ui (z_ui (z_ui (z_ui W3 79 3 0) 61 0 ((μ.1 61 0) + 1500)) 61 1 ((μ.1 61 1) + 1500)) 61 2 ((μ.1 61 2) + (-1500))) 61 3 ((μ.1 61 3) + (-1500))) true true 0 e (by rw [ui_o (by first | decide | omega), ui_o (by first | decide | omega), ui_o (by first | decide | omega), ui_o (by first | decide | omega), ui_o (by first | decide | omega), (hO3 50 40 (by omega)).1, ui_o (by first | decide | omega), (hO2 50 40 (by omega)).1, ui_o (by first | decide | omega), (hO1 50 40 (by omega)).1, ui_o (by first | decide | omega), (hO0 50 40 (by omega)).1]; exact (z_zero_o (by decide)).trans hdl) hdl4 he) (by decide +kernel) (fun r9 μ9 hq => ?_)
            obtain ⟨hr9, hm9⟩ := hq
            rw [hr9, hm9]
            clear hr9 hm9
            show Z 1 114 [(3, .int 4), (1, .int 2), (2, .ref 79), (0, .ref 50)] [] (eMB (z_ui (z_ui (z_ui (z_ui (z_ui W3 79 3 0) 61 0 ((μ.1 61 0) + 1500)) 61 1 ((μ.1 61 1) + 1500)) 61 2 ((μ.1 61 2) + (-1500))) 61 3 ((μ.1 61 3) + (-1500))) true true 0 e)
            exact hr 1 114 _ _ _ none (by decide +kernel) (by rfl) (by refine ⟨rfl, ?_⟩; unfold nM1100; exact SM_eMB (SM_ui (SM_ui (SM_ui (SM_ui (SM_ui (SM_tr (SM_ui (SM_tr (SM_ui (SM_tr (SM_ui (SM_tr (SM_rf _) hO0)) hO1)) hO2)) hO3)))))))
          · skip
            refine z_rcs hc hH 3 (pc' := 106) (lv' := [(3, .int 4), (1, .int 2), (2, .ref 79), (0, .ref 50)]) (st' := [.ref 50, .ref 79, .ref 50]) (μ' := z_ui (z_ui (z_ui (z_ui (z_ui W3 79 3 0) 61 0 ((μ.1 61 0) + 1500)) 61 1 ((μ.1 61 1) + 1500)) 61 2 ((μ.1 61 2) + (-1500))) 61 3 ((μ.1 61 3) + (-1500))) (by rfl) ?_
            refine zq_gfi hc hH (by rfl) (ci := 6) (f := 40) (by rfl) (by decide +kernel) (by rfl) ?_
            refine zV1 (Z := Z) (Eq.trans (ui_o (by first | decide | omega)) (Eq.trans (ui_o (by first | decide | omega)) (Eq.trans (ui_o (by first | decide | omega)) (Eq.trans (ui_o (by first | decide | omega)) (Eq.trans (ui_o (by first | decide | omega)) (Eq.trans (hO3 50 40 (by omega)).1 (Eq.trans (ui_o (by first | decide | omega)) (Eq.trans (hO2 50 40 (by omega)).1 (Eq.trans (ui_o (by first | decide | omega)) (Eq.trans (hO1 50 40 (by omega)).1 (Eq.trans (ui_o (by first | decide | omega)) (hO0 50 40 (by omega)).1))))))))))) ?_
            rw [(z_zero_o (by decide)).trans hdl]
            refine zq_bald hc hH (by rfl) 4 (by decide +kernel) (vp_in_nI (by omega) (by decide)) ?_
            rw [nI_clamp (by omega)]
            refine zV1 (Z := Z) (Eq.trans (ui_o (by first | decide | omega)) (Eq.trans (ui_o (by first | decide | omega)) (Eq.trans (ui_o (by first | decide | omega)) (Eq.trans (ui_o (by first | decide | omega)) (Eq.trans (ui_k (by first | decide | omega)) (Eq.trans (hO3 79 1 (by omega)).1 (Eq.trans (ui_k (by first | decide | omega)) (Eq.trans (hO2 79 1 (by omega)).1 (ui_s))))))))) ?_
            refine z_rcs0 hc hH 1 (pc' := 111) (lv' := [(3, .int 4), (1, .int 2), (2, .ref 79), (0, .ref 50)]) (st' := [.int 1, .int 1, .ref 50]) (by rfl) ?_
            refine zq_call hc (z_cx_ok hH (by rfl)) (gm_endsB d' (by omega) (z_ui (z_ui (z_ui (z_ui (z_ui W3 79 3 0) 61 0 ((μ.1 61 0) + 1500)) 61 1 ((μ.1 61 1) + 1500)) 61 2 ((μ.1 61 2) + (-1500))) 61 3 ((μ.1 61 3) + (-1500))) true true 1 e (by rw [ui_o (by first | decide | omega), ui_o (by first | decide | omega), ui_o (by first | decide | omega), ui_o (by first | decide | omega), ui_o (by first | decide | omega), (hO3 50 40 (by omega)).1, ui_o (by first | decide | omega), (hO2 50 40 (by omega)).1, ui_o (by first | decide | omega), (hO1 50 40 (by omega)).1, ui_o (by first | decide | omega), (hO0 50 40 (by omega)).1]; exact (z_zero_o (by decide)).trans hdl) hdl4 he) (by decide +kernel) (fun r9 μ9 hq => ?_)
            obtain ⟨hr9, hm9⟩ := hq
            rw [hr9, hm9]
            clear hr9 hm9
            show Z 1 114 [(3, .int 4), (1, .int 2), (2, .ref 79), (0, .ref 50)] [] (eMB (z_ui (z_ui (z_ui (z_ui (z_ui W3 79 3 0) 61 0 ((μ.1 61 0) + 1500)) 61 1 ((μ.1 61 1) + 1500)) 61 2 ((μ.1 61 2) + (-1500))) 61 3 ((μ.1 61 3) + (-1500))) true true 1 e)
            exact hr 1 114 _ _ _ none (by decide +kernel) (by rfl) (by refine ⟨rfl, ?_⟩; unfold nM1100; exact SM_eMB (SM_ui (SM_ui (SM_ui (SM_ui (SM_ui (SM_tr (SM_ui (SM_tr (SM_ui (SM_tr (SM_ui (SM_tr (SM_rf _) hO0)) hO1)) hO2)) hO3)))))))
          · skip
            refine z_rcs hc hH 3 (pc' := 106) (lv' := [(3, .int 4), (1, .int 2), (2, .ref 79), (0, .ref 50)]) (st' := [.ref 50, .ref 79, .ref 50]) (μ' := z_ui (z_ui (z_ui (z_ui (z_ui W3 79 3 0) 61 0 ((μ.1 61 0) + 1500)) 61 1 ((μ.1 61 1) + 1500)) 61 2 ((μ.1 61 2) + (-1500))) 61 3 ((μ.1 61 3) + (-1500))) (by rfl) ?_
            refine zq_gfi hc hH (by rfl) (ci := 6) (f := 40) (by rfl) (by decide +kernel) (by rfl) ?_
            refine zV1 (Z := Z) (Eq.trans (ui_o (by first | decide | omega)) (Eq.trans (ui_o (by first | decide | omega)) (Eq.trans (ui_o (by first | decide | omega)) (Eq.trans (ui_o (by first | decide | omega)) (Eq.trans (ui_o (by first | decide | omega)) (Eq.trans (hO3 50 40 (by omega)).1 (Eq.trans (ui_o (by first | decide | omega)) (Eq.trans (hO2 50 40 (by omega)).1 (Eq.trans (ui_o (by first | decide | omega)) (Eq.trans (hO1 50 40 (by omega)).1 (Eq.trans (ui_o (by first | decide | omega)) (hO0 50 40 (by omega)).1))))))))))) ?_
            rw [(z_zero_o (by decide)).trans hdl]
            refine zq_bald hc hH (by rfl) 4 (by decide +kernel) (vp_in_nI (by omega) (by decide)) ?_
            rw [nI_clamp (by omega)]
            refine zV1 (Z := Z) (Eq.trans (ui_o (by first | decide | omega)) (Eq.trans (ui_o (by first | decide | omega)) (Eq.trans (ui_o (by first | decide | omega)) (Eq.trans (ui_o (by first | decide | omega)) (Eq.trans (ui_k (by first | decide | omega)) (Eq.trans (hO3 79 2 (by omega)).1 (ui_s))))))) ?_
            refine z_rcs0 hc hH 1 (pc' := 111) (lv' := [(3, .int 4), (1, .int 2), (2, .ref 79), (0, .ref 50)]) (st' := [.int 1, .int 0, .ref 50]) (by rfl) ?_
            refine zq_call hc (z_cx_ok hH (by rfl)) (gm_endsB d' (by omega) (z_ui (z_ui (z_ui (z_ui (z_ui W3 79 3 0) 61 0 ((μ.1 61 0) + 1500)) 61 1 ((μ.1 61 1) + 1500)) 61 2 ((μ.1 61 2) + (-1500))) 61 3 ((μ.1 61 3) + (-1500))) false true 2 e (by rw [ui_o (by first | decide | omega), ui_o (by first | decide | omega), ui_o (by first | decide | omega), ui_o (by first | decide | omega), ui_o (by first | decide | omega), (hO3 50 40 (by omega)).1, ui_o (by first | decide | omega), (hO2 50 40 (by omega)).1, ui_o (by first | decide | omega), (hO1 50 40 (by omega)).1, ui_o (by first | decide | omega), (hO0 50 40 (by omega)).1]; exact (z_zero_o (by decide)).trans hdl) hdl4 he) (by decide +kernel) (fun r9 μ9 hq => ?_)
            obtain ⟨hr9, hm9⟩ := hq
            rw [hr9, hm9]
            clear hr9 hm9
            show Z 1 114 [(3, .int 4), (1, .int 2), (2, .ref 79), (0, .ref 50)] [] (eMB (z_ui (z_ui (z_ui (z_ui (z_ui W3 79 3 0) 61 0 ((μ.1 61 0) + 1500)) 61 1 ((μ.1 61 1) + 1500)) 61 2 ((μ.1 61 2) + (-1500))) 61 3 ((μ.1 61 3) + (-1500))) false true 2 e)
            exact hr 1 114 _ _ _ none (by decide +kernel) (by rfl) (by refine ⟨rfl, ?_⟩; unfold nM1100; exact SM_eMB (SM_ui (SM_ui (SM_ui (SM_ui (SM_ui (SM_tr (SM_ui (SM_tr (SM_ui (SM_tr (SM_ui (SM_tr (SM_rf _) hO0)) hO1)) hO2)) hO3)))))))
          · skip
            refine z_rcs hc hH 3 (pc' := 106) (lv' := [(3, .int 4), (1, .int 2), (2, .ref 79), (0, .ref 50)]) (st' := [.ref 50, .ref 79, .ref 50]) (μ' := z_ui (z_ui (z_ui (z_ui (z_ui W3 79 3 0) 61 0 ((μ.1 61 0) + 1500)) 61 1 ((μ.1 61 1) + 1500)) 61 2 ((μ.1 61 2) + (-1500))) 61 3 ((μ.1 61 3) + (-1500))) (by rfl) ?_
            refine zq_gfi hc hH (by rfl) (ci := 6) (f := 40) (by rfl) (by decide +kernel) (by rfl) ?_
            refine zV1 (Z := Z) (Eq.trans (ui_o (by first | decide | omega)) (Eq.trans (ui_o (by first | decide | omega)) (Eq.trans (ui_o (by first | decide | omega)) (Eq.trans (ui_o (by first | decide | omega)) (Eq.trans (ui_o (by first | decide | omega)) (Eq.trans (hO3 50 40 (by omega)).1 (Eq.trans (ui_o (by first | decide | omega)) (Eq.trans (hO2 50 40 (by omega)).1 (Eq.trans (ui_o (by first | decide | omega)) (Eq.trans (hO1 50 40 (by omega)).1 (Eq.trans (ui_o (by first | decide | omega)) (hO0 50 40 (by omega)).1))))))))))) ?_
            rw [(z_zero_o (by decide)).trans hdl]
            refine zq_bald hc hH (by rfl) 4 (by decide +kernel) (vp_in_nI (by omega) (by decide)) ?_
            rw [nI_clamp (by omega)]
            refine zV1 (Z := Z) (Eq.trans (ui_o (by first | decide | omega)) (Eq.trans (ui_o (by first | decide | omega)) (Eq.trans (ui_o (by first | decide | omega)) (Eq.trans (ui_o (by first | decide | omega)) (ui_s))))) ?_
            refine z_rcs0 hc hH 1 (pc' := 111) (lv' := [(3, .int 4), (1, .int 2), (2, .ref 79), (0, .ref 50)]) (st' := [.int 1, .int 0, .ref 50]) (by rfl) ?_
            refine zq_call hc (z_cx_ok hH (by rfl)) (gm_endsB d' (by omega) (z_ui (z_ui (z_ui (z_ui (z_ui W3 79 3 0) 61 0 ((μ.1 61 0) + 1500)) 61 1 ((μ.1 61 1) + 1500)) 61 2 ((μ.1 61 2) + (-1500))) 61 3 ((μ.1 61 3) + (-1500))) false true 3 e (by rw [ui_o (by first | decide | omega), ui_o (by first | decide | omega), ui_o (by first | decide | omega), ui_o (by first | decide | omega), ui_o (by first | decide | omega), (hO3 50 40 (by omega)).1, ui_o (by first | decide | omega), (hO2 50 40 (by omega)).1, ui_o (by first | decide | omega), (hO1 50 40 (by omega)).1, ui_o (by first | decide | omega), (hO0 50 40 (by omega)).1]; exact (z_zero_o (by decide)).trans hdl) hdl4 he) (by decide +kernel) (fun r9 μ9 hq => ?_)
            obtain ⟨hr9, hm9⟩ := hq
            rw [hr9, hm9]
            clear hr9 hm9
            show Z 1 114 [(3, .int 4), (1, .int 2), (2, .ref 79), (0, .ref 50)] [] (eMB (z_ui (z_ui (z_ui (z_ui (z_ui W3 79 3 0) 61 0 ((μ.1 61 0) + 1500)) 61 1 ((μ.1 61 1) + 1500)) 61 2 ((μ.1 61 2) + (-1500))) 61 3 ((μ.1 61 3) + (-1500))) false true 3 e)
            exact hr 1 114 _ _ _ none (by decide +kernel) (by rfl) (by refine ⟨rfl, ?_⟩; unfold nM1100; exact SM_eMB (SM_ui (SM_ui (SM_ui (SM_ui (SM_ui (SM_tr (SM_ui (SM_tr (SM_ui (SM_tr (SM_ui (SM_tr (SM_rf _) hO0)) hO1)) hO2)) hO3)))))))
        · have h4 : (decide ((lg_cmp w3 0) = 0)) = false := decide_eq_false (cn_eq.mp h4)
          exact absurd (Eq.trans (Eq.symm (hb3)) h4) (by decide)
      · have h3 : (decide ((lg_cmp w2 0) = 0)) = false := decide_eq_false (cn_eq.mp h3)
        exact absurd (Eq.trans (Eq.symm (hb2)) h3) (by decide)
noncomputable def nM1101 (μ : zM) : zM := z_ui (z_ui (z_ui (z_ui (z_ui (z_ui (z_ui (z_ui (z_zero μ) 79 0 1) 79 1 1) 79 2 0) 79 3 1) 61 0 ((μ.1 61 0) + 1000)) 61 1 ((μ.1 61 1) + 1000)) 61 2 ((μ.1 61 2) + (-3000))) 61 3 ((μ.1 61 3) + 1000)
theorem gm_nobody1101 (d : Nat) (hd : 700 ≤ d) (μ : zM) (hH0 : a_H μ) (dl e : Nat) (hdl : μ.1 50 40 = nI dl) (hdl4 : dl < 4) (he : (dl + 1) % 4 = e) (w0 : Int64) (hw0 : ∀ M, SE μ M → a_H M → ∀ d, 699 ≤ d → z_C d mi_X7_waitsAt [.ref 50, .int 0] M (fun r W => r = some (.long w0) ∧ SMj M W ∧ a_H W)) (hb0 : decide (lg_cmp w0 0 = 0) = false) (w1 : Int64) (hw1 : ∀ M, SE μ M → a_H M → ∀ d, 699 ≤ d → z_C d mi_X7_waitsAt [.ref 50, .int 1] M (fun r W => r = some (.long w1) ∧ SMj M W ∧ a_H W)) (hb1 : decide (lg_cmp w1 0 = 0) = false) (w2 : Int64) (hw2 : ∀ M, SE μ M → a_H M → ∀ d, 699 ≤ d → z_C d mi_X7_waitsAt [.ref 50, .int 2] M (fun r W => r = some (.long w2) ∧ SMj M W ∧ a_H W)) (hb2 : decide (lg_cmp w2 0 = 0) = true) (w3 : Int64) (hw3 : ∀ M, SE μ M → a_H M → ∀ d, 699 ≤ d → z_C d mi_X7_waitsAt [.ref 50, .int 3] M (fun r W => r = some (.long w3) ∧ SMj M W ∧ a_H W)) (hb3 : decide (lg_cmp w3 0 = 0) = false) : z_C d mi_X7_nobodyWins [.ref 50] μ (fun r μ' => r = none ∧ SMj (eMB (nM1101 μ) (nbS true true false true dl) true dl e) μ') := by
  obtain ⟨d', rfl⟩ : ∃ d', d = d' + 1 := ⟨d - 1, by omega⟩
  intro Z hc hr
  refine ⟨rfl, ?_⟩
  have hH := zh_X7_nobodyWins
  refine z_rcs hc hH 9 (pc' := 17) (lv' := [(3, .int 0), (2, .ref 79), (1, .int 0), (0, .ref 50)]) (st' := [.int 0, .ref 50, .int 0, .ref 79]) (μ' := z_zero μ) (by rfl) ?_
  refine zq_call hc (z_cx_ok hH (by rfl)) (hw0 _ (SE_zr _) (a_H_zero hH0) d' (by omega)) (by decide +kernel) (fun r9 W0 hq => ?_)
  obtain ⟨rfl, hO0, hA0⟩ := hq
  show Z 1 20 [(3, .int 0), (2, .ref 79), (1, .int 0), (0, .ref 50)] [.long w0, .int 0, .ref 79] W0
  refine z_rcs hc hH 2 (pc' := 22) (lv' := [(3, .int 0), (2, .ref 79), (1, .int 0), (0, .ref 50)]) (st' := [.int (lg_cmp w0 0), .int 0, .ref 79]) (μ' := W0) (by rfl) ?_
  refine zq_if hc hH (by rfl) (tg := 29) (by rfl) (fun h1 => ?_) (fun h1 => ?_)
  · have h1 : (decide ((lg_cmp w0 0) = 0)) = true := decide_eq_true (cm_eq9.mp h1)
    exact absurd (Eq.trans (Eq.symm (hb0)) h1) (by decide)
  · have h1 : (decide ((lg_cmp w0 0) = 0)) = false := decide_eq_false (cn_eq.mp h1)
    refine z_rcs hc hH 2 (pc' := 30) (lv' := [(3, .int 0), (2, .ref 79), (1, .int 0), (0, .ref 50)]) (st' := [.int 1, .int 0, .ref 79]) (μ' := W0) (by rfl) ?_
    refine zq_bast hc hH (by rfl) 4 (by decide +kernel) (show vp_in (nI 0) 4 from vp_in_nI (by decide) (by decide)) (by decide) ?_
    rw [show (0 : Int32).toNatClampNeg = 0 from rfl]
    show Z 1 31 [(3, .int 0), (2, .ref 79), (1, .int 0), (0, .ref 50)] [] (z_ui W0 79 0 1)
    refine z_rcs hc hH 3 (pc' := 34) (lv' := [(3, .int 0), (2, .ref 79), (1, .int 0), (0, .ref 50)]) (st' := [.int 0, .ref 79, .int 0]) (μ' := z_ui W0 79 0 1) (by rfl) ?_
    refine zq_bald hc hH (by rfl) 4 (by decide +kernel) (show vp_in (nI 0) 4 from vp_in_nI (by decide) (by decide)) ?_
    rw [show (0 : Int32).toNatClampNeg = 0 from rfl]
    rw [ui_s]
    refine z_rcs hc hH 14 (pc' := 17) (lv' := [(3, .int 1), (1, .int 1), (2, .ref 79), (0, .ref 50)]) (st' := [.int 1, .ref 50, .int 1, .ref 79]) (μ' := z_ui W0 79 0 1) (by rfl) ?_
    refine zq_call hc (z_cx_ok hH (by rfl)) (hw1 _ (SE_ui (SE_sm (SE_zr _) hO0) (by omega)) (a_H_ui (r := 79) (k := 0) (hA0) ⟨by decide, by decide⟩) d' (by omega)) (by decide +kernel) (fun r9 W1 hq => ?_)
    obtain ⟨rfl, hO1, hA1⟩ := hq
    show Z 1 20 [(3, .int 1), (1, .int 1), (2, .ref 79), (0, .ref 50)] [.long w1, .int 1, .ref 79] W1
    refine z_rcs hc hH 2 (pc' := 22) (lv' := [(3, .int 1), (1, .int 1), (2, .ref 79), (0, .ref 50)]) (st' := [.int (lg_cmp w1 0), .int 1, .ref 79]) (μ' := W1) (by rfl) ?_
    refine zq_if hc hH (by rfl) (tg := 29) (by rfl) (fun h2 => ?_) (fun h2 => ?_)
    · have h2 : (decide ((lg_cmp w1 0) = 0)) = true := decide_eq_true (cm_eq9.mp h2)
      exact absurd (Eq.trans (Eq.symm (hb1)) h2) (by decide)
    · have h2 : (decide ((lg_cmp w1 0) = 0)) = false := decide_eq_false (cn_eq.mp h2)
      refine z_rcs hc hH 2 (pc' := 30) (lv' := [(3, .int 1), (1, .int 1), (2, .ref 79), (0, .ref 50)]) (st' := [.int 1, .int 1, .ref 79]) (μ' := W1) (by rfl) ?_
      refine zq_bast hc hH (by rfl) 4 (by decide +kernel) (show vp_in (nI 1) 4 from vp_in_nI (by decide) (by decide)) (by decide) ?_
      rw [show (1 : Int32).toNatClampNeg = 1 from rfl]
      show Z 1 31 [(3, .int 1), (1, .int 1), (2, .ref 79), (0, .ref 50)] [] (z_ui W1 79 1 1)
      refine z_rcs hc hH 3 (pc' := 34) (lv' := [(3, .int 1), (1, .int 1), (2, .ref 79), (0, .ref 50)]) (st' := [.int 1, .ref 79, .int 1]) (μ' := z_ui W1 79 1 1) (by rfl) ?_
      refine zq_bald hc hH (by rfl) 4 (by decide +kernel) (show vp_in (nI 1) 4 from vp_in_nI (by decide) (by decide)) ?_
      rw [show (1 : Int32).toNatClampNeg = 1 from rfl]
      rw [ui_s]
      refine z_rcs hc hH 14 (pc' := 17) (lv' := [(3, .int 2), (1, .int 2), (2, .ref 79), (0, .ref 50)]) (st' := [.int 2, .ref 50, .int 2, .ref 79]) (μ' := z_ui W1 79 1 1) (by rfl) ?_
      refine zq_call hc (z_cx_ok hH (by rfl)) (hw2 _ (SE_ui (SE_sm (SE_ui (SE_sm (SE_zr _) hO0) (by omega)) hO1) (by omega)) (a_H_ui (r := 79) (k := 1) (hA1) ⟨by decide, by decide⟩) d' (by omega)) (by decide +kernel) (fun r9 W2 hq => ?_)
      obtain ⟨rfl, hO2, hA2⟩ := hq
      show Z 1 20 [(3, .int 2), (1, .int 2), (2, .ref 79), (0, .ref 50)] [.long w2, .int 2, .ref 79] W2
      refine z_rcs hc hH 2 (pc' := 22) (lv' := [(3, .int 2), (1, .int 2), (2, .ref 79), (0, .ref 50)]) (st' := [.int (lg_cmp w2 0), .int 2, .ref 79]) (μ' := W2) (by rfl) ?_
      refine zq_if hc hH (by rfl) (tg := 29) (by rfl) (fun h3 => ?_) (fun h3 => ?_)
      · have h3 : (decide ((lg_cmp w2 0) = 0)) = true := decide_eq_true (cm_eq9.mp h3)
        refine z_rcs hc hH 1 (pc' := 30) (lv' := [(3, .int 2), (1, .int 2), (2, .ref 79), (0, .ref 50)]) (st' := [.int 0, .int 2, .ref 79]) (μ' := W2) (by rfl) ?_
        refine zq_bast hc hH (by rfl) 4 (by decide +kernel) (show vp_in (nI 2) 4 from vp_in_nI (by decide) (by decide)) (by decide) ?_
        rw [show (2 : Int32).toNatClampNeg = 2 from rfl]
        show Z 1 31 [(3, .int 2), (1, .int 2), (2, .ref 79), (0, .ref 50)] [] (z_ui W2 79 2 0)
        refine z_rcs hc hH 3 (pc' := 34) (lv' := [(3, .int 2), (1, .int 2), (2, .ref 79), (0, .ref 50)]) (st' := [.int 2, .ref 79, .int 2]) (μ' := z_ui W2 79 2 0) (by rfl) ?_
        refine zq_bald hc hH (by rfl) 4 (by decide +kernel) (show vp_in (nI 2) 4 from vp_in_nI (by decide) (by decide)) ?_
        rw [show (2 : Int32).toNatClampNeg = 2 from rfl]
        rw [ui_s]
        refine z_rcs hc hH 13 (pc' := 17) (lv' := [(3, .int 3), (1, .int 2), (2, .ref 79), (0, .ref 50)]) (st' := [.int 3, .ref 50, .int 3, .ref 79]) (μ' := z_ui W2 79 2 0) (by rfl) ?_
        refine zq_call hc (z_cx_ok hH (by rfl)) (hw3 _ (SE_ui (SE_sm (SE_ui (SE_sm (SE_ui (SE_sm (SE_zr _) hO0) (by omega)) hO1) (by omega)) hO2) (by omega)) (a_H_ui (r := 79) (k := 2) (hA2) ⟨by decide, by decide⟩) d' (by omega)) (by decide +kernel) (fun r9 W3 hq => ?_)
        obtain ⟨rfl, hO3, hA3⟩ := hq
        show Z 1 20 [(3, .int 3), (1, .int 2), (2, .ref 79), (0, .ref 50)] [.long w3, .int 3, .ref 79] W3
        refine z_rcs hc hH 2 (pc' := 22) (lv' := [(3, .int 3), (1, .int 2), (2, .ref 79), (0, .ref 50)]) (st' := [.int (lg_cmp w3 0), .int 3, .ref 79]) (μ' := W3) (by rfl) ?_
        refine zq_if hc hH (by rfl) (tg := 29) (by rfl) (fun h4 => ?_) (fun h4 => ?_)
        · have h4 : (decide ((lg_cmp w3 0) = 0)) = true := decide_eq_true (cm_eq9.mp h4)
          exact absurd (Eq.trans (Eq.symm (hb3)) h4) (by decide)
        · have h4 : (decide ((lg_cmp w3 0) = 0)) = false := decide_eq_false (cn_eq.mp h4)
          refine z_rcs hc hH 2 (pc' := 30) (lv' := [(3, .int 3), (1, .int 2), (2, .ref 79), (0, .ref 50)]) (st' := [.int 1, .int 3, .ref 79]) (μ' := W3) (by rfl) ?_
          refine zq_bast hc hH (by rfl) 4 (by decide +kernel) (show vp_in (nI 3) 4 from vp_in_nI (by decide) (by decide)) (by decide) ?_
          rw [show (3 : Int32).toNatClampNeg = 3 from rfl]
          show Z 1 31 [(3, .int 3), (1, .int 2), (2, .ref 79), (0, .ref 50)] [] (z_ui W3 79 3 1)
          refine z_rcs hc hH 3 (pc' := 34) (lv' := [(3, .int 3), (1, .int 2), (2, .ref 79), (0, .ref 50)]) (st' := [.int 3, .ref 79, .int 2]) (μ' := z_ui W3 79 3 1) (by rfl) ?_
          refine zq_bald hc hH (by rfl) 4 (by decide +kernel) (show vp_in (nI 3) 4 from vp_in_nI (by decide) (by decide)) ?_
          rw [show (3 : Int32).toNatClampNeg = 3 from rfl]
          rw [ui_s]
          refine z_rcs hc hH 21 (pc' := 68) (lv' := [(3, .int 0), (1, .int 3), (2, .ref 79), (0, .ref 50)]) (st' := [.ref 50]) (μ' := z_ui W3 79 3 1) (by rfl) ?_
          refine zq_gfr hc hH (by rfl) (ci := 6) (f := 29) (q := 61) (by rfl) (by decide +kernel) (by rfl) (by decide +kernel) ?_
          refine z_rcs hc hH 2 (pc' := 73) (lv' := [(3, .int 0), (1, .int 3), (2, .ref 79), (0, .ref 50)]) (st' := [.int 0, .ref 61, .int 0, .ref 61]) (μ' := z_ui W3 79 3 1) (by rfl) ?_
          refine zq_iald hc hH (by rfl) 4 (oka_i (by decide +kernel)) (show vp_in (nI 0) 4 from vp_in_nI (by decide) (by decide)) ?_
          rw [show (0 : Int32).toNatClampNeg = 0 from rfl]
          refine zV1 (Z := Z) (Eq.trans (ui_o (by first | decide | omega)) (Eq.trans (hO3 61 0 (by omega)).1 (Eq.trans (ui_o (by first | decide | omega)) (Eq.trans (hO2 61 0 (by omega)).1 (Eq.trans (ui_o (by first | decide | omega)) (Eq.trans (hO1 61 0 (by omega)).1 (Eq.trans (ui_o (by first | decide | omega)) (hO0 61 0 (by omega)).1))))))) ?_
          rw [z_zero_o (by decide)]
          refine z_rcs hc hH 2 (pc' := 76) (lv' := [(3, .int 0), (1, .int 3), (2, .ref 79), (0, .ref 50)]) (st' := [.int 0, .ref 79, .int (μ.1 61 0), .int 0, .ref 61]) (μ' := z_ui W3 79 3 1) (by rfl) ?_
          refine zq_bald hc hH (by rfl) 4 (by decide +kernel) (show vp_in (nI 0) 4 from vp_in_nI (by decide) (by decide)) ?_
          rw [show (0 : Int32).toNatClampNeg = 0 from rfl]
          refine zV1 (Z := Z) (Eq.trans (ui_k (by first | decide | omega)) (Eq.trans (hO3 79 0 (by omega)).1 (Eq.trans (ui_k (by first | decide | omega)) (Eq.trans (hO2 79 0 (by omega)).1 (Eq.trans (ui_k (by first | decide | omega)) (Eq.trans (hO1 79 0 (by omega)).1 (ui_s))))))) ?_
          refine z_rcs hc hH 6 (pc' := 96) (lv' := [(3, .int 0), (1, .int 3), (2, .ref 79), (0, .ref 50)]) (st' := [.int ((μ.1 61 0) + 1000), .int 0, .ref 61]) (μ' := z_ui W3 79 3 1) (by rfl) ?_
          refine zq_iast hc hH (by rfl) 4 (oka_i (by decide +kernel)).2 (show vp_in (nI 0) 4 from vp_in_nI (by decide) (by decide)) ?_
          rw [show (0 : Int32).toNatClampNeg = 0 from rfl]
          show Z 1 97 [(3, .int 0), (1, .int 3), (2, .ref 79), (0, .ref 50)] [] (z_ui (z_ui W3 79 3 1) 61 0 ((μ.1 61 0) + 1000))
          refine z_rcs0 hc hH 6 (pc' := 68) (lv' := [(3, .int 1), (1, .int 3), (2, .ref 79), (0, .ref 50)]) (st' := [.ref 50]) (by rfl) ?_
          refine zq_gfr hc hH (by rfl) (ci := 6) (f := 29) (q := 61) (by rfl) (by decide +kernel) (by rfl) (by decide +kernel) ?_
          refine z_rcs0 hc hH 2 (pc' := 73) (lv' := [(3, .int 1), (1, .int 3), (2, .ref 79), (0, .ref 50)]) (st' := [.int 1, .ref 61, .int 1, .ref 61]) (by rfl) ?_
          refine zq_iald hc hH (by rfl) 4 (oka_i (by decide +kernel)) (show vp_in (nI 1) 4 from vp_in_nI (by decide) (by decide)) ?_
          rw [show (1 : Int32).toNatClampNeg = 1 from rfl]
          refine zV1 (Z := Z) (Eq.trans (ui_k (by first | decide | omega)) (Eq.trans (ui_o (by first | decide | omega)) (Eq.trans (hO3 61 1 (by omega)).1 (Eq.trans (ui_o (by first | decide | omega)) (Eq.trans (hO2 61 1 (by omega)).1 (Eq.trans (ui_o (by first | decide | omega)) (Eq.trans (hO1 61 1 (by omega)).1 (Eq.trans (ui_o (by first | decide | omega)) (hO0 61 1 (by omega)).1)))))))) ?_
          rw [z_zero_o (by decide)]
          refine z_rcs0 hc hH 2 (pc' := 76) (lv' := [(3, .int 1), (1, .int 3), (2, .ref 79), (0, .ref 50)]) (st' := [.int 1, .ref 79, .int (μ.1 61 1), .int 1, .ref 61]) (by rfl) ?_
          refine zq_bald hc hH (by rfl) 4 (by decide +kernel) (show vp_in (nI 1) 4 from vp_in_nI (by decide) (by decide)) ?_
          rw [show (1 : Int32).toNatClampNeg = 1 from rfl]
          refine zV1 (Z := Z) (Eq.trans (ui_o (by first | decide | omega)) (Eq.trans (ui_k (by first | decide | omega)) (Eq.trans (hO3 79 1 (by omega)).1 (Eq.trans (ui_k (by first | decide | omega)) (Eq.trans (hO2 79 1 (by omega)).1 (ui_s)))))) ?_
          refine z_rcs0 hc hH 6 (pc' := 96) (lv' := [(3, .int 1), (1, .int 3), (2, .ref 79), (0, .ref 50)]) (st' := [.int ((μ.1 61 1) + 1000), .int 1, .ref 61]) (by rfl) ?_
          refine zq_iast hc hH (by rfl) 4 (oka_i (by decide +kernel)).2 (show vp_in (nI 1) 4 from vp_in_nI (by decide) (by decide)) ?_
          rw [show (1 : Int32).toNatClampNeg = 1 from rfl]
          show Z 1 97 [(3, .int 1), (1, .int 3), (2, .ref 79), (0, .ref 50)] [] (z_ui (z_ui (z_ui W3 79 3 1) 61 0 ((μ.1 61 0) + 1000)) 61 1 ((μ.1 61 1) + 1000))
          refine z_rcs0 hc hH 6 (pc' := 68) (lv' := [(3, .int 2), (1, .int 3), (2, .ref 79), (0, .ref 50)]) (st' := [.ref 50]) (by rfl) ?_
          refine zq_gfr hc hH (by rfl) (ci := 6) (f := 29) (q := 61) (by rfl) (by decide +kernel) (by rfl) (by decide +kernel) ?_
          refine z_rcs0 hc hH 2 (pc' := 73) (lv' := [(3, .int 2), (1, .int 3), (2, .ref 79), (0, .ref 50)]) (st' := [.int 2, .ref 61, .int 2, .ref 61]) (by rfl) ?_
          refine zq_iald hc hH (by rfl) 4 (oka_i (by decide +kernel)) (show vp_in (nI 2) 4 from vp_in_nI (by decide) (by decide)) ?_
          rw [show (2 : Int32).toNatClampNeg = 2 from rfl]
          refine zV1 (Z := Z) (Eq.trans (ui_k (by first | decide | omega)) (Eq.trans (ui_k (by first | decide | omega)) (Eq.trans (ui_o (by first | decide | omega)) (Eq.trans (hO3 61 2 (by omega)).1 (Eq.trans (ui_o (by first | decide | omega)) (Eq.trans (hO2 61 2 (by omega)).1 (Eq.trans (ui_o (by first | decide | omega)) (Eq.trans (hO1 61 2 (by omega)).1 (Eq.trans (ui_o (by first | decide | omega)) (hO0 61 2 (by omega)).1))))))))) ?_
          rw [z_zero_o (by decide)]
          refine z_rcs0 hc hH 2 (pc' := 76) (lv' := [(3, .int 2), (1, .int 3), (2, .ref 79), (0, .ref 50)]) (st' := [.int 2, .ref 79, .int (μ.1 61 2), .int 2, .ref 61]) (by rfl) ?_
          refine zq_bald hc hH (by rfl) 4 (by decide +kernel) (show vp_in (nI 2) 4 from vp_in_nI (by decide) (by decide)) ?_
          rw [show (2 : Int32).toNatClampNeg = 2 from rfl]
          refine zV1 (Z := Z) (Eq.trans (ui_o (by first | decide | omega)) (Eq.trans (ui_o (by first | decide | omega)) (Eq.trans (ui_k (by first | decide | omega)) (Eq.trans (hO3 79 2 (by omega)).1 (ui_s))))) ?_
          refine z_rcs0 hc hH 7 (pc' := 96) (lv' := [(3, .int 2), (1, .int 3), (2, .ref 79), (0, .ref 50)]) (st' := [.int ((μ.1 61 2) + (-3000)), .int 2, .ref 61]) (by rfl) ?_
          refine zq_iast hc hH (by rfl) 4 (oka_i (by decide +kernel)).2 (show vp_in (nI 2) 4 from vp_in_nI (by decide) (by decide)) ?_
          rw [show (2 : Int32).toNatClampNeg = 2 from rfl]
          show Z 1 97 [(3, .int 2), (1, .int 3), (2, .ref 79), (0, .ref 50)] [] (z_ui (z_ui (z_ui (z_ui W3 79 3 1) 61 0 ((μ.1 61 0) + 1000)) 61 1 ((μ.1 61 1) + 1000)) 61 2 ((μ.1 61 2) + (-3000)))
          refine z_rcs0 hc hH 6 (pc' := 68) (lv' := [(3, .int 3), (1, .int 3), (2, .ref 79), (0, .ref 50)]) (st' := [.ref 50]) (by rfl) ?_
          refine zq_gfr hc hH (by rfl) (ci := 6) (f := 29) (q := 61) (by rfl) (by decide +kernel) (by rfl) (by decide +kernel) ?_
          refine z_rcs0 hc hH 2 (pc' := 73) (lv' := [(3, .int 3), (1, .int 3), (2, .ref 79), (0, .ref 50)]) (st' := [.int 3, .ref 61, .int 3, .ref 61]) (by rfl) ?_
          refine zq_iald hc hH (by rfl) 4 (oka_i (by decide +kernel)) (show vp_in (nI 3) 4 from vp_in_nI (by decide) (by decide)) ?_
          rw [show (3 : Int32).toNatClampNeg = 3 from rfl]
          refine zV1 (Z := Z) (Eq.trans (ui_k (by first | decide | omega)) (Eq.trans (ui_k (by first | decide | omega)) (Eq.trans (ui_k (by first | decide | omega)) (Eq.trans (ui_o (by first | decide | omega)) (Eq.trans (hO3 61 3 (by omega)).1 (Eq.trans (ui_o (by first | decide | omega)) (Eq.trans (hO2 61 3 (by omega)).1 (Eq.trans (ui_o (by first | decide | omega)) (Eq.trans (hO1 61 3 (by omega)).1 (Eq.trans (ui_o (by first | decide | omega)) (hO0 61 3 (by omega)).1)))))))))) ?_
          rw [z_zero_o (by decide)]
          refine z_rcs0 hc hH 2 (pc' := 76) (lv' := [(3, .int 3), (1, .int 3), (2, .ref 79), (0, .ref 50)]) (st' := [.int 3, .ref 79, .int (μ.1 61 3), .int 3, .ref 61]) (by rfl) ?_
          refine zq_bald hc hH (by rfl) 4 (by decide +kernel) (show vp_in (nI 3) 4 from vp_in_nI (by decide) (by decide)) ?_
          rw [show (3 : Int32).toNatClampNeg = 3 from rfl]
          refine zV1 (Z := Z) (Eq.trans (ui_o (by first | decide | omega)) (Eq.trans (ui_o (by first | decide | omega)) (Eq.trans (ui_o (by first | decide | omega)) (ui_s)))) ?_
          refine z_rcs0 hc hH 6 (pc' := 96) (lv' := [(3, .int 3), (1, .int 3), (2, .ref 79), (0, .ref 50)]) (st' := [.int ((μ.1 61 3) + 1000), .int 3, .ref 61]) (by rfl) ?_
          refine zq_iast hc hH (by rfl) 4 (oka_i (by decide +kernel)).2 (show vp_in (nI 3) 4 from vp_in_nI (by decide) (by decide)) ?_
          rw [show (3 : Int32).toNatClampNeg = 3 from rfl]
          show Z 1 97 [(3, .int 3), (1, .int 3), (2, .ref 79), (0, .ref 50)] [] (z_ui (z_ui (z_ui (z_ui (z_ui W3 79 3 1) 61 0 ((μ.1 61 0) + 1000)) 61 1 ((μ.1 61 1) + 1000)) 61 2 ((μ.1 61 2) + (-3000))) 61 3 ((μ.1 61 3) + 1000))
          refine z_rcs0 hc hH 5 (pc' := 103) (lv' := [(3, .int 4), (1, .int 3), (2, .ref 79), (0, .ref 50)]) (st' := []) (by rfl) ?_
          obtain rfl | rfl | rfl | rfl : dl = 0 ∨ dl = 1 ∨ dl = 2 ∨ dl = 3 := by omega
          · skip
            refine z_rcs0 hc hH 3 (pc' := 106) (lv' := [(3, .int 4), (1, .int 3), (2, .ref 79), (0, .ref 50)]) (st' := [.ref 50, .ref 79, .ref 50]) (by rfl) ?_
            refine zq_gfi hc hH (by rfl) (ci := 6) (f := 40) (by rfl) (by decide +kernel) (by rfl) ?_
            refine zV1 (Z := Z) (Eq.trans (ui_o (by first | decide | omega)) (Eq.trans (ui_o (by first | decide | omega)) (Eq.trans (ui_o (by first | decide | omega)) (Eq.trans (ui_o (by first | decide | omega)) (Eq.trans (ui_o (by first | decide | omega)) (Eq.trans (hO3 50 40 (by omega)).1 (Eq.trans (ui_o (by first | decide | omega)) (Eq.trans (hO2 50 40 (by omega)).1 (Eq.trans (ui_o (by first | decide | omega)) (Eq.trans (hO1 50 40 (by omega)).1 (Eq.trans (ui_o (by first | decide | omega)) (hO0 50 40 (by omega)).1))))))))))) ?_
            rw [(z_zero_o (by decide)).trans hdl]
            refine zq_bald hc hH (by rfl) 4 (by decide +kernel) (vp_in_nI (by omega) (by decide)) ?_
            rw [nI_clamp (by omega)]
            refine zV1 (Z := Z) (Eq.trans (ui_o (by first | decide | omega)) (Eq.trans (ui_o (by first | decide | omega)) (Eq.trans (ui_o (by first | decide | omega)) (Eq.trans (ui_o (by first | decide | omega)) (Eq.trans (ui_k (by first | decide | omega)) (Eq.trans (hO3 79 0 (by omega)).1 (Eq.trans (ui_k (by first | decide | omega)) (Eq.trans (hO2 79 0 (by omega)).1 (Eq.trans (ui_k (by first | decide | omega)) (Eq.trans (hO1 79 0 (by omega)).1 (ui_s))))))))))) ?_
            refine z_rcs0 hc hH 1 (pc' := 111) (lv' := [(3, .int 4), (1, .int 3), (2, .ref 79), (0, .ref 50)]) (st' := [.int 1, .int 1, .ref 50]) (by rfl) ?_
            refine zq_call hc (z_cx_ok hH (by rfl)) (gm_endsB d' (by omega) (z_ui (z_ui (z_ui (z_ui (z_ui W3 79 3 1) 61 0 ((μ.1 61 0) + 1000)) 61 1 ((μ.1 61 1) + 1000)) 61 2 ((μ.1 61 2) + (-3000))) 61 3 ((μ.1 61 3) + 1000)) true true 0 e (by rw [ui_o (by first | decide | omega), ui_o (by first | decide | omega), ui_o (by first | decide | omega), ui_o (by first | decide | omega), ui_o (by first | decide | omega), (hO3 50 40 (by omega)).1, ui_o (by first | decide | omega), (hO2 50 40 (by omega)).1, ui_o (by first | decide | omega), (hO1 50 40 (by omega)).1, ui_o (by first | decide | omega), (hO0 50 40 (by omega)).1]; exact (z_zero_o (by decide)).trans hdl) hdl4 he) (by decide +kernel) (fun r9 μ9 hq => ?_)
            obtain ⟨hr9, hm9⟩ := hq
            rw [hr9, hm9]
            clear hr9 hm9
            show Z 1 114 [(3, .int 4), (1, .int 3), (2, .ref 79), (0, .ref 50)] [] (eMB (z_ui (z_ui (z_ui (z_ui (z_ui W3 79 3 1) 61 0 ((μ.1 61 0) + 1000)) 61 1 ((μ.1 61 1) + 1000)) 61 2 ((μ.1 61 2) + (-3000))) 61 3 ((μ.1 61 3) + 1000)) true true 0 e)
            exact hr 1 114 _ _ _ none (by decide +kernel) (by rfl) (by refine ⟨rfl, ?_⟩; unfold nM1101; exact SM_eMB (SM_ui (SM_ui (SM_ui (SM_ui (SM_ui (SM_tr (SM_ui (SM_tr (SM_ui (SM_tr (SM_ui (SM_tr (SM_rf _) hO0)) hO1)) hO2)) hO3)))))))
          · skip
            refine z_rcs hc hH 3 (pc' := 106) (lv' := [(3, .int 4), (1, .int 3), (2, .ref 79), (0, .ref 50)]) (st' := [.ref 50, .ref 79, .ref 50]) (μ' := z_ui (z_ui (z_ui (z_ui (z_ui W3 79 3 1) 61 0 ((μ.1 61 0) + 1000)) 61 1 ((μ.1 61 1) + 1000)) 61 2 ((μ.1 61 2) + (-3000))) 61 3 ((μ.1 61 3) + 1000)) (by rfl) ?_
            refine zq_gfi hc hH (by rfl) (ci := 6) (f := 40) (by rfl) (by decide +kernel) (by rfl) ?_
            refine zV1 (Z := Z) (Eq.trans (ui_o (by first | decide | omega)) (Eq.trans (ui_o (by first | decide | omega)) (Eq.trans (ui_o (by first | decide | omega)) (Eq.trans (ui_o (by first | decide | omega)) (Eq.trans (ui_o (by first | decide | omega)) (Eq.trans (hO3 50 40 (by omega)).1 (Eq.trans (ui_o (by first | decide | omega)) (Eq.trans (hO2 50 40 (by omega)).1 (Eq.trans (ui_o (by first | decide | omega)) (Eq.trans (hO1 50 40 (by omega)).1 (Eq.trans (ui_o (by first | decide | omega)) (hO0 50 40 (by omega)).1))))))))))) ?_
            rw [(z_zero_o (by decide)).trans hdl]
            refine zq_bald hc hH (by rfl) 4 (by decide +kernel) (vp_in_nI (by omega) (by decide)) ?_
            rw [nI_clamp (by omega)]
            refine zV1 (Z := Z) (Eq.trans (ui_o (by first | decide | omega)) (Eq.trans (ui_o (by first | decide | omega)) (Eq.trans (ui_o (by first | decide | omega)) (Eq.trans (ui_o (by first | decide | omega)) (Eq.trans (ui_k (by first | decide | omega)) (Eq.trans (hO3 79 1 (by omega)).1 (Eq.trans (ui_k (by first | decide | omega)) (Eq.trans (hO2 79 1 (by omega)).1 (ui_s))))))))) ?_
            refine z_rcs0 hc hH 1 (pc' := 111) (lv' := [(3, .int 4), (1, .int 3), (2, .ref 79), (0, .ref 50)]) (st' := [.int 1, .int 1, .ref 50]) (by rfl) ?_
            refine zq_call hc (z_cx_ok hH (by rfl)) (gm_endsB d' (by omega) (z_ui (z_ui (z_ui (z_ui (z_ui W3 79 3 1) 61 0 ((μ.1 61 0) + 1000)) 61 1 ((μ.1 61 1) + 1000)) 61 2 ((μ.1 61 2) + (-3000))) 61 3 ((μ.1 61 3) + 1000)) true true 1 e (by rw [ui_o (by first | decide | omega), ui_o (by first | decide | omega), ui_o (by first | decide | omega), ui_o (by first | decide | omega), ui_o (by first | decide | omega), (hO3 50 40 (by omega)).1, ui_o (by first | decide | omega), (hO2 50 40 (by omega)).1, ui_o (by first | decide | omega), (hO1 50 40 (by omega)).1, ui_o (by first | decide | omega), (hO0 50 40 (by omega)).1]; exact (z_zero_o (by decide)).trans hdl) hdl4 he) (by decide +kernel) (fun r9 μ9 hq => ?_)
            obtain ⟨hr9, hm9⟩ := hq
            rw [hr9, hm9]
            clear hr9 hm9
            show Z 1 114 [(3, .int 4), (1, .int 3), (2, .ref 79), (0, .ref 50)] [] (eMB (z_ui (z_ui (z_ui (z_ui (z_ui W3 79 3 1) 61 0 ((μ.1 61 0) + 1000)) 61 1 ((μ.1 61 1) + 1000)) 61 2 ((μ.1 61 2) + (-3000))) 61 3 ((μ.1 61 3) + 1000)) true true 1 e)
            exact hr 1 114 _ _ _ none (by decide +kernel) (by rfl) (by refine ⟨rfl, ?_⟩; unfold nM1101; exact SM_eMB (SM_ui (SM_ui (SM_ui (SM_ui (SM_ui (SM_tr (SM_ui (SM_tr (SM_ui (SM_tr (SM_ui (SM_tr (SM_rf _) hO0)) hO1)) hO2)) hO3)))))))
          · skip
            refine z_rcs hc hH 3 (pc' := 106) (lv' := [(3, .int 4), (1, .int 3), (2, .ref 79), (0, .ref 50)]) (st' := [.ref 50, .ref 79, .ref 50]) (μ' := z_ui (z_ui (z_ui (z_ui (z_ui W3 79 3 1) 61 0 ((μ.1 61 0) + 1000)) 61 1 ((μ.1 61 1) + 1000)) 61 2 ((μ.1 61 2) + (-3000))) 61 3 ((μ.1 61 3) + 1000)) (by rfl) ?_
            refine zq_gfi hc hH (by rfl) (ci := 6) (f := 40) (by rfl) (by decide +kernel) (by rfl) ?_
            refine zV1 (Z := Z) (Eq.trans (ui_o (by first | decide | omega)) (Eq.trans (ui_o (by first | decide | omega)) (Eq.trans (ui_o (by first | decide | omega)) (Eq.trans (ui_o (by first | decide | omega)) (Eq.trans (ui_o (by first | decide | omega)) (Eq.trans (hO3 50 40 (by omega)).1 (Eq.trans (ui_o (by first | decide | omega)) (Eq.trans (hO2 50 40 (by omega)).1 (Eq.trans (ui_o (by first | decide | omega)) (Eq.trans (hO1 50 40 (by omega)).1 (Eq.trans (ui_o (by first | decide | omega)) (hO0 50 40 (by omega)).1))))))))))) ?_
            rw [(z_zero_o (by decide)).trans hdl]
            refine zq_bald hc hH (by rfl) 4 (by decide +kernel) (vp_in_nI (by omega) (by decide)) ?_
            rw [nI_clamp (by omega)]
            refine zV1 (Z := Z) (Eq.trans (ui_o (by first | decide | omega)) (Eq.trans (ui_o (by first | decide | omega)) (Eq.trans (ui_o (by first | decide | omega)) (Eq.trans (ui_o (by first | decide | omega)) (Eq.trans (ui_k (by first | decide | omega)) (Eq.trans (hO3 79 2 (by omega)).1 (ui_s))))))) ?_
            refine z_rcs0 hc hH 1 (pc' := 111) (lv' := [(3, .int 4), (1, .int 3), (2, .ref 79), (0, .ref 50)]) (st' := [.int 1, .int 0, .ref 50]) (by rfl) ?_
            refine zq_call hc (z_cx_ok hH (by rfl)) (gm_endsB d' (by omega) (z_ui (z_ui (z_ui (z_ui (z_ui W3 79 3 1) 61 0 ((μ.1 61 0) + 1000)) 61 1 ((μ.1 61 1) + 1000)) 61 2 ((μ.1 61 2) + (-3000))) 61 3 ((μ.1 61 3) + 1000)) false true 2 e (by rw [ui_o (by first | decide | omega), ui_o (by first | decide | omega), ui_o (by first | decide | omega), ui_o (by first | decide | omega), ui_o (by first | decide | omega), (hO3 50 40 (by omega)).1, ui_o (by first | decide | omega), (hO2 50 40 (by omega)).1, ui_o (by first | decide | omega), (hO1 50 40 (by omega)).1, ui_o (by first | decide | omega), (hO0 50 40 (by omega)).1]; exact (z_zero_o (by decide)).trans hdl) hdl4 he) (by decide +kernel) (fun r9 μ9 hq => ?_)
            obtain ⟨hr9, hm9⟩ := hq
            rw [hr9, hm9]
            clear hr9 hm9
            show Z 1 114 [(3, .int 4), (1, .int 3), (2, .ref 79), (0, .ref 50)] [] (eMB (z_ui (z_ui (z_ui (z_ui (z_ui W3 79 3 1) 61 0 ((μ.1 61 0) + 1000)) 61 1 ((μ.1 61 1) + 1000)) 61 2 ((μ.1 61 2) + (-3000))) 61 3 ((μ.1 61 3) + 1000)) false true 2 e)
            exact hr 1 114 _ _ _ none (by decide +kernel) (by rfl) (by refine ⟨rfl, ?_⟩; unfold nM1101; exact SM_eMB (SM_ui (SM_ui (SM_ui (SM_ui (SM_ui (SM_tr (SM_ui (SM_tr (SM_ui (SM_tr (SM_ui (SM_tr (SM_rf _) hO0)) hO1)) hO2)) hO3)))))))
          · skip
            refine z_rcs hc hH 3 (pc' := 106) (lv' := [(3, .int 4), (1, .int 3), (2, .ref 79), (0, .ref 50)]) (st' := [.ref 50, .ref 79, .ref 50]) (μ' := z_ui (z_ui (z_ui (z_ui (z_ui W3 79 3 1) 61 0 ((μ.1 61 0) + 1000)) 61 1 ((μ.1 61 1) + 1000)) 61 2 ((μ.1 61 2) + (-3000))) 61 3 ((μ.1 61 3) + 1000)) (by rfl) ?_
            refine zq_gfi hc hH (by rfl) (ci := 6) (f := 40) (by rfl) (by decide +kernel) (by rfl) ?_
            refine zV1 (Z := Z) (Eq.trans (ui_o (by first | decide | omega)) (Eq.trans (ui_o (by first | decide | omega)) (Eq.trans (ui_o (by first | decide | omega)) (Eq.trans (ui_o (by first | decide | omega)) (Eq.trans (ui_o (by first | decide | omega)) (Eq.trans (hO3 50 40 (by omega)).1 (Eq.trans (ui_o (by first | decide | omega)) (Eq.trans (hO2 50 40 (by omega)).1 (Eq.trans (ui_o (by first | decide | omega)) (Eq.trans (hO1 50 40 (by omega)).1 (Eq.trans (ui_o (by first | decide | omega)) (hO0 50 40 (by omega)).1))))))))))) ?_
            rw [(z_zero_o (by decide)).trans hdl]
            refine zq_bald hc hH (by rfl) 4 (by decide +kernel) (vp_in_nI (by omega) (by decide)) ?_
            rw [nI_clamp (by omega)]
            refine zV1 (Z := Z) (Eq.trans (ui_o (by first | decide | omega)) (Eq.trans (ui_o (by first | decide | omega)) (Eq.trans (ui_o (by first | decide | omega)) (Eq.trans (ui_o (by first | decide | omega)) (ui_s))))) ?_
            refine z_rcs0 hc hH 1 (pc' := 111) (lv' := [(3, .int 4), (1, .int 3), (2, .ref 79), (0, .ref 50)]) (st' := [.int 1, .int 1, .ref 50]) (by rfl) ?_
            refine zq_call hc (z_cx_ok hH (by rfl)) (gm_endsB d' (by omega) (z_ui (z_ui (z_ui (z_ui (z_ui W3 79 3 1) 61 0 ((μ.1 61 0) + 1000)) 61 1 ((μ.1 61 1) + 1000)) 61 2 ((μ.1 61 2) + (-3000))) 61 3 ((μ.1 61 3) + 1000)) true true 3 e (by rw [ui_o (by first | decide | omega), ui_o (by first | decide | omega), ui_o (by first | decide | omega), ui_o (by first | decide | omega), ui_o (by first | decide | omega), (hO3 50 40 (by omega)).1, ui_o (by first | decide | omega), (hO2 50 40 (by omega)).1, ui_o (by first | decide | omega), (hO1 50 40 (by omega)).1, ui_o (by first | decide | omega), (hO0 50 40 (by omega)).1]; exact (z_zero_o (by decide)).trans hdl) hdl4 he) (by decide +kernel) (fun r9 μ9 hq => ?_)
            obtain ⟨hr9, hm9⟩ := hq
            rw [hr9, hm9]
            clear hr9 hm9
            show Z 1 114 [(3, .int 4), (1, .int 3), (2, .ref 79), (0, .ref 50)] [] (eMB (z_ui (z_ui (z_ui (z_ui (z_ui W3 79 3 1) 61 0 ((μ.1 61 0) + 1000)) 61 1 ((μ.1 61 1) + 1000)) 61 2 ((μ.1 61 2) + (-3000))) 61 3 ((μ.1 61 3) + 1000)) true true 3 e)
            exact hr 1 114 _ _ _ none (by decide +kernel) (by rfl) (by refine ⟨rfl, ?_⟩; unfold nM1101; exact SM_eMB (SM_ui (SM_ui (SM_ui (SM_ui (SM_ui (SM_tr (SM_ui (SM_tr (SM_ui (SM_tr (SM_ui (SM_tr (SM_rf _) hO0)) hO1)) hO2)) hO3)))))))
      · have h3 : (decide ((lg_cmp w2 0) = 0)) = false := decide_eq_false (cn_eq.mp h3)
        exact absurd (Eq.trans (Eq.symm (hb2)) h3) (by decide)
noncomputable def nM1110 (μ : zM) : zM := z_ui (z_ui (z_ui (z_ui (z_ui (z_ui (z_ui (z_ui (z_zero μ) 79 0 1) 79 1 1) 79 2 1) 79 3 0) 61 0 ((μ.1 61 0) + 1000)) 61 1 ((μ.1 61 1) + 1000)) 61 2 ((μ.1 61 2) + 1000)) 61 3 ((μ.1 61 3) + (-3000))
theorem gm_nobody1110 (d : Nat) (hd : 700 ≤ d) (μ : zM) (hH0 : a_H μ) (dl e : Nat) (hdl : μ.1 50 40 = nI dl) (hdl4 : dl < 4) (he : (dl + 1) % 4 = e) (w0 : Int64) (hw0 : ∀ M, SE μ M → a_H M → ∀ d, 699 ≤ d → z_C d mi_X7_waitsAt [.ref 50, .int 0] M (fun r W => r = some (.long w0) ∧ SMj M W ∧ a_H W)) (hb0 : decide (lg_cmp w0 0 = 0) = false) (w1 : Int64) (hw1 : ∀ M, SE μ M → a_H M → ∀ d, 699 ≤ d → z_C d mi_X7_waitsAt [.ref 50, .int 1] M (fun r W => r = some (.long w1) ∧ SMj M W ∧ a_H W)) (hb1 : decide (lg_cmp w1 0 = 0) = false) (w2 : Int64) (hw2 : ∀ M, SE μ M → a_H M → ∀ d, 699 ≤ d → z_C d mi_X7_waitsAt [.ref 50, .int 2] M (fun r W => r = some (.long w2) ∧ SMj M W ∧ a_H W)) (hb2 : decide (lg_cmp w2 0 = 0) = false) (w3 : Int64) (hw3 : ∀ M, SE μ M → a_H M → ∀ d, 699 ≤ d → z_C d mi_X7_waitsAt [.ref 50, .int 3] M (fun r W => r = some (.long w3) ∧ SMj M W ∧ a_H W)) (hb3 : decide (lg_cmp w3 0 = 0) = true) : z_C d mi_X7_nobodyWins [.ref 50] μ (fun r μ' => r = none ∧ SMj (eMB (nM1110 μ) (nbS true true true false dl) true dl e) μ') := by
  obtain ⟨d', rfl⟩ : ∃ d', d = d' + 1 := ⟨d - 1, by omega⟩
  intro Z hc hr
  refine ⟨rfl, ?_⟩
  have hH := zh_X7_nobodyWins
  refine z_rcs hc hH 9 (pc' := 17) (lv' := [(3, .int 0), (2, .ref 79), (1, .int 0), (0, .ref 50)]) (st' := [.int 0, .ref 50, .int 0, .ref 79]) (μ' := z_zero μ) (by rfl) ?_
  refine zq_call hc (z_cx_ok hH (by rfl)) (hw0 _ (SE_zr _) (a_H_zero hH0) d' (by omega)) (by decide +kernel) (fun r9 W0 hq => ?_)
  obtain ⟨rfl, hO0, hA0⟩ := hq
  show Z 1 20 [(3, .int 0), (2, .ref 79), (1, .int 0), (0, .ref 50)] [.long w0, .int 0, .ref 79] W0
  refine z_rcs hc hH 2 (pc' := 22) (lv' := [(3, .int 0), (2, .ref 79), (1, .int 0), (0, .ref 50)]) (st' := [.int (lg_cmp w0 0), .int 0, .ref 79]) (μ' := W0) (by rfl) ?_
  refine zq_if hc hH (by rfl) (tg := 29) (by rfl) (fun h1 => ?_) (fun h1 => ?_)
  · have h1 : (decide ((lg_cmp w0 0) = 0)) = true := decide_eq_true (cm_eq9.mp h1)
    exact absurd (Eq.trans (Eq.symm (hb0)) h1) (by decide)
  · have h1 : (decide ((lg_cmp w0 0) = 0)) = false := decide_eq_false (cn_eq.mp h1)
    refine z_rcs hc hH 2 (pc' := 30) (lv' := [(3, .int 0), (2, .ref 79), (1, .int 0), (0, .ref 50)]) (st' := [.int 1, .int 0, .ref 79]) (μ' := W0) (by rfl) ?_
    refine zq_bast hc hH (by rfl) 4 (by decide +kernel) (show vp_in (nI 0) 4 from vp_in_nI (by decide) (by decide)) (by decide) ?_
    rw [show (0 : Int32).toNatClampNeg = 0 from rfl]
    show Z 1 31 [(3, .int 0), (2, .ref 79), (1, .int 0), (0, .ref 50)] [] (z_ui W0 79 0 1)
    refine z_rcs hc hH 3 (pc' := 34) (lv' := [(3, .int 0), (2, .ref 79), (1, .int 0), (0, .ref 50)]) (st' := [.int 0, .ref 79, .int 0]) (μ' := z_ui W0 79 0 1) (by rfl) ?_
    refine zq_bald hc hH (by rfl) 4 (by decide +kernel) (show vp_in (nI 0) 4 from vp_in_nI (by decide) (by decide)) ?_
    rw [show (0 : Int32).toNatClampNeg = 0 from rfl]
    rw [ui_s]
    refine z_rcs hc hH 14 (pc' := 17) (lv' := [(3, .int 1), (1, .int 1), (2, .ref 79), (0, .ref 50)]) (st' := [.int 1, .ref 50, .int 1, .ref 79]) (μ' := z_ui W0 79 0 1) (by rfl) ?_
    refine zq_call hc (z_cx_ok hH (by rfl)) (hw1 _ (SE_ui (SE_sm (SE_zr _) hO0) (by omega)) (a_H_ui (r := 79) (k := 0) (hA0) ⟨by decide, by decide⟩) d' (by omega)) (by decide +kernel) (fun r9 W1 hq => ?_)
    obtain ⟨rfl, hO1, hA1⟩ := hq
    show Z 1 20 [(3, .int 1), (1, .int 1), (2, .ref 79), (0, .ref 50)] [.long w1, .int 1, .ref 79] W1
    refine z_rcs hc hH 2 (pc' := 22) (lv' := [(3, .int 1), (1, .int 1), (2, .ref 79), (0, .ref 50)]) (st' := [.int (lg_cmp w1 0), .int 1, .ref 79]) (μ' := W1) (by rfl) ?_
    refine zq_if hc hH (by rfl) (tg := 29) (by rfl) (fun h2 => ?_) (fun h2 => ?_)
    · have h2 : (decide ((lg_cmp w1 0) = 0)) = true := decide_eq_true (cm_eq9.mp h2)
      exact absurd (Eq.trans (Eq.symm (hb1)) h2) (by decide)
    · have h2 : (decide ((lg_cmp w1 0) = 0)) = false := decide_eq_false (cn_eq.mp h2)
      refine z_rcs hc hH 2 (pc' := 30) (lv' := [(3, .int 1), (1, .int 1), (2, .ref 79), (0, .ref 50)]) (st' := [.int 1, .int 1, .ref 79]) (μ' := W1) (by rfl) ?_
      refine zq_bast hc hH (by rfl) 4 (by decide +kernel) (show vp_in (nI 1) 4 from vp_in_nI (by decide) (by decide)) (by decide) ?_
      rw [show (1 : Int32).toNatClampNeg = 1 from rfl]
      show Z 1 31 [(3, .int 1), (1, .int 1), (2, .ref 79), (0, .ref 50)] [] (z_ui W1 79 1 1)
      refine z_rcs hc hH 3 (pc' := 34) (lv' := [(3, .int 1), (1, .int 1), (2, .ref 79), (0, .ref 50)]) (st' := [.int 1, .ref 79, .int 1]) (μ' := z_ui W1 79 1 1) (by rfl) ?_
      refine zq_bald hc hH (by rfl) 4 (by decide +kernel) (show vp_in (nI 1) 4 from vp_in_nI (by decide) (by decide)) ?_
      rw [show (1 : Int32).toNatClampNeg = 1 from rfl]
      rw [ui_s]
      refine z_rcs hc hH 14 (pc' := 17) (lv' := [(3, .int 2), (1, .int 2), (2, .ref 79), (0, .ref 50)]) (st' := [.int 2, .ref 50, .int 2, .ref 79]) (μ' := z_ui W1 79 1 1) (by rfl) ?_
      refine zq_call hc (z_cx_ok hH (by rfl)) (hw2 _ (SE_ui (SE_sm (SE_ui (SE_sm (SE_zr _) hO0) (by omega)) hO1) (by omega)) (a_H_ui (r := 79) (k := 1) (hA1) ⟨by decide, by decide⟩) d' (by omega)) (by decide +kernel) (fun r9 W2 hq => ?_)
      obtain ⟨rfl, hO2, hA2⟩ := hq
      show Z 1 20 [(3, .int 2), (1, .int 2), (2, .ref 79), (0, .ref 50)] [.long w2, .int 2, .ref 79] W2
      refine z_rcs hc hH 2 (pc' := 22) (lv' := [(3, .int 2), (1, .int 2), (2, .ref 79), (0, .ref 50)]) (st' := [.int (lg_cmp w2 0), .int 2, .ref 79]) (μ' := W2) (by rfl) ?_
      refine zq_if hc hH (by rfl) (tg := 29) (by rfl) (fun h3 => ?_) (fun h3 => ?_)
      · have h3 : (decide ((lg_cmp w2 0) = 0)) = true := decide_eq_true (cm_eq9.mp h3)
        exact absurd (Eq.trans (Eq.symm (hb2)) h3) (by decide)
      · have h3 : (decide ((lg_cmp w2 0) = 0)) = false := decide_eq_false (cn_eq.mp h3)
        refine z_rcs hc hH 2 (pc' := 30) (lv' := [(3, .int 2), (1, .int 2), (2, .ref 79), (0, .ref 50)]) (st' := [.int 1, .int 2, .ref 79]) (μ' := W2) (by rfl) ?_
        refine zq_bast hc hH (by rfl) 4 (by decide +kernel) (show vp_in (nI 2) 4 from vp_in_nI (by decide) (by decide)) (by decide) ?_
        rw [show (2 : Int32).toNatClampNeg = 2 from rfl]
        show Z 1 31 [(3, .int 2), (1, .int 2), (2, .ref 79), (0, .ref 50)] [] (z_ui W2 79 2 1)
        refine z_rcs hc hH 3 (pc' := 34) (lv' := [(3, .int 2), (1, .int 2), (2, .ref 79), (0, .ref 50)]) (st' := [.int 2, .ref 79, .int 2]) (μ' := z_ui W2 79 2 1) (by rfl) ?_
        refine zq_bald hc hH (by rfl) 4 (by decide +kernel) (show vp_in (nI 2) 4 from vp_in_nI (by decide) (by decide)) ?_
        rw [show (2 : Int32).toNatClampNeg = 2 from rfl]
        rw [ui_s]
        refine z_rcs hc hH 14 (pc' := 17) (lv' := [(3, .int 3), (1, .int 3), (2, .ref 79), (0, .ref 50)]) (st' := [.int 3, .ref 50, .int 3, .ref 79]) (μ' := z_ui W2 79 2 1) (by rfl) ?_
        refine zq_call hc (z_cx_ok hH (by rfl)) (hw3 _ (SE_ui (SE_sm (SE_ui (SE_sm (SE_ui (SE_sm (SE_zr _) hO0) (by omega)) hO1) (by omega)) hO2) (by omega)) (a_H_ui (r := 79) (k := 2) (hA2) ⟨by decide, by decide⟩) d' (by omega)) (by decide +kernel) (fun r9 W3 hq => ?_)
        obtain ⟨rfl, hO3, hA3⟩ := hq
        show Z 1 20 [(3, .int 3), (1, .int 3), (2, .ref 79), (0, .ref 50)] [.long w3, .int 3, .ref 79] W3
        refine z_rcs hc hH 2 (pc' := 22) (lv' := [(3, .int 3), (1, .int 3), (2, .ref 79), (0, .ref 50)]) (st' := [.int (lg_cmp w3 0), .int 3, .ref 79]) (μ' := W3) (by rfl) ?_
        refine zq_if hc hH (by rfl) (tg := 29) (by rfl) (fun h4 => ?_) (fun h4 => ?_)
        · have h4 : (decide ((lg_cmp w3 0) = 0)) = true := decide_eq_true (cm_eq9.mp h4)
          refine z_rcs hc hH 1 (pc' := 30) (lv' := [(3, .int 3), (1, .int 3), (2, .ref 79), (0, .ref 50)]) (st' := [.int 0, .int 3, .ref 79]) (μ' := W3) (by rfl) ?_
          refine zq_bast hc hH (by rfl) 4 (by decide +kernel) (show vp_in (nI 3) 4 from vp_in_nI (by decide) (by decide)) (by decide) ?_
          rw [show (3 : Int32).toNatClampNeg = 3 from rfl]
          show Z 1 31 [(3, .int 3), (1, .int 3), (2, .ref 79), (0, .ref 50)] [] (z_ui W3 79 3 0)
          refine z_rcs hc hH 3 (pc' := 34) (lv' := [(3, .int 3), (1, .int 3), (2, .ref 79), (0, .ref 50)]) (st' := [.int 3, .ref 79, .int 3]) (μ' := z_ui W3 79 3 0) (by rfl) ?_
          refine zq_bald hc hH (by rfl) 4 (by decide +kernel) (show vp_in (nI 3) 4 from vp_in_nI (by decide) (by decide)) ?_
          rw [show (3 : Int32).toNatClampNeg = 3 from rfl]
          rw [ui_s]
          refine z_rcs hc hH 20 (pc' := 68) (lv' := [(3, .int 0), (1, .int 3), (2, .ref 79), (0, .ref 50)]) (st' := [.ref 50]) (μ' := z_ui W3 79 3 0) (by rfl) ?_
          refine zq_gfr hc hH (by rfl) (ci := 6) (f := 29) (q := 61) (by rfl) (by decide +kernel) (by rfl) (by decide +kernel) ?_
          refine z_rcs hc hH 2 (pc' := 73) (lv' := [(3, .int 0), (1, .int 3), (2, .ref 79), (0, .ref 50)]) (st' := [.int 0, .ref 61, .int 0, .ref 61]) (μ' := z_ui W3 79 3 0) (by rfl) ?_
          refine zq_iald hc hH (by rfl) 4 (oka_i (by decide +kernel)) (show vp_in (nI 0) 4 from vp_in_nI (by decide) (by decide)) ?_
          rw [show (0 : Int32).toNatClampNeg = 0 from rfl]
          refine zV1 (Z := Z) (Eq.trans (ui_o (by first | decide | omega)) (Eq.trans (hO3 61 0 (by omega)).1 (Eq.trans (ui_o (by first | decide | omega)) (Eq.trans (hO2 61 0 (by omega)).1 (Eq.trans (ui_o (by first | decide | omega)) (Eq.trans (hO1 61 0 (by omega)).1 (Eq.trans (ui_o (by first | decide | omega)) (hO0 61 0 (by omega)).1))))))) ?_
          rw [z_zero_o (by decide)]
          refine z_rcs hc hH 2 (pc' := 76) (lv' := [(3, .int 0), (1, .int 3), (2, .ref 79), (0, .ref 50)]) (st' := [.int 0, .ref 79, .int (μ.1 61 0), .int 0, .ref 61]) (μ' := z_ui W3 79 3 0) (by rfl) ?_
          refine zq_bald hc hH (by rfl) 4 (by decide +kernel) (show vp_in (nI 0) 4 from vp_in_nI (by decide) (by decide)) ?_
          rw [show (0 : Int32).toNatClampNeg = 0 from rfl]
          refine zV1 (Z := Z) (Eq.trans (ui_k (by first | decide | omega)) (Eq.trans (hO3 79 0 (by omega)).1 (Eq.trans (ui_k (by first | decide | omega)) (Eq.trans (hO2 79 0 (by omega)).1 (Eq.trans (ui_k (by first | decide | omega)) (Eq.trans (hO1 79 0 (by omega)).1 (ui_s))))))) ?_
          refine z_rcs hc hH 6 (pc' := 96) (lv' := [(3, .int 0), (1, .int 3), (2, .ref 79), (0, .ref 50)]) (st' := [.int ((μ.1 61 0) + 1000), .int 0, .ref 61]) (μ' := z_ui W3 79 3 0) (by rfl) ?_
          refine zq_iast hc hH (by rfl) 4 (oka_i (by decide +kernel)).2 (show vp_in (nI 0) 4 from vp_in_nI (by decide) (by decide)) ?_
          rw [show (0 : Int32).toNatClampNeg = 0 from rfl]
          show Z 1 97 [(3, .int 0), (1, .int 3), (2, .ref 79), (0, .ref 50)] [] (z_ui (z_ui W3 79 3 0) 61 0 ((μ.1 61 0) + 1000))
          refine z_rcs0 hc hH 6 (pc' := 68) (lv' := [(3, .int 1), (1, .int 3), (2, .ref 79), (0, .ref 50)]) (st' := [.ref 50]) (by rfl) ?_
          refine zq_gfr hc hH (by rfl) (ci := 6) (f := 29) (q := 61) (by rfl) (by decide +kernel) (by rfl) (by decide +kernel) ?_
          refine z_rcs0 hc hH 2 (pc' := 73) (lv' := [(3, .int 1), (1, .int 3), (2, .ref 79), (0, .ref 50)]) (st' := [.int 1, .ref 61, .int 1, .ref 61]) (by rfl) ?_
          refine zq_iald hc hH (by rfl) 4 (oka_i (by decide +kernel)) (show vp_in (nI 1) 4 from vp_in_nI (by decide) (by decide)) ?_
          rw [show (1 : Int32).toNatClampNeg = 1 from rfl]
          refine zV1 (Z := Z) (Eq.trans (ui_k (by first | decide | omega)) (Eq.trans (ui_o (by first | decide | omega)) (Eq.trans (hO3 61 1 (by omega)).1 (Eq.trans (ui_o (by first | decide | omega)) (Eq.trans (hO2 61 1 (by omega)).1 (Eq.trans (ui_o (by first | decide | omega)) (Eq.trans (hO1 61 1 (by omega)).1 (Eq.trans (ui_o (by first | decide | omega)) (hO0 61 1 (by omega)).1)))))))) ?_
          rw [z_zero_o (by decide)]
          refine z_rcs0 hc hH 2 (pc' := 76) (lv' := [(3, .int 1), (1, .int 3), (2, .ref 79), (0, .ref 50)]) (st' := [.int 1, .ref 79, .int (μ.1 61 1), .int 1, .ref 61]) (by rfl) ?_
          refine zq_bald hc hH (by rfl) 4 (by decide +kernel) (show vp_in (nI 1) 4 from vp_in_nI (by decide) (by decide)) ?_
          rw [show (1 : Int32).toNatClampNeg = 1 from rfl]
          refine zV1 (Z := Z) (Eq.trans (ui_o (by first | decide | omega)) (Eq.trans (ui_k (by first | decide | omega)) (Eq.trans (hO3 79 1 (by omega)).1 (Eq.trans (ui_k (by first | decide | omega)) (Eq.trans (hO2 79 1 (by omega)).1 (ui_s)))))) ?_
          refine z_rcs0 hc hH 6 (pc' := 96) (lv' := [(3, .int 1), (1, .int 3), (2, .ref 79), (0, .ref 50)]) (st' := [.int ((μ.1 61 1) + 1000), .int 1, .ref 61]) (by rfl) ?_
          refine zq_iast hc hH (by rfl) 4 (oka_i (by decide +kernel)).2 (show vp_in (nI 1) 4 from vp_in_nI (by decide) (by decide)) ?_
          rw [show (1 : Int32).toNatClampNeg = 1 from rfl]
          show Z 1 97 [(3, .int 1), (1, .int 3), (2, .ref 79), (0, .ref 50)] [] (z_ui (z_ui (z_ui W3 79 3 0) 61 0 ((μ.1 61 0) + 1000)) 61 1 ((μ.1 61 1) + 1000))
          refine z_rcs0 hc hH 6 (pc' := 68) (lv' := [(3, .int 2), (1, .int 3), (2, .ref 79), (0, .ref 50)]) (st' := [.ref 50]) (by rfl) ?_
          refine zq_gfr hc hH (by rfl) (ci := 6) (f := 29) (q := 61) (by rfl) (by decide +kernel) (by rfl) (by decide +kernel) ?_
          refine z_rcs0 hc hH 2 (pc' := 73) (lv' := [(3, .int 2), (1, .int 3), (2, .ref 79), (0, .ref 50)]) (st' := [.int 2, .ref 61, .int 2, .ref 61]) (by rfl) ?_
          refine zq_iald hc hH (by rfl) 4 (oka_i (by decide +kernel)) (show vp_in (nI 2) 4 from vp_in_nI (by decide) (by decide)) ?_
          rw [show (2 : Int32).toNatClampNeg = 2 from rfl]
          refine zV1 (Z := Z) (Eq.trans (ui_k (by first | decide | omega)) (Eq.trans (ui_k (by first | decide | omega)) (Eq.trans (ui_o (by first | decide | omega)) (Eq.trans (hO3 61 2 (by omega)).1 (Eq.trans (ui_o (by first | decide | omega)) (Eq.trans (hO2 61 2 (by omega)).1 (Eq.trans (ui_o (by first | decide | omega)) (Eq.trans (hO1 61 2 (by omega)).1 (Eq.trans (ui_o (by first | decide | omega)) (hO0 61 2 (by omega)).1))))))))) ?_
          rw [z_zero_o (by decide)]
          refine z_rcs0 hc hH 2 (pc' := 76) (lv' := [(3, .int 2), (1, .int 3), (2, .ref 79), (0, .ref 50)]) (st' := [.int 2, .ref 79, .int (μ.1 61 2), .int 2, .ref 61]) (by rfl) ?_
          refine zq_bald hc hH (by rfl) 4 (by decide +kernel) (show vp_in (nI 2) 4 from vp_in_nI (by decide) (by decide)) ?_
          rw [show (2 : Int32).toNatClampNeg = 2 from rfl]
          refine zV1 (Z := Z) (Eq.trans (ui_o (by first | decide | omega)) (Eq.trans (ui_o (by first | decide | omega)) (Eq.trans (ui_k (by first | decide | omega)) (Eq.trans (hO3 79 2 (by omega)).1 (ui_s))))) ?_
          refine z_rcs0 hc hH 6 (pc' := 96) (lv' := [(3, .int 2), (1, .int 3), (2, .ref 79), (0, .ref 50)]) (st' := [.int ((μ.1 61 2) + 1000), .int 2, .ref 61]) (by rfl) ?_
          refine zq_iast hc hH (by rfl) 4 (oka_i (by decide +kernel)).2 (show vp_in (nI 2) 4 from vp_in_nI (by decide) (by decide)) ?_
          rw [show (2 : Int32).toNatClampNeg = 2 from rfl]
          show Z 1 97 [(3, .int 2), (1, .int 3), (2, .ref 79), (0, .ref 50)] [] (z_ui (z_ui (z_ui (z_ui W3 79 3 0) 61 0 ((μ.1 61 0) + 1000)) 61 1 ((μ.1 61 1) + 1000)) 61 2 ((μ.1 61 2) + 1000))
          refine z_rcs0 hc hH 6 (pc' := 68) (lv' := [(3, .int 3), (1, .int 3), (2, .ref 79), (0, .ref 50)]) (st' := [.ref 50]) (by rfl) ?_
          refine zq_gfr hc hH (by rfl) (ci := 6) (f := 29) (q := 61) (by rfl) (by decide +kernel) (by rfl) (by decide +kernel) ?_
          refine z_rcs0 hc hH 2 (pc' := 73) (lv' := [(3, .int 3), (1, .int 3), (2, .ref 79), (0, .ref 50)]) (st' := [.int 3, .ref 61, .int 3, .ref 61]) (by rfl) ?_
          refine zq_iald hc hH (by rfl) 4 (oka_i (by decide +kernel)) (show vp_in (nI 3) 4 from vp_in_nI (by decide) (by decide)) ?_
          rw [show (3 : Int32).toNatClampNeg = 3 from rfl]
          refine zV1 (Z := Z) (Eq.trans (ui_k (by first | decide | omega)) (Eq.trans (ui_k (by first | decide | omega)) (Eq.trans (ui_k (by first | decide | omega)) (Eq.trans (ui_o (by first | decide | omega)) (Eq.trans (hO3 61 3 (by omega)).1 (Eq.trans (ui_o (by first | decide | omega)) (Eq.trans (hO2 61 3 (by omega)).1 (Eq.trans (ui_o (by first | decide | omega)) (Eq.trans (hO1 61 3 (by omega)).1 (Eq.trans (ui_o (by first | decide | omega)) (hO0 61 3 (by omega)).1)))))))))) ?_
          rw [z_zero_o (by decide)]
          refine z_rcs0 hc hH 2 (pc' := 76) (lv' := [(3, .int 3), (1, .int 3), (2, .ref 79), (0, .ref 50)]) (st' := [.int 3, .ref 79, .int (μ.1 61 3), .int 3, .ref 61]) (by rfl) ?_
          refine zq_bald hc hH (by rfl) 4 (by decide +kernel) (show vp_in (nI 3) 4 from vp_in_nI (by decide) (by decide)) ?_
          rw [show (3 : Int32).toNatClampNeg = 3 from rfl]
          refine zV1 (Z := Z) (Eq.trans (ui_o (by first | decide | omega)) (Eq.trans (ui_o (by first | decide | omega)) (Eq.trans (ui_o (by first | decide | omega)) (ui_s)))) ?_
          refine z_rcs0 hc hH 7 (pc' := 96) (lv' := [(3, .int 3), (1, .int 3), (2, .ref 79), (0, .ref 50)]) (st' := [.int ((μ.1 61 3) + (-3000)), .int 3, .ref 61]) (by rfl) ?_
          refine zq_iast hc hH (by rfl) 4 (oka_i (by decide +kernel)).2 (show vp_in (nI 3) 4 from vp_in_nI (by decide) (by decide)) ?_
          rw [show (3 : Int32).toNatClampNeg = 3 from rfl]
          show Z 1 97 [(3, .int 3), (1, .int 3), (2, .ref 79), (0, .ref 50)] [] (z_ui (z_ui (z_ui (z_ui (z_ui W3 79 3 0) 61 0 ((μ.1 61 0) + 1000)) 61 1 ((μ.1 61 1) + 1000)) 61 2 ((μ.1 61 2) + 1000)) 61 3 ((μ.1 61 3) + (-3000)))
          refine z_rcs0 hc hH 5 (pc' := 103) (lv' := [(3, .int 4), (1, .int 3), (2, .ref 79), (0, .ref 50)]) (st' := []) (by rfl) ?_
          obtain rfl | rfl | rfl | rfl : dl = 0 ∨ dl = 1 ∨ dl = 2 ∨ dl = 3 := by omega
          · skip
            refine z_rcs0 hc hH 3 (pc' := 106) (lv' := [(3, .int 4), (1, .int 3), (2, .ref 79), (0, .ref 50)]) (st' := [.ref 50, .ref 79, .ref 50]) (by rfl) ?_
            refine zq_gfi hc hH (by rfl) (ci := 6) (f := 40) (by rfl) (by decide +kernel) (by rfl) ?_
            refine zV1 (Z := Z) (Eq.trans (ui_o (by first | decide | omega)) (Eq.trans (ui_o (by first | decide | omega)) (Eq.trans (ui_o (by first | decide | omega)) (Eq.trans (ui_o (by first | decide | omega)) (Eq.trans (ui_o (by first | decide | omega)) (Eq.trans (hO3 50 40 (by omega)).1 (Eq.trans (ui_o (by first | decide | omega)) (Eq.trans (hO2 50 40 (by omega)).1 (Eq.trans (ui_o (by first | decide | omega)) (Eq.trans (hO1 50 40 (by omega)).1 (Eq.trans (ui_o (by first | decide | omega)) (hO0 50 40 (by omega)).1))))))))))) ?_
            rw [(z_zero_o (by decide)).trans hdl]
            refine zq_bald hc hH (by rfl) 4 (by decide +kernel) (vp_in_nI (by omega) (by decide)) ?_
            rw [nI_clamp (by omega)]
            refine zV1 (Z := Z) (Eq.trans (ui_o (by first | decide | omega)) (Eq.trans (ui_o (by first | decide | omega)) (Eq.trans (ui_o (by first | decide | omega)) (Eq.trans (ui_o (by first | decide | omega)) (Eq.trans (ui_k (by first | decide | omega)) (Eq.trans (hO3 79 0 (by omega)).1 (Eq.trans (ui_k (by first | decide | omega)) (Eq.trans (hO2 79 0 (by omega)).1 (Eq.trans (ui_k (by first | decide | omega)) (Eq.trans (hO1 79 0 (by omega)).1 (ui_s))))))))))) ?_
            refine z_rcs0 hc hH 1 (pc' := 111) (lv' := [(3, .int 4), (1, .int 3), (2, .ref 79), (0, .ref 50)]) (st' := [.int 1, .int 1, .ref 50]) (by rfl) ?_
            refine zq_call hc (z_cx_ok hH (by rfl)) (gm_endsB d' (by omega) (z_ui (z_ui (z_ui (z_ui (z_ui W3 79 3 0) 61 0 ((μ.1 61 0) + 1000)) 61 1 ((μ.1 61 1) + 1000)) 61 2 ((μ.1 61 2) + 1000)) 61 3 ((μ.1 61 3) + (-3000))) true true 0 e (by rw [ui_o (by first | decide | omega), ui_o (by first | decide | omega), ui_o (by first | decide | omega), ui_o (by first | decide | omega), ui_o (by first | decide | omega), (hO3 50 40 (by omega)).1, ui_o (by first | decide | omega), (hO2 50 40 (by omega)).1, ui_o (by first | decide | omega), (hO1 50 40 (by omega)).1, ui_o (by first | decide | omega), (hO0 50 40 (by omega)).1]; exact (z_zero_o (by decide)).trans hdl) hdl4 he) (by decide +kernel) (fun r9 μ9 hq => ?_)
            obtain ⟨hr9, hm9⟩ := hq
            rw [hr9, hm9]
            clear hr9 hm9
            show Z 1 114 [(3, .int 4), (1, .int 3), (2, .ref 79), (0, .ref 50)] [] (eMB (z_ui (z_ui (z_ui (z_ui (z_ui W3 79 3 0) 61 0 ((μ.1 61 0) + 1000)) 61 1 ((μ.1 61 1) + 1000)) 61 2 ((μ.1 61 2) + 1000)) 61 3 ((μ.1 61 3) + (-3000))) true true 0 e)
            exact hr 1 114 _ _ _ none (by decide +kernel) (by rfl) (by refine ⟨rfl, ?_⟩; unfold nM1110; exact SM_eMB (SM_ui (SM_ui (SM_ui (SM_ui (SM_ui (SM_tr (SM_ui (SM_tr (SM_ui (SM_tr (SM_ui (SM_tr (SM_rf _) hO0)) hO1)) hO2)) hO3)))))))
          · skip
            refine z_rcs hc hH 3 (pc' := 106) (lv' := [(3, .int 4), (1, .int 3), (2, .ref 79), (0, .ref 50)]) (st' := [.ref 50, .ref 79, .ref 50]) (μ' := z_ui (z_ui (z_ui (z_ui (z_ui W3 79 3 0) 61 0 ((μ.1 61 0) + 1000)) 61 1 ((μ.1 61 1) + 1000)) 61 2 ((μ.1 61 2) + 1000)) 61 3 ((μ.1 61 3) + (-3000))) (by rfl) ?_
            refine zq_gfi hc hH (by rfl) (ci := 6) (f := 40) (by rfl) (by decide +kernel) (by rfl) ?_
            refine zV1 (Z := Z) (Eq.trans (ui_o (by first | decide | omega)) (Eq.trans (ui_o (by first | decide | omega)) (Eq.trans (ui_o (by first | decide | omega)) (Eq.trans (ui_o (by first | decide | omega)) (Eq.trans (ui_o (by first | decide | omega)) (Eq.trans (hO3 50 40 (by omega)).1 (Eq.trans (ui_o (by first | decide | omega)) (Eq.trans (hO2 50 40 (by omega)).1 (Eq.trans (ui_o (by first | decide | omega)) (Eq.trans (hO1 50 40 (by omega)).1 (Eq.trans (ui_o (by first | decide | omega)) (hO0 50 40 (by omega)).1))))))))))) ?_
            rw [(z_zero_o (by decide)).trans hdl]
            refine zq_bald hc hH (by rfl) 4 (by decide +kernel) (vp_in_nI (by omega) (by decide)) ?_
            rw [nI_clamp (by omega)]
            refine zV1 (Z := Z) (Eq.trans (ui_o (by first | decide | omega)) (Eq.trans (ui_o (by first | decide | omega)) (Eq.trans (ui_o (by first | decide | omega)) (Eq.trans (ui_o (by first | decide | omega)) (Eq.trans (ui_k (by first | decide | omega)) (Eq.trans (hO3 79 1 (by omega)).1 (Eq.trans (ui_k (by first | decide | omega)) (Eq.trans (hO2 79 1 (by omega)).1 (ui_s))))))))) ?_
            refine z_rcs0 hc hH 1 (pc' := 111) (lv' := [(3, .int 4), (1, .int 3), (2, .ref 79), (0, .ref 50)]) (st' := [.int 1, .int 1, .ref 50]) (by rfl) ?_
            refine zq_call hc (z_cx_ok hH (by rfl)) (gm_endsB d' (by omega) (z_ui (z_ui (z_ui (z_ui (z_ui W3 79 3 0) 61 0 ((μ.1 61 0) + 1000)) 61 1 ((μ.1 61 1) + 1000)) 61 2 ((μ.1 61 2) + 1000)) 61 3 ((μ.1 61 3) + (-3000))) true true 1 e (by rw [ui_o (by first | decide | omega), ui_o (by first | decide | omega), ui_o (by first | decide | omega), ui_o (by first | decide | omega), ui_o (by first | decide | omega), (hO3 50 40 (by omega)).1, ui_o (by first | decide | omega), (hO2 50 40 (by omega)).1, ui_o (by first | decide | omega), (hO1 50 40 (by omega)).1, ui_o (by first | decide | omega), (hO0 50 40 (by omega)).1]; exact (z_zero_o (by decide)).trans hdl) hdl4 he) (by decide +kernel) (fun r9 μ9 hq => ?_)
            obtain ⟨hr9, hm9⟩ := hq
            rw [hr9, hm9]
            clear hr9 hm9
            show Z 1 114 [(3, .int 4), (1, .int 3), (2, .ref 79), (0, .ref 50)] [] (eMB (z_ui (z_ui (z_ui (z_ui (z_ui W3 79 3 0) 61 0 ((μ.1 61 0) + 1000)) 61 1 ((μ.1 61 1) + 1000)) 61 2 ((μ.1 61 2) + 1000)) 61 3 ((μ.1 61 3) + (-3000))) true true 1 e)
            exact hr 1 114 _ _ _ none (by decide +kernel) (by rfl) (by refine ⟨rfl, ?_⟩; unfold nM1110; exact SM_eMB (SM_ui (SM_ui (SM_ui (SM_ui (SM_ui (SM_tr (SM_ui (SM_tr (SM_ui (SM_tr (SM_ui (SM_tr (SM_rf _) hO0)) hO1)) hO2)) hO3)))))))
          · skip
            refine z_rcs hc hH 3 (pc' := 106) (lv' := [(3, .int 4), (1, .int 3), (2, .ref 79), (0, .ref 50)]) (st' := [.ref 50, .ref 79, .ref 50]) (μ' := z_ui (z_ui (z_ui (z_ui (z_ui W3 79 3 0) 61 0 ((μ.1 61 0) + 1000)) 61 1 ((μ.1 61 1) + 1000)) 61 2 ((μ.1 61 2) + 1000)) 61 3 ((μ.1 61 3) + (-3000))) (by rfl) ?_
            refine zq_gfi hc hH (by rfl) (ci := 6) (f := 40) (by rfl) (by decide +kernel) (by rfl) ?_
            refine zV1 (Z := Z) (Eq.trans (ui_o (by first | decide | omega)) (Eq.trans (ui_o (by first | decide | omega)) (Eq.trans (ui_o (by first | decide | omega)) (Eq.trans (ui_o (by first | decide | omega)) (Eq.trans (ui_o (by first | decide | omega)) (Eq.trans (hO3 50 40 (by omega)).1 (Eq.trans (ui_o (by first | decide | omega)) (Eq.trans (hO2 50 40 (by omega)).1 (Eq.trans (ui_o (by first | decide | omega)) (Eq.trans (hO1 50 40 (by omega)).1 (Eq.trans (ui_o (by first | decide | omega)) (hO0 50 40 (by omega)).1))))))))))) ?_
            rw [(z_zero_o (by decide)).trans hdl]
            refine zq_bald hc hH (by rfl) 4 (by decide +kernel) (vp_in_nI (by omega) (by decide)) ?_
            rw [nI_clamp (by omega)]
            refine zV1 (Z := Z) (Eq.trans (ui_o (by first | decide | omega)) (Eq.trans (ui_o (by first | decide | omega)) (Eq.trans (ui_o (by first | decide | omega)) (Eq.trans (ui_o (by first | decide | omega)) (Eq.trans (ui_k (by first | decide | omega)) (Eq.trans (hO3 79 2 (by omega)).1 (ui_s))))))) ?_
            refine z_rcs0 hc hH 1 (pc' := 111) (lv' := [(3, .int 4), (1, .int 3), (2, .ref 79), (0, .ref 50)]) (st' := [.int 1, .int 1, .ref 50]) (by rfl) ?_
            refine zq_call hc (z_cx_ok hH (by rfl)) (gm_endsB d' (by omega) (z_ui (z_ui (z_ui (z_ui (z_ui W3 79 3 0) 61 0 ((μ.1 61 0) + 1000)) 61 1 ((μ.1 61 1) + 1000)) 61 2 ((μ.1 61 2) + 1000)) 61 3 ((μ.1 61 3) + (-3000))) true true 2 e (by rw [ui_o (by first | decide | omega), ui_o (by first | decide | omega), ui_o (by first | decide | omega), ui_o (by first | decide | omega), ui_o (by first | decide | omega), (hO3 50 40 (by omega)).1, ui_o (by first | decide | omega), (hO2 50 40 (by omega)).1, ui_o (by first | decide | omega), (hO1 50 40 (by omega)).1, ui_o (by first | decide | omega), (hO0 50 40 (by omega)).1]; exact (z_zero_o (by decide)).trans hdl) hdl4 he) (by decide +kernel) (fun r9 μ9 hq => ?_)
            obtain ⟨hr9, hm9⟩ := hq
            rw [hr9, hm9]
            clear hr9 hm9
            show Z 1 114 [(3, .int 4), (1, .int 3), (2, .ref 79), (0, .ref 50)] [] (eMB (z_ui (z_ui (z_ui (z_ui (z_ui W3 79 3 0) 61 0 ((μ.1 61 0) + 1000)) 61 1 ((μ.1 61 1) + 1000)) 61 2 ((μ.1 61 2) + 1000)) 61 3 ((μ.1 61 3) + (-3000))) true true 2 e)
            exact hr 1 114 _ _ _ none (by decide +kernel) (by rfl) (by refine ⟨rfl, ?_⟩; unfold nM1110; exact SM_eMB (SM_ui (SM_ui (SM_ui (SM_ui (SM_ui (SM_tr (SM_ui (SM_tr (SM_ui (SM_tr (SM_ui (SM_tr (SM_rf _) hO0)) hO1)) hO2)) hO3)))))))
          · skip
            refine z_rcs hc hH 3 (pc' := 106) (lv' := [(3, .int 4), (1, .int 3), (2, .ref 79), (0, .ref 50)]) (st' := [.ref 50, .ref 79, .ref 50]) (μ' := z_ui (z_ui (z_ui (z_ui (z_ui W3 79 3 0) 61 0 ((μ.1 61 0) + 1000)) 61 1 ((μ.1 61 1) + 1000)) 61 2 ((μ.1 61 2) + 1000)) 61 3 ((μ.1 61 3) + (-3000))) (by rfl) ?_
            refine zq_gfi hc hH (by rfl) (ci := 6) (f := 40) (by rfl) (by decide +kernel) (by rfl) ?_
            refine zV1 (Z := Z) (Eq.trans (ui_o (by first | decide | omega)) (Eq.trans (ui_o (by first | decide | omega)) (Eq.trans (ui_o (by first | decide | omega)) (Eq.trans (ui_o (by first | decide | omega)) (Eq.trans (ui_o (by first | decide | omega)) (Eq.trans (hO3 50 40 (by omega)).1 (Eq.trans (ui_o (by first | decide | omega)) (Eq.trans (hO2 50 40 (by omega)).1 (Eq.trans (ui_o (by first | decide | omega)) (Eq.trans (hO1 50 40 (by omega)).1 (Eq.trans (ui_o (by first | decide | omega)) (hO0 50 40 (by omega)).1))))))))))) ?_
            rw [(z_zero_o (by decide)).trans hdl]
            refine zq_bald hc hH (by rfl) 4 (by decide +kernel) (vp_in_nI (by omega) (by decide)) ?_
            rw [nI_clamp (by omega)]
            refine zV1 (Z := Z) (Eq.trans (ui_o (by first | decide | omega)) (Eq.trans (ui_o (by first | decide | omega)) (Eq.trans (ui_o (by first | decide | omega)) (Eq.trans (ui_o (by first | decide | omega)) (ui_s))))) ?_
            refine z_rcs0 hc hH 1 (pc' := 111) (lv' := [(3, .int 4), (1, .int 3), (2, .ref 79), (0, .ref 50)]) (st' := [.int 1, .int 0, .ref 50]) (by rfl) ?_
            refine zq_call hc (z_cx_ok hH (by rfl)) (gm_endsB d' (by omega) (z_ui (z_ui (z_ui (z_ui (z_ui W3 79 3 0) 61 0 ((μ.1 61 0) + 1000)) 61 1 ((μ.1 61 1) + 1000)) 61 2 ((μ.1 61 2) + 1000)) 61 3 ((μ.1 61 3) + (-3000))) false true 3 e (by rw [ui_o (by first | decide | omega), ui_o (by first | decide | omega), ui_o (by first | decide | omega), ui_o (by first | decide | omega), ui_o (by first | decide | omega), (hO3 50 40 (by omega)).1, ui_o (by first | decide | omega), (hO2 50 40 (by omega)).1, ui_o (by first | decide | omega), (hO1 50 40 (by omega)).1, ui_o (by first | decide | omega), (hO0 50 40 (by omega)).1]; exact (z_zero_o (by decide)).trans hdl) hdl4 he) (by decide +kernel) (fun r9 μ9 hq => ?_)
            obtain ⟨hr9, hm9⟩ := hq
            rw [hr9, hm9]
            clear hr9 hm9
            show Z 1 114 [(3, .int 4), (1, .int 3), (2, .ref 79), (0, .ref 50)] [] (eMB (z_ui (z_ui (z_ui (z_ui (z_ui W3 79 3 0) 61 0 ((μ.1 61 0) + 1000)) 61 1 ((μ.1 61 1) + 1000)) 61 2 ((μ.1 61 2) + 1000)) 61 3 ((μ.1 61 3) + (-3000))) false true 3 e)
            exact hr 1 114 _ _ _ none (by decide +kernel) (by rfl) (by refine ⟨rfl, ?_⟩; unfold nM1110; exact SM_eMB (SM_ui (SM_ui (SM_ui (SM_ui (SM_ui (SM_tr (SM_ui (SM_tr (SM_ui (SM_tr (SM_ui (SM_tr (SM_rf _) hO0)) hO1)) hO2)) hO3)))))))
        · have h4 : (decide ((lg_cmp w3 0) = 0)) = false := decide_eq_false (cn_eq.mp h4)
          exact absurd (Eq.trans (Eq.symm (hb3)) h4) (by decide)
noncomputable def nM1111 (μ : zM) : zM := z_ui (z_ui (z_ui (z_ui (z_zero μ) 79 0 1) 79 1 1) 79 2 1) 79 3 1
theorem gm_nobody1111 (d : Nat) (hd : 700 ≤ d) (μ : zM) (hH0 : a_H μ) (dl e : Nat) (hdl : μ.1 50 40 = nI dl) (hdl4 : dl < 4) (he : (dl + 1) % 4 = e) (w0 : Int64) (hw0 : ∀ M, SE μ M → a_H M → ∀ d, 699 ≤ d → z_C d mi_X7_waitsAt [.ref 50, .int 0] M (fun r W => r = some (.long w0) ∧ SMj M W ∧ a_H W)) (hb0 : decide (lg_cmp w0 0 = 0) = false) (w1 : Int64) (hw1 : ∀ M, SE μ M → a_H M → ∀ d, 699 ≤ d → z_C d mi_X7_waitsAt [.ref 50, .int 1] M (fun r W => r = some (.long w1) ∧ SMj M W ∧ a_H W)) (hb1 : decide (lg_cmp w1 0 = 0) = false) (w2 : Int64) (hw2 : ∀ M, SE μ M → a_H M → ∀ d, 699 ≤ d → z_C d mi_X7_waitsAt [.ref 50, .int 2] M (fun r W => r = some (.long w2) ∧ SMj M W ∧ a_H W)) (hb2 : decide (lg_cmp w2 0 = 0) = false) (w3 : Int64) (hw3 : ∀ M, SE μ M → a_H M → ∀ d, 699 ≤ d → z_C d mi_X7_waitsAt [.ref 50, .int 3] M (fun r W => r = some (.long w3) ∧ SMj M W ∧ a_H W)) (hb3 : decide (lg_cmp w3 0 = 0) = false) : z_C d mi_X7_nobodyWins [.ref 50] μ (fun r μ' => r = none ∧ SMj (eMB (nM1111 μ) (nbS true true true true dl) true dl e) μ') := by
  obtain ⟨d', rfl⟩ : ∃ d', d = d' + 1 := ⟨d - 1, by omega⟩
  intro Z hc hr
  refine ⟨rfl, ?_⟩
  have hH := zh_X7_nobodyWins
  refine z_rcs hc hH 9 (pc' := 17) (lv' := [(3, .int 0), (2, .ref 79), (1, .int 0), (0, .ref 50)]) (st' := [.int 0, .ref 50, .int 0, .ref 79]) (μ' := z_zero μ) (by rfl) ?_
  refine zq_call hc (z_cx_ok hH (by rfl)) (hw0 _ (SE_zr _) (a_H_zero hH0) d' (by omega)) (by decide +kernel) (fun r9 W0 hq => ?_)
  obtain ⟨rfl, hO0, hA0⟩ := hq
  show Z 1 20 [(3, .int 0), (2, .ref 79), (1, .int 0), (0, .ref 50)] [.long w0, .int 0, .ref 79] W0
  refine z_rcs hc hH 2 (pc' := 22) (lv' := [(3, .int 0), (2, .ref 79), (1, .int 0), (0, .ref 50)]) (st' := [.int (lg_cmp w0 0), .int 0, .ref 79]) (μ' := W0) (by rfl) ?_
  refine zq_if hc hH (by rfl) (tg := 29) (by rfl) (fun h1 => ?_) (fun h1 => ?_)
  · have h1 : (decide ((lg_cmp w0 0) = 0)) = true := decide_eq_true (cm_eq9.mp h1)
    exact absurd (Eq.trans (Eq.symm (hb0)) h1) (by decide)
  · have h1 : (decide ((lg_cmp w0 0) = 0)) = false := decide_eq_false (cn_eq.mp h1)
    refine z_rcs hc hH 2 (pc' := 30) (lv' := [(3, .int 0), (2, .ref 79), (1, .int 0), (0, .ref 50)]) (st' := [.int 1, .int 0, .ref 79]) (μ' := W0) (by rfl) ?_
    refine zq_bast hc hH (by rfl) 4 (by decide +kernel) (show vp_in (nI 0) 4 from vp_in_nI (by decide) (by decide)) (by decide) ?_
    rw [show (0 : Int32).toNatClampNeg = 0 from rfl]
    show Z 1 31 [(3, .int 0), (2, .ref 79), (1, .int 0), (0, .ref 50)] [] (z_ui W0 79 0 1)
    refine z_rcs hc hH 3 (pc' := 34) (lv' := [(3, .int 0), (2, .ref 79), (1, .int 0), (0, .ref 50)]) (st' := [.int 0, .ref 79, .int 0]) (μ' := z_ui W0 79 0 1) (by rfl) ?_
    refine zq_bald hc hH (by rfl) 4 (by decide +kernel) (show vp_in (nI 0) 4 from vp_in_nI (by decide) (by decide)) ?_
    rw [show (0 : Int32).toNatClampNeg = 0 from rfl]
    rw [ui_s]
    refine z_rcs hc hH 14 (pc' := 17) (lv' := [(3, .int 1), (1, .int 1), (2, .ref 79), (0, .ref 50)]) (st' := [.int 1, .ref 50, .int 1, .ref 79]) (μ' := z_ui W0 79 0 1) (by rfl) ?_
    refine zq_call hc (z_cx_ok hH (by rfl)) (hw1 _ (SE_ui (SE_sm (SE_zr _) hO0) (by omega)) (a_H_ui (r := 79) (k := 0) (hA0) ⟨by decide, by decide⟩) d' (by omega)) (by decide +kernel) (fun r9 W1 hq => ?_)
    obtain ⟨rfl, hO1, hA1⟩ := hq
    show Z 1 20 [(3, .int 1), (1, .int 1), (2, .ref 79), (0, .ref 50)] [.long w1, .int 1, .ref 79] W1
    refine z_rcs hc hH 2 (pc' := 22) (lv' := [(3, .int 1), (1, .int 1), (2, .ref 79), (0, .ref 50)]) (st' := [.int (lg_cmp w1 0), .int 1, .ref 79]) (μ' := W1) (by rfl) ?_
    refine zq_if hc hH (by rfl) (tg := 29) (by rfl) (fun h2 => ?_) (fun h2 => ?_)
    · have h2 : (decide ((lg_cmp w1 0) = 0)) = true := decide_eq_true (cm_eq9.mp h2)
      exact absurd (Eq.trans (Eq.symm (hb1)) h2) (by decide)
    · have h2 : (decide ((lg_cmp w1 0) = 0)) = false := decide_eq_false (cn_eq.mp h2)
      refine z_rcs hc hH 2 (pc' := 30) (lv' := [(3, .int 1), (1, .int 1), (2, .ref 79), (0, .ref 50)]) (st' := [.int 1, .int 1, .ref 79]) (μ' := W1) (by rfl) ?_
      refine zq_bast hc hH (by rfl) 4 (by decide +kernel) (show vp_in (nI 1) 4 from vp_in_nI (by decide) (by decide)) (by decide) ?_
      rw [show (1 : Int32).toNatClampNeg = 1 from rfl]
      show Z 1 31 [(3, .int 1), (1, .int 1), (2, .ref 79), (0, .ref 50)] [] (z_ui W1 79 1 1)
      refine z_rcs hc hH 3 (pc' := 34) (lv' := [(3, .int 1), (1, .int 1), (2, .ref 79), (0, .ref 50)]) (st' := [.int 1, .ref 79, .int 1]) (μ' := z_ui W1 79 1 1) (by rfl) ?_
      refine zq_bald hc hH (by rfl) 4 (by decide +kernel) (show vp_in (nI 1) 4 from vp_in_nI (by decide) (by decide)) ?_
      rw [show (1 : Int32).toNatClampNeg = 1 from rfl]
      rw [ui_s]
      refine z_rcs hc hH 14 (pc' := 17) (lv' := [(3, .int 2), (1, .int 2), (2, .ref 79), (0, .ref 50)]) (st' := [.int 2, .ref 50, .int 2, .ref 79]) (μ' := z_ui W1 79 1 1) (by rfl) ?_
      refine zq_call hc (z_cx_ok hH (by rfl)) (hw2 _ (SE_ui (SE_sm (SE_ui (SE_sm (SE_zr _) hO0) (by omega)) hO1) (by omega)) (a_H_ui (r := 79) (k := 1) (hA1) ⟨by decide, by decide⟩) d' (by omega)) (by decide +kernel) (fun r9 W2 hq => ?_)
      obtain ⟨rfl, hO2, hA2⟩ := hq
      show Z 1 20 [(3, .int 2), (1, .int 2), (2, .ref 79), (0, .ref 50)] [.long w2, .int 2, .ref 79] W2
      refine z_rcs hc hH 2 (pc' := 22) (lv' := [(3, .int 2), (1, .int 2), (2, .ref 79), (0, .ref 50)]) (st' := [.int (lg_cmp w2 0), .int 2, .ref 79]) (μ' := W2) (by rfl) ?_
      refine zq_if hc hH (by rfl) (tg := 29) (by rfl) (fun h3 => ?_) (fun h3 => ?_)
      · have h3 : (decide ((lg_cmp w2 0) = 0)) = true := decide_eq_true (cm_eq9.mp h3)
        exact absurd (Eq.trans (Eq.symm (hb2)) h3) (by decide)
      · have h3 : (decide ((lg_cmp w2 0) = 0)) = false := decide_eq_false (cn_eq.mp h3)
        refine z_rcs hc hH 2 (pc' := 30) (lv' := [(3, .int 2), (1, .int 2), (2, .ref 79), (0, .ref 50)]) (st' := [.int 1, .int 2, .ref 79]) (μ' := W2) (by rfl) ?_
        refine zq_bast hc hH (by rfl) 4 (by decide +kernel) (show vp_in (nI 2) 4 from vp_in_nI (by decide) (by decide)) (by decide) ?_
        rw [show (2 : Int32).toNatClampNeg = 2 from rfl]
        show Z 1 31 [(3, .int 2), (1, .int 2), (2, .ref 79), (0, .ref 50)] [] (z_ui W2 79 2 1)
        refine z_rcs hc hH 3 (pc' := 34) (lv' := [(3, .int 2), (1, .int 2), (2, .ref 79), (0, .ref 50)]) (st' := [.int 2, .ref 79, .int 2]) (μ' := z_ui W2 79 2 1) (by rfl) ?_
        refine zq_bald hc hH (by rfl) 4 (by decide +kernel) (show vp_in (nI 2) 4 from vp_in_nI (by decide) (by decide)) ?_
        rw [show (2 : Int32).toNatClampNeg = 2 from rfl]
        rw [ui_s]
        refine z_rcs hc hH 14 (pc' := 17) (lv' := [(3, .int 3), (1, .int 3), (2, .ref 79), (0, .ref 50)]) (st' := [.int 3, .ref 50, .int 3, .ref 79]) (μ' := z_ui W2 79 2 1) (by rfl) ?_
        refine zq_call hc (z_cx_ok hH (by rfl)) (hw3 _ (SE_ui (SE_sm (SE_ui (SE_sm (SE_ui (SE_sm (SE_zr _) hO0) (by omega)) hO1) (by omega)) hO2) (by omega)) (a_H_ui (r := 79) (k := 2) (hA2) ⟨by decide, by decide⟩) d' (by omega)) (by decide +kernel) (fun r9 W3 hq => ?_)
        obtain ⟨rfl, hO3, hA3⟩ := hq
        show Z 1 20 [(3, .int 3), (1, .int 3), (2, .ref 79), (0, .ref 50)] [.long w3, .int 3, .ref 79] W3
        refine z_rcs hc hH 2 (pc' := 22) (lv' := [(3, .int 3), (1, .int 3), (2, .ref 79), (0, .ref 50)]) (st' := [.int (lg_cmp w3 0), .int 3, .ref 79]) (μ' := W3) (by rfl) ?_
        refine zq_if hc hH (by rfl) (tg := 29) (by rfl) (fun h4 => ?_) (fun h4 => ?_)
        · have h4 : (decide ((lg_cmp w3 0) = 0)) = true := decide_eq_true (cm_eq9.mp h4)
          exact absurd (Eq.trans (Eq.symm (hb3)) h4) (by decide)
        · have h4 : (decide ((lg_cmp w3 0) = 0)) = false := decide_eq_false (cn_eq.mp h4)
          refine z_rcs hc hH 2 (pc' := 30) (lv' := [(3, .int 3), (1, .int 3), (2, .ref 79), (0, .ref 50)]) (st' := [.int 1, .int 3, .ref 79]) (μ' := W3) (by rfl) ?_
          refine zq_bast hc hH (by rfl) 4 (by decide +kernel) (show vp_in (nI 3) 4 from vp_in_nI (by decide) (by decide)) (by decide) ?_
          rw [show (3 : Int32).toNatClampNeg = 3 from rfl]
          show Z 1 31 [(3, .int 3), (1, .int 3), (2, .ref 79), (0, .ref 50)] [] (z_ui W3 79 3 1)
          refine z_rcs hc hH 3 (pc' := 34) (lv' := [(3, .int 3), (1, .int 3), (2, .ref 79), (0, .ref 50)]) (st' := [.int 3, .ref 79, .int 3]) (μ' := z_ui W3 79 3 1) (by rfl) ?_
          refine zq_bald hc hH (by rfl) 4 (by decide +kernel) (show vp_in (nI 3) 4 from vp_in_nI (by decide) (by decide)) ?_
          rw [show (3 : Int32).toNatClampNeg = 3 from rfl]
          rw [ui_s]
          refine z_rcs hc hH 15 (pc' := 103) (lv' := [(3, .int 4), (1, .int 4), (2, .ref 79), (0, .ref 50)]) (st' := []) (μ' := z_ui W3 79 3 1) (by rfl) ?_
          obtain rfl | rfl | rfl | rfl : dl = 0 ∨ dl = 1 ∨ dl = 2 ∨ dl = 3 := by omega
          · skip
            refine z_rcs hc hH 3 (pc' := 106) (lv' := [(3, .int 4), (1, .int 4), (2, .ref 79), (0, .ref 50)]) (st' := [.ref 50, .ref 79, .ref 50]) (μ' := z_ui W3 79 3 1) (by rfl) ?_
            refine zq_gfi hc hH (by rfl) (ci := 6) (f := 40) (by rfl) (by decide +kernel) (by rfl) ?_
            refine zV1 (Z := Z) (Eq.trans (ui_o (by first | decide | omega)) (Eq.trans (hO3 50 40 (by omega)).1 (Eq.trans (ui_o (by first | decide | omega)) (Eq.trans (hO2 50 40 (by omega)).1 (Eq.trans (ui_o (by first | decide | omega)) (Eq.trans (hO1 50 40 (by omega)).1 (Eq.trans (ui_o (by first | decide | omega)) (hO0 50 40 (by omega)).1))))))) ?_
            rw [(z_zero_o (by decide)).trans hdl]
            refine zq_bald hc hH (by rfl) 4 (by decide +kernel) (vp_in_nI (by omega) (by decide)) ?_
            rw [nI_clamp (by omega)]
            refine zV1 (Z := Z) (Eq.trans (ui_k (by first | decide | omega)) (Eq.trans (hO3 79 0 (by omega)).1 (Eq.trans (ui_k (by first | decide | omega)) (Eq.trans (hO2 79 0 (by omega)).1 (Eq.trans (ui_k (by first | decide | omega)) (Eq.trans (hO1 79 0 (by omega)).1 (ui_s))))))) ?_
            refine z_rcs hc hH 1 (pc' := 111) (lv' := [(3, .int 4), (1, .int 4), (2, .ref 79), (0, .ref 50)]) (st' := [.int 1, .int 1, .ref 50]) (μ' := z_ui W3 79 3 1) (by rfl) ?_
            refine zq_call hc (z_cx_ok hH (by rfl)) (gm_endsB d' (by omega) (z_ui W3 79 3 1) true true 0 e (by rw [ui_o (by first | decide | omega), (hO3 50 40 (by omega)).1, ui_o (by first | decide | omega), (hO2 50 40 (by omega)).1, ui_o (by first | decide | omega), (hO1 50 40 (by omega)).1, ui_o (by first | decide | omega), (hO0 50 40 (by omega)).1]; exact (z_zero_o (by decide)).trans hdl) hdl4 he) (by decide +kernel) (fun r9 μ9 hq => ?_)
            obtain ⟨hr9, hm9⟩ := hq
            rw [hr9, hm9]
            clear hr9 hm9
            show Z 1 114 [(3, .int 4), (1, .int 4), (2, .ref 79), (0, .ref 50)] [] (eMB (z_ui W3 79 3 1) true true 0 e)
            exact hr 1 114 _ _ _ none (by decide +kernel) (by rfl) (by refine ⟨rfl, ?_⟩; unfold nM1111; exact SM_eMB (SM_ui (SM_tr (SM_ui (SM_tr (SM_ui (SM_tr (SM_ui (SM_tr (SM_rf _) hO0)) hO1)) hO2)) hO3)))
          · skip
            refine z_rcs hc hH 3 (pc' := 106) (lv' := [(3, .int 4), (1, .int 4), (2, .ref 79), (0, .ref 50)]) (st' := [.ref 50, .ref 79, .ref 50]) (μ' := z_ui W3 79 3 1) (by rfl) ?_
            refine zq_gfi hc hH (by rfl) (ci := 6) (f := 40) (by rfl) (by decide +kernel) (by rfl) ?_
            refine zV1 (Z := Z) (Eq.trans (ui_o (by first | decide | omega)) (Eq.trans (hO3 50 40 (by omega)).1 (Eq.trans (ui_o (by first | decide | omega)) (Eq.trans (hO2 50 40 (by omega)).1 (Eq.trans (ui_o (by first | decide | omega)) (Eq.trans (hO1 50 40 (by omega)).1 (Eq.trans (ui_o (by first | decide | omega)) (hO0 50 40 (by omega)).1))))))) ?_
            rw [(z_zero_o (by decide)).trans hdl]
            refine zq_bald hc hH (by rfl) 4 (by decide +kernel) (vp_in_nI (by omega) (by decide)) ?_
            rw [nI_clamp (by omega)]
            refine zV1 (Z := Z) (Eq.trans (ui_k (by first | decide | omega)) (Eq.trans (hO3 79 1 (by omega)).1 (Eq.trans (ui_k (by first | decide | omega)) (Eq.trans (hO2 79 1 (by omega)).1 (ui_s))))) ?_
            refine z_rcs hc hH 1 (pc' := 111) (lv' := [(3, .int 4), (1, .int 4), (2, .ref 79), (0, .ref 50)]) (st' := [.int 1, .int 1, .ref 50]) (μ' := z_ui W3 79 3 1) (by rfl) ?_
            refine zq_call hc (z_cx_ok hH (by rfl)) (gm_endsB d' (by omega) (z_ui W3 79 3 1) true true 1 e (by rw [ui_o (by first | decide | omega), (hO3 50 40 (by omega)).1, ui_o (by first | decide | omega), (hO2 50 40 (by omega)).1, ui_o (by first | decide | omega), (hO1 50 40 (by omega)).1, ui_o (by first | decide | omega), (hO0 50 40 (by omega)).1]; exact (z_zero_o (by decide)).trans hdl) hdl4 he) (by decide +kernel) (fun r9 μ9 hq => ?_)
            obtain ⟨hr9, hm9⟩ := hq
            rw [hr9, hm9]
            clear hr9 hm9
            show Z 1 114 [(3, .int 4), (1, .int 4), (2, .ref 79), (0, .ref 50)] [] (eMB (z_ui W3 79 3 1) true true 1 e)
            exact hr 1 114 _ _ _ none (by decide +kernel) (by rfl) (by refine ⟨rfl, ?_⟩; unfold nM1111; exact SM_eMB (SM_ui (SM_tr (SM_ui (SM_tr (SM_ui (SM_tr (SM_ui (SM_tr (SM_rf _) hO0)) hO1)) hO2)) hO3)))
          · skip
            refine z_rcs hc hH 3 (pc' := 106) (lv' := [(3, .int 4), (1, .int 4), (2, .ref 79), (0, .ref 50)]) (st' := [.ref 50, .ref 79, .ref 50]) (μ' := z_ui W3 79 3 1) (by rfl) ?_
            refine zq_gfi hc hH (by rfl) (ci := 6) (f := 40) (by rfl) (by decide +kernel) (by rfl) ?_
            refine zV1 (Z := Z) (Eq.trans (ui_o (by first | decide | omega)) (Eq.trans (hO3 50 40 (by omega)).1 (Eq.trans (ui_o (by first | decide | omega)) (Eq.trans (hO2 50 40 (by omega)).1 (Eq.trans (ui_o (by first | decide | omega)) (Eq.trans (hO1 50 40 (by omega)).1 (Eq.trans (ui_o (by first | decide | omega)) (hO0 50 40 (by omega)).1))))))) ?_
            rw [(z_zero_o (by decide)).trans hdl]
            refine zq_bald hc hH (by rfl) 4 (by decide +kernel) (vp_in_nI (by omega) (by decide)) ?_
            rw [nI_clamp (by omega)]
            refine zV1 (Z := Z) (Eq.trans (ui_k (by first | decide | omega)) (Eq.trans (hO3 79 2 (by omega)).1 (ui_s))) ?_
            refine z_rcs hc hH 1 (pc' := 111) (lv' := [(3, .int 4), (1, .int 4), (2, .ref 79), (0, .ref 50)]) (st' := [.int 1, .int 1, .ref 50]) (μ' := z_ui W3 79 3 1) (by rfl) ?_
            refine zq_call hc (z_cx_ok hH (by rfl)) (gm_endsB d' (by omega) (z_ui W3 79 3 1) true true 2 e (by rw [ui_o (by first | decide | omega), (hO3 50 40 (by omega)).1, ui_o (by first | decide | omega), (hO2 50 40 (by omega)).1, ui_o (by first | decide | omega), (hO1 50 40 (by omega)).1, ui_o (by first | decide | omega), (hO0 50 40 (by omega)).1]; exact (z_zero_o (by decide)).trans hdl) hdl4 he) (by decide +kernel) (fun r9 μ9 hq => ?_)
            obtain ⟨hr9, hm9⟩ := hq
            rw [hr9, hm9]
            clear hr9 hm9
            show Z 1 114 [(3, .int 4), (1, .int 4), (2, .ref 79), (0, .ref 50)] [] (eMB (z_ui W3 79 3 1) true true 2 e)
            exact hr 1 114 _ _ _ none (by decide +kernel) (by rfl) (by refine ⟨rfl, ?_⟩; unfold nM1111; exact SM_eMB (SM_ui (SM_tr (SM_ui (SM_tr (SM_ui (SM_tr (SM_ui (SM_tr (SM_rf _) hO0)) hO1)) hO2)) hO3)))
          · skip
            refine z_rcs hc hH 3 (pc' := 106) (lv' := [(3, .int 4), (1, .int 4), (2, .ref 79), (0, .ref 50)]) (st' := [.ref 50, .ref 79, .ref 50]) (μ' := z_ui W3 79 3 1) (by rfl) ?_
            refine zq_gfi hc hH (by rfl) (ci := 6) (f := 40) (by rfl) (by decide +kernel) (by rfl) ?_
            refine zV1 (Z := Z) (Eq.trans (ui_o (by first | decide | omega)) (Eq.trans (hO3 50 40 (by omega)).1 (Eq.trans (ui_o (by first | decide | omega)) (Eq.trans (hO2 50 40 (by omega)).1 (Eq.trans (ui_o (by first | decide | omega)) (Eq.trans (hO1 50 40 (by omega)).1 (Eq.trans (ui_o (by first | decide | omega)) (hO0 50 40 (by omega)).1))))))) ?_
            rw [(z_zero_o (by decide)).trans hdl]
            refine zq_bald hc hH (by rfl) 4 (by decide +kernel) (vp_in_nI (by omega) (by decide)) ?_
            rw [nI_clamp (by omega)]
            rw [ui_s]
            refine z_rcs hc hH 1 (pc' := 111) (lv' := [(3, .int 4), (1, .int 4), (2, .ref 79), (0, .ref 50)]) (st' := [.int 1, .int 1, .ref 50]) (μ' := z_ui W3 79 3 1) (by rfl) ?_
            refine zq_call hc (z_cx_ok hH (by rfl)) (gm_endsB d' (by omega) (z_ui W3 79 3 1) true true 3 e (by rw [ui_o (by first | decide | omega), (hO3 50 40 (by omega)).1, ui_o (by first | decide | omega), (hO2 50 40 (by omega)).1, ui_o (by first | decide | omega), (hO1 50 40 (by omega)).1, ui_o (by first | decide | omega), (hO0 50 40 (by omega)).1]; exact (z_zero_o (by decide)).trans hdl) hdl4 he) (by decide +kernel) (fun r9 μ9 hq => ?_)
            obtain ⟨hr9, hm9⟩ := hq
            rw [hr9, hm9]
            clear hr9 hm9
            show Z 1 114 [(3, .int 4), (1, .int 4), (2, .ref 79), (0, .ref 50)] [] (eMB (z_ui W3 79 3 1) true true 3 e)
            exact hr 1 114 _ _ _ none (by decide +kernel) (by rfl) (by refine ⟨rfl, ?_⟩; unfold nM1111; exact SM_eMB (SM_ui (SM_tr (SM_ui (SM_tr (SM_ui (SM_tr (SM_ui (SM_tr (SM_rf _) hO0)) hO1)) hO2)) hO3)))
