/-! the game: claims, hide of the reference -/
set_option maxRecDepth 8000
theorem lys_o {μ : zM} {a q r k : Nat} {so kk : Int32} (h : r ≠ 62 ∧ r ≠ 63 ∧ r ≠ 64) : (z_lys μ a q so kk).1 r k = μ.1 r k := by
  unfold z_lys; rw [ui_o h.2.2, ui_o h.2.1, ui_o h.1]
theorem lys_j {μ : zM} {a q r k : Nat} {so kk : Int32} : (z_lys μ a q so kk).2.1 r k = μ.2.1 r k := rfl
theorem toM_o {μ : zM} {r k : Nat} (h : r ≠ 69 ∧ (r ≠ 50 ∨ k ≠ 56)) : (toM μ).1 r k = μ.1 r k := by
  unfold toM
  rw [ui_o h.1, ui_o h.1, ui_o h.1, ui_o h.1]
  rcases h.2 with c | c
  · exact ui_o c
  · exact ui_k c
theorem toM_j {μ : zM} {r k : Nat} : (toM μ).2.1 r k = μ.2.1 r k := rfl
def clM (μ : zM) (s q : Nat) (so kk : Int32) : zM := z_ui (z_ui (z_ui (z_ui (z_ui (toM (z_lys μ s q so kk) ) 50 45 (nI s)) 50 44 1) 50 49 (-1)) 50 57 1) 50 58 0
theorem gm_claims (d : Nat) (hd : 2 ≤ d) (μ : zM) (s q : Nat) (so kk : Int32) (hs4 : s < 4) (hq4 : q < 4) (e64 : μ.1 64 s = nI q) : z_C d mi_X7_claims [.ref 50, .int (nI s), .int so, .int kk] μ (fun r μ' => r = none ∧ μ' = clM μ s q so kk) := by
  refine z_C_in (by decide) (by omega) (fun d' Z ed hc hr => ?_)
  have hH : zH mi_X7_claims zc_X7_claims 79 7 4 := ⟨by rfl, by rfl, by rfl, by rfl⟩
  refine z_rcs hc hH 4 (pc' := 4) (lv' := [(0, .ref 50), (1, .int (nI s)), (2, .int so), (3, .int kk)]) (st' := [.int kk, .int so, .int (nI s), .ref 50]) (μ' := μ) (by rfl) ?_
  refine zq_call hc (by rfl) (fc_X7_lays d' (by omega) μ s q so kk hs4 hq4 e64) (by decide +kernel) (fun r9 μ9 hq => ?_)
  obtain ⟨rfl, rfl⟩ := hq
  show Z 0 7 [(0, .ref 50), (1, .int (nI s)), (2, .int so), (3, .int kk)] [] (z_lys μ s q so kk)
  refine z_rcs hc hH 1 (pc' := 8) (lv' := [(0, .ref 50), (1, .int (nI s)), (2, .int so), (3, .int kk)]) (st' := [.ref 50]) (μ' := z_lys μ s q so kk) (by rfl) ?_
  refine zq_call hc (by rfl) (gm_touched d' (by omega) (z_lys μ s q so kk)) (by decide +kernel) (fun r9 μ9 hq => ?_)
  obtain ⟨rfl, rfl⟩ := hq
  show Z 0 11 [(0, .ref 50), (1, .int (nI s)), (2, .int so), (3, .int kk)] [] (toM (z_lys μ s q so kk) )
  refine z_rcs hc hH 2 (pc' := 13) (lv' := [(0, .ref 50), (1, .int (nI s)), (2, .int so), (3, .int kk)]) (st' := [.int (nI s), .ref 50]) (μ' := toM (z_lys μ s q so kk) ) (by rfl) ?_
  refine zq_pfi hc hH (by rfl) (ci := 6) (f := 45) (by rfl) (by decide +kernel) (by rfl) ?_
  show Z 0 16 [(0, .ref 50), (1, .int (nI s)), (2, .int so), (3, .int kk)] [] (z_ui (toM (z_lys μ s q so kk) ) 50 45 (nI s))
  refine z_rcs hc hH 2 (pc' := 18) (lv' := [(0, .ref 50), (1, .int (nI s)), (2, .int so), (3, .int kk)]) (st' := [.int 1, .ref 50]) (μ' := z_ui (toM (z_lys μ s q so kk) ) 50 45 (nI s)) (by rfl) ?_
  refine zq_pfi hc hH (by rfl) (ci := 6) (f := 44) (by rfl) (by decide +kernel) (by rfl) ?_
  show Z 0 21 [(0, .ref 50), (1, .int (nI s)), (2, .int so), (3, .int kk)] [] (z_ui (z_ui (toM (z_lys μ s q so kk) ) 50 45 (nI s)) 50 44 1)
  refine z_rcs hc hH 2 (pc' := 23) (lv' := [(0, .ref 50), (1, .int (nI s)), (2, .int so), (3, .int kk)]) (st' := [.int (-1), .ref 50]) (μ' := z_ui (z_ui (toM (z_lys μ s q so kk) ) 50 45 (nI s)) 50 44 1) (by rfl) ?_
  refine zq_pfi hc hH (by rfl) (ci := 6) (f := 49) (by rfl) (by decide +kernel) (by rfl) ?_
  show Z 0 26 [(0, .ref 50), (1, .int (nI s)), (2, .int so), (3, .int kk)] [] (z_ui (z_ui (z_ui (toM (z_lys μ s q so kk) ) 50 45 (nI s)) 50 44 1) 50 49 (-1))
  refine z_rcs hc hH 2 (pc' := 28) (lv' := [(0, .ref 50), (1, .int (nI s)), (2, .int so), (3, .int kk)]) (st' := [.int 1, .ref 50]) (μ' := z_ui (z_ui (z_ui (toM (z_lys μ s q so kk) ) 50 45 (nI s)) 50 44 1) 50 49 (-1)) (by rfl) ?_
  refine zq_pfb hc hH (by rfl) (ci := 6) (f := 57) (by rfl) (by decide +kernel) (by rfl) (by decide) ?_
  show Z 0 31 [(0, .ref 50), (1, .int (nI s)), (2, .int so), (3, .int kk)] [] (z_ui (z_ui (z_ui (z_ui (toM (z_lys μ s q so kk) ) 50 45 (nI s)) 50 44 1) 50 49 (-1)) 50 57 1)
  refine z_rcs hc hH 2 (pc' := 33) (lv' := [(0, .ref 50), (1, .int (nI s)), (2, .int so), (3, .int kk)]) (st' := [.int 0, .ref 50]) (μ' := z_ui (z_ui (z_ui (z_ui (toM (z_lys μ s q so kk) ) 50 45 (nI s)) 50 44 1) 50 49 (-1)) 50 57 1) (by rfl) ?_
  refine zq_pfb hc hH (by rfl) (ci := 6) (f := 58) (by rfl) (by decide +kernel) (by rfl) (by decide) ?_
  show Z 0 36 [(0, .ref 50), (1, .int (nI s)), (2, .int so), (3, .int kk)] [] (z_ui (z_ui (z_ui (z_ui (z_ui (toM (z_lys μ s q so kk) ) 50 45 (nI s)) 50 44 1) 50 49 (-1)) 50 57 1) 50 58 0)
  exact hr 0 36 _ _ _ none (by decide +kernel) (by rfl) (⟨rfl, rfl⟩)
theorem gm_isKindN (d : Nat) (hd : 1 ≤ d) (μ : zM) (k : Nat) (hk : k < 34) : z_C d mi_X7_isKind [.int (nI k)] μ (zR μ (.int 1)) := by
  refine z_C_mono (fc_X7_isKind d hd μ (nI k)) (fun r μ' z => ⟨z.1, ?_⟩)
  rcases z.2 with ⟨h, _⟩ | ⟨_, h⟩
  · exact h
  · exact absurd (vp_in_nI hk (by decide)) h
theorem gm_hide (d : Nat) (hd : 5 ≤ d) (μ : zM) (t : Nat) (ht4 : t < 4) (ht : μ.1 50 45 = nI t) (k q n k2 : Nat) (hk : k < 34) (hq4 : q < 4) (e64 : μ.1 64 t = nI q) (hn2 : n < 14) (hn : μ.1 50 48 = nI n) (hk2 : k2 < 34) (hkk : μ.1 59 (122 + n) = nI k2) (mm : Bool) (hmm : ∀ d, 2 ≤ d → z_C d mi_X7_mayMake [.ref 50] (z_ui μ 50 0 0) (zR (z_ui μ 50 0 0) (.int (nB mm)))) : z_C d mi_X7_hide [.ref 50, .int (nI k)] μ (fun r μ' => r = some ((bif mm then (bif decide ((μ.1 60 (34 * t + k)) = 4) then .int 1 else .int 0) else .int 0)) ∧ μ' = (bif mm then (bif decide ((μ.1 60 (34 * t + k)) = 4) then dM1 (z_ui (toM (z_lys (z_giv (z_ui μ 50 0 0) t k (-4)) t q 3 (nI k)) ) 50 47 ((μ.1 50 47) + 1)) t n k2 else z_ui μ 50 0 0) else z_ui μ 50 0 0)) := by
  refine z_C_in (by decide) (by omega) (fun d' Z ed hc hr => ?_)
  have hH : zH mi_X7_hide zc_X7_hide 79 7 2 := ⟨by rfl, by rfl, by rfl, by rfl⟩
  refine z_rcs hc hH 2 (pc' := 2) (lv' := [(0, .ref 50), (1, .int (nI k))]) (st' := [.int 0, .ref 50]) (μ' := μ) (by rfl) ?_
  refine zq_pfi hc hH (by rfl) (ci := 6) (f := 0) (by rfl) (by decide +kernel) (by rfl) ?_
  show Z 0 5 [(0, .ref 50), (1, .int (nI k))] [] (z_ui μ 50 0 0)
  refine z_rcs hc hH 1 (pc' := 6) (lv' := [(0, .ref 50), (1, .int (nI k))]) (st' := [.ref 50]) (μ' := z_ui μ 50 0 0) (by rfl) ?_
  refine zq_call hc (by rfl) (hmm d' (by omega)) (by decide +kernel) (fun r9 μ9 hq => ?_)
  obtain ⟨hμ9, rfl⟩ := hq
  rw [hμ9]
  clear hμ9 μ9
  show Z 0 9 [(0, .ref 50), (1, .int (nI k))] [.int (nB mm)] (z_ui μ 50 0 0)
  refine zq_if hc hH (by rfl) (tg := 32) (by rfl) (fun h1 => ?_) (fun h1 => ?_)
  · have h1 : (mm) = false := nB_z.mp (cm_eq9.mp h1)
    refine z_rcs hc hH 1 (pc' := 33) (lv' := [(0, .ref 50), (1, .int (nI k))]) (st' := [.int 0]) (μ' := z_ui μ 50 0 0) (by rfl) ?_
    exact hr 0 33 _ _ _ (some (.int 0)) (by decide +kernel) (by rfl) (⟨(by first | rfl | simp only [h1, cond_true, cond_false]), (by simp only [h1, cond_true, cond_false])⟩)
  · have h1 : (mm) = true := nB_n.mp (cn_eq.mp h1)
    refine z_rcs hc hH 1 (pc' := 13) (lv' := [(0, .ref 50), (1, .int (nI k))]) (st' := [.int (nI k)]) (μ' := z_ui μ 50 0 0) (by rfl) ?_
    refine zq_call hc (by rfl) (gm_isKindN d' (by omega) (z_ui μ 50 0 0) k hk) (by decide +kernel) (fun r9 μ9 hq => ?_)
    obtain ⟨hμ9, rfl⟩ := hq
    rw [hμ9]
    clear hμ9 μ9
    show Z 0 16 [(0, .ref 50), (1, .int (nI k))] [.int 1] (z_ui μ 50 0 0)
    refine z_rcs hc hH 3 (pc' := 21) (lv' := [(0, .ref 50), (1, .int (nI k))]) (st' := [.ref 50, .ref 50]) (μ' := z_ui μ 50 0 0) (by rfl) ?_
    refine zq_gfi hc hH (by rfl) (ci := 6) (f := 45) (by rfl) (by decide +kernel) (by rfl) ?_
    rw [ui_k (by omega)]
    rw [ht]
    refine z_rcs hc hH 1 (pc' := 25) (lv' := [(0, .ref 50), (1, .int (nI k))]) (st' := [.int (nI k), .int (nI t), .ref 50]) (μ' := z_ui μ 50 0 0) (by rfl) ?_
    refine zq_call hc (by rfl) (fc_X7_has_ d' (by omega) (z_ui μ 50 0 0) t k ht4 hk) (by decide +kernel) (fun r9 μ9 hq => ?_)
    obtain ⟨hμ9, rfl⟩ := hq
    rw [hμ9]
    clear hμ9 μ9
    rw [ui_o (by omega)]
    show Z 0 28 [(0, .ref 50), (1, .int (nI k))] [.int (μ.1 60 (34 * t + k))] (z_ui μ 50 0 0)
    refine z_rcs hc hH 1 (pc' := 29) (lv' := [(0, .ref 50), (1, .int (nI k))]) (st' := [.int 4, .int (μ.1 60 (34 * t + k))]) (μ' := z_ui μ 50 0 0) (by rfl) ?_
    refine zq_ic hc hH (by rfl) (tg := 34) (by rfl) (fun h2 => ?_) (fun h2 => ?_)
    · have h2 : (decide ((μ.1 60 (34 * t + k)) = 4)) = true := decide_eq_true (cm_eq9.mp h2)
      refine z_rcs hc hH 2 (pc' := 36) (lv' := [(0, .ref 50), (1, .int (nI k))]) (st' := [.ref 50, .ref 50]) (μ' := z_ui μ 50 0 0) (by rfl) ?_
      refine zq_gfi hc hH (by rfl) (ci := 6) (f := 45) (by rfl) (by decide +kernel) (by rfl) ?_
      rw [ui_k (by omega)]
      rw [ht]
      refine z_rcs hc hH 2 (pc' := 42) (lv' := [(0, .ref 50), (1, .int (nI k))]) (st' := [.int (-4), .int (nI k), .int (nI t), .ref 50]) (μ' := z_ui μ 50 0 0) (by rfl) ?_
      refine zq_call hc (by rfl) (fc_X7_gives d' (by omega) (z_ui μ 50 0 0) t k (-4) ht4 hk) (by decide +kernel) (fun r9 μ9 hq => ?_)
      obtain ⟨rfl, rfl⟩ := hq
      show Z 0 45 [(0, .ref 50), (1, .int (nI k))] [] (z_giv (z_ui μ 50 0 0) t k (-4))
      refine z_rcs hc hH 2 (pc' := 47) (lv' := [(0, .ref 50), (1, .int (nI k))]) (st' := [.ref 50, .ref 50]) (μ' := z_giv (z_ui μ 50 0 0) t k (-4)) (by rfl) ?_
      refine zq_gfi hc hH (by rfl) (ci := 6) (f := 45) (by rfl) (by decide +kernel) (by rfl) ?_
      rw [giv_o (by omega), ui_k (by omega)]
      rw [ht]
      refine z_rcs hc hH 2 (pc' := 52) (lv' := [(0, .ref 50), (1, .int (nI k))]) (st' := [.int (nI k), .int 3, .int (nI t), .ref 50]) (μ' := z_giv (z_ui μ 50 0 0) t k (-4)) (by rfl) ?_
      refine zq_call hc (by rfl) (fc_X7_lays d' (by omega) (z_giv (z_ui μ 50 0 0) t k (-4)) t q 3 (nI k) ht4 hq4 (by rw [giv_o (by omega), ui_o (by omega)]; exact e64)) (by decide +kernel) (fun r9 μ9 hq => ?_)
      obtain ⟨rfl, rfl⟩ := hq
      show Z 0 55 [(0, .ref 50), (1, .int (nI k))] [] (z_lys (z_giv (z_ui μ 50 0 0) t k (-4)) t q 3 (nI k))
      refine z_rcs hc hH 1 (pc' := 56) (lv' := [(0, .ref 50), (1, .int (nI k))]) (st' := [.ref 50]) (μ' := z_lys (z_giv (z_ui μ 50 0 0) t k (-4)) t q 3 (nI k)) (by rfl) ?_
      refine zq_call hc (by rfl) (gm_touched d' (by omega) (z_lys (z_giv (z_ui μ 50 0 0) t k (-4)) t q 3 (nI k))) (by decide +kernel) (fun r9 μ9 hq => ?_)
      obtain ⟨rfl, rfl⟩ := hq
      show Z 0 59 [(0, .ref 50), (1, .int (nI k))] [] (toM (z_lys (z_giv (z_ui μ 50 0 0) t k (-4)) t q 3 (nI k)) )
      refine z_rcs hc hH 2 (pc' := 61) (lv' := [(0, .ref 50), (1, .int (nI k))]) (st' := [.ref 50, .ref 50]) (μ' := toM (z_lys (z_giv (z_ui μ 50 0 0) t k (-4)) t q 3 (nI k)) ) (by rfl) ?_
      refine zq_gfi hc hH (by rfl) (ci := 6) (f := 47) (by rfl) (by decide +kernel) (by rfl) ?_
      rw [toM_o (by omega), lys_o (by omega), giv_o (by omega), ui_k (by omega)]
      refine z_rcs hc hH 2 (pc' := 66) (lv' := [(0, .ref 50), (1, .int (nI k))]) (st' := [.int ((μ.1 50 47) + 1), .ref 50]) (μ' := toM (z_lys (z_giv (z_ui μ 50 0 0) t k (-4)) t q 3 (nI k)) ) (by rfl) ?_
      refine zq_pfi hc hH (by rfl) (ci := 6) (f := 47) (by rfl) (by decide +kernel) (by rfl) ?_
      show Z 0 69 [(0, .ref 50), (1, .int (nI k))] [] (z_ui (toM (z_lys (z_giv (z_ui μ 50 0 0) t k (-4)) t q 3 (nI k)) ) 50 47 ((μ.1 50 47) + 1))
      refine z_rcs hc hH 2 (pc' := 71) (lv' := [(0, .ref 50), (1, .int (nI k))]) (st' := [.ref 50, .ref 50]) (μ' := z_ui (toM (z_lys (z_giv (z_ui μ 50 0 0) t k (-4)) t q 3 (nI k)) ) 50 47 ((μ.1 50 47) + 1)) (by rfl) ?_
      refine zq_gfi hc hH (by rfl) (ci := 6) (f := 45) (by rfl) (by decide +kernel) (by rfl) ?_
      rw [ui_k (by omega), toM_o (by omega), lys_o (by omega), giv_o (by omega), ui_k (by omega)]
      rw [ht]
      refine z_rcs hc hH 1 (pc' := 75) (lv' := [(0, .ref 50), (1, .int (nI k))]) (st' := [.int 1, .int (nI t), .ref 50]) (μ' := z_ui (toM (z_lys (z_giv (z_ui μ 50 0 0) t k (-4)) t q 3 (nI k)) ) 50 47 ((μ.1 50 47) + 1)) (by rfl) ?_
      refine zq_call hc (by rfl) (gm_draws1 d' (by omega) (z_ui (toM (z_lys (z_giv (z_ui μ 50 0 0) t k (-4)) t q 3 (nI k)) ) 50 47 ((μ.1 50 47) + 1)) t n k2 ht4 hn2 (by rw [ui_k (by omega), toM_o (by omega), lys_o (by omega), giv_o (by omega), ui_k (by omega)]; exact hn) hk2 (by rw [ui_o (by omega), toM_o (by omega), lys_o (by omega), giv_o (by omega), ui_o (by omega)]; exact hkk)) (by decide +kernel) (fun r9 μ9 hq => ?_)
      obtain ⟨rfl, rfl⟩ := hq
      show Z 0 78 [(0, .ref 50), (1, .int (nI k))] [] (dM1 (z_ui (toM (z_lys (z_giv (z_ui μ 50 0 0) t k (-4)) t q 3 (nI k)) ) 50 47 ((μ.1 50 47) + 1)) t n k2)
      refine z_rcs hc hH 1 (pc' := 79) (lv' := [(0, .ref 50), (1, .int (nI k))]) (st' := [.int 1]) (μ' := dM1 (z_ui (toM (z_lys (z_giv (z_ui μ 50 0 0) t k (-4)) t q 3 (nI k)) ) 50 47 ((μ.1 50 47) + 1)) t n k2) (by rfl) ?_
      exact hr 0 79 _ _ _ (some (.int 1)) (by decide +kernel) (by rfl) (⟨(by first | rfl | simp only [h1, h2, cond_true, cond_false]), (by simp only [h1, h2, cond_true, cond_false])⟩)
    · have h2 : (decide ((μ.1 60 (34 * t + k)) = 4)) = false := decide_eq_false (cn_eq.mp h2)
      refine z_rcs hc hH 1 (pc' := 33) (lv' := [(0, .ref 50), (1, .int (nI k))]) (st' := [.int 0]) (μ' := z_ui μ 50 0 0) (by rfl) ?_
      exact hr 0 33 _ _ _ (some (.int 0)) (by decide +kernel) (by rfl) (⟨(by first | rfl | simp only [h1, h2, cond_true, cond_false]), (by simp only [h1, h2, cond_true, cond_false])⟩)
