/-! ends: both games behind them -/
set_option maxRecDepth 8000
theorem rg_ends {x m : zM} (R : RCl x m) (hfo : x.1 2 3 = m.1 50 47) (htu : x.1 0 8 = m.1 50 45) {dl e : Nat} (hdl : m.1 50 40 = nI dl) (hdl4 : dl < 4) (he : (dl + 1) % 4 = e) (ds ow : Bool) : RG (eHB x ds ow (xBk x) dl e (rcM x)) (eMB m ds (!ow) dl e) := by
  obtain ⟨h1, p1, p2, p3, p4, p5, p6, p7⟩ := rc_ends R hdl hdl4 he ds ow
  exact ⟨h1, Or.inl ⟨p1, p2, p3, p4.trans (hfo.trans p5.symm), p6.trans (htu.trans p7.symm)⟩⟩
theorem rg_win0_1 {x m W : zM} (R : RCl x m) (hfo : x.1 2 3 = m.1 50 47) (htu : x.1 0 8 = m.1 50 45) {dl e c : Nat} (hdl : m.1 50 40 = nI dl) (hdl4 : dl < 4) (he : (dl + 1) % 4 = e) (hb : x.1 4 0 = W.1 50 13) (hh : x.1 4 1 = W.1 50 14) (hf : x.2.1 4 3 = W.2.1 50 17) (hc : x.1 0 15 = nI c) : RG (wn1 x 0 dl e 1 2 3) (wM0_1 m W dl e c) := by
  rw [wn1_p, wM0_1p]
  have R1 := rc_win0_1 (dl := dl) R hb hh hf hc
  refine rg_ends R1 ?_ ?_ ?_ hdl4 he true false
  · unfold wp1 wq0_1 rcW; simp (disch := omega) only [ui_s, uj_s, ui_o, ui_k, uj_o, uj_k, ui_j, uj_i]; exact hfo
  · unfold wp1 wq0_1 rcW; simp (disch := omega) only [ui_s, uj_s, ui_o, ui_k, uj_o, uj_k, ui_j, uj_i]; exact htu
  · unfold wq0_1; simp (disch := omega) only [ui_s, uj_s, ui_o, ui_k, uj_o, uj_k, ui_j, uj_i]; exact hdl
theorem rg_win0_0 {x m W : zM} (R : RCl x m) (hfo : x.1 2 3 = m.1 50 47) (htu : x.1 0 8 = m.1 50 45) {dl e c : Nat} (hdl : m.1 50 40 = nI dl) (hdl4 : dl < 4) (he : (dl + 1) % 4 = e) (hb : x.1 4 0 = W.1 50 13) (hh : x.1 4 1 = W.1 50 14) (hf : x.2.1 4 3 = W.2.1 50 17) (hc : x.1 0 15 = nI c) : RG (wn0 x 0 dl e 1 2 3) (wM0_0 m W dl e c) := by
  rw [wn0_p, wM0_0p]
  have R1 := rc_win0_0 (dl := dl) R hb hh hf hc
  refine rg_ends R1 ?_ ?_ ?_ hdl4 he false true
  · unfold wp0 wq0_0 rcW; simp (disch := omega) only [ui_s, uj_s, ui_o, ui_k, uj_o, uj_k, ui_j, uj_i]; exact hfo
  · unfold wp0 wq0_0 rcW; simp (disch := omega) only [ui_s, uj_s, ui_o, ui_k, uj_o, uj_k, ui_j, uj_i]; exact htu
  · unfold wq0_0; simp (disch := omega) only [ui_s, uj_s, ui_o, ui_k, uj_o, uj_k, ui_j, uj_i]; exact hdl
theorem rg_win1_1 {x m W : zM} (R : RCl x m) (hfo : x.1 2 3 = m.1 50 47) (htu : x.1 0 8 = m.1 50 45) {dl e c : Nat} (hdl : m.1 50 40 = nI dl) (hdl4 : dl < 4) (he : (dl + 1) % 4 = e) (hb : x.1 4 0 = W.1 50 13) (hh : x.1 4 1 = W.1 50 14) (hf : x.2.1 4 3 = W.2.1 50 17) (hc : x.1 0 15 = nI c) : RG (wn1 x 1 dl e 2 3 0) (wM1_1 m W dl e c) := by
  rw [wn1_p, wM1_1p]
  have R1 := rc_win1_1 (dl := dl) R hb hh hf hc
  refine rg_ends R1 ?_ ?_ ?_ hdl4 he true false
  · unfold wp1 wq1_1 rcW; simp (disch := omega) only [ui_s, uj_s, ui_o, ui_k, uj_o, uj_k, ui_j, uj_i]; exact hfo
  · unfold wp1 wq1_1 rcW; simp (disch := omega) only [ui_s, uj_s, ui_o, ui_k, uj_o, uj_k, ui_j, uj_i]; exact htu
  · unfold wq1_1; simp (disch := omega) only [ui_s, uj_s, ui_o, ui_k, uj_o, uj_k, ui_j, uj_i]; exact hdl
theorem rg_win1_0 {x m W : zM} (R : RCl x m) (hfo : x.1 2 3 = m.1 50 47) (htu : x.1 0 8 = m.1 50 45) {dl e c : Nat} (hdl : m.1 50 40 = nI dl) (hdl4 : dl < 4) (he : (dl + 1) % 4 = e) (hb : x.1 4 0 = W.1 50 13) (hh : x.1 4 1 = W.1 50 14) (hf : x.2.1 4 3 = W.2.1 50 17) (hc : x.1 0 15 = nI c) : RG (wn0 x 1 dl e 2 3 0) (wM1_0 m W dl e c) := by
  rw [wn0_p, wM1_0p]
  have R1 := rc_win1_0 (dl := dl) R hb hh hf hc
  refine rg_ends R1 ?_ ?_ ?_ hdl4 he false true
  · unfold wp0 wq1_0 rcW; simp (disch := omega) only [ui_s, uj_s, ui_o, ui_k, uj_o, uj_k, ui_j, uj_i]; exact hfo
  · unfold wp0 wq1_0 rcW; simp (disch := omega) only [ui_s, uj_s, ui_o, ui_k, uj_o, uj_k, ui_j, uj_i]; exact htu
  · unfold wq1_0; simp (disch := omega) only [ui_s, uj_s, ui_o, ui_k, uj_o, uj_k, ui_j, uj_i]; exact hdl
theorem rg_win2_1 {x m W : zM} (R : RCl x m) (hfo : x.1 2 3 = m.1 50 47) (htu : x.1 0 8 = m.1 50 45) {dl e c : Nat} (hdl : m.1 50 40 = nI dl) (hdl4 : dl < 4) (he : (dl + 1) % 4 = e) (hb : x.1 4 0 = W.1 50 13) (hh : x.1 4 1 = W.1 50 14) (hf : x.2.1 4 3 = W.2.1 50 17) (hc : x.1 0 15 = nI c) : RG (wn1 x 2 dl e 3 0 1) (wM2_1 m W dl e c) := by
  rw [wn1_p, wM2_1p]
  have R1 := rc_win2_1 (dl := dl) R hb hh hf hc
  refine rg_ends R1 ?_ ?_ ?_ hdl4 he true false
  · unfold wp1 wq2_1 rcW; simp (disch := omega) only [ui_s, uj_s, ui_o, ui_k, uj_o, uj_k, ui_j, uj_i]; exact hfo
  · unfold wp1 wq2_1 rcW; simp (disch := omega) only [ui_s, uj_s, ui_o, ui_k, uj_o, uj_k, ui_j, uj_i]; exact htu
  · unfold wq2_1; simp (disch := omega) only [ui_s, uj_s, ui_o, ui_k, uj_o, uj_k, ui_j, uj_i]; exact hdl
theorem rg_win2_0 {x m W : zM} (R : RCl x m) (hfo : x.1 2 3 = m.1 50 47) (htu : x.1 0 8 = m.1 50 45) {dl e c : Nat} (hdl : m.1 50 40 = nI dl) (hdl4 : dl < 4) (he : (dl + 1) % 4 = e) (hb : x.1 4 0 = W.1 50 13) (hh : x.1 4 1 = W.1 50 14) (hf : x.2.1 4 3 = W.2.1 50 17) (hc : x.1 0 15 = nI c) : RG (wn0 x 2 dl e 3 0 1) (wM2_0 m W dl e c) := by
  rw [wn0_p, wM2_0p]
  have R1 := rc_win2_0 (dl := dl) R hb hh hf hc
  refine rg_ends R1 ?_ ?_ ?_ hdl4 he false true
  · unfold wp0 wq2_0 rcW; simp (disch := omega) only [ui_s, uj_s, ui_o, ui_k, uj_o, uj_k, ui_j, uj_i]; exact hfo
  · unfold wp0 wq2_0 rcW; simp (disch := omega) only [ui_s, uj_s, ui_o, ui_k, uj_o, uj_k, ui_j, uj_i]; exact htu
  · unfold wq2_0; simp (disch := omega) only [ui_s, uj_s, ui_o, ui_k, uj_o, uj_k, ui_j, uj_i]; exact hdl
theorem rg_win3_1 {x m W : zM} (R : RCl x m) (hfo : x.1 2 3 = m.1 50 47) (htu : x.1 0 8 = m.1 50 45) {dl e c : Nat} (hdl : m.1 50 40 = nI dl) (hdl4 : dl < 4) (he : (dl + 1) % 4 = e) (hb : x.1 4 0 = W.1 50 13) (hh : x.1 4 1 = W.1 50 14) (hf : x.2.1 4 3 = W.2.1 50 17) (hc : x.1 0 15 = nI c) : RG (wn1 x 3 dl e 0 1 2) (wM3_1 m W dl e c) := by
  rw [wn1_p, wM3_1p]
  have R1 := rc_win3_1 (dl := dl) R hb hh hf hc
  refine rg_ends R1 ?_ ?_ ?_ hdl4 he true false
  · unfold wp1 wq3_1 rcW; simp (disch := omega) only [ui_s, uj_s, ui_o, ui_k, uj_o, uj_k, ui_j, uj_i]; exact hfo
  · unfold wp1 wq3_1 rcW; simp (disch := omega) only [ui_s, uj_s, ui_o, ui_k, uj_o, uj_k, ui_j, uj_i]; exact htu
  · unfold wq3_1; simp (disch := omega) only [ui_s, uj_s, ui_o, ui_k, uj_o, uj_k, ui_j, uj_i]; exact hdl
theorem rg_win3_0 {x m W : zM} (R : RCl x m) (hfo : x.1 2 3 = m.1 50 47) (htu : x.1 0 8 = m.1 50 45) {dl e c : Nat} (hdl : m.1 50 40 = nI dl) (hdl4 : dl < 4) (he : (dl + 1) % 4 = e) (hb : x.1 4 0 = W.1 50 13) (hh : x.1 4 1 = W.1 50 14) (hf : x.2.1 4 3 = W.2.1 50 17) (hc : x.1 0 15 = nI c) : RG (wn0 x 3 dl e 0 1 2) (wM3_0 m W dl e c) := by
  rw [wn0_p, wM3_0p]
  have R1 := rc_win3_0 (dl := dl) R hb hh hf hc
  refine rg_ends R1 ?_ ?_ ?_ hdl4 he false true
  · unfold wp0 wq3_0 rcW; simp (disch := omega) only [ui_s, uj_s, ui_o, ui_k, uj_o, uj_k, ui_j, uj_i]; exact hfo
  · unfold wp0 wq3_0 rcW; simp (disch := omega) only [ui_s, uj_s, ui_o, ui_k, uj_o, uj_k, ui_j, uj_i]; exact htu
  · unfold wq3_0; simp (disch := omega) only [ui_s, uj_s, ui_o, ui_k, uj_o, uj_k, ui_j, uj_i]; exact hdl
