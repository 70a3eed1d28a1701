/-! all that said so win: both games behind it -/
set_option maxRecDepth 8000
theorem rg_aw001 {x m W3 N3 : zM} {v3 : Q4} (R : RCl x m) {t dl e c u1 u2 u3 : Nat} (hfo : x.1 2 3 = m.1 50 47) (htu : x.1 0 8 = m.1 50 45) (hdl : m.1 50 40 = nI dl) (hdl4 : dl < 4) (he : (dl + 1) % 4 = e) (ht : t < 4) (hu1 : (t + 1) % 4 = u1) (hu2 : (t + 2) % 4 = u2) (hu3 : (t + 3) % 4 = u3) (hc : x.1 0 15 = nI c) (hO3 : WOj (x) W3) (hv3 : bqJ W3 = v3) (hb3 : v3.1 = N3.1 50 13) (hh3 : v3.2.1 = N3.1 50 14) (hf3 : v3.2.2.2 = N3.2.1 50 17) : RG (wA001 W3 t dl e u1 u2 u3 v3 x) (aM001 m N3 t dl e c u1 u2 u3) := by
  rw [wA001_p, aM001_p]
  have R1 := rc_aw001 (dl := dl) R ht hu1 hu2 hu3 hc hO3 hv3 hb3 hh3 hf3
  have o3 := fun r k h => (hO3 r k h).1
  have h1 : u1 < 4 := by omega
  have h2 : u2 < 4 := by omega
  have h3 : u3 < 4 := by omega
  have g := rg_ends R1 (dl := dl) (e := e) ?_ ?_ ?_ hdl4 he ((decide ((nI u3) = (nI dl)))) (!((decide ((nI u3) = (nI dl)))))
  · rw [Bool.not_not] at g; exact g
  · unfold wa001 aq001; unfold rcW at *; simp (disch := omega) only [ui_s, uj_s, ui_o, ui_k, uj_o, uj_k, ui_j, uj_i, o3]; exact hfo
  · unfold wa001 aq001; unfold rcW at *; simp (disch := omega) only [ui_s, uj_s, ui_o, ui_k, uj_o, uj_k, ui_j, uj_i, o3]; exact htu
  · unfold aq001; simp (disch := omega) only [ui_s, uj_s, ui_o, ui_k, uj_o, uj_k, ui_j, uj_i]; exact hdl
theorem rg_aw010 {x m W2 N2 : zM} {v2 : Q4} (R : RCl x m) {t dl e c u1 u2 u3 : Nat} (hfo : x.1 2 3 = m.1 50 47) (htu : x.1 0 8 = m.1 50 45) (hdl : m.1 50 40 = nI dl) (hdl4 : dl < 4) (he : (dl + 1) % 4 = e) (ht : t < 4) (hu1 : (t + 1) % 4 = u1) (hu2 : (t + 2) % 4 = u2) (hu3 : (t + 3) % 4 = u3) (hc : x.1 0 15 = nI c) (hO2 : WOj (x) W2) (hv2 : bqJ W2 = v2) (hb2 : v2.1 = N2.1 50 13) (hh2 : v2.2.1 = N2.1 50 14) (hf2 : v2.2.2.2 = N2.2.1 50 17) : RG (wA010 W2 t dl e u1 u2 u3 v2 x) (aM010 m N2 t dl e c u1 u2 u3) := by
  rw [wA010_p, aM010_p]
  have R1 := rc_aw010 (dl := dl) R ht hu1 hu2 hu3 hc hO2 hv2 hb2 hh2 hf2
  have o2 := fun r k h => (hO2 r k h).1
  have h1 : u1 < 4 := by omega
  have h2 : u2 < 4 := by omega
  have h3 : u3 < 4 := by omega
  have g := rg_ends R1 (dl := dl) (e := e) ?_ ?_ ?_ hdl4 he ((decide ((nI u2) = (nI dl)))) (!((decide ((nI u2) = (nI dl)))))
  · rw [Bool.not_not] at g; exact g
  · unfold wa010 aq010; unfold rcW at *; simp (disch := omega) only [ui_s, uj_s, ui_o, ui_k, uj_o, uj_k, ui_j, uj_i, o2]; exact hfo
  · unfold wa010 aq010; unfold rcW at *; simp (disch := omega) only [ui_s, uj_s, ui_o, ui_k, uj_o, uj_k, ui_j, uj_i, o2]; exact htu
  · unfold aq010; simp (disch := omega) only [ui_s, uj_s, ui_o, ui_k, uj_o, uj_k, ui_j, uj_i]; exact hdl
theorem rg_aw011 {x m W2 W3 N2 N3 : zM} {v2 v3 : Q4} (R : RCl x m) {t dl e c u1 u2 u3 : Nat} (hfo : x.1 2 3 = m.1 50 47) (htu : x.1 0 8 = m.1 50 45) (hdl : m.1 50 40 = nI dl) (hdl4 : dl < 4) (he : (dl + 1) % 4 = e) (ht : t < 4) (hu1 : (t + 1) % 4 = u1) (hu2 : (t + 2) % 4 = u2) (hu3 : (t + 3) % 4 = u3) (hc : x.1 0 15 = nI c) (hO2 : WOj (x) W2) (hv2 : bqJ W2 = v2) (hb2 : v2.1 = N2.1 50 13) (hh2 : v2.2.1 = N2.1 50 14) (hf2 : v2.2.2.2 = N2.2.1 50 17) (hO3 : WOj (z_ui (rcW (z_ui (z_ui W2 (18 + 8 * t) 4 ((x.1 (18 + 8 * t) 4) - ((hnd (v2.1 * (bif decide ((nI u2) = (nI dl)) then (6 : Int32) else 4))) + (300 * (x.1 0 11))))) (18 + 8 * u2) 4 ((x.1 (18 + 8 * u2) 4) + (((hnd (v2.1 * (bif decide ((nI u2) = (nI dl)) then (6 : Int32) else 4))) + (300 * (x.1 0 11))) + ((x.1 0 12) * 1000)))) 0 (nI u2) (nI t) (((hnd (v2.1 * (bif decide ((nI u2) = (nI dl)) then (6 : Int32) else 4))) + (300 * (x.1 0 11))) + ((x.1 0 12) * 1000))) 0 12 0) W3) (hv3 : bqJ W3 = v3) (hb3 : v3.1 = N3.1 50 13) (hh3 : v3.2.1 = N3.1 50 14) (hf3 : v3.2.2.2 = N3.2.1 50 17) : RG (wA011 W3 t dl e u1 u2 u3 v2 v3 x) (aM011 m N2 N3 t dl e c u1 u2 u3) := by
  rw [wA011_p, aM011_p]
  have R1 := rc_aw011 (dl := dl) R ht hu1 hu2 hu3 hc hO2 hv2 hb2 hh2 hf2 hO3 hv3 hb3 hh3 hf3
  have o2 := fun r k h => (hO2 r k h).1
  have o3 := fun r k h => (hO3 r k h).1
  have h1 : u1 < 4 := by omega
  have h2 : u2 < 4 := by omega
  have h3 : u3 < 4 := by omega
  have g := rg_ends R1 (dl := dl) (e := e) ?_ ?_ ?_ hdl4 he ((decide ((nI u2) = (nI dl))) || (decide ((nI u3) = (nI dl)))) (!((decide ((nI u2) = (nI dl))) || (decide ((nI u3) = (nI dl)))))
  · rw [Bool.not_not] at g; exact g
  · unfold wa011 aq011; unfold rcW at *; simp (disch := omega) only [ui_s, uj_s, ui_o, ui_k, uj_o, uj_k, ui_j, uj_i, o2, o3]; exact hfo
  · unfold wa011 aq011; unfold rcW at *; simp (disch := omega) only [ui_s, uj_s, ui_o, ui_k, uj_o, uj_k, ui_j, uj_i, o2, o3]; exact htu
  · unfold aq011; simp (disch := omega) only [ui_s, uj_s, ui_o, ui_k, uj_o, uj_k, ui_j, uj_i]; exact hdl
theorem rg_aw100 {x m W1 N1 : zM} {v1 : Q4} (R : RCl x m) {t dl e c u1 u2 u3 : Nat} (hfo : x.1 2 3 = m.1 50 47) (htu : x.1 0 8 = m.1 50 45) (hdl : m.1 50 40 = nI dl) (hdl4 : dl < 4) (he : (dl + 1) % 4 = e) (ht : t < 4) (hu1 : (t + 1) % 4 = u1) (hu2 : (t + 2) % 4 = u2) (hu3 : (t + 3) % 4 = u3) (hc : x.1 0 15 = nI c) (hO1 : WOj (x) W1) (hv1 : bqJ W1 = v1) (hb1 : v1.1 = N1.1 50 13) (hh1 : v1.2.1 = N1.1 50 14) (hf1 : v1.2.2.2 = N1.2.1 50 17) : RG (wA100 W1 t dl e u1 u2 u3 v1 x) (aM100 m N1 t dl e c u1 u2 u3) := by
  rw [wA100_p, aM100_p]
  have R1 := rc_aw100 (dl := dl) R ht hu1 hu2 hu3 hc hO1 hv1 hb1 hh1 hf1
  have o1 := fun r k h => (hO1 r k h).1
  have h1 : u1 < 4 := by omega
  have h2 : u2 < 4 := by omega
  have h3 : u3 < 4 := by omega
  have g := rg_ends R1 (dl := dl) (e := e) ?_ ?_ ?_ hdl4 he ((decide ((nI u1) = (nI dl)))) (!((decide ((nI u1) = (nI dl)))))
  · rw [Bool.not_not] at g; exact g
  · unfold wa100 aq100; unfold rcW at *; simp (disch := omega) only [ui_s, uj_s, ui_o, ui_k, uj_o, uj_k, ui_j, uj_i, o1]; exact hfo
  · unfold wa100 aq100; unfold rcW at *; simp (disch := omega) only [ui_s, uj_s, ui_o, ui_k, uj_o, uj_k, ui_j, uj_i, o1]; exact htu
  · unfold aq100; simp (disch := omega) only [ui_s, uj_s, ui_o, ui_k, uj_o, uj_k, ui_j, uj_i]; exact hdl
theorem rg_aw101 {x m W1 W3 N1 N3 : zM} {v1 v3 : Q4} (R : RCl x m) {t dl e c u1 u2 u3 : Nat} (hfo : x.1 2 3 = m.1 50 47) (htu : x.1 0 8 = m.1 50 45) (hdl : m.1 50 40 = nI dl) (hdl4 : dl < 4) (he : (dl + 1) % 4 = e) (ht : t < 4) (hu1 : (t + 1) % 4 = u1) (hu2 : (t + 2) % 4 = u2) (hu3 : (t + 3) % 4 = u3) (hc : x.1 0 15 = nI c) (hO1 : WOj (x) W1) (hv1 : bqJ W1 = v1) (hb1 : v1.1 = N1.1 50 13) (hh1 : v1.2.1 = N1.1 50 14) (hf1 : v1.2.2.2 = N1.2.1 50 17) (hO3 : WOj (z_ui (rcW (z_ui (z_ui W1 (18 + 8 * t) 4 ((x.1 (18 + 8 * t) 4) - ((hnd (v1.1 * (bif decide ((nI u1) = (nI dl)) then (6 : Int32) else 4))) + (300 * (x.1 0 11))))) (18 + 8 * u1) 4 ((x.1 (18 + 8 * u1) 4) + (((hnd (v1.1 * (bif decide ((nI u1) = (nI dl)) then (6 : Int32) else 4))) + (300 * (x.1 0 11))) + ((x.1 0 12) * 1000)))) 0 (nI u1) (nI t) (((hnd (v1.1 * (bif decide ((nI u1) = (nI dl)) then (6 : Int32) else 4))) + (300 * (x.1 0 11))) + ((x.1 0 12) * 1000))) 0 12 0) W3) (hv3 : bqJ W3 = v3) (hb3 : v3.1 = N3.1 50 13) (hh3 : v3.2.1 = N3.1 50 14) (hf3 : v3.2.2.2 = N3.2.1 50 17) : RG (wA101 W3 t dl e u1 u2 u3 v1 v3 x) (aM101 m N1 N3 t dl e c u1 u2 u3) := by
  rw [wA101_p, aM101_p]
  have R1 := rc_aw101 (dl := dl) R ht hu1 hu2 hu3 hc hO1 hv1 hb1 hh1 hf1 hO3 hv3 hb3 hh3 hf3
  have o1 := fun r k h => (hO1 r k h).1
  have o3 := fun r k h => (hO3 r k h).1
  have h1 : u1 < 4 := by omega
  have h2 : u2 < 4 := by omega
  have h3 : u3 < 4 := by omega
  have g := rg_ends R1 (dl := dl) (e := e) ?_ ?_ ?_ hdl4 he ((decide ((nI u1) = (nI dl))) || (decide ((nI u3) = (nI dl)))) (!((decide ((nI u1) = (nI dl))) || (decide ((nI u3) = (nI dl)))))
  · rw [Bool.not_not] at g; exact g
  · unfold wa101 aq101; unfold rcW at *; simp (disch := omega) only [ui_s, uj_s, ui_o, ui_k, uj_o, uj_k, ui_j, uj_i, o1, o3]; exact hfo
  · unfold wa101 aq101; unfold rcW at *; simp (disch := omega) only [ui_s, uj_s, ui_o, ui_k, uj_o, uj_k, ui_j, uj_i, o1, o3]; exact htu
  · unfold aq101; simp (disch := omega) only [ui_s, uj_s, ui_o, ui_k, uj_o, uj_k, ui_j, uj_i]; exact hdl
theorem rg_aw110 {x m W1 W2 N1 N2 : zM} {v1 v2 : Q4} (R : RCl x m) {t dl e c u1 u2 u3 : Nat} (hfo : x.1 2 3 = m.1 50 47) (htu : x.1 0 8 = m.1 50 45) (hdl : m.1 50 40 = nI dl) (hdl4 : dl < 4) (he : (dl + 1) % 4 = e) (ht : t < 4) (hu1 : (t + 1) % 4 = u1) (hu2 : (t + 2) % 4 = u2) (hu3 : (t + 3) % 4 = u3) (hc : x.1 0 15 = nI c) (hO1 : WOj (x) W1) (hv1 : bqJ W1 = v1) (hb1 : v1.1 = N1.1 50 13) (hh1 : v1.2.1 = N1.1 50 14) (hf1 : v1.2.2.2 = N1.2.1 50 17) (hO2 : WOj (z_ui (rcW (z_ui (z_ui W1 (18 + 8 * t) 4 ((x.1 (18 + 8 * t) 4) - ((hnd (v1.1 * (bif decide ((nI u1) = (nI dl)) then (6 : Int32) else 4))) + (300 * (x.1 0 11))))) (18 + 8 * u1) 4 ((x.1 (18 + 8 * u1) 4) + (((hnd (v1.1 * (bif decide ((nI u1) = (nI dl)) then (6 : Int32) else 4))) + (300 * (x.1 0 11))) + ((x.1 0 12) * 1000)))) 0 (nI u1) (nI t) (((hnd (v1.1 * (bif decide ((nI u1) = (nI dl)) then (6 : Int32) else 4))) + (300 * (x.1 0 11))) + ((x.1 0 12) * 1000))) 0 12 0) W2) (hv2 : bqJ W2 = v2) (hb2 : v2.1 = N2.1 50 13) (hh2 : v2.2.1 = N2.1 50 14) (hf2 : v2.2.2.2 = N2.2.1 50 17) : RG (wA110 W2 t dl e u1 u2 u3 v1 v2 x) (aM110 m N1 N2 t dl e c u1 u2 u3) := by
  rw [wA110_p, aM110_p]
  have R1 := rc_aw110 (dl := dl) R ht hu1 hu2 hu3 hc hO1 hv1 hb1 hh1 hf1 hO2 hv2 hb2 hh2 hf2
  have o1 := fun r k h => (hO1 r k h).1
  have o2 := fun r k h => (hO2 r k h).1
  have h1 : u1 < 4 := by omega
  have h2 : u2 < 4 := by omega
  have h3 : u3 < 4 := by omega
  have g := rg_ends R1 (dl := dl) (e := e) ?_ ?_ ?_ hdl4 he ((decide ((nI u1) = (nI dl))) || (decide ((nI u2) = (nI dl)))) (!((decide ((nI u1) = (nI dl))) || (decide ((nI u2) = (nI dl)))))
  · rw [Bool.not_not] at g; exact g
  · unfold wa110 aq110; unfold rcW at *; simp (disch := omega) only [ui_s, uj_s, ui_o, ui_k, uj_o, uj_k, ui_j, uj_i, o1, o2]; exact hfo
  · unfold wa110 aq110; unfold rcW at *; simp (disch := omega) only [ui_s, uj_s, ui_o, ui_k, uj_o, uj_k, ui_j, uj_i, o1, o2]; exact htu
  · unfold aq110; simp (disch := omega) only [ui_s, uj_s, ui_o, ui_k, uj_o, uj_k, ui_j, uj_i]; exact hdl
theorem rg_aw111 {x m W1 W2 W3 N1 N2 N3 : zM} {v1 v2 v3 : Q4} (R : RCl x m) {t dl e c u1 u2 u3 : Nat} (hfo : x.1 2 3 = m.1 50 47) (htu : x.1 0 8 = m.1 50 45) (hdl : m.1 50 40 = nI dl) (hdl4 : dl < 4) (he : (dl + 1) % 4 = e) (ht : t < 4) (hu1 : (t + 1) % 4 = u1) (hu2 : (t + 2) % 4 = u2) (hu3 : (t + 3) % 4 = u3) (hc : x.1 0 15 = nI c) (hO1 : WOj (x) W1) (hv1 : bqJ W1 = v1) (hb1 : v1.1 = N1.1 50 13) (hh1 : v1.2.1 = N1.1 50 14) (hf1 : v1.2.2.2 = N1.2.1 50 17) (hO2 : WOj (z_ui (rcW (z_ui (z_ui W1 (18 + 8 * t) 4 ((x.1 (18 + 8 * t) 4) - ((hnd (v1.1 * (bif decide ((nI u1) = (nI dl)) then (6 : Int32) else 4))) + (300 * (x.1 0 11))))) (18 + 8 * u1) 4 ((x.1 (18 + 8 * u1) 4) + (((hnd (v1.1 * (bif decide ((nI u1) = (nI dl)) then (6 : Int32) else 4))) + (300 * (x.1 0 11))) + ((x.1 0 12) * 1000)))) 0 (nI u1) (nI t) (((hnd (v1.1 * (bif decide ((nI u1) = (nI dl)) then (6 : Int32) else 4))) + (300 * (x.1 0 11))) + ((x.1 0 12) * 1000))) 0 12 0) W2) (hv2 : bqJ W2 = v2) (hb2 : v2.1 = N2.1 50 13) (hh2 : v2.2.1 = N2.1 50 14) (hf2 : v2.2.2.2 = N2.2.1 50 17) (hO3 : WOj (z_ui (rcW (z_ui (z_ui W2 (18 + 8 * t) 4 (((x.1 (18 + 8 * t) 4) - ((hnd (v1.1 * (bif decide ((nI u1) = (nI dl)) then (6 : Int32) else 4))) + (300 * (x.1 0 11)))) - ((hnd (v2.1 * (bif decide ((nI u2) = (nI dl)) then (6 : Int32) else 4))) + 0))) (18 + 8 * u2) 4 ((x.1 (18 + 8 * u2) 4) + (((hnd (v2.1 * (bif decide ((nI u2) = (nI dl)) then (6 : Int32) else 4))) + 0) + 0))) 1 (nI u2) (nI t) (((hnd (v2.1 * (bif decide ((nI u2) = (nI dl)) then (6 : Int32) else 4))) + 0) + 0)) 0 12 0) W3) (hv3 : bqJ W3 = v3) (hb3 : v3.1 = N3.1 50 13) (hh3 : v3.2.1 = N3.1 50 14) (hf3 : v3.2.2.2 = N3.2.1 50 17) : RG (wA111 W3 t dl e u1 u2 u3 v1 v2 v3 x) (aM111 m N1 N2 N3 t dl e c u1 u2 u3) := by
  rw [wA111_p, aM111_p]
  have R1 := rc_aw111 (dl := dl) R ht hu1 hu2 hu3 hc hO1 hv1 hb1 hh1 hf1 hO2 hv2 hb2 hh2 hf2 hO3 hv3 hb3 hh3 hf3
  have o1 := fun r k h => (hO1 r k h).1
  have o2 := fun r k h => (hO2 r k h).1
  have o3 := fun r k h => (hO3 r k h).1
  have h1 : u1 < 4 := by omega
  have h2 : u2 < 4 := by omega
  have h3 : u3 < 4 := by omega
  have g := rg_ends R1 (dl := dl) (e := e) ?_ ?_ ?_ hdl4 he (((decide ((nI u1) = (nI dl))) || (decide ((nI u2) = (nI dl)))) || (decide ((nI u3) = (nI dl)))) (!(((decide ((nI u1) = (nI dl))) || (decide ((nI u2) = (nI dl)))) || (decide ((nI u3) = (nI dl)))))
  · rw [Bool.not_not] at g; exact g
  · unfold wa111 aq111; unfold rcW at *; simp (disch := omega) only [ui_s, uj_s, ui_o, ui_k, uj_o, uj_k, ui_j, uj_i, o1, o2, o3]; exact hfo
  · unfold wa111 aq111; unfold rcW at *; simp (disch := omega) only [ui_s, uj_s, ui_o, ui_k, uj_o, uj_k, ui_j, uj_i, o1, o2, o3]; exact htu
  · unfold aq111; simp (disch := omega) only [ui_s, uj_s, ui_o, ui_k, uj_o, uj_k, ui_j, uj_i]; exact hdl
