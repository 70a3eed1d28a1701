/-! a hand without a winner: both games behind it -/
set_option maxRecDepth 8000
theorem rg_nob0000 {x m : zM} (R : RCl x m) (hfo : x.1 2 3 = m.1 50 47) (htu : x.1 0 8 = m.1 50 45) {dl e : Nat} (hdl : m.1 50 40 = nI dl) (hdl4 : dl < 4) (he : (dl + 1) % 4 = e) (ds : Bool) : RG (eHB (x) ds false (xBk (x)) dl e (rcM (x))) (eMB (nM0000 m) ds true dl e) := by
  refine rg_ends (rc_nob0000 R) ?_ ?_ ?_ hdl4 he ds false
  · unfold nM0000; simp (disch := first | decide | exact ad_ne (by decide) | exact ad_m (by decide) | exact ad_l (by decide) | exact ad_g (by decide) | exact ad_lt (by decide) | exact ad_o (by decide) | omega) only [↓ui_s, ↓uj_s, ↓ui_o, ↓ui_k, ↓uj_o, ↓uj_k, ↓ui_j, ↓uj_i, ↓z_zero_o, ↓z_zero_j, ui_s, uj_s, ui_o, ui_k, uj_o, uj_k, ui_j, uj_i, z_zero_o, z_zero_j]; exact hfo
  · unfold nM0000; simp (disch := first | decide | exact ad_ne (by decide) | exact ad_m (by decide) | exact ad_l (by decide) | exact ad_g (by decide) | exact ad_lt (by decide) | exact ad_o (by decide) | omega) only [↓ui_s, ↓uj_s, ↓ui_o, ↓ui_k, ↓uj_o, ↓uj_k, ↓ui_j, ↓uj_i, ↓z_zero_o, ↓z_zero_j, ui_s, uj_s, ui_o, ui_k, uj_o, uj_k, ui_j, uj_i, z_zero_o, z_zero_j]; exact htu
  · unfold nM0000; simp (disch := first | decide | exact ad_ne (by decide) | exact ad_m (by decide) | exact ad_l (by decide) | exact ad_g (by decide) | exact ad_lt (by decide) | exact ad_o (by decide) | omega) only [↓ui_s, ↓uj_s, ↓ui_o, ↓ui_k, ↓uj_o, ↓uj_k, ↓ui_j, ↓uj_i, ↓z_zero_o, ↓z_zero_j, ui_s, uj_s, ui_o, ui_k, uj_o, uj_k, ui_j, uj_i, z_zero_o, z_zero_j]; exact hdl
theorem rg_nob0001 {x m : zM} (R : RCl x m) (hfo : x.1 2 3 = m.1 50 47) (htu : x.1 0 8 = m.1 50 45) {dl e : Nat} (hdl : m.1 50 40 = nI dl) (hdl4 : dl < 4) (he : (dl + 1) % 4 = e) (ds : Bool) : RG (eHB (z_ui (z_ui (z_ui (z_ui x 18 4 ((x.1 18 4) + (-1000))) 26 4 ((x.1 26 4) + (-1000))) 34 4 ((x.1 34 4) + (-1000))) 42 4 ((x.1 42 4) + 3000)) ds false (xBk (z_ui (z_ui (z_ui (z_ui x 18 4 ((x.1 18 4) + (-1000))) 26 4 ((x.1 26 4) + (-1000))) 34 4 ((x.1 34 4) + (-1000))) 42 4 ((x.1 42 4) + 3000))) dl e (rcM (z_ui (z_ui (z_ui (z_ui x 18 4 ((x.1 18 4) + (-1000))) 26 4 ((x.1 26 4) + (-1000))) 34 4 ((x.1 34 4) + (-1000))) 42 4 ((x.1 42 4) + 3000)))) (eMB (nM0001 m) ds true dl e) := by
  refine rg_ends (rc_nob0001 R) ?_ ?_ ?_ hdl4 he ds false
  · unfold nM0001; simp (disch := first | decide | exact ad_ne (by decide) | exact ad_m (by decide) | exact ad_l (by decide) | exact ad_g (by decide) | exact ad_lt (by decide) | exact ad_o (by decide) | omega) only [↓ui_s, ↓uj_s, ↓ui_o, ↓ui_k, ↓uj_o, ↓uj_k, ↓ui_j, ↓uj_i, ↓z_zero_o, ↓z_zero_j, ui_s, uj_s, ui_o, ui_k, uj_o, uj_k, ui_j, uj_i, z_zero_o, z_zero_j]; exact hfo
  · unfold nM0001; simp (disch := first | decide | exact ad_ne (by decide) | exact ad_m (by decide) | exact ad_l (by decide) | exact ad_g (by decide) | exact ad_lt (by decide) | exact ad_o (by decide) | omega) only [↓ui_s, ↓uj_s, ↓ui_o, ↓ui_k, ↓uj_o, ↓uj_k, ↓ui_j, ↓uj_i, ↓z_zero_o, ↓z_zero_j, ui_s, uj_s, ui_o, ui_k, uj_o, uj_k, ui_j, uj_i, z_zero_o, z_zero_j]; exact htu
  · unfold nM0001; simp (disch := first | decide | exact ad_ne (by decide) | exact ad_m (by decide) | exact ad_l (by decide) | exact ad_g (by decide) | exact ad_lt (by decide) | exact ad_o (by decide) | omega) only [↓ui_s, ↓uj_s, ↓ui_o, ↓ui_k, ↓uj_o, ↓uj_k, ↓ui_j, ↓uj_i, ↓z_zero_o, ↓z_zero_j, ui_s, uj_s, ui_o, ui_k, uj_o, uj_k, ui_j, uj_i, z_zero_o, z_zero_j]; exact hdl
theorem rg_nob0010 {x m : zM} (R : RCl x m) (hfo : x.1 2 3 = m.1 50 47) (htu : x.1 0 8 = m.1 50 45) {dl e : Nat} (hdl : m.1 50 40 = nI dl) (hdl4 : dl < 4) (he : (dl + 1) % 4 = e) (ds : Bool) : RG (eHB (z_ui (z_ui (z_ui (z_ui x 18 4 ((x.1 18 4) + (-1000))) 26 4 ((x.1 26 4) + (-1000))) 34 4 ((x.1 34 4) + 3000)) 42 4 ((x.1 42 4) + (-1000))) ds false (xBk (z_ui (z_ui (z_ui (z_ui x 18 4 ((x.1 18 4) + (-1000))) 26 4 ((x.1 26 4) + (-1000))) 34 4 ((x.1 34 4) + 3000)) 42 4 ((x.1 42 4) + (-1000)))) dl e (rcM (z_ui (z_ui (z_ui (z_ui x 18 4 ((x.1 18 4) + (-1000))) 26 4 ((x.1 26 4) + (-1000))) 34 4 ((x.1 34 4) + 3000)) 42 4 ((x.1 42 4) + (-1000))))) (eMB (nM0010 m) ds true dl e) := by
  refine rg_ends (rc_nob0010 R) ?_ ?_ ?_ hdl4 he ds false
  · unfold nM0010; simp (disch := first | decide | exact ad_ne (by decide) | exact ad_m (by decide) | exact ad_l (by decide) | exact ad_g (by decide) | exact ad_lt (by decide) | exact ad_o (by decide) | omega) only [↓ui_s, ↓uj_s, ↓ui_o, ↓ui_k, ↓uj_o, ↓uj_k, ↓ui_j, ↓uj_i, ↓z_zero_o, ↓z_zero_j, ui_s, uj_s, ui_o, ui_k, uj_o, uj_k, ui_j, uj_i, z_zero_o, z_zero_j]; exact hfo
  · unfold nM0010; simp (disch := first | decide | exact ad_ne (by decide) | exact ad_m (by decide) | exact ad_l (by decide) | exact ad_g (by decide) | exact ad_lt (by decide) | exact ad_o (by decide) | omega) only [↓ui_s, ↓uj_s, ↓ui_o, ↓ui_k, ↓uj_o, ↓uj_k, ↓ui_j, ↓uj_i, ↓z_zero_o, ↓z_zero_j, ui_s, uj_s, ui_o, ui_k, uj_o, uj_k, ui_j, uj_i, z_zero_o, z_zero_j]; exact htu
  · unfold nM0010; simp (disch := first | decide | exact ad_ne (by decide) | exact ad_m (by decide) | exact ad_l (by decide) | exact ad_g (by decide) | exact ad_lt (by decide) | exact ad_o (by decide) | omega) only [↓ui_s, ↓uj_s, ↓ui_o, ↓ui_k, ↓uj_o, ↓uj_k, ↓ui_j, ↓uj_i, ↓z_zero_o, ↓z_zero_j, ui_s, uj_s, ui_o, ui_k, uj_o, uj_k, ui_j, uj_i, z_zero_o, z_zero_j]; exact hdl
theorem rg_nob0011 {x m : zM} (R : RCl x m) (hfo : x.1 2 3 = m.1 50 47) (htu : x.1 0 8 = m.1 50 45) {dl e : Nat} (hdl : m.1 50 40 = nI dl) (hdl4 : dl < 4) (he : (dl + 1) % 4 = e) (ds : Bool) : RG (eHB (z_ui (z_ui (z_ui (z_ui x 18 4 ((x.1 18 4) + (-1500))) 26 4 ((x.1 26 4) + (-1500))) 34 4 ((x.1 34 4) + 1500)) 42 4 ((x.1 42 4) + 1500)) ds false (xBk (z_ui (z_ui (z_ui (z_ui x 18 4 ((x.1 18 4) + (-1500))) 26 4 ((x.1 26 4) + (-1500))) 34 4 ((x.1 34 4) + 1500)) 42 4 ((x.1 42 4) + 1500))) dl e (rcM (z_ui (z_ui (z_ui (z_ui x 18 4 ((x.1 18 4) + (-1500))) 26 4 ((x.1 26 4) + (-1500))) 34 4 ((x.1 34 4) + 1500)) 42 4 ((x.1 42 4) + 1500)))) (eMB (nM0011 m) ds true dl e) := by
  refine rg_ends (rc_nob0011 R) ?_ ?_ ?_ hdl4 he ds false
  · unfold nM0011; simp (disch := first | decide | exact ad_ne (by decide) | exact ad_m (by decide) | exact ad_l (by decide) | exact ad_g (by decide) | exact ad_lt (by decide) | exact ad_o (by decide) | omega) only [↓ui_s, ↓uj_s, ↓ui_o, ↓ui_k, ↓uj_o, ↓uj_k, ↓ui_j, ↓uj_i, ↓z_zero_o, ↓z_zero_j, ui_s, uj_s, ui_o, ui_k, uj_o, uj_k, ui_j, uj_i, z_zero_o, z_zero_j]; exact hfo
  · unfold nM0011; simp (disch := first | decide | exact ad_ne (by decide) | exact ad_m (by decide) | exact ad_l (by decide) | exact ad_g (by decide) | exact ad_lt (by decide) | exact ad_o (by decide) | omega) only [↓ui_s, ↓uj_s, ↓ui_o, ↓ui_k, ↓uj_o, ↓uj_k, ↓ui_j, ↓uj_i, ↓z_zero_o, ↓z_zero_j, ui_s, uj_s, ui_o, ui_k, uj_o, uj_k, ui_j, uj_i, z_zero_o, z_zero_j]; exact htu
  · unfold nM0011; simp (disch := first | decide | exact ad_ne (by decide) | exact ad_m (by decide) | exact ad_l (by decide) | exact ad_g (by decide) | exact ad_lt (by decide) | exact ad_o (by decide) | omega) only [↓ui_s, ↓uj_s, ↓ui_o, ↓ui_k, ↓uj_o, ↓uj_k, ↓ui_j, ↓uj_i, ↓z_zero_o, ↓z_zero_j, ui_s, uj_s, ui_o, ui_k, uj_o, uj_k, ui_j, uj_i, z_zero_o, z_zero_j]; exact hdl
theorem rg_nob0100 {x m : zM} (R : RCl x m) (hfo : x.1 2 3 = m.1 50 47) (htu : x.1 0 8 = m.1 50 45) {dl e : Nat} (hdl : m.1 50 40 = nI dl) (hdl4 : dl < 4) (he : (dl + 1) % 4 = e) (ds : Bool) : RG (eHB (z_ui (z_ui (z_ui (z_ui x 18 4 ((x.1 18 4) + (-1000))) 26 4 ((x.1 26 4) + 3000)) 34 4 ((x.1 34 4) + (-1000))) 42 4 ((x.1 42 4) + (-1000))) ds false (xBk (z_ui (z_ui (z_ui (z_ui x 18 4 ((x.1 18 4) + (-1000))) 26 4 ((x.1 26 4) + 3000)) 34 4 ((x.1 34 4) + (-1000))) 42 4 ((x.1 42 4) + (-1000)))) dl e (rcM (z_ui (z_ui (z_ui (z_ui x 18 4 ((x.1 18 4) + (-1000))) 26 4 ((x.1 26 4) + 3000)) 34 4 ((x.1 34 4) + (-1000))) 42 4 ((x.1 42 4) + (-1000))))) (eMB (nM0100 m) ds true dl e) := by
  refine rg_ends (rc_nob0100 R) ?_ ?_ ?_ hdl4 he ds false
  · unfold nM0100; simp (disch := first | decide | exact ad_ne (by decide) | exact ad_m (by decide) | exact ad_l (by decide) | exact ad_g (by decide) | exact ad_lt (by decide) | exact ad_o (by decide) | omega) only [↓ui_s, ↓uj_s, ↓ui_o, ↓ui_k, ↓uj_o, ↓uj_k, ↓ui_j, ↓uj_i, ↓z_zero_o, ↓z_zero_j, ui_s, uj_s, ui_o, ui_k, uj_o, uj_k, ui_j, uj_i, z_zero_o, z_zero_j]; exact hfo
  · unfold nM0100; simp (disch := first | decide | exact ad_ne (by decide) | exact ad_m (by decide) | exact ad_l (by decide) | exact ad_g (by decide) | exact ad_lt (by decide) | exact ad_o (by decide) | omega) only [↓ui_s, ↓uj_s, ↓ui_o, ↓ui_k, ↓uj_o, ↓uj_k, ↓ui_j, ↓uj_i, ↓z_zero_o, ↓z_zero_j, ui_s, uj_s, ui_o, ui_k, uj_o, uj_k, ui_j, uj_i, z_zero_o, z_zero_j]; exact htu
  · unfold nM0100; simp (disch := first | decide | exact ad_ne (by decide) | exact ad_m (by decide) | exact ad_l (by decide) | exact ad_g (by decide) | exact ad_lt (by decide) | exact ad_o (by decide) | omega) only [↓ui_s, ↓uj_s, ↓ui_o, ↓ui_k, ↓uj_o, ↓uj_k, ↓ui_j, ↓uj_i, ↓z_zero_o, ↓z_zero_j, ui_s, uj_s, ui_o, ui_k, uj_o, uj_k, ui_j, uj_i, z_zero_o, z_zero_j]; exact hdl
theorem rg_nob0101 {x m : zM} (R : RCl x m) (hfo : x.1 2 3 = m.1 50 47) (htu : x.1 0 8 = m.1 50 45) {dl e : Nat} (hdl : m.1 50 40 = nI dl) (hdl4 : dl < 4) (he : (dl + 1) % 4 = e) (ds : Bool) : RG (eHB (z_ui (z_ui (z_ui (z_ui x 18 4 ((x.1 18 4) + (-1500))) 26 4 ((x.1 26 4) + 1500)) 34 4 ((x.1 34 4) + (-1500))) 42 4 ((x.1 42 4) + 1500)) ds false (xBk (z_ui (z_ui (z_ui (z_ui x 18 4 ((x.1 18 4) + (-1500))) 26 4 ((x.1 26 4) + 1500)) 34 4 ((x.1 34 4) + (-1500))) 42 4 ((x.1 42 4) + 1500))) dl e (rcM (z_ui (z_ui (z_ui (z_ui x 18 4 ((x.1 18 4) + (-1500))) 26 4 ((x.1 26 4) + 1500)) 34 4 ((x.1 34 4) + (-1500))) 42 4 ((x.1 42 4) + 1500)))) (eMB (nM0101 m) ds true dl e) := by
  refine rg_ends (rc_nob0101 R) ?_ ?_ ?_ hdl4 he ds false
  · unfold nM0101; simp (disch := first | decide | exact ad_ne (by decide) | exact ad_m (by decide) | exact ad_l (by decide) | exact ad_g (by decide) | exact ad_lt (by decide) | exact ad_o (by decide) | omega) only [↓ui_s, ↓uj_s, ↓ui_o, ↓ui_k, ↓uj_o, ↓uj_k, ↓ui_j, ↓uj_i, ↓z_zero_o, ↓z_zero_j, ui_s, uj_s, ui_o, ui_k, uj_o, uj_k, ui_j, uj_i, z_zero_o, z_zero_j]; exact hfo
  · unfold nM0101; simp (disch := first | decide | exact ad_ne (by decide) | exact ad_m (by decide) | exact ad_l (by decide) | exact ad_g (by decide) | exact ad_lt (by decide) | exact ad_o (by decide) | omega) only [↓ui_s, ↓uj_s, ↓ui_o, ↓ui_k, ↓uj_o, ↓uj_k, ↓ui_j, ↓uj_i, ↓z_zero_o, ↓z_zero_j, ui_s, uj_s, ui_o, ui_k, uj_o, uj_k, ui_j, uj_i, z_zero_o, z_zero_j]; exact htu
  · unfold nM0101; simp (disch := first | decide | exact ad_ne (by decide) | exact ad_m (by decide) | exact ad_l (by decide) | exact ad_g (by decide) | exact ad_lt (by decide) | exact ad_o (by decide) | omega) only [↓ui_s, ↓uj_s, ↓ui_o, ↓ui_k, ↓uj_o, ↓uj_k, ↓ui_j, ↓uj_i, ↓z_zero_o, ↓z_zero_j, ui_s, uj_s, ui_o, ui_k, uj_o, uj_k, ui_j, uj_i, z_zero_o, z_zero_j]; exact hdl
theorem rg_nob0110 {x m : zM} (R : RCl x m) (hfo : x.1 2 3 = m.1 50 47) (htu : x.1 0 8 = m.1 50 45) {dl e : Nat} (hdl : m.1 50 40 = nI dl) (hdl4 : dl < 4) (he : (dl + 1) % 4 = e) (ds : Bool) : RG (eHB (z_ui (z_ui (z_ui (z_ui x 18 4 ((x.1 18 4) + (-1500))) 26 4 ((x.1 26 4) + 1500)) 34 4 ((x.1 34 4) + 1500)) 42 4 ((x.1 42 4) + (-1500))) ds false (xBk (z_ui (z_ui (z_ui (z_ui x 18 4 ((x.1 18 4) + (-1500))) 26 4 ((x.1 26 4) + 1500)) 34 4 ((x.1 34 4) + 1500)) 42 4 ((x.1 42 4) + (-1500)))) dl e (rcM (z_ui (z_ui (z_ui (z_ui x 18 4 ((x.1 18 4) + (-1500))) 26 4 ((x.1 26 4) + 1500)) 34 4 ((x.1 34 4) + 1500)) 42 4 ((x.1 42 4) + (-1500))))) (eMB (nM0110 m) ds true dl e) := by
  refine rg_ends (rc_nob0110 R) ?_ ?_ ?_ hdl4 he ds false
  · unfold nM0110; simp (disch := first | decide | exact ad_ne (by decide) | exact ad_m (by decide) | exact ad_l (by decide) | exact ad_g (by decide) | exact ad_lt (by decide) | exact ad_o (by decide) | omega) only [↓ui_s, ↓uj_s, ↓ui_o, ↓ui_k, ↓uj_o, ↓uj_k, ↓ui_j, ↓uj_i, ↓z_zero_o, ↓z_zero_j, ui_s, uj_s, ui_o, ui_k, uj_o, uj_k, ui_j, uj_i, z_zero_o, z_zero_j]; exact hfo
  · unfold nM0110; simp (disch := first | decide | exact ad_ne (by decide) | exact ad_m (by decide) | exact ad_l (by decide) | exact ad_g (by decide) | exact ad_lt (by decide) | exact ad_o (by decide) | omega) only [↓ui_s, ↓uj_s, ↓ui_o, ↓ui_k, ↓uj_o, ↓uj_k, ↓ui_j, ↓uj_i, ↓z_zero_o, ↓z_zero_j, ui_s, uj_s, ui_o, ui_k, uj_o, uj_k, ui_j, uj_i, z_zero_o, z_zero_j]; exact htu
  · unfold nM0110; simp (disch := first | decide | exact ad_ne (by decide) | exact ad_m (by decide) | exact ad_l (by decide) | exact ad_g (by decide) | exact ad_lt (by decide) | exact ad_o (by decide) | omega) only [↓ui_s, ↓uj_s, ↓ui_o, ↓ui_k, ↓uj_o, ↓uj_k, ↓ui_j, ↓uj_i, ↓z_zero_o, ↓z_zero_j, ui_s, uj_s, ui_o, ui_k, uj_o, uj_k, ui_j, uj_i, z_zero_o, z_zero_j]; exact hdl
theorem rg_nob0111 {x m : zM} (R : RCl x m) (hfo : x.1 2 3 = m.1 50 47) (htu : x.1 0 8 = m.1 50 45) {dl e : Nat} (hdl : m.1 50 40 = nI dl) (hdl4 : dl < 4) (he : (dl + 1) % 4 = e) (ds : Bool) : RG (eHB (z_ui (z_ui (z_ui (z_ui x 18 4 ((x.1 18 4) + (-3000))) 26 4 ((x.1 26 4) + 1000)) 34 4 ((x.1 34 4) + 1000)) 42 4 ((x.1 42 4) + 1000)) ds false (xBk (z_ui (z_ui (z_ui (z_ui x 18 4 ((x.1 18 4) + (-3000))) 26 4 ((x.1 26 4) + 1000)) 34 4 ((x.1 34 4) + 1000)) 42 4 ((x.1 42 4) + 1000))) dl e (rcM (z_ui (z_ui (z_ui (z_ui x 18 4 ((x.1 18 4) + (-3000))) 26 4 ((x.1 26 4) + 1000)) 34 4 ((x.1 34 4) + 1000)) 42 4 ((x.1 42 4) + 1000)))) (eMB (nM0111 m) ds true dl e) := by
  refine rg_ends (rc_nob0111 R) ?_ ?_ ?_ hdl4 he ds false
  · unfold nM0111; simp (disch := first | decide | exact ad_ne (by decide) | exact ad_m (by decide) | exact ad_l (by decide) | exact ad_g (by decide) | exact ad_lt (by decide) | exact ad_o (by decide) | omega) only [↓ui_s, ↓uj_s, ↓ui_o, ↓ui_k, ↓uj_o, ↓uj_k, ↓ui_j, ↓uj_i, ↓z_zero_o, ↓z_zero_j, ui_s, uj_s, ui_o, ui_k, uj_o, uj_k, ui_j, uj_i, z_zero_o, z_zero_j]; exact hfo
  · unfold nM0111; simp (disch := first | decide | exact ad_ne (by decide) | exact ad_m (by decide) | exact ad_l (by decide) | exact ad_g (by decide) | exact ad_lt (by decide) | exact ad_o (by decide) | omega) only [↓ui_s, ↓uj_s, ↓ui_o, ↓ui_k, ↓uj_o, ↓uj_k, ↓ui_j, ↓uj_i, ↓z_zero_o, ↓z_zero_j, ui_s, uj_s, ui_o, ui_k, uj_o, uj_k, ui_j, uj_i, z_zero_o, z_zero_j]; exact htu
  · unfold nM0111; simp (disch := first | decide | exact ad_ne (by decide) | exact ad_m (by decide) | exact ad_l (by decide) | exact ad_g (by decide) | exact ad_lt (by decide) | exact ad_o (by decide) | omega) only [↓ui_s, ↓uj_s, ↓ui_o, ↓ui_k, ↓uj_o, ↓uj_k, ↓ui_j, ↓uj_i, ↓z_zero_o, ↓z_zero_j, ui_s, uj_s, ui_o, ui_k, uj_o, uj_k, ui_j, uj_i, z_zero_o, z_zero_j]; exact hdl
theorem rg_nob1000 {x m : zM} (R : RCl x m) (hfo : x.1 2 3 = m.1 50 47) (htu : x.1 0 8 = m.1 50 45) {dl e : Nat} (hdl : m.1 50 40 = nI dl) (hdl4 : dl < 4) (he : (dl + 1) % 4 = e) (ds : Bool) : RG (eHB (z_ui (z_ui (z_ui (z_ui x 18 4 ((x.1 18 4) + 3000)) 26 4 ((x.1 26 4) + (-1000))) 34 4 ((x.1 34 4) + (-1000))) 42 4 ((x.1 42 4) + (-1000))) ds false (xBk (z_ui (z_ui (z_ui (z_ui x 18 4 ((x.1 18 4) + 3000)) 26 4 ((x.1 26 4) + (-1000))) 34 4 ((x.1 34 4) + (-1000))) 42 4 ((x.1 42 4) + (-1000)))) dl e (rcM (z_ui (z_ui (z_ui (z_ui x 18 4 ((x.1 18 4) + 3000)) 26 4 ((x.1 26 4) + (-1000))) 34 4 ((x.1 34 4) + (-1000))) 42 4 ((x.1 42 4) + (-1000))))) (eMB (nM1000 m) ds true dl e) := by
  refine rg_ends (rc_nob1000 R) ?_ ?_ ?_ hdl4 he ds false
  · unfold nM1000; simp (disch := first | decide | exact ad_ne (by decide) | exact ad_m (by decide) | exact ad_l (by decide) | exact ad_g (by decide) | exact ad_lt (by decide) | exact ad_o (by decide) | omega) only [↓ui_s, ↓uj_s, ↓ui_o, ↓ui_k, ↓uj_o, ↓uj_k, ↓ui_j, ↓uj_i, ↓z_zero_o, ↓z_zero_j, ui_s, uj_s, ui_o, ui_k, uj_o, uj_k, ui_j, uj_i, z_zero_o, z_zero_j]; exact hfo
  · unfold nM1000; simp (disch := first | decide | exact ad_ne (by decide) | exact ad_m (by decide) | exact ad_l (by decide) | exact ad_g (by decide) | exact ad_lt (by decide) | exact ad_o (by decide) | omega) only [↓ui_s, ↓uj_s, ↓ui_o, ↓ui_k, ↓uj_o, ↓uj_k, ↓ui_j, ↓uj_i, ↓z_zero_o, ↓z_zero_j, ui_s, uj_s, ui_o, ui_k, uj_o, uj_k, ui_j, uj_i, z_zero_o, z_zero_j]; exact htu
  · unfold nM1000; simp (disch := first | decide | exact ad_ne (by decide) | exact ad_m (by decide) | exact ad_l (by decide) | exact ad_g (by decide) | exact ad_lt (by decide) | exact ad_o (by decide) | omega) only [↓ui_s, ↓uj_s, ↓ui_o, ↓ui_k, ↓uj_o, ↓uj_k, ↓ui_j, ↓uj_i, ↓z_zero_o, ↓z_zero_j, ui_s, uj_s, ui_o, ui_k, uj_o, uj_k, ui_j, uj_i, z_zero_o, z_zero_j]; exact hdl
theorem rg_nob1001 {x m : zM} (R : RCl x m) (hfo : x.1 2 3 = m.1 50 47) (htu : x.1 0 8 = m.1 50 45) {dl e : Nat} (hdl : m.1 50 40 = nI dl) (hdl4 : dl < 4) (he : (dl + 1) % 4 = e) (ds : Bool) : RG (eHB (z_ui (z_ui (z_ui (z_ui x 18 4 ((x.1 18 4) + 1500)) 26 4 ((x.1 26 4) + (-1500))) 34 4 ((x.1 34 4) + (-1500))) 42 4 ((x.1 42 4) + 1500)) ds false (xBk (z_ui (z_ui (z_ui (z_ui x 18 4 ((x.1 18 4) + 1500)) 26 4 ((x.1 26 4) + (-1500))) 34 4 ((x.1 34 4) + (-1500))) 42 4 ((x.1 42 4) + 1500))) dl e (rcM (z_ui (z_ui (z_ui (z_ui x 18 4 ((x.1 18 4) + 1500)) 26 4 ((x.1 26 4) + (-1500))) 34 4 ((x.1 34 4) + (-1500))) 42 4 ((x.1 42 4) + 1500)))) (eMB (nM1001 m) ds true dl e) := by
  refine rg_ends (rc_nob1001 R) ?_ ?_ ?_ hdl4 he ds false
  · unfold nM1001; simp (disch := first | decide | exact ad_ne (by decide) | exact ad_m (by decide) | exact ad_l (by decide) | exact ad_g (by decide) | exact ad_lt (by decide) | exact ad_o (by decide) | omega) only [↓ui_s, ↓uj_s, ↓ui_o, ↓ui_k, ↓uj_o, ↓uj_k, ↓ui_j, ↓uj_i, ↓z_zero_o, ↓z_zero_j, ui_s, uj_s, ui_o, ui_k, uj_o, uj_k, ui_j, uj_i, z_zero_o, z_zero_j]; exact hfo
  · unfold nM1001; simp (disch := first | decide | exact ad_ne (by decide) | exact ad_m (by decide) | exact ad_l (by decide) | exact ad_g (by decide) | exact ad_lt (by decide) | exact ad_o (by decide) | omega) only [↓ui_s, ↓uj_s, ↓ui_o, ↓ui_k, ↓uj_o, ↓uj_k, ↓ui_j, ↓uj_i, ↓z_zero_o, ↓z_zero_j, ui_s, uj_s, ui_o, ui_k, uj_o, uj_k, ui_j, uj_i, z_zero_o, z_zero_j]; exact htu
  · unfold nM1001; simp (disch := first | decide | exact ad_ne (by decide) | exact ad_m (by decide) | exact ad_l (by decide) | exact ad_g (by decide) | exact ad_lt (by decide) | exact ad_o (by decide) | omega) only [↓ui_s, ↓uj_s, ↓ui_o, ↓ui_k, ↓uj_o, ↓uj_k, ↓ui_j, ↓uj_i, ↓z_zero_o, ↓z_zero_j, ui_s, uj_s, ui_o, ui_k, uj_o, uj_k, ui_j, uj_i, z_zero_o, z_zero_j]; exact hdl
theorem rg_nob1010 {x m : zM} (R : RCl x m) (hfo : x.1 2 3 = m.1 50 47) (htu : x.1 0 8 = m.1 50 45) {dl e : Nat} (hdl : m.1 50 40 = nI dl) (hdl4 : dl < 4) (he : (dl + 1) % 4 = e) (ds : Bool) : RG (eHB (z_ui (z_ui (z_ui (z_ui x 18 4 ((x.1 18 4) + 1500)) 26 4 ((x.1 26 4) + (-1500))) 34 4 ((x.1 34 4) + 1500)) 42 4 ((x.1 42 4) + (-1500))) ds false (xBk (z_ui (z_ui (z_ui (z_ui x 18 4 ((x.1 18 4) + 1500)) 26 4 ((x.1 26 4) + (-1500))) 34 4 ((x.1 34 4) + 1500)) 42 4 ((x.1 42 4) + (-1500)))) dl e (rcM (z_ui (z_ui (z_ui (z_ui x 18 4 ((x.1 18 4) + 1500)) 26 4 ((x.1 26 4) + (-1500))) 34 4 ((x.1 34 4) + 1500)) 42 4 ((x.1 42 4) + (-1500))))) (eMB (nM1010 m) ds true dl e) := by
  refine rg_ends (rc_nob1010 R) ?_ ?_ ?_ hdl4 he ds false
  · unfold nM1010; simp (disch := first | decide | exact ad_ne (by decide) | exact ad_m (by decide) | exact ad_l (by decide) | exact ad_g (by decide) | exact ad_lt (by decide) | exact ad_o (by decide) | omega) only [↓ui_s, ↓uj_s, ↓ui_o, ↓ui_k, ↓uj_o, ↓uj_k, ↓ui_j, ↓uj_i, ↓z_zero_o, ↓z_zero_j, ui_s, uj_s, ui_o, ui_k, uj_o, uj_k, ui_j, uj_i, z_zero_o, z_zero_j]; exact hfo
  · unfold nM1010; simp (disch := first | decide | exact ad_ne (by decide) | exact ad_m (by decide) | exact ad_l (by decide) | exact ad_g (by decide) | exact ad_lt (by decide) | exact ad_o (by decide) | omega) only [↓ui_s, ↓uj_s, ↓ui_o, ↓ui_k, ↓uj_o, ↓uj_k, ↓ui_j, ↓uj_i, ↓z_zero_o, ↓z_zero_j, ui_s, uj_s, ui_o, ui_k, uj_o, uj_k, ui_j, uj_i, z_zero_o, z_zero_j]; exact htu
  · unfold nM1010; simp (disch := first | decide | exact ad_ne (by decide) | exact ad_m (by decide) | exact ad_l (by decide) | exact ad_g (by decide) | exact ad_lt (by decide) | exact ad_o (by decide) | omega) only [↓ui_s, ↓uj_s, ↓ui_o, ↓ui_k, ↓uj_o, ↓uj_k, ↓ui_j, ↓uj_i, ↓z_zero_o, ↓z_zero_j, ui_s, uj_s, ui_o, ui_k, uj_o, uj_k, ui_j, uj_i, z_zero_o, z_zero_j]; exact hdl
theorem rg_nob1011 {x m : zM} (R : RCl x m) (hfo : x.1 2 3 = m.1 50 47) (htu : x.1 0 8 = m.1 50 45) {dl e : Nat} (hdl : m.1 50 40 = nI dl) (hdl4 : dl < 4) (he : (dl + 1) % 4 = e) (ds : Bool) : RG (eHB (z_ui (z_ui (z_ui (z_ui x 18 4 ((x.1 18 4) + 1000)) 26 4 ((x.1 26 4) + (-3000))) 34 4 ((x.1 34 4) + 1000)) 42 4 ((x.1 42 4) + 1000)) ds false (xBk (z_ui (z_ui (z_ui (z_ui x 18 4 ((x.1 18 4) + 1000)) 26 4 ((x.1 26 4) + (-3000))) 34 4 ((x.1 34 4) + 1000)) 42 4 ((x.1 42 4) + 1000))) dl e (rcM (z_ui (z_ui (z_ui (z_ui x 18 4 ((x.1 18 4) + 1000)) 26 4 ((x.1 26 4) + (-3000))) 34 4 ((x.1 34 4) + 1000)) 42 4 ((x.1 42 4) + 1000)))) (eMB (nM1011 m) ds true dl e) := by
  refine rg_ends (rc_nob1011 R) ?_ ?_ ?_ hdl4 he ds false
  · unfold nM1011; simp (disch := first | decide | exact ad_ne (by decide) | exact ad_m (by decide) | exact ad_l (by decide) | exact ad_g (by decide) | exact ad_lt (by decide) | exact ad_o (by decide) | omega) only [↓ui_s, ↓uj_s, ↓ui_o, ↓ui_k, ↓uj_o, ↓uj_k, ↓ui_j, ↓uj_i, ↓z_zero_o, ↓z_zero_j, ui_s, uj_s, ui_o, ui_k, uj_o, uj_k, ui_j, uj_i, z_zero_o, z_zero_j]; exact hfo
  · unfold nM1011; simp (disch := first | decide | exact ad_ne (by decide) | exact ad_m (by decide) | exact ad_l (by decide) | exact ad_g (by decide) | exact ad_lt (by decide) | exact ad_o (by decide) | omega) only [↓ui_s, ↓uj_s, ↓ui_o, ↓ui_k, ↓uj_o, ↓uj_k, ↓ui_j, ↓uj_i, ↓z_zero_o, ↓z_zero_j, ui_s, uj_s, ui_o, ui_k, uj_o, uj_k, ui_j, uj_i, z_zero_o, z_zero_j]; exact htu
  · unfold nM1011; simp (disch := first | decide | exact ad_ne (by decide) | exact ad_m (by decide) | exact ad_l (by decide) | exact ad_g (by decide) | exact ad_lt (by decide) | exact ad_o (by decide) | omega) only [↓ui_s, ↓uj_s, ↓ui_o, ↓ui_k, ↓uj_o, ↓uj_k, ↓ui_j, ↓uj_i, ↓z_zero_o, ↓z_zero_j, ui_s, uj_s, ui_o, ui_k, uj_o, uj_k, ui_j, uj_i, z_zero_o, z_zero_j]; exact hdl
theorem rg_nob1100 {x m : zM} (R : RCl x m) (hfo : x.1 2 3 = m.1 50 47) (htu : x.1 0 8 = m.1 50 45) {dl e : Nat} (hdl : m.1 50 40 = nI dl) (hdl4 : dl < 4) (he : (dl + 1) % 4 = e) (ds : Bool) : RG (eHB (z_ui (z_ui (z_ui (z_ui x 18 4 ((x.1 18 4) + 1500)) 26 4 ((x.1 26 4) + 1500)) 34 4 ((x.1 34 4) + (-1500))) 42 4 ((x.1 42 4) + (-1500))) ds false (xBk (z_ui (z_ui (z_ui (z_ui x 18 4 ((x.1 18 4) + 1500)) 26 4 ((x.1 26 4) + 1500)) 34 4 ((x.1 34 4) + (-1500))) 42 4 ((x.1 42 4) + (-1500)))) dl e (rcM (z_ui (z_ui (z_ui (z_ui x 18 4 ((x.1 18 4) + 1500)) 26 4 ((x.1 26 4) + 1500)) 34 4 ((x.1 34 4) + (-1500))) 42 4 ((x.1 42 4) + (-1500))))) (eMB (nM1100 m) ds true dl e) := by
  refine rg_ends (rc_nob1100 R) ?_ ?_ ?_ hdl4 he ds false
  · unfold nM1100; simp (disch := first | decide | exact ad_ne (by decide) | exact ad_m (by decide) | exact ad_l (by decide) | exact ad_g (by decide) | exact ad_lt (by decide) | exact ad_o (by decide) | omega) only [↓ui_s, ↓uj_s, ↓ui_o, ↓ui_k, ↓uj_o, ↓uj_k, ↓ui_j, ↓uj_i, ↓z_zero_o, ↓z_zero_j, ui_s, uj_s, ui_o, ui_k, uj_o, uj_k, ui_j, uj_i, z_zero_o, z_zero_j]; exact hfo
  · unfold nM1100; simp (disch := first | decide | exact ad_ne (by decide) | exact ad_m (by decide) | exact ad_l (by decide) | exact ad_g (by decide) | exact ad_lt (by decide) | exact ad_o (by decide) | omega) only [↓ui_s, ↓uj_s, ↓ui_o, ↓ui_k, ↓uj_o, ↓uj_k, ↓ui_j, ↓uj_i, ↓z_zero_o, ↓z_zero_j, ui_s, uj_s, ui_o, ui_k, uj_o, uj_k, ui_j, uj_i, z_zero_o, z_zero_j]; exact htu
  · unfold nM1100; simp (disch := first | decide | exact ad_ne (by decide) | exact ad_m (by decide) | exact ad_l (by decide) | exact ad_g (by decide) | exact ad_lt (by decide) | exact ad_o (by decide) | omega) only [↓ui_s, ↓uj_s, ↓ui_o, ↓ui_k, ↓uj_o, ↓uj_k, ↓ui_j, ↓uj_i, ↓z_zero_o, ↓z_zero_j, ui_s, uj_s, ui_o, ui_k, uj_o, uj_k, ui_j, uj_i, z_zero_o, z_zero_j]; exact hdl
theorem rg_nob1101 {x m : zM} (R : RCl x m) (hfo : x.1 2 3 = m.1 50 47) (htu : x.1 0 8 = m.1 50 45) {dl e : Nat} (hdl : m.1 50 40 = nI dl) (hdl4 : dl < 4) (he : (dl + 1) % 4 = e) (ds : Bool) : RG (eHB (z_ui (z_ui (z_ui (z_ui x 18 4 ((x.1 18 4) + 1000)) 26 4 ((x.1 26 4) + 1000)) 34 4 ((x.1 34 4) + (-3000))) 42 4 ((x.1 42 4) + 1000)) ds false (xBk (z_ui (z_ui (z_ui (z_ui x 18 4 ((x.1 18 4) + 1000)) 26 4 ((x.1 26 4) + 1000)) 34 4 ((x.1 34 4) + (-3000))) 42 4 ((x.1 42 4) + 1000))) dl e (rcM (z_ui (z_ui (z_ui (z_ui x 18 4 ((x.1 18 4) + 1000)) 26 4 ((x.1 26 4) + 1000)) 34 4 ((x.1 34 4) + (-3000))) 42 4 ((x.1 42 4) + 1000)))) (eMB (nM1101 m) ds true dl e) := by
  refine rg_ends (rc_nob1101 R) ?_ ?_ ?_ hdl4 he ds false
  · unfold nM1101; simp (disch := first | decide | exact ad_ne (by decide) | exact ad_m (by decide) | exact ad_l (by decide) | exact ad_g (by decide) | exact ad_lt (by decide) | exact ad_o (by decide) | omega) only [↓ui_s, ↓uj_s, ↓ui_o, ↓ui_k, ↓uj_o, ↓uj_k, ↓ui_j, ↓uj_i, ↓z_zero_o, ↓z_zero_j, ui_s, uj_s, ui_o, ui_k, uj_o, uj_k, ui_j, uj_i, z_zero_o, z_zero_j]; exact hfo
  · unfold nM1101; simp (disch := first | decide | exact ad_ne (by decide) | exact ad_m (by decide) | exact ad_l (by decide) | exact ad_g (by decide) | exact ad_lt (by decide) | exact ad_o (by decide) | omega) only [↓ui_s, ↓uj_s, ↓ui_o, ↓ui_k, ↓uj_o, ↓uj_k, ↓ui_j, ↓uj_i, ↓z_zero_o, ↓z_zero_j, ui_s, uj_s, ui_o, ui_k, uj_o, uj_k, ui_j, uj_i, z_zero_o, z_zero_j]; exact htu
  · unfold nM1101; simp (disch := first | decide | exact ad_ne (by decide) | exact ad_m (by decide) | exact ad_l (by decide) | exact ad_g (by decide) | exact ad_lt (by decide) | exact ad_o (by decide) | omega) only [↓ui_s, ↓uj_s, ↓ui_o, ↓ui_k, ↓uj_o, ↓uj_k, ↓ui_j, ↓uj_i, ↓z_zero_o, ↓z_zero_j, ui_s, uj_s, ui_o, ui_k, uj_o, uj_k, ui_j, uj_i, z_zero_o, z_zero_j]; exact hdl
theorem rg_nob1110 {x m : zM} (R : RCl x m) (hfo : x.1 2 3 = m.1 50 47) (htu : x.1 0 8 = m.1 50 45) {dl e : Nat} (hdl : m.1 50 40 = nI dl) (hdl4 : dl < 4) (he : (dl + 1) % 4 = e) (ds : Bool) : RG (eHB (z_ui (z_ui (z_ui (z_ui x 18 4 ((x.1 18 4) + 1000)) 26 4 ((x.1 26 4) + 1000)) 34 4 ((x.1 34 4) + 1000)) 42 4 ((x.1 42 4) + (-3000))) ds false (xBk (z_ui (z_ui (z_ui (z_ui x 18 4 ((x.1 18 4) + 1000)) 26 4 ((x.1 26 4) + 1000)) 34 4 ((x.1 34 4) + 1000)) 42 4 ((x.1 42 4) + (-3000)))) dl e (rcM (z_ui (z_ui (z_ui (z_ui x 18 4 ((x.1 18 4) + 1000)) 26 4 ((x.1 26 4) + 1000)) 34 4 ((x.1 34 4) + 1000)) 42 4 ((x.1 42 4) + (-3000))))) (eMB (nM1110 m) ds true dl e) := by
  refine rg_ends (rc_nob1110 R) ?_ ?_ ?_ hdl4 he ds false
  · unfold nM1110; simp (disch := first | decide | exact ad_ne (by decide) | exact ad_m (by decide) | exact ad_l (by decide) | exact ad_g (by decide) | exact ad_lt (by decide) | exact ad_o (by decide) | omega) only [↓ui_s, ↓uj_s, ↓ui_o, ↓ui_k, ↓uj_o, ↓uj_k, ↓ui_j, ↓uj_i, ↓z_zero_o, ↓z_zero_j, ui_s, uj_s, ui_o, ui_k, uj_o, uj_k, ui_j, uj_i, z_zero_o, z_zero_j]; exact hfo
  · unfold nM1110; simp (disch := first | decide | exact ad_ne (by decide) | exact ad_m (by decide) | exact ad_l (by decide) | exact ad_g (by decide) | exact ad_lt (by decide) | exact ad_o (by decide) | omega) only [↓ui_s, ↓uj_s, ↓ui_o, ↓ui_k, ↓uj_o, ↓uj_k, ↓ui_j, ↓uj_i, ↓z_zero_o, ↓z_zero_j, ui_s, uj_s, ui_o, ui_k, uj_o, uj_k, ui_j, uj_i, z_zero_o, z_zero_j]; exact htu
  · unfold nM1110; simp (disch := first | decide | exact ad_ne (by decide) | exact ad_m (by decide) | exact ad_l (by decide) | exact ad_g (by decide) | exact ad_lt (by decide) | exact ad_o (by decide) | omega) only [↓ui_s, ↓uj_s, ↓ui_o, ↓ui_k, ↓uj_o, ↓uj_k, ↓ui_j, ↓uj_i, ↓z_zero_o, ↓z_zero_j, ui_s, uj_s, ui_o, ui_k, uj_o, uj_k, ui_j, uj_i, z_zero_o, z_zero_j]; exact hdl
theorem rg_nob1111 {x m : zM} (R : RCl x m) (hfo : x.1 2 3 = m.1 50 47) (htu : x.1 0 8 = m.1 50 45) {dl e : Nat} (hdl : m.1 50 40 = nI dl) (hdl4 : dl < 4) (he : (dl + 1) % 4 = e) (ds : Bool) : RG (eHB (x) ds false (xBk (x)) dl e (rcM (x))) (eMB (nM1111 m) ds true dl e) := by
  refine rg_ends (rc_nob1111 R) ?_ ?_ ?_ hdl4 he ds false
  · unfold nM1111; simp (disch := first | decide | exact ad_ne (by decide) | exact ad_m (by decide) | exact ad_l (by decide) | exact ad_g (by decide) | exact ad_lt (by decide) | exact ad_o (by decide) | omega) only [↓ui_s, ↓uj_s, ↓ui_o, ↓ui_k, ↓uj_o, ↓uj_k, ↓ui_j, ↓uj_i, ↓z_zero_o, ↓z_zero_j, ui_s, uj_s, ui_o, ui_k, uj_o, uj_k, ui_j, uj_i, z_zero_o, z_zero_j]; exact hfo
  · unfold nM1111; simp (disch := first | decide | exact ad_ne (by decide) | exact ad_m (by decide) | exact ad_l (by decide) | exact ad_g (by decide) | exact ad_lt (by decide) | exact ad_o (by decide) | omega) only [↓ui_s, ↓uj_s, ↓ui_o, ↓ui_k, ↓uj_o, ↓uj_k, ↓ui_j, ↓uj_i, ↓z_zero_o, ↓z_zero_j, ui_s, uj_s, ui_o, ui_k, uj_o, uj_k, ui_j, uj_i, z_zero_o, z_zero_j]; exact htu
  · unfold nM1111; simp (disch := first | decide | exact ad_ne (by decide) | exact ad_m (by decide) | exact ad_l (by decide) | exact ad_g (by decide) | exact ad_lt (by decide) | exact ad_o (by decide) | omega) only [↓ui_s, ↓uj_s, ↓ui_o, ↓ui_k, ↓uj_o, ↓uj_k, ↓ui_j, ↓uj_i, ↓z_zero_o, ↓z_zero_j, ui_s, uj_s, ui_o, ui_k, uj_o, uj_k, ui_j, uj_i, z_zero_o, z_zero_j]; exact hdl
/-! the reference's WAITS as its contracts ask for them -/
set_option maxRecDepth 8000
theorem WMs_se {μ M : zM} (h : SE μ M) {s : Nat} {w : Nat → Nat} {q : Nat} : WMs M s w q = WMs μ s w q := by
  funext c
  unfold WMs
  rw [show (fun i => M.1 62 (4 * s + i)) = (fun i => μ.1 62 (4 * s + i)) from funext fun i => h 62 _ (by omega), show (fun i => M.1 63 (4 * s + i)) = (fun i => μ.1 63 (4 * s + i)) from funext fun i => h 63 _ (by omega)]
theorem mw_wait {μ : zM} {s : Nat} {w : Nat → Nat} {q : Nat} {sL lL : Nat → Nat} (H : HM μ s w q sL lL) (hs : s < 4) : ∀ M, SE μ M → a_H M → ∀ d, 699 ≤ d → z_C d mi_X7_waitsAt [.ref 50, .int (nI s)] M (fun r W => r = some (.long (WV μ s w q)) ∧ SMj M W ∧ a_H W) := fun M hM hA d hd => by
  have z := gm_waitsAt d (by omega) M hA s hs w q sL lL (H.se hM)
  rw [WMs_se hM] at z
  exact z
theorem HM.m {m m' : zM} {s : Nat} {w : Nat → Nat} {q : Nat} {sL lL : Nat → Nat} (h : HM m s w q sL lL) (e : EqM m m') : HM m' s w q sL lL := h.se (fun r k g => (e r k (Or.inl (by omega))).1)
theorem WV_m {m m' : zM} (e : EqM m m') {s : Nat} {w : Nat → Nat} {q : Nat} : WV m' s w q = WV m s w q := by
  unfold WV
  rw [WMs_se (μ := m) (M := m') (fun r k g => (e r k (Or.inl (by omega))).1)]
theorem HF.m {x m m' : zM} {s : Nat} {w aw : Nat → Nat} {q : Nat} {sL lL : Nat → Nat} (H : HF x m s w aw q sL lL) (e : EqM m m') : HF x m' s w aw q sL lL := by
  obtain ⟨h1, h2, h3, h4, h5, h6, h7, h8⟩ := H
  refine ⟨h1.m e, h2, h3, h4, h5, h6, h7, fun k hk => ?_⟩
  rw [h8 k hk, show (fun i => m'.1 62 (4 * s + i)) = (fun i => m.1 62 (4 * s + i)) from funext fun i => (e 62 _ (Or.inl ⟨by omega, by omega⟩)).1, show (fun i => m'.1 63 (4 * s + i)) = (fun i => m.1 63 (4 * s + i)) from funext fun i => (e 63 _ (Or.inl ⟨by omega, by omega⟩)).1]
/-! who may claim a SET: alike -/
set_option maxRecDepth 8000
noncomputable abbrev xMC (μ : zM) (s : Nat) : Bool := (decide ((μ.1 0 7) = 2)) && ((sI (nI s)) && (!(decide ((nI s) = (μ.1 0 8))) && ((decide ((μ.1 (18 + 8 * s) 5) = 0)) && (!(decide ((xLf μ) ≤ 0)) && (!(xAny μ))))))
noncomputable abbrev mMC (μ : zM) (s : Nat) : Bool := (decide ((μ.1 50 44) = 2)) && (!(anS μ) && (!(decide (((122 - (μ.1 50 47)) - (μ.1 50 46)) ≤ 0)) && (!(decide ((nI s) = (μ.1 50 45))) && (decide ((μ.1 67 s) = 0)))))
theorem any_eq {x m : zM} (R : RCl x m) : xAny x = anS m := by
  have e0 : x.1 18 9 = m.1 71 0 := R.sy 0 (by decide)
  have e1 : x.1 26 9 = m.1 71 1 := R.sy 1 (by decide)
  have e2 : x.1 34 9 = m.1 71 2 := R.sy 2 (by decide)
  have e3 : x.1 42 9 = m.1 71 3 := R.sy 3 (by decide)
  unfold xAny anS
  rw [e0, e1, e2, e3]
theorem mc_eq {x m : zM} (h : RG x m) {s : Nat} (hs : s < 4) : xMC x s = mMC m s := by
  have R := h.1
  obtain ⟨e7, e8, e3⟩ := rg_ph h
  unfold xMC mMC
  rw [e7, e8, sI_n hs, R.be s hs, any_eq R, Bool.true_and]
  rcases h.2 with ⟨p1, p2, -, -, -⟩ | ⟨p, t, c, P⟩
  · rw [p2]; rfl
  · unfold xLf
    rw [R.sd, P.is, e3, R.nx, show decide ((1 : Int32) = 0) = false from by decide, cond_false]
    generalize decide (m.1 50 44 = 2) = b1
    generalize anS m = b2
    generalize decide (122 - m.1 50 47 - m.1 50 46 ≤ 0) = b3
    generalize decide (nI s = m.1 50 45) = b4
    generalize decide (m.1 67 s = 0) = b5
    cases b1 <;> cases b2 <;> cases b3 <;> cases b4 <;> cases b5 <;> rfl
/-! a tile stays to be discarded: alike (three) -/
set_option maxRecDepth 8000
theorem hd_one : ∀ c, c < 34 → ∀ k, k < 34 → xHd ((1 : Int64) <<< ((nI c).toInt64 &&& 63)) (nI k) = decide (k = c) := by decide +kernel
theorem hd_zero : ∀ k, k < 34 → xHd 0 (nI k) = false := by decide +kernel
theorem nI_dec {a b : Nat} (ha : a < 34) (hb : b < 34) : decide (nI a = nI b) = decide (a = b) := by
  by_cases e : a = b
  · rw [decide_eq_true e, decide_eq_true (by rw [e])]
  · rw [decide_eq_false e, decide_eq_false (fun z => e ((nI_eq (by omega) (by omega)).mp z))]
theorem ko_three {x m : zM} (R : RCl x m) {s c : Nat} (hs : s < 4) (hc : c < 34) : kA (koF x s 0 ((1 : Int64) <<< ((nI c).toInt64 &&& 63))) 34 = kA (cdF (z_giv (z_ui (z_ui (z_ui m 50 0 0) 50 50 (nI c)) 50 51 (-1)) s c (-2)) s) 34 := by
  refine kA_cg (fun k hk => ?_)
  have e50 : (z_giv (z_ui (z_ui (z_ui m 50 0 0) 50 50 (nI c)) 50 51 (-1)) s c (-2)).1 50 50 = nI c := by rw [giv_o (by decide), ui_k (by decide), ui_s]
  have e51 : (z_giv (z_ui (z_ui (z_ui m 50 0 0) 50 50 (nI c)) 50 51 (-1)) s c (-2)).1 50 51 = -1 := by rw [giv_o (by decide), ui_s]
  unfold koF cdF
  rw [hd_zero k hk, hd_one c hc k hk, show nB false = 0 from rfl, Int32.sub_zero, R.hd s k hs hk, e50, e51, nI_dec hk hc, nI_m1n hk]
  by_cases e : k = c
  · rw [decide_eq_true e]; simp
  · rw [decide_eq_false e, giv_60, if_neg (by omega), ui_o (by decide), ui_o (by decide), ui_o (by decide)]; simp
/-! further refused calls: three, four, run -/
set_option maxRecDepth 8000
theorem gx_threeF (d : Nat) (hd : 4 ≤ d) (μ : zM) (s c : Nat) (hs4 : s < 4) (hc15 : μ.1 0 15 = nI c) (hmc : ∀ d, 3 ≤ d → z_C d mi_X6_mayClaimSet [.ref 0, .int (nI s)] μ (zR μ (.int 1))) (hf : decide (2 ≤ fr μ (20 + 8 * s) (nI c)) = false) : z_C d mi_X6_three [.ref 0, .int (nI s)] μ (fun r μ' => r = some (.int 0) ∧ μ' = μ) := by
  refine z_C_in (by decide) (by omega) (fun d' Z ed hc hr => ?_)
  have hH : zH mi_X6_three zt_X6_three 79 6 4 := hh_X6_three
  refine z_rcs hc hH 2 (pc' := 2) (lv' := [(0, .ref 0), (1, .int (nI s))]) (st' := [.int (nI s), .ref 0]) (μ' := μ) (by rfl) ?_
  refine zq_call hc (z_cx_ok hH (by rfl)) (hmc d' (by omega)) (by decide +kernel) (fun r9 μ9 hq => ?_)
  obtain ⟨hμ9, rfl⟩ := hq
  rw [hμ9]
  clear hμ9 μ9
  show Z 0 5 [(0, .ref 0), (1, .int (nI s))] [.int 1] μ
  refine z_rcs hc hH 3 (pc' := 10) (lv' := [(0, .ref 0), (1, .int (nI s))]) (st' := [.int (nI s), .ref 0]) (μ' := μ) (by rfl) ?_
  refine zq_call hc (z_cx_ok hH (by rfl)) (gc_at4 d' (by omega) μ s hs4) (by decide +kernel) (fun r9 μ9 hq => ?_)
  obtain ⟨hμ9, rfl⟩ := hq
  rw [hμ9]
  clear hμ9 μ9
  show Z 0 13 [(0, .ref 0), (1, .int (nI s))] [.ref (18 + 8 * s)] μ
  refine zq_gfr hc hH (by rfl) (ci := 1) (f := 0) (q := 19 + 8 * s) (by rfl) (sj (P := fun i => okf 79 1 0 (18 + 8 * i)) hs4 (by decide +kernel)) (by rfl) (sj (P := fun i => Nat.beq (z_gr (18 + 8 * i) 0) (19 + 8 * i)) hs4 (by decide +kernel)) ?_
  refine z_rcs hc hH 1 (pc' := 17) (lv' := [(0, .ref 0), (1, .int (nI s))]) (st' := [.ref 0, .ref (19 + 8 * s)]) (μ' := μ) (by rfl) ?_
  refine zq_gfi hc hH (by rfl) (ci := 5) (f := 15) (by rfl) (by decide +kernel) (by rfl) ?_
  rw [hc15]
  refine zq_call hc (z_clv9 hH (by rfl) (by rfl) (by rfl) (by rfl) (sj (P := fun i => okr 79 2 (19 + 8 * i)) hs4 (by decide +kernel)) (by rfl) (by rfl)) (gc_free d' (by omega) μ s hs4 (nI c)) (by decide +kernel) (fun r9 μ9 hq => ?_)
  obtain ⟨hμ9, rfl⟩ := hq
  rw [hμ9]
  clear hμ9 μ9
  show Z 0 23 [(0, .ref 0), (1, .int (nI s))] [.int (fr μ (20 + 8 * s) (nI c))] μ
  refine z_rcs hc hH 1 (pc' := 24) (lv' := [(0, .ref 0), (1, .int (nI s))]) (st' := [.int 2, .int (fr μ (20 + 8 * s) (nI c))]) (μ' := μ) (by rfl) ?_
  refine zq_ic hc hH (by rfl) (tg := 29) (by rfl) (fun h1 => ?_) (fun h1 => ?_)
  · have h1 : (decide (2 ≤ (fr μ (20 + 8 * s) (nI c)))) = true := decide_eq_true (cm_ge.mp h1)
    exact absurd (Eq.trans (Eq.symm (hf)) h1) (by decide)
  · have h1 : (decide (2 ≤ (fr μ (20 + 8 * s) (nI c)))) = false := decide_eq_false (cn_ge.mp h1)
    refine z_rcs hc hH 1 (pc' := 28) (lv' := [(0, .ref 0), (1, .int (nI s))]) (st' := [.int 0]) (μ' := μ) (by rfl) ?_
    exact hr 0 28 _ _ _ (some (.int 0)) (by decide +kernel) (z_rx_ok hH (by rfl)) (⟨rfl, rfl⟩)
theorem gx_fourF (d : Nat) (hd : 4 ≤ d) (μ : zM) (s c : Nat) (hs4 : s < 4) (hc15 : μ.1 0 15 = nI c) (hmc : ∀ d, 3 ≤ d → z_C d mi_X6_mayClaimSet [.ref 0, .int (nI s)] μ (zR μ (.int 1))) (hf : decide (fr μ (20 + 8 * s) (nI c) < 3) = true) : z_C d mi_X6_four [.ref 0, .int (nI s)] μ (fun r μ' => r = some (.int 0) ∧ μ' = μ) := by
  refine z_C_in (by decide) (by omega) (fun d' Z ed hc hr => ?_)
  have hH : zH mi_X6_four zt_X6_four 79 6 2 := hh_X6_four
  refine z_rcs hc hH 2 (pc' := 2) (lv' := [(0, .ref 0), (1, .int (nI s))]) (st' := [.int (nI s), .ref 0]) (μ' := μ) (by rfl) ?_
  refine zq_call hc (z_cx_ok hH (by rfl)) (hmc d' (by omega)) (by decide +kernel) (fun r9 μ9 hq => ?_)
  obtain ⟨hμ9, rfl⟩ := hq
  rw [hμ9]
  clear hμ9 μ9
  show Z 0 5 [(0, .ref 0), (1, .int (nI s))] [.int 1] μ
  refine z_rcs hc hH 3 (pc' := 10) (lv' := [(0, .ref 0), (1, .int (nI s))]) (st' := [.int (nI s), .ref 0]) (μ' := μ) (by rfl) ?_
  refine zq_call hc (z_cx_ok hH (by rfl)) (gc_at4 d' (by omega) μ s hs4) (by decide +kernel) (fun r9 μ9 hq => ?_)
  obtain ⟨hμ9, rfl⟩ := hq
  rw [hμ9]
  clear hμ9 μ9
  show Z 0 13 [(0, .ref 0), (1, .int (nI s))] [.ref (18 + 8 * s)] μ
  refine zq_gfr hc hH (by rfl) (ci := 1) (f := 0) (q := 19 + 8 * s) (by rfl) (sj (P := fun i => okf 79 1 0 (18 + 8 * i)) hs4 (by decide +kernel)) (by rfl) (sj (P := fun i => Nat.beq (z_gr (18 + 8 * i) 0) (19 + 8 * i)) hs4 (by decide +kernel)) ?_
  refine z_rcs hc hH 1 (pc' := 17) (lv' := [(0, .ref 0), (1, .int (nI s))]) (st' := [.ref 0, .ref (19 + 8 * s)]) (μ' := μ) (by rfl) ?_
  refine zq_gfi hc hH (by rfl) (ci := 5) (f := 15) (by rfl) (by decide +kernel) (by rfl) ?_
  rw [hc15]
  refine zq_call hc (z_clv9 hH (by rfl) (by rfl) (by rfl) (by rfl) (sj (P := fun i => okr 79 2 (19 + 8 * i)) hs4 (by decide +kernel)) (by rfl) (by rfl)) (gc_free d' (by omega) μ s hs4 (nI c)) (by decide +kernel) (fun r9 μ9 hq => ?_)
  obtain ⟨hμ9, rfl⟩ := hq
  rw [hμ9]
  clear hμ9 μ9
  show Z 0 23 [(0, .ref 0), (1, .int (nI s))] [.int (fr μ (20 + 8 * s) (nI c))] μ
  refine z_rcs hc hH 1 (pc' := 24) (lv' := [(0, .ref 0), (1, .int (nI s))]) (st' := [.int 3, .int (fr μ (20 + 8 * s) (nI c))]) (μ' := μ) (by rfl) ?_
  refine zq_ic hc hH (by rfl) (tg := 38) (by rfl) (fun h1 => ?_) (fun h1 => ?_)
  · have h1 : (decide ((fr μ (20 + 8 * s) (nI c)) < 3)) = true := decide_eq_true (cm_lt.mp h1)
    refine z_rcs hc hH 1 (pc' := 39) (lv' := [(0, .ref 0), (1, .int (nI s))]) (st' := [.int 0]) (μ' := μ) (by rfl) ?_
    exact hr 0 39 _ _ _ (some (.int 0)) (by decide +kernel) (z_rx_ok hH (by rfl)) (⟨rfl, rfl⟩)
  · have h1 : (decide ((fr μ (20 + 8 * s) (nI c)) < 3)) = false := decide_eq_false (cn_lt.mp h1)
    exact absurd (Eq.trans (Eq.symm (hf)) h1) (by decide)
theorem gx_runS (d : Nat) (hd : 4 ≤ d) (μ : zM) (s : Nat) (hs4 : s < 4) (x : Int32) (t u1 : Nat) (ht4 : t < 4) (ht : μ.1 0 8 = nI t) (hu1 : (t + 1) % 4 = u1) (hu14 : u1 < 4) (hmc : ∀ d, 3 ≤ d → z_C d mi_X6_mayClaimSet [.ref 0, .int (nI s)] μ (zR μ (.int 1))) (hsu : decide (nI s = nI u1) = false) : z_C d mi_X6_run [.ref 0, .int (nI s), .int x] μ (fun r μ' => r = some (.int 0) ∧ μ' = μ) := by
  refine z_C_in (by decide) (by omega) (fun d' Z ed hc hr => ?_)
  have hH : zH mi_X6_run zt_X6_run 79 6 6 := hh_X6_run
  refine z_rcs hc hH 2 (pc' := 2) (lv' := [(0, .ref 0), (1, .int (nI s)), (2, .int x)]) (st' := [.int (nI s), .ref 0]) (μ' := μ) (by rfl) ?_
  refine zq_call hc (z_cx_ok hH (by rfl)) (hmc d' (by omega)) (by decide +kernel) (fun r9 μ9 hq => ?_)
  obtain ⟨hμ9, rfl⟩ := hq
  rw [hμ9]
  clear hμ9 μ9
  show Z 0 5 [(0, .ref 0), (1, .int (nI s)), (2, .int x)] [.int 1] μ
  refine z_rcs hc hH 3 (pc' := 10) (lv' := [(0, .ref 0), (1, .int (nI s)), (2, .int x)]) (st' := [.ref 0, .int (nI s)]) (μ' := μ) (by rfl) ?_
  refine zq_gfi hc hH (by rfl) (ci := 5) (f := 8) (by rfl) (by decide +kernel) (by rfl) ?_
  rw [ht]
  refine z_rcs hc hH 2 (pc' := 15) (lv' := [(0, .ref 0), (1, .int (nI s)), (2, .int x)]) (st' := [.int ((nI t) + 1), .int (nI s)]) (μ' := μ) (by rfl) ?_
  rw [nI_s1]
  refine z_rcs hc hH 2 (pc' := 17) (lv' := [(0, .ref 0), (1, .int (nI s)), (2, .int x)]) (st' := [.int ((nI (t + 1)) &&& 3), .int (nI s)]) (μ' := μ) (by rfl) ?_
  rw [show nI (t + 1) &&& 3 = nI u1 from by rw [and3 (by omega), hu1]]
  refine zq_ic hc hH (by rfl) (tg := 27) (by rfl) (fun h1 => ?_) (fun h1 => ?_)
  · have h1 : (decide ((nI s) = (nI u1))) = false := decide_eq_false (cm_ne.mp h1)
    refine z_rcs hc hH 1 (pc' := 28) (lv' := [(0, .ref 0), (1, .int (nI s)), (2, .int x)]) (st' := [.int 0]) (μ' := μ) (by rfl) ?_
    exact hr 0 28 _ _ _ (some (.int 0)) (by decide +kernel) (z_rx_ok hH (by rfl)) (⟨rfl, rfl⟩)
  · have h1 : (decide ((nI s) = (nI u1))) = true := decide_eq_true (cn_ne.mp h1)
    exact absurd (Eq.trans (Eq.symm (hsu)) h1) (by decide)
theorem gx_runR (d : Nat) (hd : 4 ≤ d) (μ : zM) (s : Nat) (hs4 : s < 4) (x : Int32) (t u1 : Nat) (ht4 : t < 4) (ht : μ.1 0 8 = nI t) (hu1 : (t + 1) % 4 = u1) (hu14 : u1 < 4) (hmc : ∀ d, 3 ≤ d → z_C d mi_X6_mayClaimSet [.ref 0, .int (nI s)] μ (zR μ (.int 1))) (hsu : decide (nI s = nI u1) = true) (hsr : ∀ d, 1 ≤ d → z_C d mi_X6_startsRun [.int x] μ (zR μ (.int 0))) : z_C d mi_X6_run [.ref 0, .int (nI s), .int x] μ (fun r μ' => r = some (.int 0) ∧ μ' = μ) := by
  refine z_C_in (by decide) (by omega) (fun d' Z ed hc hr => ?_)
  have hH : zH mi_X6_run zt_X6_run 79 6 6 := hh_X6_run
  refine z_rcs hc hH 2 (pc' := 2) (lv' := [(0, .ref 0), (1, .int (nI s)), (2, .int x)]) (st' := [.int (nI s), .ref 0]) (μ' := μ) (by rfl) ?_
  refine zq_call hc (z_cx_ok hH (by rfl)) (hmc d' (by omega)) (by decide +kernel) (fun r9 μ9 hq => ?_)
  obtain ⟨hμ9, rfl⟩ := hq
  rw [hμ9]
  clear hμ9 μ9
  show Z 0 5 [(0, .ref 0), (1, .int (nI s)), (2, .int x)] [.int 1] μ
  refine z_rcs hc hH 3 (pc' := 10) (lv' := [(0, .ref 0), (1, .int (nI s)), (2, .int x)]) (st' := [.ref 0, .int (nI s)]) (μ' := μ) (by rfl) ?_
  refine zq_gfi hc hH (by rfl) (ci := 5) (f := 8) (by rfl) (by decide +kernel) (by rfl) ?_
  rw [ht]
  refine z_rcs hc hH 2 (pc' := 15) (lv' := [(0, .ref 0), (1, .int (nI s)), (2, .int x)]) (st' := [.int ((nI t) + 1), .int (nI s)]) (μ' := μ) (by rfl) ?_
  rw [nI_s1]
  refine z_rcs hc hH 2 (pc' := 17) (lv' := [(0, .ref 0), (1, .int (nI s)), (2, .int x)]) (st' := [.int ((nI (t + 1)) &&& 3), .int (nI s)]) (μ' := μ) (by rfl) ?_
  rw [show nI (t + 1) &&& 3 = nI u1 from by rw [and3 (by omega), hu1]]
  refine zq_ic hc hH (by rfl) (tg := 27) (by rfl) (fun h1 => ?_) (fun h1 => ?_)
  · have h1 : (decide ((nI s) = (nI u1))) = false := decide_eq_false (cm_ne.mp h1)
    exact absurd (Eq.trans (Eq.symm (hsu)) h1) (by decide)
  · have h1 : (decide ((nI s) = (nI u1))) = true := decide_eq_true (cn_ne.mp h1)
    refine z_rcs hc hH 1 (pc' := 21) (lv' := [(0, .ref 0), (1, .int (nI s)), (2, .int x)]) (st' := [.int x]) (μ' := μ) (by rfl) ?_
    refine zq_call hc (z_cx_ok hH (by rfl)) (hsr d' (by omega)) (by decide +kernel) (fun r9 μ9 hq => ?_)
    obtain ⟨hμ9, rfl⟩ := hq
    rw [hμ9]
    clear hμ9 μ9
    show Z 0 24 [(0, .ref 0), (1, .int (nI s)), (2, .int x)] [.int 0] μ
    refine z_rcs hc hH 2 (pc' := 28) (lv' := [(0, .ref 0), (1, .int (nI s)), (2, .int x)]) (st' := [.int 0]) (μ' := μ) (by rfl) ?_
    exact hr 0 28 _ _ _ (some (.int 0)) (by decide +kernel) (z_rx_ok hH (by rfl)) (⟨rfl, rfl⟩)
theorem gx_runL (d : Nat) (hd : 4 ≤ d) (μ : zM) (s l c : Nat) (hs4 : s < 4) (hl : l + 2 ≤ 33) (hc15 : μ.1 0 15 = nI c) (t u1 : Nat) (ht4 : t < 4) (ht : μ.1 0 8 = nI t) (hu1 : (t + 1) % 4 = u1) (hu14 : u1 < 4) (hmc : ∀ d, 3 ≤ d → z_C d mi_X6_mayClaimSet [.ref 0, .int (nI s)] μ (zR μ (.int 1))) (hsu : decide (nI s = nI u1) = true) (hsr : ∀ d, 1 ≤ d → z_C d mi_X6_startsRun [.int (nI l)] μ (zR μ (.int 1))) (hl1 : decide (nI c < nI l) = true) : z_C d mi_X6_run [.ref 0, .int (nI s), .int (nI l)] μ (fun r μ' => r = some (.int 0) ∧ μ' = μ) := by
  refine z_C_in (by decide) (by omega) (fun d' Z ed hc hr => ?_)
  have hH : zH mi_X6_run zt_X6_run 79 6 6 := hh_X6_run
  refine z_rcs hc hH 2 (pc' := 2) (lv' := [(0, .ref 0), (1, .int (nI s)), (2, .int (nI l))]) (st' := [.int (nI s), .ref 0]) (μ' := μ) (by rfl) ?_
  refine zq_call hc (z_cx_ok hH (by rfl)) (hmc d' (by omega)) (by decide +kernel) (fun r9 μ9 hq => ?_)
  obtain ⟨hμ9, rfl⟩ := hq
  rw [hμ9]
  clear hμ9 μ9
  show Z 0 5 [(0, .ref 0), (1, .int (nI s)), (2, .int (nI l))] [.int 1] μ
  refine z_rcs hc hH 3 (pc' := 10) (lv' := [(0, .ref 0), (1, .int (nI s)), (2, .int (nI l))]) (st' := [.ref 0, .int (nI s)]) (μ' := μ) (by rfl) ?_
  refine zq_gfi hc hH (by rfl) (ci := 5) (f := 8) (by rfl) (by decide +kernel) (by rfl) ?_
  rw [ht]
  refine z_rcs hc hH 2 (pc' := 15) (lv' := [(0, .ref 0), (1, .int (nI s)), (2, .int (nI l))]) (st' := [.int ((nI t) + 1), .int (nI s)]) (μ' := μ) (by rfl) ?_
  rw [nI_s1]
  refine z_rcs hc hH 2 (pc' := 17) (lv' := [(0, .ref 0), (1, .int (nI s)), (2, .int (nI l))]) (st' := [.int ((nI (t + 1)) &&& 3), .int (nI s)]) (μ' := μ) (by rfl) ?_
  rw [show nI (t + 1) &&& 3 = nI u1 from by rw [and3 (by omega), hu1]]
  refine zq_ic hc hH (by rfl) (tg := 27) (by rfl) (fun h1 => ?_) (fun h1 => ?_)
  · have h1 : (decide ((nI s) = (nI u1))) = false := decide_eq_false (cm_ne.mp h1)
    exact absurd (Eq.trans (Eq.symm (hsu)) h1) (by decide)
  · have h1 : (decide ((nI s) = (nI u1))) = true := decide_eq_true (cn_ne.mp h1)
    refine z_rcs hc hH 1 (pc' := 21) (lv' := [(0, .ref 0), (1, .int (nI s)), (2, .int (nI l))]) (st' := [.int (nI l)]) (μ' := μ) (by rfl) ?_
    refine zq_call hc (z_cx_ok hH (by rfl)) (hsr d' (by omega)) (by decide +kernel) (fun r9 μ9 hq => ?_)
    obtain ⟨hμ9, rfl⟩ := hq
    rw [hμ9]
    clear hμ9 μ9
    show Z 0 24 [(0, .ref 0), (1, .int (nI s)), (2, .int (nI l))] [.int 1] μ
    refine z_rcs hc hH 2 (pc' := 30) (lv' := [(0, .ref 0), (1, .int (nI s)), (2, .int (nI l))]) (st' := [.ref 0]) (μ' := μ) (by rfl) ?_
    refine zq_gfi hc hH (by rfl) (ci := 5) (f := 15) (by rfl) (by decide +kernel) (by rfl) ?_
    rw [hc15]
    refine z_rcs hc hH 1 (pc' := 34) (lv' := [(0, .ref 0), (1, .int (nI s)), (2, .int (nI l))]) (st' := [.int (nI l), .int (nI c)]) (μ' := μ) (by rfl) ?_
    refine zq_ic hc hH (by rfl) (tg := 47) (by rfl) (fun h2 => ?_) (fun h2 => ?_)
    · have h2 : (decide ((nI c) < (nI l))) = true := decide_eq_true (cm_lt.mp h2)
      refine z_rcs hc hH 1 (pc' := 48) (lv' := [(0, .ref 0), (1, .int (nI s)), (2, .int (nI l))]) (st' := [.int 0]) (μ' := μ) (by rfl) ?_
      exact hr 0 48 _ _ _ (some (.int 0)) (by decide +kernel) (z_rx_ok hH (by rfl)) (⟨rfl, rfl⟩)
    · have h2 : (decide ((nI c) < (nI l))) = false := decide_eq_false (cn_lt.mp h2)
      exact absurd (Eq.trans (Eq.symm (hl1)) h2) (by decide)
theorem gx_runG (d : Nat) (hd : 4 ≤ d) (μ : zM) (s l c : Nat) (hs4 : s < 4) (hl : l + 2 ≤ 33) (hc15 : μ.1 0 15 = nI c) (t u1 : Nat) (ht4 : t < 4) (ht : μ.1 0 8 = nI t) (hu1 : (t + 1) % 4 = u1) (hu14 : u1 < 4) (hmc : ∀ d, 3 ≤ d → z_C d mi_X6_mayClaimSet [.ref 0, .int (nI s)] μ (zR μ (.int 1))) (hsu : decide (nI s = nI u1) = true) (hsr : ∀ d, 1 ≤ d → z_C d mi_X6_startsRun [.int (nI l)] μ (zR μ (.int 1))) (hl1 : decide (nI c < nI l) = false) (hl2 : decide (nI c ≤ nI (l + 2)) = false) : z_C d mi_X6_run [.ref 0, .int (nI s), .int (nI l)] μ (fun r μ' => r = some (.int 0) ∧ μ' = μ) := by
  refine z_C_in (by decide) (by omega) (fun d' Z ed hc hr => ?_)
  have hH : zH mi_X6_run zt_X6_run 79 6 6 := hh_X6_run
  refine z_rcs hc hH 2 (pc' := 2) (lv' := [(0, .ref 0), (1, .int (nI s)), (2, .int (nI l))]) (st' := [.int (nI s), .ref 0]) (μ' := μ) (by rfl) ?_
  refine zq_call hc (z_cx_ok hH (by rfl)) (hmc d' (by omega)) (by decide +kernel) (fun r9 μ9 hq => ?_)
  obtain ⟨hμ9, rfl⟩ := hq
  rw [hμ9]
  clear hμ9 μ9
  show Z 0 5 [(0, .ref 0), (1, .int (nI s)), (2, .int (nI l))] [.int 1] μ
  refine z_rcs hc hH 3 (pc' := 10) (lv' := [(0, .ref 0), (1, .int (nI s)), (2, .int (nI l))]) (st' := [.ref 0, .int (nI s)]) (μ' := μ) (by rfl) ?_
  refine zq_gfi hc hH (by rfl) (ci := 5) (f := 8) (by rfl) (by decide +kernel) (by rfl) ?_
  rw [ht]
  refine z_rcs hc hH 2 (pc' := 15) (lv' := [(0, .ref 0), (1, .int (nI s)), (2, .int (nI l))]) (st' := [.int ((nI t) + 1), .int (nI s)]) (μ' := μ) (by rfl) ?_
  rw [nI_s1]
  refine z_rcs hc hH 2 (pc' := 17) (lv' := [(0, .ref 0), (1, .int (nI s)), (2, .int (nI l))]) (st' := [.int ((nI (t + 1)) &&& 3), .int (nI s)]) (μ' := μ) (by rfl) ?_
  rw [show nI (t + 1) &&& 3 = nI u1 from by rw [and3 (by omega), hu1]]
  refine zq_ic hc hH (by rfl) (tg := 27) (by rfl) (fun h1 => ?_) (fun h1 => ?_)
  · have h1 : (decide ((nI s) = (nI u1))) = false := decide_eq_false (cm_ne.mp h1)
    exact absurd (Eq.trans (Eq.symm (hsu)) h1) (by decide)
  · have h1 : (decide ((nI s) = (nI u1))) = true := decide_eq_true (cn_ne.mp h1)
    refine z_rcs hc hH 1 (pc' := 21) (lv' := [(0, .ref 0), (1, .int (nI s)), (2, .int (nI l))]) (st' := [.int (nI l)]) (μ' := μ) (by rfl) ?_
    refine zq_call hc (z_cx_ok hH (by rfl)) (hsr d' (by omega)) (by decide +kernel) (fun r9 μ9 hq => ?_)
    obtain ⟨hμ9, rfl⟩ := hq
    rw [hμ9]
    clear hμ9 μ9
    show Z 0 24 [(0, .ref 0), (1, .int (nI s)), (2, .int (nI l))] [.int 1] μ
    refine z_rcs hc hH 2 (pc' := 30) (lv' := [(0, .ref 0), (1, .int (nI s)), (2, .int (nI l))]) (st' := [.ref 0]) (μ' := μ) (by rfl) ?_
    refine zq_gfi hc hH (by rfl) (ci := 5) (f := 15) (by rfl) (by decide +kernel) (by rfl) ?_
    rw [hc15]
    refine z_rcs hc hH 1 (pc' := 34) (lv' := [(0, .ref 0), (1, .int (nI s)), (2, .int (nI l))]) (st' := [.int (nI l), .int (nI c)]) (μ' := μ) (by rfl) ?_
    refine zq_ic hc hH (by rfl) (tg := 47) (by rfl) (fun h2 => ?_) (fun h2 => ?_)
    · have h2 : (decide ((nI c) < (nI l))) = true := decide_eq_true (cm_lt.mp h2)
      exact absurd (Eq.trans (Eq.symm (hl1)) h2) (by decide)
    · have h2 : (decide ((nI c) < (nI l))) = false := decide_eq_false (cn_lt.mp h2)
      refine z_rcs hc hH 1 (pc' := 38) (lv' := [(0, .ref 0), (1, .int (nI s)), (2, .int (nI l))]) (st' := [.ref 0]) (μ' := μ) (by rfl) ?_
      refine zq_gfi hc hH (by rfl) (ci := 5) (f := 15) (by rfl) (by decide +kernel) (by rfl) ?_
      rw [hc15]
      refine z_rcs hc hH 3 (pc' := 44) (lv' := [(0, .ref 0), (1, .int (nI s)), (2, .int (nI l))]) (st' := [.int ((nI l) + 2), .int (nI c)]) (μ' := μ) (by rfl) ?_
      rw [show nI l + 2 = nI (l + 2) from by rw [show (2 : Int32) = nI 2 from rfl, nI_add]]
      refine zq_ic hc hH (by rfl) (tg := 49) (by rfl) (fun h3 => ?_) (fun h3 => ?_)
      · have h3 : (decide ((nI c) ≤ (nI (l + 2)))) = true := decide_eq_true (cm_le.mp h3)
        exact absurd (Eq.trans (Eq.symm (hl2)) h3) (by decide)
      · have h3 : (decide ((nI c) ≤ (nI (l + 2)))) = false := decide_eq_false (cn_le.mp h3)
        refine z_rcs hc hH 1 (pc' := 48) (lv' := [(0, .ref 0), (1, .int (nI s)), (2, .int (nI l))]) (st' := [.int 0]) (μ' := μ) (by rfl) ?_
        exact hr 0 48 _ _ _ (some (.int 0)) (by decide +kernel) (z_rx_ok hH (by rfl)) (⟨rfl, rfl⟩)
theorem gx_runA0 (d : Nat) (hd : 4 ≤ d) (μ : zM) (s l : Nat) (hs4 : s < 4) (hl : l + 2 ≤ 33) (hc15 : μ.1 0 15 = nI l) (t u1 : Nat) (ht4 : t < 4) (ht : μ.1 0 8 = nI t) (hu1 : (t + 1) % 4 = u1) (hu14 : u1 < 4) (hmc : ∀ d, 3 ≤ d → z_C d mi_X6_mayClaimSet [.ref 0, .int (nI s)] μ (zR μ (.int 1))) (hsu : decide (nI s = nI u1) = true) (hsr : ∀ d, 1 ≤ d → z_C d mi_X6_startsRun [.int (nI l)] μ (zR μ (.int 1))) (hz1 : decide (μ.1 (20 + 8 * s) (l + 1) = 0) = true) : z_C d mi_X6_run [.ref 0, .int (nI s), .int (nI l)] μ (fun r μ' => r = some (.int 0) ∧ μ' = μ) := by
  refine z_C_in (by decide) (by omega) (fun d' Z ed hc hr => ?_)
  have hH : zH mi_X6_run zt_X6_run 79 6 6 := hh_X6_run
  refine z_rcs hc hH 2 (pc' := 2) (lv' := [(0, .ref 0), (1, .int (nI s)), (2, .int (nI l))]) (st' := [.int (nI s), .ref 0]) (μ' := μ) (by rfl) ?_
  refine zq_call hc (z_cx_ok hH (by rfl)) (hmc d' (by omega)) (by decide +kernel) (fun r9 μ9 hq => ?_)
  obtain ⟨hμ9, rfl⟩ := hq
  rw [hμ9]
  clear hμ9 μ9
  show Z 0 5 [(0, .ref 0), (1, .int (nI s)), (2, .int (nI l))] [.int 1] μ
  refine z_rcs hc hH 3 (pc' := 10) (lv' := [(0, .ref 0), (1, .int (nI s)), (2, .int (nI l))]) (st' := [.ref 0, .int (nI s)]) (μ' := μ) (by rfl) ?_
  refine zq_gfi hc hH (by rfl) (ci := 5) (f := 8) (by rfl) (by decide +kernel) (by rfl) ?_
  rw [ht]
  refine z_rcs hc hH 2 (pc' := 15) (lv' := [(0, .ref 0), (1, .int (nI s)), (2, .int (nI l))]) (st' := [.int ((nI t) + 1), .int (nI s)]) (μ' := μ) (by rfl) ?_
  rw [nI_s1]
  refine z_rcs hc hH 2 (pc' := 17) (lv' := [(0, .ref 0), (1, .int (nI s)), (2, .int (nI l))]) (st' := [.int ((nI (t + 1)) &&& 3), .int (nI s)]) (μ' := μ) (by rfl) ?_
  rw [show nI (t + 1) &&& 3 = nI u1 from by rw [and3 (by omega), hu1]]
  refine zq_ic hc hH (by rfl) (tg := 27) (by rfl) (fun h1 => ?_) (fun h1 => ?_)
  · have h1 : (decide ((nI s) = (nI u1))) = false := decide_eq_false (cm_ne.mp h1)
    exact absurd (Eq.trans (Eq.symm (hsu)) h1) (by decide)
  · have h1 : (decide ((nI s) = (nI u1))) = true := decide_eq_true (cn_ne.mp h1)
    refine z_rcs hc hH 1 (pc' := 21) (lv' := [(0, .ref 0), (1, .int (nI s)), (2, .int (nI l))]) (st' := [.int (nI l)]) (μ' := μ) (by rfl) ?_
    refine zq_call hc (z_cx_ok hH (by rfl)) (hsr d' (by omega)) (by decide +kernel) (fun r9 μ9 hq => ?_)
    obtain ⟨hμ9, rfl⟩ := hq
    rw [hμ9]
    clear hμ9 μ9
    show Z 0 24 [(0, .ref 0), (1, .int (nI s)), (2, .int (nI l))] [.int 1] μ
    refine z_rcs hc hH 2 (pc' := 30) (lv' := [(0, .ref 0), (1, .int (nI s)), (2, .int (nI l))]) (st' := [.ref 0]) (μ' := μ) (by rfl) ?_
    refine zq_gfi hc hH (by rfl) (ci := 5) (f := 15) (by rfl) (by decide +kernel) (by rfl) ?_
    rw [hc15]
    refine z_rcs hc hH 1 (pc' := 34) (lv' := [(0, .ref 0), (1, .int (nI s)), (2, .int (nI l))]) (st' := [.int (nI l), .int (nI l)]) (μ' := μ) (by rfl) ?_
    refine zq_ic hc hH (by rfl) (tg := 47) (by rfl) (fun h2 => ?_) (fun h2 => ?_)
    · have h2 : (decide ((nI l) < (nI l))) = true := decide_eq_true (cm_lt.mp h2)
      exact absurd (Eq.trans (Eq.symm (kn_nlg (by omega) (by omega) (by omega))) h2) (by decide)
    · have h2 : (decide ((nI l) < (nI l))) = false := decide_eq_false (cn_lt.mp h2)
      refine z_rcs hc hH 1 (pc' := 38) (lv' := [(0, .ref 0), (1, .int (nI s)), (2, .int (nI l))]) (st' := [.ref 0]) (μ' := μ) (by rfl) ?_
      refine zq_gfi hc hH (by rfl) (ci := 5) (f := 15) (by rfl) (by decide +kernel) (by rfl) ?_
      rw [hc15]
      refine z_rcs hc hH 3 (pc' := 44) (lv' := [(0, .ref 0), (1, .int (nI s)), (2, .int (nI l))]) (st' := [.int ((nI l) + 2), .int (nI l)]) (μ' := μ) (by rfl) ?_
      rw [show nI l + 2 = nI (l + 2) from by rw [show (2 : Int32) = nI 2 from rfl, nI_add]]
      refine zq_ic hc hH (by rfl) (tg := 49) (by rfl) (fun h3 => ?_) (fun h3 => ?_)
      · have h3 : (decide ((nI l) ≤ (nI (l + 2)))) = true := decide_eq_true (cm_le.mp h3)
        refine z_rcs hc hH 2 (pc' := 51) (lv' := [(0, .ref 0), (1, .int (nI s)), (2, .int (nI l))]) (st' := [.int (nI s), .ref 0]) (μ' := μ) (by rfl) ?_
        refine zq_call hc (z_cx_ok hH (by rfl)) (gc_at4 d' (by omega) μ s hs4) (by decide +kernel) (fun r9 μ9 hq => ?_)
        obtain ⟨hμ9, rfl⟩ := hq
        rw [hμ9]
        clear hμ9 μ9
        show Z 0 54 [(0, .ref 0), (1, .int (nI s)), (2, .int (nI l))] [.ref (18 + 8 * s)] μ
        refine zq_gfr hc hH (by rfl) (ci := 1) (f := 0) (q := 19 + 8 * s) (by rfl) (sj (P := fun i => okf 79 1 0 (18 + 8 * i)) hs4 (by decide +kernel)) (by rfl) (sj (P := fun i => Nat.beq (z_gr (18 + 8 * i) 0) (19 + 8 * i)) hs4 (by decide +kernel)) ?_
        refine zq_gfr hc hH (by rfl) (ci := 2) (f := 0) (q := 20 + 8 * s) (by rfl) (sj (P := fun i => okf 79 2 0 (19 + 8 * i)) hs4 (by decide +kernel)) (by rfl) (sj (P := fun i => Nat.beq (z_gr (19 + 8 * i) 0) (20 + 8 * i)) hs4 (by decide +kernel)) ?_
        refine z_rcs hc hH 7 (pc' := 69) (lv' := [(4, .int (nI l)), (3, .ref (20 + 8 * s)), (0, .ref 0), (1, .int (nI s)), (2, .int (nI l))]) (st' := [.int ((nI l) + 2), .int (nI l)]) (μ' := μ) (by rfl) ?_
        rw [show nI l + 2 = nI (l + 2) from by rw [show (2 : Int32) = nI 2 from rfl, nI_add]]
        refine zq_ic hc hH (by rfl) (tg := 96) (by rfl) (fun h4 => ?_) (fun h4 => ?_)
        · have h4 : (decide ((nI (l + 2)) < (nI l))) = true := decide_eq_true (cm_gt.mp h4)
          exact absurd (Eq.trans (Eq.symm (kn_nlg (by omega) (by omega) (by omega))) h4) (by decide)
        · have h4 : (decide ((nI (l + 2)) < (nI l))) = false := decide_eq_false (cn_gt.mp h4)
          refine z_rcs hc hH 2 (pc' := 75) (lv' := [(4, .int (nI l)), (3, .ref (20 + 8 * s)), (0, .ref 0), (1, .int (nI s)), (2, .int (nI l))]) (st' := [.ref 0, .int (nI l)]) (μ' := μ) (by rfl) ?_
          refine zq_gfi hc hH (by rfl) (ci := 5) (f := 15) (by rfl) (by decide +kernel) (by rfl) ?_
          rw [hc15]
          refine zq_ic hc hH (by rfl) (tg := 90) (by rfl) (fun h5 => ?_) (fun h5 => ?_)
          · have h5 : (decide ((nI l) = (nI l))) = true := decide_eq_true (cm_eq9.mp h5)
            refine z_rcs hc hH 3 (pc' := 66) (lv' := [(4, .int ((nI l) + 1)), (3, .ref (20 + 8 * s)), (0, .ref 0), (1, .int (nI s)), (2, .int (nI l))]) (st' := [.int ((nI l) + 1)]) (μ' := μ) (by rfl) ?_
            rw [show nI l + 1 = nI (l + 1) from by rw [show (1 : Int32) = nI 1 from rfl, nI_add]]
            refine z_rcs hc hH 3 (pc' := 69) (lv' := [(4, .int (nI (l + 1))), (3, .ref (20 + 8 * s)), (0, .ref 0), (1, .int (nI s)), (2, .int (nI l))]) (st' := [.int ((nI l) + 2), .int (nI (l + 1))]) (μ' := μ) (by rfl) ?_
            rw [show nI l + 2 = nI (l + 2) from by rw [show (2 : Int32) = nI 2 from rfl, nI_add]]
            refine zq_ic hc hH (by rfl) (tg := 96) (by rfl) (fun h6 => ?_) (fun h6 => ?_)
            · have h6 : (decide ((nI (l + 2)) < (nI (l + 1)))) = true := decide_eq_true (cm_gt.mp h6)
              exact absurd (Eq.trans (Eq.symm (kn_nlg (by omega) (by omega) (by omega))) h6) (by decide)
            · have h6 : (decide ((nI (l + 2)) < (nI (l + 1)))) = false := decide_eq_false (cn_gt.mp h6)
              refine z_rcs hc hH 2 (pc' := 75) (lv' := [(4, .int (nI (l + 1))), (3, .ref (20 + 8 * s)), (0, .ref 0), (1, .int (nI s)), (2, .int (nI l))]) (st' := [.ref 0, .int (nI (l + 1))]) (μ' := μ) (by rfl) ?_
              refine zq_gfi hc hH (by rfl) (ci := 5) (f := 15) (by rfl) (by decide +kernel) (by rfl) ?_
              rw [hc15]
              refine zq_ic hc hH (by rfl) (tg := 90) (by rfl) (fun h7 => ?_) (fun h7 => ?_)
              · have h7 : (decide ((nI (l + 1)) = (nI l))) = true := decide_eq_true (cm_eq9.mp h7)
                exact absurd (Eq.trans (Eq.symm (kn_ne (by omega) (by omega) (by omega))) h7) (by decide)
              · have h7 : (decide ((nI (l + 1)) = (nI l))) = false := decide_eq_false (cn_eq.mp h7)
                refine z_rcs hc hH 2 (pc' := 84) (lv' := [(4, .int (nI (l + 1))), (3, .ref (20 + 8 * s)), (0, .ref 0), (1, .int (nI s)), (2, .int (nI l))]) (st' := [.int (nI (l + 1)), .ref (20 + 8 * s)]) (μ' := μ) (by rfl) ?_
                refine zq_iald hc hH (by rfl) 34 (oka_i (sj (P := fun i => oka 79 1 34 (20 + 8 * i)) hs4 (by decide +kernel))) (vp_in_nI (by omega) (by decide)) ?_
                rw [nI_clamp (by omega)]
                refine zq_if hc hH (by rfl) (tg := 90) (by rfl) (fun h8 => ?_) (fun h8 => ?_)
                · have h8 : (decide ((μ.1 (20 + 8 * s) (l + 1)) = 0)) = false := decide_eq_false (cm_ne.mp h8)
                  exact absurd (Eq.trans (Eq.symm (hz1)) h8) (by decide)
                · have h8 : (decide ((μ.1 (20 + 8 * s) (l + 1)) = 0)) = true := decide_eq_true (cn_ne.mp h8)
                  refine z_rcs hc hH 1 (pc' := 89) (lv' := [(4, .int (nI (l + 1))), (3, .ref (20 + 8 * s)), (0, .ref 0), (1, .int (nI s)), (2, .int (nI l))]) (st' := [.int 0]) (μ' := μ) (by rfl) ?_
                  exact hr 0 89 _ _ _ (some (.int 0)) (by decide +kernel) (z_rx_ok hH (by rfl)) (⟨rfl, rfl⟩)
          · have h5 : (decide ((nI l) = (nI l))) = false := decide_eq_false (cn_eq.mp h5)
            exact absurd (Eq.trans (Eq.symm (kn_eq rfl)) h5) (by decide)
      · have h3 : (decide ((nI l) ≤ (nI (l + 2)))) = false := decide_eq_false (cn_le.mp h3)
        exact absurd (Eq.trans (Eq.symm (kn_nle (by omega) (by omega) (by omega))) h3) (by decide)
theorem gx_runB0 (d : Nat) (hd : 4 ≤ d) (μ : zM) (s l : Nat) (hs4 : s < 4) (hl : l + 2 ≤ 33) (hc15 : μ.1 0 15 = nI l) (t u1 : Nat) (ht4 : t < 4) (ht : μ.1 0 8 = nI t) (hu1 : (t + 1) % 4 = u1) (hu14 : u1 < 4) (hmc : ∀ d, 3 ≤ d → z_C d mi_X6_mayClaimSet [.ref 0, .int (nI s)] μ (zR μ (.int 1))) (hsu : decide (nI s = nI u1) = true) (hsr : ∀ d, 1 ≤ d → z_C d mi_X6_startsRun [.int (nI l)] μ (zR μ (.int 1))) (hz1 : decide (μ.1 (20 + 8 * s) (l + 1) = 0) = false) (hz2 : decide (μ.1 (20 + 8 * s) (l + 2) = 0) = true) : z_C d mi_X6_run [.ref 0, .int (nI s), .int (nI l)] μ (fun r μ' => r = some (.int 0) ∧ μ' = μ) := by
  refine z_C_in (by decide) (by omega) (fun d' Z ed hc hr => ?_)
  have hH : zH mi_X6_run zt_X6_run 79 6 6 := hh_X6_run
  refine z_rcs hc hH 2 (pc' := 2) (lv' := [(0, .ref 0), (1, .int (nI s)), (2, .int (nI l))]) (st' := [.int (nI s), .ref 0]) (μ' := μ) (by rfl) ?_
  refine zq_call hc (z_cx_ok hH (by rfl)) (hmc d' (by omega)) (by decide +kernel) (fun r9 μ9 hq => ?_)
  obtain ⟨hμ9, rfl⟩ := hq
  rw [hμ9]
  clear hμ9 μ9
  show Z 0 5 [(0, .ref 0), (1, .int (nI s)), (2, .int (nI l))] [.int 1] μ
  refine z_rcs hc hH 3 (pc' := 10) (lv' := [(0, .ref 0), (1, .int (nI s)), (2, .int (nI l))]) (st' := [.ref 0, .int (nI s)]) (μ' := μ) (by rfl) ?_
  refine zq_gfi hc hH (by rfl) (ci := 5) (f := 8) (by rfl) (by decide +kernel) (by rfl) ?_
  rw [ht]
  refine z_rcs hc hH 2 (pc' := 15) (lv' := [(0, .ref 0), (1, .int (nI s)), (2, .int (nI l))]) (st' := [.int ((nI t) + 1), .int (nI s)]) (μ' := μ) (by rfl) ?_
  rw [nI_s1]
  refine z_rcs hc hH 2 (pc' := 17) (lv' := [(0, .ref 0), (1, .int (nI s)), (2, .int (nI l))]) (st' := [.int ((nI (t + 1)) &&& 3), .int (nI s)]) (μ' := μ) (by rfl) ?_
  rw [show nI (t + 1) &&& 3 = nI u1 from by rw [and3 (by omega), hu1]]
  refine zq_ic hc hH (by rfl) (tg := 27) (by rfl) (fun h1 => ?_) (fun h1 => ?_)
  · have h1 : (decide ((nI s) = (nI u1))) = false := decide_eq_false (cm_ne.mp h1)
    exact absurd (Eq.trans (Eq.symm (hsu)) h1) (by decide)
  · have h1 : (decide ((nI s) = (nI u1))) = true := decide_eq_true (cn_ne.mp h1)
    refine z_rcs hc hH 1 (pc' := 21) (lv' := [(0, .ref 0), (1, .int (nI s)), (2, .int (nI l))]) (st' := [.int (nI l)]) (μ' := μ) (by rfl) ?_
    refine zq_call hc (z_cx_ok hH (by rfl)) (hsr d' (by omega)) (by decide +kernel) (fun r9 μ9 hq => ?_)
    obtain ⟨hμ9, rfl⟩ := hq
    rw [hμ9]
    clear hμ9 μ9
    show Z 0 24 [(0, .ref 0), (1, .int (nI s)), (2, .int (nI l))] [.int 1] μ
    refine z_rcs hc hH 2 (pc' := 30) (lv' := [(0, .ref 0), (1, .int (nI s)), (2, .int (nI l))]) (st' := [.ref 0]) (μ' := μ) (by rfl) ?_
    refine zq_gfi hc hH (by rfl) (ci := 5) (f := 15) (by rfl) (by decide +kernel) (by rfl) ?_
    rw [hc15]
    refine z_rcs hc hH 1 (pc' := 34) (lv' := [(0, .ref 0), (1, .int (nI s)), (2, .int (nI l))]) (st' := [.int (nI l), .int (nI l)]) (μ' := μ) (by rfl) ?_
    refine zq_ic hc hH (by rfl) (tg := 47) (by rfl) (fun h2 => ?_) (fun h2 => ?_)
    · have h2 : (decide ((nI l) < (nI l))) = true := decide_eq_true (cm_lt.mp h2)
      exact absurd (Eq.trans (Eq.symm (kn_nlg (by omega) (by omega) (by omega))) h2) (by decide)
    · have h2 : (decide ((nI l) < (nI l))) = false := decide_eq_false (cn_lt.mp h2)
      refine z_rcs hc hH 1 (pc' := 38) (lv' := [(0, .ref 0), (1, .int (nI s)), (2, .int (nI l))]) (st' := [.ref 0]) (μ' := μ) (by rfl) ?_
      refine zq_gfi hc hH (by rfl) (ci := 5) (f := 15) (by rfl) (by decide +kernel) (by rfl) ?_
      rw [hc15]
      refine z_rcs hc hH 3 (pc' := 44) (lv' := [(0, .ref 0), (1, .int (nI s)), (2, .int (nI l))]) (st' := [.int ((nI l) + 2), .int (nI l)]) (μ' := μ) (by rfl) ?_
      rw [show nI l + 2 = nI (l + 2) from by rw [show (2 : Int32) = nI 2 from rfl, nI_add]]
      refine zq_ic hc hH (by rfl) (tg := 49) (by rfl) (fun h3 => ?_) (fun h3 => ?_)
      · have h3 : (decide ((nI l) ≤ (nI (l + 2)))) = true := decide_eq_true (cm_le.mp h3)
        refine z_rcs hc hH 2 (pc' := 51) (lv' := [(0, .ref 0), (1, .int (nI s)), (2, .int (nI l))]) (st' := [.int (nI s), .ref 0]) (μ' := μ) (by rfl) ?_
        refine zq_call hc (z_cx_ok hH (by rfl)) (gc_at4 d' (by omega) μ s hs4) (by decide +kernel) (fun r9 μ9 hq => ?_)
        obtain ⟨hμ9, rfl⟩ := hq
        rw [hμ9]
        clear hμ9 μ9
        show Z 0 54 [(0, .ref 0), (1, .int (nI s)), (2, .int (nI l))] [.ref (18 + 8 * s)] μ
        refine zq_gfr hc hH (by rfl) (ci := 1) (f := 0) (q := 19 + 8 * s) (by rfl) (sj (P := fun i => okf 79 1 0 (18 + 8 * i)) hs4 (by decide +kernel)) (by rfl) (sj (P := fun i => Nat.beq (z_gr (18 + 8 * i) 0) (19 + 8 * i)) hs4 (by decide +kernel)) ?_
        refine zq_gfr hc hH (by rfl) (ci := 2) (f := 0) (q := 20 + 8 * s) (by rfl) (sj (P := fun i => okf 79 2 0 (19 + 8 * i)) hs4 (by decide +kernel)) (by rfl) (sj (P := fun i => Nat.beq (z_gr (19 + 8 * i) 0) (20 + 8 * i)) hs4 (by decide +kernel)) ?_
        refine z_rcs hc hH 7 (pc' := 69) (lv' := [(4, .int (nI l)), (3, .ref (20 + 8 * s)), (0, .ref 0), (1, .int (nI s)), (2, .int (nI l))]) (st' := [.int ((nI l) + 2), .int (nI l)]) (μ' := μ) (by rfl) ?_
        rw [show nI l + 2 = nI (l + 2) from by rw [show (2 : Int32) = nI 2 from rfl, nI_add]]
        refine zq_ic hc hH (by rfl) (tg := 96) (by rfl) (fun h4 => ?_) (fun h4 => ?_)
        · have h4 : (decide ((nI (l + 2)) < (nI l))) = true := decide_eq_true (cm_gt.mp h4)
          exact absurd (Eq.trans (Eq.symm (kn_nlg (by omega) (by omega) (by omega))) h4) (by decide)
        · have h4 : (decide ((nI (l + 2)) < (nI l))) = false := decide_eq_false (cn_gt.mp h4)
          refine z_rcs hc hH 2 (pc' := 75) (lv' := [(4, .int (nI l)), (3, .ref (20 + 8 * s)), (0, .ref 0), (1, .int (nI s)), (2, .int (nI l))]) (st' := [.ref 0, .int (nI l)]) (μ' := μ) (by rfl) ?_
          refine zq_gfi hc hH (by rfl) (ci := 5) (f := 15) (by rfl) (by decide +kernel) (by rfl) ?_
          rw [hc15]
          refine zq_ic hc hH (by rfl) (tg := 90) (by rfl) (fun h5 => ?_) (fun h5 => ?_)
          · have h5 : (decide ((nI l) = (nI l))) = true := decide_eq_true (cm_eq9.mp h5)
            refine z_rcs hc hH 3 (pc' := 66) (lv' := [(4, .int ((nI l) + 1)), (3, .ref (20 + 8 * s)), (0, .ref 0), (1, .int (nI s)), (2, .int (nI l))]) (st' := [.int ((nI l) + 1)]) (μ' := μ) (by rfl) ?_
            rw [show nI l + 1 = nI (l + 1) from by rw [show (1 : Int32) = nI 1 from rfl, nI_add]]
            refine z_rcs hc hH 3 (pc' := 69) (lv' := [(4, .int (nI (l + 1))), (3, .ref (20 + 8 * s)), (0, .ref 0), (1, .int (nI s)), (2, .int (nI l))]) (st' := [.int ((nI l) + 2), .int (nI (l + 1))]) (μ' := μ) (by rfl) ?_
            rw [show nI l + 2 = nI (l + 2) from by rw [show (2 : Int32) = nI 2 from rfl, nI_add]]
            refine zq_ic hc hH (by rfl) (tg := 96) (by rfl) (fun h6 => ?_) (fun h6 => ?_)
            · have h6 : (decide ((nI (l + 2)) < (nI (l + 1)))) = true := decide_eq_true (cm_gt.mp h6)
              exact absurd (Eq.trans (Eq.symm (kn_nlg (by omega) (by omega) (by omega))) h6) (by decide)
            · have h6 : (decide ((nI (l + 2)) < (nI (l + 1)))) = false := decide_eq_false (cn_gt.mp h6)
              refine z_rcs hc hH 2 (pc' := 75) (lv' := [(4, .int (nI (l + 1))), (3, .ref (20 + 8 * s)), (0, .ref 0), (1, .int (nI s)), (2, .int (nI l))]) (st' := [.ref 0, .int (nI (l + 1))]) (μ' := μ) (by rfl) ?_
              refine zq_gfi hc hH (by rfl) (ci := 5) (f := 15) (by rfl) (by decide +kernel) (by rfl) ?_
              rw [hc15]
              refine zq_ic hc hH (by rfl) (tg := 90) (by rfl) (fun h7 => ?_) (fun h7 => ?_)
              · have h7 : (decide ((nI (l + 1)) = (nI l))) = true := decide_eq_true (cm_eq9.mp h7)
                exact absurd (Eq.trans (Eq.symm (kn_ne (by omega) (by omega) (by omega))) h7) (by decide)
              · have h7 : (decide ((nI (l + 1)) = (nI l))) = false := decide_eq_false (cn_eq.mp h7)
                refine z_rcs hc hH 2 (pc' := 84) (lv' := [(4, .int (nI (l + 1))), (3, .ref (20 + 8 * s)), (0, .ref 0), (1, .int (nI s)), (2, .int (nI l))]) (st' := [.int (nI (l + 1)), .ref (20 + 8 * s)]) (μ' := μ) (by rfl) ?_
                refine zq_iald hc hH (by rfl) 34 (oka_i (sj (P := fun i => oka 79 1 34 (20 + 8 * i)) hs4 (by decide +kernel))) (vp_in_nI (by omega) (by decide)) ?_
                rw [nI_clamp (by omega)]
                refine zq_if hc hH (by rfl) (tg := 90) (by rfl) (fun h8 => ?_) (fun h8 => ?_)
                · have h8 : (decide ((μ.1 (20 + 8 * s) (l + 1)) = 0)) = false := decide_eq_false (cm_ne.mp h8)
                  refine z_rcs hc hH 3 (pc' := 66) (lv' := [(4, .int ((nI (l + 1)) + 1)), (3, .ref (20 + 8 * s)), (0, .ref 0), (1, .int (nI s)), (2, .int (nI l))]) (st' := [.int ((nI (l + 1)) + 1)]) (μ' := μ) (by rfl) ?_
                  rw [show nI (l + 1) + 1 = nI (l + 2) from nI_s1 _]
                  refine z_rcs hc hH 3 (pc' := 69) (lv' := [(4, .int (nI (l + 2))), (3, .ref (20 + 8 * s)), (0, .ref 0), (1, .int (nI s)), (2, .int (nI l))]) (st' := [.int ((nI l) + 2), .int (nI (l + 2))]) (μ' := μ) (by rfl) ?_
                  rw [show nI l + 2 = nI (l + 2) from by rw [show (2 : Int32) = nI 2 from rfl, nI_add]]
                  refine zq_ic hc hH (by rfl) (tg := 96) (by rfl) (fun h9 => ?_) (fun h9 => ?_)
                  · have h9 : (decide ((nI (l + 2)) < (nI (l + 2)))) = true := decide_eq_true (cm_gt.mp h9)
                    exact absurd (Eq.trans (Eq.symm (kn_nlg (by omega) (by omega) (by omega))) h9) (by decide)
                  · have h9 : (decide ((nI (l + 2)) < (nI (l + 2)))) = false := decide_eq_false (cn_gt.mp h9)
                    refine z_rcs hc hH 2 (pc' := 75) (lv' := [(4, .int (nI (l + 2))), (3, .ref (20 + 8 * s)), (0, .ref 0), (1, .int (nI s)), (2, .int (nI l))]) (st' := [.ref 0, .int (nI (l + 2))]) (μ' := μ) (by rfl) ?_
                    refine zq_gfi hc hH (by rfl) (ci := 5) (f := 15) (by rfl) (by decide +kernel) (by rfl) ?_
                    rw [hc15]
                    refine zq_ic hc hH (by rfl) (tg := 90) (by rfl) (fun h10 => ?_) (fun h10 => ?_)
                    · have h10 : (decide ((nI (l + 2)) = (nI l))) = true := decide_eq_true (cm_eq9.mp h10)
                      exact absurd (Eq.trans (Eq.symm (kn_ne (by omega) (by omega) (by omega))) h10) (by decide)
                    · have h10 : (decide ((nI (l + 2)) = (nI l))) = false := decide_eq_false (cn_eq.mp h10)
                      refine z_rcs hc hH 2 (pc' := 84) (lv' := [(4, .int (nI (l + 2))), (3, .ref (20 + 8 * s)), (0, .ref 0), (1, .int (nI s)), (2, .int (nI l))]) (st' := [.int (nI (l + 2)), .ref (20 + 8 * s)]) (μ' := μ) (by rfl) ?_
                      refine zq_iald hc hH (by rfl) 34 (oka_i (sj (P := fun i => oka 79 1 34 (20 + 8 * i)) hs4 (by decide +kernel))) (vp_in_nI (by omega) (by decide)) ?_
                      rw [nI_clamp (by omega)]
                      refine zq_if hc hH (by rfl) (tg := 90) (by rfl) (fun h11 => ?_) (fun h11 => ?_)
                      · have h11 : (decide ((μ.1 (20 + 8 * s) (l + 2)) = 0)) = false := decide_eq_false (cm_ne.mp h11)
                        exact absurd (Eq.trans (Eq.symm (hz2)) h11) (by decide)
                      · have h11 : (decide ((μ.1 (20 + 8 * s) (l + 2)) = 0)) = true := decide_eq_true (cn_ne.mp h11)
                        refine z_rcs hc hH 1 (pc' := 89) (lv' := [(4, .int (nI (l + 2))), (3, .ref (20 + 8 * s)), (0, .ref 0), (1, .int (nI s)), (2, .int (nI l))]) (st' := [.int 0]) (μ' := μ) (by rfl) ?_
                        exact hr 0 89 _ _ _ (some (.int 0)) (by decide +kernel) (z_rx_ok hH (by rfl)) (⟨rfl, rfl⟩)
                · have h8 : (decide ((μ.1 (20 + 8 * s) (l + 1)) = 0)) = true := decide_eq_true (cn_ne.mp h8)
                  exact absurd (Eq.trans (Eq.symm (hz1)) h8) (by decide)
          · have h5 : (decide ((nI l) = (nI l))) = false := decide_eq_false (cn_eq.mp h5)
            exact absurd (Eq.trans (Eq.symm (kn_eq rfl)) h5) (by decide)
      · have h3 : (decide ((nI l) ≤ (nI (l + 2)))) = false := decide_eq_false (cn_le.mp h3)
        exact absurd (Eq.trans (Eq.symm (kn_nle (by omega) (by omega) (by omega))) h3) (by decide)
theorem gx_runA1 (d : Nat) (hd : 4 ≤ d) (μ : zM) (s l : Nat) (hs4 : s < 4) (hl : l + 2 ≤ 33) (hc15 : μ.1 0 15 = nI (l + 1)) (t u1 : Nat) (ht4 : t < 4) (ht : μ.1 0 8 = nI t) (hu1 : (t + 1) % 4 = u1) (hu14 : u1 < 4) (hmc : ∀ d, 3 ≤ d → z_C d mi_X6_mayClaimSet [.ref 0, .int (nI s)] μ (zR μ (.int 1))) (hsu : decide (nI s = nI u1) = true) (hsr : ∀ d, 1 ≤ d → z_C d mi_X6_startsRun [.int (nI l)] μ (zR μ (.int 1))) (hz1 : decide (μ.1 (20 + 8 * s) l = 0) = true) : z_C d mi_X6_run [.ref 0, .int (nI s), .int (nI l)] μ (fun r μ' => r = some (.int 0) ∧ μ' = μ) := by
  refine z_C_in (by decide) (by omega) (fun d' Z ed hc hr => ?_)
  have hH : zH mi_X6_run zt_X6_run 79 6 6 := hh_X6_run
  refine z_rcs hc hH 2 (pc' := 2) (lv' := [(0, .ref 0), (1, .int (nI s)), (2, .int (nI l))]) (st' := [.int (nI s), .ref 0]) (μ' := μ) (by rfl) ?_
  refine zq_call hc (z_cx_ok hH (by rfl)) (hmc d' (by omega)) (by decide +kernel) (fun r9 μ9 hq => ?_)
  obtain ⟨hμ9, rfl⟩ := hq
  rw [hμ9]
  clear hμ9 μ9
  show Z 0 5 [(0, .ref 0), (1, .int (nI s)), (2, .int (nI l))] [.int 1] μ
  refine z_rcs hc hH 3 (pc' := 10) (lv' := [(0, .ref 0), (1, .int (nI s)), (2, .int (nI l))]) (st' := [.ref 0, .int (nI s)]) (μ' := μ) (by rfl) ?_
  refine zq_gfi hc hH (by rfl) (ci := 5) (f := 8) (by rfl) (by decide +kernel) (by rfl) ?_
  rw [ht]
  refine z_rcs hc hH 2 (pc' := 15) (lv' := [(0, .ref 0), (1, .int (nI s)), (2, .int (nI l))]) (st' := [.int ((nI t) + 1), .int (nI s)]) (μ' := μ) (by rfl) ?_
  rw [nI_s1]
  refine z_rcs hc hH 2 (pc' := 17) (lv' := [(0, .ref 0), (1, .int (nI s)), (2, .int (nI l))]) (st' := [.int ((nI (t + 1)) &&& 3), .int (nI s)]) (μ' := μ) (by rfl) ?_
  rw [show nI (t + 1) &&& 3 = nI u1 from by rw [and3 (by omega), hu1]]
  refine zq_ic hc hH (by rfl) (tg := 27) (by rfl) (fun h1 => ?_) (fun h1 => ?_)
  · have h1 : (decide ((nI s) = (nI u1))) = false := decide_eq_false (cm_ne.mp h1)
    exact absurd (Eq.trans (Eq.symm (hsu)) h1) (by decide)
  · have h1 : (decide ((nI s) = (nI u1))) = true := decide_eq_true (cn_ne.mp h1)
    refine z_rcs hc hH 1 (pc' := 21) (lv' := [(0, .ref 0), (1, .int (nI s)), (2, .int (nI l))]) (st' := [.int (nI l)]) (μ' := μ) (by rfl) ?_
    refine zq_call hc (z_cx_ok hH (by rfl)) (hsr d' (by omega)) (by decide +kernel) (fun r9 μ9 hq => ?_)
    obtain ⟨hμ9, rfl⟩ := hq
    rw [hμ9]
    clear hμ9 μ9
    show Z 0 24 [(0, .ref 0), (1, .int (nI s)), (2, .int (nI l))] [.int 1] μ
    refine z_rcs hc hH 2 (pc' := 30) (lv' := [(0, .ref 0), (1, .int (nI s)), (2, .int (nI l))]) (st' := [.ref 0]) (μ' := μ) (by rfl) ?_
    refine zq_gfi hc hH (by rfl) (ci := 5) (f := 15) (by rfl) (by decide +kernel) (by rfl) ?_
    rw [hc15]
    refine z_rcs hc hH 1 (pc' := 34) (lv' := [(0, .ref 0), (1, .int (nI s)), (2, .int (nI l))]) (st' := [.int (nI l), .int (nI (l + 1))]) (μ' := μ) (by rfl) ?_
    refine zq_ic hc hH (by rfl) (tg := 47) (by rfl) (fun h2 => ?_) (fun h2 => ?_)
    · have h2 : (decide ((nI (l + 1)) < (nI l))) = true := decide_eq_true (cm_lt.mp h2)
      exact absurd (Eq.trans (Eq.symm (kn_nlg (by omega) (by omega) (by omega))) h2) (by decide)
    · have h2 : (decide ((nI (l + 1)) < (nI l))) = false := decide_eq_false (cn_lt.mp h2)
      refine z_rcs hc hH 1 (pc' := 38) (lv' := [(0, .ref 0), (1, .int (nI s)), (2, .int (nI l))]) (st' := [.ref 0]) (μ' := μ) (by rfl) ?_
      refine zq_gfi hc hH (by rfl) (ci := 5) (f := 15) (by rfl) (by decide +kernel) (by rfl) ?_
      rw [hc15]
      refine z_rcs hc hH 3 (pc' := 44) (lv' := [(0, .ref 0), (1, .int (nI s)), (2, .int (nI l))]) (st' := [.int ((nI l) + 2), .int (nI (l + 1))]) (μ' := μ) (by rfl) ?_
      rw [show nI l + 2 = nI (l + 2) from by rw [show (2 : Int32) = nI 2 from rfl, nI_add]]
      refine zq_ic hc hH (by rfl) (tg := 49) (by rfl) (fun h3 => ?_) (fun h3 => ?_)
      · have h3 : (decide ((nI (l + 1)) ≤ (nI (l + 2)))) = true := decide_eq_true (cm_le.mp h3)
        refine z_rcs hc hH 2 (pc' := 51) (lv' := [(0, .ref 0), (1, .int (nI s)), (2, .int (nI l))]) (st' := [.int (nI s), .ref 0]) (μ' := μ) (by rfl) ?_
        refine zq_call hc (z_cx_ok hH (by rfl)) (gc_at4 d' (by omega) μ s hs4) (by decide +kernel) (fun r9 μ9 hq => ?_)
        obtain ⟨hμ9, rfl⟩ := hq
        rw [hμ9]
        clear hμ9 μ9
        show Z 0 54 [(0, .ref 0), (1, .int (nI s)), (2, .int (nI l))] [.ref (18 + 8 * s)] μ
        refine zq_gfr hc hH (by rfl) (ci := 1) (f := 0) (q := 19 + 8 * s) (by rfl) (sj (P := fun i => okf 79 1 0 (18 + 8 * i)) hs4 (by decide +kernel)) (by rfl) (sj (P := fun i => Nat.beq (z_gr (18 + 8 * i) 0) (19 + 8 * i)) hs4 (by decide +kernel)) ?_
        refine zq_gfr hc hH (by rfl) (ci := 2) (f := 0) (q := 20 + 8 * s) (by rfl) (sj (P := fun i => okf 79 2 0 (19 + 8 * i)) hs4 (by decide +kernel)) (by rfl) (sj (P := fun i => Nat.beq (z_gr (19 + 8 * i) 0) (20 + 8 * i)) hs4 (by decide +kernel)) ?_
        refine z_rcs hc hH 7 (pc' := 69) (lv' := [(4, .int (nI l)), (3, .ref (20 + 8 * s)), (0, .ref 0), (1, .int (nI s)), (2, .int (nI l))]) (st' := [.int ((nI l) + 2), .int (nI l)]) (μ' := μ) (by rfl) ?_
        rw [show nI l + 2 = nI (l + 2) from by rw [show (2 : Int32) = nI 2 from rfl, nI_add]]
        refine zq_ic hc hH (by rfl) (tg := 96) (by rfl) (fun h4 => ?_) (fun h4 => ?_)
        · have h4 : (decide ((nI (l + 2)) < (nI l))) = true := decide_eq_true (cm_gt.mp h4)
          exact absurd (Eq.trans (Eq.symm (kn_nlg (by omega) (by omega) (by omega))) h4) (by decide)
        · have h4 : (decide ((nI (l + 2)) < (nI l))) = false := decide_eq_false (cn_gt.mp h4)
          refine z_rcs hc hH 2 (pc' := 75) (lv' := [(4, .int (nI l)), (3, .ref (20 + 8 * s)), (0, .ref 0), (1, .int (nI s)), (2, .int (nI l))]) (st' := [.ref 0, .int (nI l)]) (μ' := μ) (by rfl) ?_
          refine zq_gfi hc hH (by rfl) (ci := 5) (f := 15) (by rfl) (by decide +kernel) (by rfl) ?_
          rw [hc15]
          refine zq_ic hc hH (by rfl) (tg := 90) (by rfl) (fun h5 => ?_) (fun h5 => ?_)
          · have h5 : (decide ((nI l) = (nI (l + 1)))) = true := decide_eq_true (cm_eq9.mp h5)
            exact absurd (Eq.trans (Eq.symm (kn_ne (by omega) (by omega) (by omega))) h5) (by decide)
          · have h5 : (decide ((nI l) = (nI (l + 1)))) = false := decide_eq_false (cn_eq.mp h5)
            refine z_rcs hc hH 2 (pc' := 84) (lv' := [(4, .int (nI l)), (3, .ref (20 + 8 * s)), (0, .ref 0), (1, .int (nI s)), (2, .int (nI l))]) (st' := [.int (nI l), .ref (20 + 8 * s)]) (μ' := μ) (by rfl) ?_
            refine zq_iald hc hH (by rfl) 34 (oka_i (sj (P := fun i => oka 79 1 34 (20 + 8 * i)) hs4 (by decide +kernel))) (vp_in_nI (by omega) (by decide)) ?_
            rw [nI_clamp (by omega)]
            refine zq_if hc hH (by rfl) (tg := 90) (by rfl) (fun h6 => ?_) (fun h6 => ?_)
            · have h6 : (decide ((μ.1 (20 + 8 * s) l) = 0)) = false := decide_eq_false (cm_ne.mp h6)
              exact absurd (Eq.trans (Eq.symm (hz1)) h6) (by decide)
            · have h6 : (decide ((μ.1 (20 + 8 * s) l) = 0)) = true := decide_eq_true (cn_ne.mp h6)
              refine z_rcs hc hH 1 (pc' := 89) (lv' := [(4, .int (nI l)), (3, .ref (20 + 8 * s)), (0, .ref 0), (1, .int (nI s)), (2, .int (nI l))]) (st' := [.int 0]) (μ' := μ) (by rfl) ?_
              exact hr 0 89 _ _ _ (some (.int 0)) (by decide +kernel) (z_rx_ok hH (by rfl)) (⟨rfl, rfl⟩)
      · have h3 : (decide ((nI (l + 1)) ≤ (nI (l + 2)))) = false := decide_eq_false (cn_le.mp h3)
        exact absurd (Eq.trans (Eq.symm (kn_nle (by omega) (by omega) (by omega))) h3) (by decide)
theorem gx_runB1 (d : Nat) (hd : 4 ≤ d) (μ : zM) (s l : Nat) (hs4 : s < 4) (hl : l + 2 ≤ 33) (hc15 : μ.1 0 15 = nI (l + 1)) (t u1 : Nat) (ht4 : t < 4) (ht : μ.1 0 8 = nI t) (hu1 : (t + 1) % 4 = u1) (hu14 : u1 < 4) (hmc : ∀ d, 3 ≤ d → z_C d mi_X6_mayClaimSet [.ref 0, .int (nI s)] μ (zR μ (.int 1))) (hsu : decide (nI s = nI u1) = true) (hsr : ∀ d, 1 ≤ d → z_C d mi_X6_startsRun [.int (nI l)] μ (zR μ (.int 1))) (hz1 : decide (μ.1 (20 + 8 * s) l = 0) = false) (hz2 : decide (μ.1 (20 + 8 * s) (l + 2) = 0) = true) : z_C d mi_X6_run [.ref 0, .int (nI s), .int (nI l)] μ (fun r μ' => r = some (.int 0) ∧ μ' = μ) := by
  refine z_C_in (by decide) (by omega) (fun d' Z ed hc hr => ?_)
  have hH : zH mi_X6_run zt_X6_run 79 6 6 := hh_X6_run
  refine z_rcs hc hH 2 (pc' := 2) (lv' := [(0, .ref 0), (1, .int (nI s)), (2, .int (nI l))]) (st' := [.int (nI s), .ref 0]) (μ' := μ) (by rfl) ?_
  refine zq_call hc (z_cx_ok hH (by rfl)) (hmc d' (by omega)) (by decide +kernel) (fun r9 μ9 hq => ?_)
  obtain ⟨hμ9, rfl⟩ := hq
  rw [hμ9]
  clear hμ9 μ9
  show Z 0 5 [(0, .ref 0), (1, .int (nI s)), (2, .int (nI l))] [.int 1] μ
  refine z_rcs hc hH 3 (pc' := 10) (lv' := [(0, .ref 0), (1, .int (nI s)), (2, .int (nI l))]) (st' := [.ref 0, .int (nI s)]) (μ' := μ) (by rfl) ?_
  refine zq_gfi hc hH (by rfl) (ci := 5) (f := 8) (by rfl) (by decide +kernel) (by rfl) ?_
  rw [ht]
  refine z_rcs hc hH 2 (pc' := 15) (lv' := [(0, .ref 0), (1, .int (nI s)), (2, .int (nI l))]) (st' := [.int ((nI t) + 1), .int (nI s)]) (μ' := μ) (by rfl) ?_
  rw [nI_s1]
  refine z_rcs hc hH 2 (pc' := 17) (lv' := [(0, .ref 0), (1, .int (nI s)), (2, .int (nI l))]) (st' := [.int ((nI (t + 1)) &&& 3), .int (nI s)]) (μ' := μ) (by rfl) ?_
  rw [show nI (t + 1) &&& 3 = nI u1 from by rw [and3 (by omega), hu1]]
  refine zq_ic hc hH (by rfl) (tg := 27) (by rfl) (fun h1 => ?_) (fun h1 => ?_)
  · have h1 : (decide ((nI s) = (nI u1))) = false := decide_eq_false (cm_ne.mp h1)
    exact absurd (Eq.trans (Eq.symm (hsu)) h1) (by decide)
  · have h1 : (decide ((nI s) = (nI u1))) = true := decide_eq_true (cn_ne.mp h1)
    refine z_rcs hc hH 1 (pc' := 21) (lv' := [(0, .ref 0), (1, .int (nI s)), (2, .int (nI l))]) (st' := [.int (nI l)]) (μ' := μ) (by rfl) ?_
    refine zq_call hc (z_cx_ok hH (by rfl)) (hsr d' (by omega)) (by decide +kernel) (fun r9 μ9 hq => ?_)
    obtain ⟨hμ9, rfl⟩ := hq
    rw [hμ9]
    clear hμ9 μ9
    show Z 0 24 [(0, .ref 0), (1, .int (nI s)), (2, .int (nI l))] [.int 1] μ
    refine z_rcs hc hH 2 (pc' := 30) (lv' := [(0, .ref 0), (1, .int (nI s)), (2, .int (nI l))]) (st' := [.ref 0]) (μ' := μ) (by rfl) ?_
    refine zq_gfi hc hH (by rfl) (ci := 5) (f := 15) (by rfl) (by decide +kernel) (by rfl) ?_
    rw [hc15]
    refine z_rcs hc hH 1 (pc' := 34) (lv' := [(0, .ref 0), (1, .int (nI s)), (2, .int (nI l))]) (st' := [.int (nI l), .int (nI (l + 1))]) (μ' := μ) (by rfl) ?_
    refine zq_ic hc hH (by rfl) (tg := 47) (by rfl) (fun h2 => ?_) (fun h2 => ?_)
    · have h2 : (decide ((nI (l + 1)) < (nI l))) = true := decide_eq_true (cm_lt.mp h2)
      exact absurd (Eq.trans (Eq.symm (kn_nlg (by omega) (by omega) (by omega))) h2) (by decide)
    · have h2 : (decide ((nI (l + 1)) < (nI l))) = false := decide_eq_false (cn_lt.mp h2)
      refine z_rcs hc hH 1 (pc' := 38) (lv' := [(0, .ref 0), (1, .int (nI s)), (2, .int (nI l))]) (st' := [.ref 0]) (μ' := μ) (by rfl) ?_
      refine zq_gfi hc hH (by rfl) (ci := 5) (f := 15) (by rfl) (by decide +kernel) (by rfl) ?_
      rw [hc15]
      refine z_rcs hc hH 3 (pc' := 44) (lv' := [(0, .ref 0), (1, .int (nI s)), (2, .int (nI l))]) (st' := [.int ((nI l) + 2), .int (nI (l + 1))]) (μ' := μ) (by rfl) ?_
      rw [show nI l + 2 = nI (l + 2) from by rw [show (2 : Int32) = nI 2 from rfl, nI_add]]
      refine zq_ic hc hH (by rfl) (tg := 49) (by rfl) (fun h3 => ?_) (fun h3 => ?_)
      · have h3 : (decide ((nI (l + 1)) ≤ (nI (l + 2)))) = true := decide_eq_true (cm_le.mp h3)
        refine z_rcs hc hH 2 (pc' := 51) (lv' := [(0, .ref 0), (1, .int (nI s)), (2, .int (nI l))]) (st' := [.int (nI s), .ref 0]) (μ' := μ) (by rfl) ?_
        refine zq_call hc (z_cx_ok hH (by rfl)) (gc_at4 d' (by omega) μ s hs4) (by decide +kernel) (fun r9 μ9 hq => ?_)
        obtain ⟨hμ9, rfl⟩ := hq
        rw [hμ9]
        clear hμ9 μ9
        show Z 0 54 [(0, .ref 0), (1, .int (nI s)), (2, .int (nI l))] [.ref (18 + 8 * s)] μ
        refine zq_gfr hc hH (by rfl) (ci := 1) (f := 0) (q := 19 + 8 * s) (by rfl) (sj (P := fun i => okf 79 1 0 (18 + 8 * i)) hs4 (by decide +kernel)) (by rfl) (sj (P := fun i => Nat.beq (z_gr (18 + 8 * i) 0) (19 + 8 * i)) hs4 (by decide +kernel)) ?_
        refine zq_gfr hc hH (by rfl) (ci := 2) (f := 0) (q := 20 + 8 * s) (by rfl) (sj (P := fun i => okf 79 2 0 (19 + 8 * i)) hs4 (by decide +kernel)) (by rfl) (sj (P := fun i => Nat.beq (z_gr (19 + 8 * i) 0) (20 + 8 * i)) hs4 (by decide +kernel)) ?_
        refine z_rcs hc hH 7 (pc' := 69) (lv' := [(4, .int (nI l)), (3, .ref (20 + 8 * s)), (0, .ref 0), (1, .int (nI s)), (2, .int (nI l))]) (st' := [.int ((nI l) + 2), .int (nI l)]) (μ' := μ) (by rfl) ?_
        rw [show nI l + 2 = nI (l + 2) from by rw [show (2 : Int32) = nI 2 from rfl, nI_add]]
        refine zq_ic hc hH (by rfl) (tg := 96) (by rfl) (fun h4 => ?_) (fun h4 => ?_)
        · have h4 : (decide ((nI (l + 2)) < (nI l))) = true := decide_eq_true (cm_gt.mp h4)
          exact absurd (Eq.trans (Eq.symm (kn_nlg (by omega) (by omega) (by omega))) h4) (by decide)
        · have h4 : (decide ((nI (l + 2)) < (nI l))) = false := decide_eq_false (cn_gt.mp h4)
          refine z_rcs hc hH 2 (pc' := 75) (lv' := [(4, .int (nI l)), (3, .ref (20 + 8 * s)), (0, .ref 0), (1, .int (nI s)), (2, .int (nI l))]) (st' := [.ref 0, .int (nI l)]) (μ' := μ) (by rfl) ?_
          refine zq_gfi hc hH (by rfl) (ci := 5) (f := 15) (by rfl) (by decide +kernel) (by rfl) ?_
          rw [hc15]
          refine zq_ic hc hH (by rfl) (tg := 90) (by rfl) (fun h5 => ?_) (fun h5 => ?_)
          · have h5 : (decide ((nI l) = (nI (l + 1)))) = true := decide_eq_true (cm_eq9.mp h5)
            exact absurd (Eq.trans (Eq.symm (kn_ne (by omega) (by omega) (by omega))) h5) (by decide)
          · have h5 : (decide ((nI l) = (nI (l + 1)))) = false := decide_eq_false (cn_eq.mp h5)
            refine z_rcs hc hH 2 (pc' := 84) (lv' := [(4, .int (nI l)), (3, .ref (20 + 8 * s)), (0, .ref 0), (1, .int (nI s)), (2, .int (nI l))]) (st' := [.int (nI l), .ref (20 + 8 * s)]) (μ' := μ) (by rfl) ?_
            refine zq_iald hc hH (by rfl) 34 (oka_i (sj (P := fun i => oka 79 1 34 (20 + 8 * i)) hs4 (by decide +kernel))) (vp_in_nI (by omega) (by decide)) ?_
            rw [nI_clamp (by omega)]
            refine zq_if hc hH (by rfl) (tg := 90) (by rfl) (fun h6 => ?_) (fun h6 => ?_)
            · have h6 : (decide ((μ.1 (20 + 8 * s) l) = 0)) = false := decide_eq_false (cm_ne.mp h6)
              refine z_rcs hc hH 3 (pc' := 66) (lv' := [(4, .int ((nI l) + 1)), (3, .ref (20 + 8 * s)), (0, .ref 0), (1, .int (nI s)), (2, .int (nI l))]) (st' := [.int ((nI l) + 1)]) (μ' := μ) (by rfl) ?_
              rw [show nI l + 1 = nI (l + 1) from by rw [show (1 : Int32) = nI 1 from rfl, nI_add]]
              refine z_rcs hc hH 3 (pc' := 69) (lv' := [(4, .int (nI (l + 1))), (3, .ref (20 + 8 * s)), (0, .ref 0), (1, .int (nI s)), (2, .int (nI l))]) (st' := [.int ((nI l) + 2), .int (nI (l + 1))]) (μ' := μ) (by rfl) ?_
              rw [show nI l + 2 = nI (l + 2) from by rw [show (2 : Int32) = nI 2 from rfl, nI_add]]
              refine zq_ic hc hH (by rfl) (tg := 96) (by rfl) (fun h7 => ?_) (fun h7 => ?_)
              · have h7 : (decide ((nI (l + 2)) < (nI (l + 1)))) = true := decide_eq_true (cm_gt.mp h7)
                exact absurd (Eq.trans (Eq.symm (kn_nlg (by omega) (by omega) (by omega))) h7) (by decide)
              · have h7 : (decide ((nI (l + 2)) < (nI (l + 1)))) = false := decide_eq_false (cn_gt.mp h7)
                refine z_rcs hc hH 2 (pc' := 75) (lv' := [(4, .int (nI (l + 1))), (3, .ref (20 + 8 * s)), (0, .ref 0), (1, .int (nI s)), (2, .int (nI l))]) (st' := [.ref 0, .int (nI (l + 1))]) (μ' := μ) (by rfl) ?_
                refine zq_gfi hc hH (by rfl) (ci := 5) (f := 15) (by rfl) (by decide +kernel) (by rfl) ?_
                rw [hc15]
                refine zq_ic hc hH (by rfl) (tg := 90) (by rfl) (fun h8 => ?_) (fun h8 => ?_)
                · have h8 : (decide ((nI (l + 1)) = (nI (l + 1)))) = true := decide_eq_true (cm_eq9.mp h8)
                  refine z_rcs hc hH 3 (pc' := 66) (lv' := [(4, .int ((nI (l + 1)) + 1)), (3, .ref (20 + 8 * s)), (0, .ref 0), (1, .int (nI s)), (2, .int (nI l))]) (st' := [.int ((nI (l + 1)) + 1)]) (μ' := μ) (by rfl) ?_
                  rw [show nI (l + 1) + 1 = nI (l + 2) from nI_s1 _]
                  refine z_rcs hc hH 3 (pc' := 69) (lv' := [(4, .int (nI (l + 2))), (3, .ref (20 + 8 * s)), (0, .ref 0), (1, .int (nI s)), (2, .int (nI l))]) (st' := [.int ((nI l) + 2), .int (nI (l + 2))]) (μ' := μ) (by rfl) ?_
                  rw [show nI l + 2 = nI (l + 2) from by rw [show (2 : Int32) = nI 2 from rfl, nI_add]]
                  refine zq_ic hc hH (by rfl) (tg := 96) (by rfl) (fun h9 => ?_) (fun h9 => ?_)
                  · have h9 : (decide ((nI (l + 2)) < (nI (l + 2)))) = true := decide_eq_true (cm_gt.mp h9)
                    exact absurd (Eq.trans (Eq.symm (kn_nlg (by omega) (by omega) (by omega))) h9) (by decide)
                  · have h9 : (decide ((nI (l + 2)) < (nI (l + 2)))) = false := decide_eq_false (cn_gt.mp h9)
                    refine z_rcs hc hH 2 (pc' := 75) (lv' := [(4, .int (nI (l + 2))), (3, .ref (20 + 8 * s)), (0, .ref 0), (1, .int (nI s)), (2, .int (nI l))]) (st' := [.ref 0, .int (nI (l + 2))]) (μ' := μ) (by rfl) ?_
                    refine zq_gfi hc hH (by rfl) (ci := 5) (f := 15) (by rfl) (by decide +kernel) (by rfl) ?_
                    rw [hc15]
                    refine zq_ic hc hH (by rfl) (tg := 90) (by rfl) (fun h10 => ?_) (fun h10 => ?_)
                    · have h10 : (decide ((nI (l + 2)) = (nI (l + 1)))) = true := decide_eq_true (cm_eq9.mp h10)
                      exact absurd (Eq.trans (Eq.symm (kn_ne (by omega) (by omega) (by omega))) h10) (by decide)
                    · have h10 : (decide ((nI (l + 2)) = (nI (l + 1)))) = false := decide_eq_false (cn_eq.mp h10)
                      refine z_rcs hc hH 2 (pc' := 84) (lv' := [(4, .int (nI (l + 2))), (3, .ref (20 + 8 * s)), (0, .ref 0), (1, .int (nI s)), (2, .int (nI l))]) (st' := [.int (nI (l + 2)), .ref (20 + 8 * s)]) (μ' := μ) (by rfl) ?_
                      refine zq_iald hc hH (by rfl) 34 (oka_i (sj (P := fun i => oka 79 1 34 (20 + 8 * i)) hs4 (by decide +kernel))) (vp_in_nI (by omega) (by decide)) ?_
                      rw [nI_clamp (by omega)]
                      refine zq_if hc hH (by rfl) (tg := 90) (by rfl) (fun h11 => ?_) (fun h11 => ?_)
                      · have h11 : (decide ((μ.1 (20 + 8 * s) (l + 2)) = 0)) = false := decide_eq_false (cm_ne.mp h11)
                        exact absurd (Eq.trans (Eq.symm (hz2)) h11) (by decide)
                      · have h11 : (decide ((μ.1 (20 + 8 * s) (l + 2)) = 0)) = true := decide_eq_true (cn_ne.mp h11)
                        refine z_rcs hc hH 1 (pc' := 89) (lv' := [(4, .int (nI (l + 2))), (3, .ref (20 + 8 * s)), (0, .ref 0), (1, .int (nI s)), (2, .int (nI l))]) (st' := [.int 0]) (μ' := μ) (by rfl) ?_
                        exact hr 0 89 _ _ _ (some (.int 0)) (by decide +kernel) (z_rx_ok hH (by rfl)) (⟨rfl, rfl⟩)
                · have h8 : (decide ((nI (l + 1)) = (nI (l + 1)))) = false := decide_eq_false (cn_eq.mp h8)
                  exact absurd (Eq.trans (Eq.symm (kn_eq rfl)) h8) (by decide)
            · have h6 : (decide ((μ.1 (20 + 8 * s) l) = 0)) = true := decide_eq_true (cn_ne.mp h6)
              exact absurd (Eq.trans (Eq.symm (hz1)) h6) (by decide)
      · have h3 : (decide ((nI (l + 1)) ≤ (nI (l + 2)))) = false := decide_eq_false (cn_le.mp h3)
        exact absurd (Eq.trans (Eq.symm (kn_nle (by omega) (by omega) (by omega))) h3) (by decide)
theorem gx_runA2 (d : Nat) (hd : 4 ≤ d) (μ : zM) (s l : Nat) (hs4 : s < 4) (hl : l + 2 ≤ 33) (hc15 : μ.1 0 15 = nI (l + 2)) (t u1 : Nat) (ht4 : t < 4) (ht : μ.1 0 8 = nI t) (hu1 : (t + 1) % 4 = u1) (hu14 : u1 < 4) (hmc : ∀ d, 3 ≤ d → z_C d mi_X6_mayClaimSet [.ref 0, .int (nI s)] μ (zR μ (.int 1))) (hsu : decide (nI s = nI u1) = true) (hsr : ∀ d, 1 ≤ d → z_C d mi_X6_startsRun [.int (nI l)] μ (zR μ (.int 1))) (hz1 : decide (μ.1 (20 + 8 * s) l = 0) = true) : z_C d mi_X6_run [.ref 0, .int (nI s), .int (nI l)] μ (fun r μ' => r = some (.int 0) ∧ μ' = μ) := by
  refine z_C_in (by decide) (by omega) (fun d' Z ed hc hr => ?_)
  have hH : zH mi_X6_run zt_X6_run 79 6 6 := hh_X6_run
  refine z_rcs hc hH 2 (pc' := 2) (lv' := [(0, .ref 0), (1, .int (nI s)), (2, .int (nI l))]) (st' := [.int (nI s), .ref 0]) (μ' := μ) (by rfl) ?_
  refine zq_call hc (z_cx_ok hH (by rfl)) (hmc d' (by omega)) (by decide +kernel) (fun r9 μ9 hq => ?_)
  obtain ⟨hμ9, rfl⟩ := hq
  rw [hμ9]
  clear hμ9 μ9
  show Z 0 5 [(0, .ref 0), (1, .int (nI s)), (2, .int (nI l))] [.int 1] μ
  refine z_rcs hc hH 3 (pc' := 10) (lv' := [(0, .ref 0), (1, .int (nI s)), (2, .int (nI l))]) (st' := [.ref 0, .int (nI s)]) (μ' := μ) (by rfl) ?_
  refine zq_gfi hc hH (by rfl) (ci := 5) (f := 8) (by rfl) (by decide +kernel) (by rfl) ?_
  rw [ht]
  refine z_rcs hc hH 2 (pc' := 15) (lv' := [(0, .ref 0), (1, .int (nI s)), (2, .int (nI l))]) (st' := [.int ((nI t) + 1), .int (nI s)]) (μ' := μ) (by rfl) ?_
  rw [nI_s1]
  refine z_rcs hc hH 2 (pc' := 17) (lv' := [(0, .ref 0), (1, .int (nI s)), (2, .int (nI l))]) (st' := [.int ((nI (t + 1)) &&& 3), .int (nI s)]) (μ' := μ) (by rfl) ?_
  rw [show nI (t + 1) &&& 3 = nI u1 from by rw [and3 (by omega), hu1]]
  refine zq_ic hc hH (by rfl) (tg := 27) (by rfl) (fun h1 => ?_) (fun h1 => ?_)
  · have h1 : (decide ((nI s) = (nI u1))) = false := decide_eq_false (cm_ne.mp h1)
    exact absurd (Eq.trans (Eq.symm (hsu)) h1) (by decide)
  · have h1 : (decide ((nI s) = (nI u1))) = true := decide_eq_true (cn_ne.mp h1)
    refine z_rcs hc hH 1 (pc' := 21) (lv' := [(0, .ref 0), (1, .int (nI s)), (2, .int (nI l))]) (st' := [.int (nI l)]) (μ' := μ) (by rfl) ?_
    refine zq_call hc (z_cx_ok hH (by rfl)) (hsr d' (by omega)) (by decide +kernel) (fun r9 μ9 hq => ?_)
    obtain ⟨hμ9, rfl⟩ := hq
    rw [hμ9]
    clear hμ9 μ9
    show Z 0 24 [(0, .ref 0), (1, .int (nI s)), (2, .int (nI l))] [.int 1] μ
    refine z_rcs hc hH 2 (pc' := 30) (lv' := [(0, .ref 0), (1, .int (nI s)), (2, .int (nI l))]) (st' := [.ref 0]) (μ' := μ) (by rfl) ?_
    refine zq_gfi hc hH (by rfl) (ci := 5) (f := 15) (by rfl) (by decide +kernel) (by rfl) ?_
    rw [hc15]
    refine z_rcs hc hH 1 (pc' := 34) (lv' := [(0, .ref 0), (1, .int (nI s)), (2, .int (nI l))]) (st' := [.int (nI l), .int (nI (l + 2))]) (μ' := μ) (by rfl) ?_
    refine zq_ic hc hH (by rfl) (tg := 47) (by rfl) (fun h2 => ?_) (fun h2 => ?_)
    · have h2 : (decide ((nI (l + 2)) < (nI l))) = true := decide_eq_true (cm_lt.mp h2)
      exact absurd (Eq.trans (Eq.symm (kn_nlg (by omega) (by omega) (by omega))) h2) (by decide)
    · have h2 : (decide ((nI (l + 2)) < (nI l))) = false := decide_eq_false (cn_lt.mp h2)
      refine z_rcs hc hH 1 (pc' := 38) (lv' := [(0, .ref 0), (1, .int (nI s)), (2, .int (nI l))]) (st' := [.ref 0]) (μ' := μ) (by rfl) ?_
      refine zq_gfi hc hH (by rfl) (ci := 5) (f := 15) (by rfl) (by decide +kernel) (by rfl) ?_
      rw [hc15]
      refine z_rcs hc hH 3 (pc' := 44) (lv' := [(0, .ref 0), (1, .int (nI s)), (2, .int (nI l))]) (st' := [.int ((nI l) + 2), .int (nI (l + 2))]) (μ' := μ) (by rfl) ?_
      rw [show nI l + 2 = nI (l + 2) from by rw [show (2 : Int32) = nI 2 from rfl, nI_add]]
      refine zq_ic hc hH (by rfl) (tg := 49) (by rfl) (fun h3 => ?_) (fun h3 => ?_)
      · have h3 : (decide ((nI (l + 2)) ≤ (nI (l + 2)))) = true := decide_eq_true (cm_le.mp h3)
        refine z_rcs hc hH 2 (pc' := 51) (lv' := [(0, .ref 0), (1, .int (nI s)), (2, .int (nI l))]) (st' := [.int (nI s), .ref 0]) (μ' := μ) (by rfl) ?_
        refine zq_call hc (z_cx_ok hH (by rfl)) (gc_at4 d' (by omega) μ s hs4) (by decide +kernel) (fun r9 μ9 hq => ?_)
        obtain ⟨hμ9, rfl⟩ := hq
        rw [hμ9]
        clear hμ9 μ9
        show Z 0 54 [(0, .ref 0), (1, .int (nI s)), (2, .int (nI l))] [.ref (18 + 8 * s)] μ
        refine zq_gfr hc hH (by rfl) (ci := 1) (f := 0) (q := 19 + 8 * s) (by rfl) (sj (P := fun i => okf 79 1 0 (18 + 8 * i)) hs4 (by decide +kernel)) (by rfl) (sj (P := fun i => Nat.beq (z_gr (18 + 8 * i) 0) (19 + 8 * i)) hs4 (by decide +kernel)) ?_
        refine zq_gfr hc hH (by rfl) (ci := 2) (f := 0) (q := 20 + 8 * s) (by rfl) (sj (P := fun i => okf 79 2 0 (19 + 8 * i)) hs4 (by decide +kernel)) (by rfl) (sj (P := fun i => Nat.beq (z_gr (19 + 8 * i) 0) (20 + 8 * i)) hs4 (by decide +kernel)) ?_
        refine z_rcs hc hH 7 (pc' := 69) (lv' := [(4, .int (nI l)), (3, .ref (20 + 8 * s)), (0, .ref 0), (1, .int (nI s)), (2, .int (nI l))]) (st' := [.int ((nI l) + 2), .int (nI l)]) (μ' := μ) (by rfl) ?_
        rw [show nI l + 2 = nI (l + 2) from by rw [show (2 : Int32) = nI 2 from rfl, nI_add]]
        refine zq_ic hc hH (by rfl) (tg := 96) (by rfl) (fun h4 => ?_) (fun h4 => ?_)
        · have h4 : (decide ((nI (l + 2)) < (nI l))) = true := decide_eq_true (cm_gt.mp h4)
          exact absurd (Eq.trans (Eq.symm (kn_nlg (by omega) (by omega) (by omega))) h4) (by decide)
        · have h4 : (decide ((nI (l + 2)) < (nI l))) = false := decide_eq_false (cn_gt.mp h4)
          refine z_rcs hc hH 2 (pc' := 75) (lv' := [(4, .int (nI l)), (3, .ref (20 + 8 * s)), (0, .ref 0), (1, .int (nI s)), (2, .int (nI l))]) (st' := [.ref 0, .int (nI l)]) (μ' := μ) (by rfl) ?_
          refine zq_gfi hc hH (by rfl) (ci := 5) (f := 15) (by rfl) (by decide +kernel) (by rfl) ?_
          rw [hc15]
          refine zq_ic hc hH (by rfl) (tg := 90) (by rfl) (fun h5 => ?_) (fun h5 => ?_)
          · have h5 : (decide ((nI l) = (nI (l + 2)))) = true := decide_eq_true (cm_eq9.mp h5)
            exact absurd (Eq.trans (Eq.symm (kn_ne (by omega) (by omega) (by omega))) h5) (by decide)
          · have h5 : (decide ((nI l) = (nI (l + 2)))) = false := decide_eq_false (cn_eq.mp h5)
            refine z_rcs hc hH 2 (pc' := 84) (lv' := [(4, .int (nI l)), (3, .ref (20 + 8 * s)), (0, .ref 0), (1, .int (nI s)), (2, .int (nI l))]) (st' := [.int (nI l), .ref (20 + 8 * s)]) (μ' := μ) (by rfl) ?_
            refine zq_iald hc hH (by rfl) 34 (oka_i (sj (P := fun i => oka 79 1 34 (20 + 8 * i)) hs4 (by decide +kernel))) (vp_in_nI (by omega) (by decide)) ?_
            rw [nI_clamp (by omega)]
            refine zq_if hc hH (by rfl) (tg := 90) (by rfl) (fun h6 => ?_) (fun h6 => ?_)
            · have h6 : (decide ((μ.1 (20 + 8 * s) l) = 0)) = false := decide_eq_false (cm_ne.mp h6)
              exact absurd (Eq.trans (Eq.symm (hz1)) h6) (by decide)
            · have h6 : (decide ((μ.1 (20 + 8 * s) l) = 0)) = true := decide_eq_true (cn_ne.mp h6)
              refine z_rcs hc hH 1 (pc' := 89) (lv' := [(4, .int (nI l)), (3, .ref (20 + 8 * s)), (0, .ref 0), (1, .int (nI s)), (2, .int (nI l))]) (st' := [.int 0]) (μ' := μ) (by rfl) ?_
              exact hr 0 89 _ _ _ (some (.int 0)) (by decide +kernel) (z_rx_ok hH (by rfl)) (⟨rfl, rfl⟩)
      · have h3 : (decide ((nI (l + 2)) ≤ (nI (l + 2)))) = false := decide_eq_false (cn_le.mp h3)
        exact absurd (Eq.trans (Eq.symm (kn_nle (by omega) (by omega) (by omega))) h3) (by decide)
theorem gx_runB2 (d : Nat) (hd : 4 ≤ d) (μ : zM) (s l : Nat) (hs4 : s < 4) (hl : l + 2 ≤ 33) (hc15 : μ.1 0 15 = nI (l + 2)) (t u1 : Nat) (ht4 : t < 4) (ht : μ.1 0 8 = nI t) (hu1 : (t + 1) % 4 = u1) (hu14 : u1 < 4) (hmc : ∀ d, 3 ≤ d → z_C d mi_X6_mayClaimSet [.ref 0, .int (nI s)] μ (zR μ (.int 1))) (hsu : decide (nI s = nI u1) = true) (hsr : ∀ d, 1 ≤ d → z_C d mi_X6_startsRun [.int (nI l)] μ (zR μ (.int 1))) (hz1 : decide (μ.1 (20 + 8 * s) l = 0) = false) (hz2 : decide (μ.1 (20 + 8 * s) (l + 1) = 0) = true) : z_C d mi_X6_run [.ref 0, .int (nI s), .int (nI l)] μ (fun r μ' => r = some (.int 0) ∧ μ' = μ) := by
  refine z_C_in (by decide) (by omega) (fun d' Z ed hc hr => ?_)
  have hH : zH mi_X6_run zt_X6_run 79 6 6 := hh_X6_run
  refine z_rcs hc hH 2 (pc' := 2) (lv' := [(0, .ref 0), (1, .int (nI s)), (2, .int (nI l))]) (st' := [.int (nI s), .ref 0]) (μ' := μ) (by rfl) ?_
  refine zq_call hc (z_cx_ok hH (by rfl)) (hmc d' (by omega)) (by decide +kernel) (fun r9 μ9 hq => ?_)
  obtain ⟨hμ9, rfl⟩ := hq
  rw [hμ9]
  clear hμ9 μ9
  show Z 0 5 [(0, .ref 0), (1, .int (nI s)), (2, .int (nI l))] [.int 1] μ
  refine z_rcs hc hH 3 (pc' := 10) (lv' := [(0, .ref 0), (1, .int (nI s)), (2, .int (nI l))]) (st' := [.ref 0, .int (nI s)]) (μ' := μ) (by rfl) ?_
  refine zq_gfi hc hH (by rfl) (ci := 5) (f := 8) (by rfl) (by decide +kernel) (by rfl) ?_
  rw [ht]
  refine z_rcs hc hH 2 (pc' := 15) (lv' := [(0, .ref 0), (1, .int (nI s)), (2, .int (nI l))]) (st' := [.int ((nI t) + 1), .int (nI s)]) (μ' := μ) (by rfl) ?_
  rw [nI_s1]
  refine z_rcs hc hH 2 (pc' := 17) (lv' := [(0, .ref 0), (1, .int (nI s)), (2, .int (nI l))]) (st' := [.int ((nI (t + 1)) &&& 3), .int (nI s)]) (μ' := μ) (by rfl) ?_
  rw [show nI (t + 1) &&& 3 = nI u1 from by rw [and3 (by omega), hu1]]
  refine zq_ic hc hH (by rfl) (tg := 27) (by rfl) (fun h1 => ?_) (fun h1 => ?_)
  · have h1 : (decide ((nI s) = (nI u1))) = false := decide_eq_false (cm_ne.mp h1)
    exact absurd (Eq.trans (Eq.symm (hsu)) h1) (by decide)
  · have h1 : (decide ((nI s) = (nI u1))) = true := decide_eq_true (cn_ne.mp h1)
    refine z_rcs hc hH 1 (pc' := 21) (lv' := [(0, .ref 0), (1, .int (nI s)), (2, .int (nI l))]) (st' := [.int (nI l)]) (μ' := μ) (by rfl) ?_
    refine zq_call hc (z_cx_ok hH (by rfl)) (hsr d' (by omega)) (by decide +kernel) (fun r9 μ9 hq => ?_)
    obtain ⟨hμ9, rfl⟩ := hq
    rw [hμ9]
    clear hμ9 μ9
    show Z 0 24 [(0, .ref 0), (1, .int (nI s)), (2, .int (nI l))] [.int 1] μ
    refine z_rcs hc hH 2 (pc' := 30) (lv' := [(0, .ref 0), (1, .int (nI s)), (2, .int (nI l))]) (st' := [.ref 0]) (μ' := μ) (by rfl) ?_
    refine zq_gfi hc hH (by rfl) (ci := 5) (f := 15) (by rfl) (by decide +kernel) (by rfl) ?_
    rw [hc15]
    refine z_rcs hc hH 1 (pc' := 34) (lv' := [(0, .ref 0), (1, .int (nI s)), (2, .int (nI l))]) (st' := [.int (nI l), .int (nI (l + 2))]) (μ' := μ) (by rfl) ?_
    refine zq_ic hc hH (by rfl) (tg := 47) (by rfl) (fun h2 => ?_) (fun h2 => ?_)
    · have h2 : (decide ((nI (l + 2)) < (nI l))) = true := decide_eq_true (cm_lt.mp h2)
      exact absurd (Eq.trans (Eq.symm (kn_nlg (by omega) (by omega) (by omega))) h2) (by decide)
    · have h2 : (decide ((nI (l + 2)) < (nI l))) = false := decide_eq_false (cn_lt.mp h2)
      refine z_rcs hc hH 1 (pc' := 38) (lv' := [(0, .ref 0), (1, .int (nI s)), (2, .int (nI l))]) (st' := [.ref 0]) (μ' := μ) (by rfl) ?_
      refine zq_gfi hc hH (by rfl) (ci := 5) (f := 15) (by rfl) (by decide +kernel) (by rfl) ?_
      rw [hc15]
      refine z_rcs hc hH 3 (pc' := 44) (lv' := [(0, .ref 0), (1, .int (nI s)), (2, .int (nI l))]) (st' := [.int ((nI l) + 2), .int (nI (l + 2))]) (μ' := μ) (by rfl) ?_
      rw [show nI l + 2 = nI (l + 2) from by rw [show (2 : Int32) = nI 2 from rfl, nI_add]]
      refine zq_ic hc hH (by rfl) (tg := 49) (by rfl) (fun h3 => ?_) (fun h3 => ?_)
      · have h3 : (decide ((nI (l + 2)) ≤ (nI (l + 2)))) = true := decide_eq_true (cm_le.mp h3)
        refine z_rcs hc hH 2 (pc' := 51) (lv' := [(0, .ref 0), (1, .int (nI s)), (2, .int (nI l))]) (st' := [.int (nI s), .ref 0]) (μ' := μ) (by rfl) ?_
        refine zq_call hc (z_cx_ok hH (by rfl)) (gc_at4 d' (by omega) μ s hs4) (by decide +kernel) (fun r9 μ9 hq => ?_)
        obtain ⟨hμ9, rfl⟩ := hq
        rw [hμ9]
        clear hμ9 μ9
        show Z 0 54 [(0, .ref 0), (1, .int (nI s)), (2, .int (nI l))] [.ref (18 + 8 * s)] μ
        refine zq_gfr hc hH (by rfl) (ci := 1) (f := 0) (q := 19 + 8 * s) (by rfl) (sj (P := fun i => okf 79 1 0 (18 + 8 * i)) hs4 (by decide +kernel)) (by rfl) (sj (P := fun i => Nat.beq (z_gr (18 + 8 * i) 0) (19 + 8 * i)) hs4 (by decide +kernel)) ?_
        refine zq_gfr hc hH (by rfl) (ci := 2) (f := 0) (q := 20 + 8 * s) (by rfl) (sj (P := fun i => okf 79 2 0 (19 + 8 * i)) hs4 (by decide +kernel)) (by rfl) (sj (P := fun i => Nat.beq (z_gr (19 + 8 * i) 0) (20 + 8 * i)) hs4 (by decide +kernel)) ?_
        refine z_rcs hc hH 7 (pc' := 69) (lv' := [(4, .int (nI l)), (3, .ref (20 + 8 * s)), (0, .ref 0), (1, .int (nI s)), (2, .int (nI l))]) (st' := [.int ((nI l) + 2), .int (nI l)]) (μ' := μ) (by rfl) ?_
        rw [show nI l + 2 = nI (l + 2) from by rw [show (2 : Int32) = nI 2 from rfl, nI_add]]
        refine zq_ic hc hH (by rfl) (tg := 96) (by rfl) (fun h4 => ?_) (fun h4 => ?_)
        · have h4 : (decide ((nI (l + 2)) < (nI l))) = true := decide_eq_true (cm_gt.mp h4)
          exact absurd (Eq.trans (Eq.symm (kn_nlg (by omega) (by omega) (by omega))) h4) (by decide)
        · have h4 : (decide ((nI (l + 2)) < (nI l))) = false := decide_eq_false (cn_gt.mp h4)
          refine z_rcs hc hH 2 (pc' := 75) (lv' := [(4, .int (nI l)), (3, .ref (20 + 8 * s)), (0, .ref 0), (1, .int (nI s)), (2, .int (nI l))]) (st' := [.ref 0, .int (nI l)]) (μ' := μ) (by rfl) ?_
          refine zq_gfi hc hH (by rfl) (ci := 5) (f := 15) (by rfl) (by decide +kernel) (by rfl) ?_
          rw [hc15]
          refine zq_ic hc hH (by rfl) (tg := 90) (by rfl) (fun h5 => ?_) (fun h5 => ?_)
          · have h5 : (decide ((nI l) = (nI (l + 2)))) = true := decide_eq_true (cm_eq9.mp h5)
            exact absurd (Eq.trans (Eq.symm (kn_ne (by omega) (by omega) (by omega))) h5) (by decide)
          · have h5 : (decide ((nI l) = (nI (l + 2)))) = false := decide_eq_false (cn_eq.mp h5)
            refine z_rcs hc hH 2 (pc' := 84) (lv' := [(4, .int (nI l)), (3, .ref (20 + 8 * s)), (0, .ref 0), (1, .int (nI s)), (2, .int (nI l))]) (st' := [.int (nI l), .ref (20 + 8 * s)]) (μ' := μ) (by rfl) ?_
            refine zq_iald hc hH (by rfl) 34 (oka_i (sj (P := fun i => oka 79 1 34 (20 + 8 * i)) hs4 (by decide +kernel))) (vp_in_nI (by omega) (by decide)) ?_
            rw [nI_clamp (by omega)]
            refine zq_if hc hH (by rfl) (tg := 90) (by rfl) (fun h6 => ?_) (fun h6 => ?_)
            · have h6 : (decide ((μ.1 (20 + 8 * s) l) = 0)) = false := decide_eq_false (cm_ne.mp h6)
              refine z_rcs hc hH 3 (pc' := 66) (lv' := [(4, .int ((nI l) + 1)), (3, .ref (20 + 8 * s)), (0, .ref 0), (1, .int (nI s)), (2, .int (nI l))]) (st' := [.int ((nI l) + 1)]) (μ' := μ) (by rfl) ?_
              rw [show nI l + 1 = nI (l + 1) from by rw [show (1 : Int32) = nI 1 from rfl, nI_add]]
              refine z_rcs hc hH 3 (pc' := 69) (lv' := [(4, .int (nI (l + 1))), (3, .ref (20 + 8 * s)), (0, .ref 0), (1, .int (nI s)), (2, .int (nI l))]) (st' := [.int ((nI l) + 2), .int (nI (l + 1))]) (μ' := μ) (by rfl) ?_
              rw [show nI l + 2 = nI (l + 2) from by rw [show (2 : Int32) = nI 2 from rfl, nI_add]]
              refine zq_ic hc hH (by rfl) (tg := 96) (by rfl) (fun h7 => ?_) (fun h7 => ?_)
              · have h7 : (decide ((nI (l + 2)) < (nI (l + 1)))) = true := decide_eq_true (cm_gt.mp h7)
                exact absurd (Eq.trans (Eq.symm (kn_nlg (by omega) (by omega) (by omega))) h7) (by decide)
              · have h7 : (decide ((nI (l + 2)) < (nI (l + 1)))) = false := decide_eq_false (cn_gt.mp h7)
                refine z_rcs hc hH 2 (pc' := 75) (lv' := [(4, .int (nI (l + 1))), (3, .ref (20 + 8 * s)), (0, .ref 0), (1, .int (nI s)), (2, .int (nI l))]) (st' := [.ref 0, .int (nI (l + 1))]) (μ' := μ) (by rfl) ?_
                refine zq_gfi hc hH (by rfl) (ci := 5) (f := 15) (by rfl) (by decide +kernel) (by rfl) ?_
                rw [hc15]
                refine zq_ic hc hH (by rfl) (tg := 90) (by rfl) (fun h8 => ?_) (fun h8 => ?_)
                · have h8 : (decide ((nI (l + 1)) = (nI (l + 2)))) = true := decide_eq_true (cm_eq9.mp h8)
                  exact absurd (Eq.trans (Eq.symm (kn_ne (by omega) (by omega) (by omega))) h8) (by decide)
                · have h8 : (decide ((nI (l + 1)) = (nI (l + 2)))) = false := decide_eq_false (cn_eq.mp h8)
                  refine z_rcs hc hH 2 (pc' := 84) (lv' := [(4, .int (nI (l + 1))), (3, .ref (20 + 8 * s)), (0, .ref 0), (1, .int (nI s)), (2, .int (nI l))]) (st' := [.int (nI (l + 1)), .ref (20 + 8 * s)]) (μ' := μ) (by rfl) ?_
                  refine zq_iald hc hH (by rfl) 34 (oka_i (sj (P := fun i => oka 79 1 34 (20 + 8 * i)) hs4 (by decide +kernel))) (vp_in_nI (by omega) (by decide)) ?_
                  rw [nI_clamp (by omega)]
                  refine zq_if hc hH (by rfl) (tg := 90) (by rfl) (fun h9 => ?_) (fun h9 => ?_)
                  · have h9 : (decide ((μ.1 (20 + 8 * s) (l + 1)) = 0)) = false := decide_eq_false (cm_ne.mp h9)
                    exact absurd (Eq.trans (Eq.symm (hz2)) h9) (by decide)
                  · have h9 : (decide ((μ.1 (20 + 8 * s) (l + 1)) = 0)) = true := decide_eq_true (cn_ne.mp h9)
                    refine z_rcs hc hH 1 (pc' := 89) (lv' := [(4, .int (nI (l + 1))), (3, .ref (20 + 8 * s)), (0, .ref 0), (1, .int (nI s)), (2, .int (nI l))]) (st' := [.int 0]) (μ' := μ) (by rfl) ?_
                    exact hr 0 89 _ _ _ (some (.int 0)) (by decide +kernel) (z_rx_ok hH (by rfl)) (⟨rfl, rfl⟩)
            · have h6 : (decide ((μ.1 (20 + 8 * s) l) = 0)) = true := decide_eq_true (cn_ne.mp h6)
              exact absurd (Eq.trans (Eq.symm (hz1)) h6) (by decide)
      · have h3 : (decide ((nI (l + 2)) ≤ (nI (l + 2)))) = false := decide_eq_false (cn_le.mp h3)
        exact absurd (Eq.trans (Eq.symm (kn_nle (by omega) (by omega) (by omega))) h3) (by decide)
theorem mr_threeH (d : Nat) (hd : 4 ≤ d) (μ : zM) (s c : Nat) (hs4 : s < 4) (hc : c < 34) (hc49 : μ.1 50 49 = nI c) (hmc : ∀ d, 2 ≤ d → z_C d mi_X7_mayClaim [.ref 50, .int (nI s)] (z_ui μ 50 0 0) (zR (z_ui μ 50 0 0) (.int 1))) (hf : decide (2 ≤ μ.1 60 (34 * s + c)) = false) : z_C d mi_X7_three [.ref 50, .int (nI s)] μ (fun r μ' => r = some (.int 0) ∧ μ' = z_ui μ 50 0 0) := by
  refine z_C_in (by decide) (by omega) (fun d' Z ed hc hr => ?_)
  have hH : zH mi_X7_three zt_X7_three 79 7 3 := hh_X7_three
  refine z_rcs hc hH 2 (pc' := 2) (lv' := [(0, .ref 50), (1, .int (nI s))]) (st' := [.int 0, .ref 50]) (μ' := μ) (by rfl) ?_
  refine zq_pfi hc hH (by rfl) (ci := 6) (f := 0) (by rfl) (by decide +kernel) (by rfl) ?_
  show Z 0 5 [(0, .ref 50), (1, .int (nI s))] [] (z_ui μ 50 0 0)
  refine z_rcs hc hH 2 (pc' := 7) (lv' := [(0, .ref 50), (1, .int (nI s))]) (st' := [.int (nI s), .ref 50]) (μ' := z_ui μ 50 0 0) (by rfl) ?_
  refine zq_call hc (z_cx_ok hH (by rfl)) (hmc d' (by omega)) (by decide +kernel) (fun r9 μ9 hq => ?_)
  obtain ⟨hμ9, rfl⟩ := hq
  rw [hμ9]
  clear hμ9 μ9
  show Z 0 10 [(0, .ref 50), (1, .int (nI s))] [.int 1] (z_ui μ 50 0 0)
  refine z_rcs hc hH 4 (pc' := 16) (lv' := [(0, .ref 50), (1, .int (nI s))]) (st' := [.ref 50, .int (nI s), .ref 50]) (μ' := z_ui μ 50 0 0) (by rfl) ?_
  refine zq_gfi hc hH (by rfl) (ci := 6) (f := 49) (by rfl) (by decide +kernel) (by rfl) ?_
  refine zV1 (Z := Z) (ui_k (by first | decide | omega)) ?_
  rw [hc49]
  refine zq_call hc (z_cx_ok hH (by rfl)) (fc_X7_has_ d' (by omega) (z_ui μ 50 0 0) s c hs4 (by omega)) (by decide +kernel) (fun r9 μ9 hq => ?_)
  obtain ⟨hμ9, rfl⟩ := hq
  rw [hμ9]
  clear hμ9 μ9
  rw [ui_o (by first | decide | omega)]
  show Z 0 22 [(0, .ref 50), (1, .int (nI s))] [.int (μ.1 60 (34 * s + c))] (z_ui μ 50 0 0)
  refine z_rcs hc hH 1 (pc' := 23) (lv' := [(0, .ref 50), (1, .int (nI s))]) (st' := [.int 2, .int (μ.1 60 (34 * s + c))]) (μ' := z_ui μ 50 0 0) (by rfl) ?_
  refine zq_ic hc hH (by rfl) (tg := 28) (by rfl) (fun h1 => ?_) (fun h1 => ?_)
  · have h1 : (decide (2 ≤ (μ.1 60 (34 * s + c)))) = true := decide_eq_true (cm_ge.mp h1)
    exact absurd (Eq.trans (Eq.symm (hf)) h1) (by decide)
  · have h1 : (decide (2 ≤ (μ.1 60 (34 * s + c)))) = false := decide_eq_false (cn_ge.mp h1)
    refine z_rcs hc hH 1 (pc' := 27) (lv' := [(0, .ref 50), (1, .int (nI s))]) (st' := [.int 0]) (μ' := z_ui μ 50 0 0) (by rfl) ?_
    exact hr 0 27 _ _ _ (some (.int 0)) (by decide +kernel) (z_rx_ok hH (by rfl)) (⟨rfl, rfl⟩)
theorem mr_fourH (d : Nat) (hd : 4 ≤ d) (μ : zM) (s c : Nat) (hs4 : s < 4) (hc : c < 34) (hc49 : μ.1 50 49 = nI c) (hmc : ∀ d, 2 ≤ d → z_C d mi_X7_mayClaim [.ref 50, .int (nI s)] (z_ui μ 50 0 0) (zR (z_ui μ 50 0 0) (.int 1))) (hf : decide (μ.1 60 (34 * s + c) < 3) = true) : z_C d mi_X7_four [.ref 50, .int (nI s)] μ (fun r μ' => r = some (.int 0) ∧ μ' = z_ui μ 50 0 0) := by
  refine z_C_in (by decide) (by omega) (fun d' Z ed hc hr => ?_)
  have hH : zH mi_X7_four zt_X7_four 79 7 2 := hh_X7_four
  refine z_rcs hc hH 2 (pc' := 2) (lv' := [(0, .ref 50), (1, .int (nI s))]) (st' := [.int 0, .ref 50]) (μ' := μ) (by rfl) ?_
  refine zq_pfi hc hH (by rfl) (ci := 6) (f := 0) (by rfl) (by decide +kernel) (by rfl) ?_
  show Z 0 5 [(0, .ref 50), (1, .int (nI s))] [] (z_ui μ 50 0 0)
  refine z_rcs hc hH 2 (pc' := 7) (lv' := [(0, .ref 50), (1, .int (nI s))]) (st' := [.int (nI s), .ref 50]) (μ' := z_ui μ 50 0 0) (by rfl) ?_
  refine zq_call hc (z_cx_ok hH (by rfl)) (hmc d' (by omega)) (by decide +kernel) (fun r9 μ9 hq => ?_)
  obtain ⟨hμ9, rfl⟩ := hq
  rw [hμ9]
  clear hμ9 μ9
  show Z 0 10 [(0, .ref 50), (1, .int (nI s))] [.int 1] (z_ui μ 50 0 0)
  refine z_rcs hc hH 4 (pc' := 16) (lv' := [(0, .ref 50), (1, .int (nI s))]) (st' := [.ref 50, .int (nI s), .ref 50]) (μ' := z_ui μ 50 0 0) (by rfl) ?_
  refine zq_gfi hc hH (by rfl) (ci := 6) (f := 49) (by rfl) (by decide +kernel) (by rfl) ?_
  refine zV1 (Z := Z) (ui_k (by first | decide | omega)) ?_
  rw [hc49]
  refine zq_call hc (z_cx_ok hH (by rfl)) (fc_X7_has_ d' (by omega) (z_ui μ 50 0 0) s c hs4 (by omega)) (by decide +kernel) (fun r9 μ9 hq => ?_)
  obtain ⟨hμ9, rfl⟩ := hq
  rw [hμ9]
  clear hμ9 μ9
  rw [ui_o (by first | decide | omega)]
  show Z 0 22 [(0, .ref 50), (1, .int (nI s))] [.int (μ.1 60 (34 * s + c))] (z_ui μ 50 0 0)
  refine z_rcs hc hH 1 (pc' := 23) (lv' := [(0, .ref 50), (1, .int (nI s))]) (st' := [.int 3, .int (μ.1 60 (34 * s + c))]) (μ' := z_ui μ 50 0 0) (by rfl) ?_
  refine zq_ic hc hH (by rfl) (tg := 34) (by rfl) (fun h1 => ?_) (fun h1 => ?_)
  · have h1 : (decide ((μ.1 60 (34 * s + c)) < 3)) = true := decide_eq_true (cm_lt.mp h1)
    refine z_rcs hc hH 1 (pc' := 35) (lv' := [(0, .ref 50), (1, .int (nI s))]) (st' := [.int 0]) (μ' := z_ui μ 50 0 0) (by rfl) ?_
    exact hr 0 35 _ _ _ (some (.int 0)) (by decide +kernel) (z_rx_ok hH (by rfl)) (⟨rfl, rfl⟩)
  · have h1 : (decide ((μ.1 60 (34 * s + c)) < 3)) = false := decide_eq_false (cn_lt.mp h1)
    exact absurd (Eq.trans (Eq.symm (hf)) h1) (by decide)
theorem mr_runS (d : Nat) (hd : 4 ≤ d) (μ : zM) (s : Nat) (hs4 : s < 4) (x : Int32) (t u1 : Nat) (ht4 : t < 4) (ht : μ.1 50 45 = nI t) (hu1 : (t + 1) % 4 = u1) (hu14 : u1 < 4) (hmc : ∀ d, 2 ≤ d → z_C d mi_X7_mayClaim [.ref 50, .int (nI s)] (z_ui μ 50 0 0) (zR (z_ui μ 50 0 0) (.int 1))) (hsu : decide (nI s = nI u1) = false) : z_C d mi_X7_run [.ref 50, .int (nI s), .int x] μ (fun r μ' => r = some (.int 0) ∧ μ' = z_ui μ 50 0 0) := by
  refine z_C_in (by decide) (by omega) (fun d' Z ed hc hr => ?_)
  have hH : zH mi_X7_run zt_X7_run 79 7 5 := hh_X7_run
  refine z_rcs hc hH 2 (pc' := 2) (lv' := [(0, .ref 50), (1, .int (nI s)), (2, .int x)]) (st' := [.int 0, .ref 50]) (μ' := μ) (by rfl) ?_
  refine zq_pfi hc hH (by rfl) (ci := 6) (f := 0) (by rfl) (by decide +kernel) (by rfl) ?_
  show Z 0 5 [(0, .ref 50), (1, .int (nI s)), (2, .int x)] [] (z_ui μ 50 0 0)
  refine z_rcs hc hH 2 (pc' := 7) (lv' := [(0, .ref 50), (1, .int (nI s)), (2, .int x)]) (st' := [.int (nI s), .ref 50]) (μ' := z_ui μ 50 0 0) (by rfl) ?_
  refine zq_call hc (z_cx_ok hH (by rfl)) (hmc d' (by omega)) (by decide +kernel) (fun r9 μ9 hq => ?_)
  obtain ⟨hμ9, rfl⟩ := hq
  rw [hμ9]
  clear hμ9 μ9
  show Z 0 10 [(0, .ref 50), (1, .int (nI s)), (2, .int x)] [.int 1] (z_ui μ 50 0 0)
  refine z_rcs hc hH 3 (pc' := 15) (lv' := [(0, .ref 50), (1, .int (nI s)), (2, .int x)]) (st' := [.ref 50, .int (nI s)]) (μ' := z_ui μ 50 0 0) (by rfl) ?_
  refine zq_gfi hc hH (by rfl) (ci := 6) (f := 45) (by rfl) (by decide +kernel) (by rfl) ?_
  refine zV1 (Z := Z) (ui_k (by first | decide | omega)) ?_
  rw [ht]
  refine z_rcs hc hH 2 (pc' := 20) (lv' := [(0, .ref 50), (1, .int (nI s)), (2, .int x)]) (st' := [.int ((nI t) + 1), .int (nI s)]) (μ' := z_ui μ 50 0 0) (by rfl) ?_
  rw [nI_s1]
  refine z_rcs hc hH 2 (pc' := 22) (lv' := [(0, .ref 50), (1, .int (nI s)), (2, .int x)]) (st' := [.int ((nI (t + 1)) - (nI (t + 1)) / 4 * 4), .int (nI s)]) (μ' := z_ui μ 50 0 0) (by rfl) ?_
  rw [show nI (t + 1) - nI (t + 1) / 4 * 4 = nI u1 from by rw [rm4 _ (by omega), hu1]]
  refine zq_ic hc hH (by rfl) (tg := 50) (by rfl) (fun h1 => ?_) (fun h1 => ?_)
  · have h1 : (decide ((nI s) = (nI u1))) = false := decide_eq_false (cm_ne.mp h1)
    refine z_rcs hc hH 1 (pc' := 51) (lv' := [(0, .ref 50), (1, .int (nI s)), (2, .int x)]) (st' := [.int 0]) (μ' := z_ui μ 50 0 0) (by rfl) ?_
    exact hr 0 51 _ _ _ (some (.int 0)) (by decide +kernel) (z_rx_ok hH (by rfl)) (⟨rfl, rfl⟩)
  · have h1 : (decide ((nI s) = (nI u1))) = true := decide_eq_true (cn_ne.mp h1)
    exact absurd (Eq.trans (Eq.symm (hsu)) h1) (by decide)
theorem mr_runR (d : Nat) (hd : 4 ≤ d) (μ : zM) (s : Nat) (hs4 : s < 4) (x : Int32) (t u1 : Nat) (ht4 : t < 4) (ht : μ.1 50 45 = nI t) (hu1 : (t + 1) % 4 = u1) (hu14 : u1 < 4) (hmc : ∀ d, 2 ≤ d → z_C d mi_X7_mayClaim [.ref 50, .int (nI s)] (z_ui μ 50 0 0) (zR (z_ui μ 50 0 0) (.int 1))) (hsu : decide (nI s = nI u1) = true) (hsr : ∀ d, 1 ≤ d → z_C d mi_X7_isRun [.int x] (z_ui μ 50 0 0) (zR (z_ui μ 50 0 0) (.int 0))) : z_C d mi_X7_run [.ref 50, .int (nI s), .int x] μ (fun r μ' => r = some (.int 0) ∧ μ' = z_ui μ 50 0 0) := by
  refine z_C_in (by decide) (by omega) (fun d' Z ed hc hr => ?_)
  have hH : zH mi_X7_run zt_X7_run 79 7 5 := hh_X7_run
  refine z_rcs hc hH 2 (pc' := 2) (lv' := [(0, .ref 50), (1, .int (nI s)), (2, .int x)]) (st' := [.int 0, .ref 50]) (μ' := μ) (by rfl) ?_
  refine zq_pfi hc hH (by rfl) (ci := 6) (f := 0) (by rfl) (by decide +kernel) (by rfl) ?_
  show Z 0 5 [(0, .ref 50), (1, .int (nI s)), (2, .int x)] [] (z_ui μ 50 0 0)
  refine z_rcs hc hH 2 (pc' := 7) (lv' := [(0, .ref 50), (1, .int (nI s)), (2, .int x)]) (st' := [.int (nI s), .ref 50]) (μ' := z_ui μ 50 0 0) (by rfl) ?_
  refine zq_call hc (z_cx_ok hH (by rfl)) (hmc d' (by omega)) (by decide +kernel) (fun r9 μ9 hq => ?_)
  obtain ⟨hμ9, rfl⟩ := hq
  rw [hμ9]
  clear hμ9 μ9
  show Z 0 10 [(0, .ref 50), (1, .int (nI s)), (2, .int x)] [.int 1] (z_ui μ 50 0 0)
  refine z_rcs hc hH 3 (pc' := 15) (lv' := [(0, .ref 50), (1, .int (nI s)), (2, .int x)]) (st' := [.ref 50, .int (nI s)]) (μ' := z_ui μ 50 0 0) (by rfl) ?_
  refine zq_gfi hc hH (by rfl) (ci := 6) (f := 45) (by rfl) (by decide +kernel) (by rfl) ?_
  refine zV1 (Z := Z) (ui_k (by first | decide | omega)) ?_
  rw [ht]
  refine z_rcs hc hH 2 (pc' := 20) (lv' := [(0, .ref 50), (1, .int (nI s)), (2, .int x)]) (st' := [.int ((nI t) + 1), .int (nI s)]) (μ' := z_ui μ 50 0 0) (by rfl) ?_
  rw [nI_s1]
  refine z_rcs hc hH 2 (pc' := 22) (lv' := [(0, .ref 50), (1, .int (nI s)), (2, .int x)]) (st' := [.int ((nI (t + 1)) - (nI (t + 1)) / 4 * 4), .int (nI s)]) (μ' := z_ui μ 50 0 0) (by rfl) ?_
  rw [show nI (t + 1) - nI (t + 1) / 4 * 4 = nI u1 from by rw [rm4 _ (by omega), hu1]]
  refine zq_ic hc hH (by rfl) (tg := 50) (by rfl) (fun h1 => ?_) (fun h1 => ?_)
  · have h1 : (decide ((nI s) = (nI u1))) = false := decide_eq_false (cm_ne.mp h1)
    exact absurd (Eq.trans (Eq.symm (hsu)) h1) (by decide)
  · have h1 : (decide ((nI s) = (nI u1))) = true := decide_eq_true (cn_ne.mp h1)
    refine z_rcs hc hH 1 (pc' := 26) (lv' := [(0, .ref 50), (1, .int (nI s)), (2, .int x)]) (st' := [.int x]) (μ' := z_ui μ 50 0 0) (by rfl) ?_
    refine zq_call hc (z_cx_ok hH (by rfl)) (hsr d' (by omega)) (by decide +kernel) (fun r9 μ9 hq => ?_)
    obtain ⟨hμ9, rfl⟩ := hq
    rw [hμ9]
    clear hμ9 μ9
    show Z 0 29 [(0, .ref 50), (1, .int (nI s)), (2, .int x)] [.int 0] (z_ui μ 50 0 0)
    refine z_rcs hc hH 2 (pc' := 51) (lv' := [(0, .ref 50), (1, .int (nI s)), (2, .int x)]) (st' := [.int 0]) (μ' := z_ui μ 50 0 0) (by rfl) ?_
    exact hr 0 51 _ _ _ (some (.int 0)) (by decide +kernel) (z_rx_ok hH (by rfl)) (⟨rfl, rfl⟩)
theorem mr_runL (d : Nat) (hd : 4 ≤ d) (μ : zM) (s l c : Nat) (hs4 : s < 4) (hl : l + 2 ≤ 33) (hc49 : μ.1 50 49 = nI c) (t u1 : Nat) (ht4 : t < 4) (ht : μ.1 50 45 = nI t) (hu1 : (t + 1) % 4 = u1) (hu14 : u1 < 4) (hmc : ∀ d, 2 ≤ d → z_C d mi_X7_mayClaim [.ref 50, .int (nI s)] (z_ui μ 50 0 0) (zR (z_ui μ 50 0 0) (.int 1))) (hsu : decide (nI s = nI u1) = true) (hsr : ∀ d, 1 ≤ d → z_C d mi_X7_isRun [.int (nI l)] (z_ui μ 50 0 0) (zR (z_ui μ 50 0 0) (.int 1))) (hl1 : decide (nI c < nI l) = true) : z_C d mi_X7_run [.ref 50, .int (nI s), .int (nI l)] μ (fun r μ' => r = some (.int 0) ∧ μ' = z_ui μ 50 0 0) := by
  refine z_C_in (by decide) (by omega) (fun d' Z ed hc hr => ?_)
  have hH : zH mi_X7_run zt_X7_run 79 7 5 := hh_X7_run
  refine z_rcs hc hH 2 (pc' := 2) (lv' := [(0, .ref 50), (1, .int (nI s)), (2, .int (nI l))]) (st' := [.int 0, .ref 50]) (μ' := μ) (by rfl) ?_
  refine zq_pfi hc hH (by rfl) (ci := 6) (f := 0) (by rfl) (by decide +kernel) (by rfl) ?_
  show Z 0 5 [(0, .ref 50), (1, .int (nI s)), (2, .int (nI l))] [] (z_ui μ 50 0 0)
  refine z_rcs hc hH 2 (pc' := 7) (lv' := [(0, .ref 50), (1, .int (nI s)), (2, .int (nI l))]) (st' := [.int (nI s), .ref 50]) (μ' := z_ui μ 50 0 0) (by rfl) ?_
  refine zq_call hc (z_cx_ok hH (by rfl)) (hmc d' (by omega)) (by decide +kernel) (fun r9 μ9 hq => ?_)
  obtain ⟨hμ9, rfl⟩ := hq
  rw [hμ9]
  clear hμ9 μ9
  show Z 0 10 [(0, .ref 50), (1, .int (nI s)), (2, .int (nI l))] [.int 1] (z_ui μ 50 0 0)
  refine z_rcs hc hH 3 (pc' := 15) (lv' := [(0, .ref 50), (1, .int (nI s)), (2, .int (nI l))]) (st' := [.ref 50, .int (nI s)]) (μ' := z_ui μ 50 0 0) (by rfl) ?_
  refine zq_gfi hc hH (by rfl) (ci := 6) (f := 45) (by rfl) (by decide +kernel) (by rfl) ?_
  refine zV1 (Z := Z) (ui_k (by first | decide | omega)) ?_
  rw [ht]
  refine z_rcs hc hH 2 (pc' := 20) (lv' := [(0, .ref 50), (1, .int (nI s)), (2, .int (nI l))]) (st' := [.int ((nI t) + 1), .int (nI s)]) (μ' := z_ui μ 50 0 0) (by rfl) ?_
  rw [nI_s1]
  refine z_rcs hc hH 2 (pc' := 22) (lv' := [(0, .ref 50), (1, .int (nI s)), (2, .int (nI l))]) (st' := [.int ((nI (t + 1)) - (nI (t + 1)) / 4 * 4), .int (nI s)]) (μ' := z_ui μ 50 0 0) (by rfl) ?_
  rw [show nI (t + 1) - nI (t + 1) / 4 * 4 = nI u1 from by rw [rm4 _ (by omega), hu1]]
  refine zq_ic hc hH (by rfl) (tg := 50) (by rfl) (fun h1 => ?_) (fun h1 => ?_)
  · have h1 : (decide ((nI s) = (nI u1))) = false := decide_eq_false (cm_ne.mp h1)
    exact absurd (Eq.trans (Eq.symm (hsu)) h1) (by decide)
  · have h1 : (decide ((nI s) = (nI u1))) = true := decide_eq_true (cn_ne.mp h1)
    refine z_rcs hc hH 1 (pc' := 26) (lv' := [(0, .ref 50), (1, .int (nI s)), (2, .int (nI l))]) (st' := [.int (nI l)]) (μ' := z_ui μ 50 0 0) (by rfl) ?_
    refine zq_call hc (z_cx_ok hH (by rfl)) (hsr d' (by omega)) (by decide +kernel) (fun r9 μ9 hq => ?_)
    obtain ⟨hμ9, rfl⟩ := hq
    rw [hμ9]
    clear hμ9 μ9
    show Z 0 29 [(0, .ref 50), (1, .int (nI s)), (2, .int (nI l))] [.int 1] (z_ui μ 50 0 0)
    refine z_rcs hc hH 2 (pc' := 33) (lv' := [(0, .ref 50), (1, .int (nI s)), (2, .int (nI l))]) (st' := [.ref 50]) (μ' := z_ui μ 50 0 0) (by rfl) ?_
    refine zq_gfi hc hH (by rfl) (ci := 6) (f := 49) (by rfl) (by decide +kernel) (by rfl) ?_
    refine zV1 (Z := Z) (ui_k (by first | decide | omega)) ?_
    rw [hc49]
    refine z_rcs hc hH 1 (pc' := 37) (lv' := [(0, .ref 50), (1, .int (nI s)), (2, .int (nI l))]) (st' := [.int (nI l), .int (nI c)]) (μ' := z_ui μ 50 0 0) (by rfl) ?_
    refine zq_ic hc hH (by rfl) (tg := 50) (by rfl) (fun h2 => ?_) (fun h2 => ?_)
    · have h2 : (decide ((nI c) < (nI l))) = true := decide_eq_true (cm_lt.mp h2)
      refine z_rcs hc hH 1 (pc' := 51) (lv' := [(0, .ref 50), (1, .int (nI s)), (2, .int (nI l))]) (st' := [.int 0]) (μ' := z_ui μ 50 0 0) (by rfl) ?_
      exact hr 0 51 _ _ _ (some (.int 0)) (by decide +kernel) (z_rx_ok hH (by rfl)) (⟨rfl, rfl⟩)
    · have h2 : (decide ((nI c) < (nI l))) = false := decide_eq_false (cn_lt.mp h2)
      exact absurd (Eq.trans (Eq.symm (hl1)) h2) (by decide)
theorem mr_runG (d : Nat) (hd : 4 ≤ d) (μ : zM) (s l c : Nat) (hs4 : s < 4) (hl : l + 2 ≤ 33) (hc49 : μ.1 50 49 = nI c) (t u1 : Nat) (ht4 : t < 4) (ht : μ.1 50 45 = nI t) (hu1 : (t + 1) % 4 = u1) (hu14 : u1 < 4) (hmc : ∀ d, 2 ≤ d → z_C d mi_X7_mayClaim [.ref 50, .int (nI s)] (z_ui μ 50 0 0) (zR (z_ui μ 50 0 0) (.int 1))) (hsu : decide (nI s = nI u1) = true) (hsr : ∀ d, 1 ≤ d → z_C d mi_X7_isRun [.int (nI l)] (z_ui μ 50 0 0) (zR (z_ui μ 50 0 0) (.int 1))) (hl1 : decide (nI c < nI l) = false) (hl2 : decide (nI c ≤ nI (l + 2)) = false) : z_C d mi_X7_run [.ref 50, .int (nI s), .int (nI l)] μ (fun r μ' => r = some (.int 0) ∧ μ' = z_ui μ 50 0 0) := by
  refine z_C_in (by decide) (by omega) (fun d' Z ed hc hr => ?_)
  have hH : zH mi_X7_run zt_X7_run 79 7 5 := hh_X7_run
  refine z_rcs hc hH 2 (pc' := 2) (lv' := [(0, .ref 50), (1, .int (nI s)), (2, .int (nI l))]) (st' := [.int 0, .ref 50]) (μ' := μ) (by rfl) ?_
  refine zq_pfi hc hH (by rfl) (ci := 6) (f := 0) (by rfl) (by decide +kernel) (by rfl) ?_
  show Z 0 5 [(0, .ref 50), (1, .int (nI s)), (2, .int (nI l))] [] (z_ui μ 50 0 0)
  refine z_rcs hc hH 2 (pc' := 7) (lv' := [(0, .ref 50), (1, .int (nI s)), (2, .int (nI l))]) (st' := [.int (nI s), .ref 50]) (μ' := z_ui μ 50 0 0) (by rfl) ?_
  refine zq_call hc (z_cx_ok hH (by rfl)) (hmc d' (by omega)) (by decide +kernel) (fun r9 μ9 hq => ?_)
  obtain ⟨hμ9, rfl⟩ := hq
  rw [hμ9]
  clear hμ9 μ9
  show Z 0 10 [(0, .ref 50), (1, .int (nI s)), (2, .int (nI l))] [.int 1] (z_ui μ 50 0 0)
  refine z_rcs hc hH 3 (pc' := 15) (lv' := [(0, .ref 50), (1, .int (nI s)), (2, .int (nI l))]) (st' := [.ref 50, .int (nI s)]) (μ' := z_ui μ 50 0 0) (by rfl) ?_
  refine zq_gfi hc hH (by rfl) (ci := 6) (f := 45) (by rfl) (by decide +kernel) (by rfl) ?_
  refine zV1 (Z := Z) (ui_k (by first | decide | omega)) ?_
  rw [ht]
  refine z_rcs hc hH 2 (pc' := 20) (lv' := [(0, .ref 50), (1, .int (nI s)), (2, .int (nI l))]) (st' := [.int ((nI t) + 1), .int (nI s)]) (μ' := z_ui μ 50 0 0) (by rfl) ?_
  rw [nI_s1]
  refine z_rcs hc hH 2 (pc' := 22) (lv' := [(0, .ref 50), (1, .int (nI s)), (2, .int (nI l))]) (st' := [.int ((nI (t + 1)) - (nI (t + 1)) / 4 * 4), .int (nI s)]) (μ' := z_ui μ 50 0 0) (by rfl) ?_
  rw [show nI (t + 1) - nI (t + 1) / 4 * 4 = nI u1 from by rw [rm4 _ (by omega), hu1]]
  refine zq_ic hc hH (by rfl) (tg := 50) (by rfl) (fun h1 => ?_) (fun h1 => ?_)
  · have h1 : (decide ((nI s) = (nI u1))) = false := decide_eq_false (cm_ne.mp h1)
    exact absurd (Eq.trans (Eq.symm (hsu)) h1) (by decide)
  · have h1 : (decide ((nI s) = (nI u1))) = true := decide_eq_true (cn_ne.mp h1)
    refine z_rcs hc hH 1 (pc' := 26) (lv' := [(0, .ref 50), (1, .int (nI s)), (2, .int (nI l))]) (st' := [.int (nI l)]) (μ' := z_ui μ 50 0 0) (by rfl) ?_
    refine zq_call hc (z_cx_ok hH (by rfl)) (hsr d' (by omega)) (by decide +kernel) (fun r9 μ9 hq => ?_)
    obtain ⟨hμ9, rfl⟩ := hq
    rw [hμ9]
    clear hμ9 μ9
    show Z 0 29 [(0, .ref 50), (1, .int (nI s)), (2, .int (nI l))] [.int 1] (z_ui μ 50 0 0)
    refine z_rcs hc hH 2 (pc' := 33) (lv' := [(0, .ref 50), (1, .int (nI s)), (2, .int (nI l))]) (st' := [.ref 50]) (μ' := z_ui μ 50 0 0) (by rfl) ?_
    refine zq_gfi hc hH (by rfl) (ci := 6) (f := 49) (by rfl) (by decide +kernel) (by rfl) ?_
    refine zV1 (Z := Z) (ui_k (by first | decide | omega)) ?_
    rw [hc49]
    refine z_rcs hc hH 1 (pc' := 37) (lv' := [(0, .ref 50), (1, .int (nI s)), (2, .int (nI l))]) (st' := [.int (nI l), .int (nI c)]) (μ' := z_ui μ 50 0 0) (by rfl) ?_
    refine zq_ic hc hH (by rfl) (tg := 50) (by rfl) (fun h2 => ?_) (fun h2 => ?_)
    · have h2 : (decide ((nI c) < (nI l))) = true := decide_eq_true (cm_lt.mp h2)
      exact absurd (Eq.trans (Eq.symm (hl1)) h2) (by decide)
    · have h2 : (decide ((nI c) < (nI l))) = false := decide_eq_false (cn_lt.mp h2)
      refine z_rcs hc hH 1 (pc' := 41) (lv' := [(0, .ref 50), (1, .int (nI s)), (2, .int (nI l))]) (st' := [.ref 50]) (μ' := z_ui μ 50 0 0) (by rfl) ?_
      refine zq_gfi hc hH (by rfl) (ci := 6) (f := 49) (by rfl) (by decide +kernel) (by rfl) ?_
      refine zV1 (Z := Z) (ui_k (by first | decide | omega)) ?_
      rw [hc49]
      refine z_rcs hc hH 3 (pc' := 47) (lv' := [(0, .ref 50), (1, .int (nI s)), (2, .int (nI l))]) (st' := [.int ((nI l) + 2), .int (nI c)]) (μ' := z_ui μ 50 0 0) (by rfl) ?_
      rw [show nI l + 2 = nI (l + 2) from nI_add l 2]
      refine zq_ic hc hH (by rfl) (tg := 52) (by rfl) (fun h3 => ?_) (fun h3 => ?_)
      · have h3 : (decide ((nI c) ≤ (nI (l + 2)))) = true := decide_eq_true (cm_le.mp h3)
        exact absurd (Eq.trans (Eq.symm (hl2)) h3) (by decide)
      · have h3 : (decide ((nI c) ≤ (nI (l + 2)))) = false := decide_eq_false (cn_le.mp h3)
        refine z_rcs hc hH 1 (pc' := 51) (lv' := [(0, .ref 50), (1, .int (nI s)), (2, .int (nI l))]) (st' := [.int 0]) (μ' := z_ui μ 50 0 0) (by rfl) ?_
        exact hr 0 51 _ _ _ (some (.int 0)) (by decide +kernel) (z_rx_ok hH (by rfl)) (⟨rfl, rfl⟩)
theorem mr_runA0 (d : Nat) (hd : 4 ≤ d) (μ : zM) (s l : Nat) (hs4 : s < 4) (hl : l + 2 ≤ 33) (hc49 : μ.1 50 49 = nI l) (t u1 : Nat) (ht4 : t < 4) (ht : μ.1 50 45 = nI t) (hu1 : (t + 1) % 4 = u1) (hu14 : u1 < 4) (hmc : ∀ d, 2 ≤ d → z_C d mi_X7_mayClaim [.ref 50, .int (nI s)] (z_ui μ 50 0 0) (zR (z_ui μ 50 0 0) (.int 1))) (hsu : decide (nI s = nI u1) = true) (hsr : ∀ d, 1 ≤ d → z_C d mi_X7_isRun [.int (nI l)] (z_ui μ 50 0 0) (zR (z_ui μ 50 0 0) (.int 1))) (hz1 : decide (μ.1 60 (34 * s + (l + 1)) = 0) = true) : z_C d mi_X7_run [.ref 50, .int (nI s), .int (nI l)] μ (fun r μ' => r = some (.int 0) ∧ μ' = z_ui μ 50 0 0) := by
  refine z_C_in (by decide) (by omega) (fun d' Z ed hc hr => ?_)
  have hH : zH mi_X7_run zt_X7_run 79 7 5 := hh_X7_run
  refine z_rcs hc hH 2 (pc' := 2) (lv' := [(0, .ref 50), (1, .int (nI s)), (2, .int (nI l))]) (st' := [.int 0, .ref 50]) (μ' := μ) (by rfl) ?_
  refine zq_pfi hc hH (by rfl) (ci := 6) (f := 0) (by rfl) (by decide +kernel) (by rfl) ?_
  show Z 0 5 [(0, .ref 50), (1, .int (nI s)), (2, .int (nI l))] [] (z_ui μ 50 0 0)
  refine z_rcs hc hH 2 (pc' := 7) (lv' := [(0, .ref 50), (1, .int (nI s)), (2, .int (nI l))]) (st' := [.int (nI s), .ref 50]) (μ' := z_ui μ 50 0 0) (by rfl) ?_
  refine zq_call hc (z_cx_ok hH (by rfl)) (hmc d' (by omega)) (by decide +kernel) (fun r9 μ9 hq => ?_)
  obtain ⟨hμ9, rfl⟩ := hq
  rw [hμ9]
  clear hμ9 μ9
  show Z 0 10 [(0, .ref 50), (1, .int (nI s)), (2, .int (nI l))] [.int 1] (z_ui μ 50 0 0)
  refine z_rcs hc hH 3 (pc' := 15) (lv' := [(0, .ref 50), (1, .int (nI s)), (2, .int (nI l))]) (st' := [.ref 50, .int (nI s)]) (μ' := z_ui μ 50 0 0) (by rfl) ?_
  refine zq_gfi hc hH (by rfl) (ci := 6) (f := 45) (by rfl) (by decide +kernel) (by rfl) ?_
  refine zV1 (Z := Z) (ui_k (by first | decide | omega)) ?_
  rw [ht]
  refine z_rcs hc hH 2 (pc' := 20) (lv' := [(0, .ref 50), (1, .int (nI s)), (2, .int (nI l))]) (st' := [.int ((nI t) + 1), .int (nI s)]) (μ' := z_ui μ 50 0 0) (by rfl) ?_
  rw [nI_s1]
  refine z_rcs hc hH 2 (pc' := 22) (lv' := [(0, .ref 50), (1, .int (nI s)), (2, .int (nI l))]) (st' := [.int ((nI (t + 1)) - (nI (t + 1)) / 4 * 4), .int (nI s)]) (μ' := z_ui μ 50 0 0) (by rfl) ?_
  rw [show nI (t + 1) - nI (t + 1) / 4 * 4 = nI u1 from by rw [rm4 _ (by omega), hu1]]
  refine zq_ic hc hH (by rfl) (tg := 50) (by rfl) (fun h1 => ?_) (fun h1 => ?_)
  · have h1 : (decide ((nI s) = (nI u1))) = false := decide_eq_false (cm_ne.mp h1)
    exact absurd (Eq.trans (Eq.symm (hsu)) h1) (by decide)
  · have h1 : (decide ((nI s) = (nI u1))) = true := decide_eq_true (cn_ne.mp h1)
    refine z_rcs hc hH 1 (pc' := 26) (lv' := [(0, .ref 50), (1, .int (nI s)), (2, .int (nI l))]) (st' := [.int (nI l)]) (μ' := z_ui μ 50 0 0) (by rfl) ?_
    refine zq_call hc (z_cx_ok hH (by rfl)) (hsr d' (by omega)) (by decide +kernel) (fun r9 μ9 hq => ?_)
    obtain ⟨hμ9, rfl⟩ := hq
    rw [hμ9]
    clear hμ9 μ9
    show Z 0 29 [(0, .ref 50), (1, .int (nI s)), (2, .int (nI l))] [.int 1] (z_ui μ 50 0 0)
    refine z_rcs hc hH 2 (pc' := 33) (lv' := [(0, .ref 50), (1, .int (nI s)), (2, .int (nI l))]) (st' := [.ref 50]) (μ' := z_ui μ 50 0 0) (by rfl) ?_
    refine zq_gfi hc hH (by rfl) (ci := 6) (f := 49) (by rfl) (by decide +kernel) (by rfl) ?_
    refine zV1 (Z := Z) (ui_k (by first | decide | omega)) ?_
    rw [hc49]
    refine z_rcs hc hH 1 (pc' := 37) (lv' := [(0, .ref 50), (1, .int (nI s)), (2, .int (nI l))]) (st' := [.int (nI l), .int (nI l)]) (μ' := z_ui μ 50 0 0) (by rfl) ?_
    refine zq_ic hc hH (by rfl) (tg := 50) (by rfl) (fun h2 => ?_) (fun h2 => ?_)
    · have h2 : (decide ((nI l) < (nI l))) = true := decide_eq_true (cm_lt.mp h2)
      exact absurd (Eq.trans (Eq.symm (kn_nlg (by omega) (by omega) (by omega))) h2) (by decide)
    · have h2 : (decide ((nI l) < (nI l))) = false := decide_eq_false (cn_lt.mp h2)
      refine z_rcs hc hH 1 (pc' := 41) (lv' := [(0, .ref 50), (1, .int (nI s)), (2, .int (nI l))]) (st' := [.ref 50]) (μ' := z_ui μ 50 0 0) (by rfl) ?_
      refine zq_gfi hc hH (by rfl) (ci := 6) (f := 49) (by rfl) (by decide +kernel) (by rfl) ?_
      refine zV1 (Z := Z) (ui_k (by first | decide | omega)) ?_
      rw [hc49]
      refine z_rcs hc hH 3 (pc' := 47) (lv' := [(0, .ref 50), (1, .int (nI s)), (2, .int (nI l))]) (st' := [.int ((nI l) + 2), .int (nI l)]) (μ' := z_ui μ 50 0 0) (by rfl) ?_
      rw [show nI l + 2 = nI (l + 2) from nI_add l 2]
      refine zq_ic hc hH (by rfl) (tg := 52) (by rfl) (fun h3 => ?_) (fun h3 => ?_)
      · have h3 : (decide ((nI l) ≤ (nI (l + 2)))) = true := decide_eq_true (cm_le.mp h3)
        refine z_rcs hc hH 6 (pc' := 58) (lv' := [(3, .int (nI l)), (0, .ref 50), (1, .int (nI s)), (2, .int (nI l))]) (st' := [.int ((nI l) + 3), .int (nI l)]) (μ' := z_ui μ 50 0 0) (by rfl) ?_
        rw [show nI l + 3 = nI (l + 3) from nI_add l 3]
        refine zq_ic hc hH (by rfl) (tg := 86) (by rfl) (fun h4 => ?_) (fun h4 => ?_)
        · have h4 : (decide ((nI (l + 3)) ≤ (nI l))) = true := decide_eq_true (cm_ge.mp h4)
          exact absurd (Eq.trans (Eq.symm (kn_nlf (by omega) (by omega) (by omega))) h4) (by decide)
        · have h4 : (decide ((nI (l + 3)) ≤ (nI l))) = false := decide_eq_false (cn_ge.mp h4)
          refine z_rcs hc hH 2 (pc' := 63) (lv' := [(3, .int (nI l)), (0, .ref 50), (1, .int (nI s)), (2, .int (nI l))]) (st' := [.ref 50, .int (nI l)]) (μ' := z_ui μ 50 0 0) (by rfl) ?_
          refine zq_gfi hc hH (by rfl) (ci := 6) (f := 49) (by rfl) (by decide +kernel) (by rfl) ?_
          refine zV1 (Z := Z) (ui_k (by first | decide | omega)) ?_
          rw [hc49]
          refine zq_ic hc hH (by rfl) (tg := 80) (by rfl) (fun h5 => ?_) (fun h5 => ?_)
          · have h5 : (decide ((nI l) = (nI l))) = true := decide_eq_true (cm_eq9.mp h5)
            refine z_rcs hc hH 3 (pc' := 55) (lv' := [(3, .int ((nI l) + 1)), (0, .ref 50), (1, .int (nI s)), (2, .int (nI l))]) (st' := [.int ((nI l) + 1)]) (μ' := z_ui μ 50 0 0) (by rfl) ?_
            rw [nI_s1]
            refine z_rcs hc hH 3 (pc' := 58) (lv' := [(3, .int (nI (l + 1))), (0, .ref 50), (1, .int (nI s)), (2, .int (nI l))]) (st' := [.int ((nI l) + 3), .int (nI (l + 1))]) (μ' := z_ui μ 50 0 0) (by rfl) ?_
            rw [show nI l + 3 = nI (l + 3) from nI_add l 3]
            refine zq_ic hc hH (by rfl) (tg := 86) (by rfl) (fun h6 => ?_) (fun h6 => ?_)
            · have h6 : (decide ((nI (l + 3)) ≤ (nI (l + 1)))) = true := decide_eq_true (cm_ge.mp h6)
              exact absurd (Eq.trans (Eq.symm (kn_nlf (by omega) (by omega) (by omega))) h6) (by decide)
            · have h6 : (decide ((nI (l + 3)) ≤ (nI (l + 1)))) = false := decide_eq_false (cn_ge.mp h6)
              refine z_rcs hc hH 2 (pc' := 63) (lv' := [(3, .int (nI (l + 1))), (0, .ref 50), (1, .int (nI s)), (2, .int (nI l))]) (st' := [.ref 50, .int (nI (l + 1))]) (μ' := z_ui μ 50 0 0) (by rfl) ?_
              refine zq_gfi hc hH (by rfl) (ci := 6) (f := 49) (by rfl) (by decide +kernel) (by rfl) ?_
              refine zV1 (Z := Z) (ui_k (by first | decide | omega)) ?_
              rw [hc49]
              refine zq_ic hc hH (by rfl) (tg := 80) (by rfl) (fun h7 => ?_) (fun h7 => ?_)
              · have h7 : (decide ((nI (l + 1)) = (nI l))) = true := decide_eq_true (cm_eq9.mp h7)
                exact absurd (Eq.trans (Eq.symm (kn_ne (by omega) (by omega) (by omega))) h7) (by decide)
              · have h7 : (decide ((nI (l + 1)) = (nI l))) = false := decide_eq_false (cn_eq.mp h7)
                refine z_rcs hc hH 3 (pc' := 72) (lv' := [(3, .int (nI (l + 1))), (0, .ref 50), (1, .int (nI s)), (2, .int (nI l))]) (st' := [.int (nI (l + 1)), .int (nI s), .ref 50]) (μ' := z_ui μ 50 0 0) (by rfl) ?_
                refine zq_call hc (z_cx_ok hH (by rfl)) (fc_X7_has_ d' (by omega) (z_ui μ 50 0 0) s (l + 1) hs4 (by omega)) (by decide +kernel) (fun r9 μ9 hq => ?_)
                obtain ⟨hμ9, rfl⟩ := hq
                rw [hμ9]
                clear hμ9 μ9
                rw [ui_o (by first | decide | omega)]
                show Z 0 75 [(3, .int (nI (l + 1))), (0, .ref 50), (1, .int (nI s)), (2, .int (nI l))] [.int (μ.1 60 (34 * s + (l + 1)))] (z_ui μ 50 0 0)
                refine zq_if hc hH (by rfl) (tg := 80) (by rfl) (fun h8 => ?_) (fun h8 => ?_)
                · have h8 : (decide ((μ.1 60 (34 * s + (l + 1))) = 0)) = false := decide_eq_false (cm_ne.mp h8)
                  exact absurd (Eq.trans (Eq.symm (hz1)) h8) (by decide)
                · have h8 : (decide ((μ.1 60 (34 * s + (l + 1))) = 0)) = true := decide_eq_true (cn_ne.mp h8)
                  refine z_rcs hc hH 1 (pc' := 79) (lv' := [(3, .int (nI (l + 1))), (0, .ref 50), (1, .int (nI s)), (2, .int (nI l))]) (st' := [.int 0]) (μ' := z_ui μ 50 0 0) (by rfl) ?_
                  exact hr 0 79 _ _ _ (some (.int 0)) (by decide +kernel) (z_rx_ok hH (by rfl)) (⟨rfl, rfl⟩)
          · have h5 : (decide ((nI l) = (nI l))) = false := decide_eq_false (cn_eq.mp h5)
            exact absurd (Eq.trans (Eq.symm (kn_eq rfl)) h5) (by decide)
      · have h3 : (decide ((nI l) ≤ (nI (l + 2)))) = false := decide_eq_false (cn_le.mp h3)
        exact absurd (Eq.trans (Eq.symm (kn_nle (by omega) (by omega) (by omega))) h3) (by decide)
theorem mr_runB0 (d : Nat) (hd : 4 ≤ d) (μ : zM) (s l : Nat) (hs4 : s < 4) (hl : l + 2 ≤ 33) (hc49 : μ.1 50 49 = nI l) (t u1 : Nat) (ht4 : t < 4) (ht : μ.1 50 45 = nI t) (hu1 : (t + 1) % 4 = u1) (hu14 : u1 < 4) (hmc : ∀ d, 2 ≤ d → z_C d mi_X7_mayClaim [.ref 50, .int (nI s)] (z_ui μ 50 0 0) (zR (z_ui μ 50 0 0) (.int 1))) (hsu : decide (nI s = nI u1) = true) (hsr : ∀ d, 1 ≤ d → z_C d mi_X7_isRun [.int (nI l)] (z_ui μ 50 0 0) (zR (z_ui μ 50 0 0) (.int 1))) (hz1 : decide (μ.1 60 (34 * s + (l + 1)) = 0) = false) (hz2 : decide (μ.1 60 (34 * s + (l + 2)) = 0) = true) : z_C d mi_X7_run [.ref 50, .int (nI s), .int (nI l)] μ (fun r μ' => r = some (.int 0) ∧ μ' = z_ui μ 50 0 0) := by
  refine z_C_in (by decide) (by omega) (fun d' Z ed hc hr => ?_)
  have hH : zH mi_X7_run zt_X7_run 79 7 5 := hh_X7_run
  refine z_rcs hc hH 2 (pc' := 2) (lv' := [(0, .ref 50), (1, .int (nI s)), (2, .int (nI l))]) (st' := [.int 0, .ref 50]) (μ' := μ) (by rfl) ?_
  refine zq_pfi hc hH (by rfl) (ci := 6) (f := 0) (by rfl) (by decide +kernel) (by rfl) ?_
  show Z 0 5 [(0, .ref 50), (1, .int (nI s)), (2, .int (nI l))] [] (z_ui μ 50 0 0)
  refine z_rcs hc hH 2 (pc' := 7) (lv' := [(0, .ref 50), (1, .int (nI s)), (2, .int (nI l))]) (st' := [.int (nI s), .ref 50]) (μ' := z_ui μ 50 0 0) (by rfl) ?_
  refine zq_call hc (z_cx_ok hH (by rfl)) (hmc d' (by omega)) (by decide +kernel) (fun r9 μ9 hq => ?_)
  obtain ⟨hμ9, rfl⟩ := hq
  rw [hμ9]
  clear hμ9 μ9
  show Z 0 10 [(0, .ref 50), (1, .int (nI s)), (2, .int (nI l))] [.int 1] (z_ui μ 50 0 0)
  refine z_rcs hc hH 3 (pc' := 15) (lv' := [(0, .ref 50), (1, .int (nI s)), (2, .int (nI l))]) (st' := [.ref 50, .int (nI s)]) (μ' := z_ui μ 50 0 0) (by rfl) ?_
  refine zq_gfi hc hH (by rfl) (ci := 6) (f := 45) (by rfl) (by decide +kernel) (by rfl) ?_
  refine zV1 (Z := Z) (ui_k (by first | decide | omega)) ?_
  rw [ht]
  refine z_rcs hc hH 2 (pc' := 20) (lv' := [(0, .ref 50), (1, .int (nI s)), (2, .int (nI l))]) (st' := [.int ((nI t) + 1), .int (nI s)]) (μ' := z_ui μ 50 0 0) (by rfl) ?_
  rw [nI_s1]
  refine z_rcs hc hH 2 (pc' := 22) (lv' := [(0, .ref 50), (1, .int (nI s)), (2, .int (nI l))]) (st' := [.int ((nI (t + 1)) - (nI (t + 1)) / 4 * 4), .int (nI s)]) (μ' := z_ui μ 50 0 0) (by rfl) ?_
  rw [show nI (t + 1) - nI (t + 1) / 4 * 4 = nI u1 from by rw [rm4 _ (by omega), hu1]]
  refine zq_ic hc hH (by rfl) (tg := 50) (by rfl) (fun h1 => ?_) (fun h1 => ?_)
  · have h1 : (decide ((nI s) = (nI u1))) = false := decide_eq_false (cm_ne.mp h1)
    exact absurd (Eq.trans (Eq.symm (hsu)) h1) (by decide)
  · have h1 : (decide ((nI s) = (nI u1))) = true := decide_eq_true (cn_ne.mp h1)
    refine z_rcs hc hH 1 (pc' := 26) (lv' := [(0, .ref 50), (1, .int (nI s)), (2, .int (nI l))]) (st' := [.int (nI l)]) (μ' := z_ui μ 50 0 0) (by rfl) ?_
    refine zq_call hc (z_cx_ok hH (by rfl)) (hsr d' (by omega)) (by decide +kernel) (fun r9 μ9 hq => ?_)
    obtain ⟨hμ9, rfl⟩ := hq
    rw [hμ9]
    clear hμ9 μ9
    show Z 0 29 [(0, .ref 50), (1, .int (nI s)), (2, .int (nI l))] [.int 1] (z_ui μ 50 0 0)
    refine z_rcs hc hH 2 (pc' := 33) (lv' := [(0, .ref 50), (1, .int (nI s)), (2, .int (nI l))]) (st' := [.ref 50]) (μ' := z_ui μ 50 0 0) (by rfl) ?_
    refine zq_gfi hc hH (by rfl) (ci := 6) (f := 49) (by rfl) (by decide +kernel) (by rfl) ?_
    refine zV1 (Z := Z) (ui_k (by first | decide | omega)) ?_
    rw [hc49]
    refine z_rcs hc hH 1 (pc' := 37) (lv' := [(0, .ref 50), (1, .int (nI s)), (2, .int (nI l))]) (st' := [.int (nI l), .int (nI l)]) (μ' := z_ui μ 50 0 0) (by rfl) ?_
    refine zq_ic hc hH (by rfl) (tg := 50) (by rfl) (fun h2 => ?_) (fun h2 => ?_)
    · have h2 : (decide ((nI l) < (nI l))) = true := decide_eq_true (cm_lt.mp h2)
      exact absurd (Eq.trans (Eq.symm (kn_nlg (by omega) (by omega) (by omega))) h2) (by decide)
    · have h2 : (decide ((nI l) < (nI l))) = false := decide_eq_false (cn_lt.mp h2)
      refine z_rcs hc hH 1 (pc' := 41) (lv' := [(0, .ref 50), (1, .int (nI s)), (2, .int (nI l))]) (st' := [.ref 50]) (μ' := z_ui μ 50 0 0) (by rfl) ?_
      refine zq_gfi hc hH (by rfl) (ci := 6) (f := 49) (by rfl) (by decide +kernel) (by rfl) ?_
      refine zV1 (Z := Z) (ui_k (by first | decide | omega)) ?_
      rw [hc49]
      refine z_rcs hc hH 3 (pc' := 47) (lv' := [(0, .ref 50), (1, .int (nI s)), (2, .int (nI l))]) (st' := [.int ((nI l) + 2), .int (nI l)]) (μ' := z_ui μ 50 0 0) (by rfl) ?_
      rw [show nI l + 2 = nI (l + 2) from nI_add l 2]
      refine zq_ic hc hH (by rfl) (tg := 52) (by rfl) (fun h3 => ?_) (fun h3 => ?_)
      · have h3 : (decide ((nI l) ≤ (nI (l + 2)))) = true := decide_eq_true (cm_le.mp h3)
        refine z_rcs hc hH 6 (pc' := 58) (lv' := [(3, .int (nI l)), (0, .ref 50), (1, .int (nI s)), (2, .int (nI l))]) (st' := [.int ((nI l) + 3), .int (nI l)]) (μ' := z_ui μ 50 0 0) (by rfl) ?_
        rw [show nI l + 3 = nI (l + 3) from nI_add l 3]
        refine zq_ic hc hH (by rfl) (tg := 86) (by rfl) (fun h4 => ?_) (fun h4 => ?_)
        · have h4 : (decide ((nI (l + 3)) ≤ (nI l))) = true := decide_eq_true (cm_ge.mp h4)
          exact absurd (Eq.trans (Eq.symm (kn_nlf (by omega) (by omega) (by omega))) h4) (by decide)
        · have h4 : (decide ((nI (l + 3)) ≤ (nI l))) = false := decide_eq_false (cn_ge.mp h4)
          refine z_rcs hc hH 2 (pc' := 63) (lv' := [(3, .int (nI l)), (0, .ref 50), (1, .int (nI s)), (2, .int (nI l))]) (st' := [.ref 50, .int (nI l)]) (μ' := z_ui μ 50 0 0) (by rfl) ?_
          refine zq_gfi hc hH (by rfl) (ci := 6) (f := 49) (by rfl) (by decide +kernel) (by rfl) ?_
          refine zV1 (Z := Z) (ui_k (by first | decide | omega)) ?_
          rw [hc49]
          refine zq_ic hc hH (by rfl) (tg := 80) (by rfl) (fun h5 => ?_) (fun h5 => ?_)
          · have h5 : (decide ((nI l) = (nI l))) = true := decide_eq_true (cm_eq9.mp h5)
            refine z_rcs hc hH 3 (pc' := 55) (lv' := [(3, .int ((nI l) + 1)), (0, .ref 50), (1, .int (nI s)), (2, .int (nI l))]) (st' := [.int ((nI l) + 1)]) (μ' := z_ui μ 50 0 0) (by rfl) ?_
            rw [nI_s1]
            refine z_rcs hc hH 3 (pc' := 58) (lv' := [(3, .int (nI (l + 1))), (0, .ref 50), (1, .int (nI s)), (2, .int (nI l))]) (st' := [.int ((nI l) + 3), .int (nI (l + 1))]) (μ' := z_ui μ 50 0 0) (by rfl) ?_
            rw [show nI l + 3 = nI (l + 3) from nI_add l 3]
            refine zq_ic hc hH (by rfl) (tg := 86) (by rfl) (fun h6 => ?_) (fun h6 => ?_)
            · have h6 : (decide ((nI (l + 3)) ≤ (nI (l + 1)))) = true := decide_eq_true (cm_ge.mp h6)
              exact absurd (Eq.trans (Eq.symm (kn_nlf (by omega) (by omega) (by omega))) h6) (by decide)
            · have h6 : (decide ((nI (l + 3)) ≤ (nI (l + 1)))) = false := decide_eq_false (cn_ge.mp h6)
              refine z_rcs hc hH 2 (pc' := 63) (lv' := [(3, .int (nI (l + 1))), (0, .ref 50), (1, .int (nI s)), (2, .int (nI l))]) (st' := [.ref 50, .int (nI (l + 1))]) (μ' := z_ui μ 50 0 0) (by rfl) ?_
              refine zq_gfi hc hH (by rfl) (ci := 6) (f := 49) (by rfl) (by decide +kernel) (by rfl) ?_
              refine zV1 (Z := Z) (ui_k (by first | decide | omega)) ?_
              rw [hc49]
              refine zq_ic hc hH (by rfl) (tg := 80) (by rfl) (fun h7 => ?_) (fun h7 => ?_)
              · have h7 : (decide ((nI (l + 1)) = (nI l))) = true := decide_eq_true (cm_eq9.mp h7)
                exact absurd (Eq.trans (Eq.symm (kn_ne (by omega) (by omega) (by omega))) h7) (by decide)
              · have h7 : (decide ((nI (l + 1)) = (nI l))) = false := decide_eq_false (cn_eq.mp h7)
                refine z_rcs hc hH 3 (pc' := 72) (lv' := [(3, .int (nI (l + 1))), (0, .ref 50), (1, .int (nI s)), (2, .int (nI l))]) (st' := [.int (nI (l + 1)), .int (nI s), .ref 50]) (μ' := z_ui μ 50 0 0) (by rfl) ?_
                refine zq_call hc (z_cx_ok hH (by rfl)) (fc_X7_has_ d' (by omega) (z_ui μ 50 0 0) s (l + 1) hs4 (by omega)) (by decide +kernel) (fun r9 μ9 hq => ?_)
                obtain ⟨hμ9, rfl⟩ := hq
                rw [hμ9]
                clear hμ9 μ9
                rw [ui_o (by first | decide | omega)]
                show Z 0 75 [(3, .int (nI (l + 1))), (0, .ref 50), (1, .int (nI s)), (2, .int (nI l))] [.int (μ.1 60 (34 * s + (l + 1)))] (z_ui μ 50 0 0)
                refine zq_if hc hH (by rfl) (tg := 80) (by rfl) (fun h8 => ?_) (fun h8 => ?_)
                · have h8 : (decide ((μ.1 60 (34 * s + (l + 1))) = 0)) = false := decide_eq_false (cm_ne.mp h8)
                  refine z_rcs hc hH 3 (pc' := 55) (lv' := [(3, .int ((nI (l + 1)) + 1)), (0, .ref 50), (1, .int (nI s)), (2, .int (nI l))]) (st' := [.int ((nI (l + 1)) + 1)]) (μ' := z_ui μ 50 0 0) (by rfl) ?_
                  rw [show nI (l + 1) + 1 = nI (l + 2) from nI_s1 _]
                  refine z_rcs hc hH 3 (pc' := 58) (lv' := [(3, .int (nI (l + 2))), (0, .ref 50), (1, .int (nI s)), (2, .int (nI l))]) (st' := [.int ((nI l) + 3), .int (nI (l + 2))]) (μ' := z_ui μ 50 0 0) (by rfl) ?_
                  rw [show nI l + 3 = nI (l + 3) from nI_add l 3]
                  refine zq_ic hc hH (by rfl) (tg := 86) (by rfl) (fun h9 => ?_) (fun h9 => ?_)
                  · have h9 : (decide ((nI (l + 3)) ≤ (nI (l + 2)))) = true := decide_eq_true (cm_ge.mp h9)
                    exact absurd (Eq.trans (Eq.symm (kn_nlf (by omega) (by omega) (by omega))) h9) (by decide)
                  · have h9 : (decide ((nI (l + 3)) ≤ (nI (l + 2)))) = false := decide_eq_false (cn_ge.mp h9)
                    refine z_rcs hc hH 2 (pc' := 63) (lv' := [(3, .int (nI (l + 2))), (0, .ref 50), (1, .int (nI s)), (2, .int (nI l))]) (st' := [.ref 50, .int (nI (l + 2))]) (μ' := z_ui μ 50 0 0) (by rfl) ?_
                    refine zq_gfi hc hH (by rfl) (ci := 6) (f := 49) (by rfl) (by decide +kernel) (by rfl) ?_
                    refine zV1 (Z := Z) (ui_k (by first | decide | omega)) ?_
                    rw [hc49]
                    refine zq_ic hc hH (by rfl) (tg := 80) (by rfl) (fun h10 => ?_) (fun h10 => ?_)
                    · have h10 : (decide ((nI (l + 2)) = (nI l))) = true := decide_eq_true (cm_eq9.mp h10)
                      exact absurd (Eq.trans (Eq.symm (kn_ne (by omega) (by omega) (by omega))) h10) (by decide)
                    · have h10 : (decide ((nI (l + 2)) = (nI l))) = false := decide_eq_false (cn_eq.mp h10)
                      refine z_rcs hc hH 3 (pc' := 72) (lv' := [(3, .int (nI (l + 2))), (0, .ref 50), (1, .int (nI s)), (2, .int (nI l))]) (st' := [.int (nI (l + 2)), .int (nI s), .ref 50]) (μ' := z_ui μ 50 0 0) (by rfl) ?_
                      refine zq_call hc (z_cx_ok hH (by rfl)) (fc_X7_has_ d' (by omega) (z_ui μ 50 0 0) s (l + 2) hs4 (by omega)) (by decide +kernel) (fun r9 μ9 hq => ?_)
                      obtain ⟨hμ9, rfl⟩ := hq
                      rw [hμ9]
                      clear hμ9 μ9
                      rw [ui_o (by first | decide | omega)]
                      show Z 0 75 [(3, .int (nI (l + 2))), (0, .ref 50), (1, .int (nI s)), (2, .int (nI l))] [.int (μ.1 60 (34 * s + (l + 2)))] (z_ui μ 50 0 0)
                      refine zq_if hc hH (by rfl) (tg := 80) (by rfl) (fun h11 => ?_) (fun h11 => ?_)
                      · have h11 : (decide ((μ.1 60 (34 * s + (l + 2))) = 0)) = false := decide_eq_false (cm_ne.mp h11)
                        exact absurd (Eq.trans (Eq.symm (hz2)) h11) (by decide)
                      · have h11 : (decide ((μ.1 60 (34 * s + (l + 2))) = 0)) = true := decide_eq_true (cn_ne.mp h11)
                        refine z_rcs hc hH 1 (pc' := 79) (lv' := [(3, .int (nI (l + 2))), (0, .ref 50), (1, .int (nI s)), (2, .int (nI l))]) (st' := [.int 0]) (μ' := z_ui μ 50 0 0) (by rfl) ?_
                        exact hr 0 79 _ _ _ (some (.int 0)) (by decide +kernel) (z_rx_ok hH (by rfl)) (⟨rfl, rfl⟩)
                · have h8 : (decide ((μ.1 60 (34 * s + (l + 1))) = 0)) = true := decide_eq_true (cn_ne.mp h8)
                  exact absurd (Eq.trans (Eq.symm (hz1)) h8) (by decide)
          · have h5 : (decide ((nI l) = (nI l))) = false := decide_eq_false (cn_eq.mp h5)
            exact absurd (Eq.trans (Eq.symm (kn_eq rfl)) h5) (by decide)
      · have h3 : (decide ((nI l) ≤ (nI (l + 2)))) = false := decide_eq_false (cn_le.mp h3)
        exact absurd (Eq.trans (Eq.symm (kn_nle (by omega) (by omega) (by omega))) h3) (by decide)
theorem mr_runA1 (d : Nat) (hd : 4 ≤ d) (μ : zM) (s l : Nat) (hs4 : s < 4) (hl : l + 2 ≤ 33) (hc49 : μ.1 50 49 = nI (l + 1)) (t u1 : Nat) (ht4 : t < 4) (ht : μ.1 50 45 = nI t) (hu1 : (t + 1) % 4 = u1) (hu14 : u1 < 4) (hmc : ∀ d, 2 ≤ d → z_C d mi_X7_mayClaim [.ref 50, .int (nI s)] (z_ui μ 50 0 0) (zR (z_ui μ 50 0 0) (.int 1))) (hsu : decide (nI s = nI u1) = true) (hsr : ∀ d, 1 ≤ d → z_C d mi_X7_isRun [.int (nI l)] (z_ui μ 50 0 0) (zR (z_ui μ 50 0 0) (.int 1))) (hz1 : decide (μ.1 60 (34 * s + l) = 0) = true) : z_C d mi_X7_run [.ref 50, .int (nI s), .int (nI l)] μ (fun r μ' => r = some (.int 0) ∧ μ' = z_ui μ 50 0 0) := by
  refine z_C_in (by decide) (by omega) (fun d' Z ed hc hr => ?_)
  have hH : zH mi_X7_run zt_X7_run 79 7 5 := hh_X7_run
  refine z_rcs hc hH 2 (pc' := 2) (lv' := [(0, .ref 50), (1, .int (nI s)), (2, .int (nI l))]) (st' := [.int 0, .ref 50]) (μ' := μ) (by rfl) ?_
  refine zq_pfi hc hH (by rfl) (ci := 6) (f := 0) (by rfl) (by decide +kernel) (by rfl) ?_
  show Z 0 5 [(0, .ref 50), (1, .int (nI s)), (2, .int (nI l))] [] (z_ui μ 50 0 0)
  refine z_rcs hc hH 2 (pc' := 7) (lv' := [(0, .ref 50), (1, .int (nI s)), (2, .int (nI l))]) (st' := [.int (nI s), .ref 50]) (μ' := z_ui μ 50 0 0) (by rfl) ?_
  refine zq_call hc (z_cx_ok hH (by rfl)) (hmc d' (by omega)) (by decide +kernel) (fun r9 μ9 hq => ?_)
  obtain ⟨hμ9, rfl⟩ := hq
  rw [hμ9]
  clear hμ9 μ9
  show Z 0 10 [(0, .ref 50), (1, .int (nI s)), (2, .int (nI l))] [.int 1] (z_ui μ 50 0 0)
  refine z_rcs hc hH 3 (pc' := 15) (lv' := [(0, .ref 50), (1, .int (nI s)), (2, .int (nI l))]) (st' := [.ref 50, .int (nI s)]) (μ' := z_ui μ 50 0 0) (by rfl) ?_
  refine zq_gfi hc hH (by rfl) (ci := 6) (f := 45) (by rfl) (by decide +kernel) (by rfl) ?_
  refine zV1 (Z := Z) (ui_k (by first | decide | omega)) ?_
  rw [ht]
  refine z_rcs hc hH 2 (pc' := 20) (lv' := [(0, .ref 50), (1, .int (nI s)), (2, .int (nI l))]) (st' := [.int ((nI t) + 1), .int (nI s)]) (μ' := z_ui μ 50 0 0) (by rfl) ?_
  rw [nI_s1]
  refine z_rcs hc hH 2 (pc' := 22) (lv' := [(0, .ref 50), (1, .int (nI s)), (2, .int (nI l))]) (st' := [.int ((nI (t + 1)) - (nI (t + 1)) / 4 * 4), .int (nI s)]) (μ' := z_ui μ 50 0 0) (by rfl) ?_
  rw [show nI (t + 1) - nI (t + 1) / 4 * 4 = nI u1 from by rw [rm4 _ (by omega), hu1]]
  refine zq_ic hc hH (by rfl) (tg := 50) (by rfl) (fun h1 => ?_) (fun h1 => ?_)
  · have h1 : (decide ((nI s) = (nI u1))) = false := decide_eq_false (cm_ne.mp h1)
    exact absurd (Eq.trans (Eq.symm (hsu)) h1) (by decide)
  · have h1 : (decide ((nI s) = (nI u1))) = true := decide_eq_true (cn_ne.mp h1)
    refine z_rcs hc hH 1 (pc' := 26) (lv' := [(0, .ref 50), (1, .int (nI s)), (2, .int (nI l))]) (st' := [.int (nI l)]) (μ' := z_ui μ 50 0 0) (by rfl) ?_
    refine zq_call hc (z_cx_ok hH (by rfl)) (hsr d' (by omega)) (by decide +kernel) (fun r9 μ9 hq => ?_)
    obtain ⟨hμ9, rfl⟩ := hq
    rw [hμ9]
    clear hμ9 μ9
    show Z 0 29 [(0, .ref 50), (1, .int (nI s)), (2, .int (nI l))] [.int 1] (z_ui μ 50 0 0)
    refine z_rcs hc hH 2 (pc' := 33) (lv' := [(0, .ref 50), (1, .int (nI s)), (2, .int (nI l))]) (st' := [.ref 50]) (μ' := z_ui μ 50 0 0) (by rfl) ?_
    refine zq_gfi hc hH (by rfl) (ci := 6) (f := 49) (by rfl) (by decide +kernel) (by rfl) ?_
    refine zV1 (Z := Z) (ui_k (by first | decide | omega)) ?_
    rw [hc49]
    refine z_rcs hc hH 1 (pc' := 37) (lv' := [(0, .ref 50), (1, .int (nI s)), (2, .int (nI l))]) (st' := [.int (nI l), .int (nI (l + 1))]) (μ' := z_ui μ 50 0 0) (by rfl) ?_
    refine zq_ic hc hH (by rfl) (tg := 50) (by rfl) (fun h2 => ?_) (fun h2 => ?_)
    · have h2 : (decide ((nI (l + 1)) < (nI l))) = true := decide_eq_true (cm_lt.mp h2)
      exact absurd (Eq.trans (Eq.symm (kn_nlg (by omega) (by omega) (by omega))) h2) (by decide)
    · have h2 : (decide ((nI (l + 1)) < (nI l))) = false := decide_eq_false (cn_lt.mp h2)
      refine z_rcs hc hH 1 (pc' := 41) (lv' := [(0, .ref 50), (1, .int (nI s)), (2, .int (nI l))]) (st' := [.ref 50]) (μ' := z_ui μ 50 0 0) (by rfl) ?_
      refine zq_gfi hc hH (by rfl) (ci := 6) (f := 49) (by rfl) (by decide +kernel) (by rfl) ?_
      refine zV1 (Z := Z) (ui_k (by first | decide | omega)) ?_
      rw [hc49]
      refine z_rcs hc hH 3 (pc' := 47) (lv' := [(0, .ref 50), (1, .int (nI s)), (2, .int (nI l))]) (st' := [.int ((nI l) + 2), .int (nI (l + 1))]) (μ' := z_ui μ 50 0 0) (by rfl) ?_
      rw [show nI l + 2 = nI (l + 2) from nI_add l 2]
      refine zq_ic hc hH (by rfl) (tg := 52) (by rfl) (fun h3 => ?_) (fun h3 => ?_)
      · have h3 : (decide ((nI (l + 1)) ≤ (nI (l + 2)))) = true := decide_eq_true (cm_le.mp h3)
        refine z_rcs hc hH 6 (pc' := 58) (lv' := [(3, .int (nI l)), (0, .ref 50), (1, .int (nI s)), (2, .int (nI l))]) (st' := [.int ((nI l) + 3), .int (nI l)]) (μ' := z_ui μ 50 0 0) (by rfl) ?_
        rw [show nI l + 3 = nI (l + 3) from nI_add l 3]
        refine zq_ic hc hH (by rfl) (tg := 86) (by rfl) (fun h4 => ?_) (fun h4 => ?_)
        · have h4 : (decide ((nI (l + 3)) ≤ (nI l))) = true := decide_eq_true (cm_ge.mp h4)
          exact absurd (Eq.trans (Eq.symm (kn_nlf (by omega) (by omega) (by omega))) h4) (by decide)
        · have h4 : (decide ((nI (l + 3)) ≤ (nI l))) = false := decide_eq_false (cn_ge.mp h4)
          refine z_rcs hc hH 2 (pc' := 63) (lv' := [(3, .int (nI l)), (0, .ref 50), (1, .int (nI s)), (2, .int (nI l))]) (st' := [.ref 50, .int (nI l)]) (μ' := z_ui μ 50 0 0) (by rfl) ?_
          refine zq_gfi hc hH (by rfl) (ci := 6) (f := 49) (by rfl) (by decide +kernel) (by rfl) ?_
          refine zV1 (Z := Z) (ui_k (by first | decide | omega)) ?_
          rw [hc49]
          refine zq_ic hc hH (by rfl) (tg := 80) (by rfl) (fun h5 => ?_) (fun h5 => ?_)
          · have h5 : (decide ((nI l) = (nI (l + 1)))) = true := decide_eq_true (cm_eq9.mp h5)
            exact absurd (Eq.trans (Eq.symm (kn_ne (by omega) (by omega) (by omega))) h5) (by decide)
          · have h5 : (decide ((nI l) = (nI (l + 1)))) = false := decide_eq_false (cn_eq.mp h5)
            refine z_rcs hc hH 3 (pc' := 72) (lv' := [(3, .int (nI l)), (0, .ref 50), (1, .int (nI s)), (2, .int (nI l))]) (st' := [.int (nI l), .int (nI s), .ref 50]) (μ' := z_ui μ 50 0 0) (by rfl) ?_
            refine zq_call hc (z_cx_ok hH (by rfl)) (fc_X7_has_ d' (by omega) (z_ui μ 50 0 0) s l hs4 (by omega)) (by decide +kernel) (fun r9 μ9 hq => ?_)
            obtain ⟨hμ9, rfl⟩ := hq
            rw [hμ9]
            clear hμ9 μ9
            rw [ui_o (by first | decide | omega)]
            show Z 0 75 [(3, .int (nI l)), (0, .ref 50), (1, .int (nI s)), (2, .int (nI l))] [.int (μ.1 60 (34 * s + l))] (z_ui μ 50 0 0)
            refine zq_if hc hH (by rfl) (tg := 80) (by rfl) (fun h6 => ?_) (fun h6 => ?_)
            · have h6 : (decide ((μ.1 60 (34 * s + l)) = 0)) = false := decide_eq_false (cm_ne.mp h6)
              exact absurd (Eq.trans (Eq.symm (hz1)) h6) (by decide)
            · have h6 : (decide ((μ.1 60 (34 * s + l)) = 0)) = true := decide_eq_true (cn_ne.mp h6)
              refine z_rcs hc hH 1 (pc' := 79) (lv' := [(3, .int (nI l)), (0, .ref 50), (1, .int (nI s)), (2, .int (nI l))]) (st' := [.int 0]) (μ' := z_ui μ 50 0 0) (by rfl) ?_
              exact hr 0 79 _ _ _ (some (.int 0)) (by decide +kernel) (z_rx_ok hH (by rfl)) (⟨rfl, rfl⟩)
      · have h3 : (decide ((nI (l + 1)) ≤ (nI (l + 2)))) = false := decide_eq_false (cn_le.mp h3)
        exact absurd (Eq.trans (Eq.symm (kn_nle (by omega) (by omega) (by omega))) h3) (by decide)
theorem mr_runB1 (d : Nat) (hd : 4 ≤ d) (μ : zM) (s l : Nat) (hs4 : s < 4) (hl : l + 2 ≤ 33) (hc49 : μ.1 50 49 = nI (l + 1)) (t u1 : Nat) (ht4 : t < 4) (ht : μ.1 50 45 = nI t) (hu1 : (t + 1) % 4 = u1) (hu14 : u1 < 4) (hmc : ∀ d, 2 ≤ d → z_C d mi_X7_mayClaim [.ref 50, .int (nI s)] (z_ui μ 50 0 0) (zR (z_ui μ 50 0 0) (.int 1))) (hsu : decide (nI s = nI u1) = true) (hsr : ∀ d, 1 ≤ d → z_C d mi_X7_isRun [.int (nI l)] (z_ui μ 50 0 0) (zR (z_ui μ 50 0 0) (.int 1))) (hz1 : decide (μ.1 60 (34 * s + l) = 0) = false) (hz2 : decide (μ.1 60 (34 * s + (l + 2)) = 0) = true) : z_C d mi_X7_run [.ref 50, .int (nI s), .int (nI l)] μ (fun r μ' => r = some (.int 0) ∧ μ' = z_ui μ 50 0 0) := by
  refine z_C_in (by decide) (by omega) (fun d' Z ed hc hr => ?_)
  have hH : zH mi_X7_run zt_X7_run 79 7 5 := hh_X7_run
  refine z_rcs hc hH 2 (pc' := 2) (lv' := [(0, .ref 50), (1, .int (nI s)), (2, .int (nI l))]) (st' := [.int 0, .ref 50]) (μ' := μ) (by rfl) ?_
  refine zq_pfi hc hH (by rfl) (ci := 6) (f := 0) (by rfl) (by decide +kernel) (by rfl) ?_
  show Z 0 5 [(0, .ref 50), (1, .int (nI s)), (2, .int (nI l))] [] (z_ui μ 50 0 0)
  refine z_rcs hc hH 2 (pc' := 7) (lv' := [(0, .ref 50), (1, .int (nI s)), (2, .int (nI l))]) (st' := [.int (nI s), .ref 50]) (μ' := z_ui μ 50 0 0) (by rfl) ?_
  refine zq_call hc (z_cx_ok hH (by rfl)) (hmc d' (by omega)) (by decide +kernel) (fun r9 μ9 hq => ?_)
  obtain ⟨hμ9, rfl⟩ := hq
  rw [hμ9]
  clear hμ9 μ9
  show Z 0 10 [(0, .ref 50), (1, .int (nI s)), (2, .int (nI l))] [.int 1] (z_ui μ 50 0 0)
  refine z_rcs hc hH 3 (pc' := 15) (lv' := [(0, .ref 50), (1, .int (nI s)), (2, .int (nI l))]) (st' := [.ref 50, .int (nI s)]) (μ' := z_ui μ 50 0 0) (by rfl) ?_
  refine zq_gfi hc hH (by rfl) (ci := 6) (f := 45) (by rfl) (by decide +kernel) (by rfl) ?_
  refine zV1 (Z := Z) (ui_k (by first | decide | omega)) ?_
  rw [ht]
  refine z_rcs hc hH 2 (pc' := 20) (lv' := [(0, .ref 50), (1, .int (nI s)), (2, .int (nI l))]) (st' := [.int ((nI t) + 1), .int (nI s)]) (μ' := z_ui μ 50 0 0) (by rfl) ?_
  rw [nI_s1]
  refine z_rcs hc hH 2 (pc' := 22) (lv' := [(0, .ref 50), (1, .int (nI s)), (2, .int (nI l))]) (st' := [.int ((nI (t + 1)) - (nI (t + 1)) / 4 * 4), .int (nI s)]) (μ' := z_ui μ 50 0 0) (by rfl) ?_
  rw [show nI (t + 1) - nI (t + 1) / 4 * 4 = nI u1 from by rw [rm4 _ (by omega), hu1]]
  refine zq_ic hc hH (by rfl) (tg := 50) (by rfl) (fun h1 => ?_) (fun h1 => ?_)
  · have h1 : (decide ((nI s) = (nI u1))) = false := decide_eq_false (cm_ne.mp h1)
    exact absurd (Eq.trans (Eq.symm (hsu)) h1) (by decide)
  · have h1 : (decide ((nI s) = (nI u1))) = true := decide_eq_true (cn_ne.mp h1)
    refine z_rcs hc hH 1 (pc' := 26) (lv' := [(0, .ref 50), (1, .int (nI s)), (2, .int (nI l))]) (st' := [.int (nI l)]) (μ' := z_ui μ 50 0 0) (by rfl) ?_
    refine zq_call hc (z_cx_ok hH (by rfl)) (hsr d' (by omega)) (by decide +kernel) (fun r9 μ9 hq => ?_)
    obtain ⟨hμ9, rfl⟩ := hq
    rw [hμ9]
    clear hμ9 μ9
    show Z 0 29 [(0, .ref 50), (1, .int (nI s)), (2, .int (nI l))] [.int 1] (z_ui μ 50 0 0)
    refine z_rcs hc hH 2 (pc' := 33) (lv' := [(0, .ref 50), (1, .int (nI s)), (2, .int (nI l))]) (st' := [.ref 50]) (μ' := z_ui μ 50 0 0) (by rfl) ?_
    refine zq_gfi hc hH (by rfl) (ci := 6) (f := 49) (by rfl) (by decide +kernel) (by rfl) ?_
    refine zV1 (Z := Z) (ui_k (by first | decide | omega)) ?_
    rw [hc49]
    refine z_rcs hc hH 1 (pc' := 37) (lv' := [(0, .ref 50), (1, .int (nI s)), (2, .int (nI l))]) (st' := [.int (nI l), .int (nI (l + 1))]) (μ' := z_ui μ 50 0 0) (by rfl) ?_
    refine zq_ic hc hH (by rfl) (tg := 50) (by rfl) (fun h2 => ?_) (fun h2 => ?_)
    · have h2 : (decide ((nI (l + 1)) < (nI l))) = true := decide_eq_true (cm_lt.mp h2)
      exact absurd (Eq.trans (Eq.symm (kn_nlg (by omega) (by omega) (by omega))) h2) (by decide)
    · have h2 : (decide ((nI (l + 1)) < (nI l))) = false := decide_eq_false (cn_lt.mp h2)
      refine z_rcs hc hH 1 (pc' := 41) (lv' := [(0, .ref 50), (1, .int (nI s)), (2, .int (nI l))]) (st' := [.ref 50]) (μ' := z_ui μ 50 0 0) (by rfl) ?_
      refine zq_gfi hc hH (by rfl) (ci := 6) (f := 49) (by rfl) (by decide +kernel) (by rfl) ?_
      refine zV1 (Z := Z) (ui_k (by first | decide | omega)) ?_
      rw [hc49]
      refine z_rcs hc hH 3 (pc' := 47) (lv' := [(0, .ref 50), (1, .int (nI s)), (2, .int (nI l))]) (st' := [.int ((nI l) + 2), .int (nI (l + 1))]) (μ' := z_ui μ 50 0 0) (by rfl) ?_
      rw [show nI l + 2 = nI (l + 2) from nI_add l 2]
      refine zq_ic hc hH (by rfl) (tg := 52) (by rfl) (fun h3 => ?_) (fun h3 => ?_)
      · have h3 : (decide ((nI (l + 1)) ≤ (nI (l + 2)))) = true := decide_eq_true (cm_le.mp h3)
        refine z_rcs hc hH 6 (pc' := 58) (lv' := [(3, .int (nI l)), (0, .ref 50), (1, .int (nI s)), (2, .int (nI l))]) (st' := [.int ((nI l) + 3), .int (nI l)]) (μ' := z_ui μ 50 0 0) (by rfl) ?_
        rw [show nI l + 3 = nI (l + 3) from nI_add l 3]
        refine zq_ic hc hH (by rfl) (tg := 86) (by rfl) (fun h4 => ?_) (fun h4 => ?_)
        · have h4 : (decide ((nI (l + 3)) ≤ (nI l))) = true := decide_eq_true (cm_ge.mp h4)
          exact absurd (Eq.trans (Eq.symm (kn_nlf (by omega) (by omega) (by omega))) h4) (by decide)
        · have h4 : (decide ((nI (l + 3)) ≤ (nI l))) = false := decide_eq_false (cn_ge.mp h4)
          refine z_rcs hc hH 2 (pc' := 63) (lv' := [(3, .int (nI l)), (0, .ref 50), (1, .int (nI s)), (2, .int (nI l))]) (st' := [.ref 50, .int (nI l)]) (μ' := z_ui μ 50 0 0) (by rfl) ?_
          refine zq_gfi hc hH (by rfl) (ci := 6) (f := 49) (by rfl) (by decide +kernel) (by rfl) ?_
          refine zV1 (Z := Z) (ui_k (by first | decide | omega)) ?_
          rw [hc49]
          refine zq_ic hc hH (by rfl) (tg := 80) (by rfl) (fun h5 => ?_) (fun h5 => ?_)
          · have h5 : (decide ((nI l) = (nI (l + 1)))) = true := decide_eq_true (cm_eq9.mp h5)
            exact absurd (Eq.trans (Eq.symm (kn_ne (by omega) (by omega) (by omega))) h5) (by decide)
          · have h5 : (decide ((nI l) = (nI (l + 1)))) = false := decide_eq_false (cn_eq.mp h5)
            refine z_rcs hc hH 3 (pc' := 72) (lv' := [(3, .int (nI l)), (0, .ref 50), (1, .int (nI s)), (2, .int (nI l))]) (st' := [.int (nI l), .int (nI s), .ref 50]) (μ' := z_ui μ 50 0 0) (by rfl) ?_
            refine zq_call hc (z_cx_ok hH (by rfl)) (fc_X7_has_ d' (by omega) (z_ui μ 50 0 0) s l hs4 (by omega)) (by decide +kernel) (fun r9 μ9 hq => ?_)
            obtain ⟨hμ9, rfl⟩ := hq
            rw [hμ9]
            clear hμ9 μ9
            rw [ui_o (by first | decide | omega)]
            show Z 0 75 [(3, .int (nI l)), (0, .ref 50), (1, .int (nI s)), (2, .int (nI l))] [.int (μ.1 60 (34 * s + l))] (z_ui μ 50 0 0)
            refine zq_if hc hH (by rfl) (tg := 80) (by rfl) (fun h6 => ?_) (fun h6 => ?_)
            · have h6 : (decide ((μ.1 60 (34 * s + l)) = 0)) = false := decide_eq_false (cm_ne.mp h6)
              refine z_rcs hc hH 3 (pc' := 55) (lv' := [(3, .int ((nI l) + 1)), (0, .ref 50), (1, .int (nI s)), (2, .int (nI l))]) (st' := [.int ((nI l) + 1)]) (μ' := z_ui μ 50 0 0) (by rfl) ?_
              rw [nI_s1]
              refine z_rcs hc hH 3 (pc' := 58) (lv' := [(3, .int (nI (l + 1))), (0, .ref 50), (1, .int (nI s)), (2, .int (nI l))]) (st' := [.int ((nI l) + 3), .int (nI (l + 1))]) (μ' := z_ui μ 50 0 0) (by rfl) ?_
              rw [show nI l + 3 = nI (l + 3) from nI_add l 3]
              refine zq_ic hc hH (by rfl) (tg := 86) (by rfl) (fun h7 => ?_) (fun h7 => ?_)
              · have h7 : (decide ((nI (l + 3)) ≤ (nI (l + 1)))) = true := decide_eq_true (cm_ge.mp h7)
                exact absurd (Eq.trans (Eq.symm (kn_nlf (by omega) (by omega) (by omega))) h7) (by decide)
              · have h7 : (decide ((nI (l + 3)) ≤ (nI (l + 1)))) = false := decide_eq_false (cn_ge.mp h7)
                refine z_rcs hc hH 2 (pc' := 63) (lv' := [(3, .int (nI (l + 1))), (0, .ref 50), (1, .int (nI s)), (2, .int (nI l))]) (st' := [.ref 50, .int (nI (l + 1))]) (μ' := z_ui μ 50 0 0) (by rfl) ?_
                refine zq_gfi hc hH (by rfl) (ci := 6) (f := 49) (by rfl) (by decide +kernel) (by rfl) ?_
                refine zV1 (Z := Z) (ui_k (by first | decide | omega)) ?_
                rw [hc49]
                refine zq_ic hc hH (by rfl) (tg := 80) (by rfl) (fun h8 => ?_) (fun h8 => ?_)
                · have h8 : (decide ((nI (l + 1)) = (nI (l + 1)))) = true := decide_eq_true (cm_eq9.mp h8)
                  refine z_rcs hc hH 3 (pc' := 55) (lv' := [(3, .int ((nI (l + 1)) + 1)), (0, .ref 50), (1, .int (nI s)), (2, .int (nI l))]) (st' := [.int ((nI (l + 1)) + 1)]) (μ' := z_ui μ 50 0 0) (by rfl) ?_
                  rw [show nI (l + 1) + 1 = nI (l + 2) from nI_s1 _]
                  refine z_rcs hc hH 3 (pc' := 58) (lv' := [(3, .int (nI (l + 2))), (0, .ref 50), (1, .int (nI s)), (2, .int (nI l))]) (st' := [.int ((nI l) + 3), .int (nI (l + 2))]) (μ' := z_ui μ 50 0 0) (by rfl) ?_
                  rw [show nI l + 3 = nI (l + 3) from nI_add l 3]
                  refine zq_ic hc hH (by rfl) (tg := 86) (by rfl) (fun h9 => ?_) (fun h9 => ?_)
                  · have h9 : (decide ((nI (l + 3)) ≤ (nI (l + 2)))) = true := decide_eq_true (cm_ge.mp h9)
                    exact absurd (Eq.trans (Eq.symm (kn_nlf (by omega) (by omega) (by omega))) h9) (by decide)
                  · have h9 : (decide ((nI (l + 3)) ≤ (nI (l + 2)))) = false := decide_eq_false (cn_ge.mp h9)
                    refine z_rcs hc hH 2 (pc' := 63) (lv' := [(3, .int (nI (l + 2))), (0, .ref 50), (1, .int (nI s)), (2, .int (nI l))]) (st' := [.ref 50, .int (nI (l + 2))]) (μ' := z_ui μ 50 0 0) (by rfl) ?_
                    refine zq_gfi hc hH (by rfl) (ci := 6) (f := 49) (by rfl) (by decide +kernel) (by rfl) ?_
                    refine zV1 (Z := Z) (ui_k (by first | decide | omega)) ?_
                    rw [hc49]
                    refine zq_ic hc hH (by rfl) (tg := 80) (by rfl) (fun h10 => ?_) (fun h10 => ?_)
                    · have h10 : (decide ((nI (l + 2)) = (nI (l + 1)))) = true := decide_eq_true (cm_eq9.mp h10)
                      exact absurd (Eq.trans (Eq.symm (kn_ne (by omega) (by omega) (by omega))) h10) (by decide)
                    · have h10 : (decide ((nI (l + 2)) = (nI (l + 1)))) = false := decide_eq_false (cn_eq.mp h10)
                      refine z_rcs hc hH 3 (pc' := 72) (lv' := [(3, .int (nI (l + 2))), (0, .ref 50), (1, .int (nI s)), (2, .int (nI l))]) (st' := [.int (nI (l + 2)), .int (nI s), .ref 50]) (μ' := z_ui μ 50 0 0) (by rfl) ?_
                      refine zq_call hc (z_cx_ok hH (by rfl)) (fc_X7_has_ d' (by omega) (z_ui μ 50 0 0) s (l + 2) hs4 (by omega)) (by decide +kernel) (fun r9 μ9 hq => ?_)
                      obtain ⟨hμ9, rfl⟩ := hq
                      rw [hμ9]
                      clear hμ9 μ9
                      rw [ui_o (by first | decide | omega)]
                      show Z 0 75 [(3, .int (nI (l + 2))), (0, .ref 50), (1, .int (nI s)), (2, .int (nI l))] [.int (μ.1 60 (34 * s + (l + 2)))] (z_ui μ 50 0 0)
                      refine zq_if hc hH (by rfl) (tg := 80) (by rfl) (fun h11 => ?_) (fun h11 => ?_)
                      · have h11 : (decide ((μ.1 60 (34 * s + (l + 2))) = 0)) = false := decide_eq_false (cm_ne.mp h11)
                        exact absurd (Eq.trans (Eq.symm (hz2)) h11) (by decide)
                      · have h11 : (decide ((μ.1 60 (34 * s + (l + 2))) = 0)) = true := decide_eq_true (cn_ne.mp h11)
                        refine z_rcs hc hH 1 (pc' := 79) (lv' := [(3, .int (nI (l + 2))), (0, .ref 50), (1, .int (nI s)), (2, .int (nI l))]) (st' := [.int 0]) (μ' := z_ui μ 50 0 0) (by rfl) ?_
                        exact hr 0 79 _ _ _ (some (.int 0)) (by decide +kernel) (z_rx_ok hH (by rfl)) (⟨rfl, rfl⟩)
                · have h8 : (decide ((nI (l + 1)) = (nI (l + 1)))) = false := decide_eq_false (cn_eq.mp h8)
                  exact absurd (Eq.trans (Eq.symm (kn_eq rfl)) h8) (by decide)
            · have h6 : (decide ((μ.1 60 (34 * s + l)) = 0)) = true := decide_eq_true (cn_ne.mp h6)
              exact absurd (Eq.trans (Eq.symm (hz1)) h6) (by decide)
      · have h3 : (decide ((nI (l + 1)) ≤ (nI (l + 2)))) = false := decide_eq_false (cn_le.mp h3)
        exact absurd (Eq.trans (Eq.symm (kn_nle (by omega) (by omega) (by omega))) h3) (by decide)
theorem mr_runA2 (d : Nat) (hd : 4 ≤ d) (μ : zM) (s l : Nat) (hs4 : s < 4) (hl : l + 2 ≤ 33) (hc49 : μ.1 50 49 = nI (l + 2)) (t u1 : Nat) (ht4 : t < 4) (ht : μ.1 50 45 = nI t) (hu1 : (t + 1) % 4 = u1) (hu14 : u1 < 4) (hmc : ∀ d, 2 ≤ d → z_C d mi_X7_mayClaim [.ref 50, .int (nI s)] (z_ui μ 50 0 0) (zR (z_ui μ 50 0 0) (.int 1))) (hsu : decide (nI s = nI u1) = true) (hsr : ∀ d, 1 ≤ d → z_C d mi_X7_isRun [.int (nI l)] (z_ui μ 50 0 0) (zR (z_ui μ 50 0 0) (.int 1))) (hz1 : decide (μ.1 60 (34 * s + l) = 0) = true) : z_C d mi_X7_run [.ref 50, .int (nI s), .int (nI l)] μ (fun r μ' => r = some (.int 0) ∧ μ' = z_ui μ 50 0 0) := by
  refine z_C_in (by decide) (by omega) (fun d' Z ed hc hr => ?_)
  have hH : zH mi_X7_run zt_X7_run 79 7 5 := hh_X7_run
  refine z_rcs hc hH 2 (pc' := 2) (lv' := [(0, .ref 50), (1, .int (nI s)), (2, .int (nI l))]) (st' := [.int 0, .ref 50]) (μ' := μ) (by rfl) ?_
  refine zq_pfi hc hH (by rfl) (ci := 6) (f := 0) (by rfl) (by decide +kernel) (by rfl) ?_
  show Z 0 5 [(0, .ref 50), (1, .int (nI s)), (2, .int (nI l))] [] (z_ui μ 50 0 0)
  refine z_rcs hc hH 2 (pc' := 7) (lv' := [(0, .ref 50), (1, .int (nI s)), (2, .int (nI l))]) (st' := [.int (nI s), .ref 50]) (μ' := z_ui μ 50 0 0) (by rfl) ?_
  refine zq_call hc (z_cx_ok hH (by rfl)) (hmc d' (by omega)) (by decide +kernel) (fun r9 μ9 hq => ?_)
  obtain ⟨hμ9, rfl⟩ := hq
  rw [hμ9]
  clear hμ9 μ9
  show Z 0 10 [(0, .ref 50), (1, .int (nI s)), (2, .int (nI l))] [.int 1] (z_ui μ 50 0 0)
  refine z_rcs hc hH 3 (pc' := 15) (lv' := [(0, .ref 50), (1, .int (nI s)), (2, .int (nI l))]) (st' := [.ref 50, .int (nI s)]) (μ' := z_ui μ 50 0 0) (by rfl) ?_
  refine zq_gfi hc hH (by rfl) (ci := 6) (f := 45) (by rfl) (by decide +kernel) (by rfl) ?_
  refine zV1 (Z := Z) (ui_k (by first | decide | omega)) ?_
  rw [ht]
  refine z_rcs hc hH 2 (pc' := 20) (lv' := [(0, .ref 50), (1, .int (nI s)), (2, .int (nI l))]) (st' := [.int ((nI t) + 1), .int (nI s)]) (μ' := z_ui μ 50 0 0) (by rfl) ?_
  rw [nI_s1]
  refine z_rcs hc hH 2 (pc' := 22) (lv' := [(0, .ref 50), (1, .int (nI s)), (2, .int (nI l))]) (st' := [.int ((nI (t + 1)) - (nI (t + 1)) / 4 * 4), .int (nI s)]) (μ' := z_ui μ 50 0 0) (by rfl) ?_
  rw [show nI (t + 1) - nI (t + 1) / 4 * 4 = nI u1 from by rw [rm4 _ (by omega), hu1]]
  refine zq_ic hc hH (by rfl) (tg := 50) (by rfl) (fun h1 => ?_) (fun h1 => ?_)
  · have h1 : (decide ((nI s) = (nI u1))) = false := decide_eq_false (cm_ne.mp h1)
    exact absurd (Eq.trans (Eq.symm (hsu)) h1) (by decide)
  · have h1 : (decide ((nI s) = (nI u1))) = true := decide_eq_true (cn_ne.mp h1)
    refine z_rcs hc hH 1 (pc' := 26) (lv' := [(0, .ref 50), (1, .int (nI s)), (2, .int (nI l))]) (st' := [.int (nI l)]) (μ' := z_ui μ 50 0 0) (by rfl) ?_
    refine zq_call hc (z_cx_ok hH (by rfl)) (hsr d' (by omega)) (by decide +kernel) (fun r9 μ9 hq => ?_)
    obtain ⟨hμ9, rfl⟩ := hq
    rw [hμ9]
    clear hμ9 μ9
    show Z 0 29 [(0, .ref 50), (1, .int (nI s)), (2, .int (nI l))] [.int 1] (z_ui μ 50 0 0)
    refine z_rcs hc hH 2 (pc' := 33) (lv' := [(0, .ref 50), (1, .int (nI s)), (2, .int (nI l))]) (st' := [.ref 50]) (μ' := z_ui μ 50 0 0) (by rfl) ?_
    refine zq_gfi hc hH (by rfl) (ci := 6) (f := 49) (by rfl) (by decide +kernel) (by rfl) ?_
    refine zV1 (Z := Z) (ui_k (by first | decide | omega)) ?_
    rw [hc49]
    refine z_rcs hc hH 1 (pc' := 37) (lv' := [(0, .ref 50), (1, .int (nI s)), (2, .int (nI l))]) (st' := [.int (nI l), .int (nI (l + 2))]) (μ' := z_ui μ 50 0 0) (by rfl) ?_
    refine zq_ic hc hH (by rfl) (tg := 50) (by rfl) (fun h2 => ?_) (fun h2 => ?_)
    · have h2 : (decide ((nI (l + 2)) < (nI l))) = true := decide_eq_true (cm_lt.mp h2)
      exact absurd (Eq.trans (Eq.symm (kn_nlg (by omega) (by omega) (by omega))) h2) (by decide)
    · have h2 : (decide ((nI (l + 2)) < (nI l))) = false := decide_eq_false (cn_lt.mp h2)
      refine z_rcs hc hH 1 (pc' := 41) (lv' := [(0, .ref 50), (1, .int (nI s)), (2, .int (nI l))]) (st' := [.ref 50]) (μ' := z_ui μ 50 0 0) (by rfl) ?_
      refine zq_gfi hc hH (by rfl) (ci := 6) (f := 49) (by rfl) (by decide +kernel) (by rfl) ?_
      refine zV1 (Z := Z) (ui_k (by first | decide | omega)) ?_
      rw [hc49]
      refine z_rcs hc hH 3 (pc' := 47) (lv' := [(0, .ref 50), (1, .int (nI s)), (2, .int (nI l))]) (st' := [.int ((nI l) + 2), .int (nI (l + 2))]) (μ' := z_ui μ 50 0 0) (by rfl) ?_
      rw [show nI l + 2 = nI (l + 2) from nI_add l 2]
      refine zq_ic hc hH (by rfl) (tg := 52) (by rfl) (fun h3 => ?_) (fun h3 => ?_)
      · have h3 : (decide ((nI (l + 2)) ≤ (nI (l + 2)))) = true := decide_eq_true (cm_le.mp h3)
        refine z_rcs hc hH 6 (pc' := 58) (lv' := [(3, .int (nI l)), (0, .ref 50), (1, .int (nI s)), (2, .int (nI l))]) (st' := [.int ((nI l) + 3), .int (nI l)]) (μ' := z_ui μ 50 0 0) (by rfl) ?_
        rw [show nI l + 3 = nI (l + 3) from nI_add l 3]
        refine zq_ic hc hH (by rfl) (tg := 86) (by rfl) (fun h4 => ?_) (fun h4 => ?_)
        · have h4 : (decide ((nI (l + 3)) ≤ (nI l))) = true := decide_eq_true (cm_ge.mp h4)
          exact absurd (Eq.trans (Eq.symm (kn_nlf (by omega) (by omega) (by omega))) h4) (by decide)
        · have h4 : (decide ((nI (l + 3)) ≤ (nI l))) = false := decide_eq_false (cn_ge.mp h4)
          refine z_rcs hc hH 2 (pc' := 63) (lv' := [(3, .int (nI l)), (0, .ref 50), (1, .int (nI s)), (2, .int (nI l))]) (st' := [.ref 50, .int (nI l)]) (μ' := z_ui μ 50 0 0) (by rfl) ?_
          refine zq_gfi hc hH (by rfl) (ci := 6) (f := 49) (by rfl) (by decide +kernel) (by rfl) ?_
          refine zV1 (Z := Z) (ui_k (by first | decide | omega)) ?_
          rw [hc49]
          refine zq_ic hc hH (by rfl) (tg := 80) (by rfl) (fun h5 => ?_) (fun h5 => ?_)
          · have h5 : (decide ((nI l) = (nI (l + 2)))) = true := decide_eq_true (cm_eq9.mp h5)
            exact absurd (Eq.trans (Eq.symm (kn_ne (by omega) (by omega) (by omega))) h5) (by decide)
          · have h5 : (decide ((nI l) = (nI (l + 2)))) = false := decide_eq_false (cn_eq.mp h5)
            refine z_rcs hc hH 3 (pc' := 72) (lv' := [(3, .int (nI l)), (0, .ref 50), (1, .int (nI s)), (2, .int (nI l))]) (st' := [.int (nI l), .int (nI s), .ref 50]) (μ' := z_ui μ 50 0 0) (by rfl) ?_
            refine zq_call hc (z_cx_ok hH (by rfl)) (fc_X7_has_ d' (by omega) (z_ui μ 50 0 0) s l hs4 (by omega)) (by decide +kernel) (fun r9 μ9 hq => ?_)
            obtain ⟨hμ9, rfl⟩ := hq
            rw [hμ9]
            clear hμ9 μ9
            rw [ui_o (by first | decide | omega)]
            show Z 0 75 [(3, .int (nI l)), (0, .ref 50), (1, .int (nI s)), (2, .int (nI l))] [.int (μ.1 60 (34 * s + l))] (z_ui μ 50 0 0)
            refine zq_if hc hH (by rfl) (tg := 80) (by rfl) (fun h6 => ?_) (fun h6 => ?_)
            · have h6 : (decide ((μ.1 60 (34 * s + l)) = 0)) = false := decide_eq_false (cm_ne.mp h6)
              exact absurd (Eq.trans (Eq.symm (hz1)) h6) (by decide)
            · have h6 : (decide ((μ.1 60 (34 * s + l)) = 0)) = true := decide_eq_true (cn_ne.mp h6)
              refine z_rcs hc hH 1 (pc' := 79) (lv' := [(3, .int (nI l)), (0, .ref 50), (1, .int (nI s)), (2, .int (nI l))]) (st' := [.int 0]) (μ' := z_ui μ 50 0 0) (by rfl) ?_
              exact hr 0 79 _ _ _ (some (.int 0)) (by decide +kernel) (z_rx_ok hH (by rfl)) (⟨rfl, rfl⟩)
      · have h3 : (decide ((nI (l + 2)) ≤ (nI (l + 2)))) = false := decide_eq_false (cn_le.mp h3)
        exact absurd (Eq.trans (Eq.symm (kn_nle (by omega) (by omega) (by omega))) h3) (by decide)
theorem mr_runB2 (d : Nat) (hd : 4 ≤ d) (μ : zM) (s l : Nat) (hs4 : s < 4) (hl : l + 2 ≤ 33) (hc49 : μ.1 50 49 = nI (l + 2)) (t u1 : Nat) (ht4 : t < 4) (ht : μ.1 50 45 = nI t) (hu1 : (t + 1) % 4 = u1) (hu14 : u1 < 4) (hmc : ∀ d, 2 ≤ d → z_C d mi_X7_mayClaim [.ref 50, .int (nI s)] (z_ui μ 50 0 0) (zR (z_ui μ 50 0 0) (.int 1))) (hsu : decide (nI s = nI u1) = true) (hsr : ∀ d, 1 ≤ d → z_C d mi_X7_isRun [.int (nI l)] (z_ui μ 50 0 0) (zR (z_ui μ 50 0 0) (.int 1))) (hz1 : decide (μ.1 60 (34 * s + l) = 0) = false) (hz2 : decide (μ.1 60 (34 * s + (l + 1)) = 0) = true) : z_C d mi_X7_run [.ref 50, .int (nI s), .int (nI l)] μ (fun r μ' => r = some (.int 0) ∧ μ' = z_ui μ 50 0 0) := by
  refine z_C_in (by decide) (by omega) (fun d' Z ed hc hr => ?_)
  have hH : zH mi_X7_run zt_X7_run 79 7 5 := hh_X7_run
  refine z_rcs hc hH 2 (pc' := 2) (lv' := [(0, .ref 50), (1, .int (nI s)), (2, .int (nI l))]) (st' := [.int 0, .ref 50]) (μ' := μ) (by rfl) ?_
  refine zq_pfi hc hH (by rfl) (ci := 6) (f := 0) (by rfl) (by decide +kernel) (by rfl) ?_
  show Z 0 5 [(0, .ref 50), (1, .int (nI s)), (2, .int (nI l))] [] (z_ui μ 50 0 0)
  refine z_rcs hc hH 2 (pc' := 7) (lv' := [(0, .ref 50), (1, .int (nI s)), (2, .int (nI l))]) (st' := [.int (nI s), .ref 50]) (μ' := z_ui μ 50 0 0) (by rfl) ?_
  refine zq_call hc (z_cx_ok hH (by rfl)) (hmc d' (by omega)) (by decide +kernel) (fun r9 μ9 hq => ?_)
  obtain ⟨hμ9, rfl⟩ := hq
  rw [hμ9]
  clear hμ9 μ9
  show Z 0 10 [(0, .ref 50), (1, .int (nI s)), (2, .int (nI l))] [.int 1] (z_ui μ 50 0 0)
  refine z_rcs hc hH 3 (pc' := 15) (lv' := [(0, .ref 50), (1, .int (nI s)), (2, .int (nI l))]) (st' := [.ref 50, .int (nI s)]) (μ' := z_ui μ 50 0 0) (by rfl) ?_
  refine zq_gfi hc hH (by rfl) (ci := 6) (f := 45) (by rfl) (by decide +kernel) (by rfl) ?_
  refine zV1 (Z := Z) (ui_k (by first | decide | omega)) ?_
  rw [ht]
  refine z_rcs hc hH 2 (pc' := 20) (lv' := [(0, .ref 50), (1, .int (nI s)), (2, .int (nI l))]) (st' := [.int ((nI t) + 1), .int (nI s)]) (μ' := z_ui μ 50 0 0) (by rfl) ?_
  rw [nI_s1]
  refine z_rcs hc hH 2 (pc' := 22) (lv' := [(0, .ref 50), (1, .int (nI s)), (2, .int (nI l))]) (st' := [.int ((nI (t + 1)) - (nI (t + 1)) / 4 * 4), .int (nI s)]) (μ' := z_ui μ 50 0 0) (by rfl) ?_
  rw [show nI (t + 1) - nI (t + 1) / 4 * 4 = nI u1 from by rw [rm4 _ (by omega), hu1]]
  refine zq_ic hc hH (by rfl) (tg := 50) (by rfl) (fun h1 => ?_) (fun h1 => ?_)
  · have h1 : (decide ((nI s) = (nI u1))) = false := decide_eq_false (cm_ne.mp h1)
    exact absurd (Eq.trans (Eq.symm (hsu)) h1) (by decide)
  · have h1 : (decide ((nI s) = (nI u1))) = true := decide_eq_true (cn_ne.mp h1)
    refine z_rcs hc hH 1 (pc' := 26) (lv' := [(0, .ref 50), (1, .int (nI s)), (2, .int (nI l))]) (st' := [.int (nI l)]) (μ' := z_ui μ 50 0 0) (by rfl) ?_
    refine zq_call hc (z_cx_ok hH (by rfl)) (hsr d' (by omega)) (by decide +kernel) (fun r9 μ9 hq => ?_)
    obtain ⟨hμ9, rfl⟩ := hq
    rw [hμ9]
    clear hμ9 μ9
    show Z 0 29 [(0, .ref 50), (1, .int (nI s)), (2, .int (nI l))] [.int 1] (z_ui μ 50 0 0)
    refine z_rcs hc hH 2 (pc' := 33) (lv' := [(0, .ref 50), (1, .int (nI s)), (2, .int (nI l))]) (st' := [.ref 50]) (μ' := z_ui μ 50 0 0) (by rfl) ?_
    refine zq_gfi hc hH (by rfl) (ci := 6) (f := 49) (by rfl) (by decide +kernel) (by rfl) ?_
    refine zV1 (Z := Z) (ui_k (by first | decide | omega)) ?_
    rw [hc49]
    refine z_rcs hc hH 1 (pc' := 37) (lv' := [(0, .ref 50), (1, .int (nI s)), (2, .int (nI l))]) (st' := [.int (nI l), .int (nI (l + 2))]) (μ' := z_ui μ 50 0 0) (by rfl) ?_
    refine zq_ic hc hH (by rfl) (tg := 50) (by rfl) (fun h2 => ?_) (fun h2 => ?_)
    · have h2 : (decide ((nI (l + 2)) < (nI l))) = true := decide_eq_true (cm_lt.mp h2)
      exact absurd (Eq.trans (Eq.symm (kn_nlg (by omega) (by omega) (by omega))) h2) (by decide)
    · have h2 : (decide ((nI (l + 2)) < (nI l))) = false := decide_eq_false (cn_lt.mp h2)
      refine z_rcs hc hH 1 (pc' := 41) (lv' := [(0, .ref 50), (1, .int (nI s)), (2, .int (nI l))]) (st' := [.ref 50]) (μ' := z_ui μ 50 0 0) (by rfl) ?_
      refine zq_gfi hc hH (by rfl) (ci := 6) (f := 49) (by rfl) (by decide +kernel) (by rfl) ?_
      refine zV1 (Z := Z) (ui_k (by first | decide | omega)) ?_
      rw [hc49]
      refine z_rcs hc hH 3 (pc' := 47) (lv' := [(0, .ref 50), (1, .int (nI s)), (2, .int (nI l))]) (st' := [.int ((nI l) + 2), .int (nI (l + 2))]) (μ' := z_ui μ 50 0 0) (by rfl) ?_
      rw [show nI l + 2 = nI (l + 2) from nI_add l 2]
      refine zq_ic hc hH (by rfl) (tg := 52) (by rfl) (fun h3 => ?_) (fun h3 => ?_)
      · have h3 : (decide ((nI (l + 2)) ≤ (nI (l + 2)))) = true := decide_eq_true (cm_le.mp h3)
        refine z_rcs hc hH 6 (pc' := 58) (lv' := [(3, .int (nI l)), (0, .ref 50), (1, .int (nI s)), (2, .int (nI l))]) (st' := [.int ((nI l) + 3), .int (nI l)]) (μ' := z_ui μ 50 0 0) (by rfl) ?_
        rw [show nI l + 3 = nI (l + 3) from nI_add l 3]
        refine zq_ic hc hH (by rfl) (tg := 86) (by rfl) (fun h4 => ?_) (fun h4 => ?_)
        · have h4 : (decide ((nI (l + 3)) ≤ (nI l))) = true := decide_eq_true (cm_ge.mp h4)
          exact absurd (Eq.trans (Eq.symm (kn_nlf (by omega) (by omega) (by omega))) h4) (by decide)
        · have h4 : (decide ((nI (l + 3)) ≤ (nI l))) = false := decide_eq_false (cn_ge.mp h4)
          refine z_rcs hc hH 2 (pc' := 63) (lv' := [(3, .int (nI l)), (0, .ref 50), (1, .int (nI s)), (2, .int (nI l))]) (st' := [.ref 50, .int (nI l)]) (μ' := z_ui μ 50 0 0) (by rfl) ?_
          refine zq_gfi hc hH (by rfl) (ci := 6) (f := 49) (by rfl) (by decide +kernel) (by rfl) ?_
          refine zV1 (Z := Z) (ui_k (by first | decide | omega)) ?_
          rw [hc49]
          refine zq_ic hc hH (by rfl) (tg := 80) (by rfl) (fun h5 => ?_) (fun h5 => ?_)
          · have h5 : (decide ((nI l) = (nI (l + 2)))) = true := decide_eq_true (cm_eq9.mp h5)
            exact absurd (Eq.trans (Eq.symm (kn_ne (by omega) (by omega) (by omega))) h5) (by decide)
          · have h5 : (decide ((nI l) = (nI (l + 2)))) = false := decide_eq_false (cn_eq.mp h5)
            refine z_rcs hc hH 3 (pc' := 72) (lv' := [(3, .int (nI l)), (0, .ref 50), (1, .int (nI s)), (2, .int (nI l))]) (st' := [.int (nI l), .int (nI s), .ref 50]) (μ' := z_ui μ 50 0 0) (by rfl) ?_
            refine zq_call hc (z_cx_ok hH (by rfl)) (fc_X7_has_ d' (by omega) (z_ui μ 50 0 0) s l hs4 (by omega)) (by decide +kernel) (fun r9 μ9 hq => ?_)
            obtain ⟨hμ9, rfl⟩ := hq
            rw [hμ9]
            clear hμ9 μ9
            rw [ui_o (by first | decide | omega)]
            show Z 0 75 [(3, .int (nI l)), (0, .ref 50), (1, .int (nI s)), (2, .int (nI l))] [.int (μ.1 60 (34 * s + l))] (z_ui μ 50 0 0)
            refine zq_if hc hH (by rfl) (tg := 80) (by rfl) (fun h6 => ?_) (fun h6 => ?_)
            · have h6 : (decide ((μ.1 60 (34 * s + l)) = 0)) = false := decide_eq_false (cm_ne.mp h6)
              refine z_rcs hc hH 3 (pc' := 55) (lv' := [(3, .int ((nI l) + 1)), (0, .ref 50), (1, .int (nI s)), (2, .int (nI l))]) (st' := [.int ((nI l) + 1)]) (μ' := z_ui μ 50 0 0) (by rfl) ?_
              rw [nI_s1]
              refine z_rcs hc hH 3 (pc' := 58) (lv' := [(3, .int (nI (l + 1))), (0, .ref 50), (1, .int (nI s)), (2, .int (nI l))]) (st' := [.int ((nI l) + 3), .int (nI (l + 1))]) (μ' := z_ui μ 50 0 0) (by rfl) ?_
              rw [show nI l + 3 = nI (l + 3) from nI_add l 3]
              refine zq_ic hc hH (by rfl) (tg := 86) (by rfl) (fun h7 => ?_) (fun h7 => ?_)
              · have h7 : (decide ((nI (l + 3)) ≤ (nI (l + 1)))) = true := decide_eq_true (cm_ge.mp h7)
                exact absurd (Eq.trans (Eq.symm (kn_nlf (by omega) (by omega) (by omega))) h7) (by decide)
              · have h7 : (decide ((nI (l + 3)) ≤ (nI (l + 1)))) = false := decide_eq_false (cn_ge.mp h7)
                refine z_rcs hc hH 2 (pc' := 63) (lv' := [(3, .int (nI (l + 1))), (0, .ref 50), (1, .int (nI s)), (2, .int (nI l))]) (st' := [.ref 50, .int (nI (l + 1))]) (μ' := z_ui μ 50 0 0) (by rfl) ?_
                refine zq_gfi hc hH (by rfl) (ci := 6) (f := 49) (by rfl) (by decide +kernel) (by rfl) ?_
                refine zV1 (Z := Z) (ui_k (by first | decide | omega)) ?_
                rw [hc49]
                refine zq_ic hc hH (by rfl) (tg := 80) (by rfl) (fun h8 => ?_) (fun h8 => ?_)
                · have h8 : (decide ((nI (l + 1)) = (nI (l + 2)))) = true := decide_eq_true (cm_eq9.mp h8)
                  exact absurd (Eq.trans (Eq.symm (kn_ne (by omega) (by omega) (by omega))) h8) (by decide)
                · have h8 : (decide ((nI (l + 1)) = (nI (l + 2)))) = false := decide_eq_false (cn_eq.mp h8)
                  refine z_rcs hc hH 3 (pc' := 72) (lv' := [(3, .int (nI (l + 1))), (0, .ref 50), (1, .int (nI s)), (2, .int (nI l))]) (st' := [.int (nI (l + 1)), .int (nI s), .ref 50]) (μ' := z_ui μ 50 0 0) (by rfl) ?_
                  refine zq_call hc (z_cx_ok hH (by rfl)) (fc_X7_has_ d' (by omega) (z_ui μ 50 0 0) s (l + 1) hs4 (by omega)) (by decide +kernel) (fun r9 μ9 hq => ?_)
                  obtain ⟨hμ9, rfl⟩ := hq
                  rw [hμ9]
                  clear hμ9 μ9
                  rw [ui_o (by first | decide | omega)]
                  show Z 0 75 [(3, .int (nI (l + 1))), (0, .ref 50), (1, .int (nI s)), (2, .int (nI l))] [.int (μ.1 60 (34 * s + (l + 1)))] (z_ui μ 50 0 0)
                  refine zq_if hc hH (by rfl) (tg := 80) (by rfl) (fun h9 => ?_) (fun h9 => ?_)
                  · have h9 : (decide ((μ.1 60 (34 * s + (l + 1))) = 0)) = false := decide_eq_false (cm_ne.mp h9)
                    exact absurd (Eq.trans (Eq.symm (hz2)) h9) (by decide)
                  · have h9 : (decide ((μ.1 60 (34 * s + (l + 1))) = 0)) = true := decide_eq_true (cn_ne.mp h9)
                    refine z_rcs hc hH 1 (pc' := 79) (lv' := [(3, .int (nI (l + 1))), (0, .ref 50), (1, .int (nI s)), (2, .int (nI l))]) (st' := [.int 0]) (μ' := z_ui μ 50 0 0) (by rfl) ?_
                    exact hr 0 79 _ _ _ (some (.int 0)) (by decide +kernel) (z_rx_ok hH (by rfl)) (⟨rfl, rfl⟩)
            · have h6 : (decide ((μ.1 60 (34 * s + l)) = 0)) = true := decide_eq_true (cn_ne.mp h6)
              exact absurd (Eq.trans (Eq.symm (hz1)) h6) (by decide)
      · have h3 : (decide ((nI (l + 2)) ≤ (nI (l + 2)))) = false := decide_eq_false (cn_le.mp h3)
        exact absurd (Eq.trans (Eq.symm (kn_nle (by omega) (by omega) (by omega))) h3) (by decide)
theorem mr_discH (d : Nat) (hd : 4 ≤ d) (μ : zM) (t k : Nat) (ht4 : t < 4) (ht : μ.1 50 45 = nI t) (hk : k < 34) (b : Int32) (hp : decide (μ.1 50 44 = 1) = true) (hz : decide (μ.1 60 (34 * t + k) = 0) = true) : z_C d mi_X7_discard [.ref 50, .int (nI k), .int b] μ (fun r μ' => r = some (.int 0) ∧ μ' = z_ui μ 50 0 0) := by
  refine z_C_in (by decide) (by omega) (fun d' Z ed hc hr => ?_)
  have hH : zH mi_X7_discard zt_X7_discard 79 7 5 := hh_X7_discard
  refine z_rcs hc hH 2 (pc' := 2) (lv' := [(0, .ref 50), (1, .int (nI k)), (2, .int b)]) (st' := [.int 0, .ref 50]) (μ' := μ) (by rfl) ?_
  refine zq_pfi hc hH (by rfl) (ci := 6) (f := 0) (by rfl) (by decide +kernel) (by rfl) ?_
  show Z 0 5 [(0, .ref 50), (1, .int (nI k)), (2, .int b)] [] (z_ui μ 50 0 0)
  refine z_rcs hc hH 1 (pc' := 6) (lv' := [(0, .ref 50), (1, .int (nI k)), (2, .int b)]) (st' := [.ref 50]) (μ' := z_ui μ 50 0 0) (by rfl) ?_
  refine zq_gfi hc hH (by rfl) (ci := 6) (f := 44) (by rfl) (by decide +kernel) (by rfl) ?_
  refine zV1 (Z := Z) (ui_k (by first | decide | omega)) ?_
  refine z_rcs hc hH 1 (pc' := 10) (lv' := [(0, .ref 50), (1, .int (nI k)), (2, .int b)]) (st' := [.int 1, .int (μ.1 50 44)]) (μ' := z_ui μ 50 0 0) (by rfl) ?_
  refine zq_ic hc hH (by rfl) (tg := 32) (by rfl) (fun h1 => ?_) (fun h1 => ?_)
  · have h1 : (decide ((μ.1 50 44) = 1)) = false := decide_eq_false (cm_ne.mp h1)
    exact absurd (Eq.trans (Eq.symm (hp)) h1) (by decide)
  · have h1 : (decide ((μ.1 50 44) = 1)) = true := decide_eq_true (cn_ne.mp h1)
    refine z_rcs hc hH 1 (pc' := 14) (lv' := [(0, .ref 50), (1, .int (nI k)), (2, .int b)]) (st' := [.int (nI k)]) (μ' := z_ui μ 50 0 0) (by rfl) ?_
    refine zq_call hc (z_cx_ok hH (by rfl)) (gm_isKindN d' (by omega) (z_ui μ 50 0 0) k hk) (by decide +kernel) (fun r9 μ9 hq => ?_)
    obtain ⟨hμ9, rfl⟩ := hq
    rw [hμ9]
    clear hμ9 μ9
    show Z 0 17 [(0, .ref 50), (1, .int (nI k)), (2, .int b)] [.int 1] (z_ui μ 50 0 0)
    refine z_rcs hc hH 3 (pc' := 22) (lv' := [(0, .ref 50), (1, .int (nI k)), (2, .int b)]) (st' := [.ref 50, .ref 50]) (μ' := z_ui μ 50 0 0) (by rfl) ?_
    refine zq_gfi hc hH (by rfl) (ci := 6) (f := 45) (by rfl) (by decide +kernel) (by rfl) ?_
    refine zV1 (Z := Z) (ui_k (by first | decide | omega)) ?_
    rw [ht]
    refine z_rcs hc hH 1 (pc' := 26) (lv' := [(0, .ref 50), (1, .int (nI k)), (2, .int b)]) (st' := [.int (nI k), .int (nI t), .ref 50]) (μ' := z_ui μ 50 0 0) (by rfl) ?_
    refine zq_call hc (z_cx_ok hH (by rfl)) (fc_X7_has_ d' (by omega) (z_ui μ 50 0 0) t k ht4 hk) (by decide +kernel) (fun r9 μ9 hq => ?_)
    obtain ⟨hμ9, rfl⟩ := hq
    rw [hμ9]
    clear hμ9 μ9
    rw [ui_o (by first | decide | omega)]
    show Z 0 29 [(0, .ref 50), (1, .int (nI k)), (2, .int b)] [.int (μ.1 60 (34 * t + k))] (z_ui μ 50 0 0)
    refine zq_if hc hH (by rfl) (tg := 34) (by rfl) (fun h2 => ?_) (fun h2 => ?_)
    · have h2 : (decide ((μ.1 60 (34 * t + k)) = 0)) = false := decide_eq_false (cm_ne.mp h2)
      exact absurd (Eq.trans (Eq.symm (hz)) h2) (by decide)
    · have h2 : (decide ((μ.1 60 (34 * t + k)) = 0)) = true := decide_eq_true (cn_ne.mp h2)
      refine z_rcs hc hH 1 (pc' := 33) (lv' := [(0, .ref 50), (1, .int (nI k)), (2, .int b)]) (st' := [.int 0]) (μ' := z_ui μ 50 0 0) (by rfl) ?_
      exact hr 0 33 _ _ _ (some (.int 0)) (by decide +kernel) (z_rx_ok hH (by rfl)) (⟨rfl, rfl⟩)
theorem gx_atZ (d : Nat) (hd : 3 ≤ d) (μ : zM) (j : Nat) (hj : j < 4) (x : Int32) (hf : decide (fr μ (20 + 8 * j) x = 0) = true) : z_C d mi_X3_addToThree [.ref (19 + 8 * j), .int x] μ (fun r μ' => r = some (.int 0) ∧ μ' = μ) := by
  refine z_C_in (by decide) (by omega) (fun d' Z ed hc hr => ?_)
  have hH : zH mi_X3_addToThree zt_X3_addToThree 79 3 3 := hh_X3_addToThree
  refine z_rcs hc hH 2 (pc' := 2) (lv' := [(0, .ref (19 + 8 * j)), (1, .int x)]) (st' := [.int x, .ref (19 + 8 * j)]) (μ' := μ) (by rfl) ?_
  refine zq_call hc (z_clv9 hH (by rfl) (by rfl) (by rfl) (by rfl) (sj (P := fun i => okr 79 2 (19 + 8 * i)) hj (by decide +kernel)) (by rfl) (by rfl)) (gc_free d' (by omega) μ j hj x) (by decide +kernel) (fun r9 μ9 hq => ?_)
  obtain ⟨hμ9, rfl⟩ := hq
  rw [hμ9]
  clear hμ9 μ9
  show Z 0 5 [(0, .ref (19 + 8 * j)), (1, .int x)] [.int (fr μ (20 + 8 * j) x)] μ
  refine zq_if hc hH (by rfl) (tg := 10) (by rfl) (fun h1 => ?_) (fun h1 => ?_)
  · have h1 : (decide ((fr μ (20 + 8 * j) x) = 0)) = false := decide_eq_false (cm_ne.mp h1)
    exact absurd (Eq.trans (Eq.symm (hf)) h1) (by decide)
  · have h1 : (decide ((fr μ (20 + 8 * j) x) = 0)) = true := decide_eq_true (cn_ne.mp h1)
    refine z_rcs hc hH 1 (pc' := 9) (lv' := [(0, .ref (19 + 8 * j)), (1, .int x)]) (st' := [.int 0]) (μ' := μ) (by rfl) ?_
    exact hr 0 9 _ _ _ (some (.int 0)) (by decide +kernel) (z_rx_ok hH (by rfl)) (⟨rfl, rfl⟩)
theorem gx_addF (d : Nat) (hd : 4 ≤ d) (μ : zM) (x : Int32) (t : Nat) (ht4 : t < 4) (ht : μ.1 0 8 = nI t) (hmm : ∀ d, 3 ≤ d → z_C d mi_X6_mayMakeFour [.ref 0] μ (zR μ (.int 1))) (hat : ∀ d, 3 ≤ d → z_C d mi_X3_addToThree [.ref (19 + 8 * t), .int x] μ (zR μ (.int 0))) : z_C d mi_X6_add [.ref 0, .int x] μ (fun r μ' => r = some (.int 0) ∧ μ' = μ) := by
  refine z_C_in (by decide) (by omega) (fun d' Z ed hc hr => ?_)
  have hH : zH mi_X6_add zt_X6_add 79 6 2 := hh_X6_add
  refine z_rcs hc hH 1 (pc' := 1) (lv' := [(0, .ref 0), (1, .int x)]) (st' := [.ref 0]) (μ' := μ) (by rfl) ?_
  refine zq_call hc (z_cx_ok hH (by rfl)) (hmm d' (by omega)) (by decide +kernel) (fun r9 μ9 hq => ?_)
  obtain ⟨hμ9, rfl⟩ := hq
  rw [hμ9]
  clear hμ9 μ9
  show Z 0 4 [(0, .ref 0), (1, .int x)] [.int 1] μ
  refine z_rcs hc hH 3 (pc' := 9) (lv' := [(0, .ref 0), (1, .int x)]) (st' := [.ref 0, .ref 0]) (μ' := μ) (by rfl) ?_
  refine zq_gfi hc hH (by rfl) (ci := 5) (f := 8) (by rfl) (by decide +kernel) (by rfl) ?_
  rw [ht]
  refine zq_call hc (z_cx_ok hH (by rfl)) (gc_at4 d' (by omega) μ t ht4) (by decide +kernel) (fun r9 μ9 hq => ?_)
  obtain ⟨hμ9, rfl⟩ := hq
  rw [hμ9]
  clear hμ9 μ9
  show Z 0 15 [(0, .ref 0), (1, .int x)] [.ref (18 + 8 * t)] μ
  refine zq_gfr hc hH (by rfl) (ci := 1) (f := 0) (q := 19 + 8 * t) (by rfl) (sj (P := fun i => okf 79 1 0 (18 + 8 * i)) ht4 (by decide +kernel)) (by rfl) (sj (P := fun i => Nat.beq (z_gr (18 + 8 * i) 0) (19 + 8 * i)) ht4 (by decide +kernel)) ?_
  refine z_rcs hc hH 1 (pc' := 19) (lv' := [(0, .ref 0), (1, .int x)]) (st' := [.int x, .ref (19 + 8 * t)]) (μ' := μ) (by rfl) ?_
  refine zq_call hc (z_clv9 hH (by rfl) (by rfl) (by rfl) (by rfl) (sj (P := fun i => okr 79 2 (19 + 8 * i)) ht4 (by decide +kernel)) (by rfl) (by rfl)) (hat d' (by omega)) (by decide +kernel) (fun r9 μ9 hq => ?_)
  obtain ⟨hμ9, rfl⟩ := hq
  rw [hμ9]
  clear hμ9 μ9
  show Z 0 22 [(0, .ref 0), (1, .int x)] [.int 0] μ
  refine z_rcs hc hH 2 (pc' := 26) (lv' := [(0, .ref 0), (1, .int x)]) (st' := [.int 0]) (μ' := μ) (by rfl) ?_
  exact hr 0 26 _ _ _ (some (.int 0)) (by decide +kernel) (z_rx_ok hH (by rfl)) (⟨rfl, rfl⟩)
theorem gx_nineP (d : Nat) (hd : 2 ≤ d) (μ : zM) (hp : decide (μ.1 0 7 = 1) = false) : z_C d mi_X6_nine [.ref 0] μ (fun r μ' => r = some (.int 0) ∧ μ' = μ) := by
  refine z_C_in (by decide) (by omega) (fun d' Z ed hc hr => ?_)
  have hH : zH mi_X6_nine zt_X6_nine 79 6 1 := hh_X6_nine
  refine z_rcs hc hH 1 (pc' := 1) (lv' := [(0, .ref 0)]) (st' := [.ref 0]) (μ' := μ) (by rfl) ?_
  refine zq_gfi hc hH (by rfl) (ci := 5) (f := 7) (by rfl) (by decide +kernel) (by rfl) ?_
  refine z_rcs hc hH 1 (pc' := 5) (lv' := [(0, .ref 0)]) (st' := [.int 1, .int (μ.1 0 7)]) (μ' := μ) (by rfl) ?_
  refine zq_ic hc hH (by rfl) (tg := 29) (by rfl) (fun h1 => ?_) (fun h1 => ?_)
  · have h1 : (decide ((μ.1 0 7) = 1)) = false := decide_eq_false (cm_ne.mp h1)
    refine z_rcs hc hH 1 (pc' := 30) (lv' := [(0, .ref 0)]) (st' := [.int 0]) (μ' := μ) (by rfl) ?_
    exact hr 0 30 _ _ _ (some (.int 0)) (by decide +kernel) (z_rx_ok hH (by rfl)) (⟨rfl, rfl⟩)
  · have h1 : (decide ((μ.1 0 7) = 1)) = true := decide_eq_true (cn_ne.mp h1)
    exact absurd (Eq.trans (Eq.symm (hp)) h1) (by decide)
/-! both calls together; the tile is let go, whoever's turn it is -/
set_option maxRecDepth 8000
noncomputable abbrev GO (d j j' : Nat) (As As' : List Value) (μ : zM) : Prop := z_C d j As μ (fun r μ1 => LJ μ1 ∧ ∃ y, r = some (.int y) ∧ z_C d j' As' μ1 (fun r2 μ2 => LGm μ2 ∧ r2 = some (.int y)))
theorem eqX_tr {a b c : zM} (h : EqX a b) (g : EqX b c) : EqX a c := fun r k q => ⟨(g r k q).1.trans (h r k q).1, (g r k q).2.trans (h r k q).2⟩
theorem eqM_tr {a b c : zM} (h : EqM a b) (g : EqM b c) : EqM a c := fun r k q => ⟨(g r k q).1.trans (h r k q).1, (g r k q).2.trans (h r k q).2⟩
theorem go_no {d j j' : Nat} {As As' : List Value} {μ : zM} (hR : RG μ μ) (kx : z_C d j As μ (fun _ μ' => LJ μ' ∧ EqM μ μ')) (km : ∀ μ1, LJ μ1 → z_C d j' As' μ1 (fun _ μ' => LJ μ' ∧ EqX μ1 μ')) (c1 : z_C d j As μ (fun r μ' => r = some (.int 0) ∧ μ' = μ)) (c2 : z_C d j' As' μ (fun r μ' => r = some (.int 0) ∧ μ' = z_ui μ 50 0 0)) : GO d j j' As As' μ := z_C_mono (zC_and d kx c1) (fun r μ1 q => by
  obtain ⟨⟨q1, _⟩, q2, rfl⟩ := q
  exact ⟨q1, 0, q2, z_C_mono (zC_and d (km _ q1) c2) (fun r2 μ2 z => ⟨lg_no hR z.2.2 z.1.1, z.2.1⟩)⟩)
theorem go_yes {d j j' : Nat} {As As' : List Value} {μ : zM} {X : zM} {y : Int32} (kx : z_C d j As μ (fun _ μ' => LJ μ' ∧ EqM μ μ')) (km : ∀ μ1, LJ μ1 → z_C d j' As' μ1 (fun _ μ' => LJ μ' ∧ EqX μ1 μ')) (c1 : z_C d j As μ (fun r μ' => r = some (.int y) ∧ EqX X μ')) (c2 : ∀ μ1, LJ μ1 → EqM μ μ1 → z_C d j' As' μ1 (fun r μ' => r = some (.int y) ∧ RG X μ')) : GO d j j' As As' μ := z_C_mono (zC_and d kx c1) (fun r μ1 q => ⟨q.1.1, y, q.2.1, z_C_mono (zC_and d (km μ1 q.1.1) (c2 μ1 q.1.1 q.1.2)) (fun r2 μ2 z => ⟨⟨z.1.1, z.2.2.cg (eqX_tr q.2.2 z.1.2) (eqM_rf _)⟩, z.2.1⟩)⟩)
/-- the reference's cells of the game but for what may not be discarded -/
noncomputable def EqB (m m' : zM) : Prop := ∀ r k, gMc r k → ¬ (r = 50 ∧ (k = 50 ∨ k = 51)) → m'.1 r k = m.1 r k ∧ m'.2.1 r k = m.2.1 r k
theorem RCl.cgB {x m m' : zM} (e : EqB m m') (h : RCl x m) : RCl x m' := RCl.cg2 (q2_x _) (fun r k g => e r k (by unfold gM2 at g; unfold gMc; omega) (by unfold gM2 at g; omega)) h
theorem RPh.cgB {x m m' : zM} (hm : EqB m m') {p t c : Nat} (hp : p ≠ 1) (h : RPh x m p t c) : RPh x m' p t c := by
  have M : ∀ r k, gMc r k → ¬ (r = 50 ∧ (k = 50 ∨ k = 51)) → m'.1 r k = m.1 r k := fun r k q z => (hm r k q z).1
  unfold gMc at M
  have m44 := M 50 44 (by omega) (by omega)
  have m45 := M 50 45 (by omega) (by omega)
  have m46 := M 50 46 (by omega) (by omega)
  have m47 := M 50 47 (by omega) (by omega)
  have m48 := M 50 48 (by omega) (by omega)
  have m49 := M 50 49 (by omega) (by omega)
  have m40 := M 50 40 (by omega) (by omega)
  have m53 := M 50 53 (by omega) (by omega)
  have m55 := M 50 55 (by omega) (by omega)
  have m56 := M 50 56 (by omega) (by omega)
  have m57 := M 50 57 (by omega) (by omega)
  have m58 := M 50 58 (by omega) (by omega)
  have m59 := M 50 59 (by omega) (by omega)
  have m64 : ∀ s, m'.1 64 s = m.1 64 s := fun s => M 64 s (by omega) (by omega)
  have m66 : ∀ s, m'.1 66 s = m.1 66 s := fun s => M 66 s (by omega) (by omega)
  have m68 : ∀ s, m'.1 68 s = m.1 68 s := fun s => M 68 s (by omega) (by omega)
  have m71 : ∀ s, m'.1 71 s = m.1 71 s := fun s => M 71 s (by omega) (by omega)
  have mW : fW m' = fW m := funext fun i => M 59 i (by omega) (by omega)
  exact ⟨(by rw [m47]; exact h.fo), (by exact h.px), (by rw [m44]; exact h.pm), (by exact h.tx), (by rw [m45]; exact h.tm), h.t4, h.p3, (by exact h.cx), (by rw [m49]; exact h.cm), h.c3, fun q => absurd q hp, (by rw [m56]; exact h.br), (by simp only [m56, m64]; exact h.us), (by rw [m58]; exact h.bf), fun q => absurd q hp, fun q => absurd q hp, fun q => absurd q hp, h.a3, fun q s hs hn => (h.sb q s hs (by rw [m71 s] at hn; exact hn)).sv (fun r k g => M r k (by omega) (by omega)), fun s hs => by rw [m59]; exact h.ow s hs, (by rw [m59]; exact h.o1), (by rw [m55]; exact h.is), (by rw [m71]; exact h.s0), (by simp only [m71]; exact h.s1), (by rw [m53]; exact h.w0), (by simp only [m68, m46, m48, m40]; exact h.dn), (by simp only [m56, m68, m66]; exact h.dr), (by rw [m56, m40, m68]; exact h.d2), h.tc.elim fun a z => ⟨a, fun s k hs hk => by exact z.1 s k hs hk, by rw [mW, m46, m48]; exact z.2⟩⟩
theorem eB_M {m m' : zM} (h : EqM m m') : EqB m m' := fun r k g _ => h r k g
theorem eB_tr {a b c : zM} (h : EqB a b) (g : EqB b c) : EqB a c := fun r k q z => ⟨(g r k q z).1.trans (h r k q z).1, (g r k q z).2.trans (h r k q z).2⟩
theorem eB_0 (m : zM) (v : Int32) : EqB m (z_ui m 50 0 v) := eB_M (t0_EqM m v)
theorem eB_50 (m : zM) (v w : Int32) : EqB m (z_ui (z_ui m 50 50 v) 50 51 w) := fun r k g z => ⟨by
  by_cases e : r = 50
  · subst e
    rw [ui_k (by first | decide | omega), ui_k (by first | decide | omega)]
  · rw [ui_o e, ui_o e], rfl⟩
theorem gv_c {m : zM} {s c : Nat} {n n' : Int32} (h : n + n' = 0) (r k : Nat) : (z_giv (z_giv m s c n) s c n').1 r k = m.1 r k := by
  unfold z_giv
  by_cases e : r = 60
  · subst e
    by_cases e2 : k = 34 * s + c
    · subst e2; rw [ui_s, ui_s, Int32.add_assoc, h, Int32.add_zero]
    · rw [ui_k e2, ui_k e2]
  · rw [ui_o e, ui_o e]
theorem gv_c4 {m : zM} {s a b : Nat} {n n' : Int32} (hab : a ≠ b) (h : n + n' = 0) (r k : Nat) : (z_giv (z_giv (z_giv (z_giv m s a n) s b n) s a n') s b n').1 r k = m.1 r k := by
  unfold z_giv
  by_cases e : r = 60
  · subst e
    by_cases e2 : k = 34 * s + a
    · subst e2
      simp (disch := first | decide | exact ad_ne (by decide) | exact ad_m (by decide) | exact ad_l (by decide) | exact ad_g (by decide) | exact ad_lt (by decide) | exact ad_o (by decide) | omega) only [↓ui_s, ↓ui_k, ui_s, ui_k]
      rw [Int32.add_assoc, h, Int32.add_zero]
    · by_cases e3 : k = 34 * s + b
      · subst e3
        simp (disch := first | decide | exact ad_ne (by decide) | exact ad_m (by decide) | exact ad_l (by decide) | exact ad_g (by decide) | exact ad_lt (by decide) | exact ad_o (by decide) | omega) only [↓ui_s, ↓ui_k, ui_s, ui_k]
        rw [Int32.add_assoc, h, Int32.add_zero]
      · simp (disch := first | decide | exact ad_ne (by decide) | exact ad_m (by decide) | exact ad_l (by decide) | exact ad_g (by decide) | exact ad_lt (by decide) | exact ad_o (by decide) | omega) only [↓ui_s, ↓ui_k, ui_s, ui_k]
  · rw [ui_o e, ui_o e, ui_o e, ui_o e]
theorem eB_g {m : zM} {s c : Nat} {n n' : Int32} (h : n + n' = 0) : EqB m (z_giv (z_giv m s c n) s c n') := fun r k _ _ => ⟨gv_c h r k, rfl⟩
theorem eB_g4 {m : zM} {s a b : Nat} {n n' : Int32} (hab : a ≠ b) (h : n + n' = 0) : EqB m (z_giv (z_giv (z_giv (z_giv m s a n) s b n) s a n') s b n') := fun r k _ _ => ⟨gv_c4 hab h r k, rfl⟩
theorem eB_SE {m m' : zM} (h : EqB m m') : SE m m' := fun r k g => (h r k (Or.inl ⟨by omega, by omega⟩) (by omega)).1
theorem RG.cgB2 {x m m' : zM} {t c : Nat} (R : RCl x m) (P : RPh x m 2 t c) (e : EqB m m') : RG x m' := ⟨R.cgB e, Or.inr ⟨2, t, c, P.cgB e (by decide)⟩⟩
/-- the WAITS of all four, as both sides ask for them -/
noncomputable def WW (x m : zM) (c : Nat) (W : Nat → Int64) : Prop := ∀ u, u < 4 → (∀ μ1, TE x μ1 → ∀ d, 6 ≤ d → z_C d mi_X3_waitsFor [.ref (19 + 8 * u), .int (nI c)] μ1 (zR μ1 (.int (nB (bw (W u) c))))) ∧ (∀ M, SE m M → a_H M → ∀ d, 699 ≤ d → z_C d mi_X7_waitsAt [.ref 50, .int (nI u)] M (fun r V => r = some (.long (W u)) ∧ SMj M V ∧ a_H V)) ∧ (∀ μ1, TE x μ1 → ∀ d, 7 ≤ d → z_C d mi_X3_waiting [.ref (19 + 8 * u)] μ1 (zR μ1 (.long (W u)))) ∧ (∃ f : Nat → Bool, W u = kb f 34)
theorem ww_of {x m : zM} {p t c : Nat} (R : RCl x m) (P : RPh x m p t c) (hA : a_H m) (hG : GP m) (hc : c < 34) : ∃ W, WW x m c W := by
  have H : ∀ u, ∃ v : Int64, u < 4 → (∀ μ1, TE x μ1 → ∀ d, 6 ≤ d → z_C d mi_X3_waitsFor [.ref (19 + 8 * u), .int (nI c)] μ1 (zR μ1 (.int (nB (bw v c))))) ∧ (∀ M, SE m M → a_H M → ∀ d, 699 ≤ d → z_C d mi_X7_waitsAt [.ref 50, .int (nI u)] M (fun r V => r = some (.long v) ∧ SMj M V ∧ a_H V)) ∧ (∀ μ1, TE x μ1 → ∀ d, 7 ≤ d → z_C d mi_X3_waiting [.ref (19 + 8 * u)] μ1 (zR μ1 (.long v))) ∧ (∃ f : Nat → Bool, v = kb f 34) := fun u => by
    by_cases hu : u < 4
    · obtain ⟨w, aw, q, sL, lL, H⟩ := hf_of R P hA hG hu
      exact ⟨WV m u w q, fun _ => ⟨cw_for H hu hc, mw_wait H.1 hu, cw_wait H hu, _, rfl⟩⟩
    · exact ⟨0, fun h => absurd h hu⟩
  exact ⟨fun u => Classical.choose (H u), fun u hu => Classical.choose_spec (H u) hu⟩
theorem WW.m {x m m' : zM} {c : Nat} {W : Nat → Int64} (h : WW x m c W) (e : SE m m') : WW x m' c W := fun u hu => ⟨(h u hu).1, fun M hM => (h u hu).2.1 M (fun r k g => (hM r k g).trans (e r k g)), (h u hu).2.2⟩
noncomputable def ovF (m : zM) (t c : Nat) (W : Nat → Int64) : zM := match t with
  | 0 => ovM0 m c (W 1) (W 2) (W 3)
  | 1 => ovM1 m c (W 0) (W 2) (W 3)
  | 2 => ovM2 m c (W 0) (W 1) (W 3)
  | _ => ovM3 m c (W 0) (W 1) (W 2)
noncomputable def lTf (x : zM) (t c : Nat) (W : Nat → Int64) : zM := lT x t ((t + 1) % 4) ((t + 2) % 4) ((t + 3) % 4) (bw (W ((t + 1) % 4)) c) (bw (W ((t + 2) % 4)) c) (bw (W ((t + 3) % 4)) c)
theorem t_four {t : Nat} (h : t < 4) : t = 0 ∨ t = 1 ∨ t = 2 ∨ t = 3 := by omega
theorem ov_go {x m : zM} {t c : Nat} {W : Nat → Int64} (hW : WW x m c W) (hA : a_H m) (ht4 : t < 4) (ht : m.1 50 45 = nI t) (hc : m.1 50 49 = nI c) : ∀ d, 701 ≤ d → z_C d mi_X7_over [.ref 50] m (fun r V => r = none ∧ SMj (ovF m t c W) V ∧ a_H V) := fun d hd => by
  have k : z_C d mi_X7_over [.ref 50] m (fun _ V => a_H V) := z_C_mono (a_use (i := 122) (K := ak_122) rfl (by omega) [.ref 50] m (aArg_pre ⟨⟨50, by decide, rfl⟩, trivial⟩ rfl) hA) (fun _ _ q => q.1)
  have g : z_C d mi_X7_over [.ref 50] m (fun r V => r = none ∧ SMj (ovF m t c W) V) := by
    obtain rfl | rfl | rfl | rfl := t_four ht4
    · exact gm_over0 d (by omega) m hA c hc ht _ (hW 1 (by decide)).2.1 _ (hW 2 (by decide)).2.1 _ (hW 3 (by decide)).2.1
    · exact gm_over1 d (by omega) m hA c hc ht _ (hW 0 (by decide)).2.1 _ (hW 2 (by decide)).2.1 _ (hW 3 (by decide)).2.1
    · exact gm_over2 d (by omega) m hA c hc ht _ (hW 0 (by decide)).2.1 _ (hW 1 (by decide)).2.1 _ (hW 3 (by decide)).2.1
    · exact gm_over3 d (by omega) m hA c hc ht _ (hW 0 (by decide)).2.1 _ (hW 1 (by decide)).2.1 _ (hW 2 (by decide)).2.1
  exact z_C_mono (zC_and d k g) (fun r V q => ⟨q.2.1, q.2.2, q.1⟩)
theorem ov_rq {x m : zM} {p t c : Nat} {W : Nat → Int64} (R : RCl x m) (P : RPh x m p t c) (hp : p = 2 ∨ p = 3) (hs : ∀ s, s < 4 → m.1 71 s = 0) : RCl (lTf x t c W) (ovF m t c W) ∧ RQ (lTf x t c W) (ovF m t c W) (if p = 2 then c else 34) ∧ (lTf x t c W).1 2 3 = (ovF m t c W).1 50 47 := by
  obtain rfl | rfl | rfl | rfl := t_four P.t4
  · exact ⟨rc_over0 R ((P.ow 0 (by decide)).trans (if_pos rfl)), rq_over0 P hp hs⟩
  · exact ⟨rc_over1 R ((P.ow 1 (by decide)).trans (if_pos rfl)), rq_over1 P hp hs⟩
  · exact ⟨rc_over2 R ((P.ow 2 (by decide)).trans (if_pos rfl)), rq_over2 P hp hs⟩
  · exact ⟨rc_over3 R ((P.ow 3 (by decide)).trans (if_pos rfl)), rq_over3 P hp hs⟩
theorem ovF_o {m : zM} {t c : Nat} {W : Nat → Int64} {r k : Nat} (h1 : r ≠ 70) (h2 : r ≠ 61) (h3 : r ≠ 50 ∨ (k ≠ 43 ∧ k ≠ 59)) : (ovF m t c W).1 r k = m.1 r k := by
  have U : ∀ (i : Nat) (a b e : Int32), (z_ui (z_ui (z_ui m 61 i a) 50 43 b) 50 59 e).1 r k = m.1 r k := fun i a b e => by
    by_cases q : r = 50
    · subst q; rw [ui_k (by first | decide | omega), ui_k (by first | decide | omega), ui_o h2]
    · rw [ui_o q, ui_o q, ui_o h2]
  unfold ovF
  split
  · unfold ovM0; cases decide (m.1 50 59 = 0)
    · rw [cond_false, lgM_o h1, lgM_o h1, lgM_o h1, U]
    · rw [cond_true, lgM_o h1, lgM_o h1, lgM_o h1]
  · unfold ovM1; cases decide (m.1 50 59 = 0)
    · rw [cond_false, lgM_o h1, lgM_o h1, lgM_o h1, U]
    · rw [cond_true, lgM_o h1, lgM_o h1, lgM_o h1]
  · unfold ovM2; cases decide (m.1 50 59 = 0)
    · rw [cond_false, lgM_o h1, lgM_o h1, lgM_o h1, U]
    · rw [cond_true, lgM_o h1, lgM_o h1, lgM_o h1]
  · unfold ovM3; cases decide (m.1 50 59 = 0)
    · rw [cond_false, lgM_o h1, lgM_o h1, lgM_o h1, U]
    · rw [cond_true, lgM_o h1, lgM_o h1, lgM_o h1]
/-- who may claim a SET: as the contracts ask -/
theorem mMC_0 {m : zM} {s : Nat} {v : Int32} : mMC (z_ui m 50 0 v) s = mMC m s := by
  unfold mMC anS
  simp (disch := first | decide | exact ad_ne (by decide) | exact ad_m (by decide) | exact ad_l (by decide) | exact ad_g (by decide) | exact ad_lt (by decide) | exact ad_o (by decide) | omega) only [ui_o, ui_k]
theorem mMC_e {m m' : zM} {s : Nat} (h : EqM m m') : mMC m' s = mMC m s := by
  have e : ∀ k, 40 ≤ k → k ≤ 59 → m'.1 50 k = m.1 50 k := fun k h1 h2 => (h 50 k (Or.inr ⟨rfl, h1, h2⟩)).1
  have e7 : ∀ k, m'.1 71 k = m.1 71 k := fun k => (h 71 k (Or.inl ⟨by decide, by decide⟩)).1
  unfold mMC anS
  rw [e 44 (by decide) (by decide), e 45 (by decide) (by decide), e 47 (by decide) (by decide), e 46 (by decide) (by decide), (h 67 s (Or.inl ⟨by decide, by decide⟩)).1, e7 0, e7 1, e7 2, e7 3]
theorem mC_x {μ : zM} {s : Nat} (hs : s < 4) {b : Bool} (h : xMC μ s = b) : ∀ d, 3 ≤ d → z_C d mi_X6_mayClaimSet [.ref 0, .int (nI s)] μ (zR μ (.int (nB b))) := fun d hd => by
  rw [← h]; exact gc_mayClaimSet d hd μ s hs
theorem mC_m {μ : zM} {s : Nat} (hs : s < 4) {b : Bool} (h : mMC μ s = b) : ∀ d, 2 ≤ d → z_C d mi_X7_mayClaim [.ref 50, .int (nI s)] (z_ui μ 50 0 0) (zR (z_ui μ 50 0 0) (.int (nB b))) := fun d hd => by
  rw [← h, ← mMC_0 (m := μ) (v := 0)]
  exact gm_mayClaim d hd (z_ui μ 50 0 0) s hs
theorem or_ff {a b : Bool} (h : (a || b) = false) : a = false ∧ b = false := by cases a <;> cases b <;> first | exact ⟨rfl, rfl⟩ | cases h
theorem not_t {a : Bool} (h : (!a) = true) : a = false := by cases a; rfl; cases h
theorem not_f {a : Bool} (h : (!a) = false) : a = true := by cases a; cases h; rfl
theorem an_z {m : zM} (h : anS m = false) : ∀ s, s < 4 → m.1 71 s = 0 := by
  unfold anS at h
  obtain ⟨a, h⟩ := or_ff h
  obtain ⟨b, h⟩ := or_ff h
  obtain ⟨c, h⟩ := or_ff h
  intro s hs
  obtain rfl | rfl | rfl | rfl := t_four hs
  · exact of_decide_eq_true (not_f a)
  · exact of_decide_eq_true (not_f b)
  · exact of_decide_eq_true (not_f c)
  · exact of_decide_eq_true (not_f h)
theorem mc_in {x m : zM} {s : Nat} (hR : RG x m) (h : mMC m s = true) : ∃ t c, RPh x m 2 t c ∧ c < 34 ∧ (∀ j, j < 4 → m.1 71 j = 0) ∧ decide (122 - m.1 50 47 - m.1 50 46 ≤ 0) = false ∧ decide (nI s = m.1 50 45) = false := by
  unfold mMC at h
  obtain ⟨a, h⟩ := z_and h
  obtain ⟨b, h⟩ := z_and h
  obtain ⟨c, h⟩ := z_and h
  obtain ⟨e, h⟩ := z_and h
  have a := of_decide_eq_true a
  rcases hR.2 with ⟨p1, p2, -, -, -⟩ | ⟨p, t, k, P⟩
  · rw [p2] at a; exact absurd a (by decide)
  · have hp : p = 2 := by
      rw [P.pm] at a
      rcases P.p3 with q | q | q
      · rw [q] at a; exact absurd a (by decide)
      · exact q
      · rw [q] at a; exact absurd a (by decide)
    subst hp
    refine ⟨t, k, P, ?_, an_z (not_t b), not_t c, not_t e⟩
    rcases P.c3 with q | ⟨_, q⟩
    · exact q
    · exact absurd q (by decide)
/-- a hand of which two tiles go has fewer than four SETS -/
theorem q3_of {μ : zM} {s q : Nat} (hG : GP μ) (hs : s < 4) (hp : ¬ μ.1 50 44 = 1) (hq : μ.1 64 s = nI q) (hq4 : q ≤ 4) (h2 : 2 ≤ hs9 μ s) : q ≤ 3 := by
  have g1 := hG.1.2 s hs
  have g3 : glim μ s ≤ 13 := by unfold glim; rw [if_neg (by intro z; exact hp z.1)]; decide
  have g5 : mI μ s = q := by unfold mI; rw [hq]; exact nI_toInt (by omega)
  unfold hs9 at h2
  omega
/-! three answers alike -/
set_option maxRecDepth 8000
theorem nI_le2 {a b : Nat} (ha : a < 1000) (hb : b < 1000) : decide (nI a ≤ nI b) = decide (a ≤ b) := by
  by_cases e : a ≤ b
  · rw [decide_eq_true e]; exact decide_eq_true (by rw [Int32.le_iff_toInt_le, nI_toInt (by omega), nI_toInt (by omega)]; omega)
  · rw [decide_eq_false e]; exact decide_eq_false (by rw [Int32.le_iff_toInt_le, nI_toInt (by omega), nI_toInt (by omega)]; omega)
theorem nI_lt2 {a b : Nat} (ha : a < 1000) (hb : b < 1000) : decide (nI a < nI b) = decide (a < b) := by
  by_cases e : a < b
  · rw [decide_eq_true e]; exact decide_eq_true (by rw [Int32.lt_iff_toInt_lt, nI_toInt (by omega), nI_toInt (by omega)]; omega)
  · rw [decide_eq_false e]; exact decide_eq_false (by rw [Int32.lt_iff_toInt_lt, nI_toInt (by omega), nI_toInt (by omega)]; omega)
theorem or_z (a : Int64) : a ||| 0 = a := by
  apply Int64.toBitVec_inj.mp
  rw [Int64.toBitVec_or]
  exact BitVec.or_zero
theorem m4_of {μ : zM} (hA : a_H μ) : ∀ j, j < 4 → (μ.1 64 j).toNatClampNeg ≤ 4 := fun j hj => by
  obtain ⟨a, b1, b2⟩ := i_nat (v := μ.1 64 j) (n := 4) (hA 64 j).1 (hA 64 j).2 (by decide)
  rw [b2, nI_clamp (by omega)]; exact b1
theorem isS_x {μ : zM} {y : Int32} (h : ¬ vp_in y 4) : ∀ d, 1 ≤ d → z_C d mi_X6_isSeat [.int y] μ (zR μ (.int 0)) := fun d hd => by
  have z := gc_isSeat d hd μ y
  rw [show (!(decide (y < 0)) && (!(decide (4 ≤ y)))) = false from sI_no h] at z
  exact z
theorem lg_three {d : Nat} (hd : 705 ≤ d) {μ : zM} (h : LGm μ) (x : Int32) : GO d mi_X6_three mi_X7_three [.ref 0, .int x] [.ref 50, .int x] μ := by
  obtain ⟨hJ, hR⟩ := h
  have kx : z_C d mi_X6_three [.ref 0, .int x] μ (fun _ μ' => LJ μ' ∧ EqM μ μ') := lg_k (i := 62) (K := ak_62) rfl (by omega) (by decide +kernel) (by decide +kernel) rfl (by decide +kernel) [.ref 0, .int x] μ hJ ⟨⟨0, by decide, rfl⟩, ⟨_, rfl, bI_top _⟩, trivial⟩
  have km : ∀ μ1, LJ μ1 → z_C d mi_X7_three [.ref 50, .int x] μ1 (fun _ μ' => LJ μ' ∧ EqX μ1 μ') := fun μ1 h1 => lg_g h1 (fc_X7_three d (by omega) μ1 x h1.1)
  have hA := hJ.1.1
  by_cases hx : vp_in x 4
  · obtain ⟨s, hs, rfl⟩ := vp_in_of hx (by decide)
    have eq := mc_eq hR hs
    cases hm : mMC μ s with
    | false => exact go_no hR kx km (gx_three d (by omega) μ _ (mC_x hs (eq.trans hm))) (mr_three d (by omega) μ _ (mC_m hs hm))
    | true =>
      have hx1 := mC_x hs (eq.trans hm)
      have hm1 := mC_m hs hm
      obtain ⟨t, c, P, hc, hsy, -⟩ := mc_in hR hm
      have R := hR.1
      have hp0 : ¬ μ.1 50 44 = 0 := by rw [P.pm]; decide
      have hp1 : ¬ μ.1 50 44 = 1 := by rw [P.pm]; decide
      have G := hJ.1.2.2 hp0
      have ht4 := P.t4
      obtain ⟨W, hW⟩ := ww_of R P hA G hc
      obtain ⟨w, aw, q, sL, lL, H⟩ := hf_of R P hA G hs
      have cx : μ.1 0 15 = nI c := P.cx.trans (if_neg (by omega))
      have cm : μ.1 50 49 = nI c := P.cm.trans (if_neg (by omega))
      have hwc := H.1.1 c hc
      have fx : fr μ (20 + 8 * s) (nI c) = nI (w c) := by rw [fr_yes hc, R.hd s c hs hc]; exact hwc.1
      by_cases h2 : 2 ≤ w c
      · have f2 : decide (2 ≤ fr μ (20 + 8 * s) (nI c)) = true := by rw [fx]; exact (nI_le2 (a := 2) (by decide) (by omega)).trans (decide_eq_true h2)
        have hq3 : q ≤ 3 := q3_of G hs hp1 H.1.2.1 H.1.2.2.1 (by
          have g2 := G.1.le hs hc
          have g4 : hI μ (34 * s + c) = w c := by unfold hI; rw [hwc.1]; exact nI_toInt (by omega)
          unfold hs9
          omega)
        cases hk : kA (koF μ s 0 ((1 : Int64) <<< ((nI c).toInt64 &&& 63))) 34 with
        | true =>
          have hko : ∀ d, 3 ≤ d → z_C d mi_X6_keepsOther [.ref (19 + 8 * s), .long 0, .long (1 <<< ((nI c).toInt64 &&& 63))] μ (zR μ (.int (nB true))) := fun d hd => by rw [← hk]; exact gc_keepsOther d (by omega) μ s hs _ _
          refine go_yes (X := z_uj (tkS μ s c q 1 t c ((t + 1) % 4) ((t + 2) % 4) ((t + 3) % 4) (bw (W ((t + 1) % 4)) c) (bw (W ((t + 2) % 4)) c) (bw (W ((t + 3) % 4)) c)) 0 18 (1 <<< ((nI c).toInt64 &&& 63))) (y := 1) kx km (z_C_mono (gc_three d (by omega) μ s q hs hq3 H.2.2.2.1 t c ((t + 1) % 4) ((t + 2) % 4) ((t + 3) % 4) _ _ _ ht4 P.tx hc cx rfl (Nat.mod_lt _ (by decide)) (hW ((t + 1) % 4) (Nat.mod_lt _ (by decide))).1 rfl (Nat.mod_lt _ (by decide)) (hW ((t + 2) % 4) (Nat.mod_lt _ (by decide))).1 rfl (Nat.mod_lt _ (by decide)) (hW ((t + 3) % 4) (Nat.mod_lt _ (by decide))).1 (by rw [show zl 1 = 0 from by decide]; omega) true hx1 true hko) (fun r μ' z => ?_)) (fun μ1 h1 qM => ?_)
          · rw [f2] at z
            simp only [cond_true, cond_false] at z
            exact ⟨z.1, by rw [z.2]; exact eqX_rf _⟩
          · have E : ∀ r k', gMc r k' → μ1.1 r k' = μ.1 r k' := fun r k' g => (qM r k' g).1
            have eB : EqB μ (z_giv (z_giv (z_ui (z_ui (z_ui μ1 50 0 0) 50 50 (nI c)) 50 51 (-1)) s c (-2)) s c 2) := eB_tr (eB_M qM) (eB_tr (eB_0 μ1 0) (eB_tr (eB_50 _ _ _) (eB_g (by decide))))
            have hA' : a_H (z_giv (z_giv (z_ui (z_ui (z_ui μ1 50 0 0) 50 50 (nI c)) 50 51 (-1)) s c (-2)) s c 2) := a_H_ui (a_H_ui (a_H_ui (a_H_ui (a_H_ui h1.1.1 (bI_top _)) (bI_top _)) (bI_top _)) (bI_top _)) (bI_top _)
            have e50 : (z_giv (z_giv (z_ui (z_ui (z_ui μ1 50 0 0) 50 50 (nI c)) 50 51 (-1)) s c (-2)) s c 2).1 50 50 = nI c := by rw [giv_o (by decide), giv_o (by decide), ui_k (by decide), ui_s]
            have e51 : (z_giv (z_giv (z_ui (z_ui (z_ui μ1 50 0 0) 50 50 (nI c)) 50 51 (-1)) s c (-2)) s c 2).1 50 51 = -1 := by rw [giv_o (by decide), giv_o (by decide), ui_s]
            have hcd : ∀ d, 2 ≤ d → z_C d mi_X7_canDiscard [.ref 50, .int (nI s)] (z_giv (z_ui (z_ui (z_ui μ1 50 0 0) 50 50 (nI c)) 50 51 (-1)) s c (-2)) (zR (z_giv (z_ui (z_ui (z_ui μ1 50 0 0) 50 50 (nI c)) 50 51 (-1)) s c (-2)) (.int (nB true))) := fun d hd => by
              have z := gm_canDiscard d hd (z_giv (z_ui (z_ui (z_ui μ1 50 0 0) 50 50 (nI c)) 50 51 (-1)) s c (-2)) s hs
              rw [← ko_three (x := μ) (R.cg (eqX_rf _) qM) hs hc, hk] at z
              exact z
            revert eB hA' e50 e51
            generalize hM : z_giv (z_giv (z_ui (z_ui (z_ui μ1 50 0 0) 50 50 (nI c)) 50 51 (-1)) s c (-2)) s c 2 = M
            intro eB hA' e50 e51
            have R' := R.cgB eB
            have P' := P.cgB eB (by decide)
            have ov := ov_go (hW.m (eB_SE eB)) hA' ht4 P'.tm (P'.cm.trans (if_neg (by omega)))
            obtain ⟨RO, QO, fO⟩ := ov_rq (W := W) R' P' (Or.inl rfl) (fun j hj => (eB 71 j (Or.inl ⟨by decide, by decide⟩) (by omega)).1.trans (hsy j hj))
            rw [if_pos rfl] at QO
            have o64 : ∀ j, (ovF M t c W).1 64 j = μ.1 64 j := fun j => (ovF_o (by decide) (by decide) (Or.inl (by decide))).trans (eB 64 j (Or.inl ⟨by decide, by decide⟩) (by omega)).1
            have o49 : (ovF M t c W).1 50 49 = nI c := (ovF_o (by decide) (by decide) (Or.inr ⟨by decide, by decide⟩)).trans (P'.cm.trans (if_neg (by omega)))
            refine z_C_mono (gm_three d (by omega) μ1 s c q hs hc ((E 50 49 (Or.inr ⟨rfl, by decide, by decide⟩)).trans cm) (by omega) true (mC_m hs ((mMC_e qM).trans hm)) true hcd (ovF M t c W) (fun d hd => by rw [hM]; exact z_C_mono (ov d hd) (fun r V z => ⟨z.1, z.2.1⟩)) o49 ((o64 s).trans H.1.2.1)) (fun r μ' z => ?_)
            rcases z with ⟨-, z2, z3⟩ | ⟨z1, -, -⟩
            · refine ⟨z2, ?_⟩
              have g := rg_three (bs := (1 : Int64) <<< ((nI c).toInt64 &&& 63)) RO QO fO hs hc hq3 ((o64 s).trans H.1.2.1) (fun j hj => by rw [o64]; exact m4_of hA j hj) (by rw [ovF_o (by decide) (by decide) (Or.inr ⟨by decide, by decide⟩), ovF_o (by decide) (by decide) (Or.inr ⟨by decide, by decide⟩), e50, e51, show decide ((-1 : Int32) = -1) = true from by decide, cond_true, or_z]) ⟨c, hc, (ovF_o (by decide) (by decide) (Or.inr ⟨by decide, by decide⟩)).trans e50, Or.inl ((ovF_o (by decide) (by decide) (Or.inr ⟨by decide, by decide⟩)).trans e51)⟩
              exact RG.cg (eqX_rf _) (sm_EqM z3) g
            · exfalso
              have y : decide (2 ≤ μ1.1 60 (34 * s + c)) = true := by rw [E 60 _ (Or.inl ⟨by decide, by decide⟩), hwc.1]; exact (nI_le2 (a := 2) (by decide) (by omega)).trans (decide_eq_true h2)
              unfold thC at z1
              rw [y] at z1
              cases z1
        | false =>
          have hko : ∀ d, 3 ≤ d → z_C d mi_X6_keepsOther [.ref (19 + 8 * s), .long 0, .long (1 <<< ((nI c).toInt64 &&& 63))] μ (zR μ (.int (nB false))) := fun d hd => by rw [← hk]; exact gc_keepsOther d (by omega) μ s hs _ _
          refine go_yes (X := μ) (y := 0) kx km (z_C_mono (gc_three d (by omega) μ s q hs hq3 H.2.2.2.1 t c ((t + 1) % 4) ((t + 2) % 4) ((t + 3) % 4) _ _ _ ht4 P.tx hc cx rfl (Nat.mod_lt _ (by decide)) (hW ((t + 1) % 4) (Nat.mod_lt _ (by decide))).1 rfl (Nat.mod_lt _ (by decide)) (hW ((t + 2) % 4) (Nat.mod_lt _ (by decide))).1 rfl (Nat.mod_lt _ (by decide)) (hW ((t + 3) % 4) (Nat.mod_lt _ (by decide))).1 (by rw [show zl 1 = 0 from by decide]; omega) true hx1 false hko) (fun r μ' z => ?_)) (fun μ1 h1 qM => ?_)
          · rw [f2] at z
            simp only [cond_true, cond_false] at z
            exact ⟨z.1, by rw [z.2]; exact eqX_rf _⟩
          · have E : ∀ r k', gMc r k' → μ1.1 r k' = μ.1 r k' := fun r k' g => (qM r k' g).1
            have eB : EqB μ (z_giv (z_giv (z_ui (z_ui (z_ui μ1 50 0 0) 50 50 (nI c)) 50 51 (-1)) s c (-2)) s c 2) := eB_tr (eB_M qM) (eB_tr (eB_0 μ1 0) (eB_tr (eB_50 _ _ _) (eB_g (by decide))))
            have hA' : a_H (z_giv (z_giv (z_ui (z_ui (z_ui μ1 50 0 0) 50 50 (nI c)) 50 51 (-1)) s c (-2)) s c 2) := a_H_ui (a_H_ui (a_H_ui (a_H_ui (a_H_ui h1.1.1 (bI_top _)) (bI_top _)) (bI_top _)) (bI_top _)) (bI_top _)
            have hcd : ∀ d, 2 ≤ d → z_C d mi_X7_canDiscard [.ref 50, .int (nI s)] (z_giv (z_ui (z_ui (z_ui μ1 50 0 0) 50 50 (nI c)) 50 51 (-1)) s c (-2)) (zR (z_giv (z_ui (z_ui (z_ui μ1 50 0 0) 50 50 (nI c)) 50 51 (-1)) s c (-2)) (.int (nB false))) := fun d hd => by
              have z := gm_canDiscard d hd (z_giv (z_ui (z_ui (z_ui μ1 50 0 0) 50 50 (nI c)) 50 51 (-1)) s c (-2)) s hs
              rw [← ko_three (x := μ) (R.cg (eqX_rf _) qM) hs hc, hk] at z
              exact z
            revert eB hA'
            generalize hM : z_giv (z_giv (z_ui (z_ui (z_ui μ1 50 0 0) 50 50 (nI c)) 50 51 (-1)) s c (-2)) s c 2 = M
            intro eB hA'
            have R' := R.cgB eB
            have P' := P.cgB eB (by decide)
            have ov := ov_go (hW.m (eB_SE eB)) hA' ht4 P'.tm (P'.cm.trans (if_neg (by omega)))
            have o64 : ∀ j, (ovF M t c W).1 64 j = μ.1 64 j := fun j => (ovF_o (by decide) (by decide) (Or.inl (by decide))).trans (eB 64 j (Or.inl ⟨by decide, by decide⟩) (by omega)).1
            have o49 : (ovF M t c W).1 50 49 = nI c := (ovF_o (by decide) (by decide) (Or.inr ⟨by decide, by decide⟩)).trans (P'.cm.trans (if_neg (by omega)))
            have z := gm_three d (by omega) μ1 s c q hs hc ((E 50 49 (Or.inr ⟨rfl, by decide, by decide⟩)).trans cm) (by omega) true (mC_m hs ((mMC_e qM).trans hm)) false hcd (ovF M t c W) (fun d hd => by rw [hM]; exact z_C_mono (ov d hd) (fun r V z => ⟨z.1, z.2.1⟩)) o49 ((o64 s).trans H.1.2.1)
            rw [hM] at z
            refine z_C_mono z (fun r μ' z => ?_)
            rcases z with ⟨z1, -, -⟩ | ⟨-, z2, z3⟩
            · exfalso
              unfold thC at z1
              rw [Bool.and_false] at z1
              cases z1
            · refine ⟨z2, ?_⟩
              rcases z3 with z3 | z3
              · rw [z3]; exact RG.cgB2 R P (eB_tr (eB_M qM) (eB_0 μ1 0))
              · rw [z3]; exact RG.cgB2 R P eB
      · have f2 : decide (2 ≤ nI (w c)) = false := (nI_le2 (a := 2) (by decide) (by omega)).trans (decide_eq_false h2)
        exact go_no hR kx km (gx_threeF d (by omega) μ s c hs cx hx1 (by rw [fx]; exact f2)) (mr_threeH d (by omega) μ s c hs hc cm hm1 (by rw [hwc.1]; exact f2))
  · exact go_no hR kx km (gx_three d (by omega) μ x (fun d hd => z_C_mono (gx_mayClaim d (by omega) μ x (isS_x hx)) (fun r m z => ⟨z.2, z.1⟩))) (mr_three d (by omega) μ x (fun d hd => z_C_mono (mr_mayClaim d (by omega) _ x (isS_no hx)) (fun r m z => ⟨z.2, z.1⟩)))
/-! four answers alike -/
set_option maxRecDepth 8000
theorem lg_four {d : Nat} (hd : 705 ≤ d) {μ : zM} (h : LGm μ) (x : Int32) : GO d mi_X6_four mi_X7_four [.ref 0, .int x] [.ref 50, .int x] μ := by
  obtain ⟨hJ, hR⟩ := h
  have kx : z_C d mi_X6_four [.ref 0, .int x] μ (fun _ μ' => LJ μ' ∧ EqM μ μ') := lg_k (i := 63) (K := ak_63) rfl (by omega) (by decide +kernel) (by decide +kernel) rfl (by decide +kernel) [.ref 0, .int x] μ hJ ⟨⟨0, by decide, rfl⟩, ⟨_, rfl, bI_top _⟩, trivial⟩
  have km : ∀ μ1, LJ μ1 → z_C d mi_X7_four [.ref 50, .int x] μ1 (fun _ μ' => LJ μ' ∧ EqX μ1 μ') := fun μ1 h1 => lg_g h1 (fc_X7_four d (by omega) μ1 x h1.1)
  have hA := hJ.1.1
  by_cases hx : vp_in x 4
  · obtain ⟨s, hs, rfl⟩ := vp_in_of hx (by decide)
    have eq := mc_eq hR hs
    cases hm : mMC μ s with
    | false => exact go_no hR kx km (gx_four d (by omega) μ _ (mC_x hs (eq.trans hm))) (mr_four d (by omega) μ _ (mC_m hs hm))
    | true =>
      have hx1 := mC_x hs (eq.trans hm)
      have hm1 := mC_m hs hm
      obtain ⟨t, c, P, hc, hsy, -⟩ := mc_in hR hm
      have R := hR.1
      have hp0 : ¬ μ.1 50 44 = 0 := by rw [P.pm]; decide
      have hp1 : ¬ μ.1 50 44 = 1 := by rw [P.pm]; decide
      have G := hJ.1.2.2 hp0
      have ht4 := P.t4
      obtain ⟨W, hW⟩ := ww_of R P hA G hc
      obtain ⟨w, aw, q, sL, lL, H⟩ := hf_of R P hA G hs
      have cx : μ.1 0 15 = nI c := P.cx.trans (if_neg (by omega))
      have cm : μ.1 50 49 = nI c := P.cm.trans (if_neg (by omega))
      have hwc := H.1.1 c hc
      have fx : fr μ (20 + 8 * s) (nI c) = nI (w c) := by rw [fr_yes hc, R.hd s c hs hc]; exact hwc.1
      by_cases h2 : w c < 3
      · have f2 : decide (nI (w c) < 3) = true := (nI_lt2 (b := 3) (by omega) (by decide)).trans (decide_eq_true h2)
        exact go_no hR kx km (gx_fourF d (by omega) μ s c hs cx hx1 (by rw [fx]; exact f2)) (mr_fourH d (by omega) μ s c hs hc cm hm1 (by rw [hwc.1]; exact f2))
      · have f2 : decide (nI (w c) < 3) = false := (nI_lt2 (b := 3) (by omega) (by decide)).trans (decide_eq_false h2)
        have hq3 : q ≤ 3 := q3_of G hs hp1 H.1.2.1 H.1.2.2.1 (by
          have g2 := G.1.le hs hc
          have g4 : hI μ (34 * s + c) = w c := by unfold hI; rw [hwc.1]; exact nI_toInt (by omega)
          unfold hs9
          omega)
        obtain ⟨n, hn1, hn2⟩ := i_nat (v := μ.1 50 47) (n := 4) (hA 50 47).1 (hA 50 47).2 (by decide)
        obtain ⟨k2, hk2a, hk2b⟩ := i_nat (v := μ.1 59 (122 + n)) (n := 33) (hA 59 _).1 (hA 59 _).2 (by decide)
        have hk2 : k2 < 34 := by omega
        have e48 : μ.1 50 48 = nI n := G.2.2.1.trans hn2
        have cc := gc_four d (by omega) μ s q hs hq3 H.2.2.2.1 n k2 (by omega) (P.fo.trans hn2) (R.sd.trans P.is) hk2 ((R.wl _ (by omega)).trans hk2b) t c ((t + 1) % 4) ((t + 2) % 4) ((t + 3) % 4) _ _ _ ht4 P.tx hc cx rfl (Nat.mod_lt _ (by decide)) (hW ((t + 1) % 4) (Nat.mod_lt _ (by decide))).1 rfl (Nat.mod_lt _ (by decide)) (hW ((t + 2) % 4) (Nat.mod_lt _ (by decide))).1 rfl (Nat.mod_lt _ (by decide)) (hW ((t + 3) % 4) (Nat.mod_lt _ (by decide))).1 (by rw [show zl 2 = 0 from by decide]; omega) true hx1
        rw [fx, f2, P.fo, hn2] at cc
        have mm : ∀ μ1, LJ μ1 → EqM μ μ1 → z_C d mi_X7_four [.ref 50, .int (nI s)] μ1 (fun r μ' => (foC μ1 s c true = true ∧ r = some (.int 1) ∧ SMj (dM1 (z_ui (toM (z_lys (z_giv (ovF (z_ui μ1 50 0 0) t c W) s c (-3)) s q 2 (nI c))) 50 47 ((ovF (z_ui μ1 50 0 0) t c W).1 50 47 + 1)) s n k2) μ') ∨ (foC μ1 s c true = false ∧ r = some (.int 0) ∧ μ' = z_ui μ1 50 0 0)) := fun μ1 h1 qM => by
          have E : ∀ r k', gMc r k' → μ1.1 r k' = μ.1 r k' := fun r k' g => (qM r k' g).1
          have eB : EqM μ (z_ui μ1 50 0 0) := eqM_tr qM (t0_EqM μ1 0)
          have P' := P.cg (eqX_rf _) eB
          have o : ∀ r k, gMc r k → r ≠ 70 → r ≠ 61 → (r ≠ 50 ∨ (k ≠ 43 ∧ k ≠ 59)) → (ovF (z_ui μ1 50 0 0) t c W).1 r k = μ.1 r k := fun r k g z1 z2 z3 => (ovF_o z1 z2 z3).trans (eB r k g).1
          have ov := ov_go (hW.m (eB_SE (eB_M eB))) (a_H_ui h1.1.1 (bI_top _)) ht4 P'.tm (P'.cm.trans (if_neg (by omega)))
          exact gm_four d (by omega) μ1 s c q n k2 hs hc ((E 50 49 (Or.inr ⟨rfl, by decide, by decide⟩)).trans cm) (by omega) true (mC_m hs ((mMC_e qM).trans hm)) (ovF (z_ui μ1 50 0 0) t c W) (fun d hd => z_C_mono (ov d hd) (fun r V z => ⟨z.1, z.2.1⟩)) ((o 50 49 (Or.inr ⟨rfl, by decide, by decide⟩) (by decide) (by decide) (Or.inr ⟨by decide, by decide⟩)).trans cm) ((o 64 s (Or.inl ⟨by decide, by decide⟩) (by decide) (by decide) (Or.inl (by decide))).trans H.1.2.1) (by omega) ((o 50 48 (Or.inr ⟨rfl, by decide, by decide⟩) (by decide) (by decide) (Or.inr ⟨by decide, by decide⟩)).trans e48) hk2 ((o 59 _ (Or.inl ⟨by decide, by decide⟩) (by decide) (by decide) (Or.inl (by decide))).trans hk2b)
        by_cases hn4 : n < 4
        · have f4 : decide (nI n < 4) = true := (nI_lt2 (b := 4) (by omega) (by decide)).trans (decide_eq_true hn4)
          rw [f4] at cc
          simp only [cond_true, cond_false] at cc
          refine go_yes (X := dT1 (bkH (tkS μ s c q 2 t c ((t + 1) % 4) ((t + 2) % 4) ((t + 3) % 4) (bw (W ((t + 1) % 4)) c) (bw (W ((t + 2) % 4)) c) (bw (W ((t + 3) % 4)) c))) s n k2) (y := 1) kx km (z_C_mono cc (fun r μ' z => ⟨z.1, by rw [z.2]; exact eqX_rf _⟩)) (fun μ1 h1 qM => z_C_mono (mm μ1 h1 qM) (fun r μ' z => ?_))
          have E : ∀ r k', gMc r k' → μ1.1 r k' = μ.1 r k' := fun r k' g => (qM r k' g).1
          have eB : EqM μ (z_ui μ1 50 0 0) := eqM_tr qM (t0_EqM μ1 0)
          rcases z with ⟨-, z2, z3⟩ | ⟨z1, -, -⟩
          · refine ⟨z2, ?_⟩
            revert eB z3
            generalize z_ui μ1 50 0 0 = M
            intro eB z3
            have R' := R.cg (eqX_rf _) eB
            have P' := P.cg (eqX_rf _) eB
            have o : ∀ r k, gMc r k → r ≠ 70 → r ≠ 61 → (r ≠ 50 ∨ (k ≠ 43 ∧ k ≠ 59)) → (ovF M t c W).1 r k = μ.1 r k := fun r k g z1 z2 z3 => (ovF_o z1 z2 z3).trans (eB r k g).1
            obtain ⟨RO, QO, fO⟩ := ov_rq (W := W) R' P' (Or.inl rfl) (fun j hj => (eB 71 j (Or.inl ⟨by decide, by decide⟩)).1.trans (hsy j hj))
            rw [if_pos rfl] at QO
            have g := rg_four (n := n) (k2 := k2) RO QO hs hc hq3 ((o 64 s (Or.inl ⟨by decide, by decide⟩) (by decide) (by decide) (Or.inl (by decide))).trans H.1.2.1) (fun j hj => by rw [o 64 j (Or.inl ⟨by decide, by decide⟩) (by decide) (by decide) (Or.inl (by decide))]; exact m4_of hA j hj) hn4 ((o 50 47 (Or.inr ⟨rfl, by decide, by decide⟩) (by decide) (by decide) (Or.inr ⟨by decide, by decide⟩)).trans hn2) ((o 50 48 (Or.inr ⟨rfl, by decide, by decide⟩) (by decide) (by decide) (Or.inr ⟨by decide, by decide⟩)).trans e48) hk2 ((o 59 _ (Or.inl ⟨by decide, by decide⟩) (by decide) (by decide) (Or.inl (by decide))).trans hk2b) (by rw [o 50 46 (Or.inr ⟨rfl, by decide, by decide⟩) (by decide) (by decide) (Or.inr ⟨by decide, by decide⟩)]; exact hA 50 46) (by
              rw [giv_60, o 60 _ (Or.inl ⟨by decide, by decide⟩) (by decide) (by decide) (Or.inl (by decide)), (H.1.1 k2 hk2).1]
              by_cases e : 34 * s + k2 = 34 * s + c
              · have e : k2 = c := by omega
                rw [if_pos (by omega), e]
                obtain e4 | e4 : w c = 3 ∨ w c = 4 := by omega
                · rw [e4]; decide
                · rw [e4]; decide
              · rw [if_neg e]; exact of_decide_eq_false (kn_m1 (by have := (H.1.1 k2 hk2).2; omega)))
            exact RG.cg (eqX_rf _) (sm_EqM z3) g
          · exfalso
            unfold foC at z1
            rw [E 60 _ (Or.inl ⟨by decide, by decide⟩), hwc.1, f2, E 50 47 (Or.inr ⟨rfl, by decide, by decide⟩), hn2, show decide (nI n = 4) = false from decide_eq_false (fun e => by have := (nI_eq (a := n) (b := 4) (by omega) (by decide)).mp e; omega)] at z1
            cases z1
        · have f4 : decide (nI n < 4) = false := (nI_lt2 (b := 4) (by omega) (by decide)).trans (decide_eq_false hn4)
          rw [f4] at cc
          simp only [cond_true, cond_false] at cc
          refine go_no hR kx km cc (z_C_mono (mm μ hJ (eqM_rf _)) (fun r μ' z => ?_))
          rcases z with ⟨z1, -, -⟩ | ⟨-, z2, z3⟩
          · exfalso
            obtain rfl : n = 4 := by omega
            unfold foC at z1
            rw [hn2, show decide (nI 4 = 4) = true from by decide, Bool.not_true, Bool.and_false] at z1
            cases z1
          · exact ⟨z2, z3⟩
  · exact go_no hR kx km (gx_four d (by omega) μ x (fun d hd => z_C_mono (gx_mayClaim d (by omega) μ x (isS_x hx)) (fun r m z => ⟨z.2, z.1⟩))) (mr_four d (by omega) μ x (fun d hd => z_C_mono (mr_mayClaim d (by omega) _ x (isS_no hx)) (fun r m z => ⟨z.2, z.1⟩)))
/-! run answers alike: what may not be discarded -/
set_option maxRecDepth 8000
noncomputable def abL0 (l : Nat) : Int32 := (bif decide (6 ≤ ((nI l) - (nI l) / 9 * 9)) then (-1 : Int32) else nI (l + 3))
noncomputable def oeL0 (l : Nat) : Int64 := (bif srB (nI l + 1) then (1 : Int64) <<< ((nI l + 3).toInt64 &&& 63) else 0)
noncomputable def bsL0 (l : Nat) : Int64 := ((1 : Int64) <<< ((nI l).toInt64 &&& 63)) ||| oeL0 l
noncomputable def usL0 (l : Nat) : Int64 := ((7 : Int64) <<< ((nI l).toInt64 &&& 63)) &&& (((1 : Int64) <<< ((nI l).toInt64 &&& 63)) ^^^ (-1))
theorem oe_eq0 : ∀ l, l < 32 → (bif decide ((nI l) = nI l) then bif srB (nI l + 1) then 1 <<< ((nI l + 3).toInt64 &&& 63) else bif decide ((nI l) = (nI l + 2)) then bif decide (nI l ≤ 0) then (0 : Int64) else bif srB (nI l - 1) then 1 <<< ((nI l - 1).toInt64 &&& 63) else 0 else 0 else bif decide ((nI l) = (nI l + 2)) then bif decide (nI l ≤ 0) then (0 : Int64) else bif srB (nI l - 1) then 1 <<< ((nI l - 1).toInt64 &&& 63) else 0 else 0) = oeL0 l := by decide +kernel
theorem us_hd0 : ∀ l, l < 32 → ∀ k, k < 34 → xHd (usL0 l) (nI k) = (decide (k = (l + 1)) || decide (k = (l + 2))) := by decide +kernel
theorem bs_hd0 : ∀ l, l < 32 → srB (nI l) = true → ∀ k, k < 34 → xHd (bsL0 l) (nI k) = (decide (nI k = nI l) || decide (nI k = abL0 l)) := by decide +kernel
theorem bs_eq0 : ∀ l, l < 32 → srB (nI l) = true → bsL0 l = (((1 : Int64) <<< ((nI l).toInt64 &&& 63)) ||| (bif decide (abL0 l = -1) then (0 : Int64) else 1 <<< ((abL0 l).toInt64 &&& 63))) := by decide +kernel
theorem ab_k0 (l : Nat) (hl : l < 32) (h : srB (nI l) = true) : abL0 l = -1 ∨ ∃ e, e < 34 ∧ abL0 l = nI e := by
  have z := (show ∀ l, l < 32 → srB (nI l) = true → (decide (abL0 l = -1) || (decide (0 ≤ (abL0 l).toInt) && decide ((abL0 l).toInt < 34))) = true by decide +kernel) l hl h
  rw [Bool.or_eq_true] at z
  rcases z with q | q
  · exact Or.inl (of_decide_eq_true q)
  · obtain ⟨q1, q2⟩ := z_and q
    obtain ⟨e, he, q3⟩ := i_nat (n := 33) (of_decide_eq_true q1) (by have := of_decide_eq_true q2; omega) (by decide)
    exact Or.inr ⟨e, by omega, q3⟩
theorem ko_run0 {x m : zM} (R : RCl x m) {s l : Nat} (hs : s < 4) (hl : l + 2 ≤ 33) (hsr : srB (nI l) = true) : kA (koF x s (usL0 l) (bsL0 l)) 34 = kA (cdF (z_giv (z_giv (z_ui (z_ui (z_ui m 50 0 0) 50 50 (nI l)) 50 51 (abL0 l)) s (l + 1) (-1)) s (l + 2) (-1)) s) 34 := by
  refine kA_cg (fun k hk => ?_)
  have e50 : (z_giv (z_giv (z_ui (z_ui (z_ui m 50 0 0) 50 50 (nI l)) 50 51 (abL0 l)) s (l + 1) (-1)) s (l + 2) (-1)).1 50 50 = nI l := by rw [giv_o (by decide), giv_o (by decide), ui_k (by decide), ui_s]
  have e51 : (z_giv (z_giv (z_ui (z_ui (z_ui m 50 0 0) 50 50 (nI l)) 50 51 (abL0 l)) s (l + 1) (-1)) s (l + 2) (-1)).1 50 51 = abL0 l := by rw [giv_o (by decide), giv_o (by decide), ui_s]
  unfold koF cdF
  rw [us_hd0 l (by omega) k hk, bs_hd0 l (by omega) hsr k hk, R.hd s k hs hk, e50, e51, giv_60, giv_60, ui_o (by decide), ui_o (by decide), ui_o (by decide), Bool.not_or]
  by_cases ea : k = (l + 1)
  · rw [decide_eq_true ea, if_neg (by omega), if_pos (by omega), Bool.true_or, show nB true = 1 from rfl, sub1]
  · by_cases eb : k = (l + 2)
    · rw [decide_eq_true eb, if_pos (by omega), if_neg (by omega), Bool.or_true, show nB true = 1 from rfl, sub1]
    · rw [decide_eq_false ea, decide_eq_false eb, if_neg (by omega), if_neg (by omega), Bool.false_or, show nB false = 0 from rfl, Int32.sub_zero]
noncomputable def abL1 (l : Nat) : Int32 := ((-1 : Int32))
noncomputable def oeL1 (l : Nat) : Int64 := ((0 : Int64))
noncomputable def bsL1 (l : Nat) : Int64 := ((1 : Int64) <<< ((nI (l + 1)).toInt64 &&& 63)) ||| oeL1 l
noncomputable def usL1 (l : Nat) : Int64 := ((7 : Int64) <<< ((nI l).toInt64 &&& 63)) &&& (((1 : Int64) <<< ((nI (l + 1)).toInt64 &&& 63)) ^^^ (-1))
theorem oe_eq1 : ∀ l, l < 32 → (bif decide ((nI (l + 1)) = nI l) then bif srB (nI l + 1) then 1 <<< ((nI l + 3).toInt64 &&& 63) else bif decide ((nI (l + 1)) = (nI l + 2)) then bif decide (nI l ≤ 0) then (0 : Int64) else bif srB (nI l - 1) then 1 <<< ((nI l - 1).toInt64 &&& 63) else 0 else 0 else bif decide ((nI (l + 1)) = (nI l + 2)) then bif decide (nI l ≤ 0) then (0 : Int64) else bif srB (nI l - 1) then 1 <<< ((nI l - 1).toInt64 &&& 63) else 0 else 0) = oeL1 l := by decide +kernel
theorem us_hd1 : ∀ l, l < 32 → ∀ k, k < 34 → xHd (usL1 l) (nI k) = (decide (k = l) || decide (k = (l + 2))) := by decide +kernel
theorem bs_hd1 : ∀ l, l < 32 → srB (nI l) = true → ∀ k, k < 34 → xHd (bsL1 l) (nI k) = (decide (nI k = nI (l + 1)) || decide (nI k = abL1 l)) := by decide +kernel
theorem bs_eq1 : ∀ l, l < 32 → srB (nI l) = true → bsL1 l = (((1 : Int64) <<< ((nI (l + 1)).toInt64 &&& 63)) ||| (bif decide (abL1 l = -1) then (0 : Int64) else 1 <<< ((abL1 l).toInt64 &&& 63))) := by decide +kernel
theorem ab_k1 (l : Nat) (hl : l < 32) (h : srB (nI l) = true) : abL1 l = -1 ∨ ∃ e, e < 34 ∧ abL1 l = nI e := by
  have z := (show ∀ l, l < 32 → srB (nI l) = true → (decide (abL1 l = -1) || (decide (0 ≤ (abL1 l).toInt) && decide ((abL1 l).toInt < 34))) = true by decide +kernel) l hl h
  rw [Bool.or_eq_true] at z
  rcases z with q | q
  · exact Or.inl (of_decide_eq_true q)
  · obtain ⟨q1, q2⟩ := z_and q
    obtain ⟨e, he, q3⟩ := i_nat (n := 33) (of_decide_eq_true q1) (by have := of_decide_eq_true q2; omega) (by decide)
    exact Or.inr ⟨e, by omega, q3⟩
theorem ko_run1 {x m : zM} (R : RCl x m) {s l : Nat} (hs : s < 4) (hl : l + 2 ≤ 33) (hsr : srB (nI l) = true) : kA (koF x s (usL1 l) (bsL1 l)) 34 = kA (cdF (z_giv (z_giv (z_ui (z_ui (z_ui m 50 0 0) 50 50 (nI (l + 1))) 50 51 (abL1 l)) s l (-1)) s (l + 2) (-1)) s) 34 := by
  refine kA_cg (fun k hk => ?_)
  have e50 : (z_giv (z_giv (z_ui (z_ui (z_ui m 50 0 0) 50 50 (nI (l + 1))) 50 51 (abL1 l)) s l (-1)) s (l + 2) (-1)).1 50 50 = nI (l + 1) := by rw [giv_o (by decide), giv_o (by decide), ui_k (by decide), ui_s]
  have e51 : (z_giv (z_giv (z_ui (z_ui (z_ui m 50 0 0) 50 50 (nI (l + 1))) 50 51 (abL1 l)) s l (-1)) s (l + 2) (-1)).1 50 51 = abL1 l := by rw [giv_o (by decide), giv_o (by decide), ui_s]
  unfold koF cdF
  rw [us_hd1 l (by omega) k hk, bs_hd1 l (by omega) hsr k hk, R.hd s k hs hk, e50, e51, giv_60, giv_60, ui_o (by decide), ui_o (by decide), ui_o (by decide), Bool.not_or]
  by_cases ea : k = l
  · rw [decide_eq_true ea, if_neg (by omega), if_pos (by omega), Bool.true_or, show nB true = 1 from rfl, sub1]
  · by_cases eb : k = (l + 2)
    · rw [decide_eq_true eb, if_pos (by omega), if_neg (by omega), Bool.or_true, show nB true = 1 from rfl, sub1]
    · rw [decide_eq_false ea, decide_eq_false eb, if_neg (by omega), if_neg (by omega), Bool.false_or, show nB false = 0 from rfl, Int32.sub_zero]
noncomputable def abL2 (l : Nat) : Int32 := (bif decide (((nI l) - (nI l) / 9 * 9) ≤ 0) then (-1 : Int32) else (nI l) - 1)
noncomputable def oeL2 (l : Nat) : Int64 := (bif decide (nI l ≤ 0) then (0 : Int64) else bif srB (nI l - 1) then (1 : Int64) <<< ((nI l - 1).toInt64 &&& 63) else 0)
noncomputable def bsL2 (l : Nat) : Int64 := ((1 : Int64) <<< ((nI (l + 2)).toInt64 &&& 63)) ||| oeL2 l
noncomputable def usL2 (l : Nat) : Int64 := ((7 : Int64) <<< ((nI l).toInt64 &&& 63)) &&& (((1 : Int64) <<< ((nI (l + 2)).toInt64 &&& 63)) ^^^ (-1))
theorem oe_eq2 : ∀ l, l < 32 → (bif decide ((nI (l + 2)) = nI l) then bif srB (nI l + 1) then 1 <<< ((nI l + 3).toInt64 &&& 63) else bif decide ((nI (l + 2)) = (nI l + 2)) then bif decide (nI l ≤ 0) then (0 : Int64) else bif srB (nI l - 1) then 1 <<< ((nI l - 1).toInt64 &&& 63) else 0 else 0 else bif decide ((nI (l + 2)) = (nI l + 2)) then bif decide (nI l ≤ 0) then (0 : Int64) else bif srB (nI l - 1) then 1 <<< ((nI l - 1).toInt64 &&& 63) else 0 else 0) = oeL2 l := by decide +kernel
theorem us_hd2 : ∀ l, l < 32 → ∀ k, k < 34 → xHd (usL2 l) (nI k) = (decide (k = l) || decide (k = (l + 1))) := by decide +kernel
theorem bs_hd2 : ∀ l, l < 32 → srB (nI l) = true → ∀ k, k < 34 → xHd (bsL2 l) (nI k) = (decide (nI k = nI (l + 2)) || decide (nI k = abL2 l)) := by decide +kernel
theorem bs_eq2 : ∀ l, l < 32 → srB (nI l) = true → bsL2 l = (((1 : Int64) <<< ((nI (l + 2)).toInt64 &&& 63)) ||| (bif decide (abL2 l = -1) then (0 : Int64) else 1 <<< ((abL2 l).toInt64 &&& 63))) := by decide +kernel
theorem ab_k2 (l : Nat) (hl : l < 32) (h : srB (nI l) = true) : abL2 l = -1 ∨ ∃ e, e < 34 ∧ abL2 l = nI e := by
  have z := (show ∀ l, l < 32 → srB (nI l) = true → (decide (abL2 l = -1) || (decide (0 ≤ (abL2 l).toInt) && decide ((abL2 l).toInt < 34))) = true by decide +kernel) l hl h
  rw [Bool.or_eq_true] at z
  rcases z with q | q
  · exact Or.inl (of_decide_eq_true q)
  · obtain ⟨q1, q2⟩ := z_and q
    obtain ⟨e, he, q3⟩ := i_nat (n := 33) (of_decide_eq_true q1) (by have := of_decide_eq_true q2; omega) (by decide)
    exact Or.inr ⟨e, by omega, q3⟩
theorem ko_run2 {x m : zM} (R : RCl x m) {s l : Nat} (hs : s < 4) (hl : l + 2 ≤ 33) (hsr : srB (nI l) = true) : kA (koF x s (usL2 l) (bsL2 l)) 34 = kA (cdF (z_giv (z_giv (z_ui (z_ui (z_ui m 50 0 0) 50 50 (nI (l + 2))) 50 51 (abL2 l)) s l (-1)) s (l + 1) (-1)) s) 34 := by
  refine kA_cg (fun k hk => ?_)
  have e50 : (z_giv (z_giv (z_ui (z_ui (z_ui m 50 0 0) 50 50 (nI (l + 2))) 50 51 (abL2 l)) s l (-1)) s (l + 1) (-1)).1 50 50 = nI (l + 2) := by rw [giv_o (by decide), giv_o (by decide), ui_k (by decide), ui_s]
  have e51 : (z_giv (z_giv (z_ui (z_ui (z_ui m 50 0 0) 50 50 (nI (l + 2))) 50 51 (abL2 l)) s l (-1)) s (l + 1) (-1)).1 50 51 = abL2 l := by rw [giv_o (by decide), giv_o (by decide), ui_s]
  unfold koF cdF
  rw [us_hd2 l (by omega) k hk, bs_hd2 l (by omega) hsr k hk, R.hd s k hs hk, e50, e51, giv_60, giv_60, ui_o (by decide), ui_o (by decide), ui_o (by decide), Bool.not_or]
  by_cases ea : k = l
  · rw [decide_eq_true ea, if_neg (by omega), if_pos (by omega), Bool.true_or, show nB true = 1 from rfl, sub1]
  · by_cases eb : k = (l + 1)
    · rw [decide_eq_true eb, if_pos (by omega), if_neg (by omega), Bool.or_true, show nB true = 1 from rfl, sub1]
    · rw [decide_eq_false ea, decide_eq_false eb, if_neg (by omega), if_neg (by omega), Bool.false_or, show nB false = 0 from rfl, Int32.sub_zero]
theorem si_two {f : Nat → Int} {a b : Nat} (hab : a ≠ b) : ∀ n, (∀ k, k < n → 0 ≤ f k) → a < n → b < n → f a + f b ≤ si f n
  | 0, _, h, _ => absurd h (by omega)
  | n + 1, h, ha, hb => by
    show f a + f b ≤ si f n + f n
    by_cases e : a = n
    · subst e
      have := si_le (f := f) (c := b) (n := a) (fun k hk => h k (by omega)) (by omega)
      omega
    · by_cases e2 : b = n
      · subst e2
        have := si_le (f := f) (c := a) (n := b) (fun k hk => h k (by omega)) (by omega)
        omega
      · have := si_two hab n (fun k hk => h k (by omega)) (by omega) (by omega)
        have := h n (by omega)
        omega
theorem GH.le2 {μ : zM} {lim : Nat → Int} (h : GH μ lim) {s a b : Nat} (hs4 : s < 4) (ha : a < 34) (hb : b < 34) (hab : a ≠ b) : hI μ (34 * s + a) + hI μ (34 * s + b) ≤ hs9 μ s := si_two (f := fun k => hI μ (34 * s + k)) hab 34 (fun k hk => h.1 _ (by omega)) ha hb
theorem oe_x {μ : zM} {l : Nat} {c : Int32} (hc : μ.1 0 15 = c) {v : Int64} (h : (bif decide (c = nI l) then bif srB (nI l + 1) then 1 <<< ((nI l + 3).toInt64 &&& 63) else bif decide (c = (nI l + 2)) then bif decide (nI l ≤ 0) then (0 : Int64) else bif srB (nI l - 1) then 1 <<< ((nI l - 1).toInt64 &&& 63) else 0 else 0 else bif decide (c = (nI l + 2)) then bif decide (nI l ≤ 0) then (0 : Int64) else bif srB (nI l - 1) then 1 <<< ((nI l - 1).toInt64 &&& 63) else 0 else 0) = v) : ∀ d, 2 ≤ d → z_C d mi_X6_otherEnd [.ref 0, .int (nI l)] μ (zR μ (.long v)) := fun d hd => by
  have z := gc_otherEnd d hd μ (nI l)
  rw [hc, h] at z
  exact z
theorem sr_x {μ : zM} {x : Int32} {b : Bool} (h : srB x = b) : ∀ d, 1 ≤ d → z_C d mi_X6_startsRun [.int x] μ (zR μ (.int (nB b))) := fun d hd => by
  rw [← h]; exact gc_startsRun d hd μ x
theorem sr_iff (x : Int32) : srB x = true ↔ sr x := by
  unfold srB sr
  have e : (6 : Int32) < (x - x / 9 * 9) ↔ (7 : Int32) ≤ (x - x / 9 * 9) := by
    generalize (x - x / 9 * 9) = y
    rw [Int32.lt_iff_toInt_lt, Int32.le_iff_toInt_le, show (6 : Int32).toInt = 6 from by decide, show (7 : Int32).toInt = 7 from by decide]
    omega
  constructor
  · intro h
    obtain ⟨a, h⟩ := z_and h
    obtain ⟨b, c⟩ := z_and h
    exact ⟨of_decide_eq_false (not_t a), of_decide_eq_false (not_t b), fun z => of_decide_eq_false (not_t c) (e.mpr z)⟩
  · rintro ⟨a, b, c⟩
    rw [decide_eq_false a, decide_eq_false b, decide_eq_false (fun z => c (e.mp z))]
    rfl
theorem sr_m {μ : zM} {x : Int32} {b : Bool} (h : srB x = b) : ∀ d, 1 ≤ d → z_C d mi_X7_isRun [.int x] μ (zR μ (.int (nB b))) := fun d hd => z_C_mono (fc_X7_isRun d hd μ x) (fun r m z => ⟨z.1, by
  have e := sr_iff x
  rcases z.2 with ⟨y, q⟩ | ⟨y, q⟩
  · rw [e.mpr q] at h; rw [y, ← h]; rfl
  · cases b with
    | true => exact absurd (e.mp h) q
    | false => exact y⟩)
theorem sr_nat : ∀ x : Int32, srB x = true → ∃ l, l + 2 ≤ 26 ∧ x = nI l := fun x h => by
  obtain ⟨a, b, c⟩ := (sr_iff x).mp h
  have a1 : 0 ≤ x.toInt := by have z : ¬ x.toInt < (0 : Int32).toInt := fun q => a (Int32.lt_iff_toInt_lt.mpr q); have : (0 : Int32).toInt = 0 := (by decide); omega
  have b1 : x.toInt < 27 := by have z : ¬ (27 : Int32).toInt ≤ x.toInt := fun q => b (Int32.le_iff_toInt_le.mpr q); have : (27 : Int32).toInt = 27 := (by decide); omega
  obtain ⟨l, hl, e⟩ := i_nat (v := x) (n := 26) a1 (by omega) (by decide)
  subst e
  exact ⟨l, (show ∀ l, l < 27 → srB (nI l) = true → l + 2 ≤ 26 by decide +kernel) l (by omega) h, rfl⟩
