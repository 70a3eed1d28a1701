/-! the game: leaves of the class -/
set_option maxRecDepth 8000
theorem ui_s {μ : zM} {r k : Nat} {x : Int32} : (z_ui μ r k x).1 r k = x := by
  show (bif Nat.beq r r && Nat.beq k k then x else μ.1 r k) = x
  rw [Nat.beq_refl, Nat.beq_refl]; rfl
theorem ui_o {μ : zM} {r k r' k' : Nat} {x : Int32} (h : r' ≠ r) : (z_ui μ r k x).1 r' k' = μ.1 r' k' := by
  show (bif Nat.beq r' r && Nat.beq k' k then x else μ.1 r' k') = _
  have e : Nat.beq r' r = false := by cases e : Nat.beq r' r with | false => rfl | true => exact absurd (Nat.eq_of_beq_eq_true e) h
  rw [e]; rfl
theorem ui_k {μ : zM} {r k r' k' : Nat} {x : Int32} (h : k' ≠ k) : (z_ui μ r k x).1 r' k' = μ.1 r' k' := by
  show (bif Nat.beq r' r && Nat.beq k' k then x else μ.1 r' k') = _
  have e : Nat.beq k' k = false := by cases e : Nat.beq k' k with | false => rfl | true => exact absurd (Nat.eq_of_beq_eq_true e) h
  rw [e, Bool.and_false]; rfl
theorem uj_s {μ : zM} {r k : Nat} {x : Int64} : (z_uj μ r k x).2.1 r k = x := by
  show (bif Nat.beq r r && Nat.beq k k then x else μ.2.1 r k) = x
  rw [Nat.beq_refl, Nat.beq_refl]; rfl
theorem uj_o {μ : zM} {r k r' k' : Nat} {x : Int64} (h : r' ≠ r) : (z_uj μ r k x).2.1 r' k' = μ.2.1 r' k' := by
  show (bif Nat.beq r' r && Nat.beq k' k then x else μ.2.1 r' k') = _
  have e : Nat.beq r' r = false := by cases e : Nat.beq r' r with | false => rfl | true => exact absurd (Nat.eq_of_beq_eq_true e) h
  rw [e]; rfl
theorem uj_k {μ : zM} {r k r' k' : Nat} {x : Int64} (h : k' ≠ k) : (z_uj μ r k x).2.1 r' k' = μ.2.1 r' k' := by
  show (bif Nat.beq r' r && Nat.beq k' k then x else μ.2.1 r' k') = _
  have e : Nat.beq k' k = false := by cases e : Nat.beq k' k with | false => rfl | true => exact absurd (Nat.eq_of_beq_eq_true e) h
  rw [e, Bool.and_false]; rfl
theorem uj_i {μ : zM} {r k r' k' : Nat} {x : Int64} : (z_uj μ r k x).1 r' k' = μ.1 r' k' := rfl
theorem ui_j {μ : zM} {r k r' k' : Nat} {x : Int32} : (z_ui μ r k x).2.1 r' k' = μ.2.1 r' k' := rfl
theorem gc_at (d : Nat) (hd : 1 ≤ d) (μ : zM) (s : Nat) (hs : s < 2147483648) : z_C d mi_X6_at [.ref 0, .int (nI s)] μ (zR μ (.ref (18 + 8 * (s % 4)))) := by
  refine z_C_in (by decide) (by omega) (fun d' Z ed hc hr => ?_)
  have hH : zH mi_X6_at zc_X6_at 79 6 2 := ⟨by rfl, by rfl, by rfl, by rfl⟩
  refine z_rcs hc hH 5 (pc' := 7) (lv' := [(0, .ref 0), (1, .int (nI s))]) (st' := [.int (nI s &&& 3), .ref 1]) (μ' := μ) (by rfl) ?_
  rw [and3 hs]
  refine zq_aald hc hH (by rfl) (i := s % 4) (q := 18 + 8 * (s % 4)) (by omega) (by decide +kernel) (sj (P := fun i => Nat.beq (z_gr 1 i) (18 + 8 * i)) (by omega) (by decide +kernel)) ?_
  exact hr 0 8 _ _ _ (some (.ref (18 + 8 * (s % 4)))) (by decide +kernel) (by rfl) ⟨rfl, rfl⟩
theorem gc_left (d : Nat) (hd : 1 ≤ d) (μ : zM) : z_C d mi_X4_left [.ref 2] μ (zR μ (.int (bif decide ((μ.1 2 1) = 0) then (0 : Int32) else (122 - (μ.1 2 3)) - (μ.1 2 2)))) := by
  refine z_C_in (by decide) (by omega) (fun d' Z ed hc hr => ?_)
  have hH : zH mi_X4_left zc_X4_left 79 4 1 := ⟨by rfl, by rfl, by rfl, by rfl⟩
  refine z_rcs hc hH 1 (pc' := 1) (lv' := [(0, .ref 2)]) (st' := [.ref 2]) (μ' := μ) (by rfl) ?_
  refine zq_gfi hc hH (by rfl) (ci := 3) (f := 1) (by rfl) (by decide +kernel) (by rfl) ?_
  have hJ1 : Z 0 23 [(0, .ref 2)] [.int (bif decide ((μ.1 2 1) = 0) then (0 : Int32) else (122 - (μ.1 2 3)) - (μ.1 2 2))] μ := by
    generalize hyy2 : (bif decide ((μ.1 2 1) = 0) then (0 : Int32) else (122 - (μ.1 2 3)) - (μ.1 2 2) : Int32) = yy2
    exact hr 0 23 _ _ _ (some (.int yy2)) (by decide +kernel) (by rfl) (⟨rfl, (by subst hyy2; rfl)⟩)
  refine zq_if hc hH (by rfl) (tg := 22) (by rfl) (fun h3 => ?_) (fun h3 => ?_)
  · have h3 : (decide ((μ.1 2 1) = 0)) = true := decide_eq_true (cm_eq9.mp h3)
    refine z_rcs hc hH 1 (pc' := 23) (lv' := [(0, .ref 2)]) (st' := [.int 0]) (μ' := μ) (by rfl) ?_
    exact zJ hJ1 rfl (by first | rfl | simp only [h3, lb_f, Int64.or_zero, Int32.add_zero, nB_t, nB_f, Bool.not_true, Bool.not_false, Bool.and_true, Bool.true_and, Bool.false_and, Bool.and_false, Bool.or_true, Bool.true_or, Bool.false_or, Bool.or_false, cond_true, cond_false]) rfl
  · have h3 : (decide ((μ.1 2 1) = 0)) = false := decide_eq_false (cn_eq.mp h3)
    refine z_rcs hc hH 2 (pc' := 10) (lv' := [(0, .ref 2)]) (st' := [.ref 2, .int 122]) (μ' := μ) (by rfl) ?_
    refine zq_gfi hc hH (by rfl) (ci := 3) (f := 3) (by rfl) (by decide +kernel) (by rfl) ?_
    refine z_rcs hc hH 2 (pc' := 15) (lv' := [(0, .ref 2)]) (st' := [.ref 2, .int (122 - (μ.1 2 3))]) (μ' := μ) (by rfl) ?_
    refine zq_gfi hc hH (by rfl) (ci := 3) (f := 2) (by rfl) (by decide +kernel) (by rfl) ?_
    refine z_rcs hc hH 2 (pc' := 23) (lv' := [(0, .ref 2)]) (st' := [.int ((122 - (μ.1 2 3)) - (μ.1 2 2))]) (μ' := μ) (by rfl) ?_
    exact zJ hJ1 rfl (by first | rfl | simp only [h3, lb_f, Int64.or_zero, Int32.add_zero, nB_t, nB_f, Bool.not_true, Bool.not_false, Bool.and_true, Bool.true_and, Bool.false_and, Bool.and_false, Bool.or_true, Bool.true_or, Bool.false_or, Bool.or_false, cond_true, cond_false]) rfl
theorem gc_signs (d : Nat) (hd : 1 ≤ d) (μ : zM) : z_C d mi_X4_signs [.ref 2] μ (zR μ (.int (bif decide ((μ.1 2 1) = 0) then (0 : Int32) else 1 + (μ.1 2 3)))) := by
  refine z_C_in (by decide) (by omega) (fun d' Z ed hc hr => ?_)
  have hH : zH mi_X4_signs zc_X4_signs 79 4 1 := ⟨by rfl, by rfl, by rfl, by rfl⟩
  refine z_rcs hc hH 1 (pc' := 1) (lv' := [(0, .ref 2)]) (st' := [.ref 2]) (μ' := μ) (by rfl) ?_
  refine zq_gfi hc hH (by rfl) (ci := 3) (f := 1) (by rfl) (by decide +kernel) (by rfl) ?_
  have hJ1 : Z 0 17 [(0, .ref 2)] [.int (bif decide ((μ.1 2 1) = 0) then (0 : Int32) else 1 + (μ.1 2 3))] μ := by
    exact hr 0 17 _ _ _ (some (.int (bif decide ((μ.1 2 1) = 0) then (0 : Int32) else 1 + (μ.1 2 3)))) (by decide +kernel) (by rfl) (⟨rfl, (by rfl)⟩)
  refine zq_if hc hH (by rfl) (tg := 16) (by rfl) (fun h2 => ?_) (fun h2 => ?_)
  · have h2 : (decide ((μ.1 2 1) = 0)) = true := decide_eq_true (cm_eq9.mp h2)
    refine z_rcs hc hH 1 (pc' := 17) (lv' := [(0, .ref 2)]) (st' := [.int 0]) (μ' := μ) (by rfl) ?_
    exact zJ hJ1 rfl (by first | rfl | simp only [h2, lb_f, Int64.or_zero, Int32.add_zero, nB_t, nB_f, Bool.not_true, Bool.not_false, Bool.and_true, Bool.true_and, Bool.false_and, Bool.and_false, Bool.or_true, Bool.true_or, Bool.false_or, Bool.or_false, cond_true, cond_false]) rfl
  · have h2 : (decide ((μ.1 2 1) = 0)) = false := decide_eq_false (cn_eq.mp h2)
    refine z_rcs hc hH 2 (pc' := 9) (lv' := [(0, .ref 2)]) (st' := [.ref 2, .int 1]) (μ' := μ) (by rfl) ?_
    refine zq_gfi hc hH (by rfl) (ci := 3) (f := 3) (by rfl) (by decide +kernel) (by rfl) ?_
    refine z_rcs hc hH 2 (pc' := 17) (lv' := [(0, .ref 2)]) (st' := [.int (1 + (μ.1 2 3))]) (μ' := μ) (by rfl) ?_
    exact zJ hJ1 rfl (by first | rfl | simp only [h2, lb_f, Int64.or_zero, Int32.add_zero, nB_t, nB_f, Bool.not_true, Bool.not_false, Bool.and_true, Bool.true_and, Bool.false_and, Bool.and_false, Bool.or_true, Bool.true_or, Bool.false_or, Bool.or_false, cond_true, cond_false]) rfl
theorem gc_windOf (d : Nat) (hd : 1 ≤ d) (μ : zM) (x : Int32) : z_C d mi_X6_windOf [.ref 0, .int x] μ (zR μ (.int ((x - (μ.1 0 9)) &&& 3))) := by
  refine z_C_in (by decide) (by omega) (fun d' Z ed hc hr => ?_)
  have hH : zH mi_X6_windOf zc_X6_windOf 79 6 2 := ⟨by rfl, by rfl, by rfl, by rfl⟩
  refine z_rcs hc hH 2 (pc' := 2) (lv' := [(0, .ref 0), (1, .int x)]) (st' := [.ref 0, .int x]) (μ' := μ) (by rfl) ?_
  refine zq_gfi hc hH (by rfl) (ci := 5) (f := 9) (by rfl) (by decide +kernel) (by rfl) ?_
  refine z_rcs hc hH 3 (pc' := 8) (lv' := [(0, .ref 0), (1, .int x)]) (st' := [.int ((x - (μ.1 0 9)) &&& 3)]) (μ' := μ) (by rfl) ?_
  exact hr 0 8 _ _ _ (some (.int ((x - (μ.1 0 9)) &&& 3))) (by decide +kernel) (by rfl) (⟨rfl, (by rfl)⟩)
theorem gc_isSeat (d : Nat) (hd : 1 ≤ d) (μ : zM) (x : Int32) : z_C d mi_X6_isSeat [.int x] μ (zR μ (.int (nB (!(decide (x < 0)) && (!(decide (4 ≤ x))))))) := by
  refine z_C_in (by decide) (by omega) (fun d' Z ed hc hr => ?_)
  have hH : zH mi_X6_isSeat zc_X6_isSeat 79 6 1 := ⟨by rfl, by rfl, by rfl, by rfl⟩
  refine z_rcs hc hH 1 (pc' := 1) (lv' := [(0, .int x)]) (st' := [.int x]) (μ' := μ) (by rfl) ?_
  have hJ1 : Z 0 14 [(0, .int x)] [.int (nB (!(decide (x < 0)) && (!(decide (4 ≤ x)))))] μ := by
    exact hr 0 14 _ _ _ (some (.int (nB (!(decide (x < 0)) && (!(decide (4 ≤ x))))))) (by decide +kernel) ((fun b : Bool => (by cases b <;> rfl : z_rn mi_X6_isSeat 14 [.int (nB b)] = some (some (.int (nB b))))) (!(decide (x < 0)) && (!(decide (4 ≤ x))))) (⟨rfl, (by rfl)⟩)
  refine zq_if hc hH (by rfl) (tg := 13) (by rfl) (fun h2 => ?_) (fun h2 => ?_)
  · have h2 : (decide (x < 0)) = true := decide_eq_true (cm_lt.mp h2)
    refine z_rcs hc hH 1 (pc' := 14) (lv' := [(0, .int x)]) (st' := [.int 0]) (μ' := μ) (by rfl) ?_
    exact zJ hJ1 rfl (by first | rfl | simp only [h2, lb_f, Int64.or_zero, Int32.add_zero, nB_t, nB_f, Bool.not_true, Bool.not_false, Bool.and_true, Bool.true_and, Bool.false_and, Bool.and_false, Bool.or_true, Bool.true_or, Bool.false_or, Bool.or_false, cond_true, cond_false]) rfl
  · have h2 : (decide (x < 0)) = false := decide_eq_false (cn_lt.mp h2)
    refine z_rcs hc hH 2 (pc' := 6) (lv' := [(0, .int x)]) (st' := [.int 4, .int x]) (μ' := μ) (by rfl) ?_
    refine zq_ic hc hH (by rfl) (tg := 13) (by rfl) (fun h3 => ?_) (fun h3 => ?_)
    · have h3 : (decide (4 ≤ x)) = true := decide_eq_true (cm_ge.mp h3)
      refine z_rcs hc hH 1 (pc' := 14) (lv' := [(0, .int x)]) (st' := [.int 0]) (μ' := μ) (by rfl) ?_
      exact zJ hJ1 rfl (by first | rfl | simp only [h2, h3, lb_f, Int64.or_zero, Int32.add_zero, nB_t, nB_f, Bool.not_true, Bool.not_false, Bool.and_true, Bool.true_and, Bool.false_and, Bool.and_false, Bool.or_true, Bool.true_or, Bool.false_or, Bool.or_false, cond_true, cond_false]) rfl
    · have h3 : (decide (4 ≤ x)) = false := decide_eq_false (cn_ge.mp h3)
      refine z_rcs hc hH 2 (pc' := 14) (lv' := [(0, .int x)]) (st' := [.int 1]) (μ' := μ) (by rfl) ?_
      exact zJ hJ1 rfl (by first | rfl | simp only [h2, h3, lb_f, Int64.or_zero, Int32.add_zero, nB_t, nB_f, Bool.not_true, Bool.not_false, Bool.and_true, Bool.true_and, Bool.false_and, Bool.and_false, Bool.or_true, Bool.true_or, Bool.false_or, Bool.or_false, cond_true, cond_false]) rfl
theorem gc_hundreds (d : Nat) (hd : 1 ≤ d) (μ : zM) (x : Int32) : z_C d mi_X6_hundreds [.int x] μ (zR μ (.int (((x + 99) / 100) * 100))) := by
  refine z_C_in (by decide) (by omega) (fun d' Z ed hc hr => ?_)
  have hH : zH mi_X6_hundreds zc_X6_hundreds 79 6 1 := ⟨by rfl, by rfl, by rfl, by rfl⟩
  refine z_rcs hc hH 7 (pc' := 10) (lv' := [(0, .int x)]) (st' := [.int (((x + 99) / 100) * 100)]) (μ' := μ) (by rfl) ?_
  exact hr 0 10 _ _ _ (some (.int (((x + 99) / 100) * 100))) (by decide +kernel) (by rfl) (⟨rfl, (by rfl)⟩)
theorem gc_behind (d : Nat) (hd : 1 ≤ d) (μ : zM) (x : Int32) : z_C d mi_X4_behind [.int x] μ (zR μ (.int (bif decide (27 ≤ x) then bif decide (x = 30) then (27 : Int32) else bif decide (x = 33) then (31 : Int32) else x + 1 else bif decide ((x - x / 9 * 9) = 8) then x - 8 else x + 1))) := by
  refine z_C_in (by decide) (by omega) (fun d' Z ed hc hr => ?_)
  have hH : zH mi_X4_behind zc_X4_behind 79 4 1 := ⟨by rfl, by rfl, by rfl, by rfl⟩
  refine z_rcs hc hH 2 (pc' := 3) (lv' := [(0, .int x)]) (st' := [.int 27, .int x]) (μ' := μ) (by rfl) ?_
  refine zq_ic hc hH (by rfl) (tg := 26) (by rfl) (fun h1 => ?_) (fun h1 => ?_)
  · have h1 : (decide (27 ≤ x)) = true := decide_eq_true (cm_ge.mp h1)
    refine z_rcs hc hH 2 (pc' := 29) (lv' := [(0, .int x)]) (st' := [.int 30, .int x]) (μ' := μ) (by rfl) ?_
    refine zq_ic hc hH (by rfl) (tg := 35) (by rfl) (fun h2 => ?_) (fun h2 => ?_)
    · have h2 : (decide (x = 30)) = false := decide_eq_false (cm_ne.mp h2)
      refine z_rcs hc hH 2 (pc' := 38) (lv' := [(0, .int x)]) (st' := [.int 33, .int x]) (μ' := μ) (by rfl) ?_
      have hJ3 : Z 0 49 [(0, .int x)] [.int (bif decide (x = 33) then (31 : Int32) else x + 1)] μ := by
        exact hr 0 49 _ _ _ (some (.int (bif decide (x = 33) then (31 : Int32) else x + 1))) (by decide +kernel) (by rfl) (⟨rfl, (by simp only [h1, h2, lb_f, Int64.or_zero, Int32.add_zero, nB_t, nB_f, Bool.not_true, Bool.not_false, Bool.and_true, Bool.true_and, Bool.false_and, Bool.and_false, Bool.or_true, Bool.true_or, Bool.false_or, Bool.or_false, cond_true, cond_false])⟩)
      refine zq_ic hc hH (by rfl) (tg := 46) (by rfl) (fun h4 => ?_) (fun h4 => ?_)
      · have h4 : (decide (x = 33)) = false := decide_eq_false (cm_ne.mp h4)
        refine z_rcs hc hH 3 (pc' := 49) (lv' := [(0, .int x)]) (st' := [.int (x + 1)]) (μ' := μ) (by rfl) ?_
        exact zJ hJ3 rfl (by first | rfl | simp only [h4, lb_f, Int64.or_zero, Int32.add_zero, nB_t, nB_f, Bool.not_true, Bool.not_false, Bool.and_true, Bool.true_and, Bool.false_and, Bool.and_false, Bool.or_true, Bool.true_or, Bool.false_or, Bool.or_false, cond_true, cond_false]) rfl
      · have h4 : (decide (x = 33)) = true := decide_eq_true (cn_ne.mp h4)
        refine z_rcs hc hH 2 (pc' := 49) (lv' := [(0, .int x)]) (st' := [.int 31]) (μ' := μ) (by rfl) ?_
        exact zJ hJ3 rfl (by first | rfl | simp only [h4, lb_f, Int64.or_zero, Int32.add_zero, nB_t, nB_f, Bool.not_true, Bool.not_false, Bool.and_true, Bool.true_and, Bool.false_and, Bool.and_false, Bool.or_true, Bool.true_or, Bool.false_or, Bool.or_false, cond_true, cond_false]) rfl
    · have h2 : (decide (x = 30)) = true := decide_eq_true (cn_ne.mp h2)
      refine z_rcs hc hH 1 (pc' := 34) (lv' := [(0, .int x)]) (st' := [.int 27]) (μ' := μ) (by rfl) ?_
      exact hr 0 34 _ _ _ (some (.int 27)) (by decide +kernel) (by rfl) (⟨rfl, (by simp only [h1, h2, lb_f, Int64.or_zero, Int32.add_zero, nB_t, nB_f, Bool.not_true, Bool.not_false, Bool.and_true, Bool.true_and, Bool.false_and, Bool.and_false, Bool.or_true, Bool.true_or, Bool.false_or, Bool.or_false, cond_true, cond_false])⟩)
  · have h1 : (decide (27 ≤ x)) = false := decide_eq_false (cn_ge.mp h1)
    refine z_rcs hc hH 4 (pc' := 12) (lv' := [(0, .int x)]) (st' := [.int 8, .int (x - x / 9 * 9)]) (μ' := μ) (by rfl) ?_
    have hJ5 : Z 0 25 [(0, .int x)] [.int (bif decide ((x - x / 9 * 9) = 8) then x - 8 else x + 1)] μ := by
      exact hr 0 25 _ _ _ (some (.int (bif decide ((x - x / 9 * 9) = 8) then x - 8 else x + 1))) (by decide +kernel) (by rfl) (⟨rfl, (by simp only [h1, lb_f, Int64.or_zero, Int32.add_zero, nB_t, nB_f, Bool.not_true, Bool.not_false, Bool.and_true, Bool.true_and, Bool.false_and, Bool.and_false, Bool.or_true, Bool.true_or, Bool.false_or, Bool.or_false, cond_true, cond_false])⟩)
    refine zq_ic hc hH (by rfl) (tg := 22) (by rfl) (fun h6 => ?_) (fun h6 => ?_)
    · have h6 : (decide ((x - x / 9 * 9) = 8)) = false := decide_eq_false (cm_ne.mp h6)
      refine z_rcs hc hH 3 (pc' := 25) (lv' := [(0, .int x)]) (st' := [.int (x + 1)]) (μ' := μ) (by rfl) ?_
      exact zJ hJ5 rfl (by first | rfl | simp only [h6, lb_f, Int64.or_zero, Int32.add_zero, nB_t, nB_f, Bool.not_true, Bool.not_false, Bool.and_true, Bool.true_and, Bool.false_and, Bool.and_false, Bool.or_true, Bool.true_or, Bool.false_or, Bool.or_false, cond_true, cond_false]) rfl
    · have h6 : (decide ((x - x / 9 * 9) = 8)) = true := decide_eq_true (cn_ne.mp h6)
      refine z_rcs hc hH 4 (pc' := 25) (lv' := [(0, .int x)]) (st' := [.int (x - 8)]) (μ' := μ) (by rfl) ?_
      exact zJ hJ5 rfl (by first | rfl | simp only [h6, lb_f, Int64.or_zero, Int32.add_zero, nB_t, nB_f, Bool.not_true, Bool.not_false, Bool.and_true, Bool.true_and, Bool.false_and, Bool.and_false, Bool.or_true, Bool.true_or, Bool.false_or, Bool.or_false, cond_true, cond_false]) rfl
