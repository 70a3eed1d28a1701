/-! the reference's reckoning: its leaves as expressions -/
set_option maxRecDepth 8000
noncomputable def nB (b : Bool) : Int32 := bif b then 1 else 0
theorem nB_z {b : Bool} : nB b = 0 ↔ b = false := by cases b <;> decide
theorem nB_n {b : Bool} : ¬ nB b = 0 ↔ b = true := by cases b <;> decide
theorem nB_t : nB true = 1 := rfl
theorem nB_f : nB false = 0 := rfl
noncomputable def lb (b : Bool) (k : Int32) : Int64 := bif b then (1 : Int64) <<< (k.toInt64 &&& 63) else 0
theorem lb_f {k : Int32} : lb false k = 0 := rfl
theorem zJ {Z : zK} {b pc : Nat} {lv lv' : zL} {st st' : List Value} {μ μ' : zM} (h : Z b pc lv st μ) (e1 : lv = lv') (e2 : st = st') (e3 : μ = μ') : Z b pc lv' st' μ' := by subst e1; subst e2; subst e3; exact h
/-- GREAT, plain forms and FU -/
noncomputable def mGP (μ : zM) (g p : Int64) (f : Int32) : zM := (fun r k => bif Nat.beq r 50 && Nat.beq k 23 then f else μ.1 r k, fun r k => bif Nat.beq r 50 && Nat.beq k 24 then g else (bif Nat.beq r 50 && Nat.beq k 25 then p else μ.2.1 r k), μ.2.2)
theorem bq_t {a b : Nat} : Nat.beq a b = true ↔ a = b := ⟨Nat.eq_of_beq_eq_true, fun h => by rw [h]; exact Nat.beq_refl b⟩
theorem mGP_rf (μ : zM) : mGP μ (μ.2.1 50 24) (μ.2.1 50 25) (μ.1 50 23) = μ := by
  unfold mGP
  refine Prod.ext ?_ (Prod.ext ?_ rfl)
  · funext r k
    show (bif Nat.beq r 50 && Nat.beq k 23 then μ.1 50 23 else μ.1 r k) = μ.1 r k
    cases h : Nat.beq r 50 && Nat.beq k 23
    · rfl
    · rw [Bool.and_eq_true, bq_t, bq_t] at h
      rw [h.1, h.2]; rfl
  · funext r k
    show (bif Nat.beq r 50 && Nat.beq k 24 then μ.2.1 50 24 else (bif Nat.beq r 50 && Nat.beq k 25 then μ.2.1 50 25 else μ.2.1 r k)) = μ.2.1 r k
    cases h : Nat.beq r 50 && Nat.beq k 24
    · cases h2 : Nat.beq r 50 && Nat.beq k 25
      · rfl
      · rw [Bool.and_eq_true, bq_t, bq_t] at h2
        rw [h2.1, h2.2]; rfl
    · rw [Bool.and_eq_true, bq_t, bq_t] at h
      rw [h.1, h.2]; rfl
theorem mGP_g {μ : zM} {g p x : Int64} {f : Int32} : z_uj (mGP μ g p f) 50 24 x = mGP μ x p f := by
  unfold mGP z_uj
  refine Prod.ext rfl (Prod.ext ?_ rfl)
  funext r k
  show (bif Nat.beq r 50 && Nat.beq k 24 then x else (bif Nat.beq r 50 && Nat.beq k 24 then g else _)) = bif Nat.beq r 50 && Nat.beq k 24 then x else _
  cases Nat.beq r 50 && Nat.beq k 24 <;> rfl
theorem mGP_p {μ : zM} {g p x : Int64} {f : Int32} : z_uj (mGP μ g p f) 50 25 x = mGP μ g x f := by
  unfold mGP z_uj
  refine Prod.ext rfl (Prod.ext ?_ rfl)
  funext r k
  show (bif Nat.beq r 50 && Nat.beq k 25 then x else (bif Nat.beq r 50 && Nat.beq k 24 then g else (bif Nat.beq r 50 && Nat.beq k 25 then p else μ.2.1 r k))) = bif Nat.beq r 50 && Nat.beq k 24 then g else (bif Nat.beq r 50 && Nat.beq k 25 then x else μ.2.1 r k)
  cases h : Nat.beq r 50 && Nat.beq k 25
  · cases Nat.beq r 50 && Nat.beq k 24 <;> rfl
  · rw [Bool.and_eq_true, bq_t, bq_t] at h
    rw [h.2, show (Nat.beq 25 24) = false from rfl, Bool.and_false]; rfl
theorem mGP_f {μ : zM} {g p : Int64} {f x : Int32} : z_ui (mGP μ g p f) 50 23 x = mGP μ g p x := by
  unfold mGP z_ui
  refine Prod.ext ?_ rfl
  funext r k
  show (bif Nat.beq r 50 && Nat.beq k 23 then x else (bif Nat.beq r 50 && Nat.beq k 23 then f else μ.1 r k)) = bif Nat.beq r 50 && Nat.beq k 23 then x else μ.1 r k
  cases Nat.beq r 50 && Nat.beq k 23 <;> rfl
noncomputable def xDr (k : Int32) : Bool := !(decide (k ≤ 30))
theorem fb_X7_isDragon (d : Nat) (hd : 1 ≤ d) (μ : zM) (k : Int32) : z_C d mi_X7_isDragon [.int k] μ (zR μ (.int (nB (xDr k)))) := by
  refine z_C_in (by decide) (by omega) (fun d' Z ed hc hr => ?_)
  have hH : zH mi_X7_isDragon zt_X7_isDragon 79 7 1 := hh_X7_isDragon
  refine z_rcs hc hH 2 (pc' := 3) (lv' := [(0, .int k)]) (st' := [.int 30, .int k]) (μ' := μ) (by rfl) ?_
  have hJ1 : Z 0 11 [(0, .int k)] [.int (nB (!(decide (k ≤ 30))))] μ := by
    exact hr 0 11 _ _ _ (some (.int (nB (!(decide (k ≤ 30)))))) (by decide +kernel) ((fun b : Bool => (by cases b <;> rfl : z_rn mi_X7_isDragon 11 [.int (nB b)] = some (some (.int (nB b))))) (!(decide (k ≤ 30)))) (⟨rfl, (by rfl)⟩)
  refine zq_ic hc hH (by rfl) (tg := 10) (by rfl) (fun h2 => ?_) (fun h2 => ?_)
  · have h2 : (decide (k ≤ 30)) = true := decide_eq_true (cm_le.mp h2)
    refine z_rcs hc hH 1 (pc' := 11) (lv' := [(0, .int k)]) (st' := [.int 0]) (μ' := μ) (by rfl) ?_
    exact zJ hJ1 rfl (by simp only [h2, lb_f, Int64.or_zero, nB_t, nB_f, Bool.not_true, Bool.not_false, Bool.and_true, Bool.true_and, Bool.false_and, Bool.and_false, Bool.or_true, Bool.true_or, Bool.false_or, Bool.or_false, cond_true, cond_false]) rfl
  · have h2 : (decide (k ≤ 30)) = false := decide_eq_false (cn_le.mp h2)
    refine z_rcs hc hH 2 (pc' := 11) (lv' := [(0, .int k)]) (st' := [.int 1]) (μ' := μ) (by rfl) ?_
    exact zJ hJ1 rfl (by simp only [h2, lb_f, Int64.or_zero, nB_t, nB_f, Bool.not_true, Bool.not_false, Bool.and_true, Bool.true_and, Bool.false_and, Bool.and_false, Bool.or_true, Bool.true_or, Bool.false_or, Bool.or_false, cond_true, cond_false]) rfl
noncomputable def xHo (k : Int32) : Bool := !(decide (k ≤ 26))
theorem fb_X7_isHonour (d : Nat) (hd : 1 ≤ d) (μ : zM) (k : Int32) : z_C d mi_X7_isHonour [.int k] μ (zR μ (.int (nB (xHo k)))) := by
  refine z_C_in (by decide) (by omega) (fun d' Z ed hc hr => ?_)
  have hH : zH mi_X7_isHonour zt_X7_isHonour 79 7 1 := hh_X7_isHonour
  refine z_rcs hc hH 2 (pc' := 3) (lv' := [(0, .int k)]) (st' := [.int 26, .int k]) (μ' := μ) (by rfl) ?_
  have hJ1 : Z 0 11 [(0, .int k)] [.int (nB (!(decide (k ≤ 26))))] μ := by
    exact hr 0 11 _ _ _ (some (.int (nB (!(decide (k ≤ 26)))))) (by decide +kernel) ((fun b : Bool => (by cases b <;> rfl : z_rn mi_X7_isHonour 11 [.int (nB b)] = some (some (.int (nB b))))) (!(decide (k ≤ 26)))) (⟨rfl, (by rfl)⟩)
  refine zq_ic hc hH (by rfl) (tg := 10) (by rfl) (fun h2 => ?_) (fun h2 => ?_)
  · have h2 : (decide (k ≤ 26)) = true := decide_eq_true (cm_le.mp h2)
    refine z_rcs hc hH 1 (pc' := 11) (lv' := [(0, .int k)]) (st' := [.int 0]) (μ' := μ) (by rfl) ?_
    exact zJ hJ1 rfl (by simp only [h2, lb_f, Int64.or_zero, nB_t, nB_f, Bool.not_true, Bool.not_false, Bool.and_true, Bool.true_and, Bool.false_and, Bool.and_false, Bool.or_true, Bool.true_or, Bool.false_or, Bool.or_false, cond_true, cond_false]) rfl
  · have h2 : (decide (k ≤ 26)) = false := decide_eq_false (cn_le.mp h2)
    refine z_rcs hc hH 2 (pc' := 11) (lv' := [(0, .int k)]) (st' := [.int 1]) (μ' := μ) (by rfl) ?_
    exact zJ hJ1 rfl (by simp only [h2, lb_f, Int64.or_zero, nB_t, nB_f, Bool.not_true, Bool.not_false, Bool.and_true, Bool.true_and, Bool.false_and, Bool.and_false, Bool.or_true, Bool.true_or, Bool.false_or, Bool.or_false, cond_true, cond_false]) rfl
noncomputable def xTe (k : Int32) : Bool := !(decide (27 ≤ k)) && ((decide ((k - k / 9 * 9) = 0)) || (decide ((k - k / 9 * 9) = 8)))
theorem fb_X7_isTerminal (d : Nat) (hd : 1 ≤ d) (μ : zM) (k : Int32) : z_C d mi_X7_isTerminal [.int k] μ (zR μ (.int (nB (xTe k)))) := by
  refine z_C_in (by decide) (by omega) (fun d' Z ed hc hr => ?_)
  have hH : zH mi_X7_isTerminal zt_X7_isTerminal 79 7 1 := hh_X7_isTerminal
  refine z_rcs hc hH 2 (pc' := 3) (lv' := [(0, .int k)]) (st' := [.int 27, .int k]) (μ' := μ) (by rfl) ?_
  have hJ1 : Z 0 27 [(0, .int k)] [.int (nB (!(decide (27 ≤ k)) && ((decide ((k - k / 9 * 9) = 0)) || (decide ((k - k / 9 * 9) = 8)))))] μ := by
    generalize he2 : (!(decide (27 ≤ k)) && ((decide ((k - k / 9 * 9) = 0)) || (decide ((k - k / 9 * 9) = 8)))) = e2
    exact hr 0 27 _ _ _ (some (.int (nB e2))) (by decide +kernel) ((fun b : Bool => (by cases b <;> rfl : z_rn mi_X7_isTerminal 27 [.int (nB b)] = some (some (.int (nB b))))) e2) (⟨rfl, (by subst he2; rfl)⟩)
  refine zq_ic hc hH (by rfl) (tg := 26) (by rfl) (fun h3 => ?_) (fun h3 => ?_)
  · have h3 : (decide (27 ≤ k)) = true := decide_eq_true (cm_ge.mp h3)
    refine z_rcs hc hH 1 (pc' := 27) (lv' := [(0, .int k)]) (st' := [.int 0]) (μ' := μ) (by rfl) ?_
    exact zJ hJ1 rfl (by simp only [h3, lb_f, Int64.or_zero, nB_t, nB_f, Bool.not_true, Bool.not_false, Bool.and_true, Bool.true_and, Bool.false_and, Bool.and_false, Bool.or_true, Bool.true_or, Bool.false_or, Bool.or_false, cond_true, cond_false]) rfl
  · have h3 : (decide (27 ≤ k)) = false := decide_eq_false (cn_ge.mp h3)
    refine z_rcs hc hH 3 (pc' := 10) (lv' := [(0, .int k)]) (st' := [.int (k - k / 9 * 9)]) (μ' := μ) (by rfl) ?_
    refine zq_if hc hH (by rfl) (tg := 22) (by rfl) (fun h4 => ?_) (fun h4 => ?_)
    · have h4 : (decide ((k - k / 9 * 9) = 0)) = true := decide_eq_true (cm_eq9.mp h4)
      refine z_rcs hc hH 2 (pc' := 27) (lv' := [(0, .int k)]) (st' := [.int 1]) (μ' := μ) (by rfl) ?_
      exact zJ hJ1 rfl (by simp only [h3, h4, lb_f, Int64.or_zero, nB_t, nB_f, Bool.not_true, Bool.not_false, Bool.and_true, Bool.true_and, Bool.false_and, Bool.and_false, Bool.or_true, Bool.true_or, Bool.false_or, Bool.or_false, cond_true, cond_false]) rfl
    · have h4 : (decide ((k - k / 9 * 9) = 0)) = false := decide_eq_false (cn_eq.mp h4)
      refine z_rcs hc hH 4 (pc' := 19) (lv' := [(0, .int k)]) (st' := [.int 8, .int (k - k / 9 * 9)]) (μ' := μ) (by rfl) ?_
      refine zq_ic hc hH (by rfl) (tg := 26) (by rfl) (fun h5 => ?_) (fun h5 => ?_)
      · have h5 : (decide ((k - k / 9 * 9) = 8)) = false := decide_eq_false (cm_ne.mp h5)
        refine z_rcs hc hH 1 (pc' := 27) (lv' := [(0, .int k)]) (st' := [.int 0]) (μ' := μ) (by rfl) ?_
        exact zJ hJ1 rfl (by simp only [h3, h4, h5, lb_f, Int64.or_zero, nB_t, nB_f, Bool.not_true, Bool.not_false, Bool.and_true, Bool.true_and, Bool.false_and, Bool.and_false, Bool.or_true, Bool.true_or, Bool.false_or, Bool.or_false, cond_true, cond_false]) rfl
      · have h5 : (decide ((k - k / 9 * 9) = 8)) = true := decide_eq_true (cn_ne.mp h5)
        refine z_rcs hc hH 2 (pc' := 27) (lv' := [(0, .int k)]) (st' := [.int 1]) (μ' := μ) (by rfl) ?_
        exact zJ hJ1 rfl (by simp only [h3, h4, h5, lb_f, Int64.or_zero, nB_t, nB_f, Bool.not_true, Bool.not_false, Bool.and_true, Bool.true_and, Bool.false_and, Bool.and_false, Bool.or_true, Bool.true_or, Bool.false_or, Bool.or_false, cond_true, cond_false]) rfl
noncomputable def xEn (k : Int32) : Bool := (xHo k) || (xTe k)
theorem fb_X7_isEnd (d : Nat) (hd : 2 ≤ d) (μ : zM) (k : Int32) : z_C d mi_X7_isEnd [.int k] μ (zR μ (.int (nB (xEn k)))) := by
  refine z_C_in (by decide) (by omega) (fun d' Z ed hc hr => ?_)
  have hH : zH mi_X7_isEnd zt_X7_isEnd 79 7 1 := hh_X7_isEnd
  refine z_rcs hc hH 1 (pc' := 1) (lv' := [(0, .int k)]) (st' := [.int k]) (μ' := μ) (by rfl) ?_
  refine zq_call hc (z_cx_ok hH (by rfl)) (fb_X7_isHonour d' (by omega) μ k) (by decide +kernel) (fun r9 μ9 hq => ?_)
  obtain ⟨hμ9, rfl⟩ := hq
  rw [hμ9]
  clear hμ9 μ9
  show Z 0 4 [(0, .int k)] [.int (nB (xHo k))] μ
  have hJ1 : Z 0 19 [(0, .int k)] [.int (nB ((xHo k) || (xTe k)))] μ := by
    exact hr 0 19 _ _ _ (some (.int (nB ((xHo k) || (xTe k))))) (by decide +kernel) ((fun b : Bool => (by cases b <;> rfl : z_rn mi_X7_isEnd 19 [.int (nB b)] = some (some (.int (nB b))))) ((xHo k) || (xTe k))) (⟨rfl, (by rfl)⟩)
  refine zq_if hc hH (by rfl) (tg := 14) (by rfl) (fun h2 => ?_) (fun h2 => ?_)
  · have h2 : (xHo k) = true := nB_n.mp (cm_ne.mp h2)
    refine z_rcs hc hH 2 (pc' := 19) (lv' := [(0, .int k)]) (st' := [.int 1]) (μ' := μ) (by rfl) ?_
    exact zJ hJ1 rfl (by simp only [h2, lb_f, Int64.or_zero, nB_t, nB_f, Bool.not_true, Bool.not_false, Bool.and_true, Bool.true_and, Bool.false_and, Bool.and_false, Bool.or_true, Bool.true_or, Bool.false_or, Bool.or_false, cond_true, cond_false]) rfl
  · have h2 : (xHo k) = false := nB_z.mp (cn_ne.mp h2)
    refine z_rcs hc hH 1 (pc' := 8) (lv' := [(0, .int k)]) (st' := [.int k]) (μ' := μ) (by rfl) ?_
    refine zq_call hc (z_cx_ok hH (by rfl)) (fb_X7_isTerminal d' (by omega) μ k) (by decide +kernel) (fun r9 μ9 hq => ?_)
    obtain ⟨hμ9, rfl⟩ := hq
    rw [hμ9]
    clear hμ9 μ9
    show Z 0 11 [(0, .int k)] [.int (nB (xTe k))] μ
    refine zq_if hc hH (by rfl) (tg := 18) (by rfl) (fun h3 => ?_) (fun h3 => ?_)
    · have h3 : (xTe k) = false := nB_z.mp (cm_eq9.mp h3)
      refine z_rcs hc hH 1 (pc' := 19) (lv' := [(0, .int k)]) (st' := [.int 0]) (μ' := μ) (by rfl) ?_
      exact zJ hJ1 rfl (by simp only [h2, h3, lb_f, Int64.or_zero, nB_t, nB_f, Bool.not_true, Bool.not_false, Bool.and_true, Bool.true_and, Bool.false_and, Bool.and_false, Bool.or_true, Bool.true_or, Bool.false_or, Bool.or_false, cond_true, cond_false]) rfl
    · have h3 : (xTe k) = true := nB_n.mp (cn_eq.mp h3)
      refine z_rcs hc hH 2 (pc' := 19) (lv' := [(0, .int k)]) (st' := [.int 1]) (μ' := μ) (by rfl) ?_
      exact zJ hJ1 rfl (by simp only [h2, h3, lb_f, Int64.or_zero, nB_t, nB_f, Bool.not_true, Bool.not_false, Bool.and_true, Bool.true_and, Bool.false_and, Bool.and_false, Bool.or_true, Bool.true_or, Bool.false_or, Bool.or_false, cond_true, cond_false]) rfl
noncomputable def xT (μ : zM) (k : Int32) : Bool := (((!(decide ((μ.1 56 0) = 0)) && (decide ((μ.1 57 0) = k))) || (!(decide ((μ.1 56 1) = 0)) && (decide ((μ.1 57 1) = k)))) || (!(decide ((μ.1 56 2) = 0)) && (decide ((μ.1 57 2) = k)))) || (!(decide ((μ.1 56 3) = 0)) && (decide ((μ.1 57 3) = k)))
theorem fb_X7_hasThree (d : Nat) (hd : 1 ≤ d) (μ : zM) (k : Int32) : z_C d mi_X7_hasThree [.ref 50, .int k] μ (zR μ (.int (nB (xT μ k)))) := by
  refine z_C_in (by decide) (by omega) (fun d' Z ed hc hr => ?_)
  have hH : zH mi_X7_hasThree zt_X7_hasThree 79 7 4 := hh_X7_hasThree
  refine z_rcs hc hH 12 (pc' := 18) (lv' := [(3, .int 0), (2, .int 0), (0, .ref 50), (1, .int k)]) (st' := [.int 0, .ref 56]) (μ' := μ) (by rfl) ?_
  refine zq_iald hc hH (by rfl) 4 (by decide +kernel) (show vp_in (nI 0) 4 from vp_in_nI (by decide) (by decide)) ?_
  show Z 0 19 [(3, .int 0), (2, .int 0), (0, .ref 50), (1, .int k)] [.int (μ.1 56 0)] μ
  have hJ1 : Z 0 37 [(3, .int 0), (2, .int 0), (0, .ref 50), (1, .int k)] [.int (nB (!(decide ((μ.1 56 0) = 0)) && (decide ((μ.1 57 0) = k))))] μ := by
    refine z_rcs hc hH 7 (pc' := 10) (lv' := [(3, .int 1), (2, .int (nB (!(decide ((μ.1 56 0) = 0)) && (decide ((μ.1 57 0) = k))))), (0, .ref 50), (1, .int k)]) (st' := [.int (nB (!(decide ((μ.1 56 0) = 0)) && (decide ((μ.1 57 0) = k))))]) (μ' := μ) (by rfl) ?_
    have hJ2 : Z 0 37 [(3, .int 1), (2, .int (nB (!(decide ((μ.1 56 0) = 0)) && (decide ((μ.1 57 0) = k))))), (0, .ref 50), (1, .int k)] [.int (nB ((!(decide ((μ.1 56 0) = 0)) && (decide ((μ.1 57 0) = k))) || (!(decide ((μ.1 56 1) = 0)) && (decide ((μ.1 57 1) = k)))))] μ := by
      generalize he3 : ((!(decide ((μ.1 56 0) = 0)) && (decide ((μ.1 57 0) = k))) || (!(decide ((μ.1 56 1) = 0)) && (decide ((μ.1 57 1) = k)))) = e3
      refine z_rcs hc hH 7 (pc' := 10) (lv' := [(3, .int 2), (2, .int (nB e3)), (0, .ref 50), (1, .int k)]) (st' := [.int (nB e3)]) (μ' := μ) (by rfl) ?_
      have hJ4 : Z 0 37 [(3, .int 2), (2, .int (nB e3)), (0, .ref 50), (1, .int k)] [.int (nB (e3 || (!(decide ((μ.1 56 2) = 0)) && (decide ((μ.1 57 2) = k)))))] μ := by
        refine z_rcs hc hH 7 (pc' := 10) (lv' := [(3, .int 3), (2, .int (nB (e3 || (!(decide ((μ.1 56 2) = 0)) && (decide ((μ.1 57 2) = k)))))), (0, .ref 50), (1, .int k)]) (st' := [.int (nB (e3 || (!(decide ((μ.1 56 2) = 0)) && (decide ((μ.1 57 2) = k)))))]) (μ' := μ) (by rfl) ?_
        have hJ5 : Z 0 37 [(3, .int 3), (2, .int (nB (e3 || (!(decide ((μ.1 56 2) = 0)) && (decide ((μ.1 57 2) = k)))))), (0, .ref 50), (1, .int k)] [.int (nB ((e3 || (!(decide ((μ.1 56 2) = 0)) && (decide ((μ.1 57 2) = k)))) || (!(decide ((μ.1 56 3) = 0)) && (decide ((μ.1 57 3) = k)))))] μ := by
          generalize he6 : ((e3 || (!(decide ((μ.1 56 2) = 0)) && (decide ((μ.1 57 2) = k)))) || (!(decide ((μ.1 56 3) = 0)) && (decide ((μ.1 57 3) = k)))) = e6
          refine z_rcs hc hH 7 (pc' := 45) (lv' := [(3, .int 4), (2, .int (nB e6)), (0, .ref 50), (1, .int k)]) (st' := [.int (nB e6)]) (μ' := μ) (by rfl) ?_
          exact hr 0 45 _ _ _ (some (.int (nB e6))) (by decide +kernel) ((fun b : Bool => (by cases b <;> rfl : z_rn mi_X7_hasThree 45 [.int (nB b)] = some (some (.int (nB b))))) e6) (⟨rfl, (by subst he6; subst he3; rfl)⟩)
        refine zq_if hc hH (by rfl) (tg := 32) (by rfl) (fun h7 => ?_) (fun h7 => ?_)
        · have h7 : (e3 || (!(decide ((μ.1 56 2) = 0)) && (decide ((μ.1 57 2) = k)))) = true := nB_n.mp (cm_ne.mp h7)
          refine z_rcs hc hH 2 (pc' := 37) (lv' := [(3, .int 3), (2, .int (nB (e3 || (!(decide ((μ.1 56 2) = 0)) && (decide ((μ.1 57 2) = k)))))), (0, .ref 50), (1, .int k)]) (st' := [.int 1]) (μ' := μ) (by rfl) ?_
          exact zJ hJ5 rfl (by simp only [h7, lb_f, Int64.or_zero, nB_t, nB_f, Bool.not_true, Bool.not_false, Bool.and_true, Bool.true_and, Bool.false_and, Bool.and_false, Bool.or_true, Bool.true_or, Bool.false_or, Bool.or_false, cond_true, cond_false]) rfl
        · have h7 : (e3 || (!(decide ((μ.1 56 2) = 0)) && (decide ((μ.1 57 2) = k)))) = false := nB_z.mp (cn_ne.mp h7)
          refine z_rcs hc hH 3 (pc' := 18) (lv' := [(3, .int 3), (2, .int (nB (e3 || (!(decide ((μ.1 56 2) = 0)) && (decide ((μ.1 57 2) = k)))))), (0, .ref 50), (1, .int k)]) (st' := [.int 3, .ref 56]) (μ' := μ) (by rfl) ?_
          refine zq_iald hc hH (by rfl) 4 (by decide +kernel) (show vp_in (nI 3) 4 from vp_in_nI (by decide) (by decide)) ?_
          show Z 0 19 [(3, .int 3), (2, .int (nB (e3 || (!(decide ((μ.1 56 2) = 0)) && (decide ((μ.1 57 2) = k)))))), (0, .ref 50), (1, .int k)] [.int (μ.1 56 3)] μ
          refine zq_if hc hH (by rfl) (tg := 36) (by rfl) (fun h8 => ?_) (fun h8 => ?_)
          · have h8 : (decide ((μ.1 56 3) = 0)) = true := decide_eq_true (cm_eq9.mp h8)
            refine z_rcs hc hH 1 (pc' := 37) (lv' := [(3, .int 3), (2, .int (nB (e3 || (!(decide ((μ.1 56 2) = 0)) && (decide ((μ.1 57 2) = k)))))), (0, .ref 50), (1, .int k)]) (st' := [.int 0]) (μ' := μ) (by rfl) ?_
            exact zJ hJ5 rfl (by simp only [h7, h8, lb_f, Int64.or_zero, nB_t, nB_f, Bool.not_true, Bool.not_false, Bool.and_true, Bool.true_and, Bool.false_and, Bool.and_false, Bool.or_true, Bool.true_or, Bool.false_or, Bool.or_false, cond_true, cond_false]) rfl
          · have h8 : (decide ((μ.1 56 3) = 0)) = false := decide_eq_false (cn_eq.mp h8)
            refine z_rcs hc hH 3 (pc' := 27) (lv' := [(3, .int 3), (2, .int (nB (e3 || (!(decide ((μ.1 56 2) = 0)) && (decide ((μ.1 57 2) = k)))))), (0, .ref 50), (1, .int k)]) (st' := [.int 3, .ref 57]) (μ' := μ) (by rfl) ?_
            refine zq_iald hc hH (by rfl) 4 (by decide +kernel) (show vp_in (nI 3) 4 from vp_in_nI (by decide) (by decide)) ?_
            show Z 0 28 [(3, .int 3), (2, .int (nB (e3 || (!(decide ((μ.1 56 2) = 0)) && (decide ((μ.1 57 2) = k)))))), (0, .ref 50), (1, .int k)] [.int (μ.1 57 3)] μ
            refine z_rcs hc hH 1 (pc' := 29) (lv' := [(3, .int 3), (2, .int (nB (e3 || (!(decide ((μ.1 56 2) = 0)) && (decide ((μ.1 57 2) = k)))))), (0, .ref 50), (1, .int k)]) (st' := [.int k, .int (μ.1 57 3)]) (μ' := μ) (by rfl) ?_
            refine zq_ic hc hH (by rfl) (tg := 36) (by rfl) (fun h9 => ?_) (fun h9 => ?_)
            · have h9 : (decide ((μ.1 57 3) = k)) = false := decide_eq_false (cm_ne.mp h9)
              refine z_rcs hc hH 1 (pc' := 37) (lv' := [(3, .int 3), (2, .int (nB (e3 || (!(decide ((μ.1 56 2) = 0)) && (decide ((μ.1 57 2) = k)))))), (0, .ref 50), (1, .int k)]) (st' := [.int 0]) (μ' := μ) (by rfl) ?_
              exact zJ hJ5 rfl (by simp only [h7, h8, h9, lb_f, Int64.or_zero, nB_t, nB_f, Bool.not_true, Bool.not_false, Bool.and_true, Bool.true_and, Bool.false_and, Bool.and_false, Bool.or_true, Bool.true_or, Bool.false_or, Bool.or_false, cond_true, cond_false]) rfl
            · have h9 : (decide ((μ.1 57 3) = k)) = true := decide_eq_true (cn_ne.mp h9)
              refine z_rcs hc hH 2 (pc' := 37) (lv' := [(3, .int 3), (2, .int (nB (e3 || (!(decide ((μ.1 56 2) = 0)) && (decide ((μ.1 57 2) = k)))))), (0, .ref 50), (1, .int k)]) (st' := [.int 1]) (μ' := μ) (by rfl) ?_
              exact zJ hJ5 rfl (by simp only [h7, h8, h9, lb_f, Int64.or_zero, nB_t, nB_f, Bool.not_true, Bool.not_false, Bool.and_true, Bool.true_and, Bool.false_and, Bool.and_false, Bool.or_true, Bool.true_or, Bool.false_or, Bool.or_false, cond_true, cond_false]) rfl
      refine zq_if hc hH (by rfl) (tg := 32) (by rfl) (fun h10 => ?_) (fun h10 => ?_)
      · have h10 : (e3) = true := nB_n.mp (cm_ne.mp h10)
        refine z_rcs hc hH 2 (pc' := 37) (lv' := [(3, .int 2), (2, .int (nB e3)), (0, .ref 50), (1, .int k)]) (st' := [.int 1]) (μ' := μ) (by rfl) ?_
        exact zJ hJ4 rfl (by simp only [h10, lb_f, Int64.or_zero, nB_t, nB_f, Bool.not_true, Bool.not_false, Bool.and_true, Bool.true_and, Bool.false_and, Bool.and_false, Bool.or_true, Bool.true_or, Bool.false_or, Bool.or_false, cond_true, cond_false]) rfl
      · have h10 : (e3) = false := nB_z.mp (cn_ne.mp h10)
        refine z_rcs hc hH 3 (pc' := 18) (lv' := [(3, .int 2), (2, .int (nB e3)), (0, .ref 50), (1, .int k)]) (st' := [.int 2, .ref 56]) (μ' := μ) (by rfl) ?_
        refine zq_iald hc hH (by rfl) 4 (by decide +kernel) (show vp_in (nI 2) 4 from vp_in_nI (by decide) (by decide)) ?_
        show Z 0 19 [(3, .int 2), (2, .int (nB e3)), (0, .ref 50), (1, .int k)] [.int (μ.1 56 2)] μ
        refine zq_if hc hH (by rfl) (tg := 36) (by rfl) (fun h11 => ?_) (fun h11 => ?_)
        · have h11 : (decide ((μ.1 56 2) = 0)) = true := decide_eq_true (cm_eq9.mp h11)
          refine z_rcs hc hH 1 (pc' := 37) (lv' := [(3, .int 2), (2, .int (nB e3)), (0, .ref 50), (1, .int k)]) (st' := [.int 0]) (μ' := μ) (by rfl) ?_
          exact zJ hJ4 rfl (by simp only [h10, h11, lb_f, Int64.or_zero, nB_t, nB_f, Bool.not_true, Bool.not_false, Bool.and_true, Bool.true_and, Bool.false_and, Bool.and_false, Bool.or_true, Bool.true_or, Bool.false_or, Bool.or_false, cond_true, cond_false]) rfl
        · have h11 : (decide ((μ.1 56 2) = 0)) = false := decide_eq_false (cn_eq.mp h11)
          refine z_rcs hc hH 3 (pc' := 27) (lv' := [(3, .int 2), (2, .int (nB e3)), (0, .ref 50), (1, .int k)]) (st' := [.int 2, .ref 57]) (μ' := μ) (by rfl) ?_
          refine zq_iald hc hH (by rfl) 4 (by decide +kernel) (show vp_in (nI 2) 4 from vp_in_nI (by decide) (by decide)) ?_
          show Z 0 28 [(3, .int 2), (2, .int (nB e3)), (0, .ref 50), (1, .int k)] [.int (μ.1 57 2)] μ
          refine z_rcs hc hH 1 (pc' := 29) (lv' := [(3, .int 2), (2, .int (nB e3)), (0, .ref 50), (1, .int k)]) (st' := [.int k, .int (μ.1 57 2)]) (μ' := μ) (by rfl) ?_
          refine zq_ic hc hH (by rfl) (tg := 36) (by rfl) (fun h12 => ?_) (fun h12 => ?_)
          · have h12 : (decide ((μ.1 57 2) = k)) = false := decide_eq_false (cm_ne.mp h12)
            refine z_rcs hc hH 1 (pc' := 37) (lv' := [(3, .int 2), (2, .int (nB e3)), (0, .ref 50), (1, .int k)]) (st' := [.int 0]) (μ' := μ) (by rfl) ?_
            exact zJ hJ4 rfl (by simp only [h10, h11, h12, lb_f, Int64.or_zero, nB_t, nB_f, Bool.not_true, Bool.not_false, Bool.and_true, Bool.true_and, Bool.false_and, Bool.and_false, Bool.or_true, Bool.true_or, Bool.false_or, Bool.or_false, cond_true, cond_false]) rfl
          · have h12 : (decide ((μ.1 57 2) = k)) = true := decide_eq_true (cn_ne.mp h12)
            refine z_rcs hc hH 2 (pc' := 37) (lv' := [(3, .int 2), (2, .int (nB e3)), (0, .ref 50), (1, .int k)]) (st' := [.int 1]) (μ' := μ) (by rfl) ?_
            exact zJ hJ4 rfl (by simp only [h10, h11, h12, lb_f, Int64.or_zero, nB_t, nB_f, Bool.not_true, Bool.not_false, Bool.and_true, Bool.true_and, Bool.false_and, Bool.and_false, Bool.or_true, Bool.true_or, Bool.false_or, Bool.or_false, cond_true, cond_false]) rfl
    refine zq_if hc hH (by rfl) (tg := 32) (by rfl) (fun h13 => ?_) (fun h13 => ?_)
    · have h13 : (!(decide ((μ.1 56 0) = 0)) && (decide ((μ.1 57 0) = k))) = true := nB_n.mp (cm_ne.mp h13)
      refine z_rcs hc hH 2 (pc' := 37) (lv' := [(3, .int 1), (2, .int (nB (!(decide ((μ.1 56 0) = 0)) && (decide ((μ.1 57 0) = k))))), (0, .ref 50), (1, .int k)]) (st' := [.int 1]) (μ' := μ) (by rfl) ?_
      exact zJ hJ2 rfl (by simp only [h13, lb_f, Int64.or_zero, nB_t, nB_f, Bool.not_true, Bool.not_false, Bool.and_true, Bool.true_and, Bool.false_and, Bool.and_false, Bool.or_true, Bool.true_or, Bool.false_or, Bool.or_false, cond_true, cond_false]) rfl
    · have h13 : (!(decide ((μ.1 56 0) = 0)) && (decide ((μ.1 57 0) = k))) = false := nB_z.mp (cn_ne.mp h13)
      refine z_rcs hc hH 3 (pc' := 18) (lv' := [(3, .int 1), (2, .int (nB (!(decide ((μ.1 56 0) = 0)) && (decide ((μ.1 57 0) = k))))), (0, .ref 50), (1, .int k)]) (st' := [.int 1, .ref 56]) (μ' := μ) (by rfl) ?_
      refine zq_iald hc hH (by rfl) 4 (by decide +kernel) (show vp_in (nI 1) 4 from vp_in_nI (by decide) (by decide)) ?_
      show Z 0 19 [(3, .int 1), (2, .int (nB (!(decide ((μ.1 56 0) = 0)) && (decide ((μ.1 57 0) = k))))), (0, .ref 50), (1, .int k)] [.int (μ.1 56 1)] μ
      refine zq_if hc hH (by rfl) (tg := 36) (by rfl) (fun h14 => ?_) (fun h14 => ?_)
      · have h14 : (decide ((μ.1 56 1) = 0)) = true := decide_eq_true (cm_eq9.mp h14)
        refine z_rcs hc hH 1 (pc' := 37) (lv' := [(3, .int 1), (2, .int (nB (!(decide ((μ.1 56 0) = 0)) && (decide ((μ.1 57 0) = k))))), (0, .ref 50), (1, .int k)]) (st' := [.int 0]) (μ' := μ) (by rfl) ?_
        exact zJ hJ2 rfl (by simp only [h13, h14, lb_f, Int64.or_zero, nB_t, nB_f, Bool.not_true, Bool.not_false, Bool.and_true, Bool.true_and, Bool.false_and, Bool.and_false, Bool.or_true, Bool.true_or, Bool.false_or, Bool.or_false, cond_true, cond_false]) rfl
      · have h14 : (decide ((μ.1 56 1) = 0)) = false := decide_eq_false (cn_eq.mp h14)
        refine z_rcs hc hH 3 (pc' := 27) (lv' := [(3, .int 1), (2, .int (nB (!(decide ((μ.1 56 0) = 0)) && (decide ((μ.1 57 0) = k))))), (0, .ref 50), (1, .int k)]) (st' := [.int 1, .ref 57]) (μ' := μ) (by rfl) ?_
        refine zq_iald hc hH (by rfl) 4 (by decide +kernel) (show vp_in (nI 1) 4 from vp_in_nI (by decide) (by decide)) ?_
        show Z 0 28 [(3, .int 1), (2, .int (nB (!(decide ((μ.1 56 0) = 0)) && (decide ((μ.1 57 0) = k))))), (0, .ref 50), (1, .int k)] [.int (μ.1 57 1)] μ
        refine z_rcs hc hH 1 (pc' := 29) (lv' := [(3, .int 1), (2, .int (nB (!(decide ((μ.1 56 0) = 0)) && (decide ((μ.1 57 0) = k))))), (0, .ref 50), (1, .int k)]) (st' := [.int k, .int (μ.1 57 1)]) (μ' := μ) (by rfl) ?_
        refine zq_ic hc hH (by rfl) (tg := 36) (by rfl) (fun h15 => ?_) (fun h15 => ?_)
        · have h15 : (decide ((μ.1 57 1) = k)) = false := decide_eq_false (cm_ne.mp h15)
          refine z_rcs hc hH 1 (pc' := 37) (lv' := [(3, .int 1), (2, .int (nB (!(decide ((μ.1 56 0) = 0)) && (decide ((μ.1 57 0) = k))))), (0, .ref 50), (1, .int k)]) (st' := [.int 0]) (μ' := μ) (by rfl) ?_
          exact zJ hJ2 rfl (by simp only [h13, h14, h15, lb_f, Int64.or_zero, nB_t, nB_f, Bool.not_true, Bool.not_false, Bool.and_true, Bool.true_and, Bool.false_and, Bool.and_false, Bool.or_true, Bool.true_or, Bool.false_or, Bool.or_false, cond_true, cond_false]) rfl
        · have h15 : (decide ((μ.1 57 1) = k)) = true := decide_eq_true (cn_ne.mp h15)
          refine z_rcs hc hH 2 (pc' := 37) (lv' := [(3, .int 1), (2, .int (nB (!(decide ((μ.1 56 0) = 0)) && (decide ((μ.1 57 0) = k))))), (0, .ref 50), (1, .int k)]) (st' := [.int 1]) (μ' := μ) (by rfl) ?_
          exact zJ hJ2 rfl (by simp only [h13, h14, h15, lb_f, Int64.or_zero, nB_t, nB_f, Bool.not_true, Bool.not_false, Bool.and_true, Bool.true_and, Bool.false_and, Bool.and_false, Bool.or_true, Bool.true_or, Bool.false_or, Bool.or_false, cond_true, cond_false]) rfl
  refine zq_if hc hH (by rfl) (tg := 36) (by rfl) (fun h16 => ?_) (fun h16 => ?_)
  · have h16 : (decide ((μ.1 56 0) = 0)) = true := decide_eq_true (cm_eq9.mp h16)
    refine z_rcs hc hH 1 (pc' := 37) (lv' := [(3, .int 0), (2, .int 0), (0, .ref 50), (1, .int k)]) (st' := [.int 0]) (μ' := μ) (by rfl) ?_
    exact zJ hJ1 rfl (by simp only [h16, lb_f, Int64.or_zero, nB_t, nB_f, Bool.not_true, Bool.not_false, Bool.and_true, Bool.true_and, Bool.false_and, Bool.and_false, Bool.or_true, Bool.true_or, Bool.false_or, Bool.or_false, cond_true, cond_false]) rfl
  · have h16 : (decide ((μ.1 56 0) = 0)) = false := decide_eq_false (cn_eq.mp h16)
    refine z_rcs hc hH 3 (pc' := 27) (lv' := [(3, .int 0), (2, .int 0), (0, .ref 50), (1, .int k)]) (st' := [.int 0, .ref 57]) (μ' := μ) (by rfl) ?_
    refine zq_iald hc hH (by rfl) 4 (by decide +kernel) (show vp_in (nI 0) 4 from vp_in_nI (by decide) (by decide)) ?_
    show Z 0 28 [(3, .int 0), (2, .int 0), (0, .ref 50), (1, .int k)] [.int (μ.1 57 0)] μ
    refine z_rcs hc hH 1 (pc' := 29) (lv' := [(3, .int 0), (2, .int 0), (0, .ref 50), (1, .int k)]) (st' := [.int k, .int (μ.1 57 0)]) (μ' := μ) (by rfl) ?_
    refine zq_ic hc hH (by rfl) (tg := 36) (by rfl) (fun h17 => ?_) (fun h17 => ?_)
    · have h17 : (decide ((μ.1 57 0) = k)) = false := decide_eq_false (cm_ne.mp h17)
      refine z_rcs hc hH 1 (pc' := 37) (lv' := [(3, .int 0), (2, .int 0), (0, .ref 50), (1, .int k)]) (st' := [.int 0]) (μ' := μ) (by rfl) ?_
      exact zJ hJ1 rfl (by simp only [h16, h17, lb_f, Int64.or_zero, nB_t, nB_f, Bool.not_true, Bool.not_false, Bool.and_true, Bool.true_and, Bool.false_and, Bool.and_false, Bool.or_true, Bool.true_or, Bool.false_or, Bool.or_false, cond_true, cond_false]) rfl
    · have h17 : (decide ((μ.1 57 0) = k)) = true := decide_eq_true (cn_ne.mp h17)
      refine z_rcs hc hH 2 (pc' := 37) (lv' := [(3, .int 0), (2, .int 0), (0, .ref 50), (1, .int k)]) (st' := [.int 1]) (μ' := μ) (by rfl) ?_
      exact zJ hJ1 rfl (by simp only [h16, h17, lb_f, Int64.or_zero, nB_t, nB_f, Bool.not_true, Bool.not_false, Bool.and_true, Bool.true_and, Bool.false_and, Bool.and_false, Bool.or_true, Bool.true_or, Bool.false_or, Bool.or_false, cond_true, cond_false]) rfl
noncomputable def xR (μ : zM) (k : Int32) : Bool := ((((decide ((μ.1 56 0) = 0)) && (decide ((μ.1 57 0) = k))) || ((decide ((μ.1 56 1) = 0)) && (decide ((μ.1 57 1) = k)))) || ((decide ((μ.1 56 2) = 0)) && (decide ((μ.1 57 2) = k)))) || ((decide ((μ.1 56 3) = 0)) && (decide ((μ.1 57 3) = k)))
theorem fb_X7_hasRun (d : Nat) (hd : 1 ≤ d) (μ : zM) (k : Int32) : z_C d mi_X7_hasRun [.ref 50, .int k] μ (zR μ (.int (nB (xR μ k)))) := by
  refine z_C_in (by decide) (by omega) (fun d' Z ed hc hr => ?_)
  have hH : zH mi_X7_hasRun zt_X7_hasRun 79 7 4 := hh_X7_hasRun
  refine z_rcs hc hH 12 (pc' := 18) (lv' := [(3, .int 0), (2, .int 0), (0, .ref 50), (1, .int k)]) (st' := [.int 0, .ref 56]) (μ' := μ) (by rfl) ?_
  refine zq_iald hc hH (by rfl) 4 (by decide +kernel) (show vp_in (nI 0) 4 from vp_in_nI (by decide) (by decide)) ?_
  show Z 0 19 [(3, .int 0), (2, .int 0), (0, .ref 50), (1, .int k)] [.int (μ.1 56 0)] μ
  have hJ1 : Z 0 37 [(3, .int 0), (2, .int 0), (0, .ref 50), (1, .int k)] [.int (nB ((decide ((μ.1 56 0) = 0)) && (decide ((μ.1 57 0) = k))))] μ := by
    refine z_rcs hc hH 7 (pc' := 10) (lv' := [(3, .int 1), (2, .int (nB ((decide ((μ.1 56 0) = 0)) && (decide ((μ.1 57 0) = k))))), (0, .ref 50), (1, .int k)]) (st' := [.int (nB ((decide ((μ.1 56 0) = 0)) && (decide ((μ.1 57 0) = k))))]) (μ' := μ) (by rfl) ?_
    have hJ2 : Z 0 37 [(3, .int 1), (2, .int (nB ((decide ((μ.1 56 0) = 0)) && (decide ((μ.1 57 0) = k))))), (0, .ref 50), (1, .int k)] [.int (nB (((decide ((μ.1 56 0) = 0)) && (decide ((μ.1 57 0) = k))) || ((decide ((μ.1 56 1) = 0)) && (decide ((μ.1 57 1) = k)))))] μ := by
      generalize he3 : (((decide ((μ.1 56 0) = 0)) && (decide ((μ.1 57 0) = k))) || ((decide ((μ.1 56 1) = 0)) && (decide ((μ.1 57 1) = k)))) = e3
      refine z_rcs hc hH 7 (pc' := 10) (lv' := [(3, .int 2), (2, .int (nB e3)), (0, .ref 50), (1, .int k)]) (st' := [.int (nB e3)]) (μ' := μ) (by rfl) ?_
      have hJ4 : Z 0 37 [(3, .int 2), (2, .int (nB e3)), (0, .ref 50), (1, .int k)] [.int (nB (e3 || ((decide ((μ.1 56 2) = 0)) && (decide ((μ.1 57 2) = k)))))] μ := by
        refine z_rcs hc hH 7 (pc' := 10) (lv' := [(3, .int 3), (2, .int (nB (e3 || ((decide ((μ.1 56 2) = 0)) && (decide ((μ.1 57 2) = k)))))), (0, .ref 50), (1, .int k)]) (st' := [.int (nB (e3 || ((decide ((μ.1 56 2) = 0)) && (decide ((μ.1 57 2) = k)))))]) (μ' := μ) (by rfl) ?_
        have hJ5 : Z 0 37 [(3, .int 3), (2, .int (nB (e3 || ((decide ((μ.1 56 2) = 0)) && (decide ((μ.1 57 2) = k)))))), (0, .ref 50), (1, .int k)] [.int (nB ((e3 || ((decide ((μ.1 56 2) = 0)) && (decide ((μ.1 57 2) = k)))) || ((decide ((μ.1 56 3) = 0)) && (decide ((μ.1 57 3) = k)))))] μ := by
          generalize he6 : ((e3 || ((decide ((μ.1 56 2) = 0)) && (decide ((μ.1 57 2) = k)))) || ((decide ((μ.1 56 3) = 0)) && (decide ((μ.1 57 3) = k)))) = e6
          refine z_rcs hc hH 7 (pc' := 45) (lv' := [(3, .int 4), (2, .int (nB e6)), (0, .ref 50), (1, .int k)]) (st' := [.int (nB e6)]) (μ' := μ) (by rfl) ?_
          exact hr 0 45 _ _ _ (some (.int (nB e6))) (by decide +kernel) ((fun b : Bool => (by cases b <;> rfl : z_rn mi_X7_hasRun 45 [.int (nB b)] = some (some (.int (nB b))))) e6) (⟨rfl, (by subst he6; subst he3; rfl)⟩)
        refine zq_if hc hH (by rfl) (tg := 32) (by rfl) (fun h7 => ?_) (fun h7 => ?_)
        · have h7 : (e3 || ((decide ((μ.1 56 2) = 0)) && (decide ((μ.1 57 2) = k)))) = true := nB_n.mp (cm_ne.mp h7)
          refine z_rcs hc hH 2 (pc' := 37) (lv' := [(3, .int 3), (2, .int (nB (e3 || ((decide ((μ.1 56 2) = 0)) && (decide ((μ.1 57 2) = k)))))), (0, .ref 50), (1, .int k)]) (st' := [.int 1]) (μ' := μ) (by rfl) ?_
          exact zJ hJ5 rfl (by simp only [h7, lb_f, Int64.or_zero, nB_t, nB_f, Bool.not_true, Bool.not_false, Bool.and_true, Bool.true_and, Bool.false_and, Bool.and_false, Bool.or_true, Bool.true_or, Bool.false_or, Bool.or_false, cond_true, cond_false]) rfl
        · have h7 : (e3 || ((decide ((μ.1 56 2) = 0)) && (decide ((μ.1 57 2) = k)))) = false := nB_z.mp (cn_ne.mp h7)
          refine z_rcs hc hH 3 (pc' := 18) (lv' := [(3, .int 3), (2, .int (nB (e3 || ((decide ((μ.1 56 2) = 0)) && (decide ((μ.1 57 2) = k)))))), (0, .ref 50), (1, .int k)]) (st' := [.int 3, .ref 56]) (μ' := μ) (by rfl) ?_
          refine zq_iald hc hH (by rfl) 4 (by decide +kernel) (show vp_in (nI 3) 4 from vp_in_nI (by decide) (by decide)) ?_
          show Z 0 19 [(3, .int 3), (2, .int (nB (e3 || ((decide ((μ.1 56 2) = 0)) && (decide ((μ.1 57 2) = k)))))), (0, .ref 50), (1, .int k)] [.int (μ.1 56 3)] μ
          refine zq_if hc hH (by rfl) (tg := 36) (by rfl) (fun h8 => ?_) (fun h8 => ?_)
          · have h8 : (decide ((μ.1 56 3) = 0)) = false := decide_eq_false (cm_ne.mp h8)
            refine z_rcs hc hH 1 (pc' := 37) (lv' := [(3, .int 3), (2, .int (nB (e3 || ((decide ((μ.1 56 2) = 0)) && (decide ((μ.1 57 2) = k)))))), (0, .ref 50), (1, .int k)]) (st' := [.int 0]) (μ' := μ) (by rfl) ?_
            exact zJ hJ5 rfl (by simp only [h7, h8, lb_f, Int64.or_zero, nB_t, nB_f, Bool.not_true, Bool.not_false, Bool.and_true, Bool.true_and, Bool.false_and, Bool.and_false, Bool.or_true, Bool.true_or, Bool.false_or, Bool.or_false, cond_true, cond_false]) rfl
          · have h8 : (decide ((μ.1 56 3) = 0)) = true := decide_eq_true (cn_ne.mp h8)
            refine z_rcs hc hH 3 (pc' := 27) (lv' := [(3, .int 3), (2, .int (nB (e3 || ((decide ((μ.1 56 2) = 0)) && (decide ((μ.1 57 2) = k)))))), (0, .ref 50), (1, .int k)]) (st' := [.int 3, .ref 57]) (μ' := μ) (by rfl) ?_
            refine zq_iald hc hH (by rfl) 4 (by decide +kernel) (show vp_in (nI 3) 4 from vp_in_nI (by decide) (by decide)) ?_
            show Z 0 28 [(3, .int 3), (2, .int (nB (e3 || ((decide ((μ.1 56 2) = 0)) && (decide ((μ.1 57 2) = k)))))), (0, .ref 50), (1, .int k)] [.int (μ.1 57 3)] μ
            refine z_rcs hc hH 1 (pc' := 29) (lv' := [(3, .int 3), (2, .int (nB (e3 || ((decide ((μ.1 56 2) = 0)) && (decide ((μ.1 57 2) = k)))))), (0, .ref 50), (1, .int k)]) (st' := [.int k, .int (μ.1 57 3)]) (μ' := μ) (by rfl) ?_
            refine zq_ic hc hH (by rfl) (tg := 36) (by rfl) (fun h9 => ?_) (fun h9 => ?_)
            · have h9 : (decide ((μ.1 57 3) = k)) = false := decide_eq_false (cm_ne.mp h9)
              refine z_rcs hc hH 1 (pc' := 37) (lv' := [(3, .int 3), (2, .int (nB (e3 || ((decide ((μ.1 56 2) = 0)) && (decide ((μ.1 57 2) = k)))))), (0, .ref 50), (1, .int k)]) (st' := [.int 0]) (μ' := μ) (by rfl) ?_
              exact zJ hJ5 rfl (by simp only [h7, h8, h9, lb_f, Int64.or_zero, nB_t, nB_f, Bool.not_true, Bool.not_false, Bool.and_true, Bool.true_and, Bool.false_and, Bool.and_false, Bool.or_true, Bool.true_or, Bool.false_or, Bool.or_false, cond_true, cond_false]) rfl
            · have h9 : (decide ((μ.1 57 3) = k)) = true := decide_eq_true (cn_ne.mp h9)
              refine z_rcs hc hH 2 (pc' := 37) (lv' := [(3, .int 3), (2, .int (nB (e3 || ((decide ((μ.1 56 2) = 0)) && (decide ((μ.1 57 2) = k)))))), (0, .ref 50), (1, .int k)]) (st' := [.int 1]) (μ' := μ) (by rfl) ?_
              exact zJ hJ5 rfl (by simp only [h7, h8, h9, lb_f, Int64.or_zero, nB_t, nB_f, Bool.not_true, Bool.not_false, Bool.and_true, Bool.true_and, Bool.false_and, Bool.and_false, Bool.or_true, Bool.true_or, Bool.false_or, Bool.or_false, cond_true, cond_false]) rfl
      refine zq_if hc hH (by rfl) (tg := 32) (by rfl) (fun h10 => ?_) (fun h10 => ?_)
      · have h10 : (e3) = true := nB_n.mp (cm_ne.mp h10)
        refine z_rcs hc hH 2 (pc' := 37) (lv' := [(3, .int 2), (2, .int (nB e3)), (0, .ref 50), (1, .int k)]) (st' := [.int 1]) (μ' := μ) (by rfl) ?_
        exact zJ hJ4 rfl (by simp only [h10, lb_f, Int64.or_zero, nB_t, nB_f, Bool.not_true, Bool.not_false, Bool.and_true, Bool.true_and, Bool.false_and, Bool.and_false, Bool.or_true, Bool.true_or, Bool.false_or, Bool.or_false, cond_true, cond_false]) rfl
      · have h10 : (e3) = false := nB_z.mp (cn_ne.mp h10)
        refine z_rcs hc hH 3 (pc' := 18) (lv' := [(3, .int 2), (2, .int (nB e3)), (0, .ref 50), (1, .int k)]) (st' := [.int 2, .ref 56]) (μ' := μ) (by rfl) ?_
        refine zq_iald hc hH (by rfl) 4 (by decide +kernel) (show vp_in (nI 2) 4 from vp_in_nI (by decide) (by decide)) ?_
        show Z 0 19 [(3, .int 2), (2, .int (nB e3)), (0, .ref 50), (1, .int k)] [.int (μ.1 56 2)] μ
        refine zq_if hc hH (by rfl) (tg := 36) (by rfl) (fun h11 => ?_) (fun h11 => ?_)
        · have h11 : (decide ((μ.1 56 2) = 0)) = false := decide_eq_false (cm_ne.mp h11)
          refine z_rcs hc hH 1 (pc' := 37) (lv' := [(3, .int 2), (2, .int (nB e3)), (0, .ref 50), (1, .int k)]) (st' := [.int 0]) (μ' := μ) (by rfl) ?_
          exact zJ hJ4 rfl (by simp only [h10, h11, lb_f, Int64.or_zero, nB_t, nB_f, Bool.not_true, Bool.not_false, Bool.and_true, Bool.true_and, Bool.false_and, Bool.and_false, Bool.or_true, Bool.true_or, Bool.false_or, Bool.or_false, cond_true, cond_false]) rfl
        · have h11 : (decide ((μ.1 56 2) = 0)) = true := decide_eq_true (cn_ne.mp h11)
          refine z_rcs hc hH 3 (pc' := 27) (lv' := [(3, .int 2), (2, .int (nB e3)), (0, .ref 50), (1, .int k)]) (st' := [.int 2, .ref 57]) (μ' := μ) (by rfl) ?_
          refine zq_iald hc hH (by rfl) 4 (by decide +kernel) (show vp_in (nI 2) 4 from vp_in_nI (by decide) (by decide)) ?_
          show Z 0 28 [(3, .int 2), (2, .int (nB e3)), (0, .ref 50), (1, .int k)] [.int (μ.1 57 2)] μ
          refine z_rcs hc hH 1 (pc' := 29) (lv' := [(3, .int 2), (2, .int (nB e3)), (0, .ref 50), (1, .int k)]) (st' := [.int k, .int (μ.1 57 2)]) (μ' := μ) (by rfl) ?_
          refine zq_ic hc hH (by rfl) (tg := 36) (by rfl) (fun h12 => ?_) (fun h12 => ?_)
          · have h12 : (decide ((μ.1 57 2) = k)) = false := decide_eq_false (cm_ne.mp h12)
            refine z_rcs hc hH 1 (pc' := 37) (lv' := [(3, .int 2), (2, .int (nB e3)), (0, .ref 50), (1, .int k)]) (st' := [.int 0]) (μ' := μ) (by rfl) ?_
            exact zJ hJ4 rfl (by simp only [h10, h11, h12, lb_f, Int64.or_zero, nB_t, nB_f, Bool.not_true, Bool.not_false, Bool.and_true, Bool.true_and, Bool.false_and, Bool.and_false, Bool.or_true, Bool.true_or, Bool.false_or, Bool.or_false, cond_true, cond_false]) rfl
          · have h12 : (decide ((μ.1 57 2) = k)) = true := decide_eq_true (cn_ne.mp h12)
            refine z_rcs hc hH 2 (pc' := 37) (lv' := [(3, .int 2), (2, .int (nB e3)), (0, .ref 50), (1, .int k)]) (st' := [.int 1]) (μ' := μ) (by rfl) ?_
            exact zJ hJ4 rfl (by simp only [h10, h11, h12, lb_f, Int64.or_zero, nB_t, nB_f, Bool.not_true, Bool.not_false, Bool.and_true, Bool.true_and, Bool.false_and, Bool.and_false, Bool.or_true, Bool.true_or, Bool.false_or, Bool.or_false, cond_true, cond_false]) rfl
    refine zq_if hc hH (by rfl) (tg := 32) (by rfl) (fun h13 => ?_) (fun h13 => ?_)
    · have h13 : ((decide ((μ.1 56 0) = 0)) && (decide ((μ.1 57 0) = k))) = true := nB_n.mp (cm_ne.mp h13)
      refine z_rcs hc hH 2 (pc' := 37) (lv' := [(3, .int 1), (2, .int (nB ((decide ((μ.1 56 0) = 0)) && (decide ((μ.1 57 0) = k))))), (0, .ref 50), (1, .int k)]) (st' := [.int 1]) (μ' := μ) (by rfl) ?_
      exact zJ hJ2 rfl (by simp only [h13, lb_f, Int64.or_zero, nB_t, nB_f, Bool.not_true, Bool.not_false, Bool.and_true, Bool.true_and, Bool.false_and, Bool.and_false, Bool.or_true, Bool.true_or, Bool.false_or, Bool.or_false, cond_true, cond_false]) rfl
    · have h13 : ((decide ((μ.1 56 0) = 0)) && (decide ((μ.1 57 0) = k))) = false := nB_z.mp (cn_ne.mp h13)
      refine z_rcs hc hH 3 (pc' := 18) (lv' := [(3, .int 1), (2, .int (nB ((decide ((μ.1 56 0) = 0)) && (decide ((μ.1 57 0) = k))))), (0, .ref 50), (1, .int k)]) (st' := [.int 1, .ref 56]) (μ' := μ) (by rfl) ?_
      refine zq_iald hc hH (by rfl) 4 (by decide +kernel) (show vp_in (nI 1) 4 from vp_in_nI (by decide) (by decide)) ?_
      show Z 0 19 [(3, .int 1), (2, .int (nB ((decide ((μ.1 56 0) = 0)) && (decide ((μ.1 57 0) = k))))), (0, .ref 50), (1, .int k)] [.int (μ.1 56 1)] μ
      refine zq_if hc hH (by rfl) (tg := 36) (by rfl) (fun h14 => ?_) (fun h14 => ?_)
      · have h14 : (decide ((μ.1 56 1) = 0)) = false := decide_eq_false (cm_ne.mp h14)
        refine z_rcs hc hH 1 (pc' := 37) (lv' := [(3, .int 1), (2, .int (nB ((decide ((μ.1 56 0) = 0)) && (decide ((μ.1 57 0) = k))))), (0, .ref 50), (1, .int k)]) (st' := [.int 0]) (μ' := μ) (by rfl) ?_
        exact zJ hJ2 rfl (by simp only [h13, h14, lb_f, Int64.or_zero, nB_t, nB_f, Bool.not_true, Bool.not_false, Bool.and_true, Bool.true_and, Bool.false_and, Bool.and_false, Bool.or_true, Bool.true_or, Bool.false_or, Bool.or_false, cond_true, cond_false]) rfl
      · have h14 : (decide ((μ.1 56 1) = 0)) = true := decide_eq_true (cn_ne.mp h14)
        refine z_rcs hc hH 3 (pc' := 27) (lv' := [(3, .int 1), (2, .int (nB ((decide ((μ.1 56 0) = 0)) && (decide ((μ.1 57 0) = k))))), (0, .ref 50), (1, .int k)]) (st' := [.int 1, .ref 57]) (μ' := μ) (by rfl) ?_
        refine zq_iald hc hH (by rfl) 4 (by decide +kernel) (show vp_in (nI 1) 4 from vp_in_nI (by decide) (by decide)) ?_
        show Z 0 28 [(3, .int 1), (2, .int (nB ((decide ((μ.1 56 0) = 0)) && (decide ((μ.1 57 0) = k))))), (0, .ref 50), (1, .int k)] [.int (μ.1 57 1)] μ
        refine z_rcs hc hH 1 (pc' := 29) (lv' := [(3, .int 1), (2, .int (nB ((decide ((μ.1 56 0) = 0)) && (decide ((μ.1 57 0) = k))))), (0, .ref 50), (1, .int k)]) (st' := [.int k, .int (μ.1 57 1)]) (μ' := μ) (by rfl) ?_
        refine zq_ic hc hH (by rfl) (tg := 36) (by rfl) (fun h15 => ?_) (fun h15 => ?_)
        · have h15 : (decide ((μ.1 57 1) = k)) = false := decide_eq_false (cm_ne.mp h15)
          refine z_rcs hc hH 1 (pc' := 37) (lv' := [(3, .int 1), (2, .int (nB ((decide ((μ.1 56 0) = 0)) && (decide ((μ.1 57 0) = k))))), (0, .ref 50), (1, .int k)]) (st' := [.int 0]) (μ' := μ) (by rfl) ?_
          exact zJ hJ2 rfl (by simp only [h13, h14, h15, lb_f, Int64.or_zero, nB_t, nB_f, Bool.not_true, Bool.not_false, Bool.and_true, Bool.true_and, Bool.false_and, Bool.and_false, Bool.or_true, Bool.true_or, Bool.false_or, Bool.or_false, cond_true, cond_false]) rfl
        · have h15 : (decide ((μ.1 57 1) = k)) = true := decide_eq_true (cn_ne.mp h15)
          refine z_rcs hc hH 2 (pc' := 37) (lv' := [(3, .int 1), (2, .int (nB ((decide ((μ.1 56 0) = 0)) && (decide ((μ.1 57 0) = k))))), (0, .ref 50), (1, .int k)]) (st' := [.int 1]) (μ' := μ) (by rfl) ?_
          exact zJ hJ2 rfl (by simp only [h13, h14, h15, lb_f, Int64.or_zero, nB_t, nB_f, Bool.not_true, Bool.not_false, Bool.and_true, Bool.true_and, Bool.false_and, Bool.and_false, Bool.or_true, Bool.true_or, Bool.false_or, Bool.or_false, cond_true, cond_false]) rfl
  refine zq_if hc hH (by rfl) (tg := 36) (by rfl) (fun h16 => ?_) (fun h16 => ?_)
  · have h16 : (decide ((μ.1 56 0) = 0)) = false := decide_eq_false (cm_ne.mp h16)
    refine z_rcs hc hH 1 (pc' := 37) (lv' := [(3, .int 0), (2, .int 0), (0, .ref 50), (1, .int k)]) (st' := [.int 0]) (μ' := μ) (by rfl) ?_
    exact zJ hJ1 rfl (by simp only [h16, lb_f, Int64.or_zero, nB_t, nB_f, Bool.not_true, Bool.not_false, Bool.and_true, Bool.true_and, Bool.false_and, Bool.and_false, Bool.or_true, Bool.true_or, Bool.false_or, Bool.or_false, cond_true, cond_false]) rfl
  · have h16 : (decide ((μ.1 56 0) = 0)) = true := decide_eq_true (cn_ne.mp h16)
    refine z_rcs hc hH 3 (pc' := 27) (lv' := [(3, .int 0), (2, .int 0), (0, .ref 50), (1, .int k)]) (st' := [.int 0, .ref 57]) (μ' := μ) (by rfl) ?_
    refine zq_iald hc hH (by rfl) 4 (by decide +kernel) (show vp_in (nI 0) 4 from vp_in_nI (by decide) (by decide)) ?_
    show Z 0 28 [(3, .int 0), (2, .int 0), (0, .ref 50), (1, .int k)] [.int (μ.1 57 0)] μ
    refine z_rcs hc hH 1 (pc' := 29) (lv' := [(3, .int 0), (2, .int 0), (0, .ref 50), (1, .int k)]) (st' := [.int k, .int (μ.1 57 0)]) (μ' := μ) (by rfl) ?_
    refine zq_ic hc hH (by rfl) (tg := 36) (by rfl) (fun h17 => ?_) (fun h17 => ?_)
    · have h17 : (decide ((μ.1 57 0) = k)) = false := decide_eq_false (cm_ne.mp h17)
      refine z_rcs hc hH 1 (pc' := 37) (lv' := [(3, .int 0), (2, .int 0), (0, .ref 50), (1, .int k)]) (st' := [.int 0]) (μ' := μ) (by rfl) ?_
      exact zJ hJ1 rfl (by simp only [h16, h17, lb_f, Int64.or_zero, nB_t, nB_f, Bool.not_true, Bool.not_false, Bool.and_true, Bool.true_and, Bool.false_and, Bool.and_false, Bool.or_true, Bool.true_or, Bool.false_or, Bool.or_false, cond_true, cond_false]) rfl
    · have h17 : (decide ((μ.1 57 0) = k)) = true := decide_eq_true (cn_ne.mp h17)
      refine z_rcs hc hH 2 (pc' := 37) (lv' := [(3, .int 0), (2, .int 0), (0, .ref 50), (1, .int k)]) (st' := [.int 1]) (μ' := μ) (by rfl) ?_
      exact zJ hJ1 rfl (by simp only [h16, h17, lb_f, Int64.or_zero, nB_t, nB_f, Bool.not_true, Bool.not_false, Bool.and_true, Bool.true_and, Bool.false_and, Bool.and_false, Bool.or_true, Bool.true_or, Bool.false_or, Bool.or_false, cond_true, cond_false]) rfl
theorem fb_X7_bit (d : Nat) (hd : 1 ≤ d) (μ : zM) (k : Int32) : z_C d mi_X7_bit [.int k] μ (zR μ (.long (lb true k))) := by
  refine z_C_in (by decide) (by omega) (fun d' Z ed hc hr => ?_)
  have hH : zH mi_X7_bit zt_X7_bit 79 7 1 := hh_X7_bit
  refine z_rcs hc hH 3 (pc' := 3) (lv' := [(0, .int k)]) (st' := [.long (1 <<< (k.toInt64 &&& 63))]) (μ' := μ) (by rfl) ?_
  exact hr 0 3 _ _ _ (some (.long (1 <<< (k.toInt64 &&& 63)))) (by decide +kernel) (z_rx_ok hH (by rfl)) (⟨rfl, (by rfl)⟩)
noncomputable def xE1 (μ : zM) (ru : Int32) : Bool := (((((xEn (μ.1 50 21)) && ((xEn (μ.1 57 0)) || ((decide ((μ.1 56 0) = 0)) && (xEn ((μ.1 57 0) + 2))))) && ((xEn (μ.1 57 1)) || ((decide ((μ.1 56 1) = 0)) && (xEn ((μ.1 57 1) + 2))))) && ((xEn (μ.1 57 2)) || ((decide ((μ.1 56 2) = 0)) && (xEn ((μ.1 57 2) + 2))))) && ((xEn (μ.1 57 3)) || ((decide ((μ.1 56 3) = 0)) && (xEn ((μ.1 57 3) + 2))))) && (!(decide (ru ≤ 0)) && (((((xHo (μ.1 50 21)) || (xHo (μ.1 57 0))) || (xHo (μ.1 57 1))) || (xHo (μ.1 57 2))) || (xHo (μ.1 57 3))))
noncomputable def xE2 (μ : zM) (ru : Int32) : Bool := (((((xTe (μ.1 50 21)) && ((xTe (μ.1 57 0)) || ((decide ((μ.1 56 0) = 0)) && (xTe ((μ.1 57 0) + 2))))) && ((xTe (μ.1 57 1)) || ((decide ((μ.1 56 1) = 0)) && (xTe ((μ.1 57 1) + 2))))) && ((xTe (μ.1 57 2)) || ((decide ((μ.1 56 2) = 0)) && (xTe ((μ.1 57 2) + 2))))) && ((xTe (μ.1 57 3)) || ((decide ((μ.1 56 3) = 0)) && (xTe ((μ.1 57 3) + 2))))) && (!(decide (ru ≤ 0)))
theorem fb_X7_edges (d : Nat) (hd : 3 ≤ d) (μ : zM) (ru : Int32) : z_C d mi_X7_edges [.ref 50, .int ru] μ (fun r μ' => r = none ∧ μ' = mGP μ (μ.2.1 50 24) (((μ.2.1 50 25) ||| (lb (xE1 μ ru) 23)) ||| (lb (xE2 μ ru) 27)) (μ.1 50 23)) := by
  refine z_C_in (by decide) (by omega) (fun d' Z ed hc hr => ?_)
  have hH : zH mi_X7_edges zt_X7_edges 79 7 9 := hh_X7_edges
  refine zJ (μ := (mGP μ (μ.2.1 50 24) (μ.2.1 50 25) (μ.1 50 23))) ?_ rfl rfl (mGP_rf μ)
  refine z_rcs hc hH 2 (pc' := 4) (lv' := [(0, .ref 50), (1, .int ru)]) (st' := [.int (μ.1 50 21)]) (μ' := mGP μ (μ.2.1 50 24) (μ.2.1 50 25) (μ.1 50 23)) (by rfl) ?_
  refine zq_call hc (z_cx_ok hH (by rfl)) (fb_X7_isEnd d' (by omega) (mGP μ (μ.2.1 50 24) (μ.2.1 50 25) (μ.1 50 23)) (μ.1 50 21)) (by decide +kernel) (fun r9 μ9 hq => ?_)
  obtain ⟨hμ9, rfl⟩ := hq
  rw [hμ9]
  clear hμ9 μ9
  show Z 0 7 [(0, .ref 50), (1, .int ru)] [.int (nB (xEn (μ.1 50 21)))] (mGP μ (μ.2.1 50 24) (μ.2.1 50 25) (μ.1 50 23))
  refine z_rcs hc hH 3 (pc' := 12) (lv' := [(2, .int (nB (xEn (μ.1 50 21)))), (0, .ref 50), (1, .int ru)]) (st' := [.int (μ.1 50 21)]) (μ' := mGP μ (μ.2.1 50 24) (μ.2.1 50 25) (μ.1 50 23)) (by rfl) ?_
  refine zq_call hc (z_cx_ok hH (by rfl)) (fb_X7_isTerminal d' (by omega) (mGP μ (μ.2.1 50 24) (μ.2.1 50 25) (μ.1 50 23)) (μ.1 50 21)) (by decide +kernel) (fun r9 μ9 hq => ?_)
  obtain ⟨hμ9, rfl⟩ := hq
  rw [hμ9]
  clear hμ9 μ9
  show Z 0 15 [(2, .int (nB (xEn (μ.1 50 21)))), (0, .ref 50), (1, .int ru)] [.int (nB (xTe (μ.1 50 21)))] (mGP μ (μ.2.1 50 24) (μ.2.1 50 25) (μ.1 50 23))
  refine z_rcs hc hH 3 (pc' := 20) (lv' := [(3, .int (nB (xTe (μ.1 50 21)))), (2, .int (nB (xEn (μ.1 50 21)))), (0, .ref 50), (1, .int ru)]) (st' := [.int (μ.1 50 21)]) (μ' := mGP μ (μ.2.1 50 24) (μ.2.1 50 25) (μ.1 50 23)) (by rfl) ?_
  refine zq_call hc (z_cx_ok hH (by rfl)) (fb_X7_isHonour d' (by omega) (mGP μ (μ.2.1 50 24) (μ.2.1 50 25) (μ.1 50 23)) (μ.1 50 21)) (by decide +kernel) (fun r9 μ9 hq => ?_)
  obtain ⟨hμ9, rfl⟩ := hq
  rw [hμ9]
  clear hμ9 μ9
  show Z 0 23 [(3, .int (nB (xTe (μ.1 50 21)))), (2, .int (nB (xEn (μ.1 50 21)))), (0, .ref 50), (1, .int ru)] [.int (nB (xHo (μ.1 50 21)))] (mGP μ (μ.2.1 50 24) (μ.2.1 50 25) (μ.1 50 23))
  refine z_rcs hc hH 9 (pc' := 40) (lv' := [(5, .int 0), (4, .int (nB (xHo (μ.1 50 21)))), (3, .int (nB (xTe (μ.1 50 21)))), (2, .int (nB (xEn (μ.1 50 21)))), (0, .ref 50), (1, .int ru)]) (st' := [.int 0, .ref 57]) (μ' := mGP μ (μ.2.1 50 24) (μ.2.1 50 25) (μ.1 50 23)) (by rfl) ?_
  refine zq_iald hc hH (by rfl) 4 (by decide +kernel) (show vp_in (nI 0) 4 from vp_in_nI (by decide) (by decide)) ?_
  show Z 0 41 [(5, .int 0), (4, .int (nB (xHo (μ.1 50 21)))), (3, .int (nB (xTe (μ.1 50 21)))), (2, .int (nB (xEn (μ.1 50 21)))), (0, .ref 50), (1, .int ru)] [.int (μ.1 57 0)] (mGP μ (μ.2.1 50 24) (μ.2.1 50 25) (μ.1 50 23))
  refine z_rcs hc hH 2 (pc' := 45) (lv' := [(6, .int (μ.1 57 0)), (5, .int 0), (4, .int (nB (xHo (μ.1 50 21)))), (3, .int (nB (xTe (μ.1 50 21)))), (2, .int (nB (xEn (μ.1 50 21)))), (0, .ref 50), (1, .int ru)]) (st' := [.int (μ.1 57 0)]) (μ' := mGP μ (μ.2.1 50 24) (μ.2.1 50 25) (μ.1 50 23)) (by rfl) ?_
  refine zq_call hc (z_cx_ok hH (by rfl)) (fb_X7_isEnd d' (by omega) (mGP μ (μ.2.1 50 24) (μ.2.1 50 25) (μ.1 50 23)) (μ.1 57 0)) (by decide +kernel) (fun r9 μ9 hq => ?_)
  obtain ⟨hμ9, rfl⟩ := hq
  rw [hμ9]
  clear hμ9 μ9
  show Z 0 48 [(6, .int (μ.1 57 0)), (5, .int 0), (4, .int (nB (xHo (μ.1 50 21)))), (3, .int (nB (xTe (μ.1 50 21)))), (2, .int (nB (xEn (μ.1 50 21)))), (0, .ref 50), (1, .int ru)] [.int (nB (xEn (μ.1 57 0)))] (mGP μ (μ.2.1 50 24) (μ.2.1 50 25) (μ.1 50 23))
  have hJ1 : Z 0 76 [(6, .int (μ.1 57 0)), (5, .int 0), (4, .int (nB (xHo (μ.1 50 21)))), (3, .int (nB (xTe (μ.1 50 21)))), (2, .int (nB (xEn (μ.1 50 21)))), (0, .ref 50), (1, .int ru)] [.int (nB ((xEn (μ.1 57 0)) || ((decide ((μ.1 56 0) = 0)) && (xEn ((μ.1 57 0) + 2)))))] (mGP μ (μ.2.1 50 24) (μ.2.1 50 25) (μ.1 50 23)) := by
    generalize he2 : ((xEn (μ.1 57 0)) || ((decide ((μ.1 56 0) = 0)) && (xEn ((μ.1 57 0) + 2)))) = e2
    refine z_rcs hc hH 2 (pc' := 80) (lv' := [(7, .int (nB e2)), (6, .int (μ.1 57 0)), (5, .int 0), (4, .int (nB (xHo (μ.1 50 21)))), (3, .int (nB (xTe (μ.1 50 21)))), (2, .int (nB (xEn (μ.1 50 21)))), (0, .ref 50), (1, .int ru)]) (st' := [.int (μ.1 57 0)]) (μ' := mGP μ (μ.2.1 50 24) (μ.2.1 50 25) (μ.1 50 23)) (by rfl) ?_
    refine zq_call hc (z_cx_ok hH (by rfl)) (fb_X7_isTerminal d' (by omega) (mGP μ (μ.2.1 50 24) (μ.2.1 50 25) (μ.1 50 23)) (μ.1 57 0)) (by decide +kernel) (fun r9 μ9 hq => ?_)
    obtain ⟨hμ9, rfl⟩ := hq
    rw [hμ9]
    clear hμ9 μ9
    show Z 0 83 [(7, .int (nB e2)), (6, .int (μ.1 57 0)), (5, .int 0), (4, .int (nB (xHo (μ.1 50 21)))), (3, .int (nB (xTe (μ.1 50 21)))), (2, .int (nB (xEn (μ.1 50 21)))), (0, .ref 50), (1, .int ru)] [.int (nB (xTe (μ.1 57 0)))] (mGP μ (μ.2.1 50 24) (μ.2.1 50 25) (μ.1 50 23))
    have hJ3 : Z 0 111 [(7, .int (nB e2)), (6, .int (μ.1 57 0)), (5, .int 0), (4, .int (nB (xHo (μ.1 50 21)))), (3, .int (nB (xTe (μ.1 50 21)))), (2, .int (nB (xEn (μ.1 50 21)))), (0, .ref 50), (1, .int ru)] [.int (nB ((xTe (μ.1 57 0)) || ((decide ((μ.1 56 0) = 0)) && (xTe ((μ.1 57 0) + 2)))))] (mGP μ (μ.2.1 50 24) (μ.2.1 50 25) (μ.1 50 23)) := by
      generalize he4 : ((xTe (μ.1 57 0)) || ((decide ((μ.1 56 0) = 0)) && (xTe ((μ.1 57 0) + 2)))) = e4
      refine z_rcs hc hH 2 (pc' := 114) (lv' := [(8, .int (nB e4)), (7, .int (nB e2)), (6, .int (μ.1 57 0)), (5, .int 0), (4, .int (nB (xHo (μ.1 50 21)))), (3, .int (nB (xTe (μ.1 50 21)))), (2, .int (nB (xEn (μ.1 50 21)))), (0, .ref 50), (1, .int ru)]) (st' := [.int (nB (xEn (μ.1 50 21)))]) (μ' := mGP μ (μ.2.1 50 24) (μ.2.1 50 25) (μ.1 50 23)) (by rfl) ?_
      have hJ5 : Z 0 127 [(8, .int (nB e4)), (7, .int (nB e2)), (6, .int (μ.1 57 0)), (5, .int 0), (4, .int (nB (xHo (μ.1 50 21)))), (3, .int (nB (xTe (μ.1 50 21)))), (2, .int (nB (xEn (μ.1 50 21)))), (0, .ref 50), (1, .int ru)] [.int (nB ((xEn (μ.1 50 21)) && e2))] (mGP μ (μ.2.1 50 24) (μ.2.1 50 25) (μ.1 50 23)) := by
        refine z_rcs hc hH 2 (pc' := 129) (lv' := [(2, .int (nB ((xEn (μ.1 50 21)) && e2))), (8, .int (nB e4)), (7, .int (nB e2)), (6, .int (μ.1 57 0)), (5, .int 0), (4, .int (nB (xHo (μ.1 50 21)))), (3, .int (nB (xTe (μ.1 50 21)))), (0, .ref 50), (1, .int ru)]) (st' := [.int (nB (xTe (μ.1 50 21)))]) (μ' := mGP μ (μ.2.1 50 24) (μ.2.1 50 25) (μ.1 50 23)) (by rfl) ?_
        have hJ6 : Z 0 142 [(2, .int (nB ((xEn (μ.1 50 21)) && e2))), (8, .int (nB e4)), (7, .int (nB e2)), (6, .int (μ.1 57 0)), (5, .int 0), (4, .int (nB (xHo (μ.1 50 21)))), (3, .int (nB (xTe (μ.1 50 21)))), (0, .ref 50), (1, .int ru)] [.int (nB ((xTe (μ.1 50 21)) && e4))] (mGP μ (μ.2.1 50 24) (μ.2.1 50 25) (μ.1 50 23)) := by
          refine z_rcs hc hH 2 (pc' := 145) (lv' := [(3, .int (nB ((xTe (μ.1 50 21)) && e4))), (2, .int (nB ((xEn (μ.1 50 21)) && e2))), (8, .int (nB e4)), (7, .int (nB e2)), (6, .int (μ.1 57 0)), (5, .int 0), (4, .int (nB (xHo (μ.1 50 21)))), (0, .ref 50), (1, .int ru)]) (st' := [.int (nB (xHo (μ.1 50 21)))]) (μ' := mGP μ (μ.2.1 50 24) (μ.2.1 50 25) (μ.1 50 23)) (by rfl) ?_
          have hJ7 : Z 0 161 [(3, .int (nB ((xTe (μ.1 50 21)) && e4))), (2, .int (nB ((xEn (μ.1 50 21)) && e2))), (8, .int (nB e4)), (7, .int (nB e2)), (6, .int (μ.1 57 0)), (5, .int 0), (4, .int (nB (xHo (μ.1 50 21)))), (0, .ref 50), (1, .int ru)] [.int (nB ((xHo (μ.1 50 21)) || (xHo (μ.1 57 0))))] (mGP μ (μ.2.1 50 24) (μ.2.1 50 25) (μ.1 50 23)) := by
            refine z_rcs hc hH 9 (pc' := 40) (lv' := [(5, .int 1), (4, .int (nB ((xHo (μ.1 50 21)) || (xHo (μ.1 57 0))))), (3, .int (nB ((xTe (μ.1 50 21)) && e4))), (2, .int (nB ((xEn (μ.1 50 21)) && e2))), (8, .int (nB e4)), (7, .int (nB e2)), (6, .int (μ.1 57 0)), (0, .ref 50), (1, .int ru)]) (st' := [.int 1, .ref 57]) (μ' := mGP μ (μ.2.1 50 24) (μ.2.1 50 25) (μ.1 50 23)) (by rfl) ?_
            refine zq_iald hc hH (by rfl) 4 (by decide +kernel) (show vp_in (nI 1) 4 from vp_in_nI (by decide) (by decide)) ?_
            show Z 0 41 [(5, .int 1), (4, .int (nB ((xHo (μ.1 50 21)) || (xHo (μ.1 57 0))))), (3, .int (nB ((xTe (μ.1 50 21)) && e4))), (2, .int (nB ((xEn (μ.1 50 21)) && e2))), (8, .int (nB e4)), (7, .int (nB e2)), (6, .int (μ.1 57 0)), (0, .ref 50), (1, .int ru)] [.int (μ.1 57 1)] (mGP μ (μ.2.1 50 24) (μ.2.1 50 25) (μ.1 50 23))
            refine z_rcs hc hH 2 (pc' := 45) (lv' := [(6, .int (μ.1 57 1)), (5, .int 1), (4, .int (nB ((xHo (μ.1 50 21)) || (xHo (μ.1 57 0))))), (3, .int (nB ((xTe (μ.1 50 21)) && e4))), (2, .int (nB ((xEn (μ.1 50 21)) && e2))), (8, .int (nB e4)), (7, .int (nB e2)), (0, .ref 50), (1, .int ru)]) (st' := [.int (μ.1 57 1)]) (μ' := mGP μ (μ.2.1 50 24) (μ.2.1 50 25) (μ.1 50 23)) (by rfl) ?_
            refine zq_call hc (z_cx_ok hH (by rfl)) (fb_X7_isEnd d' (by omega) (mGP μ (μ.2.1 50 24) (μ.2.1 50 25) (μ.1 50 23)) (μ.1 57 1)) (by decide +kernel) (fun r9 μ9 hq => ?_)
            obtain ⟨hμ9, rfl⟩ := hq
            rw [hμ9]
            clear hμ9 μ9
            show Z 0 48 [(6, .int (μ.1 57 1)), (5, .int 1), (4, .int (nB ((xHo (μ.1 50 21)) || (xHo (μ.1 57 0))))), (3, .int (nB ((xTe (μ.1 50 21)) && e4))), (2, .int (nB ((xEn (μ.1 50 21)) && e2))), (8, .int (nB e4)), (7, .int (nB e2)), (0, .ref 50), (1, .int ru)] [.int (nB (xEn (μ.1 57 1)))] (mGP μ (μ.2.1 50 24) (μ.2.1 50 25) (μ.1 50 23))
            have hJ8 : Z 0 76 [(6, .int (μ.1 57 1)), (5, .int 1), (4, .int (nB ((xHo (μ.1 50 21)) || (xHo (μ.1 57 0))))), (3, .int (nB ((xTe (μ.1 50 21)) && e4))), (2, .int (nB ((xEn (μ.1 50 21)) && e2))), (8, .int (nB e4)), (7, .int (nB e2)), (0, .ref 50), (1, .int ru)] [.int (nB ((xEn (μ.1 57 1)) || ((decide ((μ.1 56 1) = 0)) && (xEn ((μ.1 57 1) + 2)))))] (mGP μ (μ.2.1 50 24) (μ.2.1 50 25) (μ.1 50 23)) := by
              generalize he9 : ((xEn (μ.1 57 1)) || ((decide ((μ.1 56 1) = 0)) && (xEn ((μ.1 57 1) + 2)))) = e9
              refine z_rcs hc hH 2 (pc' := 80) (lv' := [(7, .int (nB e9)), (6, .int (μ.1 57 1)), (5, .int 1), (4, .int (nB ((xHo (μ.1 50 21)) || (xHo (μ.1 57 0))))), (3, .int (nB ((xTe (μ.1 50 21)) && e4))), (2, .int (nB ((xEn (μ.1 50 21)) && e2))), (8, .int (nB e4)), (0, .ref 50), (1, .int ru)]) (st' := [.int (μ.1 57 1)]) (μ' := mGP μ (μ.2.1 50 24) (μ.2.1 50 25) (μ.1 50 23)) (by rfl) ?_
              refine zq_call hc (z_cx_ok hH (by rfl)) (fb_X7_isTerminal d' (by omega) (mGP μ (μ.2.1 50 24) (μ.2.1 50 25) (μ.1 50 23)) (μ.1 57 1)) (by decide +kernel) (fun r9 μ9 hq => ?_)
              obtain ⟨hμ9, rfl⟩ := hq
              rw [hμ9]
              clear hμ9 μ9
              show Z 0 83 [(7, .int (nB e9)), (6, .int (μ.1 57 1)), (5, .int 1), (4, .int (nB ((xHo (μ.1 50 21)) || (xHo (μ.1 57 0))))), (3, .int (nB ((xTe (μ.1 50 21)) && e4))), (2, .int (nB ((xEn (μ.1 50 21)) && e2))), (8, .int (nB e4)), (0, .ref 50), (1, .int ru)] [.int (nB (xTe (μ.1 57 1)))] (mGP μ (μ.2.1 50 24) (μ.2.1 50 25) (μ.1 50 23))
              have hJ10 : Z 0 111 [(7, .int (nB e9)), (6, .int (μ.1 57 1)), (5, .int 1), (4, .int (nB ((xHo (μ.1 50 21)) || (xHo (μ.1 57 0))))), (3, .int (nB ((xTe (μ.1 50 21)) && e4))), (2, .int (nB ((xEn (μ.1 50 21)) && e2))), (8, .int (nB e4)), (0, .ref 50), (1, .int ru)] [.int (nB ((xTe (μ.1 57 1)) || ((decide ((μ.1 56 1) = 0)) && (xTe ((μ.1 57 1) + 2)))))] (mGP μ (μ.2.1 50 24) (μ.2.1 50 25) (μ.1 50 23)) := by
                generalize he11 : ((xTe (μ.1 57 1)) || ((decide ((μ.1 56 1) = 0)) && (xTe ((μ.1 57 1) + 2)))) = e11
                refine z_rcs hc hH 2 (pc' := 114) (lv' := [(8, .int (nB e11)), (7, .int (nB e9)), (6, .int (μ.1 57 1)), (5, .int 1), (4, .int (nB ((xHo (μ.1 50 21)) || (xHo (μ.1 57 0))))), (3, .int (nB ((xTe (μ.1 50 21)) && e4))), (2, .int (nB ((xEn (μ.1 50 21)) && e2))), (0, .ref 50), (1, .int ru)]) (st' := [.int (nB ((xEn (μ.1 50 21)) && e2))]) (μ' := mGP μ (μ.2.1 50 24) (μ.2.1 50 25) (μ.1 50 23)) (by rfl) ?_
                have hJ12 : Z 0 127 [(8, .int (nB e11)), (7, .int (nB e9)), (6, .int (μ.1 57 1)), (5, .int 1), (4, .int (nB ((xHo (μ.1 50 21)) || (xHo (μ.1 57 0))))), (3, .int (nB ((xTe (μ.1 50 21)) && e4))), (2, .int (nB ((xEn (μ.1 50 21)) && e2))), (0, .ref 50), (1, .int ru)] [.int (nB (((xEn (μ.1 50 21)) && e2) && e9))] (mGP μ (μ.2.1 50 24) (μ.2.1 50 25) (μ.1 50 23)) := by
                  refine z_rcs hc hH 2 (pc' := 129) (lv' := [(2, .int (nB (((xEn (μ.1 50 21)) && e2) && e9))), (8, .int (nB e11)), (7, .int (nB e9)), (6, .int (μ.1 57 1)), (5, .int 1), (4, .int (nB ((xHo (μ.1 50 21)) || (xHo (μ.1 57 0))))), (3, .int (nB ((xTe (μ.1 50 21)) && e4))), (0, .ref 50), (1, .int ru)]) (st' := [.int (nB ((xTe (μ.1 50 21)) && e4))]) (μ' := mGP μ (μ.2.1 50 24) (μ.2.1 50 25) (μ.1 50 23)) (by rfl) ?_
                  have hJ13 : Z 0 142 [(2, .int (nB (((xEn (μ.1 50 21)) && e2) && e9))), (8, .int (nB e11)), (7, .int (nB e9)), (6, .int (μ.1 57 1)), (5, .int 1), (4, .int (nB ((xHo (μ.1 50 21)) || (xHo (μ.1 57 0))))), (3, .int (nB ((xTe (μ.1 50 21)) && e4))), (0, .ref 50), (1, .int ru)] [.int (nB (((xTe (μ.1 50 21)) && e4) && e11))] (mGP μ (μ.2.1 50 24) (μ.2.1 50 25) (μ.1 50 23)) := by
                    refine z_rcs hc hH 2 (pc' := 145) (lv' := [(3, .int (nB (((xTe (μ.1 50 21)) && e4) && e11))), (2, .int (nB (((xEn (μ.1 50 21)) && e2) && e9))), (8, .int (nB e11)), (7, .int (nB e9)), (6, .int (μ.1 57 1)), (5, .int 1), (4, .int (nB ((xHo (μ.1 50 21)) || (xHo (μ.1 57 0))))), (0, .ref 50), (1, .int ru)]) (st' := [.int (nB ((xHo (μ.1 50 21)) || (xHo (μ.1 57 0))))]) (μ' := mGP μ (μ.2.1 50 24) (μ.2.1 50 25) (μ.1 50 23)) (by rfl) ?_
                    have hJ14 : Z 0 161 [(3, .int (nB (((xTe (μ.1 50 21)) && e4) && e11))), (2, .int (nB (((xEn (μ.1 50 21)) && e2) && e9))), (8, .int (nB e11)), (7, .int (nB e9)), (6, .int (μ.1 57 1)), (5, .int 1), (4, .int (nB ((xHo (μ.1 50 21)) || (xHo (μ.1 57 0))))), (0, .ref 50), (1, .int ru)] [.int (nB (((xHo (μ.1 50 21)) || (xHo (μ.1 57 0))) || (xHo (μ.1 57 1))))] (mGP μ (μ.2.1 50 24) (μ.2.1 50 25) (μ.1 50 23)) := by
                      refine z_rcs hc hH 9 (pc' := 40) (lv' := [(5, .int 2), (4, .int (nB (((xHo (μ.1 50 21)) || (xHo (μ.1 57 0))) || (xHo (μ.1 57 1))))), (3, .int (nB (((xTe (μ.1 50 21)) && e4) && e11))), (2, .int (nB (((xEn (μ.1 50 21)) && e2) && e9))), (8, .int (nB e11)), (7, .int (nB e9)), (6, .int (μ.1 57 1)), (0, .ref 50), (1, .int ru)]) (st' := [.int 2, .ref 57]) (μ' := mGP μ (μ.2.1 50 24) (μ.2.1 50 25) (μ.1 50 23)) (by rfl) ?_
                      refine zq_iald hc hH (by rfl) 4 (by decide +kernel) (show vp_in (nI 2) 4 from vp_in_nI (by decide) (by decide)) ?_
                      show Z 0 41 [(5, .int 2), (4, .int (nB (((xHo (μ.1 50 21)) || (xHo (μ.1 57 0))) || (xHo (μ.1 57 1))))), (3, .int (nB (((xTe (μ.1 50 21)) && e4) && e11))), (2, .int (nB (((xEn (μ.1 50 21)) && e2) && e9))), (8, .int (nB e11)), (7, .int (nB e9)), (6, .int (μ.1 57 1)), (0, .ref 50), (1, .int ru)] [.int (μ.1 57 2)] (mGP μ (μ.2.1 50 24) (μ.2.1 50 25) (μ.1 50 23))
                      refine z_rcs hc hH 2 (pc' := 45) (lv' := [(6, .int (μ.1 57 2)), (5, .int 2), (4, .int (nB (((xHo (μ.1 50 21)) || (xHo (μ.1 57 0))) || (xHo (μ.1 57 1))))), (3, .int (nB (((xTe (μ.1 50 21)) && e4) && e11))), (2, .int (nB (((xEn (μ.1 50 21)) && e2) && e9))), (8, .int (nB e11)), (7, .int (nB e9)), (0, .ref 50), (1, .int ru)]) (st' := [.int (μ.1 57 2)]) (μ' := mGP μ (μ.2.1 50 24) (μ.2.1 50 25) (μ.1 50 23)) (by rfl) ?_
                      refine zq_call hc (z_cx_ok hH (by rfl)) (fb_X7_isEnd d' (by omega) (mGP μ (μ.2.1 50 24) (μ.2.1 50 25) (μ.1 50 23)) (μ.1 57 2)) (by decide +kernel) (fun r9 μ9 hq => ?_)
                      obtain ⟨hμ9, rfl⟩ := hq
                      rw [hμ9]
                      clear hμ9 μ9
                      show Z 0 48 [(6, .int (μ.1 57 2)), (5, .int 2), (4, .int (nB (((xHo (μ.1 50 21)) || (xHo (μ.1 57 0))) || (xHo (μ.1 57 1))))), (3, .int (nB (((xTe (μ.1 50 21)) && e4) && e11))), (2, .int (nB (((xEn (μ.1 50 21)) && e2) && e9))), (8, .int (nB e11)), (7, .int (nB e9)), (0, .ref 50), (1, .int ru)] [.int (nB (xEn (μ.1 57 2)))] (mGP μ (μ.2.1 50 24) (μ.2.1 50 25) (μ.1 50 23))
                      have hJ15 : Z 0 76 [(6, .int (μ.1 57 2)), (5, .int 2), (4, .int (nB (((xHo (μ.1 50 21)) || (xHo (μ.1 57 0))) || (xHo (μ.1 57 1))))), (3, .int (nB (((xTe (μ.1 50 21)) && e4) && e11))), (2, .int (nB (((xEn (μ.1 50 21)) && e2) && e9))), (8, .int (nB e11)), (7, .int (nB e9)), (0, .ref 50), (1, .int ru)] [.int (nB ((xEn (μ.1 57 2)) || ((decide ((μ.1 56 2) = 0)) && (xEn ((μ.1 57 2) + 2)))))] (mGP μ (μ.2.1 50 24) (μ.2.1 50 25) (μ.1 50 23)) := by
                        generalize he16 : ((xEn (μ.1 57 2)) || ((decide ((μ.1 56 2) = 0)) && (xEn ((μ.1 57 2) + 2)))) = e16
                        refine z_rcs hc hH 2 (pc' := 80) (lv' := [(7, .int (nB e16)), (6, .int (μ.1 57 2)), (5, .int 2), (4, .int (nB (((xHo (μ.1 50 21)) || (xHo (μ.1 57 0))) || (xHo (μ.1 57 1))))), (3, .int (nB (((xTe (μ.1 50 21)) && e4) && e11))), (2, .int (nB (((xEn (μ.1 50 21)) && e2) && e9))), (8, .int (nB e11)), (0, .ref 50), (1, .int ru)]) (st' := [.int (μ.1 57 2)]) (μ' := mGP μ (μ.2.1 50 24) (μ.2.1 50 25) (μ.1 50 23)) (by rfl) ?_
                        refine zq_call hc (z_cx_ok hH (by rfl)) (fb_X7_isTerminal d' (by omega) (mGP μ (μ.2.1 50 24) (μ.2.1 50 25) (μ.1 50 23)) (μ.1 57 2)) (by decide +kernel) (fun r9 μ9 hq => ?_)
                        obtain ⟨hμ9, rfl⟩ := hq
                        rw [hμ9]
                        clear hμ9 μ9
                        show Z 0 83 [(7, .int (nB e16)), (6, .int (μ.1 57 2)), (5, .int 2), (4, .int (nB (((xHo (μ.1 50 21)) || (xHo (μ.1 57 0))) || (xHo (μ.1 57 1))))), (3, .int (nB (((xTe (μ.1 50 21)) && e4) && e11))), (2, .int (nB (((xEn (μ.1 50 21)) && e2) && e9))), (8, .int (nB e11)), (0, .ref 50), (1, .int ru)] [.int (nB (xTe (μ.1 57 2)))] (mGP μ (μ.2.1 50 24) (μ.2.1 50 25) (μ.1 50 23))
                        have hJ17 : Z 0 111 [(7, .int (nB e16)), (6, .int (μ.1 57 2)), (5, .int 2), (4, .int (nB (((xHo (μ.1 50 21)) || (xHo (μ.1 57 0))) || (xHo (μ.1 57 1))))), (3, .int (nB (((xTe (μ.1 50 21)) && e4) && e11))), (2, .int (nB (((xEn (μ.1 50 21)) && e2) && e9))), (8, .int (nB e11)), (0, .ref 50), (1, .int ru)] [.int (nB ((xTe (μ.1 57 2)) || ((decide ((μ.1 56 2) = 0)) && (xTe ((μ.1 57 2) + 2)))))] (mGP μ (μ.2.1 50 24) (μ.2.1 50 25) (μ.1 50 23)) := by
                          generalize he18 : ((xTe (μ.1 57 2)) || ((decide ((μ.1 56 2) = 0)) && (xTe ((μ.1 57 2) + 2)))) = e18
                          refine z_rcs hc hH 2 (pc' := 114) (lv' := [(8, .int (nB e18)), (7, .int (nB e16)), (6, .int (μ.1 57 2)), (5, .int 2), (4, .int (nB (((xHo (μ.1 50 21)) || (xHo (μ.1 57 0))) || (xHo (μ.1 57 1))))), (3, .int (nB (((xTe (μ.1 50 21)) && e4) && e11))), (2, .int (nB (((xEn (μ.1 50 21)) && e2) && e9))), (0, .ref 50), (1, .int ru)]) (st' := [.int (nB (((xEn (μ.1 50 21)) && e2) && e9))]) (μ' := mGP μ (μ.2.1 50 24) (μ.2.1 50 25) (μ.1 50 23)) (by rfl) ?_
                          have hJ19 : Z 0 127 [(8, .int (nB e18)), (7, .int (nB e16)), (6, .int (μ.1 57 2)), (5, .int 2), (4, .int (nB (((xHo (μ.1 50 21)) || (xHo (μ.1 57 0))) || (xHo (μ.1 57 1))))), (3, .int (nB (((xTe (μ.1 50 21)) && e4) && e11))), (2, .int (nB (((xEn (μ.1 50 21)) && e2) && e9))), (0, .ref 50), (1, .int ru)] [.int (nB ((((xEn (μ.1 50 21)) && e2) && e9) && e16))] (mGP μ (μ.2.1 50 24) (μ.2.1 50 25) (μ.1 50 23)) := by
                            refine z_rcs hc hH 2 (pc' := 129) (lv' := [(2, .int (nB ((((xEn (μ.1 50 21)) && e2) && e9) && e16))), (8, .int (nB e18)), (7, .int (nB e16)), (6, .int (μ.1 57 2)), (5, .int 2), (4, .int (nB (((xHo (μ.1 50 21)) || (xHo (μ.1 57 0))) || (xHo (μ.1 57 1))))), (3, .int (nB (((xTe (μ.1 50 21)) && e4) && e11))), (0, .ref 50), (1, .int ru)]) (st' := [.int (nB (((xTe (μ.1 50 21)) && e4) && e11))]) (μ' := mGP μ (μ.2.1 50 24) (μ.2.1 50 25) (μ.1 50 23)) (by rfl) ?_
                            have hJ20 : Z 0 142 [(2, .int (nB ((((xEn (μ.1 50 21)) && e2) && e9) && e16))), (8, .int (nB e18)), (7, .int (nB e16)), (6, .int (μ.1 57 2)), (5, .int 2), (4, .int (nB (((xHo (μ.1 50 21)) || (xHo (μ.1 57 0))) || (xHo (μ.1 57 1))))), (3, .int (nB (((xTe (μ.1 50 21)) && e4) && e11))), (0, .ref 50), (1, .int ru)] [.int (nB ((((xTe (μ.1 50 21)) && e4) && e11) && e18))] (mGP μ (μ.2.1 50 24) (μ.2.1 50 25) (μ.1 50 23)) := by
                              refine z_rcs hc hH 2 (pc' := 145) (lv' := [(3, .int (nB ((((xTe (μ.1 50 21)) && e4) && e11) && e18))), (2, .int (nB ((((xEn (μ.1 50 21)) && e2) && e9) && e16))), (8, .int (nB e18)), (7, .int (nB e16)), (6, .int (μ.1 57 2)), (5, .int 2), (4, .int (nB (((xHo (μ.1 50 21)) || (xHo (μ.1 57 0))) || (xHo (μ.1 57 1))))), (0, .ref 50), (1, .int ru)]) (st' := [.int (nB (((xHo (μ.1 50 21)) || (xHo (μ.1 57 0))) || (xHo (μ.1 57 1))))]) (μ' := mGP μ (μ.2.1 50 24) (μ.2.1 50 25) (μ.1 50 23)) (by rfl) ?_
                              have hJ21 : Z 0 161 [(3, .int (nB ((((xTe (μ.1 50 21)) && e4) && e11) && e18))), (2, .int (nB ((((xEn (μ.1 50 21)) && e2) && e9) && e16))), (8, .int (nB e18)), (7, .int (nB e16)), (6, .int (μ.1 57 2)), (5, .int 2), (4, .int (nB (((xHo (μ.1 50 21)) || (xHo (μ.1 57 0))) || (xHo (μ.1 57 1))))), (0, .ref 50), (1, .int ru)] [.int (nB ((((xHo (μ.1 50 21)) || (xHo (μ.1 57 0))) || (xHo (μ.1 57 1))) || (xHo (μ.1 57 2))))] (mGP μ (μ.2.1 50 24) (μ.2.1 50 25) (μ.1 50 23)) := by
                                generalize he22 : ((((xHo (μ.1 50 21)) || (xHo (μ.1 57 0))) || (xHo (μ.1 57 1))) || (xHo (μ.1 57 2))) = e22
                                refine z_rcs hc hH 9 (pc' := 40) (lv' := [(5, .int 3), (4, .int (nB e22)), (3, .int (nB ((((xTe (μ.1 50 21)) && e4) && e11) && e18))), (2, .int (nB ((((xEn (μ.1 50 21)) && e2) && e9) && e16))), (8, .int (nB e18)), (7, .int (nB e16)), (6, .int (μ.1 57 2)), (0, .ref 50), (1, .int ru)]) (st' := [.int 3, .ref 57]) (μ' := mGP μ (μ.2.1 50 24) (μ.2.1 50 25) (μ.1 50 23)) (by rfl) ?_
                                refine zq_iald hc hH (by rfl) 4 (by decide +kernel) (show vp_in (nI 3) 4 from vp_in_nI (by decide) (by decide)) ?_
                                show Z 0 41 [(5, .int 3), (4, .int (nB e22)), (3, .int (nB ((((xTe (μ.1 50 21)) && e4) && e11) && e18))), (2, .int (nB ((((xEn (μ.1 50 21)) && e2) && e9) && e16))), (8, .int (nB e18)), (7, .int (nB e16)), (6, .int (μ.1 57 2)), (0, .ref 50), (1, .int ru)] [.int (μ.1 57 3)] (mGP μ (μ.2.1 50 24) (μ.2.1 50 25) (μ.1 50 23))
                                refine z_rcs hc hH 2 (pc' := 45) (lv' := [(6, .int (μ.1 57 3)), (5, .int 3), (4, .int (nB e22)), (3, .int (nB ((((xTe (μ.1 50 21)) && e4) && e11) && e18))), (2, .int (nB ((((xEn (μ.1 50 21)) && e2) && e9) && e16))), (8, .int (nB e18)), (7, .int (nB e16)), (0, .ref 50), (1, .int ru)]) (st' := [.int (μ.1 57 3)]) (μ' := mGP μ (μ.2.1 50 24) (μ.2.1 50 25) (μ.1 50 23)) (by rfl) ?_
                                refine zq_call hc (z_cx_ok hH (by rfl)) (fb_X7_isEnd d' (by omega) (mGP μ (μ.2.1 50 24) (μ.2.1 50 25) (μ.1 50 23)) (μ.1 57 3)) (by decide +kernel) (fun r9 μ9 hq => ?_)
                                obtain ⟨hμ9, rfl⟩ := hq
                                rw [hμ9]
                                clear hμ9 μ9
                                show Z 0 48 [(6, .int (μ.1 57 3)), (5, .int 3), (4, .int (nB e22)), (3, .int (nB ((((xTe (μ.1 50 21)) && e4) && e11) && e18))), (2, .int (nB ((((xEn (μ.1 50 21)) && e2) && e9) && e16))), (8, .int (nB e18)), (7, .int (nB e16)), (0, .ref 50), (1, .int ru)] [.int (nB (xEn (μ.1 57 3)))] (mGP μ (μ.2.1 50 24) (μ.2.1 50 25) (μ.1 50 23))
                                have hJ23 : Z 0 76 [(6, .int (μ.1 57 3)), (5, .int 3), (4, .int (nB e22)), (3, .int (nB ((((xTe (μ.1 50 21)) && e4) && e11) && e18))), (2, .int (nB ((((xEn (μ.1 50 21)) && e2) && e9) && e16))), (8, .int (nB e18)), (7, .int (nB e16)), (0, .ref 50), (1, .int ru)] [.int (nB ((xEn (μ.1 57 3)) || ((decide ((μ.1 56 3) = 0)) && (xEn ((μ.1 57 3) + 2)))))] (mGP μ (μ.2.1 50 24) (μ.2.1 50 25) (μ.1 50 23)) := by
                                  generalize he24 : ((xEn (μ.1 57 3)) || ((decide ((μ.1 56 3) = 0)) && (xEn ((μ.1 57 3) + 2)))) = e24
                                  refine z_rcs hc hH 2 (pc' := 80) (lv' := [(7, .int (nB e24)), (6, .int (μ.1 57 3)), (5, .int 3), (4, .int (nB e22)), (3, .int (nB ((((xTe (μ.1 50 21)) && e4) && e11) && e18))), (2, .int (nB ((((xEn (μ.1 50 21)) && e2) && e9) && e16))), (8, .int (nB e18)), (0, .ref 50), (1, .int ru)]) (st' := [.int (μ.1 57 3)]) (μ' := mGP μ (μ.2.1 50 24) (μ.2.1 50 25) (μ.1 50 23)) (by rfl) ?_
                                  refine zq_call hc (z_cx_ok hH (by rfl)) (fb_X7_isTerminal d' (by omega) (mGP μ (μ.2.1 50 24) (μ.2.1 50 25) (μ.1 50 23)) (μ.1 57 3)) (by decide +kernel) (fun r9 μ9 hq => ?_)
                                  obtain ⟨hμ9, rfl⟩ := hq
                                  rw [hμ9]
                                  clear hμ9 μ9
                                  show Z 0 83 [(7, .int (nB e24)), (6, .int (μ.1 57 3)), (5, .int 3), (4, .int (nB e22)), (3, .int (nB ((((xTe (μ.1 50 21)) && e4) && e11) && e18))), (2, .int (nB ((((xEn (μ.1 50 21)) && e2) && e9) && e16))), (8, .int (nB e18)), (0, .ref 50), (1, .int ru)] [.int (nB (xTe (μ.1 57 3)))] (mGP μ (μ.2.1 50 24) (μ.2.1 50 25) (μ.1 50 23))
                                  have hJ25 : Z 0 111 [(7, .int (nB e24)), (6, .int (μ.1 57 3)), (5, .int 3), (4, .int (nB e22)), (3, .int (nB ((((xTe (μ.1 50 21)) && e4) && e11) && e18))), (2, .int (nB ((((xEn (μ.1 50 21)) && e2) && e9) && e16))), (8, .int (nB e18)), (0, .ref 50), (1, .int ru)] [.int (nB ((xTe (μ.1 57 3)) || ((decide ((μ.1 56 3) = 0)) && (xTe ((μ.1 57 3) + 2)))))] (mGP μ (μ.2.1 50 24) (μ.2.1 50 25) (μ.1 50 23)) := by
                                    generalize he26 : ((xTe (μ.1 57 3)) || ((decide ((μ.1 56 3) = 0)) && (xTe ((μ.1 57 3) + 2)))) = e26
                                    refine z_rcs hc hH 2 (pc' := 114) (lv' := [(8, .int (nB e26)), (7, .int (nB e24)), (6, .int (μ.1 57 3)), (5, .int 3), (4, .int (nB e22)), (3, .int (nB ((((xTe (μ.1 50 21)) && e4) && e11) && e18))), (2, .int (nB ((((xEn (μ.1 50 21)) && e2) && e9) && e16))), (0, .ref 50), (1, .int ru)]) (st' := [.int (nB ((((xEn (μ.1 50 21)) && e2) && e9) && e16))]) (μ' := mGP μ (μ.2.1 50 24) (μ.2.1 50 25) (μ.1 50 23)) (by rfl) ?_
                                    have hJ27 : Z 0 127 [(8, .int (nB e26)), (7, .int (nB e24)), (6, .int (μ.1 57 3)), (5, .int 3), (4, .int (nB e22)), (3, .int (nB ((((xTe (μ.1 50 21)) && e4) && e11) && e18))), (2, .int (nB ((((xEn (μ.1 50 21)) && e2) && e9) && e16))), (0, .ref 50), (1, .int ru)] [.int (nB (((((xEn (μ.1 50 21)) && e2) && e9) && e16) && e24))] (mGP μ (μ.2.1 50 24) (μ.2.1 50 25) (μ.1 50 23)) := by
                                      refine z_rcs hc hH 2 (pc' := 129) (lv' := [(2, .int (nB (((((xEn (μ.1 50 21)) && e2) && e9) && e16) && e24))), (8, .int (nB e26)), (7, .int (nB e24)), (6, .int (μ.1 57 3)), (5, .int 3), (4, .int (nB e22)), (3, .int (nB ((((xTe (μ.1 50 21)) && e4) && e11) && e18))), (0, .ref 50), (1, .int ru)]) (st' := [.int (nB ((((xTe (μ.1 50 21)) && e4) && e11) && e18))]) (μ' := mGP μ (μ.2.1 50 24) (μ.2.1 50 25) (μ.1 50 23)) (by rfl) ?_
                                      have hJ28 : Z 0 142 [(2, .int (nB (((((xEn (μ.1 50 21)) && e2) && e9) && e16) && e24))), (8, .int (nB e26)), (7, .int (nB e24)), (6, .int (μ.1 57 3)), (5, .int 3), (4, .int (nB e22)), (3, .int (nB ((((xTe (μ.1 50 21)) && e4) && e11) && e18))), (0, .ref 50), (1, .int ru)] [.int (nB (((((xTe (μ.1 50 21)) && e4) && e11) && e18) && e26))] (mGP μ (μ.2.1 50 24) (μ.2.1 50 25) (μ.1 50 23)) := by
                                        refine z_rcs hc hH 2 (pc' := 145) (lv' := [(3, .int (nB (((((xTe (μ.1 50 21)) && e4) && e11) && e18) && e26))), (2, .int (nB (((((xEn (μ.1 50 21)) && e2) && e9) && e16) && e24))), (8, .int (nB e26)), (7, .int (nB e24)), (6, .int (μ.1 57 3)), (5, .int 3), (4, .int (nB e22)), (0, .ref 50), (1, .int ru)]) (st' := [.int (nB e22)]) (μ' := mGP μ (μ.2.1 50 24) (μ.2.1 50 25) (μ.1 50 23)) (by rfl) ?_
                                        have hJ29 : Z 0 161 [(3, .int (nB (((((xTe (μ.1 50 21)) && e4) && e11) && e18) && e26))), (2, .int (nB (((((xEn (μ.1 50 21)) && e2) && e9) && e16) && e24))), (8, .int (nB e26)), (7, .int (nB e24)), (6, .int (μ.1 57 3)), (5, .int 3), (4, .int (nB e22)), (0, .ref 50), (1, .int ru)] [.int (nB (e22 || (xHo (μ.1 57 3))))] (mGP μ (μ.2.1 50 24) (μ.2.1 50 25) (μ.1 50 23)) := by
                                          refine z_rcs hc hH 7 (pc' := 170) (lv' := [(5, .int 4), (4, .int (nB (e22 || (xHo (μ.1 57 3))))), (3, .int (nB (((((xTe (μ.1 50 21)) && e4) && e11) && e18) && e26))), (2, .int (nB (((((xEn (μ.1 50 21)) && e2) && e9) && e16) && e24))), (8, .int (nB e26)), (7, .int (nB e24)), (6, .int (μ.1 57 3)), (0, .ref 50), (1, .int ru)]) (st' := [.int (nB (((((xEn (μ.1 50 21)) && e2) && e9) && e16) && e24))]) (μ' := mGP μ (μ.2.1 50 24) (μ.2.1 50 25) (μ.1 50 23)) (by rfl) ?_
                                          have hJ30 : Z 0 196 [(5, .int 4), (4, .int (nB (e22 || (xHo (μ.1 57 3))))), (3, .int (nB (((((xTe (μ.1 50 21)) && e4) && e11) && e18) && e26))), (2, .int (nB (((((xEn (μ.1 50 21)) && e2) && e9) && e16) && e24))), (8, .int (nB e26)), (7, .int (nB e24)), (6, .int (μ.1 57 3)), (0, .ref 50), (1, .int ru)] [] (mGP μ (μ.2.1 50 24) ((μ.2.1 50 25) ||| (lb ((((((xEn (μ.1 50 21)) && e2) && e9) && e16) && e24) && (!(decide (ru ≤ 0)) && (e22 || (xHo (μ.1 57 3))))) 23)) (μ.1 50 23)) := by
                                            generalize hy31 : ((μ.2.1 50 25) ||| (lb ((((((xEn (μ.1 50 21)) && e2) && e9) && e16) && e24) && (!(decide (ru ≤ 0)) && (e22 || (xHo (μ.1 57 3))))) 23) : Int64) = y31
                                            refine z_rcs hc hH 1 (pc' := 197) (lv' := [(5, .int 4), (4, .int (nB (e22 || (xHo (μ.1 57 3))))), (3, .int (nB (((((xTe (μ.1 50 21)) && e4) && e11) && e18) && e26))), (2, .int (nB (((((xEn (μ.1 50 21)) && e2) && e9) && e16) && e24))), (8, .int (nB e26)), (7, .int (nB e24)), (6, .int (μ.1 57 3)), (0, .ref 50), (1, .int ru)]) (st' := [.int (nB (((((xTe (μ.1 50 21)) && e4) && e11) && e18) && e26))]) (μ' := mGP μ (μ.2.1 50 24) y31 (μ.1 50 23)) (by rfl) ?_
                                            generalize he32 : (((((xTe (μ.1 50 21)) && e4) && e11) && e18) && e26) = e32
                                            refine zq_if hc hH (by rfl) (tg := 218) (by rfl) (fun h33 => ?_) (fun h33 => ?_)
                                            · have h33 : (e32) = false := nB_z.mp (cm_eq9.mp h33)
                                              exact hr 0 218 _ _ _ none (by decide +kernel) (by rfl) (⟨rfl, (by unfold xE1 xE2; try rw [he2]; try rw [he4]; try rw [he9]; try rw [he11]; try rw [he16]; try rw [he18]; try rw [he22]; try rw [he24]; try rw [he26]; try rw [hy31]; try rw [he32]; simp only [h33, lb_f, Int64.or_zero, nB_t, nB_f, Bool.not_true, Bool.not_false, Bool.and_true, Bool.true_and, Bool.false_and, Bool.and_false, Bool.or_true, Bool.true_or, Bool.false_or, Bool.or_false, cond_true, cond_false])⟩)
                                            · have h33 : (e32) = true := nB_n.mp (cn_eq.mp h33)
                                              refine z_rcs hc hH 1 (pc' := 201) (lv' := [(5, .int 4), (4, .int (nB (e22 || (xHo (μ.1 57 3))))), (3, .int (nB e32)), (2, .int (nB (((((xEn (μ.1 50 21)) && e2) && e9) && e16) && e24))), (8, .int (nB e26)), (7, .int (nB e24)), (6, .int (μ.1 57 3)), (0, .ref 50), (1, .int ru)]) (st' := [.int ru]) (μ' := mGP μ (μ.2.1 50 24) y31 (μ.1 50 23)) (by rfl) ?_
                                              refine zq_if hc hH (by rfl) (tg := 218) (by rfl) (fun h34 => ?_) (fun h34 => ?_)
                                              · have h34 : (decide (ru ≤ 0)) = true := decide_eq_true (cm_le.mp h34)
                                                exact hr 0 218 _ _ _ none (by decide +kernel) (by rfl) (⟨rfl, (by unfold xE1 xE2; try rw [he2]; try rw [he4]; try rw [he9]; try rw [he11]; try rw [he16]; try rw [he18]; try rw [he22]; try rw [he24]; try rw [he26]; try rw [hy31]; try rw [he32]; simp only [h33, h34, lb_f, Int64.or_zero, nB_t, nB_f, Bool.not_true, Bool.not_false, Bool.and_true, Bool.true_and, Bool.false_and, Bool.and_false, Bool.or_true, Bool.true_or, Bool.false_or, Bool.or_false, cond_true, cond_false])⟩)
                                              · have h34 : (decide (ru ≤ 0)) = false := decide_eq_false (cn_le.mp h34)
                                                refine z_rcs hc hH 4 (pc' := 211) (lv' := [(5, .int 4), (4, .int (nB (e22 || (xHo (μ.1 57 3))))), (3, .int (nB e32)), (2, .int (nB (((((xEn (μ.1 50 21)) && e2) && e9) && e16) && e24))), (8, .int (nB e26)), (7, .int (nB e24)), (6, .int (μ.1 57 3)), (0, .ref 50), (1, .int ru)]) (st' := [.int 27, .long y31, .ref 50]) (μ' := mGP μ (μ.2.1 50 24) y31 (μ.1 50 23)) (by rfl) ?_
                                                refine zq_call hc (z_cx_ok hH (by rfl)) (fb_X7_bit d' (by omega) (mGP μ (μ.2.1 50 24) y31 (μ.1 50 23)) 27) (by decide +kernel) (fun r9 μ9 hq => ?_)
                                                obtain ⟨hμ9, rfl⟩ := hq
                                                rw [hμ9]
                                                clear hμ9 μ9
                                                show Z 0 214 [(5, .int 4), (4, .int (nB (e22 || (xHo (μ.1 57 3))))), (3, .int (nB e32)), (2, .int (nB (((((xEn (μ.1 50 21)) && e2) && e9) && e16) && e24))), (8, .int (nB e26)), (7, .int (nB e24)), (6, .int (μ.1 57 3)), (0, .ref 50), (1, .int ru)] [.long (lb true 27), .long y31, .ref 50] (mGP μ (μ.2.1 50 24) y31 (μ.1 50 23))
                                                refine z_rcs hc hH 2 (pc' := 218) (lv' := [(5, .int 4), (4, .int (nB (e22 || (xHo (μ.1 57 3))))), (3, .int (nB e32)), (2, .int (nB (((((xEn (μ.1 50 21)) && e2) && e9) && e16) && e24))), (8, .int (nB e26)), (7, .int (nB e24)), (6, .int (μ.1 57 3)), (0, .ref 50), (1, .int ru)]) (st' := []) (μ' := z_uj (mGP μ (μ.2.1 50 24) y31 (μ.1 50 23)) 50 25 (y31 ||| (lb true 27))) (by rfl) ?_
                                                rw [mGP_p]
                                                exact hr 0 218 _ _ _ none (by decide +kernel) (by rfl) (⟨rfl, (by unfold xE1 xE2; try rw [he2]; try rw [he4]; try rw [he9]; try rw [he11]; try rw [he16]; try rw [he18]; try rw [he22]; try rw [he24]; try rw [he26]; try rw [hy31]; try rw [he32]; simp only [h33, h34, lb_f, Int64.or_zero, nB_t, nB_f, Bool.not_true, Bool.not_false, Bool.and_true, Bool.true_and, Bool.false_and, Bool.and_false, Bool.or_true, Bool.true_or, Bool.false_or, Bool.or_false, cond_true, cond_false])⟩)
                                          refine zq_if hc hH (by rfl) (tg := 196) (by rfl) (fun h35 => ?_) (fun h35 => ?_)
                                          · have h35 : (((((xEn (μ.1 50 21)) && e2) && e9) && e16) && e24) = false := nB_z.mp (cm_eq9.mp h35)
                                            exact zJ hJ30 rfl rfl (by simp only [h35, lb_f, Int64.or_zero, nB_t, nB_f, Bool.not_true, Bool.not_false, Bool.and_true, Bool.true_and, Bool.false_and, Bool.and_false, Bool.or_true, Bool.true_or, Bool.false_or, Bool.or_false, cond_true, cond_false])
                                          · have h35 : (((((xEn (μ.1 50 21)) && e2) && e9) && e16) && e24) = true := nB_n.mp (cn_eq.mp h35)
                                            refine z_rcs hc hH 1 (pc' := 174) (lv' := [(5, .int 4), (4, .int (nB (e22 || (xHo (μ.1 57 3))))), (3, .int (nB (((((xTe (μ.1 50 21)) && e4) && e11) && e18) && e26))), (2, .int (nB (((((xEn (μ.1 50 21)) && e2) && e9) && e16) && e24))), (8, .int (nB e26)), (7, .int (nB e24)), (6, .int (μ.1 57 3)), (0, .ref 50), (1, .int ru)]) (st' := [.int ru]) (μ' := mGP μ (μ.2.1 50 24) (μ.2.1 50 25) (μ.1 50 23)) (by rfl) ?_
                                            refine zq_if hc hH (by rfl) (tg := 196) (by rfl) (fun h36 => ?_) (fun h36 => ?_)
                                            · have h36 : (decide (ru ≤ 0)) = true := decide_eq_true (cm_le.mp h36)
                                              exact zJ hJ30 rfl rfl (by simp only [h35, h36, lb_f, Int64.or_zero, nB_t, nB_f, Bool.not_true, Bool.not_false, Bool.and_true, Bool.true_and, Bool.false_and, Bool.and_false, Bool.or_true, Bool.true_or, Bool.false_or, Bool.or_false, cond_true, cond_false])
                                            · have h36 : (decide (ru ≤ 0)) = false := decide_eq_false (cn_le.mp h36)
                                              refine z_rcs hc hH 1 (pc' := 179) (lv' := [(5, .int 4), (4, .int (nB (e22 || (xHo (μ.1 57 3))))), (3, .int (nB (((((xTe (μ.1 50 21)) && e4) && e11) && e18) && e26))), (2, .int (nB (((((xEn (μ.1 50 21)) && e2) && e9) && e16) && e24))), (8, .int (nB e26)), (7, .int (nB e24)), (6, .int (μ.1 57 3)), (0, .ref 50), (1, .int ru)]) (st' := [.int (nB (e22 || (xHo (μ.1 57 3))))]) (μ' := mGP μ (μ.2.1 50 24) (μ.2.1 50 25) (μ.1 50 23)) (by rfl) ?_
                                              refine zq_if hc hH (by rfl) (tg := 196) (by rfl) (fun h37 => ?_) (fun h37 => ?_)
                                              · have h37 : (e22 || (xHo (μ.1 57 3))) = false := nB_z.mp (cm_eq9.mp h37)
                                                exact zJ hJ30 rfl rfl (by simp only [h35, h36, h37, lb_f, Int64.or_zero, nB_t, nB_f, Bool.not_true, Bool.not_false, Bool.and_true, Bool.true_and, Bool.false_and, Bool.and_false, Bool.or_true, Bool.true_or, Bool.false_or, Bool.or_false, cond_true, cond_false])
                                              · have h37 : (e22 || (xHo (μ.1 57 3))) = true := nB_n.mp (cn_eq.mp h37)
                                                refine z_rcs hc hH 4 (pc' := 189) (lv' := [(5, .int 4), (4, .int (nB (e22 || (xHo (μ.1 57 3))))), (3, .int (nB (((((xTe (μ.1 50 21)) && e4) && e11) && e18) && e26))), (2, .int (nB (((((xEn (μ.1 50 21)) && e2) && e9) && e16) && e24))), (8, .int (nB e26)), (7, .int (nB e24)), (6, .int (μ.1 57 3)), (0, .ref 50), (1, .int ru)]) (st' := [.int 23, .long (μ.2.1 50 25), .ref 50]) (μ' := mGP μ (μ.2.1 50 24) (μ.2.1 50 25) (μ.1 50 23)) (by rfl) ?_
                                                refine zq_call hc (z_cx_ok hH (by rfl)) (fb_X7_bit d' (by omega) (mGP μ (μ.2.1 50 24) (μ.2.1 50 25) (μ.1 50 23)) 23) (by decide +kernel) (fun r9 μ9 hq => ?_)
                                                obtain ⟨hμ9, rfl⟩ := hq
                                                rw [hμ9]
                                                clear hμ9 μ9
                                                show Z 0 192 [(5, .int 4), (4, .int (nB (e22 || (xHo (μ.1 57 3))))), (3, .int (nB (((((xTe (μ.1 50 21)) && e4) && e11) && e18) && e26))), (2, .int (nB (((((xEn (μ.1 50 21)) && e2) && e9) && e16) && e24))), (8, .int (nB e26)), (7, .int (nB e24)), (6, .int (μ.1 57 3)), (0, .ref 50), (1, .int ru)] [.long (lb true 23), .long (μ.2.1 50 25), .ref 50] (mGP μ (μ.2.1 50 24) (μ.2.1 50 25) (μ.1 50 23))
                                                refine z_rcs hc hH 2 (pc' := 196) (lv' := [(5, .int 4), (4, .int (nB (e22 || (xHo (μ.1 57 3))))), (3, .int (nB (((((xTe (μ.1 50 21)) && e4) && e11) && e18) && e26))), (2, .int (nB (((((xEn (μ.1 50 21)) && e2) && e9) && e16) && e24))), (8, .int (nB e26)), (7, .int (nB e24)), (6, .int (μ.1 57 3)), (0, .ref 50), (1, .int ru)]) (st' := []) (μ' := z_uj (mGP μ (μ.2.1 50 24) (μ.2.1 50 25) (μ.1 50 23)) 50 25 ((μ.2.1 50 25) ||| (lb true 23))) (by rfl) ?_
                                                rw [mGP_p]
                                                exact zJ hJ30 rfl rfl (by simp only [h35, h36, h37, lb_f, Int64.or_zero, nB_t, nB_f, Bool.not_true, Bool.not_false, Bool.and_true, Bool.true_and, Bool.false_and, Bool.and_false, Bool.or_true, Bool.true_or, Bool.false_or, Bool.or_false, cond_true, cond_false])
                                        refine zq_if hc hH (by rfl) (tg := 156) (by rfl) (fun h38 => ?_) (fun h38 => ?_)
                                        · have h38 : (e22) = true := nB_n.mp (cm_ne.mp h38)
                                          refine z_rcs hc hH 2 (pc' := 161) (lv' := [(3, .int (nB (((((xTe (μ.1 50 21)) && e4) && e11) && e18) && e26))), (2, .int (nB (((((xEn (μ.1 50 21)) && e2) && e9) && e16) && e24))), (8, .int (nB e26)), (7, .int (nB e24)), (6, .int (μ.1 57 3)), (5, .int 3), (4, .int (nB e22)), (0, .ref 50), (1, .int ru)]) (st' := [.int 1]) (μ' := mGP μ (μ.2.1 50 24) (μ.2.1 50 25) (μ.1 50 23)) (by rfl) ?_
                                          exact zJ hJ29 rfl (by simp only [h38, lb_f, Int64.or_zero, nB_t, nB_f, Bool.not_true, Bool.not_false, Bool.and_true, Bool.true_and, Bool.false_and, Bool.and_false, Bool.or_true, Bool.true_or, Bool.false_or, Bool.or_false, cond_true, cond_false]) rfl
                                        · have h38 : (e22) = false := nB_z.mp (cn_ne.mp h38)
                                          refine z_rcs hc hH 1 (pc' := 150) (lv' := [(3, .int (nB (((((xTe (μ.1 50 21)) && e4) && e11) && e18) && e26))), (2, .int (nB (((((xEn (μ.1 50 21)) && e2) && e9) && e16) && e24))), (8, .int (nB e26)), (7, .int (nB e24)), (6, .int (μ.1 57 3)), (5, .int 3), (4, .int (nB e22)), (0, .ref 50), (1, .int ru)]) (st' := [.int (μ.1 57 3)]) (μ' := mGP μ (μ.2.1 50 24) (μ.2.1 50 25) (μ.1 50 23)) (by rfl) ?_
                                          refine zq_call hc (z_cx_ok hH (by rfl)) (fb_X7_isHonour d' (by omega) (mGP μ (μ.2.1 50 24) (μ.2.1 50 25) (μ.1 50 23)) (μ.1 57 3)) (by decide +kernel) (fun r9 μ9 hq => ?_)
                                          obtain ⟨hμ9, rfl⟩ := hq
                                          rw [hμ9]
                                          clear hμ9 μ9
                                          show Z 0 153 [(3, .int (nB (((((xTe (μ.1 50 21)) && e4) && e11) && e18) && e26))), (2, .int (nB (((((xEn (μ.1 50 21)) && e2) && e9) && e16) && e24))), (8, .int (nB e26)), (7, .int (nB e24)), (6, .int (μ.1 57 3)), (5, .int 3), (4, .int (nB e22)), (0, .ref 50), (1, .int ru)] [.int (nB (xHo (μ.1 57 3)))] (mGP μ (μ.2.1 50 24) (μ.2.1 50 25) (μ.1 50 23))
                                          refine zq_if hc hH (by rfl) (tg := 160) (by rfl) (fun h39 => ?_) (fun h39 => ?_)
                                          · have h39 : (xHo (μ.1 57 3)) = false := nB_z.mp (cm_eq9.mp h39)
                                            refine z_rcs hc hH 1 (pc' := 161) (lv' := [(3, .int (nB (((((xTe (μ.1 50 21)) && e4) && e11) && e18) && e26))), (2, .int (nB (((((xEn (μ.1 50 21)) && e2) && e9) && e16) && e24))), (8, .int (nB e26)), (7, .int (nB e24)), (6, .int (μ.1 57 3)), (5, .int 3), (4, .int (nB e22)), (0, .ref 50), (1, .int ru)]) (st' := [.int 0]) (μ' := mGP μ (μ.2.1 50 24) (μ.2.1 50 25) (μ.1 50 23)) (by rfl) ?_
                                            exact zJ hJ29 rfl (by simp only [h38, h39, lb_f, Int64.or_zero, nB_t, nB_f, Bool.not_true, Bool.not_false, Bool.and_true, Bool.true_and, Bool.false_and, Bool.and_false, Bool.or_true, Bool.true_or, Bool.false_or, Bool.or_false, cond_true, cond_false]) rfl
                                          · have h39 : (xHo (μ.1 57 3)) = true := nB_n.mp (cn_eq.mp h39)
                                            refine z_rcs hc hH 2 (pc' := 161) (lv' := [(3, .int (nB (((((xTe (μ.1 50 21)) && e4) && e11) && e18) && e26))), (2, .int (nB (((((xEn (μ.1 50 21)) && e2) && e9) && e16) && e24))), (8, .int (nB e26)), (7, .int (nB e24)), (6, .int (μ.1 57 3)), (5, .int 3), (4, .int (nB e22)), (0, .ref 50), (1, .int ru)]) (st' := [.int 1]) (μ' := mGP μ (μ.2.1 50 24) (μ.2.1 50 25) (μ.1 50 23)) (by rfl) ?_
                                            exact zJ hJ29 rfl (by simp only [h38, h39, lb_f, Int64.or_zero, nB_t, nB_f, Bool.not_true, Bool.not_false, Bool.and_true, Bool.true_and, Bool.false_and, Bool.and_false, Bool.or_true, Bool.true_or, Bool.false_or, Bool.or_false, cond_true, cond_false]) rfl
                                      refine zq_if hc hH (by rfl) (tg := 141) (by rfl) (fun h40 => ?_) (fun h40 => ?_)
                                      · have h40 : ((((xTe (μ.1 50 21)) && e4) && e11) && e18) = false := nB_z.mp (cm_eq9.mp h40)
                                        refine z_rcs hc hH 1 (pc' := 142) (lv' := [(2, .int (nB (((((xEn (μ.1 50 21)) && e2) && e9) && e16) && e24))), (8, .int (nB e26)), (7, .int (nB e24)), (6, .int (μ.1 57 3)), (5, .int 3), (4, .int (nB e22)), (3, .int (nB ((((xTe (μ.1 50 21)) && e4) && e11) && e18))), (0, .ref 50), (1, .int ru)]) (st' := [.int 0]) (μ' := mGP μ (μ.2.1 50 24) (μ.2.1 50 25) (μ.1 50 23)) (by rfl) ?_
                                        exact zJ hJ28 rfl (by simp only [h40, lb_f, Int64.or_zero, nB_t, nB_f, Bool.not_true, Bool.not_false, Bool.and_true, Bool.true_and, Bool.false_and, Bool.and_false, Bool.or_true, Bool.true_or, Bool.false_or, Bool.or_false, cond_true, cond_false]) rfl
                                      · have h40 : ((((xTe (μ.1 50 21)) && e4) && e11) && e18) = true := nB_n.mp (cn_eq.mp h40)
                                        refine z_rcs hc hH 1 (pc' := 134) (lv' := [(2, .int (nB (((((xEn (μ.1 50 21)) && e2) && e9) && e16) && e24))), (8, .int (nB e26)), (7, .int (nB e24)), (6, .int (μ.1 57 3)), (5, .int 3), (4, .int (nB e22)), (3, .int (nB ((((xTe (μ.1 50 21)) && e4) && e11) && e18))), (0, .ref 50), (1, .int ru)]) (st' := [.int (nB e26)]) (μ' := mGP μ (μ.2.1 50 24) (μ.2.1 50 25) (μ.1 50 23)) (by rfl) ?_
                                        refine zq_if hc hH (by rfl) (tg := 141) (by rfl) (fun h41 => ?_) (fun h41 => ?_)
                                        · have h41 : (e26) = false := nB_z.mp (cm_eq9.mp h41)
                                          refine z_rcs hc hH 1 (pc' := 142) (lv' := [(2, .int (nB (((((xEn (μ.1 50 21)) && e2) && e9) && e16) && e24))), (8, .int (nB e26)), (7, .int (nB e24)), (6, .int (μ.1 57 3)), (5, .int 3), (4, .int (nB e22)), (3, .int (nB ((((xTe (μ.1 50 21)) && e4) && e11) && e18))), (0, .ref 50), (1, .int ru)]) (st' := [.int 0]) (μ' := mGP μ (μ.2.1 50 24) (μ.2.1 50 25) (μ.1 50 23)) (by rfl) ?_
                                          exact zJ hJ28 rfl (by simp only [h40, h41, lb_f, Int64.or_zero, nB_t, nB_f, Bool.not_true, Bool.not_false, Bool.and_true, Bool.true_and, Bool.false_and, Bool.and_false, Bool.or_true, Bool.true_or, Bool.false_or, Bool.or_false, cond_true, cond_false]) rfl
                                        · have h41 : (e26) = true := nB_n.mp (cn_eq.mp h41)
                                          refine z_rcs hc hH 2 (pc' := 142) (lv' := [(2, .int (nB (((((xEn (μ.1 50 21)) && e2) && e9) && e16) && e24))), (8, .int (nB e26)), (7, .int (nB e24)), (6, .int (μ.1 57 3)), (5, .int 3), (4, .int (nB e22)), (3, .int (nB ((((xTe (μ.1 50 21)) && e4) && e11) && e18))), (0, .ref 50), (1, .int ru)]) (st' := [.int 1]) (μ' := mGP μ (μ.2.1 50 24) (μ.2.1 50 25) (μ.1 50 23)) (by rfl) ?_
                                          exact zJ hJ28 rfl (by simp only [h40, h41, lb_f, Int64.or_zero, nB_t, nB_f, Bool.not_true, Bool.not_false, Bool.and_true, Bool.true_and, Bool.false_and, Bool.and_false, Bool.or_true, Bool.true_or, Bool.false_or, Bool.or_false, cond_true, cond_false]) rfl
                                    refine zq_if hc hH (by rfl) (tg := 126) (by rfl) (fun h42 => ?_) (fun h42 => ?_)
                                    · have h42 : ((((xEn (μ.1 50 21)) && e2) && e9) && e16) = false := nB_z.mp (cm_eq9.mp h42)
                                      refine z_rcs hc hH 1 (pc' := 127) (lv' := [(8, .int (nB e26)), (7, .int (nB e24)), (6, .int (μ.1 57 3)), (5, .int 3), (4, .int (nB e22)), (3, .int (nB ((((xTe (μ.1 50 21)) && e4) && e11) && e18))), (2, .int (nB ((((xEn (μ.1 50 21)) && e2) && e9) && e16))), (0, .ref 50), (1, .int ru)]) (st' := [.int 0]) (μ' := mGP μ (μ.2.1 50 24) (μ.2.1 50 25) (μ.1 50 23)) (by rfl) ?_
                                      exact zJ hJ27 rfl (by simp only [h42, lb_f, Int64.or_zero, nB_t, nB_f, Bool.not_true, Bool.not_false, Bool.and_true, Bool.true_and, Bool.false_and, Bool.and_false, Bool.or_true, Bool.true_or, Bool.false_or, Bool.or_false, cond_true, cond_false]) rfl
                                    · have h42 : ((((xEn (μ.1 50 21)) && e2) && e9) && e16) = true := nB_n.mp (cn_eq.mp h42)
                                      refine z_rcs hc hH 1 (pc' := 119) (lv' := [(8, .int (nB e26)), (7, .int (nB e24)), (6, .int (μ.1 57 3)), (5, .int 3), (4, .int (nB e22)), (3, .int (nB ((((xTe (μ.1 50 21)) && e4) && e11) && e18))), (2, .int (nB ((((xEn (μ.1 50 21)) && e2) && e9) && e16))), (0, .ref 50), (1, .int ru)]) (st' := [.int (nB e24)]) (μ' := mGP μ (μ.2.1 50 24) (μ.2.1 50 25) (μ.1 50 23)) (by rfl) ?_
                                      refine zq_if hc hH (by rfl) (tg := 126) (by rfl) (fun h43 => ?_) (fun h43 => ?_)
                                      · have h43 : (e24) = false := nB_z.mp (cm_eq9.mp h43)
                                        refine z_rcs hc hH 1 (pc' := 127) (lv' := [(8, .int (nB e26)), (7, .int (nB e24)), (6, .int (μ.1 57 3)), (5, .int 3), (4, .int (nB e22)), (3, .int (nB ((((xTe (μ.1 50 21)) && e4) && e11) && e18))), (2, .int (nB ((((xEn (μ.1 50 21)) && e2) && e9) && e16))), (0, .ref 50), (1, .int ru)]) (st' := [.int 0]) (μ' := mGP μ (μ.2.1 50 24) (μ.2.1 50 25) (μ.1 50 23)) (by rfl) ?_
                                        exact zJ hJ27 rfl (by simp only [h42, h43, lb_f, Int64.or_zero, nB_t, nB_f, Bool.not_true, Bool.not_false, Bool.and_true, Bool.true_and, Bool.false_and, Bool.and_false, Bool.or_true, Bool.true_or, Bool.false_or, Bool.or_false, cond_true, cond_false]) rfl
                                      · have h43 : (e24) = true := nB_n.mp (cn_eq.mp h43)
                                        refine z_rcs hc hH 2 (pc' := 127) (lv' := [(8, .int (nB e26)), (7, .int (nB e24)), (6, .int (μ.1 57 3)), (5, .int 3), (4, .int (nB e22)), (3, .int (nB ((((xTe (μ.1 50 21)) && e4) && e11) && e18))), (2, .int (nB ((((xEn (μ.1 50 21)) && e2) && e9) && e16))), (0, .ref 50), (1, .int ru)]) (st' := [.int 1]) (μ' := mGP μ (μ.2.1 50 24) (μ.2.1 50 25) (μ.1 50 23)) (by rfl) ?_
                                        exact zJ hJ27 rfl (by simp only [h42, h43, lb_f, Int64.or_zero, nB_t, nB_f, Bool.not_true, Bool.not_false, Bool.and_true, Bool.true_and, Bool.false_and, Bool.and_false, Bool.or_true, Bool.true_or, Bool.false_or, Bool.or_false, cond_true, cond_false]) rfl
                                  refine zq_if hc hH (by rfl) (tg := 106) (by rfl) (fun h44 => ?_) (fun h44 => ?_)
                                  · have h44 : (xTe (μ.1 57 3)) = true := nB_n.mp (cm_ne.mp h44)
                                    refine z_rcs hc hH 2 (pc' := 111) (lv' := [(7, .int (nB e24)), (6, .int (μ.1 57 3)), (5, .int 3), (4, .int (nB e22)), (3, .int (nB ((((xTe (μ.1 50 21)) && e4) && e11) && e18))), (2, .int (nB ((((xEn (μ.1 50 21)) && e2) && e9) && e16))), (8, .int (nB e18)), (0, .ref 50), (1, .int ru)]) (st' := [.int 1]) (μ' := mGP μ (μ.2.1 50 24) (μ.2.1 50 25) (μ.1 50 23)) (by rfl) ?_
                                    exact zJ hJ25 rfl (by simp only [h44, lb_f, Int64.or_zero, nB_t, nB_f, Bool.not_true, Bool.not_false, Bool.and_true, Bool.true_and, Bool.false_and, Bool.and_false, Bool.or_true, Bool.true_or, Bool.false_or, Bool.or_false, cond_true, cond_false]) rfl
                                  · have h44 : (xTe (μ.1 57 3)) = false := nB_z.mp (cn_ne.mp h44)
                                    refine z_rcs hc hH 3 (pc' := 92) (lv' := [(7, .int (nB e24)), (6, .int (μ.1 57 3)), (5, .int 3), (4, .int (nB e22)), (3, .int (nB ((((xTe (μ.1 50 21)) && e4) && e11) && e18))), (2, .int (nB ((((xEn (μ.1 50 21)) && e2) && e9) && e16))), (8, .int (nB e18)), (0, .ref 50), (1, .int ru)]) (st' := [.int 3, .ref 56]) (μ' := mGP μ (μ.2.1 50 24) (μ.2.1 50 25) (μ.1 50 23)) (by rfl) ?_
                                    refine zq_iald hc hH (by rfl) 4 (by decide +kernel) (show vp_in (nI 3) 4 from vp_in_nI (by decide) (by decide)) ?_
                                    show Z 0 93 [(7, .int (nB e24)), (6, .int (μ.1 57 3)), (5, .int 3), (4, .int (nB e22)), (3, .int (nB ((((xTe (μ.1 50 21)) && e4) && e11) && e18))), (2, .int (nB ((((xEn (μ.1 50 21)) && e2) && e9) && e16))), (8, .int (nB e18)), (0, .ref 50), (1, .int ru)] [.int (μ.1 56 3)] (mGP μ (μ.2.1 50 24) (μ.2.1 50 25) (μ.1 50 23))
                                    refine zq_if hc hH (by rfl) (tg := 110) (by rfl) (fun h45 => ?_) (fun h45 => ?_)
                                    · have h45 : (decide ((μ.1 56 3) = 0)) = false := decide_eq_false (cm_ne.mp h45)
                                      refine z_rcs hc hH 1 (pc' := 111) (lv' := [(7, .int (nB e24)), (6, .int (μ.1 57 3)), (5, .int 3), (4, .int (nB e22)), (3, .int (nB ((((xTe (μ.1 50 21)) && e4) && e11) && e18))), (2, .int (nB ((((xEn (μ.1 50 21)) && e2) && e9) && e16))), (8, .int (nB e18)), (0, .ref 50), (1, .int ru)]) (st' := [.int 0]) (μ' := mGP μ (μ.2.1 50 24) (μ.2.1 50 25) (μ.1 50 23)) (by rfl) ?_
                                      exact zJ hJ25 rfl (by simp only [h44, h45, lb_f, Int64.or_zero, nB_t, nB_f, Bool.not_true, Bool.not_false, Bool.and_true, Bool.true_and, Bool.false_and, Bool.and_false, Bool.or_true, Bool.true_or, Bool.false_or, Bool.or_false, cond_true, cond_false]) rfl
                                    · have h45 : (decide ((μ.1 56 3) = 0)) = true := decide_eq_true (cn_ne.mp h45)
                                      refine z_rcs hc hH 3 (pc' := 100) (lv' := [(7, .int (nB e24)), (6, .int (μ.1 57 3)), (5, .int 3), (4, .int (nB e22)), (3, .int (nB ((((xTe (μ.1 50 21)) && e4) && e11) && e18))), (2, .int (nB ((((xEn (μ.1 50 21)) && e2) && e9) && e16))), (8, .int (nB e18)), (0, .ref 50), (1, .int ru)]) (st' := [.int ((μ.1 57 3) + 2)]) (μ' := mGP μ (μ.2.1 50 24) (μ.2.1 50 25) (μ.1 50 23)) (by rfl) ?_
                                      refine zq_call hc (z_cx_ok hH (by rfl)) (fb_X7_isTerminal d' (by omega) (mGP μ (μ.2.1 50 24) (μ.2.1 50 25) (μ.1 50 23)) ((μ.1 57 3) + 2)) (by decide +kernel) (fun r9 μ9 hq => ?_)
                                      obtain ⟨hμ9, rfl⟩ := hq
                                      rw [hμ9]
                                      clear hμ9 μ9
                                      show Z 0 103 [(7, .int (nB e24)), (6, .int (μ.1 57 3)), (5, .int 3), (4, .int (nB e22)), (3, .int (nB ((((xTe (μ.1 50 21)) && e4) && e11) && e18))), (2, .int (nB ((((xEn (μ.1 50 21)) && e2) && e9) && e16))), (8, .int (nB e18)), (0, .ref 50), (1, .int ru)] [.int (nB (xTe ((μ.1 57 3) + 2)))] (mGP μ (μ.2.1 50 24) (μ.2.1 50 25) (μ.1 50 23))
                                      refine zq_if hc hH (by rfl) (tg := 110) (by rfl) (fun h46 => ?_) (fun h46 => ?_)
                                      · have h46 : (xTe ((μ.1 57 3) + 2)) = false := nB_z.mp (cm_eq9.mp h46)
                                        refine z_rcs hc hH 1 (pc' := 111) (lv' := [(7, .int (nB e24)), (6, .int (μ.1 57 3)), (5, .int 3), (4, .int (nB e22)), (3, .int (nB ((((xTe (μ.1 50 21)) && e4) && e11) && e18))), (2, .int (nB ((((xEn (μ.1 50 21)) && e2) && e9) && e16))), (8, .int (nB e18)), (0, .ref 50), (1, .int ru)]) (st' := [.int 0]) (μ' := mGP μ (μ.2.1 50 24) (μ.2.1 50 25) (μ.1 50 23)) (by rfl) ?_
                                        exact zJ hJ25 rfl (by simp only [h44, h45, h46, lb_f, Int64.or_zero, nB_t, nB_f, Bool.not_true, Bool.not_false, Bool.and_true, Bool.true_and, Bool.false_and, Bool.and_false, Bool.or_true, Bool.true_or, Bool.false_or, Bool.or_false, cond_true, cond_false]) rfl
                                      · have h46 : (xTe ((μ.1 57 3) + 2)) = true := nB_n.mp (cn_eq.mp h46)
                                        refine z_rcs hc hH 2 (pc' := 111) (lv' := [(7, .int (nB e24)), (6, .int (μ.1 57 3)), (5, .int 3), (4, .int (nB e22)), (3, .int (nB ((((xTe (μ.1 50 21)) && e4) && e11) && e18))), (2, .int (nB ((((xEn (μ.1 50 21)) && e2) && e9) && e16))), (8, .int (nB e18)), (0, .ref 50), (1, .int ru)]) (st' := [.int 1]) (μ' := mGP μ (μ.2.1 50 24) (μ.2.1 50 25) (μ.1 50 23)) (by rfl) ?_
                                        exact zJ hJ25 rfl (by simp only [h44, h45, h46, lb_f, Int64.or_zero, nB_t, nB_f, Bool.not_true, Bool.not_false, Bool.and_true, Bool.true_and, Bool.false_and, Bool.and_false, Bool.or_true, Bool.true_or, Bool.false_or, Bool.or_false, cond_true, cond_false]) rfl
                                refine zq_if hc hH (by rfl) (tg := 71) (by rfl) (fun h47 => ?_) (fun h47 => ?_)
                                · have h47 : (xEn (μ.1 57 3)) = true := nB_n.mp (cm_ne.mp h47)
                                  refine z_rcs hc hH 2 (pc' := 76) (lv' := [(6, .int (μ.1 57 3)), (5, .int 3), (4, .int (nB e22)), (3, .int (nB ((((xTe (μ.1 50 21)) && e4) && e11) && e18))), (2, .int (nB ((((xEn (μ.1 50 21)) && e2) && e9) && e16))), (8, .int (nB e18)), (7, .int (nB e16)), (0, .ref 50), (1, .int ru)]) (st' := [.int 1]) (μ' := mGP μ (μ.2.1 50 24) (μ.2.1 50 25) (μ.1 50 23)) (by rfl) ?_
                                  exact zJ hJ23 rfl (by simp only [h47, lb_f, Int64.or_zero, nB_t, nB_f, Bool.not_true, Bool.not_false, Bool.and_true, Bool.true_and, Bool.false_and, Bool.and_false, Bool.or_true, Bool.true_or, Bool.false_or, Bool.or_false, cond_true, cond_false]) rfl
                                · have h47 : (xEn (μ.1 57 3)) = false := nB_z.mp (cn_ne.mp h47)
                                  refine z_rcs hc hH 3 (pc' := 57) (lv' := [(6, .int (μ.1 57 3)), (5, .int 3), (4, .int (nB e22)), (3, .int (nB ((((xTe (μ.1 50 21)) && e4) && e11) && e18))), (2, .int (nB ((((xEn (μ.1 50 21)) && e2) && e9) && e16))), (8, .int (nB e18)), (7, .int (nB e16)), (0, .ref 50), (1, .int ru)]) (st' := [.int 3, .ref 56]) (μ' := mGP μ (μ.2.1 50 24) (μ.2.1 50 25) (μ.1 50 23)) (by rfl) ?_
                                  refine zq_iald hc hH (by rfl) 4 (by decide +kernel) (show vp_in (nI 3) 4 from vp_in_nI (by decide) (by decide)) ?_
                                  show Z 0 58 [(6, .int (μ.1 57 3)), (5, .int 3), (4, .int (nB e22)), (3, .int (nB ((((xTe (μ.1 50 21)) && e4) && e11) && e18))), (2, .int (nB ((((xEn (μ.1 50 21)) && e2) && e9) && e16))), (8, .int (nB e18)), (7, .int (nB e16)), (0, .ref 50), (1, .int ru)] [.int (μ.1 56 3)] (mGP μ (μ.2.1 50 24) (μ.2.1 50 25) (μ.1 50 23))
                                  refine zq_if hc hH (by rfl) (tg := 75) (by rfl) (fun h48 => ?_) (fun h48 => ?_)
                                  · have h48 : (decide ((μ.1 56 3) = 0)) = false := decide_eq_false (cm_ne.mp h48)
                                    refine z_rcs hc hH 1 (pc' := 76) (lv' := [(6, .int (μ.1 57 3)), (5, .int 3), (4, .int (nB e22)), (3, .int (nB ((((xTe (μ.1 50 21)) && e4) && e11) && e18))), (2, .int (nB ((((xEn (μ.1 50 21)) && e2) && e9) && e16))), (8, .int (nB e18)), (7, .int (nB e16)), (0, .ref 50), (1, .int ru)]) (st' := [.int 0]) (μ' := mGP μ (μ.2.1 50 24) (μ.2.1 50 25) (μ.1 50 23)) (by rfl) ?_
                                    exact zJ hJ23 rfl (by simp only [h47, h48, lb_f, Int64.or_zero, nB_t, nB_f, Bool.not_true, Bool.not_false, Bool.and_true, Bool.true_and, Bool.false_and, Bool.and_false, Bool.or_true, Bool.true_or, Bool.false_or, Bool.or_false, cond_true, cond_false]) rfl
                                  · have h48 : (decide ((μ.1 56 3) = 0)) = true := decide_eq_true (cn_ne.mp h48)
                                    refine z_rcs hc hH 3 (pc' := 65) (lv' := [(6, .int (μ.1 57 3)), (5, .int 3), (4, .int (nB e22)), (3, .int (nB ((((xTe (μ.1 50 21)) && e4) && e11) && e18))), (2, .int (nB ((((xEn (μ.1 50 21)) && e2) && e9) && e16))), (8, .int (nB e18)), (7, .int (nB e16)), (0, .ref 50), (1, .int ru)]) (st' := [.int ((μ.1 57 3) + 2)]) (μ' := mGP μ (μ.2.1 50 24) (μ.2.1 50 25) (μ.1 50 23)) (by rfl) ?_
                                    refine zq_call hc (z_cx_ok hH (by rfl)) (fb_X7_isEnd d' (by omega) (mGP μ (μ.2.1 50 24) (μ.2.1 50 25) (μ.1 50 23)) ((μ.1 57 3) + 2)) (by decide +kernel) (fun r9 μ9 hq => ?_)
                                    obtain ⟨hμ9, rfl⟩ := hq
                                    rw [hμ9]
                                    clear hμ9 μ9
                                    show Z 0 68 [(6, .int (μ.1 57 3)), (5, .int 3), (4, .int (nB e22)), (3, .int (nB ((((xTe (μ.1 50 21)) && e4) && e11) && e18))), (2, .int (nB ((((xEn (μ.1 50 21)) && e2) && e9) && e16))), (8, .int (nB e18)), (7, .int (nB e16)), (0, .ref 50), (1, .int ru)] [.int (nB (xEn ((μ.1 57 3) + 2)))] (mGP μ (μ.2.1 50 24) (μ.2.1 50 25) (μ.1 50 23))
                                    refine zq_if hc hH (by rfl) (tg := 75) (by rfl) (fun h49 => ?_) (fun h49 => ?_)
                                    · have h49 : (xEn ((μ.1 57 3) + 2)) = false := nB_z.mp (cm_eq9.mp h49)
                                      refine z_rcs hc hH 1 (pc' := 76) (lv' := [(6, .int (μ.1 57 3)), (5, .int 3), (4, .int (nB e22)), (3, .int (nB ((((xTe (μ.1 50 21)) && e4) && e11) && e18))), (2, .int (nB ((((xEn (μ.1 50 21)) && e2) && e9) && e16))), (8, .int (nB e18)), (7, .int (nB e16)), (0, .ref 50), (1, .int ru)]) (st' := [.int 0]) (μ' := mGP μ (μ.2.1 50 24) (μ.2.1 50 25) (μ.1 50 23)) (by rfl) ?_
                                      exact zJ hJ23 rfl (by simp only [h47, h48, h49, lb_f, Int64.or_zero, nB_t, nB_f, Bool.not_true, Bool.not_false, Bool.and_true, Bool.true_and, Bool.false_and, Bool.and_false, Bool.or_true, Bool.true_or, Bool.false_or, Bool.or_false, cond_true, cond_false]) rfl
                                    · have h49 : (xEn ((μ.1 57 3) + 2)) = true := nB_n.mp (cn_eq.mp h49)
                                      refine z_rcs hc hH 2 (pc' := 76) (lv' := [(6, .int (μ.1 57 3)), (5, .int 3), (4, .int (nB e22)), (3, .int (nB ((((xTe (μ.1 50 21)) && e4) && e11) && e18))), (2, .int (nB ((((xEn (μ.1 50 21)) && e2) && e9) && e16))), (8, .int (nB e18)), (7, .int (nB e16)), (0, .ref 50), (1, .int ru)]) (st' := [.int 1]) (μ' := mGP μ (μ.2.1 50 24) (μ.2.1 50 25) (μ.1 50 23)) (by rfl) ?_
                                      exact zJ hJ23 rfl (by simp only [h47, h48, h49, lb_f, Int64.or_zero, nB_t, nB_f, Bool.not_true, Bool.not_false, Bool.and_true, Bool.true_and, Bool.false_and, Bool.and_false, Bool.or_true, Bool.true_or, Bool.false_or, Bool.or_false, cond_true, cond_false]) rfl
                              refine zq_if hc hH (by rfl) (tg := 156) (by rfl) (fun h50 => ?_) (fun h50 => ?_)
                              · have h50 : (((xHo (μ.1 50 21)) || (xHo (μ.1 57 0))) || (xHo (μ.1 57 1))) = true := nB_n.mp (cm_ne.mp h50)
                                refine z_rcs hc hH 2 (pc' := 161) (lv' := [(3, .int (nB ((((xTe (μ.1 50 21)) && e4) && e11) && e18))), (2, .int (nB ((((xEn (μ.1 50 21)) && e2) && e9) && e16))), (8, .int (nB e18)), (7, .int (nB e16)), (6, .int (μ.1 57 2)), (5, .int 2), (4, .int (nB (((xHo (μ.1 50 21)) || (xHo (μ.1 57 0))) || (xHo (μ.1 57 1))))), (0, .ref 50), (1, .int ru)]) (st' := [.int 1]) (μ' := mGP μ (μ.2.1 50 24) (μ.2.1 50 25) (μ.1 50 23)) (by rfl) ?_
                                exact zJ hJ21 rfl (by simp only [h50, lb_f, Int64.or_zero, nB_t, nB_f, Bool.not_true, Bool.not_false, Bool.and_true, Bool.true_and, Bool.false_and, Bool.and_false, Bool.or_true, Bool.true_or, Bool.false_or, Bool.or_false, cond_true, cond_false]) rfl
                              · have h50 : (((xHo (μ.1 50 21)) || (xHo (μ.1 57 0))) || (xHo (μ.1 57 1))) = false := nB_z.mp (cn_ne.mp h50)
                                refine z_rcs hc hH 1 (pc' := 150) (lv' := [(3, .int (nB ((((xTe (μ.1 50 21)) && e4) && e11) && e18))), (2, .int (nB ((((xEn (μ.1 50 21)) && e2) && e9) && e16))), (8, .int (nB e18)), (7, .int (nB e16)), (6, .int (μ.1 57 2)), (5, .int 2), (4, .int (nB (((xHo (μ.1 50 21)) || (xHo (μ.1 57 0))) || (xHo (μ.1 57 1))))), (0, .ref 50), (1, .int ru)]) (st' := [.int (μ.1 57 2)]) (μ' := mGP μ (μ.2.1 50 24) (μ.2.1 50 25) (μ.1 50 23)) (by rfl) ?_
                                refine zq_call hc (z_cx_ok hH (by rfl)) (fb_X7_isHonour d' (by omega) (mGP μ (μ.2.1 50 24) (μ.2.1 50 25) (μ.1 50 23)) (μ.1 57 2)) (by decide +kernel) (fun r9 μ9 hq => ?_)
                                obtain ⟨hμ9, rfl⟩ := hq
                                rw [hμ9]
                                clear hμ9 μ9
                                show Z 0 153 [(3, .int (nB ((((xTe (μ.1 50 21)) && e4) && e11) && e18))), (2, .int (nB ((((xEn (μ.1 50 21)) && e2) && e9) && e16))), (8, .int (nB e18)), (7, .int (nB e16)), (6, .int (μ.1 57 2)), (5, .int 2), (4, .int (nB (((xHo (μ.1 50 21)) || (xHo (μ.1 57 0))) || (xHo (μ.1 57 1))))), (0, .ref 50), (1, .int ru)] [.int (nB (xHo (μ.1 57 2)))] (mGP μ (μ.2.1 50 24) (μ.2.1 50 25) (μ.1 50 23))
                                refine zq_if hc hH (by rfl) (tg := 160) (by rfl) (fun h51 => ?_) (fun h51 => ?_)
                                · have h51 : (xHo (μ.1 57 2)) = false := nB_z.mp (cm_eq9.mp h51)
                                  refine z_rcs hc hH 1 (pc' := 161) (lv' := [(3, .int (nB ((((xTe (μ.1 50 21)) && e4) && e11) && e18))), (2, .int (nB ((((xEn (μ.1 50 21)) && e2) && e9) && e16))), (8, .int (nB e18)), (7, .int (nB e16)), (6, .int (μ.1 57 2)), (5, .int 2), (4, .int (nB (((xHo (μ.1 50 21)) || (xHo (μ.1 57 0))) || (xHo (μ.1 57 1))))), (0, .ref 50), (1, .int ru)]) (st' := [.int 0]) (μ' := mGP μ (μ.2.1 50 24) (μ.2.1 50 25) (μ.1 50 23)) (by rfl) ?_
                                  exact zJ hJ21 rfl (by simp only [h50, h51, lb_f, Int64.or_zero, nB_t, nB_f, Bool.not_true, Bool.not_false, Bool.and_true, Bool.true_and, Bool.false_and, Bool.and_false, Bool.or_true, Bool.true_or, Bool.false_or, Bool.or_false, cond_true, cond_false]) rfl
                                · have h51 : (xHo (μ.1 57 2)) = true := nB_n.mp (cn_eq.mp h51)
                                  refine z_rcs hc hH 2 (pc' := 161) (lv' := [(3, .int (nB ((((xTe (μ.1 50 21)) && e4) && e11) && e18))), (2, .int (nB ((((xEn (μ.1 50 21)) && e2) && e9) && e16))), (8, .int (nB e18)), (7, .int (nB e16)), (6, .int (μ.1 57 2)), (5, .int 2), (4, .int (nB (((xHo (μ.1 50 21)) || (xHo (μ.1 57 0))) || (xHo (μ.1 57 1))))), (0, .ref 50), (1, .int ru)]) (st' := [.int 1]) (μ' := mGP μ (μ.2.1 50 24) (μ.2.1 50 25) (μ.1 50 23)) (by rfl) ?_
                                  exact zJ hJ21 rfl (by simp only [h50, h51, lb_f, Int64.or_zero, nB_t, nB_f, Bool.not_true, Bool.not_false, Bool.and_true, Bool.true_and, Bool.false_and, Bool.and_false, Bool.or_true, Bool.true_or, Bool.false_or, Bool.or_false, cond_true, cond_false]) rfl
                            refine zq_if hc hH (by rfl) (tg := 141) (by rfl) (fun h52 => ?_) (fun h52 => ?_)
                            · have h52 : (((xTe (μ.1 50 21)) && e4) && e11) = false := nB_z.mp (cm_eq9.mp h52)
                              refine z_rcs hc hH 1 (pc' := 142) (lv' := [(2, .int (nB ((((xEn (μ.1 50 21)) && e2) && e9) && e16))), (8, .int (nB e18)), (7, .int (nB e16)), (6, .int (μ.1 57 2)), (5, .int 2), (4, .int (nB (((xHo (μ.1 50 21)) || (xHo (μ.1 57 0))) || (xHo (μ.1 57 1))))), (3, .int (nB (((xTe (μ.1 50 21)) && e4) && e11))), (0, .ref 50), (1, .int ru)]) (st' := [.int 0]) (μ' := mGP μ (μ.2.1 50 24) (μ.2.1 50 25) (μ.1 50 23)) (by rfl) ?_
                              exact zJ hJ20 rfl (by simp only [h52, lb_f, Int64.or_zero, nB_t, nB_f, Bool.not_true, Bool.not_false, Bool.and_true, Bool.true_and, Bool.false_and, Bool.and_false, Bool.or_true, Bool.true_or, Bool.false_or, Bool.or_false, cond_true, cond_false]) rfl
                            · have h52 : (((xTe (μ.1 50 21)) && e4) && e11) = true := nB_n.mp (cn_eq.mp h52)
                              refine z_rcs hc hH 1 (pc' := 134) (lv' := [(2, .int (nB ((((xEn (μ.1 50 21)) && e2) && e9) && e16))), (8, .int (nB e18)), (7, .int (nB e16)), (6, .int (μ.1 57 2)), (5, .int 2), (4, .int (nB (((xHo (μ.1 50 21)) || (xHo (μ.1 57 0))) || (xHo (μ.1 57 1))))), (3, .int (nB (((xTe (μ.1 50 21)) && e4) && e11))), (0, .ref 50), (1, .int ru)]) (st' := [.int (nB e18)]) (μ' := mGP μ (μ.2.1 50 24) (μ.2.1 50 25) (μ.1 50 23)) (by rfl) ?_
                              refine zq_if hc hH (by rfl) (tg := 141) (by rfl) (fun h53 => ?_) (fun h53 => ?_)
                              · have h53 : (e18) = false := nB_z.mp (cm_eq9.mp h53)
                                refine z_rcs hc hH 1 (pc' := 142) (lv' := [(2, .int (nB ((((xEn (μ.1 50 21)) && e2) && e9) && e16))), (8, .int (nB e18)), (7, .int (nB e16)), (6, .int (μ.1 57 2)), (5, .int 2), (4, .int (nB (((xHo (μ.1 50 21)) || (xHo (μ.1 57 0))) || (xHo (μ.1 57 1))))), (3, .int (nB (((xTe (μ.1 50 21)) && e4) && e11))), (0, .ref 50), (1, .int ru)]) (st' := [.int 0]) (μ' := mGP μ (μ.2.1 50 24) (μ.2.1 50 25) (μ.1 50 23)) (by rfl) ?_
                                exact zJ hJ20 rfl (by simp only [h52, h53, lb_f, Int64.or_zero, nB_t, nB_f, Bool.not_true, Bool.not_false, Bool.and_true, Bool.true_and, Bool.false_and, Bool.and_false, Bool.or_true, Bool.true_or, Bool.false_or, Bool.or_false, cond_true, cond_false]) rfl
                              · have h53 : (e18) = true := nB_n.mp (cn_eq.mp h53)
                                refine z_rcs hc hH 2 (pc' := 142) (lv' := [(2, .int (nB ((((xEn (μ.1 50 21)) && e2) && e9) && e16))), (8, .int (nB e18)), (7, .int (nB e16)), (6, .int (μ.1 57 2)), (5, .int 2), (4, .int (nB (((xHo (μ.1 50 21)) || (xHo (μ.1 57 0))) || (xHo (μ.1 57 1))))), (3, .int (nB (((xTe (μ.1 50 21)) && e4) && e11))), (0, .ref 50), (1, .int ru)]) (st' := [.int 1]) (μ' := mGP μ (μ.2.1 50 24) (μ.2.1 50 25) (μ.1 50 23)) (by rfl) ?_
                                exact zJ hJ20 rfl (by simp only [h52, h53, lb_f, Int64.or_zero, nB_t, nB_f, Bool.not_true, Bool.not_false, Bool.and_true, Bool.true_and, Bool.false_and, Bool.and_false, Bool.or_true, Bool.true_or, Bool.false_or, Bool.or_false, cond_true, cond_false]) rfl
                          refine zq_if hc hH (by rfl) (tg := 126) (by rfl) (fun h54 => ?_) (fun h54 => ?_)
                          · have h54 : (((xEn (μ.1 50 21)) && e2) && e9) = false := nB_z.mp (cm_eq9.mp h54)
                            refine z_rcs hc hH 1 (pc' := 127) (lv' := [(8, .int (nB e18)), (7, .int (nB e16)), (6, .int (μ.1 57 2)), (5, .int 2), (4, .int (nB (((xHo (μ.1 50 21)) || (xHo (μ.1 57 0))) || (xHo (μ.1 57 1))))), (3, .int (nB (((xTe (μ.1 50 21)) && e4) && e11))), (2, .int (nB (((xEn (μ.1 50 21)) && e2) && e9))), (0, .ref 50), (1, .int ru)]) (st' := [.int 0]) (μ' := mGP μ (μ.2.1 50 24) (μ.2.1 50 25) (μ.1 50 23)) (by rfl) ?_
                            exact zJ hJ19 rfl (by simp only [h54, lb_f, Int64.or_zero, nB_t, nB_f, Bool.not_true, Bool.not_false, Bool.and_true, Bool.true_and, Bool.false_and, Bool.and_false, Bool.or_true, Bool.true_or, Bool.false_or, Bool.or_false, cond_true, cond_false]) rfl
                          · have h54 : (((xEn (μ.1 50 21)) && e2) && e9) = true := nB_n.mp (cn_eq.mp h54)
                            refine z_rcs hc hH 1 (pc' := 119) (lv' := [(8, .int (nB e18)), (7, .int (nB e16)), (6, .int (μ.1 57 2)), (5, .int 2), (4, .int (nB (((xHo (μ.1 50 21)) || (xHo (μ.1 57 0))) || (xHo (μ.1 57 1))))), (3, .int (nB (((xTe (μ.1 50 21)) && e4) && e11))), (2, .int (nB (((xEn (μ.1 50 21)) && e2) && e9))), (0, .ref 50), (1, .int ru)]) (st' := [.int (nB e16)]) (μ' := mGP μ (μ.2.1 50 24) (μ.2.1 50 25) (μ.1 50 23)) (by rfl) ?_
                            refine zq_if hc hH (by rfl) (tg := 126) (by rfl) (fun h55 => ?_) (fun h55 => ?_)
                            · have h55 : (e16) = false := nB_z.mp (cm_eq9.mp h55)
                              refine z_rcs hc hH 1 (pc' := 127) (lv' := [(8, .int (nB e18)), (7, .int (nB e16)), (6, .int (μ.1 57 2)), (5, .int 2), (4, .int (nB (((xHo (μ.1 50 21)) || (xHo (μ.1 57 0))) || (xHo (μ.1 57 1))))), (3, .int (nB (((xTe (μ.1 50 21)) && e4) && e11))), (2, .int (nB (((xEn (μ.1 50 21)) && e2) && e9))), (0, .ref 50), (1, .int ru)]) (st' := [.int 0]) (μ' := mGP μ (μ.2.1 50 24) (μ.2.1 50 25) (μ.1 50 23)) (by rfl) ?_
                              exact zJ hJ19 rfl (by simp only [h54, h55, lb_f, Int64.or_zero, nB_t, nB_f, Bool.not_true, Bool.not_false, Bool.and_true, Bool.true_and, Bool.false_and, Bool.and_false, Bool.or_true, Bool.true_or, Bool.false_or, Bool.or_false, cond_true, cond_false]) rfl
                            · have h55 : (e16) = true := nB_n.mp (cn_eq.mp h55)
                              refine z_rcs hc hH 2 (pc' := 127) (lv' := [(8, .int (nB e18)), (7, .int (nB e16)), (6, .int (μ.1 57 2)), (5, .int 2), (4, .int (nB (((xHo (μ.1 50 21)) || (xHo (μ.1 57 0))) || (xHo (μ.1 57 1))))), (3, .int (nB (((xTe (μ.1 50 21)) && e4) && e11))), (2, .int (nB (((xEn (μ.1 50 21)) && e2) && e9))), (0, .ref 50), (1, .int ru)]) (st' := [.int 1]) (μ' := mGP μ (μ.2.1 50 24) (μ.2.1 50 25) (μ.1 50 23)) (by rfl) ?_
                              exact zJ hJ19 rfl (by simp only [h54, h55, lb_f, Int64.or_zero, nB_t, nB_f, Bool.not_true, Bool.not_false, Bool.and_true, Bool.true_and, Bool.false_and, Bool.and_false, Bool.or_true, Bool.true_or, Bool.false_or, Bool.or_false, cond_true, cond_false]) rfl
                        refine zq_if hc hH (by rfl) (tg := 106) (by rfl) (fun h56 => ?_) (fun h56 => ?_)
                        · have h56 : (xTe (μ.1 57 2)) = true := nB_n.mp (cm_ne.mp h56)
                          refine z_rcs hc hH 2 (pc' := 111) (lv' := [(7, .int (nB e16)), (6, .int (μ.1 57 2)), (5, .int 2), (4, .int (nB (((xHo (μ.1 50 21)) || (xHo (μ.1 57 0))) || (xHo (μ.1 57 1))))), (3, .int (nB (((xTe (μ.1 50 21)) && e4) && e11))), (2, .int (nB (((xEn (μ.1 50 21)) && e2) && e9))), (8, .int (nB e11)), (0, .ref 50), (1, .int ru)]) (st' := [.int 1]) (μ' := mGP μ (μ.2.1 50 24) (μ.2.1 50 25) (μ.1 50 23)) (by rfl) ?_
                          exact zJ hJ17 rfl (by simp only [h56, lb_f, Int64.or_zero, nB_t, nB_f, Bool.not_true, Bool.not_false, Bool.and_true, Bool.true_and, Bool.false_and, Bool.and_false, Bool.or_true, Bool.true_or, Bool.false_or, Bool.or_false, cond_true, cond_false]) rfl
                        · have h56 : (xTe (μ.1 57 2)) = false := nB_z.mp (cn_ne.mp h56)
                          refine z_rcs hc hH 3 (pc' := 92) (lv' := [(7, .int (nB e16)), (6, .int (μ.1 57 2)), (5, .int 2), (4, .int (nB (((xHo (μ.1 50 21)) || (xHo (μ.1 57 0))) || (xHo (μ.1 57 1))))), (3, .int (nB (((xTe (μ.1 50 21)) && e4) && e11))), (2, .int (nB (((xEn (μ.1 50 21)) && e2) && e9))), (8, .int (nB e11)), (0, .ref 50), (1, .int ru)]) (st' := [.int 2, .ref 56]) (μ' := mGP μ (μ.2.1 50 24) (μ.2.1 50 25) (μ.1 50 23)) (by rfl) ?_
                          refine zq_iald hc hH (by rfl) 4 (by decide +kernel) (show vp_in (nI 2) 4 from vp_in_nI (by decide) (by decide)) ?_
                          show Z 0 93 [(7, .int (nB e16)), (6, .int (μ.1 57 2)), (5, .int 2), (4, .int (nB (((xHo (μ.1 50 21)) || (xHo (μ.1 57 0))) || (xHo (μ.1 57 1))))), (3, .int (nB (((xTe (μ.1 50 21)) && e4) && e11))), (2, .int (nB (((xEn (μ.1 50 21)) && e2) && e9))), (8, .int (nB e11)), (0, .ref 50), (1, .int ru)] [.int (μ.1 56 2)] (mGP μ (μ.2.1 50 24) (μ.2.1 50 25) (μ.1 50 23))
                          refine zq_if hc hH (by rfl) (tg := 110) (by rfl) (fun h57 => ?_) (fun h57 => ?_)
                          · have h57 : (decide ((μ.1 56 2) = 0)) = false := decide_eq_false (cm_ne.mp h57)
                            refine z_rcs hc hH 1 (pc' := 111) (lv' := [(7, .int (nB e16)), (6, .int (μ.1 57 2)), (5, .int 2), (4, .int (nB (((xHo (μ.1 50 21)) || (xHo (μ.1 57 0))) || (xHo (μ.1 57 1))))), (3, .int (nB (((xTe (μ.1 50 21)) && e4) && e11))), (2, .int (nB (((xEn (μ.1 50 21)) && e2) && e9))), (8, .int (nB e11)), (0, .ref 50), (1, .int ru)]) (st' := [.int 0]) (μ' := mGP μ (μ.2.1 50 24) (μ.2.1 50 25) (μ.1 50 23)) (by rfl) ?_
                            exact zJ hJ17 rfl (by simp only [h56, h57, lb_f, Int64.or_zero, nB_t, nB_f, Bool.not_true, Bool.not_false, Bool.and_true, Bool.true_and, Bool.false_and, Bool.and_false, Bool.or_true, Bool.true_or, Bool.false_or, Bool.or_false, cond_true, cond_false]) rfl
                          · have h57 : (decide ((μ.1 56 2) = 0)) = true := decide_eq_true (cn_ne.mp h57)
                            refine z_rcs hc hH 3 (pc' := 100) (lv' := [(7, .int (nB e16)), (6, .int (μ.1 57 2)), (5, .int 2), (4, .int (nB (((xHo (μ.1 50 21)) || (xHo (μ.1 57 0))) || (xHo (μ.1 57 1))))), (3, .int (nB (((xTe (μ.1 50 21)) && e4) && e11))), (2, .int (nB (((xEn (μ.1 50 21)) && e2) && e9))), (8, .int (nB e11)), (0, .ref 50), (1, .int ru)]) (st' := [.int ((μ.1 57 2) + 2)]) (μ' := mGP μ (μ.2.1 50 24) (μ.2.1 50 25) (μ.1 50 23)) (by rfl) ?_
                            refine zq_call hc (z_cx_ok hH (by rfl)) (fb_X7_isTerminal d' (by omega) (mGP μ (μ.2.1 50 24) (μ.2.1 50 25) (μ.1 50 23)) ((μ.1 57 2) + 2)) (by decide +kernel) (fun r9 μ9 hq => ?_)
                            obtain ⟨hμ9, rfl⟩ := hq
                            rw [hμ9]
                            clear hμ9 μ9
                            show Z 0 103 [(7, .int (nB e16)), (6, .int (μ.1 57 2)), (5, .int 2), (4, .int (nB (((xHo (μ.1 50 21)) || (xHo (μ.1 57 0))) || (xHo (μ.1 57 1))))), (3, .int (nB (((xTe (μ.1 50 21)) && e4) && e11))), (2, .int (nB (((xEn (μ.1 50 21)) && e2) && e9))), (8, .int (nB e11)), (0, .ref 50), (1, .int ru)] [.int (nB (xTe ((μ.1 57 2) + 2)))] (mGP μ (μ.2.1 50 24) (μ.2.1 50 25) (μ.1 50 23))
                            refine zq_if hc hH (by rfl) (tg := 110) (by rfl) (fun h58 => ?_) (fun h58 => ?_)
                            · have h58 : (xTe ((μ.1 57 2) + 2)) = false := nB_z.mp (cm_eq9.mp h58)
                              refine z_rcs hc hH 1 (pc' := 111) (lv' := [(7, .int (nB e16)), (6, .int (μ.1 57 2)), (5, .int 2), (4, .int (nB (((xHo (μ.1 50 21)) || (xHo (μ.1 57 0))) || (xHo (μ.1 57 1))))), (3, .int (nB (((xTe (μ.1 50 21)) && e4) && e11))), (2, .int (nB (((xEn (μ.1 50 21)) && e2) && e9))), (8, .int (nB e11)), (0, .ref 50), (1, .int ru)]) (st' := [.int 0]) (μ' := mGP μ (μ.2.1 50 24) (μ.2.1 50 25) (μ.1 50 23)) (by rfl) ?_
                              exact zJ hJ17 rfl (by simp only [h56, h57, h58, lb_f, Int64.or_zero, nB_t, nB_f, Bool.not_true, Bool.not_false, Bool.and_true, Bool.true_and, Bool.false_and, Bool.and_false, Bool.or_true, Bool.true_or, Bool.false_or, Bool.or_false, cond_true, cond_false]) rfl
                            · have h58 : (xTe ((μ.1 57 2) + 2)) = true := nB_n.mp (cn_eq.mp h58)
                              refine z_rcs hc hH 2 (pc' := 111) (lv' := [(7, .int (nB e16)), (6, .int (μ.1 57 2)), (5, .int 2), (4, .int (nB (((xHo (μ.1 50 21)) || (xHo (μ.1 57 0))) || (xHo (μ.1 57 1))))), (3, .int (nB (((xTe (μ.1 50 21)) && e4) && e11))), (2, .int (nB (((xEn (μ.1 50 21)) && e2) && e9))), (8, .int (nB e11)), (0, .ref 50), (1, .int ru)]) (st' := [.int 1]) (μ' := mGP μ (μ.2.1 50 24) (μ.2.1 50 25) (μ.1 50 23)) (by rfl) ?_
                              exact zJ hJ17 rfl (by simp only [h56, h57, h58, lb_f, Int64.or_zero, nB_t, nB_f, Bool.not_true, Bool.not_false, Bool.and_true, Bool.true_and, Bool.false_and, Bool.and_false, Bool.or_true, Bool.true_or, Bool.false_or, Bool.or_false, cond_true, cond_false]) rfl
                      refine zq_if hc hH (by rfl) (tg := 71) (by rfl) (fun h59 => ?_) (fun h59 => ?_)
                      · have h59 : (xEn (μ.1 57 2)) = true := nB_n.mp (cm_ne.mp h59)
                        refine z_rcs hc hH 2 (pc' := 76) (lv' := [(6, .int (μ.1 57 2)), (5, .int 2), (4, .int (nB (((xHo (μ.1 50 21)) || (xHo (μ.1 57 0))) || (xHo (μ.1 57 1))))), (3, .int (nB (((xTe (μ.1 50 21)) && e4) && e11))), (2, .int (nB (((xEn (μ.1 50 21)) && e2) && e9))), (8, .int (nB e11)), (7, .int (nB e9)), (0, .ref 50), (1, .int ru)]) (st' := [.int 1]) (μ' := mGP μ (μ.2.1 50 24) (μ.2.1 50 25) (μ.1 50 23)) (by rfl) ?_
                        exact zJ hJ15 rfl (by simp only [h59, lb_f, Int64.or_zero, nB_t, nB_f, Bool.not_true, Bool.not_false, Bool.and_true, Bool.true_and, Bool.false_and, Bool.and_false, Bool.or_true, Bool.true_or, Bool.false_or, Bool.or_false, cond_true, cond_false]) rfl
                      · have h59 : (xEn (μ.1 57 2)) = false := nB_z.mp (cn_ne.mp h59)
                        refine z_rcs hc hH 3 (pc' := 57) (lv' := [(6, .int (μ.1 57 2)), (5, .int 2), (4, .int (nB (((xHo (μ.1 50 21)) || (xHo (μ.1 57 0))) || (xHo (μ.1 57 1))))), (3, .int (nB (((xTe (μ.1 50 21)) && e4) && e11))), (2, .int (nB (((xEn (μ.1 50 21)) && e2) && e9))), (8, .int (nB e11)), (7, .int (nB e9)), (0, .ref 50), (1, .int ru)]) (st' := [.int 2, .ref 56]) (μ' := mGP μ (μ.2.1 50 24) (μ.2.1 50 25) (μ.1 50 23)) (by rfl) ?_
                        refine zq_iald hc hH (by rfl) 4 (by decide +kernel) (show vp_in (nI 2) 4 from vp_in_nI (by decide) (by decide)) ?_
                        show Z 0 58 [(6, .int (μ.1 57 2)), (5, .int 2), (4, .int (nB (((xHo (μ.1 50 21)) || (xHo (μ.1 57 0))) || (xHo (μ.1 57 1))))), (3, .int (nB (((xTe (μ.1 50 21)) && e4) && e11))), (2, .int (nB (((xEn (μ.1 50 21)) && e2) && e9))), (8, .int (nB e11)), (7, .int (nB e9)), (0, .ref 50), (1, .int ru)] [.int (μ.1 56 2)] (mGP μ (μ.2.1 50 24) (μ.2.1 50 25) (μ.1 50 23))
                        refine zq_if hc hH (by rfl) (tg := 75) (by rfl) (fun h60 => ?_) (fun h60 => ?_)
                        · have h60 : (decide ((μ.1 56 2) = 0)) = false := decide_eq_false (cm_ne.mp h60)
                          refine z_rcs hc hH 1 (pc' := 76) (lv' := [(6, .int (μ.1 57 2)), (5, .int 2), (4, .int (nB (((xHo (μ.1 50 21)) || (xHo (μ.1 57 0))) || (xHo (μ.1 57 1))))), (3, .int (nB (((xTe (μ.1 50 21)) && e4) && e11))), (2, .int (nB (((xEn (μ.1 50 21)) && e2) && e9))), (8, .int (nB e11)), (7, .int (nB e9)), (0, .ref 50), (1, .int ru)]) (st' := [.int 0]) (μ' := mGP μ (μ.2.1 50 24) (μ.2.1 50 25) (μ.1 50 23)) (by rfl) ?_
                          exact zJ hJ15 rfl (by simp only [h59, h60, lb_f, Int64.or_zero, nB_t, nB_f, Bool.not_true, Bool.not_false, Bool.and_true, Bool.true_and, Bool.false_and, Bool.and_false, Bool.or_true, Bool.true_or, Bool.false_or, Bool.or_false, cond_true, cond_false]) rfl
                        · have h60 : (decide ((μ.1 56 2) = 0)) = true := decide_eq_true (cn_ne.mp h60)
                          refine z_rcs hc hH 3 (pc' := 65) (lv' := [(6, .int (μ.1 57 2)), (5, .int 2), (4, .int (nB (((xHo (μ.1 50 21)) || (xHo (μ.1 57 0))) || (xHo (μ.1 57 1))))), (3, .int (nB (((xTe (μ.1 50 21)) && e4) && e11))), (2, .int (nB (((xEn (μ.1 50 21)) && e2) && e9))), (8, .int (nB e11)), (7, .int (nB e9)), (0, .ref 50), (1, .int ru)]) (st' := [.int ((μ.1 57 2) + 2)]) (μ' := mGP μ (μ.2.1 50 24) (μ.2.1 50 25) (μ.1 50 23)) (by rfl) ?_
                          refine zq_call hc (z_cx_ok hH (by rfl)) (fb_X7_isEnd d' (by omega) (mGP μ (μ.2.1 50 24) (μ.2.1 50 25) (μ.1 50 23)) ((μ.1 57 2) + 2)) (by decide +kernel) (fun r9 μ9 hq => ?_)
                          obtain ⟨hμ9, rfl⟩ := hq
                          rw [hμ9]
                          clear hμ9 μ9
                          show Z 0 68 [(6, .int (μ.1 57 2)), (5, .int 2), (4, .int (nB (((xHo (μ.1 50 21)) || (xHo (μ.1 57 0))) || (xHo (μ.1 57 1))))), (3, .int (nB (((xTe (μ.1 50 21)) && e4) && e11))), (2, .int (nB (((xEn (μ.1 50 21)) && e2) && e9))), (8, .int (nB e11)), (7, .int (nB e9)), (0, .ref 50), (1, .int ru)] [.int (nB (xEn ((μ.1 57 2) + 2)))] (mGP μ (μ.2.1 50 24) (μ.2.1 50 25) (μ.1 50 23))
                          refine zq_if hc hH (by rfl) (tg := 75) (by rfl) (fun h61 => ?_) (fun h61 => ?_)
                          · have h61 : (xEn ((μ.1 57 2) + 2)) = false := nB_z.mp (cm_eq9.mp h61)
                            refine z_rcs hc hH 1 (pc' := 76) (lv' := [(6, .int (μ.1 57 2)), (5, .int 2), (4, .int (nB (((xHo (μ.1 50 21)) || (xHo (μ.1 57 0))) || (xHo (μ.1 57 1))))), (3, .int (nB (((xTe (μ.1 50 21)) && e4) && e11))), (2, .int (nB (((xEn (μ.1 50 21)) && e2) && e9))), (8, .int (nB e11)), (7, .int (nB e9)), (0, .ref 50), (1, .int ru)]) (st' := [.int 0]) (μ' := mGP μ (μ.2.1 50 24) (μ.2.1 50 25) (μ.1 50 23)) (by rfl) ?_
                            exact zJ hJ15 rfl (by simp only [h59, h60, h61, lb_f, Int64.or_zero, nB_t, nB_f, Bool.not_true, Bool.not_false, Bool.and_true, Bool.true_and, Bool.false_and, Bool.and_false, Bool.or_true, Bool.true_or, Bool.false_or, Bool.or_false, cond_true, cond_false]) rfl
                          · have h61 : (xEn ((μ.1 57 2) + 2)) = true := nB_n.mp (cn_eq.mp h61)
                            refine z_rcs hc hH 2 (pc' := 76) (lv' := [(6, .int (μ.1 57 2)), (5, .int 2), (4, .int (nB (((xHo (μ.1 50 21)) || (xHo (μ.1 57 0))) || (xHo (μ.1 57 1))))), (3, .int (nB (((xTe (μ.1 50 21)) && e4) && e11))), (2, .int (nB (((xEn (μ.1 50 21)) && e2) && e9))), (8, .int (nB e11)), (7, .int (nB e9)), (0, .ref 50), (1, .int ru)]) (st' := [.int 1]) (μ' := mGP μ (μ.2.1 50 24) (μ.2.1 50 25) (μ.1 50 23)) (by rfl) ?_
                            exact zJ hJ15 rfl (by simp only [h59, h60, h61, lb_f, Int64.or_zero, nB_t, nB_f, Bool.not_true, Bool.not_false, Bool.and_true, Bool.true_and, Bool.false_and, Bool.and_false, Bool.or_true, Bool.true_or, Bool.false_or, Bool.or_false, cond_true, cond_false]) rfl
                    refine zq_if hc hH (by rfl) (tg := 156) (by rfl) (fun h62 => ?_) (fun h62 => ?_)
                    · have h62 : ((xHo (μ.1 50 21)) || (xHo (μ.1 57 0))) = true := nB_n.mp (cm_ne.mp h62)
                      refine z_rcs hc hH 2 (pc' := 161) (lv' := [(3, .int (nB (((xTe (μ.1 50 21)) && e4) && e11))), (2, .int (nB (((xEn (μ.1 50 21)) && e2) && e9))), (8, .int (nB e11)), (7, .int (nB e9)), (6, .int (μ.1 57 1)), (5, .int 1), (4, .int (nB ((xHo (μ.1 50 21)) || (xHo (μ.1 57 0))))), (0, .ref 50), (1, .int ru)]) (st' := [.int 1]) (μ' := mGP μ (μ.2.1 50 24) (μ.2.1 50 25) (μ.1 50 23)) (by rfl) ?_
                      exact zJ hJ14 rfl (by simp only [h62, lb_f, Int64.or_zero, nB_t, nB_f, Bool.not_true, Bool.not_false, Bool.and_true, Bool.true_and, Bool.false_and, Bool.and_false, Bool.or_true, Bool.true_or, Bool.false_or, Bool.or_false, cond_true, cond_false]) rfl
                    · have h62 : ((xHo (μ.1 50 21)) || (xHo (μ.1 57 0))) = false := nB_z.mp (cn_ne.mp h62)
                      refine z_rcs hc hH 1 (pc' := 150) (lv' := [(3, .int (nB (((xTe (μ.1 50 21)) && e4) && e11))), (2, .int (nB (((xEn (μ.1 50 21)) && e2) && e9))), (8, .int (nB e11)), (7, .int (nB e9)), (6, .int (μ.1 57 1)), (5, .int 1), (4, .int (nB ((xHo (μ.1 50 21)) || (xHo (μ.1 57 0))))), (0, .ref 50), (1, .int ru)]) (st' := [.int (μ.1 57 1)]) (μ' := mGP μ (μ.2.1 50 24) (μ.2.1 50 25) (μ.1 50 23)) (by rfl) ?_
                      refine zq_call hc (z_cx_ok hH (by rfl)) (fb_X7_isHonour d' (by omega) (mGP μ (μ.2.1 50 24) (μ.2.1 50 25) (μ.1 50 23)) (μ.1 57 1)) (by decide +kernel) (fun r9 μ9 hq => ?_)
                      obtain ⟨hμ9, rfl⟩ := hq
                      rw [hμ9]
                      clear hμ9 μ9
                      show Z 0 153 [(3, .int (nB (((xTe (μ.1 50 21)) && e4) && e11))), (2, .int (nB (((xEn (μ.1 50 21)) && e2) && e9))), (8, .int (nB e11)), (7, .int (nB e9)), (6, .int (μ.1 57 1)), (5, .int 1), (4, .int (nB ((xHo (μ.1 50 21)) || (xHo (μ.1 57 0))))), (0, .ref 50), (1, .int ru)] [.int (nB (xHo (μ.1 57 1)))] (mGP μ (μ.2.1 50 24) (μ.2.1 50 25) (μ.1 50 23))
                      refine zq_if hc hH (by rfl) (tg := 160) (by rfl) (fun h63 => ?_) (fun h63 => ?_)
                      · have h63 : (xHo (μ.1 57 1)) = false := nB_z.mp (cm_eq9.mp h63)
                        refine z_rcs hc hH 1 (pc' := 161) (lv' := [(3, .int (nB (((xTe (μ.1 50 21)) && e4) && e11))), (2, .int (nB (((xEn (μ.1 50 21)) && e2) && e9))), (8, .int (nB e11)), (7, .int (nB e9)), (6, .int (μ.1 57 1)), (5, .int 1), (4, .int (nB ((xHo (μ.1 50 21)) || (xHo (μ.1 57 0))))), (0, .ref 50), (1, .int ru)]) (st' := [.int 0]) (μ' := mGP μ (μ.2.1 50 24) (μ.2.1 50 25) (μ.1 50 23)) (by rfl) ?_
                        exact zJ hJ14 rfl (by simp only [h62, h63, lb_f, Int64.or_zero, nB_t, nB_f, Bool.not_true, Bool.not_false, Bool.and_true, Bool.true_and, Bool.false_and, Bool.and_false, Bool.or_true, Bool.true_or, Bool.false_or, Bool.or_false, cond_true, cond_false]) rfl
                      · have h63 : (xHo (μ.1 57 1)) = true := nB_n.mp (cn_eq.mp h63)
                        refine z_rcs hc hH 2 (pc' := 161) (lv' := [(3, .int (nB (((xTe (μ.1 50 21)) && e4) && e11))), (2, .int (nB (((xEn (μ.1 50 21)) && e2) && e9))), (8, .int (nB e11)), (7, .int (nB e9)), (6, .int (μ.1 57 1)), (5, .int 1), (4, .int (nB ((xHo (μ.1 50 21)) || (xHo (μ.1 57 0))))), (0, .ref 50), (1, .int ru)]) (st' := [.int 1]) (μ' := mGP μ (μ.2.1 50 24) (μ.2.1 50 25) (μ.1 50 23)) (by rfl) ?_
                        exact zJ hJ14 rfl (by simp only [h62, h63, lb_f, Int64.or_zero, nB_t, nB_f, Bool.not_true, Bool.not_false, Bool.and_true, Bool.true_and, Bool.false_and, Bool.and_false, Bool.or_true, Bool.true_or, Bool.false_or, Bool.or_false, cond_true, cond_false]) rfl
                  refine zq_if hc hH (by rfl) (tg := 141) (by rfl) (fun h64 => ?_) (fun h64 => ?_)
                  · have h64 : ((xTe (μ.1 50 21)) && e4) = false := nB_z.mp (cm_eq9.mp h64)
                    refine z_rcs hc hH 1 (pc' := 142) (lv' := [(2, .int (nB (((xEn (μ.1 50 21)) && e2) && e9))), (8, .int (nB e11)), (7, .int (nB e9)), (6, .int (μ.1 57 1)), (5, .int 1), (4, .int (nB ((xHo (μ.1 50 21)) || (xHo (μ.1 57 0))))), (3, .int (nB ((xTe (μ.1 50 21)) && e4))), (0, .ref 50), (1, .int ru)]) (st' := [.int 0]) (μ' := mGP μ (μ.2.1 50 24) (μ.2.1 50 25) (μ.1 50 23)) (by rfl) ?_
                    exact zJ hJ13 rfl (by simp only [h64, lb_f, Int64.or_zero, nB_t, nB_f, Bool.not_true, Bool.not_false, Bool.and_true, Bool.true_and, Bool.false_and, Bool.and_false, Bool.or_true, Bool.true_or, Bool.false_or, Bool.or_false, cond_true, cond_false]) rfl
                  · have h64 : ((xTe (μ.1 50 21)) && e4) = true := nB_n.mp (cn_eq.mp h64)
                    refine z_rcs hc hH 1 (pc' := 134) (lv' := [(2, .int (nB (((xEn (μ.1 50 21)) && e2) && e9))), (8, .int (nB e11)), (7, .int (nB e9)), (6, .int (μ.1 57 1)), (5, .int 1), (4, .int (nB ((xHo (μ.1 50 21)) || (xHo (μ.1 57 0))))), (3, .int (nB ((xTe (μ.1 50 21)) && e4))), (0, .ref 50), (1, .int ru)]) (st' := [.int (nB e11)]) (μ' := mGP μ (μ.2.1 50 24) (μ.2.1 50 25) (μ.1 50 23)) (by rfl) ?_
                    refine zq_if hc hH (by rfl) (tg := 141) (by rfl) (fun h65 => ?_) (fun h65 => ?_)
                    · have h65 : (e11) = false := nB_z.mp (cm_eq9.mp h65)
                      refine z_rcs hc hH 1 (pc' := 142) (lv' := [(2, .int (nB (((xEn (μ.1 50 21)) && e2) && e9))), (8, .int (nB e11)), (7, .int (nB e9)), (6, .int (μ.1 57 1)), (5, .int 1), (4, .int (nB ((xHo (μ.1 50 21)) || (xHo (μ.1 57 0))))), (3, .int (nB ((xTe (μ.1 50 21)) && e4))), (0, .ref 50), (1, .int ru)]) (st' := [.int 0]) (μ' := mGP μ (μ.2.1 50 24) (μ.2.1 50 25) (μ.1 50 23)) (by rfl) ?_
                      exact zJ hJ13 rfl (by simp only [h64, h65, lb_f, Int64.or_zero, nB_t, nB_f, Bool.not_true, Bool.not_false, Bool.and_true, Bool.true_and, Bool.false_and, Bool.and_false, Bool.or_true, Bool.true_or, Bool.false_or, Bool.or_false, cond_true, cond_false]) rfl
                    · have h65 : (e11) = true := nB_n.mp (cn_eq.mp h65)
                      refine z_rcs hc hH 2 (pc' := 142) (lv' := [(2, .int (nB (((xEn (μ.1 50 21)) && e2) && e9))), (8, .int (nB e11)), (7, .int (nB e9)), (6, .int (μ.1 57 1)), (5, .int 1), (4, .int (nB ((xHo (μ.1 50 21)) || (xHo (μ.1 57 0))))), (3, .int (nB ((xTe (μ.1 50 21)) && e4))), (0, .ref 50), (1, .int ru)]) (st' := [.int 1]) (μ' := mGP μ (μ.2.1 50 24) (μ.2.1 50 25) (μ.1 50 23)) (by rfl) ?_
                      exact zJ hJ13 rfl (by simp only [h64, h65, lb_f, Int64.or_zero, nB_t, nB_f, Bool.not_true, Bool.not_false, Bool.and_true, Bool.true_and, Bool.false_and, Bool.and_false, Bool.or_true, Bool.true_or, Bool.false_or, Bool.or_false, cond_true, cond_false]) rfl
                refine zq_if hc hH (by rfl) (tg := 126) (by rfl) (fun h66 => ?_) (fun h66 => ?_)
                · have h66 : ((xEn (μ.1 50 21)) && e2) = false := nB_z.mp (cm_eq9.mp h66)
                  refine z_rcs hc hH 1 (pc' := 127) (lv' := [(8, .int (nB e11)), (7, .int (nB e9)), (6, .int (μ.1 57 1)), (5, .int 1), (4, .int (nB ((xHo (μ.1 50 21)) || (xHo (μ.1 57 0))))), (3, .int (nB ((xTe (μ.1 50 21)) && e4))), (2, .int (nB ((xEn (μ.1 50 21)) && e2))), (0, .ref 50), (1, .int ru)]) (st' := [.int 0]) (μ' := mGP μ (μ.2.1 50 24) (μ.2.1 50 25) (μ.1 50 23)) (by rfl) ?_
                  exact zJ hJ12 rfl (by simp only [h66, lb_f, Int64.or_zero, nB_t, nB_f, Bool.not_true, Bool.not_false, Bool.and_true, Bool.true_and, Bool.false_and, Bool.and_false, Bool.or_true, Bool.true_or, Bool.false_or, Bool.or_false, cond_true, cond_false]) rfl
                · have h66 : ((xEn (μ.1 50 21)) && e2) = true := nB_n.mp (cn_eq.mp h66)
                  refine z_rcs hc hH 1 (pc' := 119) (lv' := [(8, .int (nB e11)), (7, .int (nB e9)), (6, .int (μ.1 57 1)), (5, .int 1), (4, .int (nB ((xHo (μ.1 50 21)) || (xHo (μ.1 57 0))))), (3, .int (nB ((xTe (μ.1 50 21)) && e4))), (2, .int (nB ((xEn (μ.1 50 21)) && e2))), (0, .ref 50), (1, .int ru)]) (st' := [.int (nB e9)]) (μ' := mGP μ (μ.2.1 50 24) (μ.2.1 50 25) (μ.1 50 23)) (by rfl) ?_
                  refine zq_if hc hH (by rfl) (tg := 126) (by rfl) (fun h67 => ?_) (fun h67 => ?_)
                  · have h67 : (e9) = false := nB_z.mp (cm_eq9.mp h67)
                    refine z_rcs hc hH 1 (pc' := 127) (lv' := [(8, .int (nB e11)), (7, .int (nB e9)), (6, .int (μ.1 57 1)), (5, .int 1), (4, .int (nB ((xHo (μ.1 50 21)) || (xHo (μ.1 57 0))))), (3, .int (nB ((xTe (μ.1 50 21)) && e4))), (2, .int (nB ((xEn (μ.1 50 21)) && e2))), (0, .ref 50), (1, .int ru)]) (st' := [.int 0]) (μ' := mGP μ (μ.2.1 50 24) (μ.2.1 50 25) (μ.1 50 23)) (by rfl) ?_
                    exact zJ hJ12 rfl (by simp only [h66, h67, lb_f, Int64.or_zero, nB_t, nB_f, Bool.not_true, Bool.not_false, Bool.and_true, Bool.true_and, Bool.false_and, Bool.and_false, Bool.or_true, Bool.true_or, Bool.false_or, Bool.or_false, cond_true, cond_false]) rfl
                  · have h67 : (e9) = true := nB_n.mp (cn_eq.mp h67)
                    refine z_rcs hc hH 2 (pc' := 127) (lv' := [(8, .int (nB e11)), (7, .int (nB e9)), (6, .int (μ.1 57 1)), (5, .int 1), (4, .int (nB ((xHo (μ.1 50 21)) || (xHo (μ.1 57 0))))), (3, .int (nB ((xTe (μ.1 50 21)) && e4))), (2, .int (nB ((xEn (μ.1 50 21)) && e2))), (0, .ref 50), (1, .int ru)]) (st' := [.int 1]) (μ' := mGP μ (μ.2.1 50 24) (μ.2.1 50 25) (μ.1 50 23)) (by rfl) ?_
                    exact zJ hJ12 rfl (by simp only [h66, h67, lb_f, Int64.or_zero, nB_t, nB_f, Bool.not_true, Bool.not_false, Bool.and_true, Bool.true_and, Bool.false_and, Bool.and_false, Bool.or_true, Bool.true_or, Bool.false_or, Bool.or_false, cond_true, cond_false]) rfl
              refine zq_if hc hH (by rfl) (tg := 106) (by rfl) (fun h68 => ?_) (fun h68 => ?_)
              · have h68 : (xTe (μ.1 57 1)) = true := nB_n.mp (cm_ne.mp h68)
                refine z_rcs hc hH 2 (pc' := 111) (lv' := [(7, .int (nB e9)), (6, .int (μ.1 57 1)), (5, .int 1), (4, .int (nB ((xHo (μ.1 50 21)) || (xHo (μ.1 57 0))))), (3, .int (nB ((xTe (μ.1 50 21)) && e4))), (2, .int (nB ((xEn (μ.1 50 21)) && e2))), (8, .int (nB e4)), (0, .ref 50), (1, .int ru)]) (st' := [.int 1]) (μ' := mGP μ (μ.2.1 50 24) (μ.2.1 50 25) (μ.1 50 23)) (by rfl) ?_
                exact zJ hJ10 rfl (by simp only [h68, lb_f, Int64.or_zero, nB_t, nB_f, Bool.not_true, Bool.not_false, Bool.and_true, Bool.true_and, Bool.false_and, Bool.and_false, Bool.or_true, Bool.true_or, Bool.false_or, Bool.or_false, cond_true, cond_false]) rfl
              · have h68 : (xTe (μ.1 57 1)) = false := nB_z.mp (cn_ne.mp h68)
                refine z_rcs hc hH 3 (pc' := 92) (lv' := [(7, .int (nB e9)), (6, .int (μ.1 57 1)), (5, .int 1), (4, .int (nB ((xHo (μ.1 50 21)) || (xHo (μ.1 57 0))))), (3, .int (nB ((xTe (μ.1 50 21)) && e4))), (2, .int (nB ((xEn (μ.1 50 21)) && e2))), (8, .int (nB e4)), (0, .ref 50), (1, .int ru)]) (st' := [.int 1, .ref 56]) (μ' := mGP μ (μ.2.1 50 24) (μ.2.1 50 25) (μ.1 50 23)) (by rfl) ?_
                refine zq_iald hc hH (by rfl) 4 (by decide +kernel) (show vp_in (nI 1) 4 from vp_in_nI (by decide) (by decide)) ?_
                show Z 0 93 [(7, .int (nB e9)), (6, .int (μ.1 57 1)), (5, .int 1), (4, .int (nB ((xHo (μ.1 50 21)) || (xHo (μ.1 57 0))))), (3, .int (nB ((xTe (μ.1 50 21)) && e4))), (2, .int (nB ((xEn (μ.1 50 21)) && e2))), (8, .int (nB e4)), (0, .ref 50), (1, .int ru)] [.int (μ.1 56 1)] (mGP μ (μ.2.1 50 24) (μ.2.1 50 25) (μ.1 50 23))
                refine zq_if hc hH (by rfl) (tg := 110) (by rfl) (fun h69 => ?_) (fun h69 => ?_)
                · have h69 : (decide ((μ.1 56 1) = 0)) = false := decide_eq_false (cm_ne.mp h69)
                  refine z_rcs hc hH 1 (pc' := 111) (lv' := [(7, .int (nB e9)), (6, .int (μ.1 57 1)), (5, .int 1), (4, .int (nB ((xHo (μ.1 50 21)) || (xHo (μ.1 57 0))))), (3, .int (nB ((xTe (μ.1 50 21)) && e4))), (2, .int (nB ((xEn (μ.1 50 21)) && e2))), (8, .int (nB e4)), (0, .ref 50), (1, .int ru)]) (st' := [.int 0]) (μ' := mGP μ (μ.2.1 50 24) (μ.2.1 50 25) (μ.1 50 23)) (by rfl) ?_
                  exact zJ hJ10 rfl (by simp only [h68, h69, lb_f, Int64.or_zero, nB_t, nB_f, Bool.not_true, Bool.not_false, Bool.and_true, Bool.true_and, Bool.false_and, Bool.and_false, Bool.or_true, Bool.true_or, Bool.false_or, Bool.or_false, cond_true, cond_false]) rfl
                · have h69 : (decide ((μ.1 56 1) = 0)) = true := decide_eq_true (cn_ne.mp h69)
                  refine z_rcs hc hH 3 (pc' := 100) (lv' := [(7, .int (nB e9)), (6, .int (μ.1 57 1)), (5, .int 1), (4, .int (nB ((xHo (μ.1 50 21)) || (xHo (μ.1 57 0))))), (3, .int (nB ((xTe (μ.1 50 21)) && e4))), (2, .int (nB ((xEn (μ.1 50 21)) && e2))), (8, .int (nB e4)), (0, .ref 50), (1, .int ru)]) (st' := [.int ((μ.1 57 1) + 2)]) (μ' := mGP μ (μ.2.1 50 24) (μ.2.1 50 25) (μ.1 50 23)) (by rfl) ?_
                  refine zq_call hc (z_cx_ok hH (by rfl)) (fb_X7_isTerminal d' (by omega) (mGP μ (μ.2.1 50 24) (μ.2.1 50 25) (μ.1 50 23)) ((μ.1 57 1) + 2)) (by decide +kernel) (fun r9 μ9 hq => ?_)
                  obtain ⟨hμ9, rfl⟩ := hq
                  rw [hμ9]
                  clear hμ9 μ9
                  show Z 0 103 [(7, .int (nB e9)), (6, .int (μ.1 57 1)), (5, .int 1), (4, .int (nB ((xHo (μ.1 50 21)) || (xHo (μ.1 57 0))))), (3, .int (nB ((xTe (μ.1 50 21)) && e4))), (2, .int (nB ((xEn (μ.1 50 21)) && e2))), (8, .int (nB e4)), (0, .ref 50), (1, .int ru)] [.int (nB (xTe ((μ.1 57 1) + 2)))] (mGP μ (μ.2.1 50 24) (μ.2.1 50 25) (μ.1 50 23))
                  refine zq_if hc hH (by rfl) (tg := 110) (by rfl) (fun h70 => ?_) (fun h70 => ?_)
                  · have h70 : (xTe ((μ.1 57 1) + 2)) = false := nB_z.mp (cm_eq9.mp h70)
                    refine z_rcs hc hH 1 (pc' := 111) (lv' := [(7, .int (nB e9)), (6, .int (μ.1 57 1)), (5, .int 1), (4, .int (nB ((xHo (μ.1 50 21)) || (xHo (μ.1 57 0))))), (3, .int (nB ((xTe (μ.1 50 21)) && e4))), (2, .int (nB ((xEn (μ.1 50 21)) && e2))), (8, .int (nB e4)), (0, .ref 50), (1, .int ru)]) (st' := [.int 0]) (μ' := mGP μ (μ.2.1 50 24) (μ.2.1 50 25) (μ.1 50 23)) (by rfl) ?_
                    exact zJ hJ10 rfl (by simp only [h68, h69, h70, lb_f, Int64.or_zero, nB_t, nB_f, Bool.not_true, Bool.not_false, Bool.and_true, Bool.true_and, Bool.false_and, Bool.and_false, Bool.or_true, Bool.true_or, Bool.false_or, Bool.or_false, cond_true, cond_false]) rfl
                  · have h70 : (xTe ((μ.1 57 1) + 2)) = true := nB_n.mp (cn_eq.mp h70)
                    refine z_rcs hc hH 2 (pc' := 111) (lv' := [(7, .int (nB e9)), (6, .int (μ.1 57 1)), (5, .int 1), (4, .int (nB ((xHo (μ.1 50 21)) || (xHo (μ.1 57 0))))), (3, .int (nB ((xTe (μ.1 50 21)) && e4))), (2, .int (nB ((xEn (μ.1 50 21)) && e2))), (8, .int (nB e4)), (0, .ref 50), (1, .int ru)]) (st' := [.int 1]) (μ' := mGP μ (μ.2.1 50 24) (μ.2.1 50 25) (μ.1 50 23)) (by rfl) ?_
                    exact zJ hJ10 rfl (by simp only [h68, h69, h70, lb_f, Int64.or_zero, nB_t, nB_f, Bool.not_true, Bool.not_false, Bool.and_true, Bool.true_and, Bool.false_and, Bool.and_false, Bool.or_true, Bool.true_or, Bool.false_or, Bool.or_false, cond_true, cond_false]) rfl
            refine zq_if hc hH (by rfl) (tg := 71) (by rfl) (fun h71 => ?_) (fun h71 => ?_)
            · have h71 : (xEn (μ.1 57 1)) = true := nB_n.mp (cm_ne.mp h71)
              refine z_rcs hc hH 2 (pc' := 76) (lv' := [(6, .int (μ.1 57 1)), (5, .int 1), (4, .int (nB ((xHo (μ.1 50 21)) || (xHo (μ.1 57 0))))), (3, .int (nB ((xTe (μ.1 50 21)) && e4))), (2, .int (nB ((xEn (μ.1 50 21)) && e2))), (8, .int (nB e4)), (7, .int (nB e2)), (0, .ref 50), (1, .int ru)]) (st' := [.int 1]) (μ' := mGP μ (μ.2.1 50 24) (μ.2.1 50 25) (μ.1 50 23)) (by rfl) ?_
              exact zJ hJ8 rfl (by simp only [h71, lb_f, Int64.or_zero, nB_t, nB_f, Bool.not_true, Bool.not_false, Bool.and_true, Bool.true_and, Bool.false_and, Bool.and_false, Bool.or_true, Bool.true_or, Bool.false_or, Bool.or_false, cond_true, cond_false]) rfl
            · have h71 : (xEn (μ.1 57 1)) = false := nB_z.mp (cn_ne.mp h71)
              refine z_rcs hc hH 3 (pc' := 57) (lv' := [(6, .int (μ.1 57 1)), (5, .int 1), (4, .int (nB ((xHo (μ.1 50 21)) || (xHo (μ.1 57 0))))), (3, .int (nB ((xTe (μ.1 50 21)) && e4))), (2, .int (nB ((xEn (μ.1 50 21)) && e2))), (8, .int (nB e4)), (7, .int (nB e2)), (0, .ref 50), (1, .int ru)]) (st' := [.int 1, .ref 56]) (μ' := mGP μ (μ.2.1 50 24) (μ.2.1 50 25) (μ.1 50 23)) (by rfl) ?_
              refine zq_iald hc hH (by rfl) 4 (by decide +kernel) (show vp_in (nI 1) 4 from vp_in_nI (by decide) (by decide)) ?_
              show Z 0 58 [(6, .int (μ.1 57 1)), (5, .int 1), (4, .int (nB ((xHo (μ.1 50 21)) || (xHo (μ.1 57 0))))), (3, .int (nB ((xTe (μ.1 50 21)) && e4))), (2, .int (nB ((xEn (μ.1 50 21)) && e2))), (8, .int (nB e4)), (7, .int (nB e2)), (0, .ref 50), (1, .int ru)] [.int (μ.1 56 1)] (mGP μ (μ.2.1 50 24) (μ.2.1 50 25) (μ.1 50 23))
              refine zq_if hc hH (by rfl) (tg := 75) (by rfl) (fun h72 => ?_) (fun h72 => ?_)
              · have h72 : (decide ((μ.1 56 1) = 0)) = false := decide_eq_false (cm_ne.mp h72)
                refine z_rcs hc hH 1 (pc' := 76) (lv' := [(6, .int (μ.1 57 1)), (5, .int 1), (4, .int (nB ((xHo (μ.1 50 21)) || (xHo (μ.1 57 0))))), (3, .int (nB ((xTe (μ.1 50 21)) && e4))), (2, .int (nB ((xEn (μ.1 50 21)) && e2))), (8, .int (nB e4)), (7, .int (nB e2)), (0, .ref 50), (1, .int ru)]) (st' := [.int 0]) (μ' := mGP μ (μ.2.1 50 24) (μ.2.1 50 25) (μ.1 50 23)) (by rfl) ?_
                exact zJ hJ8 rfl (by simp only [h71, h72, lb_f, Int64.or_zero, nB_t, nB_f, Bool.not_true, Bool.not_false, Bool.and_true, Bool.true_and, Bool.false_and, Bool.and_false, Bool.or_true, Bool.true_or, Bool.false_or, Bool.or_false, cond_true, cond_false]) rfl
              · have h72 : (decide ((μ.1 56 1) = 0)) = true := decide_eq_true (cn_ne.mp h72)
                refine z_rcs hc hH 3 (pc' := 65) (lv' := [(6, .int (μ.1 57 1)), (5, .int 1), (4, .int (nB ((xHo (μ.1 50 21)) || (xHo (μ.1 57 0))))), (3, .int (nB ((xTe (μ.1 50 21)) && e4))), (2, .int (nB ((xEn (μ.1 50 21)) && e2))), (8, .int (nB e4)), (7, .int (nB e2)), (0, .ref 50), (1, .int ru)]) (st' := [.int ((μ.1 57 1) + 2)]) (μ' := mGP μ (μ.2.1 50 24) (μ.2.1 50 25) (μ.1 50 23)) (by rfl) ?_
                refine zq_call hc (z_cx_ok hH (by rfl)) (fb_X7_isEnd d' (by omega) (mGP μ (μ.2.1 50 24) (μ.2.1 50 25) (μ.1 50 23)) ((μ.1 57 1) + 2)) (by decide +kernel) (fun r9 μ9 hq => ?_)
                obtain ⟨hμ9, rfl⟩ := hq
                rw [hμ9]
                clear hμ9 μ9
                show Z 0 68 [(6, .int (μ.1 57 1)), (5, .int 1), (4, .int (nB ((xHo (μ.1 50 21)) || (xHo (μ.1 57 0))))), (3, .int (nB ((xTe (μ.1 50 21)) && e4))), (2, .int (nB ((xEn (μ.1 50 21)) && e2))), (8, .int (nB e4)), (7, .int (nB e2)), (0, .ref 50), (1, .int ru)] [.int (nB (xEn ((μ.1 57 1) + 2)))] (mGP μ (μ.2.1 50 24) (μ.2.1 50 25) (μ.1 50 23))
                refine zq_if hc hH (by rfl) (tg := 75) (by rfl) (fun h73 => ?_) (fun h73 => ?_)
                · have h73 : (xEn ((μ.1 57 1) + 2)) = false := nB_z.mp (cm_eq9.mp h73)
                  refine z_rcs hc hH 1 (pc' := 76) (lv' := [(6, .int (μ.1 57 1)), (5, .int 1), (4, .int (nB ((xHo (μ.1 50 21)) || (xHo (μ.1 57 0))))), (3, .int (nB ((xTe (μ.1 50 21)) && e4))), (2, .int (nB ((xEn (μ.1 50 21)) && e2))), (8, .int (nB e4)), (7, .int (nB e2)), (0, .ref 50), (1, .int ru)]) (st' := [.int 0]) (μ' := mGP μ (μ.2.1 50 24) (μ.2.1 50 25) (μ.1 50 23)) (by rfl) ?_
                  exact zJ hJ8 rfl (by simp only [h71, h72, h73, lb_f, Int64.or_zero, nB_t, nB_f, Bool.not_true, Bool.not_false, Bool.and_true, Bool.true_and, Bool.false_and, Bool.and_false, Bool.or_true, Bool.true_or, Bool.false_or, Bool.or_false, cond_true, cond_false]) rfl
                · have h73 : (xEn ((μ.1 57 1) + 2)) = true := nB_n.mp (cn_eq.mp h73)
                  refine z_rcs hc hH 2 (pc' := 76) (lv' := [(6, .int (μ.1 57 1)), (5, .int 1), (4, .int (nB ((xHo (μ.1 50 21)) || (xHo (μ.1 57 0))))), (3, .int (nB ((xTe (μ.1 50 21)) && e4))), (2, .int (nB ((xEn (μ.1 50 21)) && e2))), (8, .int (nB e4)), (7, .int (nB e2)), (0, .ref 50), (1, .int ru)]) (st' := [.int 1]) (μ' := mGP μ (μ.2.1 50 24) (μ.2.1 50 25) (μ.1 50 23)) (by rfl) ?_
                  exact zJ hJ8 rfl (by simp only [h71, h72, h73, lb_f, Int64.or_zero, nB_t, nB_f, Bool.not_true, Bool.not_false, Bool.and_true, Bool.true_and, Bool.false_and, Bool.and_false, Bool.or_true, Bool.true_or, Bool.false_or, Bool.or_false, cond_true, cond_false]) rfl
          refine zq_if hc hH (by rfl) (tg := 156) (by rfl) (fun h74 => ?_) (fun h74 => ?_)
          · have h74 : (xHo (μ.1 50 21)) = true := nB_n.mp (cm_ne.mp h74)
            refine z_rcs hc hH 2 (pc' := 161) (lv' := [(3, .int (nB ((xTe (μ.1 50 21)) && e4))), (2, .int (nB ((xEn (μ.1 50 21)) && e2))), (8, .int (nB e4)), (7, .int (nB e2)), (6, .int (μ.1 57 0)), (5, .int 0), (4, .int (nB (xHo (μ.1 50 21)))), (0, .ref 50), (1, .int ru)]) (st' := [.int 1]) (μ' := mGP μ (μ.2.1 50 24) (μ.2.1 50 25) (μ.1 50 23)) (by rfl) ?_
            exact zJ hJ7 rfl (by simp only [h74, lb_f, Int64.or_zero, nB_t, nB_f, Bool.not_true, Bool.not_false, Bool.and_true, Bool.true_and, Bool.false_and, Bool.and_false, Bool.or_true, Bool.true_or, Bool.false_or, Bool.or_false, cond_true, cond_false]) rfl
          · have h74 : (xHo (μ.1 50 21)) = false := nB_z.mp (cn_ne.mp h74)
            refine z_rcs hc hH 1 (pc' := 150) (lv' := [(3, .int (nB ((xTe (μ.1 50 21)) && e4))), (2, .int (nB ((xEn (μ.1 50 21)) && e2))), (8, .int (nB e4)), (7, .int (nB e2)), (6, .int (μ.1 57 0)), (5, .int 0), (4, .int (nB (xHo (μ.1 50 21)))), (0, .ref 50), (1, .int ru)]) (st' := [.int (μ.1 57 0)]) (μ' := mGP μ (μ.2.1 50 24) (μ.2.1 50 25) (μ.1 50 23)) (by rfl) ?_
            refine zq_call hc (z_cx_ok hH (by rfl)) (fb_X7_isHonour d' (by omega) (mGP μ (μ.2.1 50 24) (μ.2.1 50 25) (μ.1 50 23)) (μ.1 57 0)) (by decide +kernel) (fun r9 μ9 hq => ?_)
            obtain ⟨hμ9, rfl⟩ := hq
            rw [hμ9]
            clear hμ9 μ9
            show Z 0 153 [(3, .int (nB ((xTe (μ.1 50 21)) && e4))), (2, .int (nB ((xEn (μ.1 50 21)) && e2))), (8, .int (nB e4)), (7, .int (nB e2)), (6, .int (μ.1 57 0)), (5, .int 0), (4, .int (nB (xHo (μ.1 50 21)))), (0, .ref 50), (1, .int ru)] [.int (nB (xHo (μ.1 57 0)))] (mGP μ (μ.2.1 50 24) (μ.2.1 50 25) (μ.1 50 23))
            refine zq_if hc hH (by rfl) (tg := 160) (by rfl) (fun h75 => ?_) (fun h75 => ?_)
            · have h75 : (xHo (μ.1 57 0)) = false := nB_z.mp (cm_eq9.mp h75)
              refine z_rcs hc hH 1 (pc' := 161) (lv' := [(3, .int (nB ((xTe (μ.1 50 21)) && e4))), (2, .int (nB ((xEn (μ.1 50 21)) && e2))), (8, .int (nB e4)), (7, .int (nB e2)), (6, .int (μ.1 57 0)), (5, .int 0), (4, .int (nB (xHo (μ.1 50 21)))), (0, .ref 50), (1, .int ru)]) (st' := [.int 0]) (μ' := mGP μ (μ.2.1 50 24) (μ.2.1 50 25) (μ.1 50 23)) (by rfl) ?_
              exact zJ hJ7 rfl (by simp only [h74, h75, lb_f, Int64.or_zero, nB_t, nB_f, Bool.not_true, Bool.not_false, Bool.and_true, Bool.true_and, Bool.false_and, Bool.and_false, Bool.or_true, Bool.true_or, Bool.false_or, Bool.or_false, cond_true, cond_false]) rfl
            · have h75 : (xHo (μ.1 57 0)) = true := nB_n.mp (cn_eq.mp h75)
              refine z_rcs hc hH 2 (pc' := 161) (lv' := [(3, .int (nB ((xTe (μ.1 50 21)) && e4))), (2, .int (nB ((xEn (μ.1 50 21)) && e2))), (8, .int (nB e4)), (7, .int (nB e2)), (6, .int (μ.1 57 0)), (5, .int 0), (4, .int (nB (xHo (μ.1 50 21)))), (0, .ref 50), (1, .int ru)]) (st' := [.int 1]) (μ' := mGP μ (μ.2.1 50 24) (μ.2.1 50 25) (μ.1 50 23)) (by rfl) ?_
              exact zJ hJ7 rfl (by simp only [h74, h75, lb_f, Int64.or_zero, nB_t, nB_f, Bool.not_true, Bool.not_false, Bool.and_true, Bool.true_and, Bool.false_and, Bool.and_false, Bool.or_true, Bool.true_or, Bool.false_or, Bool.or_false, cond_true, cond_false]) rfl
        refine zq_if hc hH (by rfl) (tg := 141) (by rfl) (fun h76 => ?_) (fun h76 => ?_)
        · have h76 : (xTe (μ.1 50 21)) = false := nB_z.mp (cm_eq9.mp h76)
          refine z_rcs hc hH 1 (pc' := 142) (lv' := [(2, .int (nB ((xEn (μ.1 50 21)) && e2))), (8, .int (nB e4)), (7, .int (nB e2)), (6, .int (μ.1 57 0)), (5, .int 0), (4, .int (nB (xHo (μ.1 50 21)))), (3, .int (nB (xTe (μ.1 50 21)))), (0, .ref 50), (1, .int ru)]) (st' := [.int 0]) (μ' := mGP μ (μ.2.1 50 24) (μ.2.1 50 25) (μ.1 50 23)) (by rfl) ?_
          exact zJ hJ6 rfl (by simp only [h76, lb_f, Int64.or_zero, nB_t, nB_f, Bool.not_true, Bool.not_false, Bool.and_true, Bool.true_and, Bool.false_and, Bool.and_false, Bool.or_true, Bool.true_or, Bool.false_or, Bool.or_false, cond_true, cond_false]) rfl
        · have h76 : (xTe (μ.1 50 21)) = true := nB_n.mp (cn_eq.mp h76)
          refine z_rcs hc hH 1 (pc' := 134) (lv' := [(2, .int (nB ((xEn (μ.1 50 21)) && e2))), (8, .int (nB e4)), (7, .int (nB e2)), (6, .int (μ.1 57 0)), (5, .int 0), (4, .int (nB (xHo (μ.1 50 21)))), (3, .int (nB (xTe (μ.1 50 21)))), (0, .ref 50), (1, .int ru)]) (st' := [.int (nB e4)]) (μ' := mGP μ (μ.2.1 50 24) (μ.2.1 50 25) (μ.1 50 23)) (by rfl) ?_
          refine zq_if hc hH (by rfl) (tg := 141) (by rfl) (fun h77 => ?_) (fun h77 => ?_)
          · have h77 : (e4) = false := nB_z.mp (cm_eq9.mp h77)
            refine z_rcs hc hH 1 (pc' := 142) (lv' := [(2, .int (nB ((xEn (μ.1 50 21)) && e2))), (8, .int (nB e4)), (7, .int (nB e2)), (6, .int (μ.1 57 0)), (5, .int 0), (4, .int (nB (xHo (μ.1 50 21)))), (3, .int (nB (xTe (μ.1 50 21)))), (0, .ref 50), (1, .int ru)]) (st' := [.int 0]) (μ' := mGP μ (μ.2.1 50 24) (μ.2.1 50 25) (μ.1 50 23)) (by rfl) ?_
            exact zJ hJ6 rfl (by simp only [h76, h77, lb_f, Int64.or_zero, nB_t, nB_f, Bool.not_true, Bool.not_false, Bool.and_true, Bool.true_and, Bool.false_and, Bool.and_false, Bool.or_true, Bool.true_or, Bool.false_or, Bool.or_false, cond_true, cond_false]) rfl
          · have h77 : (e4) = true := nB_n.mp (cn_eq.mp h77)
            refine z_rcs hc hH 2 (pc' := 142) (lv' := [(2, .int (nB ((xEn (μ.1 50 21)) && e2))), (8, .int (nB e4)), (7, .int (nB e2)), (6, .int (μ.1 57 0)), (5, .int 0), (4, .int (nB (xHo (μ.1 50 21)))), (3, .int (nB (xTe (μ.1 50 21)))), (0, .ref 50), (1, .int ru)]) (st' := [.int 1]) (μ' := mGP μ (μ.2.1 50 24) (μ.2.1 50 25) (μ.1 50 23)) (by rfl) ?_
            exact zJ hJ6 rfl (by simp only [h76, h77, lb_f, Int64.or_zero, nB_t, nB_f, Bool.not_true, Bool.not_false, Bool.and_true, Bool.true_and, Bool.false_and, Bool.and_false, Bool.or_true, Bool.true_or, Bool.false_or, Bool.or_false, cond_true, cond_false]) rfl
      refine zq_if hc hH (by rfl) (tg := 126) (by rfl) (fun h78 => ?_) (fun h78 => ?_)
      · have h78 : (xEn (μ.1 50 21)) = false := nB_z.mp (cm_eq9.mp h78)
        refine z_rcs hc hH 1 (pc' := 127) (lv' := [(8, .int (nB e4)), (7, .int (nB e2)), (6, .int (μ.1 57 0)), (5, .int 0), (4, .int (nB (xHo (μ.1 50 21)))), (3, .int (nB (xTe (μ.1 50 21)))), (2, .int (nB (xEn (μ.1 50 21)))), (0, .ref 50), (1, .int ru)]) (st' := [.int 0]) (μ' := mGP μ (μ.2.1 50 24) (μ.2.1 50 25) (μ.1 50 23)) (by rfl) ?_
        exact zJ hJ5 rfl (by simp only [h78, lb_f, Int64.or_zero, nB_t, nB_f, Bool.not_true, Bool.not_false, Bool.and_true, Bool.true_and, Bool.false_and, Bool.and_false, Bool.or_true, Bool.true_or, Bool.false_or, Bool.or_false, cond_true, cond_false]) rfl
      · have h78 : (xEn (μ.1 50 21)) = true := nB_n.mp (cn_eq.mp h78)
        refine z_rcs hc hH 1 (pc' := 119) (lv' := [(8, .int (nB e4)), (7, .int (nB e2)), (6, .int (μ.1 57 0)), (5, .int 0), (4, .int (nB (xHo (μ.1 50 21)))), (3, .int (nB (xTe (μ.1 50 21)))), (2, .int (nB (xEn (μ.1 50 21)))), (0, .ref 50), (1, .int ru)]) (st' := [.int (nB e2)]) (μ' := mGP μ (μ.2.1 50 24) (μ.2.1 50 25) (μ.1 50 23)) (by rfl) ?_
        refine zq_if hc hH (by rfl) (tg := 126) (by rfl) (fun h79 => ?_) (fun h79 => ?_)
        · have h79 : (e2) = false := nB_z.mp (cm_eq9.mp h79)
          refine z_rcs hc hH 1 (pc' := 127) (lv' := [(8, .int (nB e4)), (7, .int (nB e2)), (6, .int (μ.1 57 0)), (5, .int 0), (4, .int (nB (xHo (μ.1 50 21)))), (3, .int (nB (xTe (μ.1 50 21)))), (2, .int (nB (xEn (μ.1 50 21)))), (0, .ref 50), (1, .int ru)]) (st' := [.int 0]) (μ' := mGP μ (μ.2.1 50 24) (μ.2.1 50 25) (μ.1 50 23)) (by rfl) ?_
          exact zJ hJ5 rfl (by simp only [h78, h79, lb_f, Int64.or_zero, nB_t, nB_f, Bool.not_true, Bool.not_false, Bool.and_true, Bool.true_and, Bool.false_and, Bool.and_false, Bool.or_true, Bool.true_or, Bool.false_or, Bool.or_false, cond_true, cond_false]) rfl
        · have h79 : (e2) = true := nB_n.mp (cn_eq.mp h79)
          refine z_rcs hc hH 2 (pc' := 127) (lv' := [(8, .int (nB e4)), (7, .int (nB e2)), (6, .int (μ.1 57 0)), (5, .int 0), (4, .int (nB (xHo (μ.1 50 21)))), (3, .int (nB (xTe (μ.1 50 21)))), (2, .int (nB (xEn (μ.1 50 21)))), (0, .ref 50), (1, .int ru)]) (st' := [.int 1]) (μ' := mGP μ (μ.2.1 50 24) (μ.2.1 50 25) (μ.1 50 23)) (by rfl) ?_
          exact zJ hJ5 rfl (by simp only [h78, h79, lb_f, Int64.or_zero, nB_t, nB_f, Bool.not_true, Bool.not_false, Bool.and_true, Bool.true_and, Bool.false_and, Bool.and_false, Bool.or_true, Bool.true_or, Bool.false_or, Bool.or_false, cond_true, cond_false]) rfl
    refine zq_if hc hH (by rfl) (tg := 106) (by rfl) (fun h80 => ?_) (fun h80 => ?_)
    · have h80 : (xTe (μ.1 57 0)) = true := nB_n.mp (cm_ne.mp h80)
      refine z_rcs hc hH 2 (pc' := 111) (lv' := [(7, .int (nB e2)), (6, .int (μ.1 57 0)), (5, .int 0), (4, .int (nB (xHo (μ.1 50 21)))), (3, .int (nB (xTe (μ.1 50 21)))), (2, .int (nB (xEn (μ.1 50 21)))), (0, .ref 50), (1, .int ru)]) (st' := [.int 1]) (μ' := mGP μ (μ.2.1 50 24) (μ.2.1 50 25) (μ.1 50 23)) (by rfl) ?_
      exact zJ hJ3 rfl (by simp only [h80, lb_f, Int64.or_zero, nB_t, nB_f, Bool.not_true, Bool.not_false, Bool.and_true, Bool.true_and, Bool.false_and, Bool.and_false, Bool.or_true, Bool.true_or, Bool.false_or, Bool.or_false, cond_true, cond_false]) rfl
    · have h80 : (xTe (μ.1 57 0)) = false := nB_z.mp (cn_ne.mp h80)
      refine z_rcs hc hH 3 (pc' := 92) (lv' := [(7, .int (nB e2)), (6, .int (μ.1 57 0)), (5, .int 0), (4, .int (nB (xHo (μ.1 50 21)))), (3, .int (nB (xTe (μ.1 50 21)))), (2, .int (nB (xEn (μ.1 50 21)))), (0, .ref 50), (1, .int ru)]) (st' := [.int 0, .ref 56]) (μ' := mGP μ (μ.2.1 50 24) (μ.2.1 50 25) (μ.1 50 23)) (by rfl) ?_
      refine zq_iald hc hH (by rfl) 4 (by decide +kernel) (show vp_in (nI 0) 4 from vp_in_nI (by decide) (by decide)) ?_
      show Z 0 93 [(7, .int (nB e2)), (6, .int (μ.1 57 0)), (5, .int 0), (4, .int (nB (xHo (μ.1 50 21)))), (3, .int (nB (xTe (μ.1 50 21)))), (2, .int (nB (xEn (μ.1 50 21)))), (0, .ref 50), (1, .int ru)] [.int (μ.1 56 0)] (mGP μ (μ.2.1 50 24) (μ.2.1 50 25) (μ.1 50 23))
      refine zq_if hc hH (by rfl) (tg := 110) (by rfl) (fun h81 => ?_) (fun h81 => ?_)
      · have h81 : (decide ((μ.1 56 0) = 0)) = false := decide_eq_false (cm_ne.mp h81)
        refine z_rcs hc hH 1 (pc' := 111) (lv' := [(7, .int (nB e2)), (6, .int (μ.1 57 0)), (5, .int 0), (4, .int (nB (xHo (μ.1 50 21)))), (3, .int (nB (xTe (μ.1 50 21)))), (2, .int (nB (xEn (μ.1 50 21)))), (0, .ref 50), (1, .int ru)]) (st' := [.int 0]) (μ' := mGP μ (μ.2.1 50 24) (μ.2.1 50 25) (μ.1 50 23)) (by rfl) ?_
        exact zJ hJ3 rfl (by simp only [h80, h81, lb_f, Int64.or_zero, nB_t, nB_f, Bool.not_true, Bool.not_false, Bool.and_true, Bool.true_and, Bool.false_and, Bool.and_false, Bool.or_true, Bool.true_or, Bool.false_or, Bool.or_false, cond_true, cond_false]) rfl
      · have h81 : (decide ((μ.1 56 0) = 0)) = true := decide_eq_true (cn_ne.mp h81)
        refine z_rcs hc hH 3 (pc' := 100) (lv' := [(7, .int (nB e2)), (6, .int (μ.1 57 0)), (5, .int 0), (4, .int (nB (xHo (μ.1 50 21)))), (3, .int (nB (xTe (μ.1 50 21)))), (2, .int (nB (xEn (μ.1 50 21)))), (0, .ref 50), (1, .int ru)]) (st' := [.int ((μ.1 57 0) + 2)]) (μ' := mGP μ (μ.2.1 50 24) (μ.2.1 50 25) (μ.1 50 23)) (by rfl) ?_
        refine zq_call hc (z_cx_ok hH (by rfl)) (fb_X7_isTerminal d' (by omega) (mGP μ (μ.2.1 50 24) (μ.2.1 50 25) (μ.1 50 23)) ((μ.1 57 0) + 2)) (by decide +kernel) (fun r9 μ9 hq => ?_)
        obtain ⟨hμ9, rfl⟩ := hq
        rw [hμ9]
        clear hμ9 μ9
        show Z 0 103 [(7, .int (nB e2)), (6, .int (μ.1 57 0)), (5, .int 0), (4, .int (nB (xHo (μ.1 50 21)))), (3, .int (nB (xTe (μ.1 50 21)))), (2, .int (nB (xEn (μ.1 50 21)))), (0, .ref 50), (1, .int ru)] [.int (nB (xTe ((μ.1 57 0) + 2)))] (mGP μ (μ.2.1 50 24) (μ.2.1 50 25) (μ.1 50 23))
        refine zq_if hc hH (by rfl) (tg := 110) (by rfl) (fun h82 => ?_) (fun h82 => ?_)
        · have h82 : (xTe ((μ.1 57 0) + 2)) = false := nB_z.mp (cm_eq9.mp h82)
          refine z_rcs hc hH 1 (pc' := 111) (lv' := [(7, .int (nB e2)), (6, .int (μ.1 57 0)), (5, .int 0), (4, .int (nB (xHo (μ.1 50 21)))), (3, .int (nB (xTe (μ.1 50 21)))), (2, .int (nB (xEn (μ.1 50 21)))), (0, .ref 50), (1, .int ru)]) (st' := [.int 0]) (μ' := mGP μ (μ.2.1 50 24) (μ.2.1 50 25) (μ.1 50 23)) (by rfl) ?_
          exact zJ hJ3 rfl (by simp only [h80, h81, h82, lb_f, Int64.or_zero, nB_t, nB_f, Bool.not_true, Bool.not_false, Bool.and_true, Bool.true_and, Bool.false_and, Bool.and_false, Bool.or_true, Bool.true_or, Bool.false_or, Bool.or_false, cond_true, cond_false]) rfl
        · have h82 : (xTe ((μ.1 57 0) + 2)) = true := nB_n.mp (cn_eq.mp h82)
          refine z_rcs hc hH 2 (pc' := 111) (lv' := [(7, .int (nB e2)), (6, .int (μ.1 57 0)), (5, .int 0), (4, .int (nB (xHo (μ.1 50 21)))), (3, .int (nB (xTe (μ.1 50 21)))), (2, .int (nB (xEn (μ.1 50 21)))), (0, .ref 50), (1, .int ru)]) (st' := [.int 1]) (μ' := mGP μ (μ.2.1 50 24) (μ.2.1 50 25) (μ.1 50 23)) (by rfl) ?_
          exact zJ hJ3 rfl (by simp only [h80, h81, h82, lb_f, Int64.or_zero, nB_t, nB_f, Bool.not_true, Bool.not_false, Bool.and_true, Bool.true_and, Bool.false_and, Bool.and_false, Bool.or_true, Bool.true_or, Bool.false_or, Bool.or_false, cond_true, cond_false]) rfl
  refine zq_if hc hH (by rfl) (tg := 71) (by rfl) (fun h83 => ?_) (fun h83 => ?_)
  · have h83 : (xEn (μ.1 57 0)) = true := nB_n.mp (cm_ne.mp h83)
    refine z_rcs hc hH 2 (pc' := 76) (lv' := [(6, .int (μ.1 57 0)), (5, .int 0), (4, .int (nB (xHo (μ.1 50 21)))), (3, .int (nB (xTe (μ.1 50 21)))), (2, .int (nB (xEn (μ.1 50 21)))), (0, .ref 50), (1, .int ru)]) (st' := [.int 1]) (μ' := mGP μ (μ.2.1 50 24) (μ.2.1 50 25) (μ.1 50 23)) (by rfl) ?_
    exact zJ hJ1 rfl (by simp only [h83, lb_f, Int64.or_zero, nB_t, nB_f, Bool.not_true, Bool.not_false, Bool.and_true, Bool.true_and, Bool.false_and, Bool.and_false, Bool.or_true, Bool.true_or, Bool.false_or, Bool.or_false, cond_true, cond_false]) rfl
  · have h83 : (xEn (μ.1 57 0)) = false := nB_z.mp (cn_ne.mp h83)
    refine z_rcs hc hH 3 (pc' := 57) (lv' := [(6, .int (μ.1 57 0)), (5, .int 0), (4, .int (nB (xHo (μ.1 50 21)))), (3, .int (nB (xTe (μ.1 50 21)))), (2, .int (nB (xEn (μ.1 50 21)))), (0, .ref 50), (1, .int ru)]) (st' := [.int 0, .ref 56]) (μ' := mGP μ (μ.2.1 50 24) (μ.2.1 50 25) (μ.1 50 23)) (by rfl) ?_
    refine zq_iald hc hH (by rfl) 4 (by decide +kernel) (show vp_in (nI 0) 4 from vp_in_nI (by decide) (by decide)) ?_
    show Z 0 58 [(6, .int (μ.1 57 0)), (5, .int 0), (4, .int (nB (xHo (μ.1 50 21)))), (3, .int (nB (xTe (μ.1 50 21)))), (2, .int (nB (xEn (μ.1 50 21)))), (0, .ref 50), (1, .int ru)] [.int (μ.1 56 0)] (mGP μ (μ.2.1 50 24) (μ.2.1 50 25) (μ.1 50 23))
    refine zq_if hc hH (by rfl) (tg := 75) (by rfl) (fun h84 => ?_) (fun h84 => ?_)
    · have h84 : (decide ((μ.1 56 0) = 0)) = false := decide_eq_false (cm_ne.mp h84)
      refine z_rcs hc hH 1 (pc' := 76) (lv' := [(6, .int (μ.1 57 0)), (5, .int 0), (4, .int (nB (xHo (μ.1 50 21)))), (3, .int (nB (xTe (μ.1 50 21)))), (2, .int (nB (xEn (μ.1 50 21)))), (0, .ref 50), (1, .int ru)]) (st' := [.int 0]) (μ' := mGP μ (μ.2.1 50 24) (μ.2.1 50 25) (μ.1 50 23)) (by rfl) ?_
      exact zJ hJ1 rfl (by simp only [h83, h84, lb_f, Int64.or_zero, nB_t, nB_f, Bool.not_true, Bool.not_false, Bool.and_true, Bool.true_and, Bool.false_and, Bool.and_false, Bool.or_true, Bool.true_or, Bool.false_or, Bool.or_false, cond_true, cond_false]) rfl
    · have h84 : (decide ((μ.1 56 0) = 0)) = true := decide_eq_true (cn_ne.mp h84)
      refine z_rcs hc hH 3 (pc' := 65) (lv' := [(6, .int (μ.1 57 0)), (5, .int 0), (4, .int (nB (xHo (μ.1 50 21)))), (3, .int (nB (xTe (μ.1 50 21)))), (2, .int (nB (xEn (μ.1 50 21)))), (0, .ref 50), (1, .int ru)]) (st' := [.int ((μ.1 57 0) + 2)]) (μ' := mGP μ (μ.2.1 50 24) (μ.2.1 50 25) (μ.1 50 23)) (by rfl) ?_
      refine zq_call hc (z_cx_ok hH (by rfl)) (fb_X7_isEnd d' (by omega) (mGP μ (μ.2.1 50 24) (μ.2.1 50 25) (μ.1 50 23)) ((μ.1 57 0) + 2)) (by decide +kernel) (fun r9 μ9 hq => ?_)
      obtain ⟨hμ9, rfl⟩ := hq
      rw [hμ9]
      clear hμ9 μ9
      show Z 0 68 [(6, .int (μ.1 57 0)), (5, .int 0), (4, .int (nB (xHo (μ.1 50 21)))), (3, .int (nB (xTe (μ.1 50 21)))), (2, .int (nB (xEn (μ.1 50 21)))), (0, .ref 50), (1, .int ru)] [.int (nB (xEn ((μ.1 57 0) + 2)))] (mGP μ (μ.2.1 50 24) (μ.2.1 50 25) (μ.1 50 23))
      refine zq_if hc hH (by rfl) (tg := 75) (by rfl) (fun h85 => ?_) (fun h85 => ?_)
      · have h85 : (xEn ((μ.1 57 0) + 2)) = false := nB_z.mp (cm_eq9.mp h85)
        refine z_rcs hc hH 1 (pc' := 76) (lv' := [(6, .int (μ.1 57 0)), (5, .int 0), (4, .int (nB (xHo (μ.1 50 21)))), (3, .int (nB (xTe (μ.1 50 21)))), (2, .int (nB (xEn (μ.1 50 21)))), (0, .ref 50), (1, .int ru)]) (st' := [.int 0]) (μ' := mGP μ (μ.2.1 50 24) (μ.2.1 50 25) (μ.1 50 23)) (by rfl) ?_
        exact zJ hJ1 rfl (by simp only [h83, h84, h85, lb_f, Int64.or_zero, nB_t, nB_f, Bool.not_true, Bool.not_false, Bool.and_true, Bool.true_and, Bool.false_and, Bool.and_false, Bool.or_true, Bool.true_or, Bool.false_or, Bool.or_false, cond_true, cond_false]) rfl
      · have h85 : (xEn ((μ.1 57 0) + 2)) = true := nB_n.mp (cn_eq.mp h85)
        refine z_rcs hc hH 2 (pc' := 76) (lv' := [(6, .int (μ.1 57 0)), (5, .int 0), (4, .int (nB (xHo (μ.1 50 21)))), (3, .int (nB (xTe (μ.1 50 21)))), (2, .int (nB (xEn (μ.1 50 21)))), (0, .ref 50), (1, .int ru)]) (st' := [.int 1]) (μ' := mGP μ (μ.2.1 50 24) (μ.2.1 50 25) (μ.1 50 23)) (by rfl) ?_
        exact zJ hJ1 rfl (by simp only [h83, h84, h85, lb_f, Int64.or_zero, nB_t, nB_f, Bool.not_true, Bool.not_false, Bool.and_true, Bool.true_and, Bool.false_and, Bool.and_false, Bool.or_true, Bool.true_or, Bool.false_or, Bool.or_false, cond_true, cond_false]) rfl
/-! the forms that the tiles alone give: the reference -/
set_option maxRecDepth 8000
noncomputable abbrev T7 : Type := Bool × Bool × Bool × Bool × Bool × Bool × Int32
noncomputable def xGr (k : Int32) : Bool := decide (k = 19) || (decide (k = 20) || (decide (k = 21) || (decide (k = 23) || (decide (k = 25) || decide (k = 32)))))
noncomputable def tSt (μ : zM) (q i : Nat) (t : T7) : T7 := bif decide (ofv (μ.1 58 i) (μ.1 52) (μ.1 53) (nI i) q = 0) then t else (t.1 && xEn (nI i), t.2.1 && !xEn (nI i), t.2.2.1 && xHo (nI i), t.2.2.2.1 || xHo (nI i), t.2.2.2.2.1 && xTe (nI i), t.2.2.2.2.2.1 && xGr (nI i), bif decide (27 ≤ nI i) then t.2.2.2.2.2.2 else t.2.2.2.2.2.2 ||| 1 <<< (nI i / 9 &&& 31))
noncomputable def tF (μ : zM) (q : Nat) : Nat → Nat → T7 → T7
  | 0, _, t => t
  | n + 1, i, t => tF μ q n (i + 1) (tSt μ q i t)
noncomputable def tKA (Z : zK) (μ : zM) (pc : Nat) (i : Int32) (t : T7) : Prop := Z 0 pc [(8, .int i), (7, .int t.2.2.2.2.2.2), (6, .int (nB t.2.2.2.2.2.1)), (5, .int (nB t.2.2.2.2.1)), (4, .int (nB t.2.2.2.1)), (3, .int (nB t.2.2.1)), (2, .int (nB t.2.1)), (1, .int (nB t.1)), (0, .ref 50)] [] μ ∧ Z 0 pc [(8, .int i), (6, .int (nB t.2.2.2.2.2.1)), (5, .int (nB t.2.2.2.2.1)), (4, .int (nB t.2.2.2.1)), (3, .int (nB t.2.2.1)), (2, .int (nB t.2.1)), (1, .int (nB t.1)), (7, .int t.2.2.2.2.2.2), (0, .ref 50)] [] μ
theorem tl21 (d' : Nat) (Z : zK) (hd : 2 ≤ d') (μ : zM) (q : Nat) (hq : q ≤ 4) (e4 : μ.1 50 4 = nI q) (hc : z_clo z_x0 mi_X7_tiles (z_C d') Z) : ∀ n i (t : T7), i + n = 34 → tKA Z μ 213 (nI 34) (tF μ q n i t) → tKA Z μ 21 (nI i) t := by
  have hH : zH mi_X7_tiles zt_X7_tiles 79 7 12 := hh_X7_tiles
  intro n
  induction n with
  | zero =>
    intro i t hi K
    have hi : i = 34 := by omega
    subst hi
    obtain ⟨a1, a2, a3, a4, a5, a6, su⟩ := t
    have b1 : Z 0 21 [(8, .int (nI 34)), (7, .int su), (6, .int (nB a6)), (5, .int (nB a5)), (4, .int (nB a4)), (3, .int (nB a3)), (2, .int (nB a2)), (1, .int (nB a1)), (0, .ref 50)] [] μ := by
      refine z_rcs hc hH 2 (pc' := 25) (lv' := [(8, .int (nI 34)), (7, .int su), (6, .int (nB a6)), (5, .int (nB a5)), (4, .int (nB a4)), (3, .int (nB a3)), (2, .int (nB a2)), (1, .int (nB a1)), (0, .ref 50)]) (st' := [.int 34, .int (nI 34)]) (μ' := μ) (by rfl) ?_
      refine zq_ic hc hH (by rfl) (tg := 213) (by rfl) (fun _ => ?_) (fun h9 => (zb_t (ge_nIt (n := 34) (i := 34) (by decide) (by decide)) h9).elim)
      exact K.1
    have b2 : Z 0 21 [(8, .int (nI 34)), (6, .int (nB a6)), (5, .int (nB a5)), (4, .int (nB a4)), (3, .int (nB a3)), (2, .int (nB a2)), (1, .int (nB a1)), (7, .int su), (0, .ref 50)] [] μ := by
      refine z_rcs hc hH 2 (pc' := 25) (lv' := [(8, .int (nI 34)), (6, .int (nB a6)), (5, .int (nB a5)), (4, .int (nB a4)), (3, .int (nB a3)), (2, .int (nB a2)), (1, .int (nB a1)), (7, .int su), (0, .ref 50)]) (st' := [.int 34, .int (nI 34)]) (μ' := μ) (by rfl) ?_
      refine zq_ic hc hH (by rfl) (tg := 213) (by rfl) (fun _ => ?_) (fun h9 => (zb_t (ge_nIt (n := 34) (i := 34) (by decide) (by decide)) h9).elim)
      exact K.2
    exact ⟨b1, b2⟩
  | succ n ih =>
    intro i t hi K
    have hin : vp_in (nI i) 34 := vp_in_nI (by omega) (by decide)
    obtain ⟨a1, a2, a3, a4, a5, a6, su⟩ := t
    have cl : (nI i).toNatClampNeg = i := nI_clamp (by omega)
    have K : tKA Z μ 213 (nI 34) (tF μ q n (i + 1) (tSt μ q i (a1, a2, a3, a4, a5, a6, su))) := K
    have b1 : Z 0 21 [(8, .int (nI i)), (7, .int su), (6, .int (nB a6)), (5, .int (nB a5)), (4, .int (nB a4)), (3, .int (nB a3)), (2, .int (nB a2)), (1, .int (nB a1)), (0, .ref 50)] [] μ := by
      refine z_rcs hc hH 2 (pc' := 25) (lv' := [(8, .int (nI i)), (7, .int su), (6, .int (nB a6)), (5, .int (nB a5)), (4, .int (nB a4)), (3, .int (nB a3)), (2, .int (nB a2)), (1, .int (nB a1)), (0, .ref 50)]) (st' := [.int 34, .int (nI i)]) (μ' := μ) (by rfl) ?_
      refine zq_ic hc hH (by rfl) (tg := 213) (by rfl) (fun h9 => (zb_t h9 (ge_nI (n := 34) (i := i) (by omega) (by decide))).elim) (fun _ => ?_)
      refine z_rcs hc hH 2 (pc' := 31) (lv' := [(8, .int (nI i)), (7, .int su), (6, .int (nB a6)), (5, .int (nB a5)), (4, .int (nB a4)), (3, .int (nB a3)), (2, .int (nB a2)), (1, .int (nB a1)), (0, .ref 50)]) (st' := [.int (nI i), .ref 50]) (μ' := μ) (by rfl) ?_
      refine zq_call hc (z_cx_ok hH (by rfl)) (fc_X7_of d' (by omega) μ (nI i) hin q hq e4) (by decide +kernel) (fun r9 μ9 hq => ?_)
      obtain ⟨hμ9, rfl⟩ := hq
      rw [hμ9]
      clear hμ9 μ9
      show Z 0 34 [(8, .int (nI i)), (7, .int su), (6, .int (nB a6)), (5, .int (nB a5)), (4, .int (nB a4)), (3, .int (nB a3)), (2, .int (nB a2)), (1, .int (nB a1)), (0, .ref 50)] [.int (ofv (μ.1 58 (nI i).toNatClampNeg) (μ.1 52) (μ.1 53) (nI i) q)] μ
      rw [cl]
      refine zq_if hc hH (by rfl) (tg := 40) (by rfl) (fun h1 => ?_) (fun h1 => ?_)
      · have h1 : (decide ((ofv (μ.1 58 i) (μ.1 52) (μ.1 53) (nI i) q) = 0)) = false := decide_eq_false (cm_ne.mp h1)
        refine z_rcs hc hH 1 (pc' := 41) (lv' := [(8, .int (nI i)), (7, .int su), (6, .int (nB a6)), (5, .int (nB a5)), (4, .int (nB a4)), (3, .int (nB a3)), (2, .int (nB a2)), (1, .int (nB a1)), (0, .ref 50)]) (st' := [.int (nB a1)]) (μ' := μ) (by rfl) ?_
        have hJ2 : Z 0 57 [(8, .int (nI i)), (7, .int su), (6, .int (nB a6)), (5, .int (nB a5)), (4, .int (nB a4)), (3, .int (nB a3)), (2, .int (nB a2)), (1, .int (nB a1)), (0, .ref 50)] [.int (nB (a1 && (xEn (nI i))))] μ := by
          refine z_rcs hc hH 2 (pc' := 59) (lv' := [(1, .int (nB (a1 && (xEn (nI i))))), (8, .int (nI i)), (7, .int su), (6, .int (nB a6)), (5, .int (nB a5)), (4, .int (nB a4)), (3, .int (nB a3)), (2, .int (nB a2)), (0, .ref 50)]) (st' := [.int (nB a2)]) (μ' := μ) (by rfl) ?_
          have hJ3 : Z 0 75 [(1, .int (nB (a1 && (xEn (nI i))))), (8, .int (nI i)), (7, .int su), (6, .int (nB a6)), (5, .int (nB a5)), (4, .int (nB a4)), (3, .int (nB a3)), (2, .int (nB a2)), (0, .ref 50)] [.int (nB (a2 && (!(xEn (nI i)))))] μ := by
            refine z_rcs hc hH 2 (pc' := 77) (lv' := [(2, .int (nB (a2 && (!(xEn (nI i)))))), (1, .int (nB (a1 && (xEn (nI i))))), (8, .int (nI i)), (7, .int su), (6, .int (nB a6)), (5, .int (nB a5)), (4, .int (nB a4)), (3, .int (nB a3)), (0, .ref 50)]) (st' := [.int (nB a3)]) (μ' := μ) (by rfl) ?_
            have hJ4 : Z 0 93 [(2, .int (nB (a2 && (!(xEn (nI i)))))), (1, .int (nB (a1 && (xEn (nI i))))), (8, .int (nI i)), (7, .int su), (6, .int (nB a6)), (5, .int (nB a5)), (4, .int (nB a4)), (3, .int (nB a3)), (0, .ref 50)] [.int (nB (a3 && (xHo (nI i))))] μ := by
              refine z_rcs hc hH 2 (pc' := 96) (lv' := [(3, .int (nB (a3 && (xHo (nI i))))), (2, .int (nB (a2 && (!(xEn (nI i)))))), (1, .int (nB (a1 && (xEn (nI i))))), (8, .int (nI i)), (7, .int su), (6, .int (nB a6)), (5, .int (nB a5)), (4, .int (nB a4)), (0, .ref 50)]) (st' := [.int (nB a4)]) (μ' := μ) (by rfl) ?_
              have hJ5 : Z 0 112 [(3, .int (nB (a3 && (xHo (nI i))))), (2, .int (nB (a2 && (!(xEn (nI i)))))), (1, .int (nB (a1 && (xEn (nI i))))), (8, .int (nI i)), (7, .int su), (6, .int (nB a6)), (5, .int (nB a5)), (4, .int (nB a4)), (0, .ref 50)] [.int (nB (a4 || (xHo (nI i))))] μ := by
                refine z_rcs hc hH 2 (pc' := 116) (lv' := [(4, .int (nB (a4 || (xHo (nI i))))), (3, .int (nB (a3 && (xHo (nI i))))), (2, .int (nB (a2 && (!(xEn (nI i)))))), (1, .int (nB (a1 && (xEn (nI i))))), (8, .int (nI i)), (7, .int su), (6, .int (nB a6)), (5, .int (nB a5)), (0, .ref 50)]) (st' := [.int (nB a5)]) (μ' := μ) (by rfl) ?_
                have hJ6 : Z 0 132 [(4, .int (nB (a4 || (xHo (nI i))))), (3, .int (nB (a3 && (xHo (nI i))))), (2, .int (nB (a2 && (!(xEn (nI i)))))), (1, .int (nB (a1 && (xEn (nI i))))), (8, .int (nI i)), (7, .int su), (6, .int (nB a6)), (5, .int (nB a5)), (0, .ref 50)] [.int (nB (a5 && (xTe (nI i))))] μ := by
                  refine z_rcs hc hH 2 (pc' := 136) (lv' := [(5, .int (nB (a5 && (xTe (nI i))))), (4, .int (nB (a4 || (xHo (nI i))))), (3, .int (nB (a3 && (xHo (nI i))))), (2, .int (nB (a2 && (!(xEn (nI i)))))), (1, .int (nB (a1 && (xEn (nI i))))), (8, .int (nI i)), (7, .int su), (6, .int (nB a6)), (0, .ref 50)]) (st' := [.int (nB a6)]) (μ' := μ) (by rfl) ?_
                  have hJ7 : Z 0 186 [(5, .int (nB (a5 && (xTe (nI i))))), (4, .int (nB (a4 || (xHo (nI i))))), (3, .int (nB (a3 && (xHo (nI i))))), (2, .int (nB (a2 && (!(xEn (nI i)))))), (1, .int (nB (a1 && (xEn (nI i))))), (8, .int (nI i)), (7, .int su), (6, .int (nB a6)), (0, .ref 50)] [.int (nB (a6 && ((decide ((nI i) = 19)) || ((decide ((nI i) = 20)) || ((decide ((nI i) = 21)) || ((decide ((nI i) = 23)) || ((decide ((nI i) = 25)) || (decide ((nI i) = 32)))))))))] μ := by
                    refine z_rcs hc hH 3 (pc' := 192) (lv' := [(6, .int (nB (a6 && ((decide ((nI i) = 19)) || ((decide ((nI i) = 20)) || ((decide ((nI i) = 21)) || ((decide ((nI i) = 23)) || ((decide ((nI i) = 25)) || (decide ((nI i) = 32)))))))))), (5, .int (nB (a5 && (xTe (nI i))))), (4, .int (nB (a4 || (xHo (nI i))))), (3, .int (nB (a3 && (xHo (nI i))))), (2, .int (nB (a2 && (!(xEn (nI i)))))), (1, .int (nB (a1 && (xEn (nI i))))), (8, .int (nI i)), (7, .int su), (0, .ref 50)]) (st' := [.int 27, .int (nI i)]) (μ' := μ) (by rfl) ?_
                    refine zq_ic hc hH (by rfl) (tg := 207) (by rfl) (fun h8 => ?_) (fun h8 => ?_)
                    · have h8 : (decide (27 ≤ (nI i))) = true := decide_eq_true (cm_ge.mp h8)
                      refine z_rcs hc hH 2 (pc' := 21) (lv' := [(8, .int ((nI i) + 1)), (6, .int (nB (a6 && ((decide ((nI i) = 19)) || ((decide ((nI i) = 20)) || ((decide ((nI i) = 21)) || ((decide ((nI i) = 23)) || ((decide ((nI i) = 25)) || (decide ((nI i) = 32)))))))))), (5, .int (nB (a5 && (xTe (nI i))))), (4, .int (nB (a4 || (xHo (nI i))))), (3, .int (nB (a3 && (xHo (nI i))))), (2, .int (nB (a2 && (!(xEn (nI i)))))), (1, .int (nB (a1 && (xEn (nI i))))), (7, .int su), (0, .ref 50)]) (st' := []) (μ' := μ) (by rfl) ?_
                      rw [nI_1]
                      refine (ih (i + 1) (a1 && (xEn (nI i)), a2 && (!(xEn (nI i))), a3 && (xHo (nI i)), a4 || (xHo (nI i)), a5 && (xTe (nI i)), a6 && ((decide ((nI i) = 19)) || ((decide ((nI i) = 20)) || ((decide ((nI i) = 21)) || ((decide ((nI i) = 23)) || ((decide ((nI i) = 25)) || (decide ((nI i) = 32))))))), su) (by omega) ?_).2
                      have e : tSt μ q i (a1, a2, a3, a4, a5, a6, su) = (a1 && (xEn (nI i)), a2 && (!(xEn (nI i))), a3 && (xHo (nI i)), a4 || (xHo (nI i)), a5 && (xTe (nI i)), a6 && ((decide ((nI i) = 19)) || ((decide ((nI i) = 20)) || ((decide ((nI i) = 21)) || ((decide ((nI i) = 23)) || ((decide ((nI i) = 25)) || (decide ((nI i) = 32))))))), su) := by unfold tSt; simp only [h1, h8, cond_true, cond_false] <;> rfl
                      rw [e] at K; exact K
                    · have h8 : (decide (27 ≤ (nI i))) = false := decide_eq_false (cn_ge.mp h8)
                      refine z_rcs hc hH 10 (pc' := 21) (lv' := [(8, .int ((nI i) + 1)), (7, .int (su ||| (1 <<< (((nI i) / 9) &&& 31)))), (6, .int (nB (a6 && ((decide ((nI i) = 19)) || ((decide ((nI i) = 20)) || ((decide ((nI i) = 21)) || ((decide ((nI i) = 23)) || ((decide ((nI i) = 25)) || (decide ((nI i) = 32)))))))))), (5, .int (nB (a5 && (xTe (nI i))))), (4, .int (nB (a4 || (xHo (nI i))))), (3, .int (nB (a3 && (xHo (nI i))))), (2, .int (nB (a2 && (!(xEn (nI i)))))), (1, .int (nB (a1 && (xEn (nI i))))), (0, .ref 50)]) (st' := []) (μ' := μ) (by rfl) ?_
                      rw [nI_1]
                      refine (ih (i + 1) (a1 && (xEn (nI i)), a2 && (!(xEn (nI i))), a3 && (xHo (nI i)), a4 || (xHo (nI i)), a5 && (xTe (nI i)), a6 && ((decide ((nI i) = 19)) || ((decide ((nI i) = 20)) || ((decide ((nI i) = 21)) || ((decide ((nI i) = 23)) || ((decide ((nI i) = 25)) || (decide ((nI i) = 32))))))), su ||| (1 <<< (((nI i) / 9) &&& 31))) (by omega) ?_).1
                      have e : tSt μ q i (a1, a2, a3, a4, a5, a6, su) = (a1 && (xEn (nI i)), a2 && (!(xEn (nI i))), a3 && (xHo (nI i)), a4 || (xHo (nI i)), a5 && (xTe (nI i)), a6 && ((decide ((nI i) = 19)) || ((decide ((nI i) = 20)) || ((decide ((nI i) = 21)) || ((decide ((nI i) = 23)) || ((decide ((nI i) = 25)) || (decide ((nI i) = 32))))))), su ||| (1 <<< (((nI i) / 9) &&& 31))) := by unfold tSt; simp only [h1, h8, cond_true, cond_false] <;> rfl
                      rw [e] at K; exact K
                  refine zq_if hc hH (by rfl) (tg := 185) (by rfl) (fun h9 => ?_) (fun h9 => ?_)
                  · have h9 : (a6) = false := nB_z.mp (cm_eq9.mp h9)
                    refine z_rcs hc hH 1 (pc' := 186) (lv' := [(5, .int (nB (a5 && (xTe (nI i))))), (4, .int (nB (a4 || (xHo (nI i))))), (3, .int (nB (a3 && (xHo (nI i))))), (2, .int (nB (a2 && (!(xEn (nI i)))))), (1, .int (nB (a1 && (xEn (nI i))))), (8, .int (nI i)), (7, .int su), (6, .int (nB a6)), (0, .ref 50)]) (st' := [.int 0]) (μ' := μ) (by rfl) ?_
                    exact zJ hJ7 rfl (by simp only [h9, lb_f, Int64.or_zero, nB_t, nB_f, Bool.not_true, Bool.not_false, Bool.and_true, Bool.true_and, Bool.false_and, Bool.and_false, Bool.or_true, Bool.true_or, Bool.false_or, Bool.or_false, cond_true, cond_false]) rfl
                  · have h9 : (a6) = true := nB_n.mp (cn_eq.mp h9)
                    refine z_rcs hc hH 2 (pc' := 143) (lv' := [(5, .int (nB (a5 && (xTe (nI i))))), (4, .int (nB (a4 || (xHo (nI i))))), (3, .int (nB (a3 && (xHo (nI i))))), (2, .int (nB (a2 && (!(xEn (nI i)))))), (1, .int (nB (a1 && (xEn (nI i))))), (8, .int (nI i)), (7, .int su), (6, .int (nB a6)), (0, .ref 50)]) (st' := [.int 19, .int (nI i)]) (μ' := μ) (by rfl) ?_
                    refine zq_ic hc hH (by rfl) (tg := 181) (by rfl) (fun h10 => ?_) (fun h10 => ?_)
                    · have h10 : (decide ((nI i) = 19)) = true := decide_eq_true (cm_eq9.mp h10)
                      refine z_rcs hc hH 2 (pc' := 186) (lv' := [(5, .int (nB (a5 && (xTe (nI i))))), (4, .int (nB (a4 || (xHo (nI i))))), (3, .int (nB (a3 && (xHo (nI i))))), (2, .int (nB (a2 && (!(xEn (nI i)))))), (1, .int (nB (a1 && (xEn (nI i))))), (8, .int (nI i)), (7, .int su), (6, .int (nB a6)), (0, .ref 50)]) (st' := [.int 1]) (μ' := μ) (by rfl) ?_
                      exact zJ hJ7 rfl (by simp only [h9, h10, lb_f, Int64.or_zero, nB_t, nB_f, Bool.not_true, Bool.not_false, Bool.and_true, Bool.true_and, Bool.false_and, Bool.and_false, Bool.or_true, Bool.true_or, Bool.false_or, Bool.or_false, cond_true, cond_false]) rfl
                    · have h10 : (decide ((nI i) = 19)) = false := decide_eq_false (cn_eq.mp h10)
                      refine z_rcs hc hH 2 (pc' := 150) (lv' := [(5, .int (nB (a5 && (xTe (nI i))))), (4, .int (nB (a4 || (xHo (nI i))))), (3, .int (nB (a3 && (xHo (nI i))))), (2, .int (nB (a2 && (!(xEn (nI i)))))), (1, .int (nB (a1 && (xEn (nI i))))), (8, .int (nI i)), (7, .int su), (6, .int (nB a6)), (0, .ref 50)]) (st' := [.int 20, .int (nI i)]) (μ' := μ) (by rfl) ?_
                      refine zq_ic hc hH (by rfl) (tg := 181) (by rfl) (fun h11 => ?_) (fun h11 => ?_)
                      · have h11 : (decide ((nI i) = 20)) = true := decide_eq_true (cm_eq9.mp h11)
                        refine z_rcs hc hH 2 (pc' := 186) (lv' := [(5, .int (nB (a5 && (xTe (nI i))))), (4, .int (nB (a4 || (xHo (nI i))))), (3, .int (nB (a3 && (xHo (nI i))))), (2, .int (nB (a2 && (!(xEn (nI i)))))), (1, .int (nB (a1 && (xEn (nI i))))), (8, .int (nI i)), (7, .int su), (6, .int (nB a6)), (0, .ref 50)]) (st' := [.int 1]) (μ' := μ) (by rfl) ?_
                        exact zJ hJ7 rfl (by simp only [h9, h10, h11, lb_f, Int64.or_zero, nB_t, nB_f, Bool.not_true, Bool.not_false, Bool.and_true, Bool.true_and, Bool.false_and, Bool.and_false, Bool.or_true, Bool.true_or, Bool.false_or, Bool.or_false, cond_true, cond_false]) rfl
                      · have h11 : (decide ((nI i) = 20)) = false := decide_eq_false (cn_eq.mp h11)
                        refine z_rcs hc hH 2 (pc' := 157) (lv' := [(5, .int (nB (a5 && (xTe (nI i))))), (4, .int (nB (a4 || (xHo (nI i))))), (3, .int (nB (a3 && (xHo (nI i))))), (2, .int (nB (a2 && (!(xEn (nI i)))))), (1, .int (nB (a1 && (xEn (nI i))))), (8, .int (nI i)), (7, .int su), (6, .int (nB a6)), (0, .ref 50)]) (st' := [.int 21, .int (nI i)]) (μ' := μ) (by rfl) ?_
                        refine zq_ic hc hH (by rfl) (tg := 181) (by rfl) (fun h12 => ?_) (fun h12 => ?_)
                        · have h12 : (decide ((nI i) = 21)) = true := decide_eq_true (cm_eq9.mp h12)
                          refine z_rcs hc hH 2 (pc' := 186) (lv' := [(5, .int (nB (a5 && (xTe (nI i))))), (4, .int (nB (a4 || (xHo (nI i))))), (3, .int (nB (a3 && (xHo (nI i))))), (2, .int (nB (a2 && (!(xEn (nI i)))))), (1, .int (nB (a1 && (xEn (nI i))))), (8, .int (nI i)), (7, .int su), (6, .int (nB a6)), (0, .ref 50)]) (st' := [.int 1]) (μ' := μ) (by rfl) ?_
                          exact zJ hJ7 rfl (by simp only [h9, h10, h11, h12, lb_f, Int64.or_zero, nB_t, nB_f, Bool.not_true, Bool.not_false, Bool.and_true, Bool.true_and, Bool.false_and, Bool.and_false, Bool.or_true, Bool.true_or, Bool.false_or, Bool.or_false, cond_true, cond_false]) rfl
                        · have h12 : (decide ((nI i) = 21)) = false := decide_eq_false (cn_eq.mp h12)
                          refine z_rcs hc hH 2 (pc' := 164) (lv' := [(5, .int (nB (a5 && (xTe (nI i))))), (4, .int (nB (a4 || (xHo (nI i))))), (3, .int (nB (a3 && (xHo (nI i))))), (2, .int (nB (a2 && (!(xEn (nI i)))))), (1, .int (nB (a1 && (xEn (nI i))))), (8, .int (nI i)), (7, .int su), (6, .int (nB a6)), (0, .ref 50)]) (st' := [.int 23, .int (nI i)]) (μ' := μ) (by rfl) ?_
                          refine zq_ic hc hH (by rfl) (tg := 181) (by rfl) (fun h13 => ?_) (fun h13 => ?_)
                          · have h13 : (decide ((nI i) = 23)) = true := decide_eq_true (cm_eq9.mp h13)
                            refine z_rcs hc hH 2 (pc' := 186) (lv' := [(5, .int (nB (a5 && (xTe (nI i))))), (4, .int (nB (a4 || (xHo (nI i))))), (3, .int (nB (a3 && (xHo (nI i))))), (2, .int (nB (a2 && (!(xEn (nI i)))))), (1, .int (nB (a1 && (xEn (nI i))))), (8, .int (nI i)), (7, .int su), (6, .int (nB a6)), (0, .ref 50)]) (st' := [.int 1]) (μ' := μ) (by rfl) ?_
                            exact zJ hJ7 rfl (by simp only [h9, h10, h11, h12, h13, lb_f, Int64.or_zero, nB_t, nB_f, Bool.not_true, Bool.not_false, Bool.and_true, Bool.true_and, Bool.false_and, Bool.and_false, Bool.or_true, Bool.true_or, Bool.false_or, Bool.or_false, cond_true, cond_false]) rfl
                          · have h13 : (decide ((nI i) = 23)) = false := decide_eq_false (cn_eq.mp h13)
                            refine z_rcs hc hH 2 (pc' := 171) (lv' := [(5, .int (nB (a5 && (xTe (nI i))))), (4, .int (nB (a4 || (xHo (nI i))))), (3, .int (nB (a3 && (xHo (nI i))))), (2, .int (nB (a2 && (!(xEn (nI i)))))), (1, .int (nB (a1 && (xEn (nI i))))), (8, .int (nI i)), (7, .int su), (6, .int (nB a6)), (0, .ref 50)]) (st' := [.int 25, .int (nI i)]) (μ' := μ) (by rfl) ?_
                            refine zq_ic hc hH (by rfl) (tg := 181) (by rfl) (fun h14 => ?_) (fun h14 => ?_)
                            · have h14 : (decide ((nI i) = 25)) = true := decide_eq_true (cm_eq9.mp h14)
                              refine z_rcs hc hH 2 (pc' := 186) (lv' := [(5, .int (nB (a5 && (xTe (nI i))))), (4, .int (nB (a4 || (xHo (nI i))))), (3, .int (nB (a3 && (xHo (nI i))))), (2, .int (nB (a2 && (!(xEn (nI i)))))), (1, .int (nB (a1 && (xEn (nI i))))), (8, .int (nI i)), (7, .int su), (6, .int (nB a6)), (0, .ref 50)]) (st' := [.int 1]) (μ' := μ) (by rfl) ?_
                              exact zJ hJ7 rfl (by simp only [h9, h10, h11, h12, h13, h14, lb_f, Int64.or_zero, nB_t, nB_f, Bool.not_true, Bool.not_false, Bool.and_true, Bool.true_and, Bool.false_and, Bool.and_false, Bool.or_true, Bool.true_or, Bool.false_or, Bool.or_false, cond_true, cond_false]) rfl
                            · have h14 : (decide ((nI i) = 25)) = false := decide_eq_false (cn_eq.mp h14)
                              refine z_rcs hc hH 2 (pc' := 178) (lv' := [(5, .int (nB (a5 && (xTe (nI i))))), (4, .int (nB (a4 || (xHo (nI i))))), (3, .int (nB (a3 && (xHo (nI i))))), (2, .int (nB (a2 && (!(xEn (nI i)))))), (1, .int (nB (a1 && (xEn (nI i))))), (8, .int (nI i)), (7, .int su), (6, .int (nB a6)), (0, .ref 50)]) (st' := [.int 32, .int (nI i)]) (μ' := μ) (by rfl) ?_
                              refine zq_ic hc hH (by rfl) (tg := 185) (by rfl) (fun h15 => ?_) (fun h15 => ?_)
                              · have h15 : (decide ((nI i) = 32)) = false := decide_eq_false (cm_ne.mp h15)
                                refine z_rcs hc hH 1 (pc' := 186) (lv' := [(5, .int (nB (a5 && (xTe (nI i))))), (4, .int (nB (a4 || (xHo (nI i))))), (3, .int (nB (a3 && (xHo (nI i))))), (2, .int (nB (a2 && (!(xEn (nI i)))))), (1, .int (nB (a1 && (xEn (nI i))))), (8, .int (nI i)), (7, .int su), (6, .int (nB a6)), (0, .ref 50)]) (st' := [.int 0]) (μ' := μ) (by rfl) ?_
                                exact zJ hJ7 rfl (by simp only [h9, h10, h11, h12, h13, h14, h15, lb_f, Int64.or_zero, nB_t, nB_f, Bool.not_true, Bool.not_false, Bool.and_true, Bool.true_and, Bool.false_and, Bool.and_false, Bool.or_true, Bool.true_or, Bool.false_or, Bool.or_false, cond_true, cond_false]) rfl
                              · have h15 : (decide ((nI i) = 32)) = true := decide_eq_true (cn_ne.mp h15)
                                refine z_rcs hc hH 2 (pc' := 186) (lv' := [(5, .int (nB (a5 && (xTe (nI i))))), (4, .int (nB (a4 || (xHo (nI i))))), (3, .int (nB (a3 && (xHo (nI i))))), (2, .int (nB (a2 && (!(xEn (nI i)))))), (1, .int (nB (a1 && (xEn (nI i))))), (8, .int (nI i)), (7, .int su), (6, .int (nB a6)), (0, .ref 50)]) (st' := [.int 1]) (μ' := μ) (by rfl) ?_
                                exact zJ hJ7 rfl (by simp only [h9, h10, h11, h12, h13, h14, h15, lb_f, Int64.or_zero, nB_t, nB_f, Bool.not_true, Bool.not_false, Bool.and_true, Bool.true_and, Bool.false_and, Bool.and_false, Bool.or_true, Bool.true_or, Bool.false_or, Bool.or_false, cond_true, cond_false]) rfl
                refine zq_if hc hH (by rfl) (tg := 131) (by rfl) (fun h16 => ?_) (fun h16 => ?_)
                · have h16 : (a5) = false := nB_z.mp (cm_eq9.mp h16)
                  refine z_rcs hc hH 1 (pc' := 132) (lv' := [(4, .int (nB (a4 || (xHo (nI i))))), (3, .int (nB (a3 && (xHo (nI i))))), (2, .int (nB (a2 && (!(xEn (nI i)))))), (1, .int (nB (a1 && (xEn (nI i))))), (8, .int (nI i)), (7, .int su), (6, .int (nB a6)), (5, .int (nB a5)), (0, .ref 50)]) (st' := [.int 0]) (μ' := μ) (by rfl) ?_
                  exact zJ hJ6 rfl (by simp only [h16, lb_f, Int64.or_zero, nB_t, nB_f, Bool.not_true, Bool.not_false, Bool.and_true, Bool.true_and, Bool.false_and, Bool.and_false, Bool.or_true, Bool.true_or, Bool.false_or, Bool.or_false, cond_true, cond_false]) rfl
                · have h16 : (a5) = true := nB_n.mp (cn_eq.mp h16)
                  refine z_rcs hc hH 1 (pc' := 121) (lv' := [(4, .int (nB (a4 || (xHo (nI i))))), (3, .int (nB (a3 && (xHo (nI i))))), (2, .int (nB (a2 && (!(xEn (nI i)))))), (1, .int (nB (a1 && (xEn (nI i))))), (8, .int (nI i)), (7, .int su), (6, .int (nB a6)), (5, .int (nB a5)), (0, .ref 50)]) (st' := [.int (nI i)]) (μ' := μ) (by rfl) ?_
                  refine zq_call hc (z_cx_ok hH (by rfl)) (fb_X7_isTerminal d' (by omega) μ (nI i)) (by decide +kernel) (fun r9 μ9 hq => ?_)
                  obtain ⟨hμ9, rfl⟩ := hq
                  rw [hμ9]
                  clear hμ9 μ9
                  show Z 0 124 [(4, .int (nB (a4 || (xHo (nI i))))), (3, .int (nB (a3 && (xHo (nI i))))), (2, .int (nB (a2 && (!(xEn (nI i)))))), (1, .int (nB (a1 && (xEn (nI i))))), (8, .int (nI i)), (7, .int su), (6, .int (nB a6)), (5, .int (nB a5)), (0, .ref 50)] [.int (nB (xTe (nI i)))] μ
                  refine zq_if hc hH (by rfl) (tg := 131) (by rfl) (fun h17 => ?_) (fun h17 => ?_)
                  · have h17 : (xTe (nI i)) = false := nB_z.mp (cm_eq9.mp h17)
                    refine z_rcs hc hH 1 (pc' := 132) (lv' := [(4, .int (nB (a4 || (xHo (nI i))))), (3, .int (nB (a3 && (xHo (nI i))))), (2, .int (nB (a2 && (!(xEn (nI i)))))), (1, .int (nB (a1 && (xEn (nI i))))), (8, .int (nI i)), (7, .int su), (6, .int (nB a6)), (5, .int (nB a5)), (0, .ref 50)]) (st' := [.int 0]) (μ' := μ) (by rfl) ?_
                    exact zJ hJ6 rfl (by simp only [h16, h17, lb_f, Int64.or_zero, nB_t, nB_f, Bool.not_true, Bool.not_false, Bool.and_true, Bool.true_and, Bool.false_and, Bool.and_false, Bool.or_true, Bool.true_or, Bool.false_or, Bool.or_false, cond_true, cond_false]) rfl
                  · have h17 : (xTe (nI i)) = true := nB_n.mp (cn_eq.mp h17)
                    refine z_rcs hc hH 2 (pc' := 132) (lv' := [(4, .int (nB (a4 || (xHo (nI i))))), (3, .int (nB (a3 && (xHo (nI i))))), (2, .int (nB (a2 && (!(xEn (nI i)))))), (1, .int (nB (a1 && (xEn (nI i))))), (8, .int (nI i)), (7, .int su), (6, .int (nB a6)), (5, .int (nB a5)), (0, .ref 50)]) (st' := [.int 1]) (μ' := μ) (by rfl) ?_
                    exact zJ hJ6 rfl (by simp only [h16, h17, lb_f, Int64.or_zero, nB_t, nB_f, Bool.not_true, Bool.not_false, Bool.and_true, Bool.true_and, Bool.false_and, Bool.and_false, Bool.or_true, Bool.true_or, Bool.false_or, Bool.or_false, cond_true, cond_false]) rfl
              refine zq_if hc hH (by rfl) (tg := 107) (by rfl) (fun h18 => ?_) (fun h18 => ?_)
              · have h18 : (a4) = true := nB_n.mp (cm_ne.mp h18)
                refine z_rcs hc hH 2 (pc' := 112) (lv' := [(3, .int (nB (a3 && (xHo (nI i))))), (2, .int (nB (a2 && (!(xEn (nI i)))))), (1, .int (nB (a1 && (xEn (nI i))))), (8, .int (nI i)), (7, .int su), (6, .int (nB a6)), (5, .int (nB a5)), (4, .int (nB a4)), (0, .ref 50)]) (st' := [.int 1]) (μ' := μ) (by rfl) ?_
                exact zJ hJ5 rfl (by simp only [h18, lb_f, Int64.or_zero, nB_t, nB_f, Bool.not_true, Bool.not_false, Bool.and_true, Bool.true_and, Bool.false_and, Bool.and_false, Bool.or_true, Bool.true_or, Bool.false_or, Bool.or_false, cond_true, cond_false]) rfl
              · have h18 : (a4) = false := nB_z.mp (cn_ne.mp h18)
                refine z_rcs hc hH 1 (pc' := 101) (lv' := [(3, .int (nB (a3 && (xHo (nI i))))), (2, .int (nB (a2 && (!(xEn (nI i)))))), (1, .int (nB (a1 && (xEn (nI i))))), (8, .int (nI i)), (7, .int su), (6, .int (nB a6)), (5, .int (nB a5)), (4, .int (nB a4)), (0, .ref 50)]) (st' := [.int (nI i)]) (μ' := μ) (by rfl) ?_
                refine zq_call hc (z_cx_ok hH (by rfl)) (fb_X7_isHonour d' (by omega) μ (nI i)) (by decide +kernel) (fun r9 μ9 hq => ?_)
                obtain ⟨hμ9, rfl⟩ := hq
                rw [hμ9]
                clear hμ9 μ9
                show Z 0 104 [(3, .int (nB (a3 && (xHo (nI i))))), (2, .int (nB (a2 && (!(xEn (nI i)))))), (1, .int (nB (a1 && (xEn (nI i))))), (8, .int (nI i)), (7, .int su), (6, .int (nB a6)), (5, .int (nB a5)), (4, .int (nB a4)), (0, .ref 50)] [.int (nB (xHo (nI i)))] μ
                refine zq_if hc hH (by rfl) (tg := 111) (by rfl) (fun h19 => ?_) (fun h19 => ?_)
                · have h19 : (xHo (nI i)) = false := nB_z.mp (cm_eq9.mp h19)
                  refine z_rcs hc hH 1 (pc' := 112) (lv' := [(3, .int (nB (a3 && (xHo (nI i))))), (2, .int (nB (a2 && (!(xEn (nI i)))))), (1, .int (nB (a1 && (xEn (nI i))))), (8, .int (nI i)), (7, .int su), (6, .int (nB a6)), (5, .int (nB a5)), (4, .int (nB a4)), (0, .ref 50)]) (st' := [.int 0]) (μ' := μ) (by rfl) ?_
                  exact zJ hJ5 rfl (by simp only [h18, h19, lb_f, Int64.or_zero, nB_t, nB_f, Bool.not_true, Bool.not_false, Bool.and_true, Bool.true_and, Bool.false_and, Bool.and_false, Bool.or_true, Bool.true_or, Bool.false_or, Bool.or_false, cond_true, cond_false]) rfl
                · have h19 : (xHo (nI i)) = true := nB_n.mp (cn_eq.mp h19)
                  refine z_rcs hc hH 2 (pc' := 112) (lv' := [(3, .int (nB (a3 && (xHo (nI i))))), (2, .int (nB (a2 && (!(xEn (nI i)))))), (1, .int (nB (a1 && (xEn (nI i))))), (8, .int (nI i)), (7, .int su), (6, .int (nB a6)), (5, .int (nB a5)), (4, .int (nB a4)), (0, .ref 50)]) (st' := [.int 1]) (μ' := μ) (by rfl) ?_
                  exact zJ hJ5 rfl (by simp only [h18, h19, lb_f, Int64.or_zero, nB_t, nB_f, Bool.not_true, Bool.not_false, Bool.and_true, Bool.true_and, Bool.false_and, Bool.and_false, Bool.or_true, Bool.true_or, Bool.false_or, Bool.or_false, cond_true, cond_false]) rfl
            refine zq_if hc hH (by rfl) (tg := 92) (by rfl) (fun h20 => ?_) (fun h20 => ?_)
            · have h20 : (a3) = false := nB_z.mp (cm_eq9.mp h20)
              refine z_rcs hc hH 1 (pc' := 93) (lv' := [(2, .int (nB (a2 && (!(xEn (nI i)))))), (1, .int (nB (a1 && (xEn (nI i))))), (8, .int (nI i)), (7, .int su), (6, .int (nB a6)), (5, .int (nB a5)), (4, .int (nB a4)), (3, .int (nB a3)), (0, .ref 50)]) (st' := [.int 0]) (μ' := μ) (by rfl) ?_
              exact zJ hJ4 rfl (by simp only [h20, lb_f, Int64.or_zero, nB_t, nB_f, Bool.not_true, Bool.not_false, Bool.and_true, Bool.true_and, Bool.false_and, Bool.and_false, Bool.or_true, Bool.true_or, Bool.false_or, Bool.or_false, cond_true, cond_false]) rfl
            · have h20 : (a3) = true := nB_n.mp (cn_eq.mp h20)
              refine z_rcs hc hH 1 (pc' := 82) (lv' := [(2, .int (nB (a2 && (!(xEn (nI i)))))), (1, .int (nB (a1 && (xEn (nI i))))), (8, .int (nI i)), (7, .int su), (6, .int (nB a6)), (5, .int (nB a5)), (4, .int (nB a4)), (3, .int (nB a3)), (0, .ref 50)]) (st' := [.int (nI i)]) (μ' := μ) (by rfl) ?_
              refine zq_call hc (z_cx_ok hH (by rfl)) (fb_X7_isHonour d' (by omega) μ (nI i)) (by decide +kernel) (fun r9 μ9 hq => ?_)
              obtain ⟨hμ9, rfl⟩ := hq
              rw [hμ9]
              clear hμ9 μ9
              show Z 0 85 [(2, .int (nB (a2 && (!(xEn (nI i)))))), (1, .int (nB (a1 && (xEn (nI i))))), (8, .int (nI i)), (7, .int su), (6, .int (nB a6)), (5, .int (nB a5)), (4, .int (nB a4)), (3, .int (nB a3)), (0, .ref 50)] [.int (nB (xHo (nI i)))] μ
              refine zq_if hc hH (by rfl) (tg := 92) (by rfl) (fun h21 => ?_) (fun h21 => ?_)
              · have h21 : (xHo (nI i)) = false := nB_z.mp (cm_eq9.mp h21)
                refine z_rcs hc hH 1 (pc' := 93) (lv' := [(2, .int (nB (a2 && (!(xEn (nI i)))))), (1, .int (nB (a1 && (xEn (nI i))))), (8, .int (nI i)), (7, .int su), (6, .int (nB a6)), (5, .int (nB a5)), (4, .int (nB a4)), (3, .int (nB a3)), (0, .ref 50)]) (st' := [.int 0]) (μ' := μ) (by rfl) ?_
                exact zJ hJ4 rfl (by simp only [h20, h21, lb_f, Int64.or_zero, nB_t, nB_f, Bool.not_true, Bool.not_false, Bool.and_true, Bool.true_and, Bool.false_and, Bool.and_false, Bool.or_true, Bool.true_or, Bool.false_or, Bool.or_false, cond_true, cond_false]) rfl
              · have h21 : (xHo (nI i)) = true := nB_n.mp (cn_eq.mp h21)
                refine z_rcs hc hH 2 (pc' := 93) (lv' := [(2, .int (nB (a2 && (!(xEn (nI i)))))), (1, .int (nB (a1 && (xEn (nI i))))), (8, .int (nI i)), (7, .int su), (6, .int (nB a6)), (5, .int (nB a5)), (4, .int (nB a4)), (3, .int (nB a3)), (0, .ref 50)]) (st' := [.int 1]) (μ' := μ) (by rfl) ?_
                exact zJ hJ4 rfl (by simp only [h20, h21, lb_f, Int64.or_zero, nB_t, nB_f, Bool.not_true, Bool.not_false, Bool.and_true, Bool.true_and, Bool.false_and, Bool.and_false, Bool.or_true, Bool.true_or, Bool.false_or, Bool.or_false, cond_true, cond_false]) rfl
          refine zq_if hc hH (by rfl) (tg := 74) (by rfl) (fun h22 => ?_) (fun h22 => ?_)
          · have h22 : (a2) = false := nB_z.mp (cm_eq9.mp h22)
            refine z_rcs hc hH 1 (pc' := 75) (lv' := [(1, .int (nB (a1 && (xEn (nI i))))), (8, .int (nI i)), (7, .int su), (6, .int (nB a6)), (5, .int (nB a5)), (4, .int (nB a4)), (3, .int (nB a3)), (2, .int (nB a2)), (0, .ref 50)]) (st' := [.int 0]) (μ' := μ) (by rfl) ?_
            exact zJ hJ3 rfl (by simp only [h22, lb_f, Int64.or_zero, nB_t, nB_f, Bool.not_true, Bool.not_false, Bool.and_true, Bool.true_and, Bool.false_and, Bool.and_false, Bool.or_true, Bool.true_or, Bool.false_or, Bool.or_false, cond_true, cond_false]) rfl
          · have h22 : (a2) = true := nB_n.mp (cn_eq.mp h22)
            refine z_rcs hc hH 1 (pc' := 64) (lv' := [(1, .int (nB (a1 && (xEn (nI i))))), (8, .int (nI i)), (7, .int su), (6, .int (nB a6)), (5, .int (nB a5)), (4, .int (nB a4)), (3, .int (nB a3)), (2, .int (nB a2)), (0, .ref 50)]) (st' := [.int (nI i)]) (μ' := μ) (by rfl) ?_
            refine zq_call hc (z_cx_ok hH (by rfl)) (fb_X7_isEnd d' (by omega) μ (nI i)) (by decide +kernel) (fun r9 μ9 hq => ?_)
            obtain ⟨hμ9, rfl⟩ := hq
            rw [hμ9]
            clear hμ9 μ9
            show Z 0 67 [(1, .int (nB (a1 && (xEn (nI i))))), (8, .int (nI i)), (7, .int su), (6, .int (nB a6)), (5, .int (nB a5)), (4, .int (nB a4)), (3, .int (nB a3)), (2, .int (nB a2)), (0, .ref 50)] [.int (nB (xEn (nI i)))] μ
            refine zq_if hc hH (by rfl) (tg := 74) (by rfl) (fun h23 => ?_) (fun h23 => ?_)
            · have h23 : (xEn (nI i)) = true := nB_n.mp (cm_ne.mp h23)
              refine z_rcs hc hH 1 (pc' := 75) (lv' := [(1, .int (nB (a1 && (xEn (nI i))))), (8, .int (nI i)), (7, .int su), (6, .int (nB a6)), (5, .int (nB a5)), (4, .int (nB a4)), (3, .int (nB a3)), (2, .int (nB a2)), (0, .ref 50)]) (st' := [.int 0]) (μ' := μ) (by rfl) ?_
              exact zJ hJ3 rfl (by simp only [h22, h23, lb_f, Int64.or_zero, nB_t, nB_f, Bool.not_true, Bool.not_false, Bool.and_true, Bool.true_and, Bool.false_and, Bool.and_false, Bool.or_true, Bool.true_or, Bool.false_or, Bool.or_false, cond_true, cond_false]) rfl
            · have h23 : (xEn (nI i)) = false := nB_z.mp (cn_ne.mp h23)
              refine z_rcs hc hH 2 (pc' := 75) (lv' := [(1, .int (nB (a1 && (xEn (nI i))))), (8, .int (nI i)), (7, .int su), (6, .int (nB a6)), (5, .int (nB a5)), (4, .int (nB a4)), (3, .int (nB a3)), (2, .int (nB a2)), (0, .ref 50)]) (st' := [.int 1]) (μ' := μ) (by rfl) ?_
              exact zJ hJ3 rfl (by simp only [h22, h23, lb_f, Int64.or_zero, nB_t, nB_f, Bool.not_true, Bool.not_false, Bool.and_true, Bool.true_and, Bool.false_and, Bool.and_false, Bool.or_true, Bool.true_or, Bool.false_or, Bool.or_false, cond_true, cond_false]) rfl
        refine zq_if hc hH (by rfl) (tg := 56) (by rfl) (fun h24 => ?_) (fun h24 => ?_)
        · have h24 : (a1) = false := nB_z.mp (cm_eq9.mp h24)
          refine z_rcs hc hH 1 (pc' := 57) (lv' := [(8, .int (nI i)), (7, .int su), (6, .int (nB a6)), (5, .int (nB a5)), (4, .int (nB a4)), (3, .int (nB a3)), (2, .int (nB a2)), (1, .int (nB a1)), (0, .ref 50)]) (st' := [.int 0]) (μ' := μ) (by rfl) ?_
          exact zJ hJ2 rfl (by simp only [h24, lb_f, Int64.or_zero, nB_t, nB_f, Bool.not_true, Bool.not_false, Bool.and_true, Bool.true_and, Bool.false_and, Bool.and_false, Bool.or_true, Bool.true_or, Bool.false_or, Bool.or_false, cond_true, cond_false]) rfl
        · have h24 : (a1) = true := nB_n.mp (cn_eq.mp h24)
          refine z_rcs hc hH 1 (pc' := 46) (lv' := [(8, .int (nI i)), (7, .int su), (6, .int (nB a6)), (5, .int (nB a5)), (4, .int (nB a4)), (3, .int (nB a3)), (2, .int (nB a2)), (1, .int (nB a1)), (0, .ref 50)]) (st' := [.int (nI i)]) (μ' := μ) (by rfl) ?_
          refine zq_call hc (z_cx_ok hH (by rfl)) (fb_X7_isEnd d' (by omega) μ (nI i)) (by decide +kernel) (fun r9 μ9 hq => ?_)
          obtain ⟨hμ9, rfl⟩ := hq
          rw [hμ9]
          clear hμ9 μ9
          show Z 0 49 [(8, .int (nI i)), (7, .int su), (6, .int (nB a6)), (5, .int (nB a5)), (4, .int (nB a4)), (3, .int (nB a3)), (2, .int (nB a2)), (1, .int (nB a1)), (0, .ref 50)] [.int (nB (xEn (nI i)))] μ
          refine zq_if hc hH (by rfl) (tg := 56) (by rfl) (fun h25 => ?_) (fun h25 => ?_)
          · have h25 : (xEn (nI i)) = false := nB_z.mp (cm_eq9.mp h25)
            refine z_rcs hc hH 1 (pc' := 57) (lv' := [(8, .int (nI i)), (7, .int su), (6, .int (nB a6)), (5, .int (nB a5)), (4, .int (nB a4)), (3, .int (nB a3)), (2, .int (nB a2)), (1, .int (nB a1)), (0, .ref 50)]) (st' := [.int 0]) (μ' := μ) (by rfl) ?_
            exact zJ hJ2 rfl (by simp only [h24, h25, lb_f, Int64.or_zero, nB_t, nB_f, Bool.not_true, Bool.not_false, Bool.and_true, Bool.true_and, Bool.false_and, Bool.and_false, Bool.or_true, Bool.true_or, Bool.false_or, Bool.or_false, cond_true, cond_false]) rfl
          · have h25 : (xEn (nI i)) = true := nB_n.mp (cn_eq.mp h25)
            refine z_rcs hc hH 2 (pc' := 57) (lv' := [(8, .int (nI i)), (7, .int su), (6, .int (nB a6)), (5, .int (nB a5)), (4, .int (nB a4)), (3, .int (nB a3)), (2, .int (nB a2)), (1, .int (nB a1)), (0, .ref 50)]) (st' := [.int 1]) (μ' := μ) (by rfl) ?_
            exact zJ hJ2 rfl (by simp only [h24, h25, lb_f, Int64.or_zero, nB_t, nB_f, Bool.not_true, Bool.not_false, Bool.and_true, Bool.true_and, Bool.false_and, Bool.and_false, Bool.or_true, Bool.true_or, Bool.false_or, Bool.or_false, cond_true, cond_false]) rfl
      · have h1 : (decide ((ofv (μ.1 58 i) (μ.1 52) (μ.1 53) (nI i) q) = 0)) = true := decide_eq_true (cn_ne.mp h1)
        refine z_rcs hc hH 3 (pc' := 21) (lv' := [(8, .int ((nI i) + 1)), (7, .int su), (6, .int (nB a6)), (5, .int (nB a5)), (4, .int (nB a4)), (3, .int (nB a3)), (2, .int (nB a2)), (1, .int (nB a1)), (0, .ref 50)]) (st' := []) (μ' := μ) (by rfl) ?_
        rw [nI_1]
        refine (ih (i + 1) (a1, a2, a3, a4, a5, a6, su) (by omega) ?_).1
        have e : tSt μ q i (a1, a2, a3, a4, a5, a6, su) = (a1, a2, a3, a4, a5, a6, su) := by unfold tSt; simp only [h1, cond_true, cond_false] <;> rfl
        rw [e] at K; exact K
    have b2 : Z 0 21 [(8, .int (nI i)), (6, .int (nB a6)), (5, .int (nB a5)), (4, .int (nB a4)), (3, .int (nB a3)), (2, .int (nB a2)), (1, .int (nB a1)), (7, .int su), (0, .ref 50)] [] μ := by
      refine z_rcs hc hH 2 (pc' := 25) (lv' := [(8, .int (nI i)), (6, .int (nB a6)), (5, .int (nB a5)), (4, .int (nB a4)), (3, .int (nB a3)), (2, .int (nB a2)), (1, .int (nB a1)), (7, .int su), (0, .ref 50)]) (st' := [.int 34, .int (nI i)]) (μ' := μ) (by rfl) ?_
      refine zq_ic hc hH (by rfl) (tg := 213) (by rfl) (fun h9 => (zb_t h9 (ge_nI (n := 34) (i := i) (by omega) (by decide))).elim) (fun _ => ?_)
      refine z_rcs hc hH 2 (pc' := 31) (lv' := [(8, .int (nI i)), (6, .int (nB a6)), (5, .int (nB a5)), (4, .int (nB a4)), (3, .int (nB a3)), (2, .int (nB a2)), (1, .int (nB a1)), (7, .int su), (0, .ref 50)]) (st' := [.int (nI i), .ref 50]) (μ' := μ) (by rfl) ?_
      refine zq_call hc (z_cx_ok hH (by rfl)) (fc_X7_of d' (by omega) μ (nI i) hin q hq e4) (by decide +kernel) (fun r9 μ9 hq => ?_)
      obtain ⟨hμ9, rfl⟩ := hq
      rw [hμ9]
      clear hμ9 μ9
      show Z 0 34 [(8, .int (nI i)), (6, .int (nB a6)), (5, .int (nB a5)), (4, .int (nB a4)), (3, .int (nB a3)), (2, .int (nB a2)), (1, .int (nB a1)), (7, .int su), (0, .ref 50)] [.int (ofv (μ.1 58 (nI i).toNatClampNeg) (μ.1 52) (μ.1 53) (nI i) q)] μ
      rw [cl]
      refine zq_if hc hH (by rfl) (tg := 40) (by rfl) (fun h1 => ?_) (fun h1 => ?_)
      · have h1 : (decide ((ofv (μ.1 58 i) (μ.1 52) (μ.1 53) (nI i) q) = 0)) = false := decide_eq_false (cm_ne.mp h1)
        refine z_rcs hc hH 1 (pc' := 41) (lv' := [(8, .int (nI i)), (6, .int (nB a6)), (5, .int (nB a5)), (4, .int (nB a4)), (3, .int (nB a3)), (2, .int (nB a2)), (1, .int (nB a1)), (7, .int su), (0, .ref 50)]) (st' := [.int (nB a1)]) (μ' := μ) (by rfl) ?_
        have hJ2 : Z 0 57 [(8, .int (nI i)), (6, .int (nB a6)), (5, .int (nB a5)), (4, .int (nB a4)), (3, .int (nB a3)), (2, .int (nB a2)), (1, .int (nB a1)), (7, .int su), (0, .ref 50)] [.int (nB (a1 && (xEn (nI i))))] μ := by
          refine z_rcs hc hH 2 (pc' := 59) (lv' := [(1, .int (nB (a1 && (xEn (nI i))))), (8, .int (nI i)), (6, .int (nB a6)), (5, .int (nB a5)), (4, .int (nB a4)), (3, .int (nB a3)), (2, .int (nB a2)), (7, .int su), (0, .ref 50)]) (st' := [.int (nB a2)]) (μ' := μ) (by rfl) ?_
          have hJ3 : Z 0 75 [(1, .int (nB (a1 && (xEn (nI i))))), (8, .int (nI i)), (6, .int (nB a6)), (5, .int (nB a5)), (4, .int (nB a4)), (3, .int (nB a3)), (2, .int (nB a2)), (7, .int su), (0, .ref 50)] [.int (nB (a2 && (!(xEn (nI i)))))] μ := by
            refine z_rcs hc hH 2 (pc' := 77) (lv' := [(2, .int (nB (a2 && (!(xEn (nI i)))))), (1, .int (nB (a1 && (xEn (nI i))))), (8, .int (nI i)), (6, .int (nB a6)), (5, .int (nB a5)), (4, .int (nB a4)), (3, .int (nB a3)), (7, .int su), (0, .ref 50)]) (st' := [.int (nB a3)]) (μ' := μ) (by rfl) ?_
            have hJ4 : Z 0 93 [(2, .int (nB (a2 && (!(xEn (nI i)))))), (1, .int (nB (a1 && (xEn (nI i))))), (8, .int (nI i)), (6, .int (nB a6)), (5, .int (nB a5)), (4, .int (nB a4)), (3, .int (nB a3)), (7, .int su), (0, .ref 50)] [.int (nB (a3 && (xHo (nI i))))] μ := by
              refine z_rcs hc hH 2 (pc' := 96) (lv' := [(3, .int (nB (a3 && (xHo (nI i))))), (2, .int (nB (a2 && (!(xEn (nI i)))))), (1, .int (nB (a1 && (xEn (nI i))))), (8, .int (nI i)), (6, .int (nB a6)), (5, .int (nB a5)), (4, .int (nB a4)), (7, .int su), (0, .ref 50)]) (st' := [.int (nB a4)]) (μ' := μ) (by rfl) ?_
              have hJ5 : Z 0 112 [(3, .int (nB (a3 && (xHo (nI i))))), (2, .int (nB (a2 && (!(xEn (nI i)))))), (1, .int (nB (a1 && (xEn (nI i))))), (8, .int (nI i)), (6, .int (nB a6)), (5, .int (nB a5)), (4, .int (nB a4)), (7, .int su), (0, .ref 50)] [.int (nB (a4 || (xHo (nI i))))] μ := by
                refine z_rcs hc hH 2 (pc' := 116) (lv' := [(4, .int (nB (a4 || (xHo (nI i))))), (3, .int (nB (a3 && (xHo (nI i))))), (2, .int (nB (a2 && (!(xEn (nI i)))))), (1, .int (nB (a1 && (xEn (nI i))))), (8, .int (nI i)), (6, .int (nB a6)), (5, .int (nB a5)), (7, .int su), (0, .ref 50)]) (st' := [.int (nB a5)]) (μ' := μ) (by rfl) ?_
                have hJ6 : Z 0 132 [(4, .int (nB (a4 || (xHo (nI i))))), (3, .int (nB (a3 && (xHo (nI i))))), (2, .int (nB (a2 && (!(xEn (nI i)))))), (1, .int (nB (a1 && (xEn (nI i))))), (8, .int (nI i)), (6, .int (nB a6)), (5, .int (nB a5)), (7, .int su), (0, .ref 50)] [.int (nB (a5 && (xTe (nI i))))] μ := by
                  refine z_rcs hc hH 2 (pc' := 136) (lv' := [(5, .int (nB (a5 && (xTe (nI i))))), (4, .int (nB (a4 || (xHo (nI i))))), (3, .int (nB (a3 && (xHo (nI i))))), (2, .int (nB (a2 && (!(xEn (nI i)))))), (1, .int (nB (a1 && (xEn (nI i))))), (8, .int (nI i)), (6, .int (nB a6)), (7, .int su), (0, .ref 50)]) (st' := [.int (nB a6)]) (μ' := μ) (by rfl) ?_
                  have hJ7 : Z 0 186 [(5, .int (nB (a5 && (xTe (nI i))))), (4, .int (nB (a4 || (xHo (nI i))))), (3, .int (nB (a3 && (xHo (nI i))))), (2, .int (nB (a2 && (!(xEn (nI i)))))), (1, .int (nB (a1 && (xEn (nI i))))), (8, .int (nI i)), (6, .int (nB a6)), (7, .int su), (0, .ref 50)] [.int (nB (a6 && ((decide ((nI i) = 19)) || ((decide ((nI i) = 20)) || ((decide ((nI i) = 21)) || ((decide ((nI i) = 23)) || ((decide ((nI i) = 25)) || (decide ((nI i) = 32)))))))))] μ := by
                    refine z_rcs hc hH 3 (pc' := 192) (lv' := [(6, .int (nB (a6 && ((decide ((nI i) = 19)) || ((decide ((nI i) = 20)) || ((decide ((nI i) = 21)) || ((decide ((nI i) = 23)) || ((decide ((nI i) = 25)) || (decide ((nI i) = 32)))))))))), (5, .int (nB (a5 && (xTe (nI i))))), (4, .int (nB (a4 || (xHo (nI i))))), (3, .int (nB (a3 && (xHo (nI i))))), (2, .int (nB (a2 && (!(xEn (nI i)))))), (1, .int (nB (a1 && (xEn (nI i))))), (8, .int (nI i)), (7, .int su), (0, .ref 50)]) (st' := [.int 27, .int (nI i)]) (μ' := μ) (by rfl) ?_
                    refine zq_ic hc hH (by rfl) (tg := 207) (by rfl) (fun h8 => ?_) (fun h8 => ?_)
                    · have h8 : (decide (27 ≤ (nI i))) = true := decide_eq_true (cm_ge.mp h8)
                      refine z_rcs hc hH 2 (pc' := 21) (lv' := [(8, .int ((nI i) + 1)), (6, .int (nB (a6 && ((decide ((nI i) = 19)) || ((decide ((nI i) = 20)) || ((decide ((nI i) = 21)) || ((decide ((nI i) = 23)) || ((decide ((nI i) = 25)) || (decide ((nI i) = 32)))))))))), (5, .int (nB (a5 && (xTe (nI i))))), (4, .int (nB (a4 || (xHo (nI i))))), (3, .int (nB (a3 && (xHo (nI i))))), (2, .int (nB (a2 && (!(xEn (nI i)))))), (1, .int (nB (a1 && (xEn (nI i))))), (7, .int su), (0, .ref 50)]) (st' := []) (μ' := μ) (by rfl) ?_
                      rw [nI_1]
                      refine (ih (i + 1) (a1 && (xEn (nI i)), a2 && (!(xEn (nI i))), a3 && (xHo (nI i)), a4 || (xHo (nI i)), a5 && (xTe (nI i)), a6 && ((decide ((nI i) = 19)) || ((decide ((nI i) = 20)) || ((decide ((nI i) = 21)) || ((decide ((nI i) = 23)) || ((decide ((nI i) = 25)) || (decide ((nI i) = 32))))))), su) (by omega) ?_).2
                      have e : tSt μ q i (a1, a2, a3, a4, a5, a6, su) = (a1 && (xEn (nI i)), a2 && (!(xEn (nI i))), a3 && (xHo (nI i)), a4 || (xHo (nI i)), a5 && (xTe (nI i)), a6 && ((decide ((nI i) = 19)) || ((decide ((nI i) = 20)) || ((decide ((nI i) = 21)) || ((decide ((nI i) = 23)) || ((decide ((nI i) = 25)) || (decide ((nI i) = 32))))))), su) := by unfold tSt; simp only [h1, h8, cond_true, cond_false] <;> rfl
                      rw [e] at K; exact K
                    · have h8 : (decide (27 ≤ (nI i))) = false := decide_eq_false (cn_ge.mp h8)
                      refine z_rcs hc hH 10 (pc' := 21) (lv' := [(8, .int ((nI i) + 1)), (7, .int (su ||| (1 <<< (((nI i) / 9) &&& 31)))), (6, .int (nB (a6 && ((decide ((nI i) = 19)) || ((decide ((nI i) = 20)) || ((decide ((nI i) = 21)) || ((decide ((nI i) = 23)) || ((decide ((nI i) = 25)) || (decide ((nI i) = 32)))))))))), (5, .int (nB (a5 && (xTe (nI i))))), (4, .int (nB (a4 || (xHo (nI i))))), (3, .int (nB (a3 && (xHo (nI i))))), (2, .int (nB (a2 && (!(xEn (nI i)))))), (1, .int (nB (a1 && (xEn (nI i))))), (0, .ref 50)]) (st' := []) (μ' := μ) (by rfl) ?_
                      rw [nI_1]
                      refine (ih (i + 1) (a1 && (xEn (nI i)), a2 && (!(xEn (nI i))), a3 && (xHo (nI i)), a4 || (xHo (nI i)), a5 && (xTe (nI i)), a6 && ((decide ((nI i) = 19)) || ((decide ((nI i) = 20)) || ((decide ((nI i) = 21)) || ((decide ((nI i) = 23)) || ((decide ((nI i) = 25)) || (decide ((nI i) = 32))))))), su ||| (1 <<< (((nI i) / 9) &&& 31))) (by omega) ?_).1
                      have e : tSt μ q i (a1, a2, a3, a4, a5, a6, su) = (a1 && (xEn (nI i)), a2 && (!(xEn (nI i))), a3 && (xHo (nI i)), a4 || (xHo (nI i)), a5 && (xTe (nI i)), a6 && ((decide ((nI i) = 19)) || ((decide ((nI i) = 20)) || ((decide ((nI i) = 21)) || ((decide ((nI i) = 23)) || ((decide ((nI i) = 25)) || (decide ((nI i) = 32))))))), su ||| (1 <<< (((nI i) / 9) &&& 31))) := by unfold tSt; simp only [h1, h8, cond_true, cond_false] <;> rfl
                      rw [e] at K; exact K
                  refine zq_if hc hH (by rfl) (tg := 185) (by rfl) (fun h9 => ?_) (fun h9 => ?_)
                  · have h9 : (a6) = false := nB_z.mp (cm_eq9.mp h9)
                    refine z_rcs hc hH 1 (pc' := 186) (lv' := [(5, .int (nB (a5 && (xTe (nI i))))), (4, .int (nB (a4 || (xHo (nI i))))), (3, .int (nB (a3 && (xHo (nI i))))), (2, .int (nB (a2 && (!(xEn (nI i)))))), (1, .int (nB (a1 && (xEn (nI i))))), (8, .int (nI i)), (6, .int (nB a6)), (7, .int su), (0, .ref 50)]) (st' := [.int 0]) (μ' := μ) (by rfl) ?_
                    exact zJ hJ7 rfl (by simp only [h9, lb_f, Int64.or_zero, nB_t, nB_f, Bool.not_true, Bool.not_false, Bool.and_true, Bool.true_and, Bool.false_and, Bool.and_false, Bool.or_true, Bool.true_or, Bool.false_or, Bool.or_false, cond_true, cond_false]) rfl
                  · have h9 : (a6) = true := nB_n.mp (cn_eq.mp h9)
                    refine z_rcs hc hH 2 (pc' := 143) (lv' := [(5, .int (nB (a5 && (xTe (nI i))))), (4, .int (nB (a4 || (xHo (nI i))))), (3, .int (nB (a3 && (xHo (nI i))))), (2, .int (nB (a2 && (!(xEn (nI i)))))), (1, .int (nB (a1 && (xEn (nI i))))), (8, .int (nI i)), (6, .int (nB a6)), (7, .int su), (0, .ref 50)]) (st' := [.int 19, .int (nI i)]) (μ' := μ) (by rfl) ?_
                    refine zq_ic hc hH (by rfl) (tg := 181) (by rfl) (fun h10 => ?_) (fun h10 => ?_)
                    · have h10 : (decide ((nI i) = 19)) = true := decide_eq_true (cm_eq9.mp h10)
                      refine z_rcs hc hH 2 (pc' := 186) (lv' := [(5, .int (nB (a5 && (xTe (nI i))))), (4, .int (nB (a4 || (xHo (nI i))))), (3, .int (nB (a3 && (xHo (nI i))))), (2, .int (nB (a2 && (!(xEn (nI i)))))), (1, .int (nB (a1 && (xEn (nI i))))), (8, .int (nI i)), (6, .int (nB a6)), (7, .int su), (0, .ref 50)]) (st' := [.int 1]) (μ' := μ) (by rfl) ?_
                      exact zJ hJ7 rfl (by simp only [h9, h10, lb_f, Int64.or_zero, nB_t, nB_f, Bool.not_true, Bool.not_false, Bool.and_true, Bool.true_and, Bool.false_and, Bool.and_false, Bool.or_true, Bool.true_or, Bool.false_or, Bool.or_false, cond_true, cond_false]) rfl
                    · have h10 : (decide ((nI i) = 19)) = false := decide_eq_false (cn_eq.mp h10)
                      refine z_rcs hc hH 2 (pc' := 150) (lv' := [(5, .int (nB (a5 && (xTe (nI i))))), (4, .int (nB (a4 || (xHo (nI i))))), (3, .int (nB (a3 && (xHo (nI i))))), (2, .int (nB (a2 && (!(xEn (nI i)))))), (1, .int (nB (a1 && (xEn (nI i))))), (8, .int (nI i)), (6, .int (nB a6)), (7, .int su), (0, .ref 50)]) (st' := [.int 20, .int (nI i)]) (μ' := μ) (by rfl) ?_
                      refine zq_ic hc hH (by rfl) (tg := 181) (by rfl) (fun h11 => ?_) (fun h11 => ?_)
                      · have h11 : (decide ((nI i) = 20)) = true := decide_eq_true (cm_eq9.mp h11)
                        refine z_rcs hc hH 2 (pc' := 186) (lv' := [(5, .int (nB (a5 && (xTe (nI i))))), (4, .int (nB (a4 || (xHo (nI i))))), (3, .int (nB (a3 && (xHo (nI i))))), (2, .int (nB (a2 && (!(xEn (nI i)))))), (1, .int (nB (a1 && (xEn (nI i))))), (8, .int (nI i)), (6, .int (nB a6)), (7, .int su), (0, .ref 50)]) (st' := [.int 1]) (μ' := μ) (by rfl) ?_
                        exact zJ hJ7 rfl (by simp only [h9, h10, h11, lb_f, Int64.or_zero, nB_t, nB_f, Bool.not_true, Bool.not_false, Bool.and_true, Bool.true_and, Bool.false_and, Bool.and_false, Bool.or_true, Bool.true_or, Bool.false_or, Bool.or_false, cond_true, cond_false]) rfl
                      · have h11 : (decide ((nI i) = 20)) = false := decide_eq_false (cn_eq.mp h11)
                        refine z_rcs hc hH 2 (pc' := 157) (lv' := [(5, .int (nB (a5 && (xTe (nI i))))), (4, .int (nB (a4 || (xHo (nI i))))), (3, .int (nB (a3 && (xHo (nI i))))), (2, .int (nB (a2 && (!(xEn (nI i)))))), (1, .int (nB (a1 && (xEn (nI i))))), (8, .int (nI i)), (6, .int (nB a6)), (7, .int su), (0, .ref 50)]) (st' := [.int 21, .int (nI i)]) (μ' := μ) (by rfl) ?_
                        refine zq_ic hc hH (by rfl) (tg := 181) (by rfl) (fun h12 => ?_) (fun h12 => ?_)
                        · have h12 : (decide ((nI i) = 21)) = true := decide_eq_true (cm_eq9.mp h12)
                          refine z_rcs hc hH 2 (pc' := 186) (lv' := [(5, .int (nB (a5 && (xTe (nI i))))), (4, .int (nB (a4 || (xHo (nI i))))), (3, .int (nB (a3 && (xHo (nI i))))), (2, .int (nB (a2 && (!(xEn (nI i)))))), (1, .int (nB (a1 && (xEn (nI i))))), (8, .int (nI i)), (6, .int (nB a6)), (7, .int su), (0, .ref 50)]) (st' := [.int 1]) (μ' := μ) (by rfl) ?_
                          exact zJ hJ7 rfl (by simp only [h9, h10, h11, h12, lb_f, Int64.or_zero, nB_t, nB_f, Bool.not_true, Bool.not_false, Bool.and_true, Bool.true_and, Bool.false_and, Bool.and_false, Bool.or_true, Bool.true_or, Bool.false_or, Bool.or_false, cond_true, cond_false]) rfl
                        · have h12 : (decide ((nI i) = 21)) = false := decide_eq_false (cn_eq.mp h12)
                          refine z_rcs hc hH 2 (pc' := 164) (lv' := [(5, .int (nB (a5 && (xTe (nI i))))), (4, .int (nB (a4 || (xHo (nI i))))), (3, .int (nB (a3 && (xHo (nI i))))), (2, .int (nB (a2 && (!(xEn (nI i)))))), (1, .int (nB (a1 && (xEn (nI i))))), (8, .int (nI i)), (6, .int (nB a6)), (7, .int su), (0, .ref 50)]) (st' := [.int 23, .int (nI i)]) (μ' := μ) (by rfl) ?_
                          refine zq_ic hc hH (by rfl) (tg := 181) (by rfl) (fun h13 => ?_) (fun h13 => ?_)
                          · have h13 : (decide ((nI i) = 23)) = true := decide_eq_true (cm_eq9.mp h13)
                            refine z_rcs hc hH 2 (pc' := 186) (lv' := [(5, .int (nB (a5 && (xTe (nI i))))), (4, .int (nB (a4 || (xHo (nI i))))), (3, .int (nB (a3 && (xHo (nI i))))), (2, .int (nB (a2 && (!(xEn (nI i)))))), (1, .int (nB (a1 && (xEn (nI i))))), (8, .int (nI i)), (6, .int (nB a6)), (7, .int su), (0, .ref 50)]) (st' := [.int 1]) (μ' := μ) (by rfl) ?_
                            exact zJ hJ7 rfl (by simp only [h9, h10, h11, h12, h13, lb_f, Int64.or_zero, nB_t, nB_f, Bool.not_true, Bool.not_false, Bool.and_true, Bool.true_and, Bool.false_and, Bool.and_false, Bool.or_true, Bool.true_or, Bool.false_or, Bool.or_false, cond_true, cond_false]) rfl
                          · have h13 : (decide ((nI i) = 23)) = false := decide_eq_false (cn_eq.mp h13)
                            refine z_rcs hc hH 2 (pc' := 171) (lv' := [(5, .int (nB (a5 && (xTe (nI i))))), (4, .int (nB (a4 || (xHo (nI i))))), (3, .int (nB (a3 && (xHo (nI i))))), (2, .int (nB (a2 && (!(xEn (nI i)))))), (1, .int (nB (a1 && (xEn (nI i))))), (8, .int (nI i)), (6, .int (nB a6)), (7, .int su), (0, .ref 50)]) (st' := [.int 25, .int (nI i)]) (μ' := μ) (by rfl) ?_
                            refine zq_ic hc hH (by rfl) (tg := 181) (by rfl) (fun h14 => ?_) (fun h14 => ?_)
                            · have h14 : (decide ((nI i) = 25)) = true := decide_eq_true (cm_eq9.mp h14)
                              refine z_rcs hc hH 2 (pc' := 186) (lv' := [(5, .int (nB (a5 && (xTe (nI i))))), (4, .int (nB (a4 || (xHo (nI i))))), (3, .int (nB (a3 && (xHo (nI i))))), (2, .int (nB (a2 && (!(xEn (nI i)))))), (1, .int (nB (a1 && (xEn (nI i))))), (8, .int (nI i)), (6, .int (nB a6)), (7, .int su), (0, .ref 50)]) (st' := [.int 1]) (μ' := μ) (by rfl) ?_
                              exact zJ hJ7 rfl (by simp only [h9, h10, h11, h12, h13, h14, lb_f, Int64.or_zero, nB_t, nB_f, Bool.not_true, Bool.not_false, Bool.and_true, Bool.true_and, Bool.false_and, Bool.and_false, Bool.or_true, Bool.true_or, Bool.false_or, Bool.or_false, cond_true, cond_false]) rfl
                            · have h14 : (decide ((nI i) = 25)) = false := decide_eq_false (cn_eq.mp h14)
                              refine z_rcs hc hH 2 (pc' := 178) (lv' := [(5, .int (nB (a5 && (xTe (nI i))))), (4, .int (nB (a4 || (xHo (nI i))))), (3, .int (nB (a3 && (xHo (nI i))))), (2, .int (nB (a2 && (!(xEn (nI i)))))), (1, .int (nB (a1 && (xEn (nI i))))), (8, .int (nI i)), (6, .int (nB a6)), (7, .int su), (0, .ref 50)]) (st' := [.int 32, .int (nI i)]) (μ' := μ) (by rfl) ?_
                              refine zq_ic hc hH (by rfl) (tg := 185) (by rfl) (fun h15 => ?_) (fun h15 => ?_)
                              · have h15 : (decide ((nI i) = 32)) = false := decide_eq_false (cm_ne.mp h15)
                                refine z_rcs hc hH 1 (pc' := 186) (lv' := [(5, .int (nB (a5 && (xTe (nI i))))), (4, .int (nB (a4 || (xHo (nI i))))), (3, .int (nB (a3 && (xHo (nI i))))), (2, .int (nB (a2 && (!(xEn (nI i)))))), (1, .int (nB (a1 && (xEn (nI i))))), (8, .int (nI i)), (6, .int (nB a6)), (7, .int su), (0, .ref 50)]) (st' := [.int 0]) (μ' := μ) (by rfl) ?_
                                exact zJ hJ7 rfl (by simp only [h9, h10, h11, h12, h13, h14, h15, lb_f, Int64.or_zero, nB_t, nB_f, Bool.not_true, Bool.not_false, Bool.and_true, Bool.true_and, Bool.false_and, Bool.and_false, Bool.or_true, Bool.true_or, Bool.false_or, Bool.or_false, cond_true, cond_false]) rfl
                              · have h15 : (decide ((nI i) = 32)) = true := decide_eq_true (cn_ne.mp h15)
                                refine z_rcs hc hH 2 (pc' := 186) (lv' := [(5, .int (nB (a5 && (xTe (nI i))))), (4, .int (nB (a4 || (xHo (nI i))))), (3, .int (nB (a3 && (xHo (nI i))))), (2, .int (nB (a2 && (!(xEn (nI i)))))), (1, .int (nB (a1 && (xEn (nI i))))), (8, .int (nI i)), (6, .int (nB a6)), (7, .int su), (0, .ref 50)]) (st' := [.int 1]) (μ' := μ) (by rfl) ?_
                                exact zJ hJ7 rfl (by simp only [h9, h10, h11, h12, h13, h14, h15, lb_f, Int64.or_zero, nB_t, nB_f, Bool.not_true, Bool.not_false, Bool.and_true, Bool.true_and, Bool.false_and, Bool.and_false, Bool.or_true, Bool.true_or, Bool.false_or, Bool.or_false, cond_true, cond_false]) rfl
                refine zq_if hc hH (by rfl) (tg := 131) (by rfl) (fun h16 => ?_) (fun h16 => ?_)
                · have h16 : (a5) = false := nB_z.mp (cm_eq9.mp h16)
                  refine z_rcs hc hH 1 (pc' := 132) (lv' := [(4, .int (nB (a4 || (xHo (nI i))))), (3, .int (nB (a3 && (xHo (nI i))))), (2, .int (nB (a2 && (!(xEn (nI i)))))), (1, .int (nB (a1 && (xEn (nI i))))), (8, .int (nI i)), (6, .int (nB a6)), (5, .int (nB a5)), (7, .int su), (0, .ref 50)]) (st' := [.int 0]) (μ' := μ) (by rfl) ?_
                  exact zJ hJ6 rfl (by simp only [h16, lb_f, Int64.or_zero, nB_t, nB_f, Bool.not_true, Bool.not_false, Bool.and_true, Bool.true_and, Bool.false_and, Bool.and_false, Bool.or_true, Bool.true_or, Bool.false_or, Bool.or_false, cond_true, cond_false]) rfl
                · have h16 : (a5) = true := nB_n.mp (cn_eq.mp h16)
                  refine z_rcs hc hH 1 (pc' := 121) (lv' := [(4, .int (nB (a4 || (xHo (nI i))))), (3, .int (nB (a3 && (xHo (nI i))))), (2, .int (nB (a2 && (!(xEn (nI i)))))), (1, .int (nB (a1 && (xEn (nI i))))), (8, .int (nI i)), (6, .int (nB a6)), (5, .int (nB a5)), (7, .int su), (0, .ref 50)]) (st' := [.int (nI i)]) (μ' := μ) (by rfl) ?_
                  refine zq_call hc (z_cx_ok hH (by rfl)) (fb_X7_isTerminal d' (by omega) μ (nI i)) (by decide +kernel) (fun r9 μ9 hq => ?_)
                  obtain ⟨hμ9, rfl⟩ := hq
                  rw [hμ9]
                  clear hμ9 μ9
                  show Z 0 124 [(4, .int (nB (a4 || (xHo (nI i))))), (3, .int (nB (a3 && (xHo (nI i))))), (2, .int (nB (a2 && (!(xEn (nI i)))))), (1, .int (nB (a1 && (xEn (nI i))))), (8, .int (nI i)), (6, .int (nB a6)), (5, .int (nB a5)), (7, .int su), (0, .ref 50)] [.int (nB (xTe (nI i)))] μ
                  refine zq_if hc hH (by rfl) (tg := 131) (by rfl) (fun h17 => ?_) (fun h17 => ?_)
                  · have h17 : (xTe (nI i)) = false := nB_z.mp (cm_eq9.mp h17)
                    refine z_rcs hc hH 1 (pc' := 132) (lv' := [(4, .int (nB (a4 || (xHo (nI i))))), (3, .int (nB (a3 && (xHo (nI i))))), (2, .int (nB (a2 && (!(xEn (nI i)))))), (1, .int (nB (a1 && (xEn (nI i))))), (8, .int (nI i)), (6, .int (nB a6)), (5, .int (nB a5)), (7, .int su), (0, .ref 50)]) (st' := [.int 0]) (μ' := μ) (by rfl) ?_
                    exact zJ hJ6 rfl (by simp only [h16, h17, lb_f, Int64.or_zero, nB_t, nB_f, Bool.not_true, Bool.not_false, Bool.and_true, Bool.true_and, Bool.false_and, Bool.and_false, Bool.or_true, Bool.true_or, Bool.false_or, Bool.or_false, cond_true, cond_false]) rfl
                  · have h17 : (xTe (nI i)) = true := nB_n.mp (cn_eq.mp h17)
                    refine z_rcs hc hH 2 (pc' := 132) (lv' := [(4, .int (nB (a4 || (xHo (nI i))))), (3, .int (nB (a3 && (xHo (nI i))))), (2, .int (nB (a2 && (!(xEn (nI i)))))), (1, .int (nB (a1 && (xEn (nI i))))), (8, .int (nI i)), (6, .int (nB a6)), (5, .int (nB a5)), (7, .int su), (0, .ref 50)]) (st' := [.int 1]) (μ' := μ) (by rfl) ?_
                    exact zJ hJ6 rfl (by simp only [h16, h17, lb_f, Int64.or_zero, nB_t, nB_f, Bool.not_true, Bool.not_false, Bool.and_true, Bool.true_and, Bool.false_and, Bool.and_false, Bool.or_true, Bool.true_or, Bool.false_or, Bool.or_false, cond_true, cond_false]) rfl
              refine zq_if hc hH (by rfl) (tg := 107) (by rfl) (fun h18 => ?_) (fun h18 => ?_)
              · have h18 : (a4) = true := nB_n.mp (cm_ne.mp h18)
                refine z_rcs hc hH 2 (pc' := 112) (lv' := [(3, .int (nB (a3 && (xHo (nI i))))), (2, .int (nB (a2 && (!(xEn (nI i)))))), (1, .int (nB (a1 && (xEn (nI i))))), (8, .int (nI i)), (6, .int (nB a6)), (5, .int (nB a5)), (4, .int (nB a4)), (7, .int su), (0, .ref 50)]) (st' := [.int 1]) (μ' := μ) (by rfl) ?_
                exact zJ hJ5 rfl (by simp only [h18, lb_f, Int64.or_zero, nB_t, nB_f, Bool.not_true, Bool.not_false, Bool.and_true, Bool.true_and, Bool.false_and, Bool.and_false, Bool.or_true, Bool.true_or, Bool.false_or, Bool.or_false, cond_true, cond_false]) rfl
              · have h18 : (a4) = false := nB_z.mp (cn_ne.mp h18)
                refine z_rcs hc hH 1 (pc' := 101) (lv' := [(3, .int (nB (a3 && (xHo (nI i))))), (2, .int (nB (a2 && (!(xEn (nI i)))))), (1, .int (nB (a1 && (xEn (nI i))))), (8, .int (nI i)), (6, .int (nB a6)), (5, .int (nB a5)), (4, .int (nB a4)), (7, .int su), (0, .ref 50)]) (st' := [.int (nI i)]) (μ' := μ) (by rfl) ?_
                refine zq_call hc (z_cx_ok hH (by rfl)) (fb_X7_isHonour d' (by omega) μ (nI i)) (by decide +kernel) (fun r9 μ9 hq => ?_)
                obtain ⟨hμ9, rfl⟩ := hq
                rw [hμ9]
                clear hμ9 μ9
                show Z 0 104 [(3, .int (nB (a3 && (xHo (nI i))))), (2, .int (nB (a2 && (!(xEn (nI i)))))), (1, .int (nB (a1 && (xEn (nI i))))), (8, .int (nI i)), (6, .int (nB a6)), (5, .int (nB a5)), (4, .int (nB a4)), (7, .int su), (0, .ref 50)] [.int (nB (xHo (nI i)))] μ
                refine zq_if hc hH (by rfl) (tg := 111) (by rfl) (fun h19 => ?_) (fun h19 => ?_)
                · have h19 : (xHo (nI i)) = false := nB_z.mp (cm_eq9.mp h19)
                  refine z_rcs hc hH 1 (pc' := 112) (lv' := [(3, .int (nB (a3 && (xHo (nI i))))), (2, .int (nB (a2 && (!(xEn (nI i)))))), (1, .int (nB (a1 && (xEn (nI i))))), (8, .int (nI i)), (6, .int (nB a6)), (5, .int (nB a5)), (4, .int (nB a4)), (7, .int su), (0, .ref 50)]) (st' := [.int 0]) (μ' := μ) (by rfl) ?_
                  exact zJ hJ5 rfl (by simp only [h18, h19, lb_f, Int64.or_zero, nB_t, nB_f, Bool.not_true, Bool.not_false, Bool.and_true, Bool.true_and, Bool.false_and, Bool.and_false, Bool.or_true, Bool.true_or, Bool.false_or, Bool.or_false, cond_true, cond_false]) rfl
                · have h19 : (xHo (nI i)) = true := nB_n.mp (cn_eq.mp h19)
                  refine z_rcs hc hH 2 (pc' := 112) (lv' := [(3, .int (nB (a3 && (xHo (nI i))))), (2, .int (nB (a2 && (!(xEn (nI i)))))), (1, .int (nB (a1 && (xEn (nI i))))), (8, .int (nI i)), (6, .int (nB a6)), (5, .int (nB a5)), (4, .int (nB a4)), (7, .int su), (0, .ref 50)]) (st' := [.int 1]) (μ' := μ) (by rfl) ?_
                  exact zJ hJ5 rfl (by simp only [h18, h19, lb_f, Int64.or_zero, nB_t, nB_f, Bool.not_true, Bool.not_false, Bool.and_true, Bool.true_and, Bool.false_and, Bool.and_false, Bool.or_true, Bool.true_or, Bool.false_or, Bool.or_false, cond_true, cond_false]) rfl
            refine zq_if hc hH (by rfl) (tg := 92) (by rfl) (fun h20 => ?_) (fun h20 => ?_)
            · have h20 : (a3) = false := nB_z.mp (cm_eq9.mp h20)
              refine z_rcs hc hH 1 (pc' := 93) (lv' := [(2, .int (nB (a2 && (!(xEn (nI i)))))), (1, .int (nB (a1 && (xEn (nI i))))), (8, .int (nI i)), (6, .int (nB a6)), (5, .int (nB a5)), (4, .int (nB a4)), (3, .int (nB a3)), (7, .int su), (0, .ref 50)]) (st' := [.int 0]) (μ' := μ) (by rfl) ?_
              exact zJ hJ4 rfl (by simp only [h20, lb_f, Int64.or_zero, nB_t, nB_f, Bool.not_true, Bool.not_false, Bool.and_true, Bool.true_and, Bool.false_and, Bool.and_false, Bool.or_true, Bool.true_or, Bool.false_or, Bool.or_false, cond_true, cond_false]) rfl
            · have h20 : (a3) = true := nB_n.mp (cn_eq.mp h20)
              refine z_rcs hc hH 1 (pc' := 82) (lv' := [(2, .int (nB (a2 && (!(xEn (nI i)))))), (1, .int (nB (a1 && (xEn (nI i))))), (8, .int (nI i)), (6, .int (nB a6)), (5, .int (nB a5)), (4, .int (nB a4)), (3, .int (nB a3)), (7, .int su), (0, .ref 50)]) (st' := [.int (nI i)]) (μ' := μ) (by rfl) ?_
              refine zq_call hc (z_cx_ok hH (by rfl)) (fb_X7_isHonour d' (by omega) μ (nI i)) (by decide +kernel) (fun r9 μ9 hq => ?_)
              obtain ⟨hμ9, rfl⟩ := hq
              rw [hμ9]
              clear hμ9 μ9
              show Z 0 85 [(2, .int (nB (a2 && (!(xEn (nI i)))))), (1, .int (nB (a1 && (xEn (nI i))))), (8, .int (nI i)), (6, .int (nB a6)), (5, .int (nB a5)), (4, .int (nB a4)), (3, .int (nB a3)), (7, .int su), (0, .ref 50)] [.int (nB (xHo (nI i)))] μ
              refine zq_if hc hH (by rfl) (tg := 92) (by rfl) (fun h21 => ?_) (fun h21 => ?_)
              · have h21 : (xHo (nI i)) = false := nB_z.mp (cm_eq9.mp h21)
                refine z_rcs hc hH 1 (pc' := 93) (lv' := [(2, .int (nB (a2 && (!(xEn (nI i)))))), (1, .int (nB (a1 && (xEn (nI i))))), (8, .int (nI i)), (6, .int (nB a6)), (5, .int (nB a5)), (4, .int (nB a4)), (3, .int (nB a3)), (7, .int su), (0, .ref 50)]) (st' := [.int 0]) (μ' := μ) (by rfl) ?_
                exact zJ hJ4 rfl (by simp only [h20, h21, lb_f, Int64.or_zero, nB_t, nB_f, Bool.not_true, Bool.not_false, Bool.and_true, Bool.true_and, Bool.false_and, Bool.and_false, Bool.or_true, Bool.true_or, Bool.false_or, Bool.or_false, cond_true, cond_false]) rfl
              · have h21 : (xHo (nI i)) = true := nB_n.mp (cn_eq.mp h21)
                refine z_rcs hc hH 2 (pc' := 93) (lv' := [(2, .int (nB (a2 && (!(xEn (nI i)))))), (1, .int (nB (a1 && (xEn (nI i))))), (8, .int (nI i)), (6, .int (nB a6)), (5, .int (nB a5)), (4, .int (nB a4)), (3, .int (nB a3)), (7, .int su), (0, .ref 50)]) (st' := [.int 1]) (μ' := μ) (by rfl) ?_
                exact zJ hJ4 rfl (by simp only [h20, h21, lb_f, Int64.or_zero, nB_t, nB_f, Bool.not_true, Bool.not_false, Bool.and_true, Bool.true_and, Bool.false_and, Bool.and_false, Bool.or_true, Bool.true_or, Bool.false_or, Bool.or_false, cond_true, cond_false]) rfl
          refine zq_if hc hH (by rfl) (tg := 74) (by rfl) (fun h22 => ?_) (fun h22 => ?_)
          · have h22 : (a2) = false := nB_z.mp (cm_eq9.mp h22)
            refine z_rcs hc hH 1 (pc' := 75) (lv' := [(1, .int (nB (a1 && (xEn (nI i))))), (8, .int (nI i)), (6, .int (nB a6)), (5, .int (nB a5)), (4, .int (nB a4)), (3, .int (nB a3)), (2, .int (nB a2)), (7, .int su), (0, .ref 50)]) (st' := [.int 0]) (μ' := μ) (by rfl) ?_
            exact zJ hJ3 rfl (by simp only [h22, lb_f, Int64.or_zero, nB_t, nB_f, Bool.not_true, Bool.not_false, Bool.and_true, Bool.true_and, Bool.false_and, Bool.and_false, Bool.or_true, Bool.true_or, Bool.false_or, Bool.or_false, cond_true, cond_false]) rfl
          · have h22 : (a2) = true := nB_n.mp (cn_eq.mp h22)
            refine z_rcs hc hH 1 (pc' := 64) (lv' := [(1, .int (nB (a1 && (xEn (nI i))))), (8, .int (nI i)), (6, .int (nB a6)), (5, .int (nB a5)), (4, .int (nB a4)), (3, .int (nB a3)), (2, .int (nB a2)), (7, .int su), (0, .ref 50)]) (st' := [.int (nI i)]) (μ' := μ) (by rfl) ?_
            refine zq_call hc (z_cx_ok hH (by rfl)) (fb_X7_isEnd d' (by omega) μ (nI i)) (by decide +kernel) (fun r9 μ9 hq => ?_)
            obtain ⟨hμ9, rfl⟩ := hq
            rw [hμ9]
            clear hμ9 μ9
            show Z 0 67 [(1, .int (nB (a1 && (xEn (nI i))))), (8, .int (nI i)), (6, .int (nB a6)), (5, .int (nB a5)), (4, .int (nB a4)), (3, .int (nB a3)), (2, .int (nB a2)), (7, .int su), (0, .ref 50)] [.int (nB (xEn (nI i)))] μ
            refine zq_if hc hH (by rfl) (tg := 74) (by rfl) (fun h23 => ?_) (fun h23 => ?_)
            · have h23 : (xEn (nI i)) = true := nB_n.mp (cm_ne.mp h23)
              refine z_rcs hc hH 1 (pc' := 75) (lv' := [(1, .int (nB (a1 && (xEn (nI i))))), (8, .int (nI i)), (6, .int (nB a6)), (5, .int (nB a5)), (4, .int (nB a4)), (3, .int (nB a3)), (2, .int (nB a2)), (7, .int su), (0, .ref 50)]) (st' := [.int 0]) (μ' := μ) (by rfl) ?_
              exact zJ hJ3 rfl (by simp only [h22, h23, lb_f, Int64.or_zero, nB_t, nB_f, Bool.not_true, Bool.not_false, Bool.and_true, Bool.true_and, Bool.false_and, Bool.and_false, Bool.or_true, Bool.true_or, Bool.false_or, Bool.or_false, cond_true, cond_false]) rfl
            · have h23 : (xEn (nI i)) = false := nB_z.mp (cn_ne.mp h23)
              refine z_rcs hc hH 2 (pc' := 75) (lv' := [(1, .int (nB (a1 && (xEn (nI i))))), (8, .int (nI i)), (6, .int (nB a6)), (5, .int (nB a5)), (4, .int (nB a4)), (3, .int (nB a3)), (2, .int (nB a2)), (7, .int su), (0, .ref 50)]) (st' := [.int 1]) (μ' := μ) (by rfl) ?_
              exact zJ hJ3 rfl (by simp only [h22, h23, lb_f, Int64.or_zero, nB_t, nB_f, Bool.not_true, Bool.not_false, Bool.and_true, Bool.true_and, Bool.false_and, Bool.and_false, Bool.or_true, Bool.true_or, Bool.false_or, Bool.or_false, cond_true, cond_false]) rfl
        refine zq_if hc hH (by rfl) (tg := 56) (by rfl) (fun h24 => ?_) (fun h24 => ?_)
        · have h24 : (a1) = false := nB_z.mp (cm_eq9.mp h24)
          refine z_rcs hc hH 1 (pc' := 57) (lv' := [(8, .int (nI i)), (6, .int (nB a6)), (5, .int (nB a5)), (4, .int (nB a4)), (3, .int (nB a3)), (2, .int (nB a2)), (1, .int (nB a1)), (7, .int su), (0, .ref 50)]) (st' := [.int 0]) (μ' := μ) (by rfl) ?_
          exact zJ hJ2 rfl (by simp only [h24, lb_f, Int64.or_zero, nB_t, nB_f, Bool.not_true, Bool.not_false, Bool.and_true, Bool.true_and, Bool.false_and, Bool.and_false, Bool.or_true, Bool.true_or, Bool.false_or, Bool.or_false, cond_true, cond_false]) rfl
        · have h24 : (a1) = true := nB_n.mp (cn_eq.mp h24)
          refine z_rcs hc hH 1 (pc' := 46) (lv' := [(8, .int (nI i)), (6, .int (nB a6)), (5, .int (nB a5)), (4, .int (nB a4)), (3, .int (nB a3)), (2, .int (nB a2)), (1, .int (nB a1)), (7, .int su), (0, .ref 50)]) (st' := [.int (nI i)]) (μ' := μ) (by rfl) ?_
          refine zq_call hc (z_cx_ok hH (by rfl)) (fb_X7_isEnd d' (by omega) μ (nI i)) (by decide +kernel) (fun r9 μ9 hq => ?_)
          obtain ⟨hμ9, rfl⟩ := hq
          rw [hμ9]
          clear hμ9 μ9
          show Z 0 49 [(8, .int (nI i)), (6, .int (nB a6)), (5, .int (nB a5)), (4, .int (nB a4)), (3, .int (nB a3)), (2, .int (nB a2)), (1, .int (nB a1)), (7, .int su), (0, .ref 50)] [.int (nB (xEn (nI i)))] μ
          refine zq_if hc hH (by rfl) (tg := 56) (by rfl) (fun h25 => ?_) (fun h25 => ?_)
          · have h25 : (xEn (nI i)) = false := nB_z.mp (cm_eq9.mp h25)
            refine z_rcs hc hH 1 (pc' := 57) (lv' := [(8, .int (nI i)), (6, .int (nB a6)), (5, .int (nB a5)), (4, .int (nB a4)), (3, .int (nB a3)), (2, .int (nB a2)), (1, .int (nB a1)), (7, .int su), (0, .ref 50)]) (st' := [.int 0]) (μ' := μ) (by rfl) ?_
            exact zJ hJ2 rfl (by simp only [h24, h25, lb_f, Int64.or_zero, nB_t, nB_f, Bool.not_true, Bool.not_false, Bool.and_true, Bool.true_and, Bool.false_and, Bool.and_false, Bool.or_true, Bool.true_or, Bool.false_or, Bool.or_false, cond_true, cond_false]) rfl
          · have h25 : (xEn (nI i)) = true := nB_n.mp (cn_eq.mp h25)
            refine z_rcs hc hH 2 (pc' := 57) (lv' := [(8, .int (nI i)), (6, .int (nB a6)), (5, .int (nB a5)), (4, .int (nB a4)), (3, .int (nB a3)), (2, .int (nB a2)), (1, .int (nB a1)), (7, .int su), (0, .ref 50)]) (st' := [.int 1]) (μ' := μ) (by rfl) ?_
            exact zJ hJ2 rfl (by simp only [h24, h25, lb_f, Int64.or_zero, nB_t, nB_f, Bool.not_true, Bool.not_false, Bool.and_true, Bool.true_and, Bool.false_and, Bool.and_false, Bool.or_true, Bool.true_or, Bool.false_or, Bool.or_false, cond_true, cond_false]) rfl
      · have h1 : (decide ((ofv (μ.1 58 i) (μ.1 52) (μ.1 53) (nI i) q) = 0)) = true := decide_eq_true (cn_ne.mp h1)
        refine z_rcs hc hH 3 (pc' := 21) (lv' := [(8, .int ((nI i) + 1)), (6, .int (nB a6)), (5, .int (nB a5)), (4, .int (nB a4)), (3, .int (nB a3)), (2, .int (nB a2)), (1, .int (nB a1)), (7, .int su), (0, .ref 50)]) (st' := []) (μ' := μ) (by rfl) ?_
        rw [nI_1]
        refine (ih (i + 1) (a1, a2, a3, a4, a5, a6, su) (by omega) ?_).2
        have e : tSt μ q i (a1, a2, a3, a4, a5, a6, su) = (a1, a2, a3, a4, a5, a6, su) := by unfold tSt; simp only [h1, cond_true, cond_false] <;> rfl
        rw [e] at K; exact K
    exact ⟨b1, b2⟩
