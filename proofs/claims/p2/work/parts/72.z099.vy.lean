/-! what a hand is worth: both sides -/
set_option maxRecDepth 8000
/-- the class's told FORMS -/
def tX (dr : Bool) (bt ao lf bf ph : Int32) : Int64 := bif decide (lf = 0) then bif dr then (bif decide (lf = 0) then ((bif dr then (((0 ||| (bif decide (bt = 1) then (1 : Int64) else 0)) ||| (bif decide (bt = 2) then (2 : Int64) else 0)) ||| (bif decide (ao = 0) then (0 : Int64) else 4)) ||| (bif decide (bf = 0) then (0 : Int64) else 64) else ((0 ||| (bif decide (bt = 1) then (1 : Int64) else 0)) ||| (bif decide (bt = 2) then (2 : Int64) else 0)) ||| (bif decide (ao = 0) then (0 : Int64) else 4)) ||| (bif decide (ph = 3) then (128 : Int64) else 0)) ||| (bif decide (ph = 2) then (32 : Int64) else 0) else (bif dr then (((0 ||| (bif decide (bt = 1) then (1 : Int64) else 0)) ||| (bif decide (bt = 2) then (2 : Int64) else 0)) ||| (bif decide (ao = 0) then (0 : Int64) else 4)) ||| (bif decide (bf = 0) then (0 : Int64) else 64) else ((0 ||| (bif decide (bt = 1) then (1 : Int64) else 0)) ||| (bif decide (bt = 2) then (2 : Int64) else 0)) ||| (bif decide (ao = 0) then (0 : Int64) else 4)) ||| (bif decide (ph = 3) then (128 : Int64) else 0)) ||| (bif decide (bf = 0) then (16 : Int64) else 0) else bif decide (lf = 0) then ((bif dr then (((0 ||| (bif decide (bt = 1) then (1 : Int64) else 0)) ||| (bif decide (bt = 2) then (2 : Int64) else 0)) ||| (bif decide (ao = 0) then (0 : Int64) else 4)) ||| (bif decide (bf = 0) then (0 : Int64) else 64) else ((0 ||| (bif decide (bt = 1) then (1 : Int64) else 0)) ||| (bif decide (bt = 2) then (2 : Int64) else 0)) ||| (bif decide (ao = 0) then (0 : Int64) else 4)) ||| (bif decide (ph = 3) then (128 : Int64) else 0)) ||| (bif decide (ph = 2) then (32 : Int64) else 0) else (bif dr then (((0 ||| (bif decide (bt = 1) then (1 : Int64) else 0)) ||| (bif decide (bt = 2) then (2 : Int64) else 0)) ||| (bif decide (ao = 0) then (0 : Int64) else 4)) ||| (bif decide (bf = 0) then (0 : Int64) else 64) else ((0 ||| (bif decide (bt = 1) then (1 : Int64) else 0)) ||| (bif decide (bt = 2) then (2 : Int64) else 0)) ||| (bif decide (ao = 0) then (0 : Int64) else 4)) ||| (bif decide (ph = 3) then (128 : Int64) else 0) else bif decide (lf = 0) then ((bif dr then (((0 ||| (bif decide (bt = 1) then (1 : Int64) else 0)) ||| (bif decide (bt = 2) then (2 : Int64) else 0)) ||| (bif decide (ao = 0) then (0 : Int64) else 4)) ||| (bif decide (bf = 0) then (0 : Int64) else 64) else ((0 ||| (bif decide (bt = 1) then (1 : Int64) else 0)) ||| (bif decide (bt = 2) then (2 : Int64) else 0)) ||| (bif decide (ao = 0) then (0 : Int64) else 4)) ||| (bif decide (ph = 3) then (128 : Int64) else 0)) ||| (bif decide (ph = 2) then (32 : Int64) else 0) else (bif dr then (((0 ||| (bif decide (bt = 1) then (1 : Int64) else 0)) ||| (bif decide (bt = 2) then (2 : Int64) else 0)) ||| (bif decide (ao = 0) then (0 : Int64) else 4)) ||| (bif decide (bf = 0) then (0 : Int64) else 64) else ((0 ||| (bif decide (bt = 1) then (1 : Int64) else 0)) ||| (bif decide (bt = 2) then (2 : Int64) else 0)) ||| (bif decide (ao = 0) then (0 : Int64) else 4)) ||| (bif decide (ph = 3) then (128 : Int64) else 0)
theorem tX_c (d : Nat) (hd : 3 ≤ d) (μ : zM) (s : Nat) (hs4 : s < 4) (dr : Bool) : z_C d mi_X6_toldForms [.ref 0, .ref (18 + 8 * s), .int (nB dr)] μ (zR μ (.long (tX dr (μ.1 (18 + 8 * s) 5) (μ.1 (18 + 8 * s) 7) (xLf μ) (μ.1 0 16) (μ.1 0 7)))) := gc_toldForms d hd μ s hs4 dr
def tM0 (bt ao lf ph : Int32) : Int64 := (((((0 ||| (lb (decide (bt = 1)) 0)) ||| (lb (decide (bt = 2)) 1)) ||| (lb (!(decide (ao = 0))) 2)) ||| (lb ((decide (ph = 2)) && (decide (lf = 0))) 5)) ||| (lb (decide (ph = 3)) 7))
def tM1 (bt ao lf bf : Int32) (n1 dd un : Bool) : Int64 := (((((((0 ||| (lb (decide (bt = 1)) 0)) ||| (lb (decide (bt = 2)) 1)) ||| (lb (!(decide (ao = 0))) 2)) ||| (lb ((decide (lf = 0)) && (decide (bf = 0))) 4)) ||| (lb (!(decide (bf = 0))) 6)) ||| (lb (n1 && dd) 42)) ||| (lb (n1 && (!dd && un)) 43))
theorem tX_0 (bt ao lf bf ph : Int32) : (tX false bt ao lf bf ph ||| 0) &&& tlm = tM0 bt ao lf ph := by
  unfold tX tM0
  generalize decide (bt = 1) = b1
  generalize decide (bt = 2) = b2
  generalize decide (ao = 0) = b3
  generalize decide (lf = 0) = b4
  generalize decide (bf = 0) = b5
  generalize decide (ph = 2) = b6
  generalize decide (ph = 3) = b7
  cases b1 <;> cases b2 <;> cases b3 <;> cases b4 <;> cases b5 <;> cases b6 <;> cases b7 <;> decide +kernel
def t2X (un dz dd : Bool) : Int64 := bif un then (bif dz then 1 <<< ((bif dd then (42 : Int32) else 43).toInt64 &&& 63) else 0) else 0
theorem tX_1 (bt ao lf bf : Int32) (un dz dd n1 : Bool) (h1 : un = true → n1 = dz) (h2 : un = false → dd = true → n1 = false) : (tX true bt ao lf bf 1 ||| t2X un dz dd) &&& tlm = tM1 bt ao lf bf n1 dd un := by
  unfold tX tM1 t2X
  rw [show decide ((1 : Int32) = 2) = false from by decide, show decide ((1 : Int32) = 3) = false from by decide]
  generalize decide (bt = 1) = b1
  generalize decide (bt = 2) = b2
  generalize decide (ao = 0) = b3
  generalize decide (lf = 0) = b4
  generalize decide (bf = 0) = b5
  cases un with
  | true =>
    rw [h1 rfl]
    cases b1 <;> cases b2 <;> cases b3 <;> cases b4 <;> cases b5 <;> cases dz <;> cases dd <;> decide +kernel
  | false =>
    cases dd with
    | true =>
      rw [h2 rfl rfl]
      cases b1 <;> cases b2 <;> cases b3 <;> cases b4 <;> cases b5 <;> cases dz <;> decide +kernel
    | false =>
      cases b1 <;> cases b2 <;> cases b3 <;> cases b4 <;> cases b5 <;> cases dz <;> cases n1 <;> decide +kernel
theorem wi_3 : ∀ s, s < 4 → ∀ dl, dl < 4 → ∀ rd, rd < 2 → (((nI s - nI dl) &&& 3) ||| (nI rd <<< ((2 : Int32) &&& (31 : Int32)) : Int32) : Int32) &&& (3 : Int32) = wdM (nI dl) (nI s) ∧ (((((nI s - nI dl) &&& 3) ||| (nI rd <<< ((2 : Int32) &&& (31 : Int32)) : Int32) : Int32) >>> ((2 : Int32) &&& (31 : Int32)) : Int32) &&& (3 : Int32)) = nI rd := by decide +kernel
theorem and63 : ∀ n, n < 64 → nI n &&& 63 = nI n := by decide +kernel
theorem deF_nat {A : Nat → Int32} {b : Bool} (hA : ∀ p, 126 ≤ p → p < 136 → ∃ a, a ≤ 5 ∧ A p = nI a) : ∀ n, n ≤ 5 → ∃ N, N ≤ 10 * n ∧ deF A b n = nI N
  | 0, _ => ⟨0, by decide, rfl⟩
  | n + 1, h => by
    obtain ⟨N, h1, h2⟩ := deF_nat (b := b) hA n (by omega)
    obtain ⟨a1, h3, h4⟩ := hA (126 + 2 * n) (by omega) (by omega)
    obtain ⟨a2, h5, h6⟩ := hA (127 + 2 * n) (by omega) (by omega)
    show ∃ N, N ≤ 10 * (n + 1) ∧ (deF A b n + A (126 + 2 * n)) + (bif b then A (127 + 2 * n) else 0) = nI N
    cases b with
    | true => exact ⟨N + a1 + a2, by omega, by rw [cond_true, h2, h4, h6, nI_add, nI_add]⟩
    | false => exact ⟨N + a1, by omega, by rw [cond_false, h2, h4, nI_add, Int32.add_zero]⟩
theorem mdJJ_r : mdJJ.all (fun q => Nat.ble 14 q.1 && Nat.ble q.1 17) = true := by decide
theorem wo_fz {j : Nat} (hj : j < 4) {μ μ' : zM} (h : a_Fz mdJJ (sMm j μ) (sMm j μ')) : WOj μ μ' := fun r k hr => by
  have inv : ∀ r, sgm j (sgm j r) = r := (RN_sgm j hj).1
  have z := h.1 (sgm j r) k (fz_out (fun q hq e => by
    have y := List.all_eq_true.mp mdJJ_r q hq
    obtain ⟨y1, y2⟩ := z_and y
    have y1 := Nat.le_of_ble_eq_true y1
    have y2 := Nat.le_of_ble_eq_true y2
    have e2 : sgm j q.1 = r := by rw [e]; exact inv r
    obtain ⟨-, -, -, -, -, s14, s15, s16, s17⟩ := sgm_r j hj
    obtain e3 | e3 | e3 | e3 : q.1 = 14 ∨ q.1 = 15 ∨ q.1 = 16 ∨ q.1 = 17 := by omega
    · rw [e3, s14] at e2; omega
    · rw [e3, s15] at e2; omega
    · rw [e3, s16] at e2; omega
    · rw [e3, s17] at e2; omega))
  have a : ∀ ν : zM, (sMm j ν).1 (sgm j r) k = ν.1 r k ∧ (sMm j ν).2.1 (sgm j r) k = ν.2.1 r k := fun ν => by
    show ν.1 (sgm j (sgm j r)) k = _ ∧ ν.2.1 (sgm j (sgm j r)) k = _
    rw [inv]; exact ⟨rfl, rfl⟩
  rw [(a μ).1, (a μ').1, (a μ).2, (a μ').2] at z
  exact z
theorem hf_put {x m : zM} {s : Nat} {w aw : Nat → Nat} {q : Nat} {sL lL : Nat → Nat} (H : HF x m s w aw q sL lL) (hs : s < 4) {k : Nat} (hk : k < 34) (h3 : aw k ≤ 3) : HF (pS x s k 1) (z_giv m s k 1) s (ad1 w k) (ad1 aw k) q sL lL := by
  obtain ⟨e, he⟩ := H.aw hk
  obtain ⟨g1, g2, g3, g4, g5, g6, g7, g8⟩ := H
  have as : ∀ f : Nat → Nat, ad1 f k k = f k + 1 := fun f => if_pos rfl
  have ao : ∀ (f : Nat → Nat) j, j ≠ k → ad1 f k j = f j := fun f j h => if_neg h
  refine ⟨⟨fun j hj => ?_, ?_, g1.2.2.1, fun j hj => ?_⟩, fun j hj => ?_, fun j hj => ?_, ?_, fun hq j hj => ?_, fun j hj => ?_, ?_, fun j hj => ?_⟩
  · rw [giv_60]
    by_cases e2 : j = k
    · subst e2; rw [if_pos rfl, (g1.1 j hj).1, nI_s1, as]; exact ⟨rfl, by omega⟩
    · rw [if_neg (by omega), ao _ _ e2]; exact g1.1 j hj
  · rw [giv_o (by decide)]; exact g1.2.1
  · rw [giv_o (by decide), giv_o (by decide)]; exact g1.2.2.2 j hj
  · unfold pS
    by_cases e2 : j = k
    · subst e2; simp (disch := omega) only [ui_s, ui_o, ui_k]; rw [(g2 j hj).1, nI_s1, as]; exact ⟨rfl, by omega⟩
    · simp (disch := omega) only [ui_s, ui_o, ui_k]; rw [ao _ _ e2]; exact g2 j hj
  · unfold pS
    by_cases e2 : j = k
    · subst e2; simp (disch := omega) only [ui_s, ui_o, ui_k]; rw [(g3 j hj).1, nI_s1, as]; exact ⟨rfl, by omega⟩
    · simp (disch := omega) only [ui_s, ui_o, ui_k]; rw [ao _ _ e2]; exact g3 j hj
  · unfold pS; simp (disch := omega) only [ui_s, ui_o, ui_k]; exact g4
  · unfold ad1; rw [g5 hq j hj]
  · by_cases e2 : j = k
    · subst e2; rw [as]; omega
    · rw [ao _ _ e2]; exact g6 j hj
  · unfold pS; rw [ui_s, g7, sn_ad1 hk, nI_s1]
  · rw [show (fun i => (z_giv m s k 1).1 62 (4 * s + i)) = (fun i => m.1 62 (4 * s + i)) from funext fun i => giv_o (by decide), show (fun i => (z_giv m s k 1).1 63 (4 * s + i)) = (fun i => m.1 63 (4 * s + i)) from funext fun i => giv_o (by decide)]
    by_cases e2 : j = k
    · subst e2; rw [as, as, ← nI_s1, ← nI_s1, ofv_p, ← g8 j hj]
    · rw [ao _ _ e2, ao _ _ e2]; exact g8 j hj
theorem aw_3 {x m : zM} {p t c s : Nat} {w aw : Nat → Nat} {q : Nat} {sL lL : Nat → Nat} (R : RCl x m) (P : RPh x m p t c) (hA : a_H m) (hp : p ≠ 1) (hs : s < 4) (hst : s ≠ t) (H : HF x m s w aw q sL lL) (hc : c < 34) : aw c ≤ 3 := by
  obtain ⟨a, ha1, ha2⟩ := P.tc
  obtain ⟨sd, hsd⟩ := R.wp P.is
  have ht4 := P.t4
  have hnx : (m.1 50 46).toNatClampNeg ≤ 122 := by
    obtain ⟨n, h1, h2⟩ := i_nat (v := m.1 50 46) (n := 122) (hA 50 46).1 (hA 50 46).2 (by decide)
    rw [h2, nI_clamp (by omega)]; exact h1
  have hbk : (m.1 50 48).toNatClampNeg ≤ 14 := by
    obtain ⟨n, h1, h2⟩ := i_nat (v := m.1 50 48) (n := 4) (hA 50 48).1 (hA 50 48).2 (by decide)
    rw [h2, nI_clamp (by omega)]; omega
  have h1 := ha2 c hc
  have h2 := cW_4 sd (f := fW m) hsd hc hnx hbk
  have e : a s c = aw c := by
    have y := (ha1 s c hs hc).symm.trans (H.2.2.1 c hc).1
    have y2 := (H.2.2.1 c hc).2
    refine (nI_eq ?_ (by omega)).mp y
    obtain rfl | rfl | rfl | rfl := t_four hs <;> omega
  rcases P.p3 with y | y | y
  · exact absurd y hp
  · rw [if_pos ⟨y, rfl⟩] at h1
    rw [← e]
    obtain rfl | rfl | rfl | rfl := t_four hs <;> omega
  · have z := P.a3 y
    rw [ha1 t c ht4 hc] at z
    have z2 : a t c ≠ 0 := fun e => z (by rw [e]; rfl)
    rw [← e]
    obtain rfl | rfl | rfl | rfl := t_four hs <;> obtain rfl | rfl | rfl | rfl := t_four ht4 <;> first | exact absurd rfl hst | omega
/-- the class's worth of a hand -/
def BX (w aw : Nat → Nat) (q c : Nat) (sL lL : Nat → Nat) (dr : Bool) (told : Int64) (wi de : Int32) (v : Q4) : Prop := (¬ VAL w q (nI c) ∧ v = (0, 0, 0, 0)) ∨ (VAL w q (nI c) ∧ ∃ κ μ', KC κ w aw q sL lL (nI c) dr told (27 + (wi &&& 3)) (rw9 wi) de ∧ CI (SCl κ w q sL lL 34) 5000 μ' ∧ bqC μ' = v)
/-- the reference's -/
def BM (w : Nat → Nat) (q c : Nat) (sL lL : Nat → Nat) (dr : Bool) (told : Int64) (wd rd de : Int32) (b : Q4) : Prop := ∃ κ, KM κ w q sL lL (nI c) dr told wd rd de ∧ BS (SR κ w q sL lL) (0, 0, 0, 0) b
theorem wo_eq {x m : zM} {s : Nat} {w aw : Nat → Nat} {q c : Nat} {sL lL : Nat → Nat} (H : HF x m s w aw q sL lL) (hc : c < 34) (hw : 0 < w c) {dr : Bool} {told told' : Int64} {wi wd rd de : Int32} (ht : told &&& tlm = told') (h1 : wi &&& 3 = wd) (h2 : (wi >>> (2 &&& 31)) &&& 3 = rd) (h3 : de &&& 63 = de) {v b : Q4} (hX : BX w aw q c sL lL dr told wi de v) (hM : BM w q c sL lL dr told' wd rd de b) : v.1 = b.1 ∧ v.2.1 = b.2.1 ∧ v.2.2.2 = b.2.2.2 := by
  obtain ⟨κ, hM, hB⟩ := hM
  have hq := H.1.2.2.1
  rcases hX with ⟨nv, e0⟩ | ⟨V, κC, μ', hC, hI, e0⟩
  · have b0 : b = (0, 0, 0, 0) := hB.1.resolve_right (fun y => nv ⟨y.1, vp_in_nI hc (by decide), by rw [nI_clamp (by omega)]; exact hw⟩)
    rw [e0, b0]
    exact ⟨rfl, rfl, rfl⟩
  · rw [← h3] at hC
    rw [← ht, ← h1, ← h2, ← h3] at hM
    rw [← e0]
    refine both hq hc V.1 (fun j hj => ⟨(H.1.2.2.2 j hj).2.1, (H.1.2.2.2 j hj).2.2.2.1, (H.1.2.2.2 j hj).2.2.2.2⟩) (fun i hi => ⟨?_, by have := H.2.2.2.2.2.1 i hi; omega⟩) H.2.2.2.2.1 hC hM hI hB
    rw [hM.r58 i hi, ofv_cg (s' := fun i => m.1 62 (4 * s + i)) (l' := fun i => m.1 63 (4 * s + i)) q (fun j hj => ⟨by rw [(hM.r52 j hj).1, (H.1.2.2.2 j hj).1], by rw [(hM.r52 j hj).2.2.1, (H.1.2.2.2 j hj).2.2.1]⟩), ← H.2.2.2.2.2.2.2 i hi]
