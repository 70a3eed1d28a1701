/-! the class: which KINDS may be THREES, and which are chosen -/
set_option maxRecDepth 8000
def c3 (v : Nat → Nat) (i : Nat) : Nat := cn (fun k => decide (3 ≤ v k)) i
theorem c3_s (v : Nat → Nat) (i : Nat) : c3 v (i + 1) = c3 v i + (if 3 ≤ v i then 1 else 0) := by
  show c3 v i + (if decide (3 ≤ v i) = true then 1 else 0) = _
  by_cases h : 3 ≤ v i
  · rw [if_pos h, if_pos (decide_eq_true h)]
  · rw [if_neg h, if_neg (by rw [decide_eq_true_iff]; exact h)]
theorem c3_sn (v : Nat → Nat) : ∀ i, 3 * c3 v i ≤ sn v i := by
  intro i
  induction i with
  | zero => exact Nat.le_refl _
  | succ i ih => rw [c3_s]; show _ ≤ sn v i + v i; split <;> omega
theorem c3_mo (v : Nat → Nat) {i : Nat} : ∀ n, c3 v i ≤ c3 v (i + n) := by
  intro n
  induction n with
  | zero => exact Nat.le_refl _
  | succ n ih => rw [← Nat.add_assoc, c3_s]; omega
theorem c3_le (v : Nat → Nat) {i j : Nat} (h : i ≤ j) : c3 v i ≤ c3 v j := by have := c3_mo v (i := i) (j - i); rw [show i + (j - i) = j by omega] at this; exact this
theorem c3_lt (v : Nat → Nat) {i j : Nat} (h : i < j) (h3 : 3 ≤ v i) : c3 v i < c3 v j := by have := c3_le v (show i + 1 ≤ j by omega); rw [c3_s, if_pos h3] at this; omega
def F3 (μ : zM) (v : Nat → Nat) (i : Nat) : Prop := ∀ k, k < i → 3 ≤ v k → μ.1 17 (c3 v k) = nI k
def FT (μ μ1 : zM) (v : Nat → Nat) (i : Nat) : Prop := a_Fz [(17, 9999)] μ μ1 ∧ a_H μ1 ∧ F3 μ1 v i
theorem FT.no {μ μ1 : zM} {v : Nat → Nat} {i : Nat} (h : FT μ μ1 v i) (h3 : ¬ 3 ≤ v i) : FT μ μ1 v (i + 1) := ⟨h.1, h.2.1, fun k hk h9 => h.2.2 k (if e : k = i then (by rw [e] at h9; exact absurd h9 h3) else (by omega)) h9⟩
theorem FT.yes {μ μ1 : zM} {v : Nat → Nat} {i : Nat} (h : FT μ μ1 v i) (h3 : 3 ≤ v i) : FT μ (z_ui μ1 17 (c3 v i) (nI i)) v (i + 1) := by
  refine ⟨a_Fz_ui h.1 (a_mda_md (by decide) _), a_H_ui h.2.1 (bI_top _), fun k hk h9 => ?_⟩
  rw [z_ui_rd]
  by_cases e : k = i
  · rw [e, if_pos ⟨rfl, rfl⟩]
  · have := c3_lt v (show k < i by omega) h9
    rw [if_neg (fun z => by omega)]
    exact h.2.2 k (by omega) h9
theorem lt3 : ∀ a, a < 6 → (nI a < 3 ↔ a < 3) := by decide +kernel
theorem zh_X1_findThrees : zH mi_X1_findThrees zc_X1_findThrees 79 1 3 := ⟨by rfl, by rfl, by rfl, by rfl⟩
theorem fb_X1_findThrees (d : Nat) (hd : 1 ≤ d) (μ : zM) (w : Nat → Nat) (p : Nat) (hw : RW μ 10 w) (hp : p < 34) (h2 : 2 ≤ w p) (h15 : μ.1 14 15 = nI p) (ht : μ.2.2 14 = 9) (hH0 : a_H μ) (hs : sn (sb2 w p) 34 ≤ 12) : z_C d mi_X1_findThrees [.ref 14] μ (fun r μ' => r = some (.int (nI (c3 (sb2 w p) 34))) ∧ FT μ μ' (sb2 w p) 34) := by
  refine z_C_in (by decide) (by omega) (fun d' Z ed hc hr => ?_)
  have hH := zh_X1_findThrees
  have hv : ∀ k, sb2 w p k = if k = p then w k - 2 else w k := fun k => rfl
  generalize sb2 w p = v at hs hr hv
  have c4 : c3 v 34 ≤ 4 := by have := c3_sn v 34; omega
  have lp : ∀ (n i : Nat), i + n = 34 → ∀ μ1, FT μ μ1 v i → Z 0 4 [(2, .int (nI i)), (1, .int (nI (c3 v i))), (0, .ref 14)] [] μ1 := by
    intro n
    induction n with
    | zero =>
      intro i hi μ1 g
      have hi : i = 34 := by omega
      subst hi
      refine z_rcs hc hH 2 (pc' := 7) (lv' := [(2, .int (nI 34)), (1, .int (nI (c3 v 34))), (0, .ref 14)]) (st' := [.int 34, .int (nI 34)]) (μ' := μ1) (by rfl) ?_
      refine zq_ic hc hH (by rfl) (tg := 58) (by rfl) (fun _ => ?_) (fun h9 => (zb_t (ge_nIt (n := 34) (i := 34) (by decide) (by decide)) h9).elim)
      refine z_rcs hc hH 1 (pc' := 59) (lv' := [(2, .int (nI 34)), (1, .int (nI (c3 v 34))), (0, .ref 14)]) (st' := [.int (nI (c3 v 34))]) (μ' := μ1) (by rfl) ?_
      exact hr 0 59 _ _ _ (some (.int (nI (c3 v 34)))) (by decide +kernel) (by rfl) (⟨rfl, g⟩)
    | succ n ih =>
      intro i hi μ1 g
      have hin : vp_in (nI i) 34 := vp_in_nI (by omega) (by decide)
      have ei : (nI i).toNatClampNeg = i := nI_clamp (by omega)
      have wi : μ1.1 10 i = nI (w i) := (a_Fz_at g.1 10 i (a_md_row (by decide))).trans (hw i (by omega)).1
      have bw := (hw i (by omega)).2
      have ht1 : μ1.2.2 14 = 9 := (g.1.2 14 (by decide)).trans ht
      have e151 : μ1.1 14 15 = nI p := (a_Fz_at g.1 14 15 (a_md_row (by decide))).trans h15
      have ci := c3_le v (show i ≤ 34 by omega)
      by_cases hc4 : c3 v i = 4
      · have ec : c3 v 34 = 4 := by omega
        have g34 : FT μ μ1 v 34 := ⟨g.1, g.2.1, fun k hk h9 => g.2.2 k (by
          by_cases e : k < i
          · exact e
          · exfalso; have := c3_lt v (show k < 34 from hk) h9; have := c3_le v (show i ≤ k by omega); omega) h9⟩
        rw [ec] at hr
        rw [hc4]
        refine z_rcs hc hH 2 (pc' := 7) (lv' := [(2, .int (nI i)), (1, .int (nI 4)), (0, .ref 14)]) (st' := [.int 34, .int (nI i)]) (μ' := μ1) (by rfl) ?_
        refine zq_ic hc hH (by rfl) (tg := 58) (by rfl) (fun h9 => (zb_t h9 (ge_nI (n := 34) (i := i) (by omega) (by decide))).elim) (fun _ => ?_)
        refine z_rcs hc hH 2 (pc' := 12) (lv' := [(2, .int (nI i)), (1, .int (nI 4)), (0, .ref 14)]) (st' := [.int 4, .int (nI 4)]) (μ' := μ1) (by rfl) ?_
        refine zq_ic hc hH (by rfl) (tg := 58) (by rfl) (fun _ => ?_) (fun h9 => (zb_t (ge_nIt (n := 4) (i := 4) (by decide) (by decide)) h9).elim)
        refine z_rcs hc hH 1 (pc' := 59) (lv' := [(2, .int (nI i)), (1, .int (nI 4)), (0, .ref 14)]) (st' := [.int (nI 4)]) (μ' := μ1) (by rfl) ?_
        exact hr 0 59 _ _ _ (some (.int (nI 4))) (by decide +kernel) (by rfl) (⟨rfl, g34⟩)
      · have inc : vp_in (nI (c3 v i)) 4 := vp_in_nI (by omega) (by decide)
        have ec : (nI (c3 v i)).toNatClampNeg = c3 v i := nI_clamp (by omega)
        refine z_rcs hc hH 2 (pc' := 7) (lv' := [(2, .int (nI i)), (1, .int (nI (c3 v i))), (0, .ref 14)]) (st' := [.int 34, .int (nI i)]) (μ' := μ1) (by rfl) ?_
        refine zq_ic hc hH (by rfl) (tg := 58) (by rfl) (fun h9 => (zb_t h9 (ge_nI (n := 34) (i := i) (by omega) (by decide))).elim) (fun _ => ?_)
        refine z_rcs hc hH 2 (pc' := 12) (lv' := [(2, .int (nI i)), (1, .int (nI (c3 v i))), (0, .ref 14)]) (st' := [.int 4, .int (nI (c3 v i))]) (μ' := μ1) (by rfl) ?_
        refine zq_ic hc hH (by rfl) (tg := 58) (by rfl) (fun h9 => (zb_t h9 (ge_nI (n := 4) (i := c3 v i) (by omega) (by decide))).elim) (fun _ => ?_)
        refine z_rcs hc hH 1 (pc' := 16) (lv' := [(2, .int (nI i)), (1, .int (nI (c3 v i))), (0, .ref 14)]) (st' := [.ref 14]) (μ' := μ1) (by rfl) ?_
        refine zq_tget hc hH (by rfl) (ci := 0) (f := 5) (t := 9) (by decide +kernel) ht1 (by decide) ?_
        show Z 0 19 [(2, .int (nI i)), (1, .int (nI (c3 v i))), (0, .ref 14)] [.ref 9] μ1
        refine z_rcs hc hH 2 (pc' := 23) (lv' := [(2, .int (nI i)), (1, .int (nI (c3 v i))), (0, .ref 14)]) (st' := [.int (nI i), .ref 10]) (μ' := μ1) (by rfl) ?_
        refine zq_iald hc hH (by rfl) 34 (by decide +kernel) (hin) ?_
        rw [ei, wi]
        show Z 0 24 [(2, .int (nI i)), (1, .int (nI (c3 v i))), (0, .ref 14)] [.int (nI (w i))] μ1
        refine z_rcs hc hH 3 (pc' := 29) (lv' := [(2, .int (nI i)), (1, .int (nI (c3 v i))), (0, .ref 14)]) (st' := [.int (μ1.1 14 15), .int (nI i), .int (nI (w i))]) (μ' := μ1) (by rfl) ?_
        rw [e151]
        show Z 0 29 [(2, .int (nI i)), (1, .int (nI (c3 v i))), (0, .ref 14)] [.int (nI p), .int (nI i), .int (nI (w i))] μ1
        refine zq_ic hc hH (by rfl) (tg := 36) (by rfl) (fun h1 => ?_) (fun h1 => ?_)
        · have h1 := cm_ne.mp h1
          refine z_rcs hc hH 2 (pc' := 38) (lv' := [(2, .int (nI i)), (1, .int (nI (c3 v i))), (0, .ref 14)]) (st' := [.int ((nI (w i)) - 0)]) (μ' := μ1) (by rfl) ?_
          have ev : nI (w i) - 0 = nI (v i) := by rw [hv, if_neg (fun z => h1 (by rw [z])), Int32.sub_zero]
          have bv : v i < 6 := by rw [hv, if_neg (fun z => h1 (by rw [z]))]; omega
          rw [ev]
          show Z 0 38 [(2, .int (nI i)), (1, .int (nI (c3 v i))), (0, .ref 14)] [.int (nI (v i))] μ1
          refine z_rcs hc hH 1 (pc' := 39) (lv' := [(2, .int (nI i)), (1, .int (nI (c3 v i))), (0, .ref 14)]) (st' := [.int 3, .int (nI (v i))]) (μ' := μ1) (by rfl) ?_
          refine zq_ic hc hH (by rfl) (tg := 52) (by rfl) (fun h2 => ?_) (fun h2 => ?_)
          · have h2 := cm_lt.mp h2
            refine z_rcs hc hH 2 (pc' := 4) (lv' := [(2, .int ((nI i) + 1)), (1, .int (nI (c3 v i))), (0, .ref 14)]) (st' := []) (μ' := μ1) (by rfl) ?_
            have h3 : ¬ 3 ≤ v i := by have := (lt3 (v i) bv).mp h2; omega
            have e3 : c3 v (i + 1) = c3 v i := by rw [c3_s, if_neg h3, Nat.add_zero]
            rw [nI_1, ← e3]
            exact ih (i + 1) (by omega) μ1 (g.no h3)
          · have h2 := cn_lt.mp h2
            refine z_rcs hc hH 4 (pc' := 48) (lv' := [(2, .int (nI i)), (1, .int (nI (c3 v i))), (0, .ref 14)]) (st' := [.int (nI i), .int (nI (c3 v i)), .ref 17]) (μ' := μ1) (by rfl) ?_
            refine zq_iast hc hH (by rfl) 4 (by decide +kernel) (inc) ?_
            rw [ec]
            have h3 : 3 ≤ v i := by have := mt (lt3 (v i) bv).mpr h2; omega
            have g2 : FT μ (z_ui μ1 17 (c3 v i) (nI i)) v (i + 1) := g.yes h3
            have e3 : c3 v (i + 1) = c3 v i + 1 := by rw [c3_s, if_pos h3]
            generalize z_ui μ1 17 (c3 v i) (nI i) = μ2 at g2 ⊢
            refine z_rcs hc hH 3 (pc' := 4) (lv' := [(2, .int ((nI i) + 1)), (1, .int ((nI (c3 v i)) + 1)), (0, .ref 14)]) (st' := []) (μ' := μ2) (by rfl) ?_
            rw [nI_1, nI_1, ← e3]
            exact ih (i + 1) (by omega) μ2 g2
        · have h1 := cn_ne.mp h1
          refine z_rcs hc hH 3 (pc' := 38) (lv' := [(2, .int (nI i)), (1, .int (nI (c3 v i))), (0, .ref 14)]) (st' := [.int ((nI (w i)) - 2)]) (μ' := μ1) (by rfl) ?_
          have hip : i = p := (nI_eq (by omega) (by omega)).mp h1
          have ev : nI (w i) - 2 = nI (v i) := by rw [hv, if_pos hip]; exact l_2 (w i) (by omega) (by rw [hip]; exact h2)
          have bv : v i < 6 := by rw [hv, if_pos hip]; omega
          rw [ev]
          show Z 0 38 [(2, .int (nI i)), (1, .int (nI (c3 v i))), (0, .ref 14)] [.int (nI (v i))] μ1
          refine z_rcs hc hH 1 (pc' := 39) (lv' := [(2, .int (nI i)), (1, .int (nI (c3 v i))), (0, .ref 14)]) (st' := [.int 3, .int (nI (v i))]) (μ' := μ1) (by rfl) ?_
          refine zq_ic hc hH (by rfl) (tg := 52) (by rfl) (fun h3 => ?_) (fun h3 => ?_)
          · have h3 := cm_lt.mp h3
            refine z_rcs hc hH 2 (pc' := 4) (lv' := [(2, .int ((nI i) + 1)), (1, .int (nI (c3 v i))), (0, .ref 14)]) (st' := []) (μ' := μ1) (by rfl) ?_
            have h3 : ¬ 3 ≤ v i := by have := (lt3 (v i) bv).mp h3; omega
            have e3 : c3 v (i + 1) = c3 v i := by rw [c3_s, if_neg h3, Nat.add_zero]
            rw [nI_1, ← e3]
            exact ih (i + 1) (by omega) μ1 (g.no h3)
          · have h3 := cn_lt.mp h3
            refine z_rcs hc hH 4 (pc' := 48) (lv' := [(2, .int (nI i)), (1, .int (nI (c3 v i))), (0, .ref 14)]) (st' := [.int (nI i), .int (nI (c3 v i)), .ref 17]) (μ' := μ1) (by rfl) ?_
            refine zq_iast hc hH (by rfl) 4 (by decide +kernel) (inc) ?_
            rw [ec]
            have h3 : 3 ≤ v i := by have := mt (lt3 (v i) bv).mpr h3; omega
            have g2 : FT μ (z_ui μ1 17 (c3 v i) (nI i)) v (i + 1) := g.yes h3
            have e3 : c3 v (i + 1) = c3 v i + 1 := by rw [c3_s, if_pos h3]
            generalize z_ui μ1 17 (c3 v i) (nI i) = μ2 at g2 ⊢
            refine z_rcs hc hH 3 (pc' := 4) (lv' := [(2, .int ((nI i) + 1)), (1, .int ((nI (c3 v i)) + 1)), (0, .ref 14)]) (st' := []) (μ' := μ2) (by rfl) ?_
            rw [nI_1, nI_1, ← e3]
            exact ih (i + 1) (by omega) μ2 g2
  refine z_rcs hc hH 4 (pc' := 4) (lv' := [(2, .int 0), (1, .int 0), (0, .ref 14)]) (st' := []) (μ' := μ) (by rfl) ?_
  exact lp 34 0 (by omega) μ ⟨a_Fz_rf _ _, hH0, fun k hk => absurd hk (by omega)⟩
def chB (f : Nat → Int32) (c : Nat) : Nat → Int64
  | 0 => 0
  | i + 1 => if c / 2 ^ i % 2 = 1 then chB f c i ||| ((1 : Int64) <<< ((f i).toInt64 &&& 63)) else chB f c i
theorem ch_b : ∀ c, c < 16 → ∀ i, i < 4 → ((((nI c).toUInt32 >>> ((nI i).toUInt32 &&& Int32.toUInt32 31)).toInt32 &&& 1) = 0 ↔ ¬ c / 2 ^ i % 2 = 1) := by decide +kernel
theorem zh_X1_chosenThrees : zH mi_X1_chosenThrees zc_X1_chosenThrees 79 1 5 := ⟨by rfl, by rfl, by rfl, by rfl⟩
theorem fb_X1_chosenThrees (d : Nat) (hd : 1 ≤ d) (μ : zM) (c : Nat) (hcc : c < 16) : z_C d mi_X1_chosenThrees [.ref 14, .int (nI c)] μ (zR μ (.long (chB (μ.1 17) c 4))) := by
  refine z_C_in (by decide) (by omega) (fun d' Z ed hc hr => ?_)
  have hH := zh_X1_chosenThrees
  have lp : ∀ (n i : Nat), i + n = 4 → Z 0 5 [(4, .int (nI i)), (2, .long (chB (μ.1 17) c i)), (0, .ref 14), (1, .int (nI c))] [] μ := by
    intro n
    induction n with
    | zero =>
      intro i hi
      have hi : i = 4 := by omega
      subst hi
      refine z_rcs hc hH 2 (pc' := 8) (lv' := [(4, .int (nI 4)), (2, .long (chB (μ.1 17) c 4)), (0, .ref 14), (1, .int (nI c))]) (st' := [.int 4, .int (nI 4)]) (μ' := μ) (by rfl) ?_
      refine zq_ic hc hH (by rfl) (tg := 38) (by rfl) (fun _ => ?_) (fun h9 => (zb_t (ge_nIt (n := 4) (i := 4) (by decide) (by decide)) h9).elim)
      refine z_rcs hc hH 1 (pc' := 39) (lv' := [(4, .int (nI 4)), (2, .long (chB (μ.1 17) c 4)), (0, .ref 14), (1, .int (nI c))]) (st' := [.long (chB (μ.1 17) c 4)]) (μ' := μ) (by rfl) ?_
      exact hr 0 39 _ _ _ (some (.long (chB (μ.1 17) c 4))) (by decide +kernel) (by rfl) (⟨rfl, rfl⟩)
    | succ n ih =>
      intro i hi
      have hin : vp_in (nI i) 4 := vp_in_nI (by omega) (by decide)
      have ei : (nI i).toNatClampNeg = i := nI_clamp (by omega)
      have e0 : chB (μ.1 17) c (i + 1) = if c / 2 ^ i % 2 = 1 then chB (μ.1 17) c i ||| ((1 : Int64) <<< ((μ.1 17 i).toInt64 &&& 63)) else chB (μ.1 17) c i := rfl
      refine z_rcs hc hH 2 (pc' := 8) (lv' := [(4, .int (nI i)), (2, .long (chB (μ.1 17) c i)), (0, .ref 14), (1, .int (nI c))]) (st' := [.int 4, .int (nI i)]) (μ' := μ) (by rfl) ?_
      refine zq_ic hc hH (by rfl) (tg := 38) (by rfl) (fun h9 => (zb_t h9 (ge_nI (n := 4) (i := i) (by omega) (by decide))).elim) (fun _ => ?_)
      refine z_rcs hc hH 2 (pc' := 14) (lv' := [(4, .int (nI i)), (2, .long (chB (μ.1 17) c i)), (0, .ref 14), (1, .int (nI c))]) (st' := [.int (nI i), .int (nI c)]) (μ' := μ) (by rfl) ?_
      refine z_rcs hc hH 3 (pc' := 17) (lv' := [(4, .int (nI i)), (2, .long (chB (μ.1 17) c i)), (0, .ref 14), (1, .int (nI c))]) (st' := [.int ((((nI c).toUInt32 >>> ((nI i).toUInt32 &&& Int32.toUInt32 31)).toInt32) &&& 1)]) (μ' := μ) (by rfl) ?_
      refine zq_if hc hH (by rfl) (tg := 32) (by rfl) (fun h1 => ?_) (fun h1 => ?_)
      · have h1 := cm_eq9.mp h1
        refine z_rcs hc hH 2 (pc' := 5) (lv' := [(4, .int ((nI i) + 1)), (2, .long (chB (μ.1 17) c i)), (0, .ref 14), (1, .int (nI c))]) (st' := []) (μ' := μ) (by rfl) ?_
        rw [if_neg ((ch_b c hcc i (by omega)).mp h1)] at e0
        rw [nI_1, ← e0]
        exact ih (i + 1) (by omega)
      · have h1 := cn_eq.mp h1
        refine z_rcs hc hH 5 (pc' := 28) (lv' := [(4, .int (nI i)), (2, .long (chB (μ.1 17) c i)), (0, .ref 14), (1, .int (nI c))]) (st' := [.int (nI i), .ref 17, .long 1, .long (chB (μ.1 17) c i)]) (μ' := μ) (by rfl) ?_
        refine zq_iald hc hH (by rfl) 4 (by decide +kernel) (hin) ?_
        rw [ei]
        show Z 0 29 [(4, .int (nI i)), (2, .long (chB (μ.1 17) c i)), (0, .ref 14), (1, .int (nI c))] [.int (μ.1 17 i), .long 1, .long (chB (μ.1 17) c i)] μ
        refine z_rcs hc hH 5 (pc' := 5) (lv' := [(4, .int ((nI i) + 1)), (2, .long ((chB (μ.1 17) c i) ||| (1 <<< ((μ.1 17 i).toInt64 &&& 63)))), (0, .ref 14), (1, .int (nI c))]) (st' := []) (μ' := μ) (by rfl) ?_
        rw [if_pos (Decidable.byContradiction fun z => h1 ((ch_b c hcc i (by omega)).mpr z))] at e0
        rw [nI_1, ← e0]
        exact ih (i + 1) (by omega)
  refine z_rcs hc hH 4 (pc' := 5) (lv' := [(4, .int 0), (2, .long 0), (0, .ref 14), (1, .int (nI c))]) (st' := []) (μ' := μ) (by rfl) ?_
  exact lp 4 0 (by omega)
/-- a bit that is shifted down -/
theorem us_n : ∀ k, k < 64 → ((nI k).toInt64.toUInt64 &&& Int64.toUInt64 63) = UInt64.ofNat k := by decide +kernel
theorem us_bit (x : Int64) (k : Nat) (hk : k < 64) : (((x.toUInt64 >>> ((nI k).toInt64.toUInt64 &&& Int64.toUInt64 63)).toInt64) &&& 1) = 0 ↔ x.toBitVec.getLsbD k = false := by
  rw [us_n k hk]
  have e : ((x.toUInt64 >>> (UInt64.ofNat k)).toInt64 &&& 1).toBitVec = (x.toBitVec >>> k) &&& 1#64 := by
    rw [Int64.toBitVec_and]
    congr 1
    show (x.toUInt64 >>> UInt64.ofNat k).toBitVec = _
    rw [UInt64.toBitVec_shiftRight]
    have : (UInt64.ofNat k).toBitVec % 64 = BitVec.ofNat 64 k := by
      revert k; decide +kernel
    rw [this]
    show x.toBitVec >>> (BitVec.ofNat 64 k) = _
    rw [BitVec.ushiftRight_eq', BitVec.toNat_ofNat, Nat.mod_eq_of_lt (by omega)]
  constructor
  · intro h
    have h2 : ((x.toBitVec >>> k) &&& 1#64).getLsbD 0 = (0#64).getLsbD 0 := by rw [← e, h]; rfl
    rw [BitVec.getLsbD_and, BitVec.getLsbD_ushiftRight] at h2
    simpa using h2
  · intro h
    rw [← Int64.toBitVec_inj, e]
    show _ = 0#64
    apply BitVec.eq_of_getLsbD_eq
    intro i hi
    rw [BitVec.getLsbD_and, BitVec.getLsbD_ushiftRight]
    by_cases h0 : i = 0
    · subst h0; rw [Nat.add_zero, h]; rfl
    · have : (1#64).getLsbD i = false := by rw [BitVec.getLsbD_one]; simp; omega
      rw [this]; simp
theorem xHd_bit (x : Int64) (k : Nat) (hk : k < 34) : xHd x (nI k) = x.toBitVec.getLsbD k := by
  have e1 : decide (nI k < 0) = false := by revert k; decide +kernel
  have e2 : decide ((34 : Int32) ≤ nI k) = false := by revert k; decide +kernel
  unfold xHd
  rw [e1, e2]
  show (true && (true && !decide _)) = _
  rw [Bool.true_and, Bool.true_and]
  cases h : x.toBitVec.getLsbD k
  · rw [decide_eq_true (lg_c0.mpr ((us_bit x k (by omega)).mpr h))]; rfl
  · rw [decide_eq_false (fun z => by have := (us_bit x k (by omega)).mp (lg_c0.mp z); rw [h] at this; exact absurd this (by decide))]; rfl
theorem one_bit (a k : Nat) (ha : a < 34) (hk : k < 64) : ((1 : Int64) <<< ((nI a).toInt64 &&& 63)).toBitVec.getLsbD k = decide (a = k) := by
  rw [kb_one a ha, BitVec.getLsbD_twoPow]
  by_cases h : a = k
  · subst h; simp; omega
  · simp [h]
theorem chB_bit (f : Nat → Int32) (c : Nat) (k : Nat) (hk : k < 34) : ∀ i, (∀ j, j < i → c / 2 ^ j % 2 = 1 → ∃ a, a < 34 ∧ f j = nI a) → ((chB f c i).toBitVec.getLsbD k = true ↔ ∃ j, j < i ∧ c / 2 ^ j % 2 = 1 ∧ f j = nI k) := by
  intro i
  induction i with
  | zero => intro _; exact ⟨fun h => absurd h (by rw [show (chB f c 0).toBitVec = 0#64 from rfl, BitVec.getLsbD_zero]; decide), fun ⟨j, hj, _⟩ => absurd hj (by omega)⟩
  | succ i ih =>
    intro hf
    have i1 := ih (fun j hj => hf j (by omega))
    show (if c / 2 ^ i % 2 = 1 then chB f c i ||| ((1 : Int64) <<< ((f i).toInt64 &&& 63)) else chB f c i).toBitVec.getLsbD k = true ↔ _
    by_cases h : c / 2 ^ i % 2 = 1
    · obtain ⟨a, ha, ea⟩ := hf i (by omega) h
      rw [if_pos h, Int64.toBitVec_or, BitVec.getLsbD_or, Bool.or_eq_true, i1, ea, one_bit a k ha (by omega), decide_eq_true_iff]
      constructor
      · rintro (⟨j, h1, h2⟩ | e)
        · exact ⟨j, by omega, h2⟩
        · exact ⟨i, by omega, h, by rw [ea, e]⟩
      · rintro ⟨j, h1, h2, h3⟩
        by_cases e : j = i
        · rw [e, ea] at h3; exact Or.inr ((nI_eq (by omega) (by omega)).mp h3)
        · exact Or.inl ⟨j, by omega, h2, h3⟩
    · rw [if_neg h, i1]
      exact ⟨fun ⟨j, h1, h2⟩ => ⟨j, by omega, h2⟩, fun ⟨j, h1, h2⟩ => ⟨j, if e : j = i then (by rw [e] at h2; exact absurd h2.1 h) else (by omega), h2⟩⟩
