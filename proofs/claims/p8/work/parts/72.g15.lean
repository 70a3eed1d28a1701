/-! the class: HAN, an offer, a completed SET -/
set_option maxRecDepth 8000
theorem zq_hld {j : Nat} {C : Nat → List Value → zM → zQ → Prop} {Z : zK} {code : zT} {oc nL : Nat} {b pc : Nat} {lv : zL} {μ : zM} (h : z_clo z_x0 j C Z) (hH : zH j code 79 oc nL) (hi : z_tk code.2.1 pc = some .iaload) {t : List Value} (r : Nat) (hr : r = 101 ∨ r = 102) (n : Nat) (hn : n < 30) (k : Z b (pc + 1) lv (.int ((z_ro z_x0 r).2 n) :: t) μ) : Z b pc lv (.int (nI n) :: .ref r :: t) μ := by
  refine zq_st h hH hi ?_ k
  have e2 : z_in (nI n) 30 = true := z_in_iff.mpr (vp_in_nI hn (by omega))
  have e3 : (nI n).toNatClampNeg = n := nI_clamp (by omega)
  rcases hr with rfl | rfl
  · show (match (bif z_av z_x0 101 && z_in (nI n) 30 then some ((Value.int ((z_ro z_x0 101).2 (nI n).toNatClampNeg) :: t, μ) : List Value × zM) else none) with | some (st', μ') => some (pc + 1, lv, st', μ') | none => none) = _
    rw [show z_av z_x0 101 = true from rfl, e2, e3]; rfl
  · show (match (bif z_av z_x0 102 && z_in (nI n) 30 then some ((Value.int ((z_ro z_x0 102).2 (nI n).toNatClampNeg) :: t, μ) : List Value × zM) else none) with | some (st', μ') => some (pc + 1, lv, st', μ') | none => none) = _
    rw [show z_av z_x0 102 = true from rfl, e2, e3]; rfl
noncomputable def hb (f : Int64) (i : Nat) : Bool := decide (lg_cmp (((f.toUInt64 >>> ((nI i).toInt64.toUInt64 &&& Int64.toUInt64 63)).toInt64) &&& 1) 0 = 0)
noncomputable def hnc (f : Int64) (op : Int32) : Nat → Int32
  | 0 => 0
  | i + 1 => bif hb f i then hnc f op i else hnc f op i + (bif decide (op = 0) then (z_ro z_x0 101).2 i else (z_ro z_x0 102).2 i)
theorem zh_X0_hanOf : zH mi_X0_hanOf zt_X0_hanOf 79 0 5 := hh_X0_hanOf
theorem fb_X0_hanOf (d : Nat) (hd : 1 ≤ d) (μ : zM) (f : Int64) (op : Int32) : z_C d mi_X0_hanOf [.long f, .int op] μ (zR μ (.int (hnc f op 30))) := by
  refine z_C_in (by decide) (by omega) (fun d' Z ed hc hr => ?_)
  have hH := zh_X0_hanOf
  have lp : ∀ (n i : Nat), i + n = 30 → Z 0 5 [(4, .int (nI i)), (3, .int (hnc f op i)), (0, .long f), (2, .int op)] [] μ := by
    intro n
    induction n with
    | zero =>
      intro i hi
      have hi : i = 30 := by omega
      subst hi
      refine z_rcs hc hH 1 (pc' := 7) (lv' := [(4, .int (nI 30)), (3, .int (hnc f op 30)), (0, .long f), (2, .int op)]) (st' := [.int (nI 30)]) (μ' := μ) (by rfl) ?_
      refine z_rcs hc hH 1 (pc' := 10) (lv' := [(4, .int (nI 30)), (3, .int (hnc f op 30)), (0, .long f), (2, .int op)]) (st' := [.ref 101, .int (nI 30)]) (μ' := μ) (by rfl) ?_
      refine z_rcs hc hH 1 (pc' := 11) (lv' := [(4, .int (nI 30)), (3, .int (hnc f op 30)), (0, .long f), (2, .int op)]) (st' := [.int (nI 30), .int (nI 30)]) (μ' := μ) (by rfl) ?_
      refine zq_ic hc hH (by rfl) (tg := 62) (by rfl) (fun _ => ?_) (fun h9 => (zb_t (ge_nIt (n := 30) (i := 30) (by decide) (by decide)) h9).elim)
      refine z_rcs hc hH 1 (pc' := 63) (lv' := [(4, .int (nI 30)), (3, .int (hnc f op 30)), (0, .long f), (2, .int op)]) (st' := [.int (hnc f op 30)]) (μ' := μ) (by rfl) ?_
      exact hr 0 63 _ _ _ (some (.int (hnc f op 30))) (by decide +kernel) (z_rx_ok hH (by rfl)) (⟨rfl, rfl⟩)
    | succ n ih =>
      intro i hi
      have e0 : hnc f op (i + 1) = bif hb f i then hnc f op i else hnc f op i + (bif decide (op = 0) then (z_ro z_x0 101).2 i else (z_ro z_x0 102).2 i) := rfl
      refine z_rcs hc hH 1 (pc' := 7) (lv' := [(4, .int (nI i)), (3, .int (hnc f op i)), (0, .long f), (2, .int op)]) (st' := [.int (nI i)]) (μ' := μ) (by rfl) ?_
      refine z_rcs hc hH 1 (pc' := 10) (lv' := [(4, .int (nI i)), (3, .int (hnc f op i)), (0, .long f), (2, .int op)]) (st' := [.ref 101, .int (nI i)]) (μ' := μ) (by rfl) ?_
      refine z_rcs hc hH 1 (pc' := 11) (lv' := [(4, .int (nI i)), (3, .int (hnc f op i)), (0, .long f), (2, .int op)]) (st' := [.int (nI 30), .int (nI i)]) (μ' := μ) (by rfl) ?_
      refine zq_ic hc hH (by rfl) (tg := 62) (by rfl) (fun h9 => (zb_t h9 (ge_nI (n := 30) (i := i) (by omega) (by decide))).elim) (fun _ => ?_)
      refine z_rcs hc hH 1 (pc' := 16) (lv' := [(4, .int (nI i)), (3, .int (hnc f op i)), (0, .long f), (2, .int op)]) (st' := [.int (nI i)]) (μ' := μ) (by rfl) ?_
      refine z_rcs hc hH 1 (pc' := 19) (lv' := [(4, .int (nI i)), (3, .int (hnc f op i)), (0, .long f), (2, .int op)]) (st' := [.ref 102, .int (nI i)]) (μ' := μ) (by rfl) ?_
      refine z_rcs hc hH 1 (pc' := 20) (lv' := [(4, .int (nI i)), (3, .int (hnc f op i)), (0, .long f), (2, .int op)]) (st' := [.int (nI 30), .int (nI i)]) (μ' := μ) (by rfl) ?_
      refine zq_ic hc hH (by rfl) (tg := 62) (by rfl) (fun h9 => (zb_t h9 (ge_nI (n := 30) (i := i) (by omega) (by decide))).elim) (fun _ => ?_)
      refine z_rcs hc hH 7 (pc' := 31) (lv' := [(4, .int (nI i)), (3, .int (hnc f op i)), (0, .long f), (2, .int op)]) (st' := [.int (lg_cmp (((f.toUInt64 >>> ((nI i).toInt64.toUInt64 &&& Int64.toUInt64 63)).toInt64) &&& 1) 0)]) (μ' := μ) (by rfl) ?_
      refine zq_if hc hH (by rfl) (tg := 56) (by rfl) (fun h1 => ?_) (fun h1 => ?_)
      · have h1 := cm_eq9.mp h1
        refine z_rcs hc hH 2 (pc' := 5) (lv' := [(4, .int ((nI i) + 1)), (3, .int (hnc f op i)), (0, .long f), (2, .int op)]) (st' := []) (μ' := μ) (by rfl) ?_
        rw [show hb f i = true from decide_eq_true h1] at e0
        have e0 : hnc f op (i + 1) = hnc f op i := e0
        rw [nI_1, ← e0]
        exact ih (i + 1) (by omega)
      · have h1 := cn_eq.mp h1
        refine z_rcs hc hH 2 (pc' := 36) (lv' := [(4, .int (nI i)), (3, .int (hnc f op i)), (0, .long f), (2, .int op)]) (st' := [.int op, .int (hnc f op i)]) (μ' := μ) (by rfl) ?_
        refine zq_if hc hH (by rfl) (tg := 48) (by rfl) (fun h2 => ?_) (fun h2 => ?_)
        · have h2 := cm_eq9.mp h2
          refine z_rcs hc hH 2 (pc' := 53) (lv' := [(4, .int (nI i)), (3, .int (hnc f op i)), (0, .long f), (2, .int op)]) (st' := [.int (nI i), .ref 101, .int (hnc f op i)]) (μ' := μ) (by rfl) ?_
          refine zq_hld hc hH (by rfl) 101 (by decide) i (by omega) ?_
          show Z 0 54 [(4, .int (nI i)), (3, .int (hnc f op i)), (0, .long f), (2, .int op)] [.int ((z_ro z_x0 101).2 i), .int (hnc f op i)] μ
          refine z_rcs hc hH 4 (pc' := 5) (lv' := [(4, .int ((nI i) + 1)), (3, .int ((hnc f op i) + ((z_ro z_x0 101).2 i))), (0, .long f), (2, .int op)]) (st' := []) (μ' := μ) (by rfl) ?_
          rw [show hb f i = false from decide_eq_false h1] at e0
          rw [show decide (op = 0) = true from decide_eq_true h2] at e0
          have e0 : hnc f op (i + 1) = (hnc f op i) + ((z_ro z_x0 101).2 i) := e0
          rw [nI_1, ← e0]
          exact ih (i + 1) (by omega)
        · have h2 := cn_eq.mp h2
          refine z_rcs hc hH 2 (pc' := 44) (lv' := [(4, .int (nI i)), (3, .int (hnc f op i)), (0, .long f), (2, .int op)]) (st' := [.int (nI i), .ref 102, .int (hnc f op i)]) (μ' := μ) (by rfl) ?_
          refine zq_hld hc hH (by rfl) 102 (by decide) i (by omega) ?_
          show Z 0 45 [(4, .int (nI i)), (3, .int (hnc f op i)), (0, .long f), (2, .int op)] [.int ((z_ro z_x0 102).2 i), .int (hnc f op i)] μ
          refine z_rcs hc hH 5 (pc' := 5) (lv' := [(4, .int ((nI i) + 1)), (3, .int ((hnc f op i) + ((z_ro z_x0 102).2 i))), (0, .long f), (2, .int op)]) (st' := []) (μ' := μ) (by rfl) ?_
          rw [show hb f i = false from decide_eq_false h1] at e0
          rw [show decide (op = 0) = false from decide_eq_false h2] at e0
          have e0 : hnc f op (i + 1) = (hnc f op i) + ((z_ro z_x0 102).2 i) := e0
          rw [nI_1, ← e0]
          exact ih (i + 1) (by omega)
  refine z_rcs hc hH 4 (pc' := 5) (lv' := [(4, .int 0), (3, .int 0), (0, .long f), (2, .int op)]) (st' := []) (μ' := μ) (by rfl) ?_
  exact lp 30 0 (by omega)
noncomputable def baC (fu ha : Int32) : Int32 := bif decide (4 < ha) then bif decide (ha = 5) then (2000 : Int32) else bif decide (7 < ha) then bif decide (10 < ha) then bif decide (12 < ha) then (8000 : Int32) else 6000 else 4000 else 3000 else bif decide (2000 ≤ (fu <<< ((2 + ha) &&& 31))) then (2000 : Int32) else fu <<< ((2 + ha) &&& 31)
/-- what the class makes of FORMS and FU -/
noncomputable def fO (op : Int32) (f : Int64) : Int64 := bif decide (op = 0) then f else f &&& (-268437008)
noncomputable def vO (op dear : Int32) (f : Int64) (fu : Int32) : Q4 := bif decide (lg_cmp (fO op f &&& 17587891077120) 0 = 0) then (bif decide (lg_cmp (fO op f) 0 = 0) then (0, 0, fu, fO op f) else (baC fu (hnc (fO op f) op 30 + dear), hnc (fO op f) op 30 + dear, fu, fO op f)) else (8000 * xBc (fO op f &&& 17587891077120), 13 * xBc (fO op f &&& 17587891077120), fu, fO op f &&& 17587891077120)
noncomputable def bqC (μ : zM) : Q4 := (μ.1 14 0, μ.1 14 1, μ.1 14 2, μ.2.1 14 3)
noncomputable abbrev mdO : List (Nat × Nat) := [(14, 0), (14, 1), (14, 2), (14, 3), (14, 4)]
noncomputable def OQ (μ μ' : zM) (x : Q4) : Prop := a_Fz mdO μ μ' ∧ a_H μ' ∧ μ'.1 14 4 = μ.1 14 4 + 1 ∧ ((μ.1 14 4 + 1 = 1 ∧ bqC μ' = x) ∨ (¬ μ.1 14 4 + 1 = 1 ∧ BS (fun y => y = x) (bqC μ) (bqC μ')))
noncomputable def xBd (μ : zM) (b h f : Int32) (fo : Int64) : Bool := bif decide (b = (μ.1 14 0)) then bif decide (h = (μ.1 14 1)) then bif decide (f = (μ.1 14 2)) then !(decide ((lg_cmp fo (μ.2.1 14 3)) ≤ 0)) else !(decide (f ≤ (μ.1 14 2))) else !(decide (h ≤ (μ.1 14 1))) else !(decide (b ≤ (μ.1 14 0)))
theorem xBd_iff (μ : zM) (b h f : Int32) (fo : Int64) : xBd μ b h f fo = true ↔ g4 (b, h, f, fo) (bqC μ) := by
  unfold xBd g4 bqC
  rw [cmp_le]
  have le : ∀ x y : Int32, decide (x ≤ y) = !decide (y < x) := fun x y => by rw [← decide_not]; exact decide_eq_decide.mpr Int32.not_lt.symm
  rw [le, le, le]
  have irr : ∀ x : Int32, ¬ x < x := fun x => Int32.lt_irrefl
  by_cases h1 : b = μ.1 14 0 <;> by_cases h2 : h = μ.1 14 1 <;> by_cases h3 : f = μ.1 14 2 <;> simp [h1, h2, h3, irr]
theorem OQ_t {μ μ1 : zM} {b h f : Int32} {fo : Int64} (h1 : μ1 = z_ui μ 14 4 (μ.1 14 4 + 1)) (hH : a_H μ) (hg : μ.1 14 4 + 1 = 1 ∨ g4 (b, h, f, fo) (bqC μ1)) : OQ μ (z_uj (z_ui (z_ui (z_ui μ1 14 0 b) 14 1 h) 14 2 f) 14 3 fo) (b, h, f, fo) := by
  subst h1
  have e1 : bqC (z_ui μ 14 4 (μ.1 14 4 + 1)) = bqC μ := by
    unfold bqC
    rw [z_ui_rd, if_neg (by omega), z_ui_rd, if_neg (by omega), z_ui_rd, if_neg (by omega)]; rfl
  rw [e1] at hg
  have e2 : bqC (z_uj (z_ui (z_ui (z_ui (z_ui μ 14 4 (μ.1 14 4 + 1)) 14 0 b) 14 1 h) 14 2 f) 14 3 fo) = (b, h, f, fo) := by
    refine Prod.ext ?_ (Prod.ext ?_ (Prod.ext ?_ ?_))
    · show (z_ui (z_ui (z_ui (z_ui μ 14 4 (μ.1 14 4 + 1)) 14 0 b) 14 1 h) 14 2 f).1 14 0 = b; rw [z_ui_rd, if_neg (by omega), z_ui_rd, if_neg (by omega), z_ui_rd, if_pos ⟨rfl, rfl⟩]
    · show (z_ui (z_ui (z_ui (z_ui μ 14 4 (μ.1 14 4 + 1)) 14 0 b) 14 1 h) 14 2 f).1 14 1 = h; rw [z_ui_rd, if_neg (by omega), z_ui_rd, if_pos ⟨rfl, rfl⟩]
    · show (z_ui (z_ui (z_ui (z_ui μ 14 4 (μ.1 14 4 + 1)) 14 0 b) 14 1 h) 14 2 f).1 14 2 = f; rw [z_ui_rd, if_pos ⟨rfl, rfl⟩]
    · show (z_uj (z_ui (z_ui (z_ui (z_ui μ 14 4 (μ.1 14 4 + 1)) 14 0 b) 14 1 h) 14 2 f) 14 3 fo).2.1 14 3 = fo; rw [z_uj_rd, if_pos ⟨rfl, rfl⟩]
  refine ⟨a_Fz_uj (a_Fz_ui (a_Fz_ui (a_Fz_ui (a_Fz_ui (a_Fz_rf _ _) (by decide)) (by decide)) (by decide)) (by decide)) (by decide), a_H_uj (a_H_ui (a_H_ui (a_H_ui (a_H_ui hH (bI_top _)) (bI_top _)) (bI_top _)) (bI_top _)), ?_, ?_⟩
  · show (z_ui (z_ui (z_ui (z_ui μ 14 4 (μ.1 14 4 + 1)) 14 0 b) 14 1 h) 14 2 f).1 14 4 = _; rw [z_ui_rd, if_neg (by omega), z_ui_rd, if_neg (by omega), z_ui_rd, if_neg (by omega), z_ui_rd, if_pos ⟨rfl, rfl⟩]
  · by_cases c : μ.1 14 4 + 1 = 1
    · exact Or.inl ⟨c, e2⟩
    · exact Or.inr ⟨c, by rw [e2]; exact BS_one (Or.inl ⟨hg.resolve_left c, rfl⟩)⟩
theorem OQ_f {μ μ1 : zM} {x : Q4} (h1 : μ1 = z_ui μ 14 4 (μ.1 14 4 + 1)) (hH : a_H μ) (hn : ¬ μ.1 14 4 + 1 = 1) (hg : ¬ g4 x (bqC μ1)) : OQ μ μ1 x := by
  subst h1
  have e1 : bqC (z_ui μ 14 4 (μ.1 14 4 + 1)) = bqC μ := by
    unfold bqC
    rw [z_ui_rd, if_neg (by omega), z_ui_rd, if_neg (by omega), z_ui_rd, if_neg (by omega)]; rfl
  rw [e1] at hg
  exact ⟨a_Fz_ui (a_Fz_rf _ _) (by decide), a_H_ui hH (bI_top _), by rw [z_ui_rd, if_pos ⟨rfl, rfl⟩], Or.inr ⟨hn, by rw [e1]; exact BS_one (Or.inr ⟨hg, rfl⟩)⟩⟩
theorem zh_X1_offer : zH mi_X1_offer zt_X1_offer 79 1 10 := hh_X1_offer
theorem of108A (d' : Nat) (Z : zK) (hd : 2 ≤ d') (μ μ1 : zM) (hH0 : a_H μ) (hm1 : μ1 = z_ui μ 14 4 (μ.1 14 4 + 1)) (hc : z_clo z_x0 mi_X1_offer (z_C d') Z) (bb hh fu : Int32) (f fo g : Int64) (hr : z_ret mi_X1_offer (fun r μ' => r = none ∧ OQ μ μ' (bb, hh, fu, fo)) Z) : Z 0 108 [(9, .int bb), (8, .int hh), (6, .long g), (4, .long fo), (0, .ref 14), (1, .long f), (3, .int fu)] [] μ1 := by
  have hH := zh_X1_offer
  have e4 : μ1.1 14 4 = μ.1 14 4 + 1 := by rw [hm1, z_ui_rd, if_pos ⟨rfl, rfl⟩]
  refine z_rcs hc hH 3 (pc' := 113) (lv' := [(9, .int bb), (8, .int hh), (6, .long g), (4, .long fo), (0, .ref 14), (1, .long f), (3, .int fu)]) (st' := [.int 1, .int (μ1.1 14 4)]) (μ' := μ1) (by rfl) ?_
  refine zq_ic hc hH (by rfl) (tg := 130) (by rfl) (fun h1 => ?_) (fun h1 => ?_)
  · have h1 := cm_eq9.mp h1
    refine z_rcs hc hH 12 (pc' := 153) (lv' := [(9, .int bb), (8, .int hh), (6, .long g), (4, .long fo), (0, .ref 14), (1, .long f), (3, .int fu)]) (st' := []) (μ' := z_uj (z_ui (z_ui (z_ui μ1 14 0 bb) 14 1 hh) 14 2 fu) 14 3 fo) (by rfl) ?_
    exact hr 0 153 _ _ _ none (by decide +kernel) (by rfl) (⟨rfl, OQ_t hm1 hH0 (Or.inl (e4 ▸ h1))⟩)
  · have h1 := cn_eq.mp h1
    refine z_rcs hc hH 5 (pc' := 124) (lv' := [(9, .int bb), (8, .int hh), (6, .long g), (4, .long fo), (0, .ref 14), (1, .long f), (3, .int fu)]) (st' := [.long fo, .int fu, .int hh, .int bb, .ref 14]) (μ' := μ1) (by rfl) ?_
    refine zq_call hc (z_cx_ok hH (by rfl)) (fb_X1_isBetter d' (by omega) μ1 bb hh fu fo) (by decide +kernel) (fun r9 μ9 hq => ?_)
    obtain ⟨hμ9, rfl⟩ := hq
    rw [hμ9]
    clear hμ9 μ9
    show Z 0 127 [(9, .int bb), (8, .int hh), (6, .long g), (4, .long fo), (0, .ref 14), (1, .long f), (3, .int fu)] [.int (nB (xBd μ1 bb hh fu fo))] μ1
    have bt := xBd_iff μ1 bb hh fu fo
    generalize xBd μ1 bb hh fu fo = e at bt ⊢
    show Z 0 127 [(9, .int bb), (8, .int hh), (6, .long g), (4, .long fo), (0, .ref 14), (1, .long f), (3, .int fu)] [.int (nB e)] μ1
    refine zq_if hc hH (by rfl) (tg := 153) (by rfl) (fun h2 => ?_) (fun h2 => ?_)
    · have h2 := cm_eq9.mp h2
      exact hr 0 153 _ _ _ none (by decide +kernel) (by rfl) (⟨rfl, OQ_f hm1 hH0 (fun z => h1 (e4.trans z)) (fun z => nB_n.mpr (bt.mpr z) h2)⟩)
    · have h2 := cn_eq.mp h2
      refine z_rcs hc hH 12 (pc' := 153) (lv' := [(9, .int bb), (8, .int hh), (6, .long g), (4, .long fo), (0, .ref 14), (1, .long f), (3, .int fu)]) (st' := []) (μ' := z_uj (z_ui (z_ui (z_ui μ1 14 0 bb) 14 1 hh) 14 2 fu) 14 3 fo) (by rfl) ?_
      exact hr 0 153 _ _ _ none (by decide +kernel) (by rfl) (⟨rfl, OQ_t hm1 hH0 (Or.inr (bt.mp (nB_n.mp h2)))⟩)
theorem of108B (d' : Nat) (Z : zK) (hd : 2 ≤ d') (μ μ1 : zM) (hH0 : a_H μ) (hm1 : μ1 = z_ui μ 14 4 (μ.1 14 4 + 1)) (hc : z_clo z_x0 mi_X1_offer (z_C d') Z) (bb hh fu : Int32) (f fo g : Int64) (hr : z_ret mi_X1_offer (fun r μ' => r = none ∧ OQ μ μ' (bb, hh, fu, fo)) Z) : Z 0 108 [(9, .int bb), (8, .int hh), (4, .long fo), (6, .long g), (0, .ref 14), (1, .long f), (3, .int fu)] [] μ1 := by
  have hH := zh_X1_offer
  have e4 : μ1.1 14 4 = μ.1 14 4 + 1 := by rw [hm1, z_ui_rd, if_pos ⟨rfl, rfl⟩]
  refine z_rcs hc hH 3 (pc' := 113) (lv' := [(9, .int bb), (8, .int hh), (4, .long fo), (6, .long g), (0, .ref 14), (1, .long f), (3, .int fu)]) (st' := [.int 1, .int (μ1.1 14 4)]) (μ' := μ1) (by rfl) ?_
  refine zq_ic hc hH (by rfl) (tg := 130) (by rfl) (fun h1 => ?_) (fun h1 => ?_)
  · have h1 := cm_eq9.mp h1
    refine z_rcs hc hH 12 (pc' := 153) (lv' := [(9, .int bb), (8, .int hh), (4, .long fo), (6, .long g), (0, .ref 14), (1, .long f), (3, .int fu)]) (st' := []) (μ' := z_uj (z_ui (z_ui (z_ui μ1 14 0 bb) 14 1 hh) 14 2 fu) 14 3 fo) (by rfl) ?_
    exact hr 0 153 _ _ _ none (by decide +kernel) (by rfl) (⟨rfl, OQ_t hm1 hH0 (Or.inl (e4 ▸ h1))⟩)
  · have h1 := cn_eq.mp h1
    refine z_rcs hc hH 5 (pc' := 124) (lv' := [(9, .int bb), (8, .int hh), (4, .long fo), (6, .long g), (0, .ref 14), (1, .long f), (3, .int fu)]) (st' := [.long fo, .int fu, .int hh, .int bb, .ref 14]) (μ' := μ1) (by rfl) ?_
    refine zq_call hc (z_cx_ok hH (by rfl)) (fb_X1_isBetter d' (by omega) μ1 bb hh fu fo) (by decide +kernel) (fun r9 μ9 hq => ?_)
    obtain ⟨hμ9, rfl⟩ := hq
    rw [hμ9]
    clear hμ9 μ9
    show Z 0 127 [(9, .int bb), (8, .int hh), (4, .long fo), (6, .long g), (0, .ref 14), (1, .long f), (3, .int fu)] [.int (nB (xBd μ1 bb hh fu fo))] μ1
    have bt := xBd_iff μ1 bb hh fu fo
    generalize xBd μ1 bb hh fu fo = e at bt ⊢
    show Z 0 127 [(9, .int bb), (8, .int hh), (4, .long fo), (6, .long g), (0, .ref 14), (1, .long f), (3, .int fu)] [.int (nB e)] μ1
    refine zq_if hc hH (by rfl) (tg := 153) (by rfl) (fun h2 => ?_) (fun h2 => ?_)
    · have h2 := cm_eq9.mp h2
      exact hr 0 153 _ _ _ none (by decide +kernel) (by rfl) (⟨rfl, OQ_f hm1 hH0 (fun z => h1 (e4.trans z)) (fun z => nB_n.mpr (bt.mpr z) h2)⟩)
    · have h2 := cn_eq.mp h2
      refine z_rcs hc hH 12 (pc' := 153) (lv' := [(9, .int bb), (8, .int hh), (4, .long fo), (6, .long g), (0, .ref 14), (1, .long f), (3, .int fu)]) (st' := []) (μ' := z_uj (z_ui (z_ui (z_ui μ1 14 0 bb) 14 1 hh) 14 2 fu) 14 3 fo) (by rfl) ?_
      exact hr 0 153 _ _ _ none (by decide +kernel) (by rfl) (⟨rfl, OQ_t hm1 hH0 (Or.inr (bt.mp (nB_n.mp h2)))⟩)
theorem fb_X1_offer (d : Nat) (hd : 3 ≤ d) (μ : zM) (f : Int64) (fu : Int32) (hH0 : a_H μ) : z_C d mi_X1_offer [.ref 14, .long f, .int fu] μ (fun r μ' => r = none ∧ OQ μ μ' (vO (μ.1 14 8) (μ.1 14 11) f fu)) := by
  refine z_C_in (by decide) (by omega) (fun d' Z ed hc hr => ?_)
  have hH := zh_X1_offer
  refine z_rcs hc hH 6 (pc' := 10) (lv' := [(0, .ref 14), (1, .long f), (3, .int fu)]) (st' := []) (μ' := z_ui μ 14 4 ((μ.1 14 4) + 1)) (by rfl) ?_
  generalize hm : z_ui μ 14 4 ((μ.1 14 4) + 1) = μ1
  have hm1 : μ1 = z_ui μ 14 4 ((μ.1 14 4) + 1) := hm.symm
  have e8 : μ1.1 14 8 = μ.1 14 8 := by rw [hm1, z_ui_rd, if_neg (by omega)]
  have e11 : μ1.1 14 11 = μ.1 14 11 := by rw [hm1, z_ui_rd, if_neg (by omega)]
  rw [← e8, ← e11] at hr
  refine z_rcs hc hH 2 (pc' := 14) (lv' := [(0, .ref 14), (1, .long f), (3, .int fu)]) (st' := [.int (μ1.1 14 8)]) (μ' := μ1) (by rfl) ?_
  refine zq_if hc hH (by rfl) (tg := 25) (by rfl) (fun h1 => ?_) (fun h1 => ?_)
  · have h1 := cm_eq9.mp h1
    refine z_rcs hc hH 1 (pc' := 26) (lv' := [(0, .ref 14), (1, .long f), (3, .int fu)]) (st' := [.long f]) (μ' := μ1) (by rfl) ?_
    have ef : fO (μ1.1 14 8) f = f := by unfold fO; rw [decide_eq_true h1]; rfl
    refine zJ (lv := [(0, .ref 14), (1, .long f), (3, .int fu)]) (st := [.long (fO (μ1.1 14 8) f)]) (μ := μ1) ?_ rfl (by rw [ef]) rfl
    refine z_rcs hc hH 12 (pc' := 46) (lv' := [(9, .int 0), (8, .int 0), (6, .long ((fO (μ1.1 14 8) f) &&& 17587891077120)), (4, .long (fO (μ1.1 14 8) f)), (0, .ref 14), (1, .long f), (3, .int fu)]) (st' := [.int (lg_cmp ((fO (μ1.1 14 8) f) &&& 17587891077120) 0)]) (μ' := μ1) (by rfl) ?_
    refine zq_if hc hH (by rfl) (tg := 77) (by rfl) (fun h2 => ?_) (fun h2 => ?_)
    · have h2 := cm_eq9.mp h2
      refine z_rcs hc hH 3 (pc' := 81) (lv' := [(9, .int 0), (8, .int 0), (6, .long ((fO (μ1.1 14 8) f) &&& 17587891077120)), (4, .long (fO (μ1.1 14 8) f)), (0, .ref 14), (1, .long f), (3, .int fu)]) (st' := [.int (lg_cmp (fO (μ1.1 14 8) f) 0)]) (μ' := μ1) (by rfl) ?_
      refine zq_if hc hH (by rfl) (tg := 108) (by rfl) (fun h3 => ?_) (fun h3 => ?_)
      · have h3 := cm_eq9.mp h3
        have ev : vO (μ1.1 14 8) (μ1.1 14 11) f fu = (0, 0, fu, fO (μ1.1 14 8) f) := by unfold vO; rw [show decide (lg_cmp (fO (μ1.1 14 8) f &&& 17587891077120) 0 = 0) = true from decide_eq_true h2, show decide (lg_cmp (fO (μ1.1 14 8) f) 0 = 0) = true from decide_eq_true h3]; rfl
        rw [ev] at hr
        exact of108A d' Z (by omega) μ μ1 hH0 hm1 hc _ _ fu f _ _ hr
      · have h3 := cn_eq.mp h3
        refine z_rcs hc hH 3 (pc' := 90) (lv' := [(9, .int 0), (8, .int 0), (6, .long ((fO (μ1.1 14 8) f) &&& 17587891077120)), (4, .long (fO (μ1.1 14 8) f)), (0, .ref 14), (1, .long f), (3, .int fu)]) (st' := [.int (μ1.1 14 8), .long (fO (μ1.1 14 8) f)]) (μ' := μ1) (by rfl) ?_
        refine zq_call hc (z_cx_ok hH (by rfl)) (fb_X0_hanOf d' (by omega) μ1 (fO (μ1.1 14 8) f) (μ1.1 14 8)) (by decide +kernel) (fun r9 μ9 hq => ?_)
        obtain ⟨hμ9, rfl⟩ := hq
        rw [hμ9]
        clear hμ9 μ9
        show Z 0 93 [(9, .int 0), (8, .int 0), (6, .long ((fO (μ1.1 14 8) f) &&& 17587891077120)), (4, .long (fO (μ1.1 14 8) f)), (0, .ref 14), (1, .long f), (3, .int fu)] [.int (hnc (fO (μ1.1 14 8) f) (μ1.1 14 8) 30)] μ1
        refine z_rcs hc hH 6 (pc' := 103) (lv' := [(8, .int ((hnc (fO (μ1.1 14 8) f) (μ1.1 14 8) 30) + (μ1.1 14 11))), (9, .int 0), (6, .long ((fO (μ1.1 14 8) f) &&& 17587891077120)), (4, .long (fO (μ1.1 14 8) f)), (0, .ref 14), (1, .long f), (3, .int fu)]) (st' := [.int ((hnc (fO (μ1.1 14 8) f) (μ1.1 14 8) 30) + (μ1.1 14 11)), .int fu]) (μ' := μ1) (by rfl) ?_
        refine zq_call hc (z_cx_ok hH (by rfl)) (fb_X0_baseOf d' (by omega) μ1 fu ((hnc (fO (μ1.1 14 8) f) (μ1.1 14 8) 30) + (μ1.1 14 11))) (by decide +kernel) (fun r9 μ9 hq => ?_)
        obtain ⟨hμ9, rfl⟩ := hq
        rw [hμ9]
        clear hμ9 μ9
        show Z 0 106 [(8, .int ((hnc (fO (μ1.1 14 8) f) (μ1.1 14 8) 30) + (μ1.1 14 11))), (9, .int 0), (6, .long ((fO (μ1.1 14 8) f) &&& 17587891077120)), (4, .long (fO (μ1.1 14 8) f)), (0, .ref 14), (1, .long f), (3, .int fu)] [.int (baC fu ((hnc (fO (μ1.1 14 8) f) (μ1.1 14 8) 30) + (μ1.1 14 11)))] μ1
        refine z_rcs hc hH 1 (pc' := 108) (lv' := [(9, .int (baC fu ((hnc (fO (μ1.1 14 8) f) (μ1.1 14 8) 30) + (μ1.1 14 11)))), (8, .int ((hnc (fO (μ1.1 14 8) f) (μ1.1 14 8) 30) + (μ1.1 14 11))), (6, .long ((fO (μ1.1 14 8) f) &&& 17587891077120)), (4, .long (fO (μ1.1 14 8) f)), (0, .ref 14), (1, .long f), (3, .int fu)]) (st' := []) (μ' := μ1) (by rfl) ?_
        have ev : vO (μ1.1 14 8) (μ1.1 14 11) f fu = (baC fu ((hnc (fO (μ1.1 14 8) f) (μ1.1 14 8) 30) + (μ1.1 14 11)), (hnc (fO (μ1.1 14 8) f) (μ1.1 14 8) 30) + (μ1.1 14 11), fu, fO (μ1.1 14 8) f) := by unfold vO; rw [show decide (lg_cmp (fO (μ1.1 14 8) f &&& 17587891077120) 0 = 0) = true from decide_eq_true h2, show decide (lg_cmp (fO (μ1.1 14 8) f) 0 = 0) = false from decide_eq_false h3]; rfl
        rw [ev] at hr
        exact of108A d' Z (by omega) μ μ1 hH0 hm1 hc _ _ fu f _ _ hr
    · have h2 := cn_eq.mp h2
      refine z_rcs hc hH 4 (pc' := 57) (lv' := [(4, .long ((fO (μ1.1 14 8) f) &&& 17587891077120)), (9, .int 0), (8, .int 0), (6, .long ((fO (μ1.1 14 8) f) &&& 17587891077120)), (0, .ref 14), (1, .long f), (3, .int fu)]) (st' := [.long ((fO (μ1.1 14 8) f) &&& 17587891077120), .int 13]) (μ' := μ1) (by rfl) ?_
      refine zq_call hc (z_cx_ok hH (by rfl)) (fb_bitCount d' (by omega) μ1 ((fO (μ1.1 14 8) f) &&& 17587891077120)) (by decide +kernel) (fun r9 μ9 hq => ?_)
      obtain ⟨hμ9, rfl⟩ := hq
      rw [hμ9]
      clear hμ9 μ9
      show Z 0 60 [(4, .long ((fO (μ1.1 14 8) f) &&& 17587891077120)), (9, .int 0), (8, .int 0), (6, .long ((fO (μ1.1 14 8) f) &&& 17587891077120)), (0, .ref 14), (1, .long f), (3, .int fu)] [.int (xBc ((fO (μ1.1 14 8) f) &&& 17587891077120)), .int 13] μ1
      refine z_rcs hc hH 4 (pc' := 68) (lv' := [(8, .int (13 * (xBc ((fO (μ1.1 14 8) f) &&& 17587891077120)))), (4, .long ((fO (μ1.1 14 8) f) &&& 17587891077120)), (9, .int 0), (6, .long ((fO (μ1.1 14 8) f) &&& 17587891077120)), (0, .ref 14), (1, .long f), (3, .int fu)]) (st' := [.long ((fO (μ1.1 14 8) f) &&& 17587891077120), .int 8000]) (μ' := μ1) (by rfl) ?_
      refine zq_call hc (z_cx_ok hH (by rfl)) (fb_bitCount d' (by omega) μ1 ((fO (μ1.1 14 8) f) &&& 17587891077120)) (by decide +kernel) (fun r9 μ9 hq => ?_)
      obtain ⟨hμ9, rfl⟩ := hq
      rw [hμ9]
      clear hμ9 μ9
      show Z 0 71 [(8, .int (13 * (xBc ((fO (μ1.1 14 8) f) &&& 17587891077120)))), (4, .long ((fO (μ1.1 14 8) f) &&& 17587891077120)), (9, .int 0), (6, .long ((fO (μ1.1 14 8) f) &&& 17587891077120)), (0, .ref 14), (1, .long f), (3, .int fu)] [.int (xBc ((fO (μ1.1 14 8) f) &&& 17587891077120)), .int 8000] μ1
      refine z_rcs hc hH 3 (pc' := 108) (lv' := [(9, .int (8000 * (xBc ((fO (μ1.1 14 8) f) &&& 17587891077120)))), (8, .int (13 * (xBc ((fO (μ1.1 14 8) f) &&& 17587891077120)))), (4, .long ((fO (μ1.1 14 8) f) &&& 17587891077120)), (6, .long ((fO (μ1.1 14 8) f) &&& 17587891077120)), (0, .ref 14), (1, .long f), (3, .int fu)]) (st' := []) (μ' := μ1) (by rfl) ?_
      have ev : vO (μ1.1 14 8) (μ1.1 14 11) f fu = (8000 * (xBc ((fO (μ1.1 14 8) f) &&& 17587891077120)), 13 * (xBc ((fO (μ1.1 14 8) f) &&& 17587891077120)), fu, (fO (μ1.1 14 8) f) &&& 17587891077120) := by unfold vO; rw [show decide (lg_cmp (fO (μ1.1 14 8) f &&& 17587891077120) 0 = 0) = false from decide_eq_false h2]; rfl
      rw [ev] at hr
      exact of108B d' Z (by omega) μ μ1 hH0 hm1 hc _ _ fu f _ _ hr
  · have h1 := cn_eq.mp h1
    refine z_rcs hc hH 4 (pc' := 26) (lv' := [(0, .ref 14), (1, .long f), (3, .int fu)]) (st' := [.long (f &&& (-268437008))]) (μ' := μ1) (by rfl) ?_
    have ef : fO (μ1.1 14 8) f = f &&& (-268437008) := by unfold fO; rw [decide_eq_false h1]; rfl
    refine zJ (lv := [(0, .ref 14), (1, .long f), (3, .int fu)]) (st := [.long (fO (μ1.1 14 8) f)]) (μ := μ1) ?_ rfl (by rw [ef]) rfl
    refine z_rcs hc hH 12 (pc' := 46) (lv' := [(9, .int 0), (8, .int 0), (6, .long ((fO (μ1.1 14 8) f) &&& 17587891077120)), (4, .long (fO (μ1.1 14 8) f)), (0, .ref 14), (1, .long f), (3, .int fu)]) (st' := [.int (lg_cmp ((fO (μ1.1 14 8) f) &&& 17587891077120) 0)]) (μ' := μ1) (by rfl) ?_
    refine zq_if hc hH (by rfl) (tg := 77) (by rfl) (fun h4 => ?_) (fun h4 => ?_)
    · have h4 := cm_eq9.mp h4
      refine z_rcs hc hH 3 (pc' := 81) (lv' := [(9, .int 0), (8, .int 0), (6, .long ((fO (μ1.1 14 8) f) &&& 17587891077120)), (4, .long (fO (μ1.1 14 8) f)), (0, .ref 14), (1, .long f), (3, .int fu)]) (st' := [.int (lg_cmp (fO (μ1.1 14 8) f) 0)]) (μ' := μ1) (by rfl) ?_
      refine zq_if hc hH (by rfl) (tg := 108) (by rfl) (fun h5 => ?_) (fun h5 => ?_)
      · have h5 := cm_eq9.mp h5
        have ev : vO (μ1.1 14 8) (μ1.1 14 11) f fu = (0, 0, fu, fO (μ1.1 14 8) f) := by unfold vO; rw [show decide (lg_cmp (fO (μ1.1 14 8) f &&& 17587891077120) 0 = 0) = true from decide_eq_true h4, show decide (lg_cmp (fO (μ1.1 14 8) f) 0 = 0) = true from decide_eq_true h5]; rfl
        rw [ev] at hr
        exact of108A d' Z (by omega) μ μ1 hH0 hm1 hc _ _ fu f _ _ hr
      · have h5 := cn_eq.mp h5
        refine z_rcs hc hH 3 (pc' := 90) (lv' := [(9, .int 0), (8, .int 0), (6, .long ((fO (μ1.1 14 8) f) &&& 17587891077120)), (4, .long (fO (μ1.1 14 8) f)), (0, .ref 14), (1, .long f), (3, .int fu)]) (st' := [.int (μ1.1 14 8), .long (fO (μ1.1 14 8) f)]) (μ' := μ1) (by rfl) ?_
        refine zq_call hc (z_cx_ok hH (by rfl)) (fb_X0_hanOf d' (by omega) μ1 (fO (μ1.1 14 8) f) (μ1.1 14 8)) (by decide +kernel) (fun r9 μ9 hq => ?_)
        obtain ⟨hμ9, rfl⟩ := hq
        rw [hμ9]
        clear hμ9 μ9
        show Z 0 93 [(9, .int 0), (8, .int 0), (6, .long ((fO (μ1.1 14 8) f) &&& 17587891077120)), (4, .long (fO (μ1.1 14 8) f)), (0, .ref 14), (1, .long f), (3, .int fu)] [.int (hnc (fO (μ1.1 14 8) f) (μ1.1 14 8) 30)] μ1
        refine z_rcs hc hH 6 (pc' := 103) (lv' := [(8, .int ((hnc (fO (μ1.1 14 8) f) (μ1.1 14 8) 30) + (μ1.1 14 11))), (9, .int 0), (6, .long ((fO (μ1.1 14 8) f) &&& 17587891077120)), (4, .long (fO (μ1.1 14 8) f)), (0, .ref 14), (1, .long f), (3, .int fu)]) (st' := [.int ((hnc (fO (μ1.1 14 8) f) (μ1.1 14 8) 30) + (μ1.1 14 11)), .int fu]) (μ' := μ1) (by rfl) ?_
        refine zq_call hc (z_cx_ok hH (by rfl)) (fb_X0_baseOf d' (by omega) μ1 fu ((hnc (fO (μ1.1 14 8) f) (μ1.1 14 8) 30) + (μ1.1 14 11))) (by decide +kernel) (fun r9 μ9 hq => ?_)
        obtain ⟨hμ9, rfl⟩ := hq
        rw [hμ9]
        clear hμ9 μ9
        show Z 0 106 [(8, .int ((hnc (fO (μ1.1 14 8) f) (μ1.1 14 8) 30) + (μ1.1 14 11))), (9, .int 0), (6, .long ((fO (μ1.1 14 8) f) &&& 17587891077120)), (4, .long (fO (μ1.1 14 8) f)), (0, .ref 14), (1, .long f), (3, .int fu)] [.int (baC fu ((hnc (fO (μ1.1 14 8) f) (μ1.1 14 8) 30) + (μ1.1 14 11)))] μ1
        refine z_rcs hc hH 1 (pc' := 108) (lv' := [(9, .int (baC fu ((hnc (fO (μ1.1 14 8) f) (μ1.1 14 8) 30) + (μ1.1 14 11)))), (8, .int ((hnc (fO (μ1.1 14 8) f) (μ1.1 14 8) 30) + (μ1.1 14 11))), (6, .long ((fO (μ1.1 14 8) f) &&& 17587891077120)), (4, .long (fO (μ1.1 14 8) f)), (0, .ref 14), (1, .long f), (3, .int fu)]) (st' := []) (μ' := μ1) (by rfl) ?_
        have ev : vO (μ1.1 14 8) (μ1.1 14 11) f fu = (baC fu ((hnc (fO (μ1.1 14 8) f) (μ1.1 14 8) 30) + (μ1.1 14 11)), (hnc (fO (μ1.1 14 8) f) (μ1.1 14 8) 30) + (μ1.1 14 11), fu, fO (μ1.1 14 8) f) := by unfold vO; rw [show decide (lg_cmp (fO (μ1.1 14 8) f &&& 17587891077120) 0 = 0) = true from decide_eq_true h4, show decide (lg_cmp (fO (μ1.1 14 8) f) 0 = 0) = false from decide_eq_false h5]; rfl
        rw [ev] at hr
        exact of108A d' Z (by omega) μ μ1 hH0 hm1 hc _ _ fu f _ _ hr
    · have h4 := cn_eq.mp h4
      refine z_rcs hc hH 4 (pc' := 57) (lv' := [(4, .long ((fO (μ1.1 14 8) f) &&& 17587891077120)), (9, .int 0), (8, .int 0), (6, .long ((fO (μ1.1 14 8) f) &&& 17587891077120)), (0, .ref 14), (1, .long f), (3, .int fu)]) (st' := [.long ((fO (μ1.1 14 8) f) &&& 17587891077120), .int 13]) (μ' := μ1) (by rfl) ?_
      refine zq_call hc (z_cx_ok hH (by rfl)) (fb_bitCount d' (by omega) μ1 ((fO (μ1.1 14 8) f) &&& 17587891077120)) (by decide +kernel) (fun r9 μ9 hq => ?_)
      obtain ⟨hμ9, rfl⟩ := hq
      rw [hμ9]
      clear hμ9 μ9
      show Z 0 60 [(4, .long ((fO (μ1.1 14 8) f) &&& 17587891077120)), (9, .int 0), (8, .int 0), (6, .long ((fO (μ1.1 14 8) f) &&& 17587891077120)), (0, .ref 14), (1, .long f), (3, .int fu)] [.int (xBc ((fO (μ1.1 14 8) f) &&& 17587891077120)), .int 13] μ1
      refine z_rcs hc hH 4 (pc' := 68) (lv' := [(8, .int (13 * (xBc ((fO (μ1.1 14 8) f) &&& 17587891077120)))), (4, .long ((fO (μ1.1 14 8) f) &&& 17587891077120)), (9, .int 0), (6, .long ((fO (μ1.1 14 8) f) &&& 17587891077120)), (0, .ref 14), (1, .long f), (3, .int fu)]) (st' := [.long ((fO (μ1.1 14 8) f) &&& 17587891077120), .int 8000]) (μ' := μ1) (by rfl) ?_
      refine zq_call hc (z_cx_ok hH (by rfl)) (fb_bitCount d' (by omega) μ1 ((fO (μ1.1 14 8) f) &&& 17587891077120)) (by decide +kernel) (fun r9 μ9 hq => ?_)
      obtain ⟨hμ9, rfl⟩ := hq
      rw [hμ9]
      clear hμ9 μ9
      show Z 0 71 [(8, .int (13 * (xBc ((fO (μ1.1 14 8) f) &&& 17587891077120)))), (4, .long ((fO (μ1.1 14 8) f) &&& 17587891077120)), (9, .int 0), (6, .long ((fO (μ1.1 14 8) f) &&& 17587891077120)), (0, .ref 14), (1, .long f), (3, .int fu)] [.int (xBc ((fO (μ1.1 14 8) f) &&& 17587891077120)), .int 8000] μ1
      refine z_rcs hc hH 3 (pc' := 108) (lv' := [(9, .int (8000 * (xBc ((fO (μ1.1 14 8) f) &&& 17587891077120)))), (8, .int (13 * (xBc ((fO (μ1.1 14 8) f) &&& 17587891077120)))), (4, .long ((fO (μ1.1 14 8) f) &&& 17587891077120)), (6, .long ((fO (μ1.1 14 8) f) &&& 17587891077120)), (0, .ref 14), (1, .long f), (3, .int fu)]) (st' := []) (μ' := μ1) (by rfl) ?_
      have ev : vO (μ1.1 14 8) (μ1.1 14 11) f fu = (8000 * (xBc ((fO (μ1.1 14 8) f) &&& 17587891077120)), 13 * (xBc ((fO (μ1.1 14 8) f) &&& 17587891077120)), fu, (fO (μ1.1 14 8) f) &&& 17587891077120) := by unfold vO; rw [show decide (lg_cmp (fO (μ1.1 14 8) f &&& 17587891077120) 0 = 0) = false from decide_eq_false h4]; rfl
      rw [ev] at hr
      exact of108B d' Z (by omega) μ μ1 hH0 hm1 hc _ _ fu f _ _ hr
theorem zh_X1_weighCompleted : zH mi_X1_weighCompleted zt_X1_weighCompleted 79 1 8 := hh_X1_weighCompleted
noncomputable def wFl (μ : zM) (cc wf : Int32) : Bool := (decide ((lg_cmp (μ.2.1 14 17) 0) = 0)) && ((decide ((μ.1 14 8) = 0)) && ((decide ((xPf μ) = 0)) && (!(decide (4 ≤ cc)) && (decide (wf = 0)))))
noncomputable def wHi (μ : zM) (hb0 hb1 hb2 hb3 : Bool) : Int32 := (((0 + (nB (!(decide ((μ.1 15 0) = 0)) && hb0))) + (nB (!(decide ((μ.1 15 1) = 0)) && hb1))) + (nB (!(decide ((μ.1 15 2) = 0)) && hb2))) + (nB (!(decide ((μ.1 15 3) = 0)) && hb3))
noncomputable def wMo (fl : Bool) (hi : Int32) : Int64 := ((lb fl 9) ||| (lb (decide (hi = 3)) 20)) ||| (lb (decide (hi = 4)) 33)
noncomputable def vW (μ : zM) (f : Int64) (cc wf : Int32) (hb0 hb1 hb2 hb3 : Bool) : Q4 := vO (μ.1 14 8) (μ.1 14 11) (f ||| wMo (wFl μ cc wf) (wHi μ hb0 hb1 hb2 hb3)) (fuC μ (wFl μ cc wf) wf hb0 hb1 hb2 hb3)
theorem fb_X1_weighCompleted (d : Nat) (hd : 4 ≤ d) (μ : zM) (hH0 : a_H μ) (f : Int64) (cc wf : Int32) (hwf : ∀ d, 1 ≤ d → z_C d mi_X1_waitFu [.ref 14, .int cc] μ (zR μ (.int wf))) (hb0 : Bool) (hhd0 : ∀ d, 1 ≤ d → z_C d mi_X1_isHidden [.ref 14, .int 0, .int cc] μ (zR μ (.int (nB hb0)))) (hb1 : Bool) (hhd1 : ∀ d, 1 ≤ d → z_C d mi_X1_isHidden [.ref 14, .int 1, .int cc] μ (zR μ (.int (nB hb1)))) (hb2 : Bool) (hhd2 : ∀ d, 1 ≤ d → z_C d mi_X1_isHidden [.ref 14, .int 2, .int cc] μ (zR μ (.int (nB hb2)))) (hb3 : Bool) (hhd3 : ∀ d, 1 ≤ d → z_C d mi_X1_isHidden [.ref 14, .int 3, .int cc] μ (zR μ (.int (nB hb3)))) : z_C d mi_X1_weighCompleted [.ref 14, .long f, .int cc] μ (fun r μ' => r = none ∧ OQ μ μ' (vW μ f cc wf hb0 hb1 hb2 hb3)) := by
  refine z_C_in (by decide) (by omega) (fun d' Z ed hc hr => ?_)
  have hH := zh_X1_weighCompleted
  refine z_rcs hc hH 11 (pc' := 20) (lv' := [(5, .int 0), (4, .int 0), (0, .ref 14), (1, .long f), (3, .int cc)]) (st' := [.int 0, .ref 15, .int 0]) (μ' := μ) (by rfl) ?_
  refine zq_iald hc hH (by rfl) 4 (by decide +kernel) (show vp_in (nI 0) 4 from vp_in_nI (by decide) (by decide)) ?_
  show Z 0 21 [(5, .int 0), (4, .int 0), (0, .ref 14), (1, .long f), (3, .int cc)] [.int (μ.1 15 0), .int 0] μ
  have hJ1 : Z 0 39 [(5, .int 0), (4, .int 0), (0, .ref 14), (1, .long f), (3, .int cc)] [.int (nB (!(decide ((μ.1 15 0) = 0)) && hb0)), .int 0] μ := by
    refine z_rcs hc hH 11 (pc' := 20) (lv' := [(5, .int 1), (4, .int (0 + (nB (!(decide ((μ.1 15 0) = 0)) && hb0)))), (0, .ref 14), (1, .long f), (3, .int cc)]) (st' := [.int 1, .ref 15, .int (0 + (nB (!(decide ((μ.1 15 0) = 0)) && hb0)))]) (μ' := μ) (by rfl) ?_
    refine zq_iald hc hH (by rfl) 4 (by decide +kernel) (show vp_in (nI 1) 4 from vp_in_nI (by decide) (by decide)) ?_
    show Z 0 21 [(5, .int 1), (4, .int (0 + (nB (!(decide ((μ.1 15 0) = 0)) && hb0)))), (0, .ref 14), (1, .long f), (3, .int cc)] [.int (μ.1 15 1), .int (0 + (nB (!(decide ((μ.1 15 0) = 0)) && hb0)))] μ
    have hJ2 : Z 0 39 [(5, .int 1), (4, .int (0 + (nB (!(decide ((μ.1 15 0) = 0)) && hb0)))), (0, .ref 14), (1, .long f), (3, .int cc)] [.int (nB (!(decide ((μ.1 15 1) = 0)) && hb1)), .int (0 + (nB (!(decide ((μ.1 15 0) = 0)) && hb0)))] μ := by
      refine z_rcs hc hH 11 (pc' := 20) (lv' := [(5, .int 2), (4, .int ((0 + (nB (!(decide ((μ.1 15 0) = 0)) && hb0))) + (nB (!(decide ((μ.1 15 1) = 0)) && hb1)))), (0, .ref 14), (1, .long f), (3, .int cc)]) (st' := [.int 2, .ref 15, .int ((0 + (nB (!(decide ((μ.1 15 0) = 0)) && hb0))) + (nB (!(decide ((μ.1 15 1) = 0)) && hb1)))]) (μ' := μ) (by rfl) ?_
      refine zq_iald hc hH (by rfl) 4 (by decide +kernel) (show vp_in (nI 2) 4 from vp_in_nI (by decide) (by decide)) ?_
      show Z 0 21 [(5, .int 2), (4, .int ((0 + (nB (!(decide ((μ.1 15 0) = 0)) && hb0))) + (nB (!(decide ((μ.1 15 1) = 0)) && hb1)))), (0, .ref 14), (1, .long f), (3, .int cc)] [.int (μ.1 15 2), .int ((0 + (nB (!(decide ((μ.1 15 0) = 0)) && hb0))) + (nB (!(decide ((μ.1 15 1) = 0)) && hb1)))] μ
      have hJ3 : Z 0 39 [(5, .int 2), (4, .int ((0 + (nB (!(decide ((μ.1 15 0) = 0)) && hb0))) + (nB (!(decide ((μ.1 15 1) = 0)) && hb1)))), (0, .ref 14), (1, .long f), (3, .int cc)] [.int (nB (!(decide ((μ.1 15 2) = 0)) && hb2)), .int ((0 + (nB (!(decide ((μ.1 15 0) = 0)) && hb0))) + (nB (!(decide ((μ.1 15 1) = 0)) && hb1)))] μ := by
        refine z_rcs hc hH 11 (pc' := 20) (lv' := [(5, .int 3), (4, .int (((0 + (nB (!(decide ((μ.1 15 0) = 0)) && hb0))) + (nB (!(decide ((μ.1 15 1) = 0)) && hb1))) + (nB (!(decide ((μ.1 15 2) = 0)) && hb2)))), (0, .ref 14), (1, .long f), (3, .int cc)]) (st' := [.int 3, .ref 15, .int (((0 + (nB (!(decide ((μ.1 15 0) = 0)) && hb0))) + (nB (!(decide ((μ.1 15 1) = 0)) && hb1))) + (nB (!(decide ((μ.1 15 2) = 0)) && hb2)))]) (μ' := μ) (by rfl) ?_
        refine zq_iald hc hH (by rfl) 4 (by decide +kernel) (show vp_in (nI 3) 4 from vp_in_nI (by decide) (by decide)) ?_
        show Z 0 21 [(5, .int 3), (4, .int (((0 + (nB (!(decide ((μ.1 15 0) = 0)) && hb0))) + (nB (!(decide ((μ.1 15 1) = 0)) && hb1))) + (nB (!(decide ((μ.1 15 2) = 0)) && hb2)))), (0, .ref 14), (1, .long f), (3, .int cc)] [.int (μ.1 15 3), .int (((0 + (nB (!(decide ((μ.1 15 0) = 0)) && hb0))) + (nB (!(decide ((μ.1 15 1) = 0)) && hb1))) + (nB (!(decide ((μ.1 15 2) = 0)) && hb2)))] μ
        have hJ4 : Z 0 39 [(5, .int 3), (4, .int (((0 + (nB (!(decide ((μ.1 15 0) = 0)) && hb0))) + (nB (!(decide ((μ.1 15 1) = 0)) && hb1))) + (nB (!(decide ((μ.1 15 2) = 0)) && hb2)))), (0, .ref 14), (1, .long f), (3, .int cc)] [.int (nB (!(decide ((μ.1 15 3) = 0)) && hb3)), .int (((0 + (nB (!(decide ((μ.1 15 0) = 0)) && hb0))) + (nB (!(decide ((μ.1 15 1) = 0)) && hb1))) + (nB (!(decide ((μ.1 15 2) = 0)) && hb2)))] μ := by
          generalize hyy5 : (((0 + (nB (!(decide ((μ.1 15 0) = 0)) && hb0))) + (nB (!(decide ((μ.1 15 1) = 0)) && hb1))) + (nB (!(decide ((μ.1 15 2) = 0)) && hb2)) : Int32) = yy5
          refine z_rcs hc hH 11 (pc' := 54) (lv' := [(5, .int 4), (4, .int (yy5 + (nB (!(decide ((μ.1 15 3) = 0)) && hb3)))), (0, .ref 14), (1, .long f), (3, .int cc)]) (st' := [.int (lg_cmp (μ.2.1 14 17) 0)]) (μ' := μ) (by rfl) ?_
          have hJ6 : Z 0 89 [(5, .int 4), (4, .int (yy5 + (nB (!(decide ((μ.1 15 3) = 0)) && hb3)))), (0, .ref 14), (1, .long f), (3, .int cc)] [.int (nB ((decide ((lg_cmp (μ.2.1 14 17) 0) = 0)) && ((decide ((μ.1 14 8) = 0)) && ((decide ((xPf μ) = 0)) && (!(decide (4 ≤ cc)) && (decide (wf = 0)))))))] μ := by
            generalize hee7 : ((decide ((lg_cmp (μ.2.1 14 17) 0) = 0)) && ((decide ((μ.1 14 8) = 0)) && ((decide ((xPf μ) = 0)) && (!(decide (4 ≤ cc)) && (decide (wf = 0)))))) = ee7
            refine z_rcs hc hH 3 (pc' := 95) (lv' := [(5, .int (nB ee7)), (4, .int (yy5 + (nB (!(decide ((μ.1 15 3) = 0)) && hb3)))), (0, .ref 14), (1, .long f), (3, .int cc)]) (st' := [.int 9, .int (nB ee7)]) (μ' := μ) (by rfl) ?_
            refine zq_call hc (z_cx_ok hH (by rfl)) (fb_X1_bit d' (by omega) μ ee7 9) (by decide +kernel) (fun r9 μ9 hq => ?_)
            obtain ⟨hμ9, rfl⟩ := hq
            rw [hμ9]
            clear hμ9 μ9
            show Z 0 98 [(5, .int (nB ee7)), (4, .int (yy5 + (nB (!(decide ((μ.1 15 3) = 0)) && hb3)))), (0, .ref 14), (1, .long f), (3, .int cc)] [.long (lb ee7 9)] μ
            refine z_rcs hc hH 2 (pc' := 101) (lv' := [(5, .int (nB ee7)), (4, .int (yy5 + (nB (!(decide ((μ.1 15 3) = 0)) && hb3)))), (0, .ref 14), (1, .long f), (3, .int cc)]) (st' := [.int 3, .int (yy5 + (nB (!(decide ((μ.1 15 3) = 0)) && hb3))), .long (lb ee7 9)]) (μ' := μ) (by rfl) ?_
            have hJ8 : Z 0 109 [(5, .int (nB ee7)), (4, .int (yy5 + (nB (!(decide ((μ.1 15 3) = 0)) && hb3)))), (0, .ref 14), (1, .long f), (3, .int cc)] [.int (nB (decide ((yy5 + (nB (!(decide ((μ.1 15 3) = 0)) && hb3))) = 3))), .long (lb ee7 9)] μ := by
              refine z_rcs hc hH 1 (pc' := 111) (lv' := [(5, .int (nB ee7)), (4, .int (yy5 + (nB (!(decide ((μ.1 15 3) = 0)) && hb3)))), (0, .ref 14), (1, .long f), (3, .int cc)]) (st' := [.int 20, .int (nB (decide ((yy5 + (nB (!(decide ((μ.1 15 3) = 0)) && hb3))) = 3))), .long (lb ee7 9)]) (μ' := μ) (by rfl) ?_
              refine zq_call hc (z_cx_ok hH (by rfl)) (fb_X1_bit d' (by omega) μ (decide ((yy5 + (nB (!(decide ((μ.1 15 3) = 0)) && hb3))) = 3)) 20) (by decide +kernel) (fun r9 μ9 hq => ?_)
              obtain ⟨hμ9, rfl⟩ := hq
              rw [hμ9]
              clear hμ9 μ9
              show Z 0 114 [(5, .int (nB ee7)), (4, .int (yy5 + (nB (!(decide ((μ.1 15 3) = 0)) && hb3)))), (0, .ref 14), (1, .long f), (3, .int cc)] [.long (lb (decide ((yy5 + (nB (!(decide ((μ.1 15 3) = 0)) && hb3))) = 3)) 20), .long (lb ee7 9)] μ
              refine z_rcs hc hH 3 (pc' := 118) (lv' := [(5, .int (nB ee7)), (4, .int (yy5 + (nB (!(decide ((μ.1 15 3) = 0)) && hb3)))), (0, .ref 14), (1, .long f), (3, .int cc)]) (st' := [.int 4, .int (yy5 + (nB (!(decide ((μ.1 15 3) = 0)) && hb3))), .long ((lb ee7 9) ||| (lb (decide ((yy5 + (nB (!(decide ((μ.1 15 3) = 0)) && hb3))) = 3)) 20))]) (μ' := μ) (by rfl) ?_
              have hJ9 : Z 0 126 [(5, .int (nB ee7)), (4, .int (yy5 + (nB (!(decide ((μ.1 15 3) = 0)) && hb3)))), (0, .ref 14), (1, .long f), (3, .int cc)] [.int (nB (decide ((yy5 + (nB (!(decide ((μ.1 15 3) = 0)) && hb3))) = 4))), .long ((lb ee7 9) ||| (lb (decide ((yy5 + (nB (!(decide ((μ.1 15 3) = 0)) && hb3))) = 3)) 20))] μ := by
                refine z_rcs hc hH 1 (pc' := 128) (lv' := [(5, .int (nB ee7)), (4, .int (yy5 + (nB (!(decide ((μ.1 15 3) = 0)) && hb3)))), (0, .ref 14), (1, .long f), (3, .int cc)]) (st' := [.int 33, .int (nB (decide ((yy5 + (nB (!(decide ((μ.1 15 3) = 0)) && hb3))) = 4))), .long ((lb ee7 9) ||| (lb (decide ((yy5 + (nB (!(decide ((μ.1 15 3) = 0)) && hb3))) = 3)) 20))]) (μ' := μ) (by rfl) ?_
                refine zq_call hc (z_cx_ok hH (by rfl)) (fb_X1_bit d' (by omega) μ (decide ((yy5 + (nB (!(decide ((μ.1 15 3) = 0)) && hb3))) = 4)) 33) (by decide +kernel) (fun r9 μ9 hq => ?_)
                obtain ⟨hμ9, rfl⟩ := hq
                rw [hμ9]
                clear hμ9 μ9
                show Z 0 131 [(5, .int (nB ee7)), (4, .int (yy5 + (nB (!(decide ((μ.1 15 3) = 0)) && hb3)))), (0, .ref 14), (1, .long f), (3, .int cc)] [.long (lb (decide ((yy5 + (nB (!(decide ((μ.1 15 3) = 0)) && hb3))) = 4)) 33), .long ((lb ee7 9) ||| (lb (decide ((yy5 + (nB (!(decide ((μ.1 15 3) = 0)) && hb3))) = 3)) 20))] μ
                refine z_rcs hc hH 9 (pc' := 143) (lv' := [(6, .long (((lb ee7 9) ||| (lb (decide ((yy5 + (nB (!(decide ((μ.1 15 3) = 0)) && hb3))) = 3)) 20)) ||| (lb (decide ((yy5 + (nB (!(decide ((μ.1 15 3) = 0)) && hb3))) = 4)) 33))), (5, .int (nB ee7)), (4, .int (yy5 + (nB (!(decide ((μ.1 15 3) = 0)) && hb3)))), (0, .ref 14), (1, .long f), (3, .int cc)]) (st' := [.int (nB ee7), .int cc, .ref 14, .long (f ||| (((lb ee7 9) ||| (lb (decide ((yy5 + (nB (!(decide ((μ.1 15 3) = 0)) && hb3))) = 3)) 20)) ||| (lb (decide ((yy5 + (nB (!(decide ((μ.1 15 3) = 0)) && hb3))) = 4)) 33))), .ref 14]) (μ' := μ) (by rfl) ?_
                refine zq_call hc (z_cx_ok hH (by rfl)) (fb_X1_fuOf d' (by omega) μ ee7 cc wf hwf hb0 hhd0 hb1 hhd1 hb2 hhd2 hb3 hhd3) (by decide +kernel) (fun r9 μ9 hq => ?_)
                obtain ⟨hμ9, rfl⟩ := hq
                rw [hμ9]
                clear hμ9 μ9
                show Z 0 146 [(6, .long (((lb ee7 9) ||| (lb (decide ((yy5 + (nB (!(decide ((μ.1 15 3) = 0)) && hb3))) = 3)) 20)) ||| (lb (decide ((yy5 + (nB (!(decide ((μ.1 15 3) = 0)) && hb3))) = 4)) 33))), (5, .int (nB ee7)), (4, .int (yy5 + (nB (!(decide ((μ.1 15 3) = 0)) && hb3)))), (0, .ref 14), (1, .long f), (3, .int cc)] [.int (fuC μ ee7 wf hb0 hb1 hb2 hb3), .long (f ||| (((lb ee7 9) ||| (lb (decide ((yy5 + (nB (!(decide ((μ.1 15 3) = 0)) && hb3))) = 3)) 20)) ||| (lb (decide ((yy5 + (nB (!(decide ((μ.1 15 3) = 0)) && hb3))) = 4)) 33))), .ref 14] μ
                subst hee7
                subst hyy5
                refine zq_call hc (z_cx_ok hH (by rfl)) (fb_X1_offer d' (by omega) μ (f ||| wMo (wFl μ cc wf) (wHi μ hb0 hb1 hb2 hb3)) (fuC μ (wFl μ cc wf) wf hb0 hb1 hb2 hb3) hH0) (by decide +kernel) (fun r9 μ9 hq => ?_)
                obtain ⟨rfl, hq⟩ := hq
                exact hr 0 149 _ _ _ none (by decide +kernel) (by rfl) ⟨rfl, hq⟩
              refine zq_ic hc hH (by rfl) (tg := 125) (by rfl) (fun h10 => ?_) (fun h10 => ?_)
              · have h10 : (decide ((yy5 + (nB (!(decide ((μ.1 15 3) = 0)) && hb3))) = 4)) = false := decide_eq_false (cm_ne.mp h10)
                refine z_rcs hc hH 1 (pc' := 126) (lv' := [(5, .int (nB ee7)), (4, .int (yy5 + (nB (!(decide ((μ.1 15 3) = 0)) && hb3)))), (0, .ref 14), (1, .long f), (3, .int cc)]) (st' := [.int 0, .long ((lb ee7 9) ||| (lb (decide ((yy5 + (nB (!(decide ((μ.1 15 3) = 0)) && hb3))) = 3)) 20))]) (μ' := μ) (by rfl) ?_
                exact zJ hJ9 rfl (by first | with_reducible rfl | (simp only [h10, lb_f, Int64.or_zero, Int32.add_zero, nB_t, nB_f, Bool.not_true, Bool.not_false, Bool.and_true, Bool.true_and, Bool.false_and, Bool.and_false, Bool.or_true, Bool.true_or, Bool.false_or, Bool.or_false, cond_true, cond_false]; done) | rfl) rfl
              · have h10 : (decide ((yy5 + (nB (!(decide ((μ.1 15 3) = 0)) && hb3))) = 4)) = true := decide_eq_true (cn_ne.mp h10)
                refine z_rcs hc hH 2 (pc' := 126) (lv' := [(5, .int (nB ee7)), (4, .int (yy5 + (nB (!(decide ((μ.1 15 3) = 0)) && hb3)))), (0, .ref 14), (1, .long f), (3, .int cc)]) (st' := [.int 1, .long ((lb ee7 9) ||| (lb (decide ((yy5 + (nB (!(decide ((μ.1 15 3) = 0)) && hb3))) = 3)) 20))]) (μ' := μ) (by rfl) ?_
                exact zJ hJ9 rfl (by first | with_reducible rfl | (simp only [h10, lb_f, Int64.or_zero, Int32.add_zero, nB_t, nB_f, Bool.not_true, Bool.not_false, Bool.and_true, Bool.true_and, Bool.false_and, Bool.and_false, Bool.or_true, Bool.true_or, Bool.false_or, Bool.or_false, cond_true, cond_false]; done) | rfl) rfl
            refine zq_ic hc hH (by rfl) (tg := 108) (by rfl) (fun h11 => ?_) (fun h11 => ?_)
            · have h11 : (decide ((yy5 + (nB (!(decide ((μ.1 15 3) = 0)) && hb3))) = 3)) = false := decide_eq_false (cm_ne.mp h11)
              refine z_rcs hc hH 1 (pc' := 109) (lv' := [(5, .int (nB ee7)), (4, .int (yy5 + (nB (!(decide ((μ.1 15 3) = 0)) && hb3)))), (0, .ref 14), (1, .long f), (3, .int cc)]) (st' := [.int 0, .long (lb ee7 9)]) (μ' := μ) (by rfl) ?_
              exact zJ hJ8 rfl (by first | with_reducible rfl | (simp only [h11, lb_f, Int64.or_zero, Int32.add_zero, nB_t, nB_f, Bool.not_true, Bool.not_false, Bool.and_true, Bool.true_and, Bool.false_and, Bool.and_false, Bool.or_true, Bool.true_or, Bool.false_or, Bool.or_false, cond_true, cond_false]; done) | rfl) rfl
            · have h11 : (decide ((yy5 + (nB (!(decide ((μ.1 15 3) = 0)) && hb3))) = 3)) = true := decide_eq_true (cn_ne.mp h11)
              refine z_rcs hc hH 2 (pc' := 109) (lv' := [(5, .int (nB ee7)), (4, .int (yy5 + (nB (!(decide ((μ.1 15 3) = 0)) && hb3)))), (0, .ref 14), (1, .long f), (3, .int cc)]) (st' := [.int 1, .long (lb ee7 9)]) (μ' := μ) (by rfl) ?_
              exact zJ hJ8 rfl (by first | with_reducible rfl | (simp only [h11, lb_f, Int64.or_zero, Int32.add_zero, nB_t, nB_f, Bool.not_true, Bool.not_false, Bool.and_true, Bool.true_and, Bool.false_and, Bool.and_false, Bool.or_true, Bool.true_or, Bool.false_or, Bool.or_false, cond_true, cond_false]; done) | rfl) rfl
          refine zq_if hc hH (by rfl) (tg := 88) (by rfl) (fun h12 => ?_) (fun h12 => ?_)
          · have h12 : (decide ((lg_cmp (μ.2.1 14 17) 0) = 0)) = false := decide_eq_false (cm_ne.mp h12)
            refine z_rcs hc hH 1 (pc' := 89) (lv' := [(5, .int 4), (4, .int (yy5 + (nB (!(decide ((μ.1 15 3) = 0)) && hb3)))), (0, .ref 14), (1, .long f), (3, .int cc)]) (st' := [.int 0]) (μ' := μ) (by rfl) ?_
            exact zJ hJ6 rfl (by first | with_reducible rfl | (simp only [h12, lb_f, Int64.or_zero, Int32.add_zero, nB_t, nB_f, Bool.not_true, Bool.not_false, Bool.and_true, Bool.true_and, Bool.false_and, Bool.and_false, Bool.or_true, Bool.true_or, Bool.false_or, Bool.or_false, cond_true, cond_false]; done) | rfl) rfl
          · have h12 : (decide ((lg_cmp (μ.2.1 14 17) 0) = 0)) = true := decide_eq_true (cn_ne.mp h12)
            refine z_rcs hc hH 2 (pc' := 61) (lv' := [(5, .int 4), (4, .int (yy5 + (nB (!(decide ((μ.1 15 3) = 0)) && hb3)))), (0, .ref 14), (1, .long f), (3, .int cc)]) (st' := [.int (μ.1 14 8)]) (μ' := μ) (by rfl) ?_
            refine zq_if hc hH (by rfl) (tg := 88) (by rfl) (fun h13 => ?_) (fun h13 => ?_)
            · have h13 : (decide ((μ.1 14 8) = 0)) = false := decide_eq_false (cm_ne.mp h13)
              refine z_rcs hc hH 1 (pc' := 89) (lv' := [(5, .int 4), (4, .int (yy5 + (nB (!(decide ((μ.1 15 3) = 0)) && hb3)))), (0, .ref 14), (1, .long f), (3, .int cc)]) (st' := [.int 0]) (μ' := μ) (by rfl) ?_
              exact zJ hJ6 rfl (by first | with_reducible rfl | (simp only [h12, h13, lb_f, Int64.or_zero, Int32.add_zero, nB_t, nB_f, Bool.not_true, Bool.not_false, Bool.and_true, Bool.true_and, Bool.false_and, Bool.and_false, Bool.or_true, Bool.true_or, Bool.false_or, Bool.or_false, cond_true, cond_false]; done) | rfl) rfl
            · have h13 : (decide ((μ.1 14 8) = 0)) = true := decide_eq_true (cn_ne.mp h13)
              refine z_rcs hc hH 1 (pc' := 65) (lv' := [(5, .int 4), (4, .int (yy5 + (nB (!(decide ((μ.1 15 3) = 0)) && hb3)))), (0, .ref 14), (1, .long f), (3, .int cc)]) (st' := [.ref 14]) (μ' := μ) (by rfl) ?_
              refine zq_call hc (z_cx_ok hH (by rfl)) (fb_X1_pairFu d' (by omega) μ) (by decide +kernel) (fun r9 μ9 hq => ?_)
              obtain ⟨hμ9, rfl⟩ := hq
              rw [hμ9]
              clear hμ9 μ9
              show Z 0 68 [(5, .int 4), (4, .int (yy5 + (nB (!(decide ((μ.1 15 3) = 0)) && hb3)))), (0, .ref 14), (1, .long f), (3, .int cc)] [.int (xPf μ)] μ
              refine zq_if hc hH (by rfl) (tg := 88) (by rfl) (fun h14 => ?_) (fun h14 => ?_)
              · have h14 : (decide ((xPf μ) = 0)) = false := decide_eq_false (cm_ne.mp h14)
                refine z_rcs hc hH 1 (pc' := 89) (lv' := [(5, .int 4), (4, .int (yy5 + (nB (!(decide ((μ.1 15 3) = 0)) && hb3)))), (0, .ref 14), (1, .long f), (3, .int cc)]) (st' := [.int 0]) (μ' := μ) (by rfl) ?_
                exact zJ hJ6 rfl (by first | with_reducible rfl | (simp only [h12, h13, h14, lb_f, Int64.or_zero, Int32.add_zero, nB_t, nB_f, Bool.not_true, Bool.not_false, Bool.and_true, Bool.true_and, Bool.false_and, Bool.and_false, Bool.or_true, Bool.true_or, Bool.false_or, Bool.or_false, cond_true, cond_false]; done) | rfl) rfl
              · have h14 : (decide ((xPf μ) = 0)) = true := decide_eq_true (cn_ne.mp h14)
                refine z_rcs hc hH 2 (pc' := 73) (lv' := [(5, .int 4), (4, .int (yy5 + (nB (!(decide ((μ.1 15 3) = 0)) && hb3)))), (0, .ref 14), (1, .long f), (3, .int cc)]) (st' := [.int 4, .int cc]) (μ' := μ) (by rfl) ?_
                refine zq_ic hc hH (by rfl) (tg := 88) (by rfl) (fun h15 => ?_) (fun h15 => ?_)
                · have h15 : (decide (4 ≤ cc)) = true := decide_eq_true (cm_ge.mp h15)
                  refine z_rcs hc hH 1 (pc' := 89) (lv' := [(5, .int 4), (4, .int (yy5 + (nB (!(decide ((μ.1 15 3) = 0)) && hb3)))), (0, .ref 14), (1, .long f), (3, .int cc)]) (st' := [.int 0]) (μ' := μ) (by rfl) ?_
                  exact zJ hJ6 rfl (by first | with_reducible rfl | (simp only [h12, h13, h14, h15, lb_f, Int64.or_zero, Int32.add_zero, nB_t, nB_f, Bool.not_true, Bool.not_false, Bool.and_true, Bool.true_and, Bool.false_and, Bool.and_false, Bool.or_true, Bool.true_or, Bool.false_or, Bool.or_false, cond_true, cond_false]; done) | rfl) rfl
                · have h15 : (decide (4 ≤ cc)) = false := decide_eq_false (cn_ge.mp h15)
                  refine z_rcs hc hH 2 (pc' := 78) (lv' := [(5, .int 4), (4, .int (yy5 + (nB (!(decide ((μ.1 15 3) = 0)) && hb3)))), (0, .ref 14), (1, .long f), (3, .int cc)]) (st' := [.int cc, .ref 14]) (μ' := μ) (by rfl) ?_
                  refine zq_call hc (z_cx_ok hH (by rfl)) (hwf d' (by omega)) (by decide +kernel) (fun r9 μ9 hq => ?_)
                  obtain ⟨hμ9, rfl⟩ := hq
                  rw [hμ9]
                  clear hμ9 μ9
                  show Z 0 81 [(5, .int 4), (4, .int (yy5 + (nB (!(decide ((μ.1 15 3) = 0)) && hb3)))), (0, .ref 14), (1, .long f), (3, .int cc)] [.int wf] μ
                  refine zq_if hc hH (by rfl) (tg := 88) (by rfl) (fun h16 => ?_) (fun h16 => ?_)
                  · have h16 : (decide (wf = 0)) = false := decide_eq_false (cm_ne.mp h16)
                    refine z_rcs hc hH 1 (pc' := 89) (lv' := [(5, .int 4), (4, .int (yy5 + (nB (!(decide ((μ.1 15 3) = 0)) && hb3)))), (0, .ref 14), (1, .long f), (3, .int cc)]) (st' := [.int 0]) (μ' := μ) (by rfl) ?_
                    exact zJ hJ6 rfl (by first | with_reducible rfl | (simp only [h12, h13, h14, h15, h16, lb_f, Int64.or_zero, Int32.add_zero, nB_t, nB_f, Bool.not_true, Bool.not_false, Bool.and_true, Bool.true_and, Bool.false_and, Bool.and_false, Bool.or_true, Bool.true_or, Bool.false_or, Bool.or_false, cond_true, cond_false]; done) | rfl) rfl
                  · have h16 : (decide (wf = 0)) = true := decide_eq_true (cn_ne.mp h16)
                    refine z_rcs hc hH 2 (pc' := 89) (lv' := [(5, .int 4), (4, .int (yy5 + (nB (!(decide ((μ.1 15 3) = 0)) && hb3)))), (0, .ref 14), (1, .long f), (3, .int cc)]) (st' := [.int 1]) (μ' := μ) (by rfl) ?_
                    exact zJ hJ6 rfl (by first | with_reducible rfl | (simp only [h12, h13, h14, h15, h16, lb_f, Int64.or_zero, Int32.add_zero, nB_t, nB_f, Bool.not_true, Bool.not_false, Bool.and_true, Bool.true_and, Bool.false_and, Bool.and_false, Bool.or_true, Bool.true_or, Bool.false_or, Bool.or_false, cond_true, cond_false]; done) | rfl) rfl
        refine zq_if hc hH (by rfl) (tg := 38) (by rfl) (fun h17 => ?_) (fun h17 => ?_)
        · have h17 : (decide ((μ.1 15 3) = 0)) = true := decide_eq_true (cm_eq9.mp h17)
          refine z_rcs hc hH 1 (pc' := 39) (lv' := [(5, .int 3), (4, .int (((0 + (nB (!(decide ((μ.1 15 0) = 0)) && hb0))) + (nB (!(decide ((μ.1 15 1) = 0)) && hb1))) + (nB (!(decide ((μ.1 15 2) = 0)) && hb2)))), (0, .ref 14), (1, .long f), (3, .int cc)]) (st' := [.int 0, .int (((0 + (nB (!(decide ((μ.1 15 0) = 0)) && hb0))) + (nB (!(decide ((μ.1 15 1) = 0)) && hb1))) + (nB (!(decide ((μ.1 15 2) = 0)) && hb2)))]) (μ' := μ) (by rfl) ?_
          exact zJ hJ4 rfl (by first | with_reducible rfl | (simp only [h17, lb_f, Int64.or_zero, Int32.add_zero, nB_t, nB_f, Bool.not_true, Bool.not_false, Bool.and_true, Bool.true_and, Bool.false_and, Bool.and_false, Bool.or_true, Bool.true_or, Bool.false_or, Bool.or_false, cond_true, cond_false]; done) | rfl) rfl
        · have h17 : (decide ((μ.1 15 3) = 0)) = false := decide_eq_false (cn_eq.mp h17)
          refine z_rcs hc hH 3 (pc' := 28) (lv' := [(5, .int 3), (4, .int (((0 + (nB (!(decide ((μ.1 15 0) = 0)) && hb0))) + (nB (!(decide ((μ.1 15 1) = 0)) && hb1))) + (nB (!(decide ((μ.1 15 2) = 0)) && hb2)))), (0, .ref 14), (1, .long f), (3, .int cc)]) (st' := [.int cc, .int 3, .ref 14, .int (((0 + (nB (!(decide ((μ.1 15 0) = 0)) && hb0))) + (nB (!(decide ((μ.1 15 1) = 0)) && hb1))) + (nB (!(decide ((μ.1 15 2) = 0)) && hb2)))]) (μ' := μ) (by rfl) ?_
          refine zq_call hc (z_cx_ok hH (by rfl)) (hhd3 d' (by omega)) (by decide +kernel) (fun r9 μ9 hq => ?_)
          obtain ⟨hμ9, rfl⟩ := hq
          rw [hμ9]
          clear hμ9 μ9
          show Z 0 31 [(5, .int 3), (4, .int (((0 + (nB (!(decide ((μ.1 15 0) = 0)) && hb0))) + (nB (!(decide ((μ.1 15 1) = 0)) && hb1))) + (nB (!(decide ((μ.1 15 2) = 0)) && hb2)))), (0, .ref 14), (1, .long f), (3, .int cc)] [.int (nB hb3), .int (((0 + (nB (!(decide ((μ.1 15 0) = 0)) && hb0))) + (nB (!(decide ((μ.1 15 1) = 0)) && hb1))) + (nB (!(decide ((μ.1 15 2) = 0)) && hb2)))] μ
          refine zq_if hc hH (by rfl) (tg := 38) (by rfl) (fun h18 => ?_) (fun h18 => ?_)
          · have h18 : (hb3) = false := nB_z.mp (cm_eq9.mp h18)
            refine z_rcs hc hH 1 (pc' := 39) (lv' := [(5, .int 3), (4, .int (((0 + (nB (!(decide ((μ.1 15 0) = 0)) && hb0))) + (nB (!(decide ((μ.1 15 1) = 0)) && hb1))) + (nB (!(decide ((μ.1 15 2) = 0)) && hb2)))), (0, .ref 14), (1, .long f), (3, .int cc)]) (st' := [.int 0, .int (((0 + (nB (!(decide ((μ.1 15 0) = 0)) && hb0))) + (nB (!(decide ((μ.1 15 1) = 0)) && hb1))) + (nB (!(decide ((μ.1 15 2) = 0)) && hb2)))]) (μ' := μ) (by rfl) ?_
            exact zJ hJ4 rfl (by first | with_reducible rfl | (simp only [h17, h18, lb_f, Int64.or_zero, Int32.add_zero, nB_t, nB_f, Bool.not_true, Bool.not_false, Bool.and_true, Bool.true_and, Bool.false_and, Bool.and_false, Bool.or_true, Bool.true_or, Bool.false_or, Bool.or_false, cond_true, cond_false]; done) | rfl) rfl
          · have h18 : (hb3) = true := nB_n.mp (cn_eq.mp h18)
            refine z_rcs hc hH 2 (pc' := 39) (lv' := [(5, .int 3), (4, .int (((0 + (nB (!(decide ((μ.1 15 0) = 0)) && hb0))) + (nB (!(decide ((μ.1 15 1) = 0)) && hb1))) + (nB (!(decide ((μ.1 15 2) = 0)) && hb2)))), (0, .ref 14), (1, .long f), (3, .int cc)]) (st' := [.int 1, .int (((0 + (nB (!(decide ((μ.1 15 0) = 0)) && hb0))) + (nB (!(decide ((μ.1 15 1) = 0)) && hb1))) + (nB (!(decide ((μ.1 15 2) = 0)) && hb2)))]) (μ' := μ) (by rfl) ?_
            exact zJ hJ4 rfl (by first | with_reducible rfl | (simp only [h17, h18, lb_f, Int64.or_zero, Int32.add_zero, nB_t, nB_f, Bool.not_true, Bool.not_false, Bool.and_true, Bool.true_and, Bool.false_and, Bool.and_false, Bool.or_true, Bool.true_or, Bool.false_or, Bool.or_false, cond_true, cond_false]; done) | rfl) rfl
      refine zq_if hc hH (by rfl) (tg := 38) (by rfl) (fun h19 => ?_) (fun h19 => ?_)
      · have h19 : (decide ((μ.1 15 2) = 0)) = true := decide_eq_true (cm_eq9.mp h19)
        refine z_rcs hc hH 1 (pc' := 39) (lv' := [(5, .int 2), (4, .int ((0 + (nB (!(decide ((μ.1 15 0) = 0)) && hb0))) + (nB (!(decide ((μ.1 15 1) = 0)) && hb1)))), (0, .ref 14), (1, .long f), (3, .int cc)]) (st' := [.int 0, .int ((0 + (nB (!(decide ((μ.1 15 0) = 0)) && hb0))) + (nB (!(decide ((μ.1 15 1) = 0)) && hb1)))]) (μ' := μ) (by rfl) ?_
        exact zJ hJ3 rfl (by first | with_reducible rfl | (simp only [h19, lb_f, Int64.or_zero, Int32.add_zero, nB_t, nB_f, Bool.not_true, Bool.not_false, Bool.and_true, Bool.true_and, Bool.false_and, Bool.and_false, Bool.or_true, Bool.true_or, Bool.false_or, Bool.or_false, cond_true, cond_false]; done) | rfl) rfl
      · have h19 : (decide ((μ.1 15 2) = 0)) = false := decide_eq_false (cn_eq.mp h19)
        refine z_rcs hc hH 3 (pc' := 28) (lv' := [(5, .int 2), (4, .int ((0 + (nB (!(decide ((μ.1 15 0) = 0)) && hb0))) + (nB (!(decide ((μ.1 15 1) = 0)) && hb1)))), (0, .ref 14), (1, .long f), (3, .int cc)]) (st' := [.int cc, .int 2, .ref 14, .int ((0 + (nB (!(decide ((μ.1 15 0) = 0)) && hb0))) + (nB (!(decide ((μ.1 15 1) = 0)) && hb1)))]) (μ' := μ) (by rfl) ?_
        refine zq_call hc (z_cx_ok hH (by rfl)) (hhd2 d' (by omega)) (by decide +kernel) (fun r9 μ9 hq => ?_)
        obtain ⟨hμ9, rfl⟩ := hq
        rw [hμ9]
        clear hμ9 μ9
        show Z 0 31 [(5, .int 2), (4, .int ((0 + (nB (!(decide ((μ.1 15 0) = 0)) && hb0))) + (nB (!(decide ((μ.1 15 1) = 0)) && hb1)))), (0, .ref 14), (1, .long f), (3, .int cc)] [.int (nB hb2), .int ((0 + (nB (!(decide ((μ.1 15 0) = 0)) && hb0))) + (nB (!(decide ((μ.1 15 1) = 0)) && hb1)))] μ
        refine zq_if hc hH (by rfl) (tg := 38) (by rfl) (fun h20 => ?_) (fun h20 => ?_)
        · have h20 : (hb2) = false := nB_z.mp (cm_eq9.mp h20)
          refine z_rcs hc hH 1 (pc' := 39) (lv' := [(5, .int 2), (4, .int ((0 + (nB (!(decide ((μ.1 15 0) = 0)) && hb0))) + (nB (!(decide ((μ.1 15 1) = 0)) && hb1)))), (0, .ref 14), (1, .long f), (3, .int cc)]) (st' := [.int 0, .int ((0 + (nB (!(decide ((μ.1 15 0) = 0)) && hb0))) + (nB (!(decide ((μ.1 15 1) = 0)) && hb1)))]) (μ' := μ) (by rfl) ?_
          exact zJ hJ3 rfl (by first | with_reducible rfl | (simp only [h19, h20, lb_f, Int64.or_zero, Int32.add_zero, nB_t, nB_f, Bool.not_true, Bool.not_false, Bool.and_true, Bool.true_and, Bool.false_and, Bool.and_false, Bool.or_true, Bool.true_or, Bool.false_or, Bool.or_false, cond_true, cond_false]; done) | rfl) rfl
        · have h20 : (hb2) = true := nB_n.mp (cn_eq.mp h20)
          refine z_rcs hc hH 2 (pc' := 39) (lv' := [(5, .int 2), (4, .int ((0 + (nB (!(decide ((μ.1 15 0) = 0)) && hb0))) + (nB (!(decide ((μ.1 15 1) = 0)) && hb1)))), (0, .ref 14), (1, .long f), (3, .int cc)]) (st' := [.int 1, .int ((0 + (nB (!(decide ((μ.1 15 0) = 0)) && hb0))) + (nB (!(decide ((μ.1 15 1) = 0)) && hb1)))]) (μ' := μ) (by rfl) ?_
          exact zJ hJ3 rfl (by first | with_reducible rfl | (simp only [h19, h20, lb_f, Int64.or_zero, Int32.add_zero, nB_t, nB_f, Bool.not_true, Bool.not_false, Bool.and_true, Bool.true_and, Bool.false_and, Bool.and_false, Bool.or_true, Bool.true_or, Bool.false_or, Bool.or_false, cond_true, cond_false]; done) | rfl) rfl
    refine zq_if hc hH (by rfl) (tg := 38) (by rfl) (fun h21 => ?_) (fun h21 => ?_)
    · have h21 : (decide ((μ.1 15 1) = 0)) = true := decide_eq_true (cm_eq9.mp h21)
      refine z_rcs hc hH 1 (pc' := 39) (lv' := [(5, .int 1), (4, .int (0 + (nB (!(decide ((μ.1 15 0) = 0)) && hb0)))), (0, .ref 14), (1, .long f), (3, .int cc)]) (st' := [.int 0, .int (0 + (nB (!(decide ((μ.1 15 0) = 0)) && hb0)))]) (μ' := μ) (by rfl) ?_
      exact zJ hJ2 rfl (by first | with_reducible rfl | (simp only [h21, lb_f, Int64.or_zero, Int32.add_zero, nB_t, nB_f, Bool.not_true, Bool.not_false, Bool.and_true, Bool.true_and, Bool.false_and, Bool.and_false, Bool.or_true, Bool.true_or, Bool.false_or, Bool.or_false, cond_true, cond_false]; done) | rfl) rfl
    · have h21 : (decide ((μ.1 15 1) = 0)) = false := decide_eq_false (cn_eq.mp h21)
      refine z_rcs hc hH 3 (pc' := 28) (lv' := [(5, .int 1), (4, .int (0 + (nB (!(decide ((μ.1 15 0) = 0)) && hb0)))), (0, .ref 14), (1, .long f), (3, .int cc)]) (st' := [.int cc, .int 1, .ref 14, .int (0 + (nB (!(decide ((μ.1 15 0) = 0)) && hb0)))]) (μ' := μ) (by rfl) ?_
      refine zq_call hc (z_cx_ok hH (by rfl)) (hhd1 d' (by omega)) (by decide +kernel) (fun r9 μ9 hq => ?_)
      obtain ⟨hμ9, rfl⟩ := hq
      rw [hμ9]
      clear hμ9 μ9
      show Z 0 31 [(5, .int 1), (4, .int (0 + (nB (!(decide ((μ.1 15 0) = 0)) && hb0)))), (0, .ref 14), (1, .long f), (3, .int cc)] [.int (nB hb1), .int (0 + (nB (!(decide ((μ.1 15 0) = 0)) && hb0)))] μ
      refine zq_if hc hH (by rfl) (tg := 38) (by rfl) (fun h22 => ?_) (fun h22 => ?_)
      · have h22 : (hb1) = false := nB_z.mp (cm_eq9.mp h22)
        refine z_rcs hc hH 1 (pc' := 39) (lv' := [(5, .int 1), (4, .int (0 + (nB (!(decide ((μ.1 15 0) = 0)) && hb0)))), (0, .ref 14), (1, .long f), (3, .int cc)]) (st' := [.int 0, .int (0 + (nB (!(decide ((μ.1 15 0) = 0)) && hb0)))]) (μ' := μ) (by rfl) ?_
        exact zJ hJ2 rfl (by first | with_reducible rfl | (simp only [h21, h22, lb_f, Int64.or_zero, Int32.add_zero, nB_t, nB_f, Bool.not_true, Bool.not_false, Bool.and_true, Bool.true_and, Bool.false_and, Bool.and_false, Bool.or_true, Bool.true_or, Bool.false_or, Bool.or_false, cond_true, cond_false]; done) | rfl) rfl
      · have h22 : (hb1) = true := nB_n.mp (cn_eq.mp h22)
        refine z_rcs hc hH 2 (pc' := 39) (lv' := [(5, .int 1), (4, .int (0 + (nB (!(decide ((μ.1 15 0) = 0)) && hb0)))), (0, .ref 14), (1, .long f), (3, .int cc)]) (st' := [.int 1, .int (0 + (nB (!(decide ((μ.1 15 0) = 0)) && hb0)))]) (μ' := μ) (by rfl) ?_
        exact zJ hJ2 rfl (by first | with_reducible rfl | (simp only [h21, h22, lb_f, Int64.or_zero, Int32.add_zero, nB_t, nB_f, Bool.not_true, Bool.not_false, Bool.and_true, Bool.true_and, Bool.false_and, Bool.and_false, Bool.or_true, Bool.true_or, Bool.false_or, Bool.or_false, cond_true, cond_false]; done) | rfl) rfl
  refine zq_if hc hH (by rfl) (tg := 38) (by rfl) (fun h23 => ?_) (fun h23 => ?_)
  · have h23 : (decide ((μ.1 15 0) = 0)) = true := decide_eq_true (cm_eq9.mp h23)
    refine z_rcs hc hH 1 (pc' := 39) (lv' := [(5, .int 0), (4, .int 0), (0, .ref 14), (1, .long f), (3, .int cc)]) (st' := [.int 0, .int 0]) (μ' := μ) (by rfl) ?_
    exact zJ hJ1 rfl (by first | with_reducible rfl | (simp only [h23, lb_f, Int64.or_zero, Int32.add_zero, nB_t, nB_f, Bool.not_true, Bool.not_false, Bool.and_true, Bool.true_and, Bool.false_and, Bool.and_false, Bool.or_true, Bool.true_or, Bool.false_or, Bool.or_false, cond_true, cond_false]; done) | rfl) rfl
  · have h23 : (decide ((μ.1 15 0) = 0)) = false := decide_eq_false (cn_eq.mp h23)
    refine z_rcs hc hH 3 (pc' := 28) (lv' := [(5, .int 0), (4, .int 0), (0, .ref 14), (1, .long f), (3, .int cc)]) (st' := [.int cc, .int 0, .ref 14, .int 0]) (μ' := μ) (by rfl) ?_
    refine zq_call hc (z_cx_ok hH (by rfl)) (hhd0 d' (by omega)) (by decide +kernel) (fun r9 μ9 hq => ?_)
    obtain ⟨hμ9, rfl⟩ := hq
    rw [hμ9]
    clear hμ9 μ9
    show Z 0 31 [(5, .int 0), (4, .int 0), (0, .ref 14), (1, .long f), (3, .int cc)] [.int (nB hb0), .int 0] μ
    refine zq_if hc hH (by rfl) (tg := 38) (by rfl) (fun h24 => ?_) (fun h24 => ?_)
    · have h24 : (hb0) = false := nB_z.mp (cm_eq9.mp h24)
      refine z_rcs hc hH 1 (pc' := 39) (lv' := [(5, .int 0), (4, .int 0), (0, .ref 14), (1, .long f), (3, .int cc)]) (st' := [.int 0, .int 0]) (μ' := μ) (by rfl) ?_
      exact zJ hJ1 rfl (by first | with_reducible rfl | (simp only [h23, h24, lb_f, Int64.or_zero, Int32.add_zero, nB_t, nB_f, Bool.not_true, Bool.not_false, Bool.and_true, Bool.true_and, Bool.false_and, Bool.and_false, Bool.or_true, Bool.true_or, Bool.false_or, Bool.or_false, cond_true, cond_false]; done) | rfl) rfl
    · have h24 : (hb0) = true := nB_n.mp (cn_eq.mp h24)
      refine z_rcs hc hH 2 (pc' := 39) (lv' := [(5, .int 0), (4, .int 0), (0, .ref 14), (1, .long f), (3, .int cc)]) (st' := [.int 1, .int 0]) (μ' := μ) (by rfl) ?_
      exact zJ hJ1 rfl (by first | with_reducible rfl | (simp only [h23, h24, lb_f, Int64.or_zero, Int32.add_zero, nB_t, nB_f, Bool.not_true, Bool.not_false, Bool.and_true, Bool.true_and, Bool.false_and, Bool.and_false, Bool.or_true, Bool.true_or, Bool.false_or, Bool.or_false, cond_true, cond_false]; done) | rfl) rfl
