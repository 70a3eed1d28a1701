/-! like RUNS, ends in each SET: as the reference has them -/
/-- a form's bit -/
abbrev fbt (f : Nat) : Int64 := (1 : Int64) <<< ((nI f).toInt64 &&& 63)
noncomputable def orb (x : Int64) (c : Prop) (f : Nat) : Int64 := @ite Int64 c (Classical.propDecidable c) (x ||| fbt f) x
theorem orb_t {x : Int64} {c : Prop} {f : Nat} (h : c) : orb x c f = x ||| fbt f := by unfold orb; rw [if_pos h]
theorem orb_f {x : Int64} {c : Prop} {f : Nat} (h : ¬ c) : orb x c f = x := by unfold orb; rw [if_neg h]
/-- only GREAT and plain forms change -/
def LG (μ μ' : zM) (g pl : Int64) : Prop := μ'.1 = μ.1 ∧ μ'.2.1 50 24 = g ∧ μ'.2.1 50 25 = pl ∧ a_Fz [(50, 24), (50, 25)] μ μ'
theorem z_uj_1 (μ : zM) (r k : Nat) (x : Int64) : (z_uj μ r k x).1 = μ.1 := rfl
theorem z_uj_rd (μ : zM) (r k : Nat) (x : Int64) (r' k' : Nat) : (z_uj μ r k x).2.1 r' k' = if r' = r ∧ k' = k then x else μ.2.1 r' k' := by
  by_cases h : r' = r ∧ k' = k
  · rw [if_pos h, h.1, h.2, z_uj_at]
    exact if_pos rfl
  · rw [if_neg h]
    by_cases hr : r' = r
    · subst hr
      rw [z_uj_at, if_neg (fun e => h ⟨rfl, e⟩)]
    · rw [z_uj_ne hr]
theorem LG_rf (μ : zM) : LG μ μ (μ.2.1 50 24) (μ.2.1 50 25) := ⟨rfl, rfl, rfl, a_Fz_rf _ _⟩
theorem LG.pl {μ μ' : zM} {g pl x : Int64} (h : LG μ μ' g pl) : LG μ (z_uj μ' 50 25 x) g x := ⟨(z_uj_1 _ _ _ _).trans h.1, by rw [z_uj_rd, if_neg (by omega)]; exact h.2.1, by rw [z_uj_rd, if_pos ⟨rfl, rfl⟩], a_Fz_uj h.2.2.2 (by decide)⟩
theorem LG.gr {μ μ' : zM} {g pl x : Int64} (h : LG μ μ' g pl) : LG μ (z_uj μ' 50 24 x) x pl := ⟨(z_uj_1 _ _ _ _).trans h.1, by rw [z_uj_rd, if_pos ⟨rfl, rfl⟩], by rw [z_uj_rd, if_neg (by omega)]; exact h.2.2.1, a_Fz_uj h.2.2.2 (by decide)⟩
theorem AY.k {μ μ' : zM} {s l : Nat → Nat} (h : AY μ s l) (e : μ'.1 = μ.1) : AY μ' s l := fun i hi => by rw [e]; exact h i hi
/-- like RUNS -/
def nr4 (s l : Nat → Nat) (c n : Nat) : Nat := cn (fun i => decide (s i = 0 ∧ l i = c)) n
def twn (s l : Nat → Nat) (n : Nat) : Nat := sn (fun c => nr4 s l c 4 / 2) n
theorem cn_ub (b : Nat → Bool) : ∀ n, cn b n ≤ n := by
  intro n
  induction n with
  | zero => exact Nat.le_refl _
  | succ n ih => show cn b n + (if b n = true then 1 else 0) ≤ n + 1; split <;> omega
theorem d_2 : ∀ a, a < 5 → nI a / 2 = nI (a / 2) := by decide +kernel
theorem zh_X7_twins : zH mi_X7_twins zc_X7_twins 79 7 5 := ⟨by rfl, by rfl, by rfl, by rfl⟩
theorem tw15 (d' : Nat) (Z : zK) (hd : 1 ≤ d') (μ : zM) (s l : Nat → Nat) (hA : AY μ s l) (hc : z_clo z_x0 mi_X7_twins (z_C d') Z) (c : Nat) (hcc : c < 27) (x1 : Int32) (K : Z 0 56 [(4, .int (nI 4)), (3, .int (nI (nr4 s l c 4))), (2, .int (nI c)), (1, .int x1), (0, .ref 50)] [] μ) : ∀ n i, i + n = 4 → Z 0 15 [(4, .int (nI i)), (3, .int (nI (nr4 s l c i))), (2, .int (nI c)), (1, .int x1), (0, .ref 50)] [] μ := by
  have hH := zh_X7_twins
  intro n
  induction n with
  | zero =>
    intro i hi
    have hi : i = 4 := by omega
    subst hi
    refine z_rcs hc hH 2 (pc' := 18) (lv' := [(4, .int (nI 4)), (3, .int (nI (nr4 s l c 4))), (2, .int (nI c)), (1, .int x1), (0, .ref 50)]) (st' := [.int 4, .int (nI 4)]) (μ' := μ) (by rfl) ?_
    refine zq_ic hc hH (by rfl) (tg := 56) (by rfl) (fun _ => ?_) (fun h9 => (zb_t (ge_nIt (n := 4) (i := 4) (by decide) (by decide)) h9).elim)
    exact K
  | succ n ih =>
    intro i hi
    have hin : vp_in (nI i) 4 := vp_in_nI (by omega) (by decide)
    have a := hA i (by omega)
    have e : nr4 s l c (i + 1) = nr4 s l c i + (if decide (s i = 0 ∧ l i = c) = true then 1 else 0) := rfl
    refine z_rcs hc hH 2 (pc' := 18) (lv' := [(4, .int (nI i)), (3, .int (nI (nr4 s l c i))), (2, .int (nI c)), (1, .int x1), (0, .ref 50)]) (st' := [.int 4, .int (nI i)]) (μ' := μ) (by rfl) ?_
    refine zq_ic hc hH (by rfl) (tg := 56) (by rfl) (fun h9 => (zb_t h9 (ge_nI (n := 4) (i := i) (by omega) (by decide))).elim) (fun _ => ?_)
    refine z_rcs hc hH 4 (pc' := 28) (lv' := [(4, .int (nI i)), (3, .int (nI (nr4 s l c i))), (2, .int (nI c)), (1, .int x1), (0, .ref 50)]) (st' := [.int (nI i), .ref 56, .int (nI (nr4 s l c i))]) (μ' := μ) (by rfl) ?_
    refine zq_iald hc hH (by rfl) 4 (by decide +kernel) (hin) ?_
    rw [nI_clamp (n := i) (by omega), a.1]
    refine zq_if hc hH (by rfl) (tg := 47) (by rfl) (fun h1 => ?_) (fun h1 => ?_)
    · have h1 := cm_ne.mp h1
      refine z_rcs hc hH 2 (pc' := 49) (lv' := [(4, .int (nI i)), (3, .int (nI (nr4 s l c i))), (2, .int (nI c)), (1, .int x1), (0, .ref 50)]) (st' := [.int ((nI (nr4 s l c i)) + 0)]) (μ' := μ) (by rfl) ?_
      rw [if_neg (by rw [decide_eq_true_iff]; exact fun z => h1 (by rw [z.1]; rfl))] at e
      rw [Int32.add_zero, ← show nr4 s l c (i + 1) = nr4 s l c i from e]
      refine z_rcs hc hH 3 (pc' := 15) (lv' := [(4, .int ((nI i) + 1)), (3, .int (nI (nr4 s l c (i + 1)))), (2, .int (nI c)), (1, .int x1), (0, .ref 50)]) (st' := []) (μ' := μ) (by rfl) ?_
      rw [nI_1]
      exact ih (i + 1) (by omega)
    · have h1 := cn_ne.mp h1
      refine z_rcs hc hH 3 (pc' := 38) (lv' := [(4, .int (nI i)), (3, .int (nI (nr4 s l c i))), (2, .int (nI c)), (1, .int x1), (0, .ref 50)]) (st' := [.int (nI i), .ref 57, .int (nI (nr4 s l c i))]) (μ' := μ) (by rfl) ?_
      refine zq_iald hc hH (by rfl) 4 (by decide +kernel) (hin) ?_
      rw [nI_clamp (n := i) (by omega), a.2.2.1]
      refine z_rcs hc hH 1 (pc' := 40) (lv' := [(4, .int (nI i)), (3, .int (nI (nr4 s l c i))), (2, .int (nI c)), (1, .int x1), (0, .ref 50)]) (st' := [.int (nI c), .int (nI (l i)), .int (nI (nr4 s l c i))]) (μ' := μ) (by rfl) ?_
      refine zq_ic hc hH (by rfl) (tg := 47) (by rfl) (fun h2 => ?_) (fun h2 => ?_)
      · have h2 := cm_ne.mp h2
        refine z_rcs hc hH 2 (pc' := 49) (lv' := [(4, .int (nI i)), (3, .int (nI (nr4 s l c i))), (2, .int (nI c)), (1, .int x1), (0, .ref 50)]) (st' := [.int ((nI (nr4 s l c i)) + 0)]) (μ' := μ) (by rfl) ?_
        rw [if_neg (by rw [decide_eq_true_iff]; exact fun z => h2 (by rw [z.2]))] at e
        rw [Int32.add_zero, ← show nr4 s l c (i + 1) = nr4 s l c i from e]
        refine z_rcs hc hH 3 (pc' := 15) (lv' := [(4, .int ((nI i) + 1)), (3, .int (nI (nr4 s l c (i + 1)))), (2, .int (nI c)), (1, .int x1), (0, .ref 50)]) (st' := []) (μ' := μ) (by rfl) ?_
        rw [nI_1]
        exact ih (i + 1) (by omega)
      · have h2 := cn_ne.mp h2
        refine z_rcs hc hH 3 (pc' := 49) (lv' := [(4, .int (nI i)), (3, .int (nI (nr4 s l c i))), (2, .int (nI c)), (1, .int x1), (0, .ref 50)]) (st' := [.int ((nI (nr4 s l c i)) + 1)]) (μ' := μ) (by rfl) ?_
        rw [if_pos (decide_eq_true ⟨(nI_eq (show s i < 2 ^ 31 by omega) (show 0 < 2 ^ 31 by decide)).mp h1, (nI_eq (by omega) (by omega)).mp h2⟩)] at e
        rw [nI_1, ← e]
        refine z_rcs hc hH 3 (pc' := 15) (lv' := [(4, .int ((nI i) + 1)), (3, .int (nI (nr4 s l c (i + 1)))), (2, .int (nI c)), (1, .int x1), (0, .ref 50)]) (st' := []) (μ' := μ) (by rfl) ?_
        rw [nI_1]
        exact ih (i + 1) (by omega)
theorem tw4 (d' : Nat) (Z : zK) (hd : 1 ≤ d') (μ : zM) (s l : Nat → Nat) (hA : AY μ s l) (hc : z_clo z_x0 mi_X7_twins (z_C d') Z) (K : ∀ x3, Z 0 68 [(2, .int (nI 27)), (1, .int (nI (twn s l 27))), (4, .int (nI 4)), (3, .int x3), (0, .ref 50)] [] μ) : ∀ n c, c + n = 27 → (0 < c → ∀ x3, Z 0 4 [(2, .int (nI c)), (1, .int (nI (twn s l c))), (4, .int (nI 4)), (3, .int x3), (0, .ref 50)] [] μ) ∧ (c = 0 → Z 0 4 [(2, .int (nI 0)), (1, .int (nI 0)), (0, .ref 50)] [] μ) := by
  have hH := zh_X7_twins
  intro n
  induction n with
  | zero =>
    intro c hc0
    have hc0 : c = 27 := by omega
    subst hc0
    refine ⟨fun _ x3 => ?_, fun e => absurd e (by decide)⟩
    refine z_rcs hc hH 2 (pc' := 7) (lv' := [(2, .int (nI 27)), (1, .int (nI (twn s l 27))), (4, .int (nI 4)), (3, .int x3), (0, .ref 50)]) (st' := [.int 27, .int (nI 27)]) (μ' := μ) (by rfl) ?_
    refine zq_ic hc hH (by rfl) (tg := 68) (by rfl) (fun _ => ?_) (fun h9 => (zb_t (ge_nIt (n := 27) (i := 27) (by decide) (by decide)) h9).elim)
    exact K x3
  | succ n ih =>
    intro c hc0
    have ub := cn_ub (fun i => decide (s i = 0 ∧ l i = c)) 4
    have bd : Z 0 15 [(4, .int (nI 0)), (3, .int (nI 0)), (2, .int (nI c)), (1, .int (nI (twn s l c))), (0, .ref 50)] [] μ := by
      refine tw15 d' Z hd μ s l hA hc c (by omega) (nI (twn s l c)) ?_ 4 0 (by omega)
      refine z_rcs hc hH 4 (pc' := 60) (lv' := [(4, .int (nI 4)), (3, .int (nI (nr4 s l c 4))), (2, .int (nI c)), (1, .int (nI (twn s l c))), (0, .ref 50)]) (st' := [.int ((nI (nr4 s l c 4)) / 2), .int (nI (twn s l c))]) (μ' := μ) (by rfl) ?_
      rw [d_2 (nr4 s l c 4) (by show cn _ 4 < 5; omega)]
      refine z_rcs hc hH 1 (pc' := 61) (lv' := [(4, .int (nI 4)), (3, .int (nI (nr4 s l c 4))), (2, .int (nI c)), (1, .int (nI (twn s l c))), (0, .ref 50)]) (st' := [.int ((nI (twn s l c)) + (nI (nr4 s l c 4 / 2)))]) (μ' := μ) (by rfl) ?_
      rw [nI_add]
      refine z_rcs hc hH 3 (pc' := 4) (lv' := [(2, .int ((nI c) + 1)), (1, .int (nI (twn s l c + nr4 s l c 4 / 2))), (4, .int (nI 4)), (3, .int (nI (nr4 s l c 4))), (0, .ref 50)]) (st' := []) (μ' := μ) (by rfl) ?_
      rw [nI_1]
      exact (ih (c + 1) (by omega)).1 (by omega) _
    refine ⟨fun _ x3 => ?_, fun e => ?_⟩
    · skip
      refine z_rcs hc hH 2 (pc' := 7) (lv' := [(2, .int (nI c)), (1, .int (nI (twn s l c))), (4, .int (nI 4)), (3, .int x3), (0, .ref 50)]) (st' := [.int 27, .int (nI c)]) (μ' := μ) (by rfl) ?_
      refine zq_ic hc hH (by rfl) (tg := 68) (by rfl) (fun h9 => (zb_t h9 (ge_nI (n := 27) (i := c) (by omega) (by decide))).elim) (fun _ => ?_)
      refine z_rcs hc hH 4 (pc' := 15) (lv' := [(4, .int 0), (3, .int 0), (2, .int (nI c)), (1, .int (nI (twn s l c))), (0, .ref 50)]) (st' := []) (μ' := μ) (by rfl) ?_
      exact bd
    · subst e
      refine z_rcs hc hH 2 (pc' := 7) (lv' := [(2, .int (nI 0)), (1, .int (nI 0)), (0, .ref 50)]) (st' := [.int 27, .int (nI 0)]) (μ' := μ) (by rfl) ?_
      refine zq_ic hc hH (by rfl) (tg := 68) (by rfl) (fun h9 => (zb_t h9 (ge_nI (n := 27) (i := 0) (by omega) (by decide))).elim) (fun _ => ?_)
      refine z_rcs hc hH 4 (pc' := 15) (lv' := [(4, .int 0), (3, .int 0), (2, .int (nI 0)), (1, .int (nI 0)), (0, .ref 50)]) (st' := []) (μ' := μ) (by rfl) ?_
      exact bd
theorem tw_ub (s l : Nat → Nat) : twn s l 27 < 1000 := by
  have := sn_ub (w := fun c => nr4 s l c 4 / 2) (c := 4) 27 (fun k _ => by have := cn_ub (fun i => decide (s i = 0 ∧ l i = k)) 4; show cn _ 4 / 2 ≤ 4; omega)
  unfold twn
  omega
theorem fc_X7_twins (d : Nat) (hd : 2 ≤ d) (μ : zM) (s l : Nat → Nat) (hA : AY μ s l) : z_C d mi_X7_twins [.ref 50] μ (fun r μ' => r = none ∧ LG μ μ' (μ.2.1 50 24) (orb (orb (μ.2.1 50 25) (twn s l 27 = 1) 10) (twn s l 27 = 2) 28)) := by
  refine z_C_in (by decide) (by omega) (fun d' Z ed hc hr => ?_)
  have hH := zh_X7_twins
  have ub := tw_ub s l
  refine z_rcs hc hH 4 (pc' := 4) (lv' := [(2, .int 0), (1, .int 0), (0, .ref 50)]) (st' := []) (μ' := μ) (by rfl) ?_
  refine (tw4 d' Z (by omega) μ s l hA hc (fun x3 => ?_) 27 0 (by omega)).2 rfl
  have t87 : ∀ μ1, LG μ μ1 (μ.2.1 50 24) (orb (μ.2.1 50 25) (twn s l 27 = 1) 10) → Z 0 87 [(2, .int (nI 27)), (1, .int (nI (twn s l 27))), (4, .int (nI 4)), (3, .int x3), (0, .ref 50)] [] μ1 := by
    intro μ1 g1
    refine z_rcs hc hH 2 (pc' := 89) (lv' := [(2, .int (nI 27)), (1, .int (nI (twn s l 27))), (4, .int (nI 4)), (3, .int x3), (0, .ref 50)]) (st' := [.int 2, .int (nI (twn s l 27))]) (μ' := μ1) (by rfl) ?_
    refine zq_ic hc hH (by rfl) (tg := 106) (by rfl) (fun h1 => ?_) (fun h1 => ?_)
    · have h1 := cm_ne.mp h1
      exact hr 0 106 _ _ _ none (by decide +kernel) (by rfl) (⟨rfl, by rw [orb_f (fun e => h1 (by rw [e]; rfl))]; exact g1⟩)
    · have h1 := cn_ne.mp h1
      refine z_rcs hc hH 3 (pc' := 97) (lv' := [(2, .int (nI 27)), (1, .int (nI (twn s l 27))), (4, .int (nI 4)), (3, .int x3), (0, .ref 50)]) (st' := [.long (μ1.2.1 50 25), .ref 50]) (μ' := μ1) (by rfl) ?_
      rw [g1.2.2.1]
      refine z_rcs hc hH 1 (pc' := 99) (lv' := [(2, .int (nI 27)), (1, .int (nI (twn s l 27))), (4, .int (nI 4)), (3, .int x3), (0, .ref 50)]) (st' := [.int 28, .long (orb (μ.2.1 50 25) (twn s l 27 = 1) 10), .ref 50]) (μ' := μ1) (by rfl) ?_
      refine zq_call hc (by rfl) (fc_X7_bit d' (by omega) μ1 28) (by decide +kernel) (fun r9 μ9 hq => ?_)
      obtain ⟨hμ9, rfl⟩ := hq
      rw [hμ9]
      clear hμ9 μ9
      show Z 0 102 [(2, .int (nI 27)), (1, .int (nI (twn s l 27))), (4, .int (nI 4)), (3, .int x3), (0, .ref 50)] [.long (fbt 28), .long (orb (μ.2.1 50 25) (twn s l 27 = 1) 10), .ref 50] μ1
      refine z_rcs hc hH 2 (pc' := 106) (lv' := [(2, .int (nI 27)), (1, .int (nI (twn s l 27))), (4, .int (nI 4)), (3, .int x3), (0, .ref 50)]) (st' := []) (μ' := z_uj μ1 50 25 ((orb (μ.2.1 50 25) (twn s l 27 = 1) 10) ||| (fbt 28))) (by rfl) ?_
      have e2 : twn s l 27 = 2 := (nI_eq (by omega) (by decide)).mp h1
      exact hr 0 106 _ _ _ none (by decide +kernel) (by rfl) (⟨rfl, by rw [orb_t e2]; exact g1.pl⟩)
  refine z_rcs hc hH 2 (pc' := 70) (lv' := [(2, .int (nI 27)), (1, .int (nI (twn s l 27))), (4, .int (nI 4)), (3, .int x3), (0, .ref 50)]) (st' := [.int 1, .int (nI (twn s l 27))]) (μ' := μ) (by rfl) ?_
  refine zq_ic hc hH (by rfl) (tg := 87) (by rfl) (fun h1 => ?_) (fun h1 => ?_)
  · have h1 := cm_ne.mp h1
    exact t87 _ (by rw [orb_f (fun e => h1 (by rw [e]; rfl))]; exact LG_rf μ)
  · have h1 := cn_ne.mp h1
    refine z_rcs hc hH 4 (pc' := 80) (lv' := [(2, .int (nI 27)), (1, .int (nI (twn s l 27))), (4, .int (nI 4)), (3, .int x3), (0, .ref 50)]) (st' := [.int 10, .long (μ.2.1 50 25), .ref 50]) (μ' := μ) (by rfl) ?_
    refine zq_call hc (by rfl) (fc_X7_bit d' (by omega) μ 10) (by decide +kernel) (fun r9 μ9 hq => ?_)
    obtain ⟨hμ9, rfl⟩ := hq
    rw [hμ9]
    clear hμ9 μ9
    show Z 0 83 [(2, .int (nI 27)), (1, .int (nI (twn s l 27))), (4, .int (nI 4)), (3, .int x3), (0, .ref 50)] [.long (fbt 10), .long (μ.2.1 50 25), .ref 50] μ
    refine z_rcs hc hH 2 (pc' := 87) (lv' := [(2, .int (nI 27)), (1, .int (nI (twn s l 27))), (4, .int (nI 4)), (3, .int x3), (0, .ref 50)]) (st' := []) (μ' := z_uj μ 50 25 ((μ.2.1 50 25) ||| (fbt 10))) (by rfl) ?_
    have e1 : twn s l 27 = 1 := (nI_eq (by omega) (by decide)).mp h1
    exact t87 _ (by rw [orb_t e1]; exact (LG_rf μ).pl)
