/-! a way of the first sort, each SET that may be the completed one: the reference -/
set_option maxRecDepth 8000
noncomputable def sA (q : Nat) (sL : Nat → Nat) (sl : SL) (j : Nat) : Nat := if j < q then sL j else (sl.getD (j - q) (0, 0)).1
noncomputable def lA (q : Nat) (lL : Nat → Nat) (sl : SL) (j : Nat) : Nat := if j < q then lL j else (sl.getD (j - q) (0, 0)).2
/-- of like SETS the first alone -/
noncomputable def df1 (s l : Nat → Nat) (j i : Nat) : Bool := !(decide (s j = s i) && decide (l j = l i))
noncomputable def dfs (s l : Nat → Nat) (i : Nat) : Nat → Nat → Bool
  | 0, _ => true
  | n + 1, j => df1 s l j i && dfs s l i n (j + 1)
/-- may be completed -/
noncomputable def mc (wn : Int32) (q p : Nat) (s l : Nat → Nat) (co : Nat) : Bool := bif Nat.blt co 4 then xHas (nI (s co)) (nI (l co)) wn && dfs s l co (co - q) q else decide (nI p = wn)
noncomputable def OW (μ : zM) (q p : Nat) (s l : Nat → Nat) (co : Nat) (x : Q4) : Prop := mc (μ.1 50 7) q p s l co = true ∧ x = vRf (yM μ s l (nI p) (nI co)) q s l ∧ ¬ x.2.2.2 = 0
noncomputable def OV (μ : zM) (q p : Nat) (sL lL : Nat → Nat) (sl : SL) (x : Q4) : Prop := ∃ co, q ≤ co ∧ co < 5 ∧ OW μ q p (sA q sL sl) (lA q lL sl) co x
noncomputable def WA (μ μ1 : zM) (p : Nat) (s l : Nat → Nat) (i : Nat) : Prop := (∀ j, j < i → μ1.1 56 j = nI (s j) ∧ μ1.1 57 j = nI (l j)) ∧ a_Fz mdY μ μ1 ∧ a_H μ1 ∧ μ1.1 50 21 = nI p
theorem WA.s56 {μ μ1 : zM} {p i : Nat} {s l : Nat → Nat} {x y : Int32} (h : WA μ μ1 p s l i) (hx : x = nI (s i)) (hy : y = nI (l i)) : WA μ (z_ui (z_ui μ1 56 i x) 57 i y) p s l (i + 1) := by
  refine ⟨fun j hj => ?_, a_Fz_ui (a_Fz_ui h.2.1 (a_mda_md (by decide +kernel) _)) (a_mda_md (by decide +kernel) _), a_H_ui (a_H_ui h.2.2.1 (bI_top _)) (bI_top _), by rw [z_ui_rd, if_neg (by omega), z_ui_rd, if_neg (by omega)]; exact h.2.2.2⟩
  rw [z_ui_rd, if_neg (by omega), z_ui_rd]
  by_cases e : j = i
  · subst e
    rw [if_pos ⟨rfl, rfl⟩, z_ui_rd, if_pos ⟨rfl, rfl⟩]
    exact ⟨hx, hy⟩
  · rw [if_neg (fun z => e z.2), z_ui_rd, if_neg (fun z => e z.2), z_ui_rd, if_neg (by omega)]
    exact h.1 j (by omega)
noncomputable def WC (μ μ1 : zM) (p : Nat) (s l : Nat → Nat) (i : Nat) : Prop := WA μ μ1 p s l i ∧ bq μ1 = bq μ
theorem WC.s56 {μ μ1 : zM} {p i : Nat} {s l : Nat → Nat} {x y : Int32} (h : WC μ μ1 p s l i) (hx : x = nI (s i)) (hy : y = nI (l i)) : WC μ (z_ui (z_ui μ1 56 i x) 57 i y) p s l (i + 1) := ⟨h.1.s56 hx hy, by rw [bq_ui (by omega), bq_ui (by omega)]; exact h.2⟩
theorem a_H_C {μ μ' : zM} {g p : Int64} {f : Int32} (h : a_H μ) (hz : a_Fz mdC (mGP μ g p f) μ') : a_H μ' := by
  intro r k
  by_cases e : r = 50 ∧ (k = 13 ∨ k = 14 ∨ k = 15 ∨ k = 17 ∨ k = 23 ∨ k = 24 ∨ k = 25)
  · obtain ⟨rfl, rfl | rfl | rfl | rfl | rfl | rfl | rfl⟩ := e <;> exact bI_top _
  · have hm : a_md mdC r k = false := by
      rw [← Bool.not_eq_true]
      intro q
      unfold a_md at q
      rw [List.any_eq_true] at q
      obtain ⟨⟨a, b⟩, h1, h2⟩ := q
      have h3 : (a = 50 ∧ (b = 13 ∨ b = 14 ∨ b = 15 ∨ b = 17 ∨ b = 24 ∨ b = 25)) := by
        have h1' : (a, b) ∈ mdC := h1
        simp only [mdC, List.mem_cons, Prod.mk.injEq, List.not_mem_nil, or_false] at h1'
        omega
      rw [Bool.and_eq_true, Bool.or_eq_true, bq_t, bq_t, bq_t] at h2
      have : a = r := h2.1
      have := h2.2
      omega
    rw [(hz.1 r k hm).1]
    show a_bi _ (bif Nat.beq r 50 && Nat.beq k 23 then f else μ.1 r k)
    cases c : Nat.beq r 50 && Nat.beq k 23
    · exact h r k
    · rw [Bool.and_eq_true, bq_t, bq_t] at c
      exact absurd ⟨c.1, by omega⟩ e
theorem Fz_mGP {md : List (Nat × Nat)} {μ : zM} {g p : Int64} {f : Int32} (h1 : a_md md 50 23 = true) (h2 : a_md md 50 24 = true) (h3 : a_md md 50 25 = true) : a_Fz md μ (mGP μ g p f) := by
  have h : mGP μ g p f = z_ui (z_uj (z_uj μ 50 24 g) 50 25 p) 50 23 f := by
    rw [← mGP_f (f := μ.1 50 23), ← mGP_p (p := μ.2.1 50 25), ← mGP_g (g := μ.2.1 50 24), mGP_rf μ]
  rw [h]
  exact a_Fz_ui (a_Fz_uj (a_Fz_uj (a_Fz_rf _ _) h2) h3) h1
theorem c_dif {a b : Nat} (ha : a < 2 ^ 31) (hb : b < 2 ^ 31) : nI a = nI b ↔ a = b := nI_eq ha hb
theorem s_q : ∀ q, q ≤ 4 → ∀ i, i ≤ 4 → q ≤ i → nI i - nI q = nI (i - q) := by decide +kernel
theorem zh_X7_way : zH mi_X7_way zt_X7_way 79 7 5 := hh_X7_way
theorem wy7 (d' : Nat) (Z : zK) (hd : 5 ≤ d') (μ0 μ : zM) (q p : Nat) (s l : Nat → Nat) (hq : q ≤ 4) (hp : p < 34) (hsl : ∀ j, j < 4 → s j ≤ 3 ∧ l j < 34) (e4 : μ.1 50 4 = nI q) (hc : z_clo z_x0 mi_X7_way (z_C d') Z) (hS : ∀ j, j < q → μ.1 52 j = nI (s j) ∧ μ.1 53 j = nI (l j)) (K : ∀ μ1, WC μ μ1 p s l q → Z 0 45 [(2, .int (nI q)), (0, .ref 50), (1, .int (nI p))] [] μ1) : ∀ n i, i + n = q → 0 ≤ i → ∀ μ1, WC μ μ1 p s l i → Z 0 7 [(2, .int (nI i)), (0, .ref 50), (1, .int (nI p))] [] μ1 := by
  have hH := zh_X7_way
  intro n
  induction n with
  | zero =>
    intro i hi hlo μ1 g
    have hi : q = i := by omega
    subst hi
    have e41 : μ1.1 50 4 = nI q := (a_Fz_at g.1.2.1 50 4 (by decide +kernel)).trans e4
    refine z_rcs hc hH 3 (pc' := 12) (lv' := [(2, .int (nI q)), (0, .ref 50), (1, .int (nI p))]) (st' := [.int (μ1.1 50 4), .int (nI q)]) (μ' := μ1) (by rfl) ?_
    rw [e41]
    show Z 0 12 [(2, .int (nI q)), (0, .ref 50), (1, .int (nI p))] [.int (nI q), .int (nI q)] μ1
    refine zq_ic hc hH (by rfl) (tg := 45) (by rfl) (fun _ => ?_) (fun h9 => (zb_t (ge_nIt (n := q) (i := q) (by omega) (by omega)) h9).elim)
    exact K μ1 g
  | succ n ih =>
    intro i hi hlo μ1 g
    have e41 : μ1.1 50 4 = nI q := (a_Fz_at g.1.2.1 50 4 (by decide +kernel)).trans e4
    have hin : vp_in (nI i) 4 := vp_in_nI (by omega) (by decide)
    have ei : (nI i).toNatClampNeg = i := nI_clamp (by omega)
    have hx := (a_Fz_at g.1.2.1 52 i (a_md_row (by decide +kernel))).trans (hS i (by omega)).1
    have hy := (a_Fz_at g.1.2.1 53 i (a_md_row (by decide +kernel))).trans (hS i (by omega)).2
    refine z_rcs hc hH 3 (pc' := 12) (lv' := [(2, .int (nI i)), (0, .ref 50), (1, .int (nI p))]) (st' := [.int (μ1.1 50 4), .int (nI i)]) (μ' := μ1) (by rfl) ?_
    rw [e41]
    show Z 0 12 [(2, .int (nI i)), (0, .ref 50), (1, .int (nI p))] [.int (nI q), .int (nI i)] μ1
    refine zq_ic hc hH (by rfl) (tg := 45) (by rfl) (fun h9 => (zb_t h9 (ge_nI (n := q) (i := i) (by omega) (by omega))).elim) (fun _ => ?_)
    refine z_rcs hc hH 6 (pc' := 25) (lv' := [(2, .int (nI i)), (0, .ref 50), (1, .int (nI p))]) (st' := [.int (nI i), .ref 52, .int (nI i), .ref 56]) (μ' := μ1) (by rfl) ?_
    refine zq_iald hc hH (by rfl) 8 (by decide +kernel) (vp_in_nI (by omega) (by decide)) ?_
    rw [ei, hx]
    show Z 0 26 [(2, .int (nI i)), (0, .ref 50), (1, .int (nI p))] [.int (nI (s i)), .int (nI i), .ref 56] μ1
    refine zq_iast hc hH (by rfl) 4 (by decide +kernel) (hin) ?_
    rw [ei]
    show Z 0 27 [(2, .int (nI i)), (0, .ref 50), (1, .int (nI p))] [] (z_ui μ1 56 i (nI (s i)))
    refine z_rcs0 hc hH 6 (pc' := 37) (lv' := [(2, .int (nI i)), (0, .ref 50), (1, .int (nI p))]) (st' := [.int (nI i), .ref 53, .int (nI i), .ref 57]) (by rfl) ?_
    refine zq_iald hc hH (by rfl) 8 (by decide +kernel) (vp_in_nI (by omega) (by decide)) ?_
    rw [ei, z_ui_rd, if_neg (by omega), hy]
    show Z 0 38 [(2, .int (nI i)), (0, .ref 50), (1, .int (nI p))] [.int (nI (l i)), .int (nI i), .ref 57] _
    refine zq_iast hc hH (by rfl) 4 (by decide +kernel) (hin) ?_
    rw [ei]
    have g2 : WC μ (z_ui (z_ui μ1 56 i (nI (s i))) 57 i (nI (l i))) p s l (i + 1) := g.s56 rfl rfl
    generalize z_ui (z_ui μ1 56 i (nI (s i))) 57 i (nI (l i)) = μ2 at g2 ⊢
    refine z_rcs hc hH 2 (pc' := 7) (lv' := [(2, .int ((nI i) + 1)), (0, .ref 50), (1, .int (nI p))]) (st' := []) (μ' := μ2) (by rfl) ?_
    rw [nI_1]
    exact ih (i + 1) (by omega) (by omega) μ2 g2
theorem wy50 (d' : Nat) (Z : zK) (hd : 5 ≤ d') (μ0 μ : zM) (q p : Nat) (s l : Nat → Nat) (hq : q ≤ 4) (hp : p < 34) (hsl : ∀ j, j < 4 → s j ≤ 3 ∧ l j < 34) (e4 : μ.1 50 4 = nI q) (hc : z_clo z_x0 mi_X7_way (z_C d') Z) (hS : ∀ j, q ≤ j → j < 4 → μ.1 54 (j - q) = nI (s j) ∧ μ.1 55 (j - q) = nI (l j)) (K : ∀ μ1, WC μ μ1 p s l 4 → Z 0 95 [(2, .int (nI 4)), (0, .ref 50), (1, .int (nI p))] [] μ1) : ∀ n i, i + n = 4 → q ≤ i → ∀ μ1, WC μ μ1 p s l i → Z 0 50 [(2, .int (nI i)), (0, .ref 50), (1, .int (nI p))] [] μ1 := by
  have hH := zh_X7_way
  intro n
  induction n with
  | zero =>
    intro i hi hlo μ1 g
    have hi : i = 4 := by omega
    subst hi
    have e41 : μ1.1 50 4 = nI q := (a_Fz_at g.1.2.1 50 4 (by decide +kernel)).trans e4
    refine z_rcs hc hH 2 (pc' := 52) (lv' := [(2, .int (nI 4)), (0, .ref 50), (1, .int (nI p))]) (st' := [.int 4, .int (nI 4)]) (μ' := μ1) (by rfl) ?_
    refine zq_ic hc hH (by rfl) (tg := 95) (by rfl) (fun _ => ?_) (fun h9 => (zb_t (ge_nIt (n := 4) (i := 4) (by omega) (by omega)) h9).elim)
    exact K μ1 g
  | succ n ih =>
    intro i hi hlo μ1 g
    have e41 : μ1.1 50 4 = nI q := (a_Fz_at g.1.2.1 50 4 (by decide +kernel)).trans e4
    have hin : vp_in (nI i) 4 := vp_in_nI (by omega) (by decide)
    have ei : (nI i).toNatClampNeg = i := nI_clamp (by omega)
    have hin5 : vp_in (nI (i - q)) 5 := vp_in_nI (by omega) (by decide)
    have eiq : (nI (i - q)).toNatClampNeg = i - q := nI_clamp (by omega)
    have hx := (a_Fz_at g.1.2.1 54 (i - q) (a_md_row (by decide +kernel))).trans (hS i (by omega) (by omega)).1
    have hy := (a_Fz_at g.1.2.1 55 (i - q) (a_md_row (by decide +kernel))).trans (hS i (by omega) (by omega)).2
    refine z_rcs hc hH 2 (pc' := 52) (lv' := [(2, .int (nI i)), (0, .ref 50), (1, .int (nI p))]) (st' := [.int 4, .int (nI i)]) (μ' := μ1) (by rfl) ?_
    refine zq_ic hc hH (by rfl) (tg := 95) (by rfl) (fun h9 => (zb_t h9 (ge_nI (n := 4) (i := i) (by omega) (by omega))).elim) (fun _ => ?_)
    refine z_rcs hc hH 8 (pc' := 69) (lv' := [(2, .int (nI i)), (0, .ref 50), (1, .int (nI p))]) (st' := [.int (μ1.1 50 4), .int (nI i), .ref 54, .int (nI i), .ref 56]) (μ' := μ1) (by rfl) ?_
    rw [e41]
    show Z 0 69 [(2, .int (nI i)), (0, .ref 50), (1, .int (nI p))] [.int (nI q), .int (nI i), .ref 54, .int (nI i), .ref 56] μ1
    refine z_rcs hc hH 1 (pc' := 70) (lv' := [(2, .int (nI i)), (0, .ref 50), (1, .int (nI p))]) (st' := [.int ((nI i) - (nI q)), .ref 54, .int (nI i), .ref 56]) (μ' := μ1) (by rfl) ?_
    rw [s_q q hq i (by omega) (by omega)]
    show Z 0 70 [(2, .int (nI i)), (0, .ref 50), (1, .int (nI p))] [.int (nI (i - q)), .ref 54, .int (nI i), .ref 56] μ1
    refine zq_iald hc hH (by rfl) 5 (by decide +kernel) (hin5) ?_
    rw [eiq, hx]
    show Z 0 71 [(2, .int (nI i)), (0, .ref 50), (1, .int (nI p))] [.int (nI (s i)), .int (nI i), .ref 56] μ1
    refine zq_iast hc hH (by rfl) 4 (by decide +kernel) (hin) ?_
    rw [ei]
    show Z 0 72 [(2, .int (nI i)), (0, .ref 50), (1, .int (nI p))] [] (z_ui μ1 56 i (nI (s i)))
    refine z_rcs0 hc hH 8 (pc' := 86) (lv' := [(2, .int (nI i)), (0, .ref 50), (1, .int (nI p))]) (st' := [.int (μ1.1 50 4), .int (nI i), .ref 55, .int (nI i), .ref 57]) (by rfl) ?_
    rw [e41]
    show Z 0 86 [(2, .int (nI i)), (0, .ref 50), (1, .int (nI p))] [.int (nI q), .int (nI i), .ref 55, .int (nI i), .ref 57] _
    refine z_rcs0 hc hH 1 (pc' := 87) (lv' := [(2, .int (nI i)), (0, .ref 50), (1, .int (nI p))]) (st' := [.int ((nI i) - (nI q)), .ref 55, .int (nI i), .ref 57]) (by rfl) ?_
    rw [s_q q hq i (by omega) (by omega)]
    show Z 0 87 [(2, .int (nI i)), (0, .ref 50), (1, .int (nI p))] [.int (nI (i - q)), .ref 55, .int (nI i), .ref 57] _
    refine zq_iald hc hH (by rfl) 5 (by decide +kernel) (hin5) ?_
    rw [eiq, z_ui_rd, if_neg (by omega), hy]
    show Z 0 88 [(2, .int (nI i)), (0, .ref 50), (1, .int (nI p))] [.int (nI (l i)), .int (nI i), .ref 57] _
    refine zq_iast hc hH (by rfl) 4 (by decide +kernel) (hin) ?_
    rw [ei]
    have g2 : WC μ (z_ui (z_ui μ1 56 i (nI (s i))) 57 i (nI (l i))) p s l (i + 1) := g.s56 rfl rfl
    generalize z_ui (z_ui μ1 56 i (nI (s i))) 57 i (nI (l i)) = μ2 at g2 ⊢
    refine z_rcs hc hH 2 (pc' := 50) (lv' := [(2, .int ((nI i) + 1)), (0, .ref 50), (1, .int (nI p))]) (st' := []) (μ' := μ2) (by rfl) ?_
    rw [nI_1]
    exact ih (i + 1) (by omega) (by omega) μ2 g2
theorem wy152 (d' : Nat) (Z : zK) (hd : 5 ≤ d') (μ0 μ : zM) (q p : Nat) (s l : Nat → Nat) (hq : q ≤ 4) (hp : p < 34) (hsl : ∀ j, j < 4 → s j ≤ 3 ∧ l j < 34) (e4 : μ.1 50 4 = nI q) (B : Bool) (hc : z_clo z_x0 mi_X7_way (z_C d') Z) (i : Nat) (hi : i < 4) (hqi : q ≤ i) (μ2 : zM) (g : WA μ μ2 p s l 4) (K : ∀ x4 (b : Bool), b = B → Z 0 211 [(4, .int x4), (3, .int (nB b)), (2, .int (nI i)), (0, .ref 50), (1, .int (nI p))] [] μ2) : ∀ n j, j + n = i → ∀ b : Bool, (b && dfs s l i n j) = B → Z 0 152 [(4, .int (nI j)), (3, .int (nB b)), (2, .int (nI i)), (0, .ref 50), (1, .int (nI p))] [] μ2 := by
  have hH := zh_X7_way
  intro n
  induction n with
  | zero =>
    intro j hj b hb
    have hj : j = i := by omega
    subst hj
    rw [show dfs s l j 0 j = true from rfl, Bool.and_true] at hb
    refine z_rcs hc hH 2 (pc' := 155) (lv' := [(4, .int (nI j)), (3, .int (nB b)), (2, .int (nI j)), (0, .ref 50), (1, .int (nI p))]) (st' := [.int (nI j), .int (nI j)]) (μ' := μ2) (by rfl) ?_
    refine zq_ic hc hH (by rfl) (tg := 211) (by rfl) (fun _ => ?_) (fun h9 => (zb_t (ge_nIt (n := j) (i := j) (by omega) (by omega)) h9).elim)
    exact K _ b hb
  | succ n ih =>
    intro j hj b hb
    cases b with
    | false =>
      rw [Bool.false_and] at hb
      refine z_rcs hc hH 2 (pc' := 155) (lv' := [(4, .int (nI j)), (3, .int (nB false)), (2, .int (nI i)), (0, .ref 50), (1, .int (nI p))]) (st' := [.int (nI i), .int (nI j)]) (μ' := μ2) (by rfl) ?_
      refine zq_ic hc hH (by rfl) (tg := 211) (by rfl) (fun h9 => (zb_t h9 (ge_nI (n := i) (i := j) (by omega) (by omega))).elim) (fun _ => ?_)
      refine z_rcs hc hH 2 (pc' := 160) (lv' := [(4, .int (nI j)), (3, .int (nB false)), (2, .int (nI i)), (0, .ref 50), (1, .int (nI p))]) (st' := [.int 4, .int (nI i)]) (μ' := μ2) (by rfl) ?_
      refine zq_ic hc hH (by rfl) (tg := 211) (by rfl) (fun h9 => (zb_t h9 (ge_nI (n := 4) (i := i) (by omega) (by omega))).elim) (fun _ => ?_)
      refine z_rcs hc hH 1 (pc' := 164) (lv' := [(4, .int (nI j)), (3, .int (nB false)), (2, .int (nI i)), (0, .ref 50), (1, .int (nI p))]) (st' := [.int (nB false)]) (μ' := μ2) (by rfl) ?_
      refine zq_if hc hH (by rfl) (tg := 211) (by rfl) (fun _ => ?_) (fun h9 => (zb_t (cm_eq9.mpr rfl) h9).elim)
      exact K _ false hb
    | true =>
      rw [Bool.true_and, show dfs s l i (n + 1) j = (df1 s l j i && dfs s l i n (j + 1)) from rfl] at hb
      have hin : vp_in (nI i) 4 := vp_in_nI (by omega) (by decide)
      have hjn : vp_in (nI j) 4 := vp_in_nI (by omega) (by decide)
      have ei : (nI i).toNatClampNeg = i := nI_clamp (by omega)
      have ej : (nI j).toNatClampNeg = j := nI_clamp (by omega)
      have bi := hsl i hi
      have bj := hsl j (by omega)
      refine z_rcs hc hH 2 (pc' := 155) (lv' := [(4, .int (nI j)), (3, .int (nB true)), (2, .int (nI i)), (0, .ref 50), (1, .int (nI p))]) (st' := [.int (nI i), .int (nI j)]) (μ' := μ2) (by rfl) ?_
      refine zq_ic hc hH (by rfl) (tg := 211) (by rfl) (fun h9 => (zb_t h9 (ge_nI (n := i) (i := j) (by omega) (by omega))).elim) (fun _ => ?_)
      refine z_rcs hc hH 2 (pc' := 160) (lv' := [(4, .int (nI j)), (3, .int (nB true)), (2, .int (nI i)), (0, .ref 50), (1, .int (nI p))]) (st' := [.int 4, .int (nI i)]) (μ' := μ2) (by rfl) ?_
      refine zq_ic hc hH (by rfl) (tg := 211) (by rfl) (fun h9 => (zb_t h9 (ge_nI (n := 4) (i := i) (by omega) (by omega))).elim) (fun _ => ?_)
      refine z_rcs hc hH 1 (pc' := 164) (lv' := [(4, .int (nI j)), (3, .int (nB true)), (2, .int (nI i)), (0, .ref 50), (1, .int (nI p))]) (st' := [.int (nB true)]) (μ' := μ2) (by rfl) ?_
      refine zq_if hc hH (by rfl) (tg := 211) (by rfl) (fun h9 => (zb_t h9 ((by rfl : z_cmp .eq (nB true) 0 = false))).elim) (fun _ => ?_)
      refine z_rcs hc hH 3 (pc' := 173) (lv' := [(4, .int (nI j)), (3, .int (nB true)), (2, .int (nI i)), (0, .ref 50), (1, .int (nI p))]) (st' := [.int (nI j), .ref 56]) (μ' := μ2) (by rfl) ?_
      refine zq_iald hc hH (by rfl) 4 (by decide +kernel) (hjn) ?_
      rw [ej, (g.1 j (by omega)).1]
      show Z 0 174 [(4, .int (nI j)), (3, .int (nB true)), (2, .int (nI i)), (0, .ref 50), (1, .int (nI p))] [.int (nI (s j))] μ2
      refine z_rcs hc hH 3 (pc' := 179) (lv' := [(4, .int (nI j)), (3, .int (nB true)), (2, .int (nI i)), (0, .ref 50), (1, .int (nI p))]) (st' := [.int (nI i), .ref 56, .int (nI (s j))]) (μ' := μ2) (by rfl) ?_
      refine zq_iald hc hH (by rfl) 4 (by decide +kernel) (hin) ?_
      rw [ei, (g.1 i (by omega)).1]
      show Z 0 180 [(4, .int (nI j)), (3, .int (nB true)), (2, .int (nI i)), (0, .ref 50), (1, .int (nI p))] [.int (nI (s i)), .int (nI (s j))] μ2
      refine zq_ic hc hH (by rfl) (tg := 199) (by rfl) (fun h1 => ?_) (fun h1 => ?_)
      · have h1 := cm_ne.mp h1
        refine z_rcs hc hH 5 (pc' := 152) (lv' := [(4, .int ((nI j) + 1)), (3, .int 1), (2, .int (nI i)), (0, .ref 50), (1, .int (nI p))]) (st' := []) (μ' := μ2) (by rfl) ?_
        rw [nI_1]
        have d1 : df1 s l j i = true := by unfold df1; rw [show decide (s j = s i) = false from decide_eq_false (fun z => h1 (by rw [z]))]; rfl
        rw [d1, Bool.true_and] at hb
        exact ih (j + 1) (by omega) true (by rw [Bool.true_and]; exact hb)
      · have h1 := cn_ne.mp h1
        refine z_rcs hc hH 3 (pc' := 189) (lv' := [(4, .int (nI j)), (3, .int (nB true)), (2, .int (nI i)), (0, .ref 50), (1, .int (nI p))]) (st' := [.int (nI j), .ref 57]) (μ' := μ2) (by rfl) ?_
        refine zq_iald hc hH (by rfl) 4 (by decide +kernel) (hjn) ?_
        rw [ej, (g.1 j (by omega)).2]
        show Z 0 190 [(4, .int (nI j)), (3, .int (nB true)), (2, .int (nI i)), (0, .ref 50), (1, .int (nI p))] [.int (nI (l j))] μ2
        refine z_rcs hc hH 3 (pc' := 195) (lv' := [(4, .int (nI j)), (3, .int (nB true)), (2, .int (nI i)), (0, .ref 50), (1, .int (nI p))]) (st' := [.int (nI i), .ref 57, .int (nI (l j))]) (μ' := μ2) (by rfl) ?_
        refine zq_iald hc hH (by rfl) 4 (by decide +kernel) (hin) ?_
        rw [ei, (g.1 i (by omega)).2]
        show Z 0 196 [(4, .int (nI j)), (3, .int (nB true)), (2, .int (nI i)), (0, .ref 50), (1, .int (nI p))] [.int (nI (l i)), .int (nI (l j))] μ2
        refine zq_ic hc hH (by rfl) (tg := 203) (by rfl) (fun h2 => ?_) (fun h2 => ?_)
        · have h2 := cm_eq9.mp h2
          refine z_rcs hc hH 4 (pc' := 152) (lv' := [(4, .int ((nI j) + 1)), (3, .int 0), (2, .int (nI i)), (0, .ref 50), (1, .int (nI p))]) (st' := []) (μ' := μ2) (by rfl) ?_
          rw [nI_1]
          have d1 : df1 s l j i = false := by
            unfold df1
            rw [decide_eq_true ((nI_eq (show s j < 2 ^ 31 by omega) (show s i < 2 ^ 31 by omega)).mp h1), decide_eq_true ((nI_eq (show l j < 2 ^ 31 by omega) (show l i < 2 ^ 31 by omega)).mp h2)]; rfl
          rw [d1, Bool.false_and] at hb
          exact ih (j + 1) (by omega) false (by rw [Bool.false_and]; exact hb)
        · have h2 := cn_eq.mp h2
          refine z_rcs hc hH 5 (pc' := 152) (lv' := [(4, .int ((nI j) + 1)), (3, .int 1), (2, .int (nI i)), (0, .ref 50), (1, .int (nI p))]) (st' := []) (μ' := μ2) (by rfl) ?_
          rw [nI_1]
          have d1 : df1 s l j i = true := by unfold df1; rw [show decide (l j = l i) = false from decide_eq_false (fun z => h2 (by rw [z])), Bool.and_false]; rfl
          rw [d1, Bool.true_and] at hb
          exact ih (j + 1) (by omega) true (by rw [Bool.true_and]; exact hb)
noncomputable def WB (μ0 μ μ2 : zM) (q p : Nat) (s l : Nat → Nat) (i : Nat) : Prop := WA μ μ2 p s l 4 ∧ BS (fun x => ∃ co, q ≤ co ∧ co < i ∧ OW μ0 q p s l co x) (bq μ) (bq μ2)
theorem AG_way {μ0 μ μ2 : zM} {q p i : Nat} {s l : Nat → Nat} (hF : a_Fz mdR μ0 μ) (g : WA μ μ2 p s l 4) (hi : i ≤ 4) (x : Int32) : AG (z_ui (z_ui μ2 50 22 (nI i)) 50 16 x) (yM μ0 s l (nI p) (nI i)) := by
  have r : ∀ a b, ¬ a = 50 → (z_ui (z_ui μ2 50 22 (nI i)) 50 16 x).1 a b = μ2.1 a b := fun a b h => by rw [z_ui_rd, if_neg (by omega), z_ui_rd, if_neg (by omega)]
  have r5 : ∀ b, ¬ b = 22 → ¬ b = 16 → (z_ui (z_ui μ2 50 22 (nI i)) 50 16 x).1 50 b = μ2.1 50 b := fun b h h2 => by rw [z_ui_rd, if_neg (by omega), z_ui_rd, if_neg (by omega)]
  have F : a_Fz mdR μ0 μ2 := a_Fz_tr (by decide +kernel) hF g.2.1
  have row : ∀ a, (mdR.all (fun q => !Nat.beq q.1 a)) = true → ¬ a = 50 → ¬ a = 56 → ¬ a = 57 → (z_ui (z_ui μ2 50 22 (nI i)) 50 16 x).1 a = (yM μ0 s l (nI p) (nI i)).1 a := fun a h h1 h2 h3 => funext fun b => by
    rw [r a b h1, a_Fz_at F a b (a_md_row h)]
    show _ = if a = 56 then nI (s b) else if a = 57 then nI (l b) else if a = 50 ∧ b = 21 then nI p else if a = 50 ∧ b = 22 then nI i else μ0.1 a b
    rw [if_neg h2, if_neg h3, if_neg (fun z => h1 z.1), if_neg (fun z => h1 z.1)]
  have y5 : ∀ b, ¬ b = 21 → ¬ b = 22 → ¬ b = 16 → a_md mdR 50 b = false → (z_ui (z_ui μ2 50 22 (nI i)) 50 16 x).1 50 b = (yM μ0 s l (nI p) (nI i)).1 50 b := fun b h1 h2 h3 h4 => by
    rw [r5 b h2 h3, a_Fz_at F 50 b h4]
    show _ = if 50 = 56 then nI (s b) else if 50 = 57 then nI (l b) else if 50 = 50 ∧ b = 21 then nI p else if 50 = 50 ∧ b = 22 then nI i else μ0.1 50 b
    rw [if_neg (by omega), if_neg (by omega), if_neg (fun z => h1 z.2), if_neg (fun z => h2 z.2)]
  have a56 : ∀ b, b < 4 → (z_ui (z_ui μ2 50 22 (nI i)) 50 16 x).1 56 b = nI (s b) := fun b h => by rw [r 56 b (by omega)]; exact (g.1 b h).1
  have a57 : ∀ b, b < 4 → (z_ui (z_ui μ2 50 22 (nI i)) 50 16 x).1 57 b = nI (l b) := fun b h => by rw [r 57 b (by omega)]; exact (g.1 b h).2
  exact ⟨a56 0 (by omega), a57 0 (by omega), a56 1 (by omega), a57 1 (by omega), a56 2 (by omega), a57 2 (by omega), a56 3 (by omega), a57 3 (by omega), y5 4 (by omega) (by omega) (by omega) (by decide), y5 7 (by omega) (by omega) (by omega) (by decide), y5 8 (by omega) (by omega) (by omega) (by decide), y5 9 (by omega) (by omega) (by omega) (by decide), y5 10 (by omega) (by omega) (by omega) (by decide), y5 11 (by omega) (by omega) (by omega) (by decide), (by rw [r5 21 (by omega) (by omega)]; exact g.2.2.2), (by rw [z_ui_rd, if_neg (by omega), z_ui_rd, if_pos ⟨rfl, rfl⟩]; rfl), row 52 (by decide) (by omega) (by omega) (by omega), row 53 (by decide) (by omega) (by omega) (by omega), row 58 (by decide) (by omega) (by omega) (by omega), (F.1 50 12 (by decide)).2, vp_in_nI (show i < 5 by omega) (by decide)⟩
theorem wy211 (d' : Nat) (Z : zK) (hd : 5 ≤ d') (μ0 μ : zM) (q p : Nat) (s l : Nat → Nat) (hq : q ≤ 4) (hp : p < 34) (hsl : ∀ j, j < 4 → s j ≤ 3 ∧ l j < 34) (e4 : μ.1 50 4 = nI q) (hc : z_clo z_x0 mi_X7_way (z_C d') Z) (hF : a_Fz mdR μ0 μ) (i : Nat) (hi : i ≤ 4) (hqi : q ≤ i) (μ2 : zM) (g : WB μ0 μ μ2 q p s l i) (K : ∀ μ3 x3 x4, WB μ0 μ μ3 q p s l (i + 1) → Z 0 100 [(2, .int (nI (i + 1))), (4, .int x4), (3, .int x3), (0, .ref 50), (1, .int (nI p))] [] μ3) : ∀ x4 (b : Bool), b = mc (μ.1 50 7) q p s l i → Z 0 211 [(4, .int x4), (3, .int (nB b)), (2, .int (nI i)), (0, .ref 50), (1, .int (nI p))] [] μ2 := by
  have hH := zh_X7_way
  intro x4 b hb
  have e42 : μ2.1 50 4 = nI q := (a_Fz_at g.1.2.1 50 4 (by decide +kernel)).trans e4
  have e7 : μ0.1 50 7 = μ.1 50 7 := (a_Fz_at hF 50 7 (by decide +kernel)).symm
  refine z_rcs hc hH 1 (pc' := 212) (lv' := [(4, .int x4), (3, .int (nB b)), (2, .int (nI i)), (0, .ref 50), (1, .int (nI p))]) (st' := [.int (nB b)]) (μ' := μ2) (by rfl) ?_
  refine zq_if hc hH (by rfl) (tg := 218) (by rfl) (fun h1 => ?_) (fun h1 => ?_)
  · have h1 := cm_ne.mp h1
    refine z_rcs hc hH 10 (pc' := 234) (lv' := [(4, .int x4), (3, .int (nB b)), (2, .int (nI i)), (0, .ref 50), (1, .int (nI p))]) (st' := [.ref 50]) (μ' := z_ui (z_ui μ2 50 22 (nI i)) 50 16 ((μ2.1 50 16) + 1)) (by rfl) ?_
    have hbt : mc (μ0.1 50 7) q p s l i = true := by rw [e7, ← hb]; exact nB_n.mp h1
    have ag := AG_way (q := q) hF g.1 hi (μ2.1 50 16 + 1)
    have F3 : a_Fz mdY μ (z_ui (z_ui μ2 50 22 (nI i)) 50 16 ((μ2.1 50 16) + 1)) := a_Fz_ui (a_Fz_ui g.1.2.1 (by decide +kernel)) (by decide +kernel)
    have H3 : a_H (z_ui (z_ui μ2 50 22 (nI i)) 50 16 ((μ2.1 50 16) + 1)) := a_H_ui (a_H_ui g.1.2.2.1 (show bI 0 4 _ from bd_nI (by omega) ⟨by omega, by omega⟩)) (bI_top _)
    have A3 : ∀ j, j < 4 → (z_ui (z_ui μ2 50 22 (nI i)) 50 16 ((μ2.1 50 16) + 1)).1 56 j = nI (s j) ∧ (z_ui (z_ui μ2 50 22 (nI i)) 50 16 ((μ2.1 50 16) + 1)).1 57 j = nI (l j) := fun j hj => by rw [z_ui_rd, if_neg (by omega), z_ui_rd, if_neg (by omega), z_ui_rd, if_neg (by omega), z_ui_rd, if_neg (by omega)]; exact g.1.1 j hj
    have B3 : bq (z_ui (z_ui μ2 50 22 (nI i)) 50 16 ((μ2.1 50 16) + 1)) = bq μ2 := by
      unfold bq
      rw [z_ui_rd, if_neg (by omega), z_ui_rd, if_neg (by omega), z_ui_rd, if_neg (by omega), z_ui_rd, if_neg (by omega), z_ui_rd, if_neg (by omega), z_ui_rd, if_neg (by omega)]
      rfl
    have p3 : (z_ui (z_ui μ2 50 22 (nI i)) 50 16 ((μ2.1 50 16) + 1)).1 50 21 = nI p := by rw [z_ui_rd, if_neg (by omega), z_ui_rd, if_neg (by omega)]; exact g.1.2.2.2
    have c3 : vp_in ((z_ui (z_ui μ2 50 22 (nI i)) 50 16 ((μ2.1 50 16) + 1)).1 50 22) 5 := by rw [z_ui_rd, if_neg (by omega), z_ui_rd, if_pos ⟨rfl, rfl⟩]; exact vp_in_nI (by omega) (by decide)
    generalize z_ui (z_ui μ2 50 22 (nI i)) 50 16 ((μ2.1 50 16) + 1) = μ3 at ag F3 H3 A3 B3 p3 c3 ⊢
    refine zq_call hc (z_cx_ok hH (by rfl)) (fb_X7_firstSort d' (by omega) μ3 q hq ((a_Fz_at F3 50 4 (by decide +kernel)).trans e4) s l (fun j hj => ⟨(A3 j hj).1, (hsl j hj).1, (A3 j hj).2, (hsl j hj).2⟩) c3) (by decide +kernel) (fun r4 μ4 hq4 => ?_)
    obtain ⟨rfl, hC⟩ := hq4
    have F34 : a_Fz mdY μ3 μ4 := a_Fz_tr (by decide +kernel) (Fz_mGP (by decide +kernel) (by decide +kernel) (by decide +kernel)) hC.1
    have g4 : WB μ0 μ μ4 q p s l (i + 1) := by
      refine ⟨⟨fun j hj => ?_, a_Fz_tr (by decide +kernel) F3 F34, a_H_C H3 hC.1, ?_⟩, ?_⟩
      · rw [(hC.1.1 56 j (a_md_row (by decide +kernel))).1, (hC.1.1 57 j (a_md_row (by decide +kernel))).1]; exact A3 j hj
      · rw [(hC.1.1 50 21 (by decide)).1]; exact p3
      · have h2 : BS _ (bq μ2) (bq μ4) := B3 ▸ hC.2
        refine (g.2.tr h2).iff (fun x => ⟨?_, ?_⟩)
        · rintro (⟨co, c1, c2, c3⟩ | ⟨c1, c2⟩)
          · exact ⟨co, c1, by omega, c3⟩
          · exact ⟨i, hqi, by omega, hbt, c1.trans (ag_vRf ag q s l), c2⟩
        · rintro ⟨co, c1, c2, c3⟩
          by_cases e : co = i
          · subst e; exact Or.inr ⟨c3.2.1.trans (ag_vRf ag q s l).symm, c3.2.2⟩
          · exact Or.inl ⟨co, c1, by omega, c3⟩
    show Z 0 237 [(4, .int x4), (3, .int (nB b)), (2, .int (nI i)), (0, .ref 50), (1, .int (nI p))] [] μ4
    refine z_rcs hc hH 2 (pc' := 100) (lv' := [(2, .int ((nI i) + 1)), (4, .int x4), (3, .int (nB b)), (0, .ref 50), (1, .int (nI p))]) (st' := []) (μ' := μ4) (by rfl) ?_
    rw [nI_1]
    exact K μ4 _ _ g4
  · have h1 := cn_ne.mp h1
    refine z_rcs hc hH 3 (pc' := 100) (lv' := [(2, .int ((nI i) + 1)), (4, .int x4), (3, .int (nB b)), (0, .ref 50), (1, .int (nI p))]) (st' := []) (μ' := μ2) (by rfl) ?_
    rw [nI_1]
    refine K μ2 _ _ ⟨g.1, g.2.iff (fun x => ⟨fun ⟨co, c1, c2, c3⟩ => ⟨co, c1, by omega, c3⟩, fun ⟨co, c1, c2, c3⟩ => ⟨co, c1, if e : co = i then ?_ else (by omega), c3⟩⟩)⟩
    subst e
    exfalso
    have := c3.1
    rw [e7, ← hb] at this
    exact nB_n.mpr this h1
theorem wy100 (d' : Nat) (Z : zK) (hd : 5 ≤ d') (μ0 μ : zM) (q p : Nat) (s l : Nat → Nat) (hq : q ≤ 4) (hp : p < 34) (hsl : ∀ j, j < 4 → s j ≤ 3 ∧ l j < 34) (e4 : μ.1 50 4 = nI q) (hc : z_clo z_x0 mi_X7_way (z_C d') Z) (hF : a_Fz mdR μ0 μ) (hr : z_ret mi_X7_way (fun r μ' => r = none ∧ WB μ0 μ μ' q p s l 5) Z) : ∀ n i, i + n = 5 → q ≤ i → ∀ μ2, WB μ0 μ μ2 q p s l i → (Z 0 100 [(2, .int (nI i)), (0, .ref 50), (1, .int (nI p))] [] μ2 ∧ ∀ x3 x4, Z 0 100 [(2, .int (nI i)), (4, .int x4), (3, .int x3), (0, .ref 50), (1, .int (nI p))] [] μ2) := by
  have hH := zh_X7_way
  intro n
  induction n with
  | zero =>
    intro i hi hqi μ2 g
    have hi : i = 5 := by omega
    subst hi
    refine ⟨?_, fun x3 x4 => ?_⟩
    · skip
      refine z_rcs hc hH 2 (pc' := 102) (lv' := [(2, .int (nI 5)), (0, .ref 50), (1, .int (nI p))]) (st' := [.int 5, .int (nI 5)]) (μ' := μ2) (by rfl) ?_
      refine zq_ic hc hH (by rfl) (tg := 243) (by rfl) (fun _ => ?_) (fun h9 => (zb_t (ge_nIt (n := 5) (i := 5) (by decide) (by decide)) h9).elim)
      exact hr 0 243 _ _ _ none (by decide +kernel) (by rfl) (⟨rfl, g⟩)
    · skip
      refine z_rcs hc hH 2 (pc' := 102) (lv' := [(2, .int (nI 5)), (4, .int x4), (3, .int x3), (0, .ref 50), (1, .int (nI p))]) (st' := [.int 5, .int (nI 5)]) (μ' := μ2) (by rfl) ?_
      refine zq_ic hc hH (by rfl) (tg := 243) (by rfl) (fun _ => ?_) (fun h9 => (zb_t (ge_nIt (n := 5) (i := 5) (by decide) (by decide)) h9).elim)
      exact hr 0 243 _ _ _ none (by decide +kernel) (by rfl) (⟨rfl, g⟩)
  | succ n ih =>
    intro i hi hqi μ2 g
    have e42 : μ2.1 50 4 = nI q := (a_Fz_at g.1.2.1 50 4 (by decide +kernel)).trans e4
    have e72 : μ2.1 50 7 = μ.1 50 7 := a_Fz_at g.1.2.1 50 7 (by decide +kernel)
    have K := wy211 d' Z hd μ0 μ q p s l hq hp hsl e4 hc hF i (by omega) hqi μ2 g (fun μ3 x3 x4 h => (ih (i + 1) (by omega) (by omega) μ3 h).2 x3 x4)
    have K4 : i < 4 → Z 0 152 [(4, .int (nI q)), (3, .int (nB (xHas (nI (s i)) (nI (l i)) (μ.1 50 7)))), (2, .int (nI i)), (0, .ref 50), (1, .int (nI p))] [] μ2 := fun h4 => wy152 d' Z hd μ0 μ q p s l hq hp hsl e4 (mc (μ.1 50 7) q p s l i) hc i h4 hqi μ2 g.1 K (i - q) q (by omega) _ (by unfold mc; rw [show Nat.blt i 4 = true from Nat.blt_eq.mpr h4]; rfl)
    refine ⟨?_, fun x3 x4 => ?_⟩
    · by_cases h4 : i < 4
      · have hin : vp_in (nI i) 4 := vp_in_nI (by omega) (by decide)
        have ei : (nI i).toNatClampNeg = i := nI_clamp (by omega)
        refine z_rcs hc hH 2 (pc' := 102) (lv' := [(2, .int (nI i)), (0, .ref 50), (1, .int (nI p))]) (st' := [.int 5, .int (nI i)]) (μ' := μ2) (by rfl) ?_
        refine zq_ic hc hH (by rfl) (tg := 243) (by rfl) (fun h9 => (zb_t h9 (ge_nI (n := 5) (i := i) (by omega) (by decide))).elim) (fun _ => ?_)
        refine z_rcs hc hH 2 (pc' := 107) (lv' := [(2, .int (nI i)), (0, .ref 50), (1, .int (nI p))]) (st' := [.int 4, .int (nI i)]) (μ' := μ2) (by rfl) ?_
        refine zq_ic hc hH (by rfl) (tg := 132) (by rfl) (fun h9 => (zb_t h9 (ge_nI (n := 4) (i := i) (by omega) (by decide))).elim) (fun _ => ?_)
        refine z_rcs hc hH 3 (pc' := 115) (lv' := [(2, .int (nI i)), (0, .ref 50), (1, .int (nI p))]) (st' := [.int (nI i), .ref 56]) (μ' := μ2) (by rfl) ?_
        refine zq_iald hc hH (by rfl) 4 (by decide +kernel) (hin) ?_
        rw [ei, (g.1.1 i h4).1]
        show Z 0 116 [(2, .int (nI i)), (0, .ref 50), (1, .int (nI p))] [.int (nI (s i))] μ2
        refine z_rcs hc hH 3 (pc' := 121) (lv' := [(2, .int (nI i)), (0, .ref 50), (1, .int (nI p))]) (st' := [.int (nI i), .ref 57, .int (nI (s i))]) (μ' := μ2) (by rfl) ?_
        refine zq_iald hc hH (by rfl) 4 (by decide +kernel) (hin) ?_
        rw [ei, (g.1.1 i h4).2]
        show Z 0 122 [(2, .int (nI i)), (0, .ref 50), (1, .int (nI p))] [.int (nI (l i)), .int (nI (s i))] μ2
        refine z_rcs hc hH 2 (pc' := 126) (lv' := [(2, .int (nI i)), (0, .ref 50), (1, .int (nI p))]) (st' := [.int (μ2.1 50 7), .int (nI (l i)), .int (nI (s i))]) (μ' := μ2) (by rfl) ?_
        rw [e72]
        show Z 0 126 [(2, .int (nI i)), (0, .ref 50), (1, .int (nI p))] [.int (μ.1 50 7), .int (nI (l i)), .int (nI (s i))] μ2
        refine zq_call hc (z_cx_ok hH (by rfl)) (fb_X7_has d' (by omega) μ2 (nI (s i)) (nI (l i)) (μ.1 50 7)) (by decide +kernel) (fun r9 μ9 hq => ?_)
        obtain ⟨hμ9, rfl⟩ := hq
        rw [hμ9]
        clear hμ9 μ9
        show Z 0 129 [(2, .int (nI i)), (0, .ref 50), (1, .int (nI p))] [.int (nB (xHas (nI (s i)) (nI (l i)) (μ.1 50 7)))] μ2
        refine z_rcs hc hH 5 (pc' := 152) (lv' := [(4, .int (μ2.1 50 4)), (3, .int (nB (xHas (nI (s i)) (nI (l i)) (μ.1 50 7)))), (2, .int (nI i)), (0, .ref 50), (1, .int (nI p))]) (st' := []) (μ' := μ2) (by rfl) ?_
        rw [e42]
        exact K4 h4
      · have h5 : i = 4 := by omega
        subst h5
        refine z_rcs hc hH 2 (pc' := 102) (lv' := [(2, .int (nI 4)), (0, .ref 50), (1, .int (nI p))]) (st' := [.int 5, .int (nI 4)]) (μ' := μ2) (by rfl) ?_
        refine zq_ic hc hH (by rfl) (tg := 243) (by rfl) (fun h9 => (zb_t h9 (ge_nI (n := 5) (i := 4) (by omega) (by decide))).elim) (fun _ => ?_)
        refine z_rcs hc hH 2 (pc' := 107) (lv' := [(2, .int (nI 4)), (0, .ref 50), (1, .int (nI p))]) (st' := [.int 4, .int (nI 4)]) (μ' := μ2) (by rfl) ?_
        refine zq_ic hc hH (by rfl) (tg := 132) (by rfl) (fun _ => ?_) (fun h9 => (zb_t (ge_nIt (n := 4) (i := 4) (by omega) (by decide)) h9).elim)
        refine z_rcs hc hH 3 (pc' := 137) (lv' := [(2, .int (nI 4)), (0, .ref 50), (1, .int (nI p))]) (st' := [.int (μ2.1 50 7), .int (nI p)]) (μ' := μ2) (by rfl) ?_
        rw [e72]
        show Z 0 137 [(2, .int (nI 4)), (0, .ref 50), (1, .int (nI p))] [.int (μ.1 50 7), .int (nI p)] μ2
        refine zq_ic hc hH (by rfl) (tg := 144) (by rfl) (fun h1 => ?_) (fun h1 => ?_)
        · have h1 := cm_ne.mp h1
          refine z_rcs hc hH 5 (pc' := 152) (lv' := [(4, .int (μ2.1 50 4)), (3, .int 0), (2, .int (nI 4)), (0, .ref 50), (1, .int (nI p))]) (st' := []) (μ' := μ2) (by rfl) ?_
          rw [e42]
          refine z_rcs hc hH 2 (pc' := 155) (lv' := [(4, .int (nI q)), (3, .int 0), (2, .int (nI 4)), (0, .ref 50), (1, .int (nI p))]) (st' := [.int (nI 4), .int (nI q)]) (μ' := μ2) (by rfl) ?_
          by_cases h9 : q < 4
          · skip
            refine zq_ic hc hH (by rfl) (tg := 211) (by rfl) (fun h9 => (zb_t h9 (ge_nI (n := 4) (i := q) (by omega) (by omega))).elim) (fun _ => ?_)
            refine z_rcs hc hH 2 (pc' := 160) (lv' := [(4, .int (nI q)), (3, .int 0), (2, .int (nI 4)), (0, .ref 50), (1, .int (nI p))]) (st' := [.int 4, .int (nI 4)]) (μ' := μ2) (by rfl) ?_
            refine zq_ic hc hH (by rfl) (tg := 211) (by rfl) (fun _ => ?_) (fun h9 => (zb_t (ge_nIt (n := 4) (i := 4) (by omega) (by omega)) h9).elim)
            exact K (nI q) false (by unfold mc; rw [show Nat.blt 4 4 = false from rfl]; exact (decide_eq_false h1).symm)
          · skip
            refine zq_ic hc hH (by rfl) (tg := 211) (by rfl) (fun _ => ?_) (fun h9 => (zb_t (ge_nIt (n := 4) (i := q) (by omega) (by omega)) h9).elim)
            exact K (nI q) false (by unfold mc; rw [show Nat.blt 4 4 = false from rfl]; exact (decide_eq_false h1).symm)
        · have h1 := cn_ne.mp h1
          refine z_rcs hc hH 6 (pc' := 152) (lv' := [(4, .int (μ2.1 50 4)), (3, .int 1), (2, .int (nI 4)), (0, .ref 50), (1, .int (nI p))]) (st' := []) (μ' := μ2) (by rfl) ?_
          rw [e42]
          refine z_rcs hc hH 2 (pc' := 155) (lv' := [(4, .int (nI q)), (3, .int 1), (2, .int (nI 4)), (0, .ref 50), (1, .int (nI p))]) (st' := [.int (nI 4), .int (nI q)]) (μ' := μ2) (by rfl) ?_
          by_cases h9 : q < 4
          · skip
            refine zq_ic hc hH (by rfl) (tg := 211) (by rfl) (fun h9 => (zb_t h9 (ge_nI (n := 4) (i := q) (by omega) (by omega))).elim) (fun _ => ?_)
            refine z_rcs hc hH 2 (pc' := 160) (lv' := [(4, .int (nI q)), (3, .int 1), (2, .int (nI 4)), (0, .ref 50), (1, .int (nI p))]) (st' := [.int 4, .int (nI 4)]) (μ' := μ2) (by rfl) ?_
            refine zq_ic hc hH (by rfl) (tg := 211) (by rfl) (fun _ => ?_) (fun h9 => (zb_t (ge_nIt (n := 4) (i := 4) (by omega) (by omega)) h9).elim)
            exact K (nI q) true (by unfold mc; rw [show Nat.blt 4 4 = false from rfl]; exact (decide_eq_true h1).symm)
          · skip
            refine zq_ic hc hH (by rfl) (tg := 211) (by rfl) (fun _ => ?_) (fun h9 => (zb_t (ge_nIt (n := 4) (i := q) (by omega) (by omega)) h9).elim)
            exact K (nI q) true (by unfold mc; rw [show Nat.blt 4 4 = false from rfl]; exact (decide_eq_true h1).symm)
    · by_cases h4 : i < 4
      · have hin : vp_in (nI i) 4 := vp_in_nI (by omega) (by decide)
        have ei : (nI i).toNatClampNeg = i := nI_clamp (by omega)
        refine z_rcs hc hH 2 (pc' := 102) (lv' := [(2, .int (nI i)), (4, .int x4), (3, .int x3), (0, .ref 50), (1, .int (nI p))]) (st' := [.int 5, .int (nI i)]) (μ' := μ2) (by rfl) ?_
        refine zq_ic hc hH (by rfl) (tg := 243) (by rfl) (fun h9 => (zb_t h9 (ge_nI (n := 5) (i := i) (by omega) (by decide))).elim) (fun _ => ?_)
        refine z_rcs hc hH 2 (pc' := 107) (lv' := [(2, .int (nI i)), (4, .int x4), (3, .int x3), (0, .ref 50), (1, .int (nI p))]) (st' := [.int 4, .int (nI i)]) (μ' := μ2) (by rfl) ?_
        refine zq_ic hc hH (by rfl) (tg := 132) (by rfl) (fun h9 => (zb_t h9 (ge_nI (n := 4) (i := i) (by omega) (by decide))).elim) (fun _ => ?_)
        refine z_rcs hc hH 3 (pc' := 115) (lv' := [(2, .int (nI i)), (4, .int x4), (3, .int x3), (0, .ref 50), (1, .int (nI p))]) (st' := [.int (nI i), .ref 56]) (μ' := μ2) (by rfl) ?_
        refine zq_iald hc hH (by rfl) 4 (by decide +kernel) (hin) ?_
        rw [ei, (g.1.1 i h4).1]
        show Z 0 116 [(2, .int (nI i)), (4, .int x4), (3, .int x3), (0, .ref 50), (1, .int (nI p))] [.int (nI (s i))] μ2
        refine z_rcs hc hH 3 (pc' := 121) (lv' := [(2, .int (nI i)), (4, .int x4), (3, .int x3), (0, .ref 50), (1, .int (nI p))]) (st' := [.int (nI i), .ref 57, .int (nI (s i))]) (μ' := μ2) (by rfl) ?_
        refine zq_iald hc hH (by rfl) 4 (by decide +kernel) (hin) ?_
        rw [ei, (g.1.1 i h4).2]
        show Z 0 122 [(2, .int (nI i)), (4, .int x4), (3, .int x3), (0, .ref 50), (1, .int (nI p))] [.int (nI (l i)), .int (nI (s i))] μ2
        refine z_rcs hc hH 2 (pc' := 126) (lv' := [(2, .int (nI i)), (4, .int x4), (3, .int x3), (0, .ref 50), (1, .int (nI p))]) (st' := [.int (μ2.1 50 7), .int (nI (l i)), .int (nI (s i))]) (μ' := μ2) (by rfl) ?_
        rw [e72]
        show Z 0 126 [(2, .int (nI i)), (4, .int x4), (3, .int x3), (0, .ref 50), (1, .int (nI p))] [.int (μ.1 50 7), .int (nI (l i)), .int (nI (s i))] μ2
        refine zq_call hc (z_cx_ok hH (by rfl)) (fb_X7_has d' (by omega) μ2 (nI (s i)) (nI (l i)) (μ.1 50 7)) (by decide +kernel) (fun r9 μ9 hq => ?_)
        obtain ⟨hμ9, rfl⟩ := hq
        rw [hμ9]
        clear hμ9 μ9
        show Z 0 129 [(2, .int (nI i)), (4, .int x4), (3, .int x3), (0, .ref 50), (1, .int (nI p))] [.int (nB (xHas (nI (s i)) (nI (l i)) (μ.1 50 7)))] μ2
        refine z_rcs hc hH 5 (pc' := 152) (lv' := [(4, .int (μ2.1 50 4)), (3, .int (nB (xHas (nI (s i)) (nI (l i)) (μ.1 50 7)))), (2, .int (nI i)), (0, .ref 50), (1, .int (nI p))]) (st' := []) (μ' := μ2) (by rfl) ?_
        rw [e42]
        exact K4 h4
      · have h5 : i = 4 := by omega
        subst h5
        refine z_rcs hc hH 2 (pc' := 102) (lv' := [(2, .int (nI 4)), (4, .int x4), (3, .int x3), (0, .ref 50), (1, .int (nI p))]) (st' := [.int 5, .int (nI 4)]) (μ' := μ2) (by rfl) ?_
        refine zq_ic hc hH (by rfl) (tg := 243) (by rfl) (fun h9 => (zb_t h9 (ge_nI (n := 5) (i := 4) (by omega) (by decide))).elim) (fun _ => ?_)
        refine z_rcs hc hH 2 (pc' := 107) (lv' := [(2, .int (nI 4)), (4, .int x4), (3, .int x3), (0, .ref 50), (1, .int (nI p))]) (st' := [.int 4, .int (nI 4)]) (μ' := μ2) (by rfl) ?_
        refine zq_ic hc hH (by rfl) (tg := 132) (by rfl) (fun _ => ?_) (fun h9 => (zb_t (ge_nIt (n := 4) (i := 4) (by omega) (by decide)) h9).elim)
        refine z_rcs hc hH 3 (pc' := 137) (lv' := [(2, .int (nI 4)), (4, .int x4), (3, .int x3), (0, .ref 50), (1, .int (nI p))]) (st' := [.int (μ2.1 50 7), .int (nI p)]) (μ' := μ2) (by rfl) ?_
        rw [e72]
        show Z 0 137 [(2, .int (nI 4)), (4, .int x4), (3, .int x3), (0, .ref 50), (1, .int (nI p))] [.int (μ.1 50 7), .int (nI p)] μ2
        refine zq_ic hc hH (by rfl) (tg := 144) (by rfl) (fun h1 => ?_) (fun h1 => ?_)
        · have h1 := cm_ne.mp h1
          refine z_rcs hc hH 5 (pc' := 152) (lv' := [(4, .int (μ2.1 50 4)), (3, .int 0), (2, .int (nI 4)), (0, .ref 50), (1, .int (nI p))]) (st' := []) (μ' := μ2) (by rfl) ?_
          rw [e42]
          refine z_rcs hc hH 2 (pc' := 155) (lv' := [(4, .int (nI q)), (3, .int 0), (2, .int (nI 4)), (0, .ref 50), (1, .int (nI p))]) (st' := [.int (nI 4), .int (nI q)]) (μ' := μ2) (by rfl) ?_
          by_cases h9 : q < 4
          · skip
            refine zq_ic hc hH (by rfl) (tg := 211) (by rfl) (fun h9 => (zb_t h9 (ge_nI (n := 4) (i := q) (by omega) (by omega))).elim) (fun _ => ?_)
            refine z_rcs hc hH 2 (pc' := 160) (lv' := [(4, .int (nI q)), (3, .int 0), (2, .int (nI 4)), (0, .ref 50), (1, .int (nI p))]) (st' := [.int 4, .int (nI 4)]) (μ' := μ2) (by rfl) ?_
            refine zq_ic hc hH (by rfl) (tg := 211) (by rfl) (fun _ => ?_) (fun h9 => (zb_t (ge_nIt (n := 4) (i := 4) (by omega) (by omega)) h9).elim)
            exact K (nI q) false (by unfold mc; rw [show Nat.blt 4 4 = false from rfl]; exact (decide_eq_false h1).symm)
          · skip
            refine zq_ic hc hH (by rfl) (tg := 211) (by rfl) (fun _ => ?_) (fun h9 => (zb_t (ge_nIt (n := 4) (i := q) (by omega) (by omega)) h9).elim)
            exact K (nI q) false (by unfold mc; rw [show Nat.blt 4 4 = false from rfl]; exact (decide_eq_false h1).symm)
        · have h1 := cn_ne.mp h1
          refine z_rcs hc hH 6 (pc' := 152) (lv' := [(4, .int (μ2.1 50 4)), (3, .int 1), (2, .int (nI 4)), (0, .ref 50), (1, .int (nI p))]) (st' := []) (μ' := μ2) (by rfl) ?_
          rw [e42]
          refine z_rcs hc hH 2 (pc' := 155) (lv' := [(4, .int (nI q)), (3, .int 1), (2, .int (nI 4)), (0, .ref 50), (1, .int (nI p))]) (st' := [.int (nI 4), .int (nI q)]) (μ' := μ2) (by rfl) ?_
          by_cases h9 : q < 4
          · skip
            refine zq_ic hc hH (by rfl) (tg := 211) (by rfl) (fun h9 => (zb_t h9 (ge_nI (n := 4) (i := q) (by omega) (by omega))).elim) (fun _ => ?_)
            refine z_rcs hc hH 2 (pc' := 160) (lv' := [(4, .int (nI q)), (3, .int 1), (2, .int (nI 4)), (0, .ref 50), (1, .int (nI p))]) (st' := [.int 4, .int (nI 4)]) (μ' := μ2) (by rfl) ?_
            refine zq_ic hc hH (by rfl) (tg := 211) (by rfl) (fun _ => ?_) (fun h9 => (zb_t (ge_nIt (n := 4) (i := 4) (by omega) (by omega)) h9).elim)
            exact K (nI q) true (by unfold mc; rw [show Nat.blt 4 4 = false from rfl]; exact (decide_eq_true h1).symm)
          · skip
            refine zq_ic hc hH (by rfl) (tg := 211) (by rfl) (fun _ => ?_) (fun h9 => (zb_t (ge_nIt (n := 4) (i := q) (by omega) (by omega)) h9).elim)
            exact K (nI q) true (by unfold mc; rw [show Nat.blt 4 4 = false from rfl]; exact (decide_eq_true h1).symm)
theorem way_HW (μ0 : zM) (q p : Nat) (sL lL : Nat → Nat) (hq : q ≤ 4) (hp : p < 34) (e0 : μ0.1 50 4 = nI q) (hL : ∀ j, j < q → μ0.1 52 j = nI (sL j) ∧ sL j ≤ 3 ∧ μ0.1 53 j = nI (lL j) ∧ lL j < 34) : HW 6 μ0 q p (OV μ0 q p sL lL) := by
  intro d μ sl hd hH0 hF hlen hPX hPV
  have e4 : μ.1 50 4 = nI q := (a_Fz_at hF 50 4 (by decide +kernel)).trans e0
  have hS1 : ∀ j, j < q → μ.1 52 j = nI (sA q sL sl j) ∧ μ.1 53 j = nI (lA q lL sl j) := fun j hj => by
    unfold sA lA
    rw [if_pos hj, if_pos hj, a_Fz_at hF 52 j (a_md_row (by decide +kernel)), a_Fz_at hF 53 j (a_md_row (by decide +kernel))]
    exact ⟨(hL j hj).1, (hL j hj).2.2.1⟩
  have hS2 : ∀ j, q ≤ j → j < 4 → μ.1 54 (j - q) = nI (sA q sL sl j) ∧ μ.1 55 (j - q) = nI (lA q lL sl j) := fun j hj h4 => by
    unfold sA lA
    rw [if_neg (by omega), if_neg (by omega)]
    exact hPX (j - q) (by omega)
  have hsl : ∀ j, j < 4 → sA q sL sl j ≤ 3 ∧ lA q lL sl j < 34 := fun j hj => by
    unfold sA lA
    by_cases c : j < q
    · rw [if_pos c, if_pos c]; exact ⟨(hL j c).2.1, (hL j c).2.2.2⟩
    · rw [if_neg c, if_neg c]
      have hm : sl.getD (j - q) (0, 0) ∈ sl := by
        rw [List.getD_eq_getElem?_getD, List.getElem?_eq_getElem (show j - q < sl.length by omega), Option.getD_some]
        exact List.getElem_mem _
      have := hPV _ hm
      exact ⟨by omega, this.2.1⟩
  refine z_C_in (by decide) (by omega) (fun d' Z ed hc hr => ?_)
  have hH := zh_X7_way
  generalize es : sA q sL sl = s at hS1 hS2 hsl
  generalize el : lA q lL sl = l at hS1 hS2 hsl
  have hr2 : z_ret mi_X7_way (fun r μ' => r = none ∧ WB μ0 μ μ' q p s l 5) Z := fun b pc lv st ν r h1 h2 h3 => hr b pc lv st ν r h1 h2 ⟨h3.1, h3.2.1.2.2.1, h3.2.1.2.1, h3.2.2.iff (fun x => by unfold OV; rw [es, el])⟩
  refine z_rcs hc hH 5 (pc' := 7) (lv' := [(2, .int 0), (0, .ref 50), (1, .int (nI p))]) (st' := []) (μ' := z_ui μ 50 21 (nI p)) (by rfl) ?_
  have g0 : WA μ (z_ui μ 50 21 (nI p)) p s l 0 := ⟨fun j hj => absurd hj (by omega), a_Fz_ui (a_Fz_rf _ _) (by decide +kernel), a_H_ui hH0 (show bI 0 33 _ from bd_nI (by omega) ⟨by omega, by omega⟩), by rw [z_ui_rd, if_pos ⟨rfl, rfl⟩]⟩
  have B0 : bq (z_ui μ 50 21 (nI p)) = bq μ := by
    unfold bq
    rw [z_ui_rd, if_neg (by omega), z_ui_rd, if_neg (by omega), z_ui_rd, if_neg (by omega)]
    rfl
  have G0 : WC μ (z_ui μ 50 21 (nI p)) p s l 0 := ⟨g0, B0⟩
  generalize z_ui μ 50 21 (nI p) = μa at G0 ⊢
  refine wy7 d' Z (by omega) μ0 μ q p s l hq hp hsl e4 hc hS1 (fun μ1 g1 => ?_) q 0 (by omega) (by omega) μa G0
  have e41 : μ1.1 50 4 = nI q := (a_Fz_at g1.1.2.1 50 4 (by decide +kernel)).trans e4
  refine z_rcs hc hH 2 (pc' := 49) (lv' := [(2, .int (nI q)), (0, .ref 50), (1, .int (nI p))]) (st' := [.int (μ1.1 50 4)]) (μ' := μ1) (by rfl) ?_
  rw [e41]
  show Z 0 49 [(2, .int (nI q)), (0, .ref 50), (1, .int (nI p))] [.int (nI q)] μ1
  refine z_rcs hc hH 1 (pc' := 50) (lv' := [(2, .int (nI q)), (0, .ref 50), (1, .int (nI p))]) (st' := []) (μ' := μ1) (by rfl) ?_
  refine wy50 d' Z (by omega) μ0 μ q p s l hq hp hsl e4 hc hS2 (fun μ3 g3 => ?_) (4 - q) q (by omega) (by omega) μ1 g1
  have e43 : μ3.1 50 4 = nI q := (a_Fz_at g3.1.2.1 50 4 (by decide +kernel)).trans e4
  refine z_rcs hc hH 2 (pc' := 99) (lv' := [(2, .int (nI 4)), (0, .ref 50), (1, .int (nI p))]) (st' := [.int (μ3.1 50 4)]) (μ' := μ3) (by rfl) ?_
  rw [e43]
  show Z 0 99 [(2, .int (nI 4)), (0, .ref 50), (1, .int (nI p))] [.int (nI q)] μ3
  refine z_rcs hc hH 1 (pc' := 100) (lv' := [(2, .int (nI q)), (0, .ref 50), (1, .int (nI p))]) (st' := []) (μ' := μ3) (by rfl) ?_
  exact (wy100 d' Z (by omega) μ0 μ q p s l hq hp hsl e4 hc hF hr2 (5 - q) q (by omega) (by omega) μ3 ⟨g3.1, by rw [g3.2]; exact BS_rf (fun x ⟨co, c1, c2, _⟩ => by omega)⟩).1
