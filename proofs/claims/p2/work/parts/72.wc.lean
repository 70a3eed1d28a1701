/-! the reference: what a desk waits for, exactly -/
set_option maxRecDepth 8000
theorem zh_X7_isHonour : zH mi_X7_isHonour zc_X7_isHonour 79 7 1 := ⟨by rfl, by rfl, by rfl, by rfl⟩
theorem fc_X7_isHonour (d : Nat) (hd : 1 ≤ d) (μ : zM) (k : Int32) : z_C d mi_X7_isHonour [.int k] μ (zB μ (¬ k ≤ 26)) := by
  refine z_C_in (by decide) (by omega) (fun d' Z ed hc hr => ?_)
  have hH := zh_X7_isHonour
  refine z_rcs hc hH 2 (pc' := 3) (lv' := [(0, .int k)]) (st' := [.int 26, .int k]) (μ' := μ) (by rfl) ?_
  refine zq_ic hc hH (by rfl) (tg := 10) (by rfl) (fun h1 => ?_) (fun h1 => ?_)
  · have h1 := cm_le.mp h1
    refine z_rcs hc hH 1 (pc' := 11) (lv' := [(0, .int k)]) (st' := [.int 0]) (μ' := μ) (by rfl) ?_
    exact hr 0 11 _ _ _ (some (.int 0)) (by decide +kernel) (by rfl) (⟨rfl, Or.inr ⟨rfl, fun q => q h1⟩⟩)
  · have h1 := cn_le.mp h1
    refine z_rcs hc hH 2 (pc' := 11) (lv' := [(0, .int k)]) (st' := [.int 1]) (μ' := μ) (by rfl) ?_
    exact hr 0 11 _ _ _ (some (.int 1)) (by decide +kernel) (by rfl) (⟨rfl, Or.inl ⟨rfl, h1⟩⟩)
theorem zh_X7_isTerminal : zH mi_X7_isTerminal zc_X7_isTerminal 79 7 1 := ⟨by rfl, by rfl, by rfl, by rfl⟩
theorem fc_X7_isTerminal (d : Nat) (hd : 1 ≤ d) (μ : zM) (k : Int32) : z_C d mi_X7_isTerminal [.int k] μ (zB μ (¬ 27 ≤ k ∧ (k - k / 9 * 9 = 0 ∨ k - k / 9 * 9 = 8))) := by
  refine z_C_in (by decide) (by omega) (fun d' Z ed hc hr => ?_)
  have hH := zh_X7_isTerminal
  refine z_rcs hc hH 2 (pc' := 3) (lv' := [(0, .int k)]) (st' := [.int 27, .int k]) (μ' := μ) (by rfl) ?_
  refine zq_ic hc hH (by rfl) (tg := 26) (by rfl) (fun h1 => ?_) (fun h1 => ?_)
  · have h1 := cm_ge.mp h1
    refine z_rcs hc hH 1 (pc' := 27) (lv' := [(0, .int k)]) (st' := [.int 0]) (μ' := μ) (by rfl) ?_
    exact hr 0 27 _ _ _ (some (.int 0)) (by decide +kernel) (by rfl) (⟨rfl, Or.inr ⟨rfl, fun q => q.1 h1⟩⟩)
  · have h1 := cn_ge.mp h1
    refine z_rcs hc hH 3 (pc' := 10) (lv' := [(0, .int k)]) (st' := [.int (k - k / 9 * 9)]) (μ' := μ) (by rfl) ?_
    refine zq_if hc hH (by rfl) (tg := 22) (by rfl) (fun h2 => ?_) (fun h2 => ?_)
    · have h2 := cm_eq9.mp h2
      refine z_rcs hc hH 2 (pc' := 27) (lv' := [(0, .int k)]) (st' := [.int 1]) (μ' := μ) (by rfl) ?_
      exact hr 0 27 _ _ _ (some (.int 1)) (by decide +kernel) (by rfl) (⟨rfl, Or.inl ⟨rfl, h1, Or.inl h2⟩⟩)
    · have h2 := cn_eq.mp h2
      refine z_rcs hc hH 4 (pc' := 19) (lv' := [(0, .int k)]) (st' := [.int 8, .int (k - k / 9 * 9)]) (μ' := μ) (by rfl) ?_
      refine zq_ic hc hH (by rfl) (tg := 26) (by rfl) (fun h3 => ?_) (fun h3 => ?_)
      · have h3 := cm_ne.mp h3
        refine z_rcs hc hH 1 (pc' := 27) (lv' := [(0, .int k)]) (st' := [.int 0]) (μ' := μ) (by rfl) ?_
        exact hr 0 27 _ _ _ (some (.int 0)) (by decide +kernel) (by rfl) (⟨rfl, Or.inr ⟨rfl, fun q => q.2.elim h2 h3⟩⟩)
      · have h3 := cn_ne.mp h3
        refine z_rcs hc hH 2 (pc' := 27) (lv' := [(0, .int k)]) (st' := [.int 1]) (μ' := μ) (by rfl) ?_
        exact hr 0 27 _ _ _ (some (.int 1)) (by decide +kernel) (by rfl) (⟨rfl, Or.inl ⟨rfl, h1, Or.inr h3⟩⟩)
theorem eN_iff : ∀ c, c < 34 → ((¬ nI c ≤ 26 ∨ (¬ (27 : Int32) ≤ nI c ∧ (nI c - nI c / 9 * 9 = 0 ∨ nI c - nI c / 9 * 9 = 8))) ↔ eN c = true) := by decide +kernel
theorem zh_X7_isEnd : zH mi_X7_isEnd zc_X7_isEnd 79 7 1 := ⟨by rfl, by rfl, by rfl, by rfl⟩
theorem fc_X7_isEnd (d : Nat) (hd : 2 ≤ d) (μ : zM) (c : Nat) (hcc : c < 34) : z_C d mi_X7_isEnd [.int (nI c)] μ (zB μ (eN c = true)) := by
  refine z_C_in (by decide) (by omega) (fun d' Z ed hc hr => ?_)
  have hH := zh_X7_isEnd
  refine z_rcs hc hH 1 (pc' := 1) (lv' := [(0, .int (nI c))]) (st' := [.int (nI c)]) (μ' := μ) (by rfl) ?_
  refine zq_call hc (by rfl) (fc_X7_isHonour d' (by omega) μ (nI c)) (by decide +kernel) (fun r9 μ9 hq => ?_)
  obtain ⟨hμ9, hq⟩ := hq
  rw [hμ9]
  clear hμ9 μ9
  obtain ⟨rfl, h1⟩ | ⟨rfl, h1⟩ := hq
  · show Z 0 4 [(0, .int (nI c))] [.int 1] μ
    refine z_rcs hc hH 3 (pc' := 19) (lv' := [(0, .int (nI c))]) (st' := [.int 1]) (μ' := μ) (by rfl) ?_
    exact hr 0 19 _ _ _ (some (.int 1)) (by decide +kernel) (by rfl) (⟨rfl, Or.inl ⟨rfl, (eN_iff c hcc).mp (Or.inl h1)⟩⟩)
  · show Z 0 4 [(0, .int (nI c))] [.int 0] μ
    refine z_rcs hc hH 2 (pc' := 8) (lv' := [(0, .int (nI c))]) (st' := [.int (nI c)]) (μ' := μ) (by rfl) ?_
    refine zq_call hc (by rfl) (fc_X7_isTerminal d' (by omega) μ (nI c)) (by decide +kernel) (fun r9 μ9 hq => ?_)
    obtain ⟨hμ9, hq⟩ := hq
    rw [hμ9]
    clear hμ9 μ9
    obtain ⟨rfl, h2⟩ | ⟨rfl, h2⟩ := hq
    · show Z 0 11 [(0, .int (nI c))] [.int 1] μ
      refine z_rcs hc hH 3 (pc' := 19) (lv' := [(0, .int (nI c))]) (st' := [.int 1]) (μ' := μ) (by rfl) ?_
      exact hr 0 19 _ _ _ (some (.int 1)) (by decide +kernel) (by rfl) (⟨rfl, Or.inl ⟨rfl, (eN_iff c hcc).mp (Or.inr h2)⟩⟩)
    · show Z 0 11 [(0, .int (nI c))] [.int 0] μ
      refine z_rcs hc hH 2 (pc' := 19) (lv' := [(0, .int (nI c))]) (st' := [.int 0]) (μ' := μ) (by rfl) ?_
      exact hr 0 19 _ _ _ (some (.int 0)) (by decide +kernel) (by rfl) (⟨rfl, Or.inr ⟨rfl, fun q => ((eN_iff c hcc).mpr q).elim h1 h2⟩⟩)
abbrev mdA : List (Nat × Nat) := [(50, 18), (50, 16), (50, 13), (50, 14), (50, 15), (50, 17), (51, 9999), (54, 9999), (55, 9999)]
def AQ (μ μ1 : zM) (B : Prop) : Prop := (∀ j, μ1.1 51 j = μ.1 51 j) ∧ a_Fz mdA μ μ1 ∧ a_H μ1 ∧ (B → μ1.1 50 18 = 1) ∧ (¬ B → μ1.1 50 18 = 0)
theorem AQ.iff {μ μ1 : zM} {A B : Prop} (h : AQ μ μ1 A) (e : A ↔ B) : AQ μ μ1 B := ⟨h.1, h.2.1, h.2.2.1, fun q => h.2.2.2.1 (e.mpr q), fun q => h.2.2.2.2 (fun a => q (e.mp a))⟩
theorem AQ.full {μ μ1 : zM} {A : Prop} (h : AQ μ μ1 A) {B : Prop} (hb : B) : AQ μ (z_ui μ1 50 18 1) B := ⟨fun j => by rw [z_ui_rd, if_neg (by omega)]; exact h.1 j, a_Fz_ui h.2.1 (by decide), a_H_ui h.2.2.1 ⟨by decide, by decide⟩, fun _ => by rw [z_ui_rd, if_pos ⟨rfl, rfl⟩], fun q => absurd hb q⟩
def Fi (w : Nat → Nat) (q i : Nat) : Prop := ∃ p, p < i ∧ 2 ≤ w p ∧ dc (4 - q) (sb2 w p) 0 0
theorem sm_sn {f : Nat → Int32} {w : Nat → Nat} : ∀ n, (∀ k, k < n → f k = nI (w k)) → sm f n = nI (sn w n) := by
  intro n
  induction n with
  | zero => intro _; rfl
  | succ n ih => intro h; show sm f n + f n = nI (sn w n + w n); rw [ih (fun k hk => h k (by omega)), h n (by omega), nI_add]
theorem size_nI {s q : Nat} : nI s + 3 * nI q = nI (s + 3 * q) := by rw [show (3 : Int32) = nI 3 from rfl, nI_ml, nI_add]
theorem zh_X7_apart : zH mi_X7_apart zc_X7_apart 79 7 6 := ⟨by rfl, by rfl, by rfl, by rfl⟩
theorem ap209 (d' : Nat) (Z : zK) (hd : 6 ≤ d') (μ : zM) (w : Nat → Nat) (q : Nat) (hq : q ≤ 4) (hw : RW μ 51 w) (e4 : μ.1 50 4 = nI q) (hc : z_clo z_x0 mi_X7_apart (z_C d') Z) (hr : z_ret mi_X7_apart (fun r μ' => r = none ∧ AQ μ μ' (FM w q)) Z) (h0 : q = 0) (x4 : Int32) (hx : (x4 = 1 ∧ ∃ k, k < 34 ∧ eN k = true ∧ w k = 2) ∨ (x4 = 0 ∧ ¬ ∃ k, k < 34 ∧ eN k = true ∧ w k = 2)) (b2 : cn (fun k => decide (w k = 2)) 34 < 100) (bE : cn (fun k => eN k && decide (0 < w k)) 34 < 100) (μ1 : zM) (hA : AQ μ μ1 (Fi w q 34)) : Z 0 209 [(5, .int (nI 34)), (4, .int x4), (3, .int (nI (cn (fun k => eN k && decide (0 < w k)) 34))), (2, .int (nI (cn (fun k => decide (w k = 2)) 34))), (0, .ref 50), (1, .int 0)] [] μ1 := by
  have hH := zh_X7_apart
  have t228 : ∀ (μ2 : zM) (A : Prop), AQ μ μ2 A → (A ↔ (Fi w q 34 ∨ cn (fun k => decide (w k = 2)) 34 = 7)) → Z 0 228 [(5, .int (nI 34)), (4, .int x4), (3, .int (nI (cn (fun k => eN k && decide (0 < w k)) 34))), (2, .int (nI (cn (fun k => decide (w k = 2)) 34))), (0, .ref 50), (1, .int 0)] [] μ2 := by
    intro μ2 A h2 eA
    refine z_rcs hc hH 2 (pc' := 231) (lv' := [(5, .int (nI 34)), (4, .int x4), (3, .int (nI (cn (fun k => eN k && decide (0 < w k)) 34))), (2, .int (nI (cn (fun k => decide (w k = 2)) 34))), (0, .ref 50), (1, .int 0)]) (st' := [.int 13, .int (nI (cn (fun k => eN k && decide (0 < w k)) 34))]) (μ' := μ2) (by rfl) ?_
    refine zq_ic hc hH (by rfl) (tg := 252) (by rfl) (fun h1 => ?_) (fun h1 => ?_)
    · have h1 := cm_ne.mp h1
      exact hr 0 252 _ _ _ none (by decide +kernel) (by rfl) (⟨rfl, h2.iff (eA.trans ⟨fun z => z.elim (fun y => Or.inl (by obtain ⟨p9, u1, u2, u3⟩ := y; exact ⟨p9, u1, u2, u3⟩)) (fun y => Or.inr ⟨h0, Or.inl y⟩), fun z => z.elim (fun y => Or.inl y) (fun y => y.2.elim Or.inr (fun u => absurd u (fun z => h1 (by rw [z.1]; rfl))))⟩)⟩)
    · have h1 := cn_ne.mp h1
      refine z_rcs hc hH 1 (pc' := 236) (lv' := [(5, .int (nI 34)), (4, .int x4), (3, .int (nI (cn (fun k => eN k && decide (0 < w k)) 34))), (2, .int (nI (cn (fun k => decide (w k = 2)) 34))), (0, .ref 50), (1, .int 0)]) (st' := [.int x4]) (μ' := μ2) (by rfl) ?_
      rcases hx with ⟨rfl, hz⟩ | ⟨rfl, hz⟩
      · skip
        refine z_rcs hc hH 6 (pc' := 252) (lv' := [(5, .int (nI 34)), (4, .int 1), (3, .int (nI (cn (fun k => eN k && decide (0 < w k)) 34))), (2, .int (nI (cn (fun k => decide (w k = 2)) 34))), (0, .ref 50), (1, .int 0)]) (st' := []) (μ' := z_ui μ2 50 18 1) (by rfl) ?_
        exact hr 0 252 _ _ _ none (by decide +kernel) (by rfl) (⟨rfl, h2.full (Or.inr ⟨h0, Or.inr ⟨(nI_eq (by omega) (by omega)).mp h1, hz⟩⟩)⟩)
      · skip
        refine z_rcs hc hH 1 (pc' := 252) (lv' := [(5, .int (nI 34)), (4, .int 0), (3, .int (nI (cn (fun k => eN k && decide (0 < w k)) 34))), (2, .int (nI (cn (fun k => decide (w k = 2)) 34))), (0, .ref 50), (1, .int 0)]) (st' := []) (μ' := μ2) (by rfl) ?_
        exact hr 0 252 _ _ _ none (by decide +kernel) (by rfl) (⟨rfl, h2.iff (eA.trans ⟨fun z => z.elim (fun y => Or.inl (by obtain ⟨p9, u1, u2, u3⟩ := y; exact ⟨p9, u1, u2, u3⟩)) (fun y => Or.inr ⟨h0, Or.inl y⟩), fun z => z.elim (fun y => Or.inl y) (fun y => y.2.elim Or.inr (fun u => absurd u (fun z => hz z.2)))⟩)⟩)
  refine z_rcs hc hH 2 (pc' := 212) (lv' := [(5, .int (nI 34)), (4, .int x4), (3, .int (nI (cn (fun k => eN k && decide (0 < w k)) 34))), (2, .int (nI (cn (fun k => decide (w k = 2)) 34))), (0, .ref 50), (1, .int 0)]) (st' := [.int 7, .int (nI (cn (fun k => decide (w k = 2)) 34))]) (μ' := μ1) (by rfl) ?_
  refine zq_ic hc hH (by rfl) (tg := 228) (by rfl) (fun h1 => ?_) (fun h1 => ?_)
  · have h1 := cm_ne.mp h1
    exact t228 _ _ hA ⟨Or.inl, fun z => z.resolve_right (fun e => h1 (by rw [e]; rfl))⟩
  · have h1 := cn_ne.mp h1
    refine z_rcs hc hH 5 (pc' := 228) (lv' := [(5, .int (nI 34)), (4, .int x4), (3, .int (nI (cn (fun k => eN k && decide (0 < w k)) 34))), (2, .int (nI (cn (fun k => decide (w k = 2)) 34))), (0, .ref 50), (1, .int 0)]) (st' := []) (μ' := z_ui μ1 50 18 1) (by rfl) ?_
    exact t228 _ True (hA.full trivial) ⟨fun _ => Or.inr ((nI_eq (by omega) (by omega)).mp h1), fun _ => trivial⟩
theorem ap120 (d' : Nat) (Z : zK) (hd : 6 ≤ d') (μ : zM) (w : Nat → Nat) (q : Nat) (hq : q ≤ 4) (hw : RW μ 51 w) (e4 : μ.1 50 4 = nI q) (hc : z_clo z_x0 mi_X7_apart (z_C d') Z) (hr : z_ret mi_X7_apart (fun r μ' => r = none ∧ AQ μ μ' (FM w q)) Z) (h0 : q = 0) (μ1 : zM) (hA : AQ μ μ1 (Fi w q 34)) : ∀ n i, i + n = 34 → cn (fun k => decide (w k = 2)) i ≤ i → cn (fun k => eN k && decide (0 < w k)) i ≤ i → ∀ x4 : Int32, ((x4 = 1 ∧ ∃ k, k < i ∧ eN k = true ∧ w k = 2) ∨ (x4 = 0 ∧ ¬ ∃ k, k < i ∧ eN k = true ∧ w k = 2)) → Z 0 120 [(5, .int (nI i)), (4, .int x4), (3, .int (nI (cn (fun k => eN k && decide (0 < w k)) i))), (2, .int (nI (cn (fun k => decide (w k = 2)) i))), (0, .ref 50), (1, .int 0)] [] μ1 := by
  have hH := zh_X7_apart
  intro n
  induction n with
  | zero =>
    intro i hi l2 lE x4 hx
    have hi : i = 34 := by omega
    subst hi
    refine z_rcs hc hH 2 (pc' := 124) (lv' := [(5, .int (nI 34)), (4, .int x4), (3, .int (nI (cn (fun k => eN k && decide (0 < w k)) 34))), (2, .int (nI (cn (fun k => decide (w k = 2)) 34))), (0, .ref 50), (1, .int 0)]) (st' := [.int 34, .int (nI 34)]) (μ' := μ1) (by rfl) ?_
    refine zq_ic hc hH (by rfl) (tg := 209) (by rfl) (fun _ => ?_) (fun h9 => (zb_t (ge_nIt (n := 34) (i := 34) (by decide) (by decide)) h9).elim)
    exact ap209 d' Z hd μ w q hq hw e4 hc hr h0 x4 hx (by omega) (by omega) μ1 hA
  | succ n ih =>
    intro i hi l2 lE x4 hx
    have hin : vp_in (nI i) 34 := vp_in_nI (by omega) (by decide)
    have w1 : μ1.1 51 i = nI (w i) := (hA.1 i).trans (hw i (by omega)).1
    have b5 := (hw i (by omega)).2
    have c2 : cn (fun k => decide (w k = 2)) (i + 1) = cn (fun k => decide (w k = 2)) i + (if decide (w i = 2) = true then 1 else 0) := rfl
    have cE : cn (fun k => eN k && decide (0 < w k)) (i + 1) = cn (fun k => eN k && decide (0 < w k)) i + (if (eN i && decide (0 < w i)) = true then 1 else 0) := rfl
    have d2 : cn (fun k => decide (w k = 2)) (i + 1) ≤ i + 1 := by rw [c2]; split <;> omega
    have dE : cn (fun k => eN k && decide (0 < w k)) (i + 1) ≤ i + 1 := by rw [cE]; split <;> omega
    have t201 : ∀ x : Int32, ((x = 1 ∧ ∃ k, k < i + 1 ∧ eN k = true ∧ w k = 2) ∨ (x = 0 ∧ ¬ ∃ k, k < i + 1 ∧ eN k = true ∧ w k = 2)) → Z 0 201 [(3, .int (nI (cn (fun k => eN k && decide (0 < w k)) (i + 1)))), (2, .int (nI (cn (fun k => decide (w k = 2)) (i + 1)))), (5, .int (nI i)), (4, .int x4), (0, .ref 50), (1, .int 0)] [.int x] μ1 := by
      intro x hx2
      refine z_rcs hc hH 3 (pc' := 120) (lv' := [(5, .int ((nI i) + 1)), (4, .int x), (3, .int (nI (cn (fun k => eN k && decide (0 < w k)) (i + 1)))), (2, .int (nI (cn (fun k => decide (w k = 2)) (i + 1)))), (0, .ref 50), (1, .int 0)]) (st' := []) (μ' := μ1) (by rfl) ?_
      rw [nI_1]
      exact ih (i + 1) (by omega) d2 dE x hx2
    have t172 : Z 0 172 [(3, .int (nI (cn (fun k => eN k && decide (0 < w k)) (i + 1)))), (2, .int (nI (cn (fun k => decide (w k = 2)) (i + 1)))), (5, .int (nI i)), (4, .int x4), (0, .ref 50), (1, .int 0)] [] μ1 := by
      rcases hx with ⟨rfl, k9, hk9, hz⟩ | ⟨rfl, hz⟩
      · skip
        refine z_rcs hc hH 4 (pc' := 201) (lv' := [(3, .int (nI (cn (fun k => eN k && decide (0 < w k)) (i + 1)))), (2, .int (nI (cn (fun k => decide (w k = 2)) (i + 1)))), (5, .int (nI i)), (4, .int 1), (0, .ref 50), (1, .int 0)]) (st' := [.int 1]) (μ' := μ1) (by rfl) ?_
        exact t201 1 (Or.inl ⟨rfl, k9, by omega, hz⟩)
      · skip
        refine z_rcs hc hH 3 (pc' := 179) (lv' := [(3, .int (nI (cn (fun k => eN k && decide (0 < w k)) (i + 1)))), (2, .int (nI (cn (fun k => decide (w k = 2)) (i + 1)))), (5, .int (nI i)), (4, .int 0), (0, .ref 50), (1, .int 0)]) (st' := [.int (nI i)]) (μ' := μ1) (by rfl) ?_
        refine zq_call hc (by rfl) (fc_X7_isEnd d' (by omega) μ1 i (by omega)) (by decide +kernel) (fun r9 μ9 hq => ?_)
        obtain ⟨hμ9, hq⟩ := hq
        rw [hμ9]
        clear hμ9 μ9
        obtain ⟨rfl, he⟩ | ⟨rfl, he⟩ := hq
        · show Z 0 182 [(3, .int (nI (cn (fun k => eN k && decide (0 < w k)) (i + 1)))), (2, .int (nI (cn (fun k => decide (w k = 2)) (i + 1)))), (5, .int (nI i)), (4, .int 0), (0, .ref 50), (1, .int 0)] [.int 1] μ1
          refine z_rcs hc hH 4 (pc' := 191) (lv' := [(3, .int (nI (cn (fun k => eN k && decide (0 < w k)) (i + 1)))), (2, .int (nI (cn (fun k => decide (w k = 2)) (i + 1)))), (5, .int (nI i)), (4, .int 0), (0, .ref 50), (1, .int 0)]) (st' := [.int (nI i), .ref 51]) (μ' := μ1) (by rfl) ?_
          refine zq_iald hc hH (by rfl) 34 (by decide +kernel) (hin) ?_
          rw [nI_clamp (n := i) (by omega), w1]
          refine z_rcs hc hH 1 (pc' := 193) (lv' := [(3, .int (nI (cn (fun k => eN k && decide (0 < w k)) (i + 1)))), (2, .int (nI (cn (fun k => decide (w k = 2)) (i + 1)))), (5, .int (nI i)), (4, .int 0), (0, .ref 50), (1, .int 0)]) (st' := [.int 2, .int (nI (w i))]) (μ' := μ1) (by rfl) ?_
          refine zq_ic hc hH (by rfl) (tg := 200) (by rfl) (fun h1 => ?_) (fun h1 => ?_)
          · have h1 := cm_ne.mp h1
            refine z_rcs hc hH 1 (pc' := 201) (lv' := [(3, .int (nI (cn (fun k => eN k && decide (0 < w k)) (i + 1)))), (2, .int (nI (cn (fun k => decide (w k = 2)) (i + 1)))), (5, .int (nI i)), (4, .int 0), (0, .ref 50), (1, .int 0)]) (st' := [.int 0]) (μ' := μ1) (by rfl) ?_
            exact t201 0 (Or.inr ⟨rfl, fun ⟨j, hj, z⟩ => if e : j = i then (by rw [e] at z; exact h1 (by rw [z.2]; rfl)) else hz ⟨j, by omega, z⟩⟩)
          · have h1 := cn_ne.mp h1
            refine z_rcs hc hH 2 (pc' := 201) (lv' := [(3, .int (nI (cn (fun k => eN k && decide (0 < w k)) (i + 1)))), (2, .int (nI (cn (fun k => decide (w k = 2)) (i + 1)))), (5, .int (nI i)), (4, .int 0), (0, .ref 50), (1, .int 0)]) (st' := [.int 1]) (μ' := μ1) (by rfl) ?_
            exact t201 1 (Or.inl ⟨rfl, i, by omega, he, (nI_eq (by omega) (by omega)).mp h1⟩)
        · show Z 0 182 [(3, .int (nI (cn (fun k => eN k && decide (0 < w k)) (i + 1)))), (2, .int (nI (cn (fun k => decide (w k = 2)) (i + 1)))), (5, .int (nI i)), (4, .int 0), (0, .ref 50), (1, .int 0)] [.int 0] μ1
          refine z_rcs hc hH 2 (pc' := 201) (lv' := [(3, .int (nI (cn (fun k => eN k && decide (0 < w k)) (i + 1)))), (2, .int (nI (cn (fun k => decide (w k = 2)) (i + 1)))), (5, .int (nI i)), (4, .int 0), (0, .ref 50), (1, .int 0)]) (st' := [.int 0]) (μ' := μ1) (by rfl) ?_
          exact t201 0 (Or.inr ⟨rfl, fun ⟨j, hj, z⟩ => if e : j = i then (by rw [e] at z; exact he z.1) else hz ⟨j, by omega, z⟩⟩)
    have t146 : Z 0 146 [(2, .int (nI (cn (fun k => decide (w k = 2)) (i + 1)))), (5, .int (nI i)), (4, .int x4), (3, .int (nI (cn (fun k => eN k && decide (0 < w k)) i))), (0, .ref 50), (1, .int 0)] [] μ1 := by
      refine z_rcs hc hH 2 (pc' := 149) (lv' := [(2, .int (nI (cn (fun k => decide (w k = 2)) (i + 1)))), (5, .int (nI i)), (4, .int x4), (3, .int (nI (cn (fun k => eN k && decide (0 < w k)) i))), (0, .ref 50), (1, .int 0)]) (st' := [.int (nI i), .int (nI (cn (fun k => eN k && decide (0 < w k)) i))]) (μ' := μ1) (by rfl) ?_
      refine zq_call hc (by rfl) (fc_X7_isEnd d' (by omega) μ1 i (by omega)) (by decide +kernel) (fun r9 μ9 hq => ?_)
      obtain ⟨hμ9, hq⟩ := hq
      rw [hμ9]
      clear hμ9 μ9
      obtain ⟨rfl, he⟩ | ⟨rfl, he⟩ := hq
      · show Z 0 152 [(2, .int (nI (cn (fun k => decide (w k = 2)) (i + 1)))), (5, .int (nI i)), (4, .int x4), (3, .int (nI (cn (fun k => eN k && decide (0 < w k)) i))), (0, .ref 50), (1, .int 0)] [.int 1, .int (nI (cn (fun k => eN k && decide (0 < w k)) i))] μ1
        refine z_rcs hc hH 4 (pc' := 161) (lv' := [(2, .int (nI (cn (fun k => decide (w k = 2)) (i + 1)))), (5, .int (nI i)), (4, .int x4), (3, .int (nI (cn (fun k => eN k && decide (0 < w k)) i))), (0, .ref 50), (1, .int 0)]) (st' := [.int (nI i), .ref 51, .int (nI (cn (fun k => eN k && decide (0 < w k)) i))]) (μ' := μ1) (by rfl) ?_
        refine zq_iald hc hH (by rfl) 34 (by decide +kernel) (hin) ?_
        rw [nI_clamp (n := i) (by omega), w1]
        refine zq_if hc hH (by rfl) (tg := 169) (by rfl) (fun h1 => ?_) (fun h1 => ?_)
        · have h1 := cm_le.mp h1
          refine z_rcs hc hH 2 (pc' := 171) (lv' := [(2, .int (nI (cn (fun k => decide (w k = 2)) (i + 1)))), (5, .int (nI i)), (4, .int x4), (3, .int (nI (cn (fun k => eN k && decide (0 < w k)) i))), (0, .ref 50), (1, .int 0)]) (st' := [.int ((nI (cn (fun k => eN k && decide (0 < w k)) i)) + 0)]) (μ' := μ1) (by rfl) ?_
          have z := h1
          rw [Int32.le_iff_toInt_le, nI_toInt (by omega)] at z
          have z : ((w i : Nat) : Int) ≤ 0 := z
          rw [if_neg (by rw [he, decide_eq_false (by omega)]; decide)] at cE
          rw [Int32.add_zero, ← show cn (fun k => eN k && decide (0 < w k)) (i + 1) = cn (fun k => eN k && decide (0 < w k)) i from cE]
          refine z_rcs hc hH 1 (pc' := 172) (lv' := [(3, .int (nI (cn (fun k => eN k && decide (0 < w k)) (i + 1)))), (2, .int (nI (cn (fun k => decide (w k = 2)) (i + 1)))), (5, .int (nI i)), (4, .int x4), (0, .ref 50), (1, .int 0)]) (st' := []) (μ' := μ1) (by rfl) ?_
          exact t172
        · have h1 := cn_le.mp h1
          refine z_rcs hc hH 3 (pc' := 171) (lv' := [(2, .int (nI (cn (fun k => decide (w k = 2)) (i + 1)))), (5, .int (nI i)), (4, .int x4), (3, .int (nI (cn (fun k => eN k && decide (0 < w k)) i))), (0, .ref 50), (1, .int 0)]) (st' := [.int ((nI (cn (fun k => eN k && decide (0 < w k)) i)) + 1)]) (μ' := μ1) (by rfl) ?_
          have z := h1
          rw [Int32.not_le, Int32.lt_iff_toInt_lt, nI_toInt (by omega)] at z
          have z : (0 : Int) < ((w i : Nat) : Int) := z
          rw [if_pos (by rw [he, decide_eq_true (show 0 < w i by omega)]; rfl)] at cE
          rw [nI_1, ← cE]
          refine z_rcs hc hH 1 (pc' := 172) (lv' := [(3, .int (nI (cn (fun k => eN k && decide (0 < w k)) (i + 1)))), (2, .int (nI (cn (fun k => decide (w k = 2)) (i + 1)))), (5, .int (nI i)), (4, .int x4), (0, .ref 50), (1, .int 0)]) (st' := []) (μ' := μ1) (by rfl) ?_
          exact t172
      · show Z 0 152 [(2, .int (nI (cn (fun k => decide (w k = 2)) (i + 1)))), (5, .int (nI i)), (4, .int x4), (3, .int (nI (cn (fun k => eN k && decide (0 < w k)) i))), (0, .ref 50), (1, .int 0)] [.int 0, .int (nI (cn (fun k => eN k && decide (0 < w k)) i))] μ1
        refine z_rcs hc hH 3 (pc' := 171) (lv' := [(2, .int (nI (cn (fun k => decide (w k = 2)) (i + 1)))), (5, .int (nI i)), (4, .int x4), (3, .int (nI (cn (fun k => eN k && decide (0 < w k)) i))), (0, .ref 50), (1, .int 0)]) (st' := [.int ((nI (cn (fun k => eN k && decide (0 < w k)) i)) + 0)]) (μ' := μ1) (by rfl) ?_
        rw [if_neg (by rw [Bool.eq_false_iff.mpr he, Bool.false_and]; decide)] at cE
        rw [Int32.add_zero, ← show cn (fun k => eN k && decide (0 < w k)) (i + 1) = cn (fun k => eN k && decide (0 < w k)) i from cE]
        refine z_rcs hc hH 1 (pc' := 172) (lv' := [(3, .int (nI (cn (fun k => eN k && decide (0 < w k)) (i + 1)))), (2, .int (nI (cn (fun k => decide (w k = 2)) (i + 1)))), (5, .int (nI i)), (4, .int x4), (0, .ref 50), (1, .int 0)]) (st' := []) (μ' := μ1) (by rfl) ?_
        exact t172
    refine z_rcs hc hH 2 (pc' := 124) (lv' := [(5, .int (nI i)), (4, .int x4), (3, .int (nI (cn (fun k => eN k && decide (0 < w k)) i))), (2, .int (nI (cn (fun k => decide (w k = 2)) i))), (0, .ref 50), (1, .int 0)]) (st' := [.int 34, .int (nI i)]) (μ' := μ1) (by rfl) ?_
    refine zq_ic hc hH (by rfl) (tg := 209) (by rfl) (fun h9 => (zb_t h9 (ge_nI (n := 34) (i := i) (by omega) (by decide))).elim) (fun _ => ?_)
    refine z_rcs hc hH 4 (pc' := 134) (lv' := [(5, .int (nI i)), (4, .int x4), (3, .int (nI (cn (fun k => eN k && decide (0 < w k)) i))), (2, .int (nI (cn (fun k => decide (w k = 2)) i))), (0, .ref 50), (1, .int 0)]) (st' := [.int (nI i), .ref 51, .int (nI (cn (fun k => decide (w k = 2)) i))]) (μ' := μ1) (by rfl) ?_
    refine zq_iald hc hH (by rfl) 34 (by decide +kernel) (hin) ?_
    rw [nI_clamp (n := i) (by omega), w1]
    refine z_rcs hc hH 1 (pc' := 136) (lv' := [(5, .int (nI i)), (4, .int x4), (3, .int (nI (cn (fun k => eN k && decide (0 < w k)) i))), (2, .int (nI (cn (fun k => decide (w k = 2)) i))), (0, .ref 50), (1, .int 0)]) (st' := [.int 2, .int (nI (w i)), .int (nI (cn (fun k => decide (w k = 2)) i))]) (μ' := μ1) (by rfl) ?_
    refine zq_ic hc hH (by rfl) (tg := 143) (by rfl) (fun h1 => ?_) (fun h1 => ?_)
    · have h1 := cm_ne.mp h1
      refine z_rcs hc hH 2 (pc' := 145) (lv' := [(5, .int (nI i)), (4, .int x4), (3, .int (nI (cn (fun k => eN k && decide (0 < w k)) i))), (2, .int (nI (cn (fun k => decide (w k = 2)) i))), (0, .ref 50), (1, .int 0)]) (st' := [.int ((nI (cn (fun k => decide (w k = 2)) i)) + 0)]) (μ' := μ1) (by rfl) ?_
      rw [if_neg (by rw [decide_eq_true_iff]; exact fun e => h1 (by rw [e]; rfl))] at c2
      rw [Int32.add_zero, ← show cn (fun k => decide (w k = 2)) (i + 1) = cn (fun k => decide (w k = 2)) i from c2]
      refine z_rcs hc hH 1 (pc' := 146) (lv' := [(2, .int (nI (cn (fun k => decide (w k = 2)) (i + 1)))), (5, .int (nI i)), (4, .int x4), (3, .int (nI (cn (fun k => eN k && decide (0 < w k)) i))), (0, .ref 50), (1, .int 0)]) (st' := []) (μ' := μ1) (by rfl) ?_
      exact t146
    · have h1 := cn_ne.mp h1
      refine z_rcs hc hH 3 (pc' := 145) (lv' := [(5, .int (nI i)), (4, .int x4), (3, .int (nI (cn (fun k => eN k && decide (0 < w k)) i))), (2, .int (nI (cn (fun k => decide (w k = 2)) i))), (0, .ref 50), (1, .int 0)]) (st' := [.int ((nI (cn (fun k => decide (w k = 2)) i)) + 1)]) (μ' := μ1) (by rfl) ?_
      rw [if_pos (decide_eq_true ((nI_eq (show w i < 2 ^ 31 by omega) (show 2 < 2 ^ 31 by decide)).mp h1))] at c2
      rw [nI_1, ← c2]
      refine z_rcs hc hH 1 (pc' := 146) (lv' := [(2, .int (nI (cn (fun k => decide (w k = 2)) (i + 1)))), (5, .int (nI i)), (4, .int x4), (3, .int (nI (cn (fun k => eN k && decide (0 < w k)) i))), (0, .ref 50), (1, .int 0)]) (st' := []) (μ' := μ1) (by rfl) ?_
      exact t146
theorem ap102 (d' : Nat) (Z : zK) (hd : 6 ≤ d') (μ : zM) (w : Nat → Nat) (q : Nat) (hq : q ≤ 4) (hw : RW μ 51 w) (e4 : μ.1 50 4 = nI q) (hc : z_clo z_x0 mi_X7_apart (z_C d') Z) (hr : z_ret mi_X7_apart (fun r μ' => r = none ∧ AQ μ μ' (FM w q)) Z) (x2 : Int32) (μ1 : zM) (hA : AQ μ μ1 (Fi w q 34)) : Z 0 102 [(2, .int x2), (0, .ref 50), (1, .int 0)] [] μ1 := by
  have hH := zh_X7_apart
  have e41 : μ1.1 50 4 = nI q := (a_Fz_at hA.2.1 50 4 (by decide)).trans e4
  refine z_rcs hc hH 2 (pc' := 106) (lv' := [(2, .int x2), (0, .ref 50), (1, .int 0)]) (st' := [.int (μ1.1 50 4)]) (μ' := μ1) (by rfl) ?_
  rw [e41]
  refine zq_if hc hH (by rfl) (tg := 110) (by rfl) (fun h1 => ?_) (fun h1 => ?_)
  · have h1 := cm_le.mp h1
    refine z_rcs hc hH 8 (pc' := 120) (lv' := [(5, .int 0), (4, .int 0), (3, .int 0), (2, .int 0), (0, .ref 50), (1, .int 0)]) (st' := []) (μ' := μ1) (by rfl) ?_
    have h0 : q = 0 := by
      have z := h1
      rw [Int32.le_iff_toInt_le, nI_toInt (by omega)] at z
      have z : ((q : Nat) : Int) ≤ 0 := z
      omega
    exact ap120 d' Z hd μ w q hq hw e4 hc hr h0 μ1 hA 34 0 (by omega) (Nat.le_refl _) (Nat.le_refl _) 0 (Or.inr ⟨rfl, fun ⟨j, hj, _⟩ => absurd hj (by omega)⟩)
  · have h1 := cn_le.mp h1
    have h0 : ¬ q = 0 := fun e => h1 (by rw [e]; decide)
    exact hr 0 109 _ _ _ none (by decide +kernel) (by rfl) (⟨rfl, hA.iff ⟨fun ⟨p9, u1, u2, u3⟩ => Or.inl ⟨p9, u1, u2, u3⟩, fun z => z.elim (fun y => y) (fun y => absurd y.1 h0)⟩⟩)
theorem ap49 (d' : Nat) (Z : zK) (hd : 6 ≤ d') (μ : zM) (w : Nat → Nat) (q : Nat) (hq : q ≤ 4) (hw : RW μ 51 w) (e4 : μ.1 50 4 = nI q) (hc : z_clo z_x0 mi_X7_apart (z_C d') Z) (hr : z_ret mi_X7_apart (fun r μ' => r = none ∧ AQ μ μ' (FM w q)) Z) : ∀ n i, i + n = 34 → ∀ μ1, AQ μ μ1 (Fi w q i) → Z 0 49 [(2, .int (nI i)), (0, .ref 50), (1, .int 0)] [] μ1 := by
  have hH := zh_X7_apart
  intro n
  induction n with
  | zero =>
    intro i hi μ1 hA
    have hi : i = 34 := by omega
    subst hi
    refine z_rcs hc hH 2 (pc' := 52) (lv' := [(2, .int (nI 34)), (0, .ref 50), (1, .int 0)]) (st' := [.int 34, .int (nI 34)]) (μ' := μ1) (by rfl) ?_
    refine zq_ic hc hH (by rfl) (tg := 102) (by rfl) (fun _ => ?_) (fun h9 => (zb_t (ge_nIt (n := 34) (i := 34) (by decide) (by decide)) h9).elim)
    exact ap102 d' Z hd μ w q hq hw e4 hc hr _ μ1 hA
  | succ n ih =>
    intro i hi μ1 hA
    have hin : vp_in (nI i) 34 := vp_in_nI (by omega) (by decide)
    have ei : (nI i).toNatClampNeg = i := nI_clamp (by omega)
    have w1 : μ1.1 51 i = nI (w i) := (hA.1 i).trans (hw i (by omega)).1
    have b5 := (hw i (by omega)).2
    have e41 : μ1.1 50 4 = nI q := (a_Fz_at hA.2.1 50 4 (by decide)).trans e4
    refine z_rcs hc hH 2 (pc' := 52) (lv' := [(2, .int (nI i)), (0, .ref 50), (1, .int 0)]) (st' := [.int 34, .int (nI i)]) (μ' := μ1) (by rfl) ?_
    refine zq_ic hc hH (by rfl) (tg := 102) (by rfl) (fun h9 => (zb_t h9 (ge_nI (n := 34) (i := i) (by omega) (by decide))).elim) (fun _ => ?_)
    refine z_rcs hc hH 3 (pc' := 60) (lv' := [(2, .int (nI i)), (0, .ref 50), (1, .int 0)]) (st' := [.int (nI i), .ref 51]) (μ' := μ1) (by rfl) ?_
    refine zq_iald hc hH (by rfl) 34 (by decide +kernel) (hin) ?_
    rw [ei, w1]
    refine z_rcs hc hH 1 (pc' := 62) (lv' := [(2, .int (nI i)), (0, .ref 50), (1, .int 0)]) (st' := [.int 2, .int (nI (w i))]) (μ' := μ1) (by rfl) ?_
    refine zq_ic hc hH (by rfl) (tg := 68) (by rfl) (fun h1 => ?_) (fun h1 => ?_)
    · have h1 := cm_ge.mp h1
      refine z_rcs hc hH 4 (pc' := 74) (lv' := [(2, .int (nI i)), (0, .ref 50), (1, .int 0)]) (st' := [.int (nI i), .ref 51, .int (nI i), .ref 51]) (μ' := μ1) (by rfl) ?_
      refine zq_iald hc hH (by rfl) 34 (by decide +kernel) (hin) ?_
      rw [ei, w1]
      refine z_rcs hc hH 2 (pc' := 77) (lv' := [(2, .int (nI i)), (0, .ref 50), (1, .int 0)]) (st' := [.int ((nI (w i)) - 2), .int (nI i), .ref 51]) (μ' := μ1) (by rfl) ?_
      have h2 : 2 ≤ w i := by
        have z := h1
        rw [Int32.le_iff_toInt_le, nI_toInt (by omega)] at z
        have z : (2 : Int) ≤ ((w i : Nat) : Int) := z
        omega
      rw [l_2 (w i) (by omega) h2]
      refine zq_iast hc hH (by rfl) 34 (by decide +kernel) (hin) ?_
      rw [ei]
      have g1 : ∀ j, (z_ui μ1 51 i (nI (w i - 2))).1 51 j = if j = i then nI (w i - 2) else μ1.1 51 j := fun j => by
        rw [z_ui_rd]
        by_cases e : j = i
        · rw [if_pos ⟨rfl, e⟩, if_pos e]
        · rw [if_neg (fun z => e z.2), if_neg e]
      have F1 : a_Fz mdA μ (z_ui μ1 51 i (nI (w i - 2))) := a_Fz_ui hA.2.1 (a_mda_md (by decide) _)
      have H1 : a_H (z_ui μ1 51 i (nI (w i - 2))) := a_H_ui hA.2.2.1 (bI_top _)
      have E1 : (z_ui μ1 51 i (nI (w i - 2))).1 50 18 = μ1.1 50 18 := by rw [z_ui_rd, if_neg (by omega)]
      have Q1 : (z_ui μ1 51 i (nI (w i - 2))).1 50 4 = nI q := by rw [z_ui_rd, if_neg (by omega)]; exact e41
      generalize z_ui μ1 51 i (nI (w i - 2)) = μ2 at g1 F1 H1 E1 Q1 ⊢
      have w2 : RW μ2 51 (sb2 w i) := fun j hj => by
        rw [g1]; unfold sb2
        by_cases e : j = i
        · rw [if_pos e, if_pos e, e]; exact ⟨rfl, by omega⟩
        · rw [if_neg e, if_neg e, hA.1]; exact hw j hj
      refine z_rcs hc hH 5 (pc' := 83) (lv' := [(2, .int (nI i)), (0, .ref 50), (1, .int 0)]) (st' := [.int 0, .int (nI i), .int 0, .int 0, .ref 50]) (μ' := μ2) (by rfl) ?_
      refine zq_call hc (by rfl) (fc_X7_sets (4 - q) d' (by omega) μ2 (sb2 w i) 0 0 0 q (nI i) H1 w2 Q1 (by omega) (by omega) (fun j hj => ⟨fun z => absurd z.1 (by omega), fun z => absurd z (by omega)⟩)) (by decide +kernel) (fun r3 μ3 hq3 => ?_)
      obtain ⟨rfl, hs⟩ := hq3
      show Z 0 86 [(2, .int (nI i)), (0, .ref 50), (1, .int 0)] [] μ3
      refine z_rcs hc hH 4 (pc' := 92) (lv' := [(2, .int (nI i)), (0, .ref 50), (1, .int 0)]) (st' := [.int (nI i), .ref 51, .int (nI i), .ref 51]) (μ' := μ3) (by rfl) ?_
      refine zq_iald hc hH (by rfl) 34 (by decide +kernel) (hin) ?_
      rw [ei, hs.1, g1, if_pos rfl]
      refine z_rcs hc hH 2 (pc' := 95) (lv' := [(2, .int (nI i)), (0, .ref 50), (1, .int 0)]) (st' := [.int ((nI (w i - 2)) + 2), .int (nI i), .ref 51]) (μ' := μ3) (by rfl) ?_
      rw [show nI (w i - 2) + 2 = nI (w i) from (nI_add (w i - 2) 2).trans (by rw [show w i - 2 + 2 = w i by omega])]
      refine zq_iast hc hH (by rfl) 34 (by decide +kernel) (hin) ?_
      rw [ei]
      have hN : AQ μ (z_ui μ3 51 i (nI (w i))) (Fi w q (i + 1)) := by
        have hF := (FL.iff (A := dc (4 - q) (sb2 w i) 0 0) hs.2.2.2 Iff.rfl)
        refine ⟨fun j => ?_, a_Fz_ui (a_Fz_tr (by decide) F1 hs.2.1) (a_mda_md (by decide) _), a_H_ui hs.2.2.1 (bI_top _), fun z => ?_, fun z => ?_⟩
        · rw [z_ui_rd]
          by_cases e : j = i
          · rw [if_pos ⟨rfl, e⟩, e, (hw i (by omega)).1]
          · rw [if_neg (fun z => e z.2), hs.1, g1, if_neg e, hA.1]
        · rw [z_ui_rd, if_neg (by omega)]
          by_cases c : dc (4 - q) (sb2 w i) 0 0
          · exact hF.1 c
          · rw [hF.2 c, E1]
            obtain ⟨p9, u1, u2⟩ := z
            exact hA.2.2.2.1 ⟨p9, if e : p9 = i then (by rw [e] at u2; exact absurd u2.2 c) else (by omega), u2⟩
        · rw [z_ui_rd, if_neg (by omega), hF.2 (fun c => z ⟨i, by omega, h2, c⟩), E1]
          exact hA.2.2.2.2 (fun ⟨p9, u1, u2⟩ => z ⟨p9, by omega, u2⟩)
      generalize z_ui μ3 51 i (nI (w i)) = μ4 at hN ⊢
      refine z_rcs hc hH 2 (pc' := 49) (lv' := [(2, .int ((nI i) + 1)), (0, .ref 50), (1, .int 0)]) (st' := []) (μ' := μ4) (by rfl) ?_
      rw [nI_1]
      exact ih (i + 1) (by omega) μ4 hN
    · have h1 := cn_ge.mp h1
      refine z_rcs hc hH 1 (pc' := 96) (lv' := [(2, .int (nI i)), (0, .ref 50), (1, .int 0)]) (st' := []) (μ' := μ1) (by rfl) ?_
      have n2 : ¬ 2 ≤ w i := fun z9 => by
        have z := h1
        rw [Int32.not_le, Int32.lt_iff_toInt_lt, nI_toInt (by omega)] at z
        have z : ((w i : Nat) : Int) < 2 := z
        omega
      have hN : AQ μ μ1 (Fi w q (i + 1)) := hA.iff ⟨fun ⟨p9, u1, u2⟩ => ⟨p9, by omega, u2⟩, fun ⟨p9, u1, u2⟩ => ⟨p9, if e : p9 = i then (by rw [e] at u2; exact absurd u2.1 n2) else (by omega), u2⟩⟩
      refine z_rcs hc hH 2 (pc' := 49) (lv' := [(2, .int ((nI i) + 1)), (0, .ref 50), (1, .int 0)]) (st' := []) (μ' := μ1) (by rfl) ?_
      rw [nI_1]
      exact ih (i + 1) (by omega) μ1 hN
theorem fc_X7_apart (d : Nat) (hd : 7 ≤ d) (μ : zM) (w : Nat → Nat) (q : Nat) (hq : q ≤ 4) (hw : RW μ 51 w) (e4 : μ.1 50 4 = nI q) (hH0 : a_H μ) (h14 : sn w 34 + 3 * q = 14) : z_C d mi_X7_apart [.ref 50, .int 0] μ (fun r μ' => r = none ∧ AQ μ μ' (FM w q)) := by
  refine z_C_in (by decide) (by omega) (fun d' Z ed hc hr => ?_)
  have hH := zh_X7_apart
  refine z_rcs hc hH 18 (pc' := 30) (lv' := [(0, .ref 50), (1, .int 0)]) (st' := []) (μ' := z_uj (z_ui (z_ui (z_ui (z_ui (z_ui μ 50 18 0) 50 16 0) 50 13 0) 50 14 0) 50 15 0) 50 17 0) (by rfl) ?_
  have hA : AQ μ (z_uj (z_ui (z_ui (z_ui (z_ui (z_ui μ 50 18 0) 50 16 0) 50 13 0) 50 14 0) 50 15 0) 50 17 0) (Fi w q 0) := by
    refine ⟨fun j => ?_, a_Fz_uj (a_Fz_ui (a_Fz_ui (a_Fz_ui (a_Fz_ui (a_Fz_ui (a_Fz_rf _ _) (by decide)) (by decide)) (by decide)) (by decide)) (by decide)) (by decide), a_H_uj (a_H_ui (a_H_ui (a_H_ui (a_H_ui (a_H_ui hH0 ⟨by decide, by decide⟩) (bI_top _)) (bI_top _)) (bI_top _)) (bI_top _)), fun ⟨p9, u1, _⟩ => absurd u1 (by omega), fun _ => ?_⟩
    · show (z_ui (z_ui (z_ui (z_ui (z_ui μ 50 18 0) 50 16 0) 50 13 0) 50 14 0) 50 15 0).1 51 j = _
      rw [z_ui_rd, if_neg (by omega), z_ui_rd, if_neg (by omega), z_ui_rd, if_neg (by omega), z_ui_rd, if_neg (by omega), z_ui_rd, if_neg (by omega)]
    · show (z_ui (z_ui (z_ui (z_ui (z_ui μ 50 18 0) 50 16 0) 50 13 0) 50 14 0) 50 15 0).1 50 18 = 0
      rw [z_ui_rd, if_neg (by omega), z_ui_rd, if_neg (by omega), z_ui_rd, if_neg (by omega), z_ui_rd, if_neg (by omega), z_ui_rd, if_pos ⟨rfl, rfl⟩]
  generalize z_uj (z_ui (z_ui (z_ui (z_ui (z_ui μ 50 18 0) 50 16 0) 50 13 0) 50 14 0) 50 15 0) 50 17 0 = μ1 at hA ⊢
  have e41 : μ1.1 50 4 = nI q := (a_Fz_at hA.2.1 50 4 (by decide)).trans e4
  have es : sm (μ1.1 51) 34 = nI (sn w 34) := sm_sn 34 (fun k hk => (hA.1 k).trans (hw k hk).1)
  refine z_rcs hc hH 1 (pc' := 31) (lv' := [(0, .ref 50), (1, .int 0)]) (st' := [.ref 50]) (μ' := μ1) (by rfl) ?_
  refine zq_call hc (by rfl) (fc_X7_inHand d' (by omega) μ1) (by decide +kernel) (fun r9 μ9 hq => ?_)
  obtain ⟨hμ9, rfl⟩ := hq
  rw [hμ9]
  clear hμ9 μ9
  show Z 0 34 [(0, .ref 50), (1, .int 0)] [.int (sm (μ1.1 51) 34)] μ1
  refine z_rcs hc hH 6 (pc' := 43) (lv' := [(0, .ref 50), (1, .int 0)]) (st' := [.int 14, .int ((sm (μ1.1 51) 34) + (3 * (μ1.1 50 4)))]) (μ' := μ1) (by rfl) ?_
  refine zq_ic hc hH (by rfl) (tg := 47) (by rfl) (fun _ => ?_) (fun h9 => (zb_t (cm_eq9.mpr (by rw [es, e41, size_nI, h14]; rfl)) h9).elim)
  refine z_rcs hc hH 2 (pc' := 49) (lv' := [(2, .int 0), (0, .ref 50), (1, .int 0)]) (st' := []) (μ' := μ1) (by rfl) ?_
  exact ap49 d' Z (by omega) μ w q hq hw e4 hc hr 34 0 (by omega) μ1 hA
