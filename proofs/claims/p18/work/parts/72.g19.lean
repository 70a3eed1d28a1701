/-! the class: a way is filled in -/
set_option maxRecDepth 8000
noncomputable def tH (ch : Int64) (k : Nat) : Nat := if xHd ch (nI k) = true then 1 else 0
noncomputable def PF (v t r : Nat → Nat) (i : Nat) : Prop := (∀ k, r k ≠ 0 → rs k ∧ k < i) ∧ ∀ k, k < i → v k = 3 * t k + r k + sh1 r k + sh2 r k
theorem sh_eq {r r' : Nat → Nat} {i : Nat} (h : ∀ k, k < i → r' k = r k) : sh1 r' i = sh1 r i ∧ sh2 r' i = sh2 r i := by
  rcases i with _ | _ | i
  · exact ⟨rfl, rfl⟩
  · exact ⟨h 0 (by omega), rfl⟩
  · exact ⟨h (i + 1) (by omega), h i (by omega)⟩
theorem PF_un {v t r r' : Nat → Nat} {i : Nat} (h : PF v t r i) (h' : ∀ k, k < 34 → v k = 3 * t k + r' k + sh1 r' k + sh2 r' k) (hi : i ≤ 34) : ∀ k, k ≤ i → ∀ j, j < k → r' j = r j := by
  intro k
  induction k with
  | zero => intro _ j hj; omega
  | succ k ih =>
    intro hk j hj
    by_cases e : j = k
    · subst e
      have a := sh_eq (ih (by omega))
      have b := h.2 j (by omega)
      have c := h' j (by omega)
      omega
    · exact ih (by omega) j (by omega)
theorem flt_snoc (t r : Nat → Nat) : ∀ n i, flt t r (n + 1) i = flt t r n i ++ (List.replicate (t (i + n)) (1, i + n) ++ List.replicate (r (i + n)) (0, i + n)) := by
  intro n
  induction n with
  | zero => intro i; show List.replicate (t i) (1, i) ++ (List.replicate (r i) (0, i) ++ []) = [] ++ _; rw [List.append_nil, List.nil_append, Nat.add_zero]
  | succ n ih =>
    intro i
    show List.replicate (t i) (1, i) ++ (List.replicate (r i) (0, i) ++ flt t r (n + 1) (i + 1)) = (List.replicate (t i) (1, i) ++ (List.replicate (r i) (0, i) ++ flt t r n (i + 1))) ++ _
    rw [ih (i + 1), show i + 1 + n = i + (n + 1) by omega, List.append_assoc, List.append_assoc]
theorem flt_len (t r : Nat → Nat) : ∀ n, (flt t r n 0).length = sn (fun k => t k + r k) n := by
  intro n
  induction n with
  | zero => rfl
  | succ n ih => rw [flt_snoc, List.length_append, List.length_append, List.length_replicate, List.length_replicate, ih, Nat.zero_add]; rfl
noncomputable def rwX (i t : Nat) : Nat → SL
  | 0 => []
  | e + 1 => rwX i t e ++ [if e < t then (1, i) else (0, i)]
theorem rwX_a (i t : Nat) : ∀ e, e ≤ t → rwX i t e = List.replicate e (1, i) := by
  intro e
  induction e with
  | zero => intro _; rfl
  | succ e ih => intro h; show rwX i t e ++ [if e < t then (1, i) else (0, i)] = _; rw [ih (by omega), if_pos (by omega), List.replicate_succ']
theorem rwX_b (i t : Nat) : ∀ f, rwX i t (t + f) = List.replicate t (1, i) ++ List.replicate f (0, i) := by
  intro f
  induction f with
  | zero => rw [Nat.add_zero, rwX_a i t t (Nat.le_refl _)]; show _ = _ ++ []; rw [List.append_nil]
  | succ f ih => show rwX i t (t + f) ++ [if t + f < t then (1, i) else (0, i)] = _; rw [ih, if_neg (by omega), List.replicate_succ', List.append_assoc]
theorem rwX_len (i t : Nat) : ∀ e, (rwX i t e).length = e := by
  intro e
  induction e with
  | zero => rfl
  | succ e ih => show (rwX i t e ++ [_]).length = _; rw [List.length_append, ih]; rfl
noncomputable def FR (μ μ1 : zM) (q : Nat) (sL lL : Nat → Nat) (sl : SL) : Prop := (∀ j, j < q + sl.length → μ1.1 15 j = nI (sA q sL sl j) ∧ μ1.1 16 j = nI (lA q lL sl j)) ∧ a_Fz [(15, 9999), (16, 9999)] μ μ1 ∧ a_H μ1
theorem FR.add {μ μ1 : zM} {q : Nat} {sL lL : Nat → Nat} {sl : SL} {a k n : Nat} (h : FR μ μ1 q sL lL sl) (hn : n = q + sl.length) : FR μ (z_ui (z_ui μ1 15 n (nI a)) 16 n (nI k)) q sL lL (sl ++ [(a, k)]) := by
  subst hn
  refine ⟨fun j hj => ?_, a_Fz_ui (a_Fz_ui h.2.1 (a_mda_md (by decide +kernel) _)) (a_mda_md (by decide +kernel) _), a_H_ui (a_H_ui h.2.2 (bI_top _)) (bI_top _)⟩
  rw [List.length_append] at hj
  have hj : j < q + (sl.length + 1) := hj
  rw [z_ui_rd, if_neg (by omega), z_ui_rd, z_ui_rd]
  by_cases e : j = q + sl.length
  · subst e
    rw [if_pos ⟨rfl, rfl⟩, if_pos ⟨rfl, rfl⟩]
    unfold sA lA
    rw [if_neg (by omega), if_neg (by omega), show q + sl.length - q = sl.length by omega]
    simp [List.getD_eq_getElem?_getD]
  · rw [if_neg (fun z => e z.2), if_neg (fun z => e z.2), z_ui_rd, if_neg (by omega)]
    have := h.1 j (by omega)
    have e2 : sA q sL (sl ++ [(a, k)]) j = sA q sL sl j ∧ lA q lL (sl ++ [(a, k)]) j = lA q lL sl j := by
      unfold sA lA
      by_cases c : j < q
      · rw [if_pos c, if_pos c, if_pos c, if_pos c]; exact ⟨rfl, rfl⟩
      · rw [if_neg c, if_neg c, if_neg c, if_neg c, List.getD_eq_getElem?_getD, List.getD_eq_getElem?_getD, List.getElem?_append_left (by omega)]; exact ⟨rfl, rfl⟩
    rw [e2.1, e2.2]; exact this
/-- the class's answer -/
noncomputable def FWQ (μ : zM) (v t : Nat → Nat) (q : Nat) (sL lL : Nat → Nat) (x : Option Value) (μ' : zM) : Prop := ∃ b : Bool, x = some (.int (nB b)) ∧ a_Fz [(15, 9999), (16, 9999)] μ μ' ∧ a_H μ' ∧ (b = true → ∃ r, PW v t r ∧ sn (fun k => t k + r k) 34 = 4 - q ∧ ∀ j, j < 4 → μ'.1 15 j = nI (sA q sL (flt t r 34 0) j) ∧ μ'.1 16 j = nI (lA q lL (flt t r 34 0) j)) ∧ (b = false → ¬ ∃ r, PW v t r ∧ sn (fun k => t k + r k) 34 = 4 - q)
theorem x_sub1 : ∀ a, a < 6 → ∀ t, t < 2 → ∀ r1, r1 < 5 → ∀ r2, r2 < 5 → (3 * t + r1 + r2 ≤ a → nI a - 3 * nI t - nI r1 - nI r2 = nI (a - (3 * t + r1 + r2))) := by decide +kernel
theorem x_sub2 : ∀ a, a < 6 → ∀ t, t < 2 → ∀ r1, r1 < 5 → ∀ r2, r2 < 5 → (a < 3 * t + r1 + r2 → z_cmp .lt (nI a - 3 * nI t - nI r1 - nI r2) 0 = true) := by decide +kernel
theorem x_sub (a : Nat) (ha : a < 6) (t : Nat) (ht : t < 2) (r1 : Nat) (h1 : r1 < 5) (r2 : Nat) (h2 : r2 < 5) : (3 * t + r1 + r2 ≤ a → nI a - 3 * nI t - nI r1 - nI r2 = nI (a - (3 * t + r1 + r2))) ∧ (¬ 3 * t + r1 + r2 ≤ a → z_cmp .lt (nI a - 3 * nI t - nI r1 - nI r2) 0 = true) := ⟨x_sub1 a ha t ht r1 h1 r2 h2, fun h => x_sub2 a ha t ht r1 h1 r2 h2 (by omega)⟩
theorem x_nl : ∀ a, a < 6 → z_cmp .lt (nI a) 0 = false ∧ (z_cmp .le (nI a) 0 = decide (a = 0)) := by decide +kernel
theorem x_s4 : ∀ m, m < 5 → ∀ t, t < 2 → ∀ a, a < 6 → z_cmp .le (nI m + nI t + nI a) 4 = decide (m + t + a ≤ 4) ∧ nI m + nI t + nI a = nI (m + t + a) := by decide +kernel
theorem sn_mo (f : Nat → Nat) {i : Nat} : ∀ n, sn f i ≤ sn f (i + n) := by
  intro n
  induction n with
  | zero => exact Nat.le_refl _
  | succ n ih => show _ ≤ sn f (i + n) + f (i + n); omega
theorem sn_ler (f : Nat → Nat) {i j : Nat} (h : i ≤ j) : sn f i ≤ sn f j := by have := sn_mo f (i := i) (j - i); rw [show i + (j - i) = j by omega] at this; exact this
theorem zh_X1_fillWay : zH mi_X1_fillWay zt_X1_fillWay 79 1 10 := hh_X1_fillWay
theorem fw158_0 (d' : Nat) (Z : zK) (hd : 1 ≤ d') (μ : zM) (w : Nat → Nat) (p : Nat) (v : Nat → Nat) (hw : RW μ 10 w) (hp : p < 34) (h2p : 2 ≤ w p) (hv : ∀ k, v k = if k = p then w k - 2 else w k) (h15 : μ.1 14 15 = nI p) (ht : μ.2.2 14 = 9) (ch : Int64) (t : Nat → Nat) (ht9 : ∀ k, t k = tH ch k) (q : Nat) (hq : q ≤ 4) (e4 : μ.1 9 4 = nI q) (sL lL : Nat → Nat) (hc : z_clo z_x0 mi_X1_fillWay (z_C d') Z) (hr : z_ret mi_X1_fillWay (FWQ μ v t q sL lL) Z) (i tn lf : Nat) (sl : SL) (r1 r2 : Int32) (hi : i < 34) (h4 : q + sl.length + (tn + lf) ≤ 4) (K : ∀ μ2, FR μ μ2 q sL lL (sl ++ rwX i tn (tn + lf)) → ∀ x7 x8 x9, Z 0 63 [(6, .int (nI (i + 1))), (4, .int (nI lf)), (5, .int r1), (9, .int x9), (8, .int x8), (7, .int x7), (3, .int (nI (q + sl.length + (tn + lf)))), (0, .ref 14), (1, .long ch)] [] μ2 ∧ Z 0 63 [(6, .int (nI (i + 1))), (4, .int (nI lf)), (5, .int r1), (9, .int x9), (3, .int (nI (q + sl.length + (tn + lf)))), (8, .int x8), (7, .int x7), (0, .ref 14), (1, .long ch)] [] μ2) : ∀ n e, e + n = tn + lf → ∀ μ2, FR μ μ2 q sL lL (sl ++ rwX i tn e) → Z 0 158 [(9, .int (nI e)), (8, .int (nI lf)), (7, .int (nI tn)), (6, .int (nI i)), (5, .int r2), (4, .int r1), (3, .int (nI (q + sl.length + e))), (0, .ref 14), (1, .long ch)] [] μ2 ∧ Z 0 158 [(9, .int (nI e)), (3, .int (nI (q + sl.length + e))), (8, .int (nI lf)), (7, .int (nI tn)), (6, .int (nI i)), (5, .int r2), (4, .int r1), (0, .ref 14), (1, .long ch)] [] μ2 := by
  have hH := zh_X1_fillWay
  intro n
  induction n with
  | zero =>
    intro e he μ2 g
    have he : e = tn + lf := by omega
    subst he
    refine ⟨?_, ?_⟩
    · skip
      refine z_rcs hc hH 4 (pc' := 165) (lv' := [(9, .int (nI (tn + lf))), (8, .int (nI lf)), (7, .int (nI tn)), (6, .int (nI i)), (5, .int r2), (4, .int r1), (3, .int (nI (q + sl.length + (tn + lf)))), (0, .ref 14), (1, .long ch)]) (st' := [.int ((nI tn) + (nI lf)), .int (nI (tn + lf))]) (μ' := μ2) (by rfl) ?_
      rw [nI_add]
      show Z 0 165 [(9, .int (nI (tn + lf))), (8, .int (nI lf)), (7, .int (nI tn)), (6, .int (nI i)), (5, .int r2), (4, .int r1), (3, .int (nI (q + sl.length + (tn + lf)))), (0, .ref 14), (1, .long ch)] [.int (nI (tn + lf)), .int (nI (tn + lf))] μ2
      refine zq_ic hc hH (by rfl) (tg := 208) (by rfl) (fun _ => ?_) (fun h9 => (zb_t (ge_nIt (n := tn + lf) (i := tn + lf) (by omega) (by omega)) h9).elim)
      refine z_rcs hc hH 6 (pc' := 63) (lv' := [(6, .int ((nI i) + 1)), (4, .int (nI lf)), (5, .int r1), (9, .int (nI (tn + lf))), (8, .int (nI lf)), (7, .int (nI tn)), (3, .int (nI (q + sl.length + (tn + lf)))), (0, .ref 14), (1, .long ch)]) (st' := []) (μ' := μ2) (by rfl) ?_
      rw [nI_1]
      exact (K μ2 g _ _ _).1
    · skip
      refine z_rcs hc hH 4 (pc' := 165) (lv' := [(9, .int (nI (tn + lf))), (3, .int (nI (q + sl.length + (tn + lf)))), (8, .int (nI lf)), (7, .int (nI tn)), (6, .int (nI i)), (5, .int r2), (4, .int r1), (0, .ref 14), (1, .long ch)]) (st' := [.int ((nI tn) + (nI lf)), .int (nI (tn + lf))]) (μ' := μ2) (by rfl) ?_
      rw [nI_add]
      show Z 0 165 [(9, .int (nI (tn + lf))), (3, .int (nI (q + sl.length + (tn + lf)))), (8, .int (nI lf)), (7, .int (nI tn)), (6, .int (nI i)), (5, .int r2), (4, .int r1), (0, .ref 14), (1, .long ch)] [.int (nI (tn + lf)), .int (nI (tn + lf))] μ2
      refine zq_ic hc hH (by rfl) (tg := 208) (by rfl) (fun _ => ?_) (fun h9 => (zb_t (ge_nIt (n := tn + lf) (i := tn + lf) (by omega) (by omega)) h9).elim)
      refine z_rcs hc hH 6 (pc' := 63) (lv' := [(6, .int ((nI i) + 1)), (4, .int (nI lf)), (5, .int r1), (9, .int (nI (tn + lf))), (3, .int (nI (q + sl.length + (tn + lf)))), (8, .int (nI lf)), (7, .int (nI tn)), (0, .ref 14), (1, .long ch)]) (st' := []) (μ' := μ2) (by rfl) ?_
      rw [nI_1]
      exact (K μ2 g _ _ _).2
  | succ n ih =>
    intro e he μ2 g
    have inm : vp_in (nI (q + sl.length + e)) 4 := vp_in_nI (by omega) (by decide)
    have em : (nI (q + sl.length + e)).toNatClampNeg = q + sl.length + e := nI_clamp (by omega)
    have hlen : q + sl.length + e = q + (sl ++ rwX i tn e).length := by rw [List.length_append, rwX_len]; omega
    refine ⟨?_, ?_⟩
    · by_cases c9 : e < tn
      · skip
        refine z_rcs hc hH 4 (pc' := 165) (lv' := [(9, .int (nI e)), (8, .int (nI lf)), (7, .int (nI tn)), (6, .int (nI i)), (5, .int r2), (4, .int r1), (3, .int (nI (q + sl.length + e))), (0, .ref 14), (1, .long ch)]) (st' := [.int ((nI tn) + (nI lf)), .int (nI e)]) (μ' := μ2) (by rfl) ?_
        rw [nI_add]
        show Z 0 165 [(9, .int (nI e)), (8, .int (nI lf)), (7, .int (nI tn)), (6, .int (nI i)), (5, .int r2), (4, .int r1), (3, .int (nI (q + sl.length + e))), (0, .ref 14), (1, .long ch)] [.int (nI (tn + lf)), .int (nI e)] μ2
        refine zq_ic hc hH (by rfl) (tg := 208) (by rfl) (fun h9 => (zb_t h9 (ge_nI (n := tn + lf) (i := e) (by omega) (by omega))).elim) (fun _ => ?_)
        refine z_rcs hc hH 2 (pc' := 170) (lv' := [(9, .int (nI e)), (8, .int (nI lf)), (7, .int (nI tn)), (6, .int (nI i)), (5, .int r2), (4, .int r1), (3, .int (nI (q + sl.length + e))), (0, .ref 14), (1, .long ch)]) (st' := [.int 4, .int (nI (q + sl.length + e))]) (μ' := μ2) (by rfl) ?_
        refine zq_ic hc hH (by rfl) (tg := 208) (by rfl) (fun h9 => (zb_t h9 (ge_nI (n := 4) (i := q + sl.length + e) (by omega) (by decide))).elim) (fun _ => ?_)
        refine z_rcs hc hH 5 (pc' := 182) (lv' := [(9, .int (nI e)), (8, .int (nI lf)), (7, .int (nI tn)), (6, .int (nI i)), (5, .int r2), (4, .int r1), (3, .int (nI (q + sl.length + e))), (0, .ref 14), (1, .long ch)]) (st' := [.int (nI tn), .int (nI e), .int (nI (q + sl.length + e)), .ref 15]) (μ' := μ2) (by rfl) ?_
        refine zq_ic hc hH (by rfl) (tg := 189) (by rfl) (fun h9 => (zb_t h9 (ge_nI (n := tn) (i := e) (by omega) (by omega))).elim) (fun _ => ?_)
        refine z_rcs hc hH 2 (pc' := 190) (lv' := [(9, .int (nI e)), (8, .int (nI lf)), (7, .int (nI tn)), (6, .int (nI i)), (5, .int r2), (4, .int r1), (3, .int (nI (q + sl.length + e))), (0, .ref 14), (1, .long ch)]) (st' := [.int 1, .int (nI (q + sl.length + e)), .ref 15]) (μ' := μ2) (by rfl) ?_
        refine zq_iast hc hH (by rfl) 4 (by decide +kernel) (inm) ?_
        rw [em]
        show Z 0 191 [(9, .int (nI e)), (8, .int (nI lf)), (7, .int (nI tn)), (6, .int (nI i)), (5, .int r2), (4, .int r1), (3, .int (nI (q + sl.length + e))), (0, .ref 14), (1, .long ch)] [] (z_ui μ2 15 (q + sl.length + e) (nI 1))
        refine z_rcs0 hc hH 4 (pc' := 198) (lv' := [(9, .int (nI e)), (8, .int (nI lf)), (7, .int (nI tn)), (6, .int (nI i)), (5, .int r2), (4, .int r1), (3, .int (nI (q + sl.length + e))), (0, .ref 14), (1, .long ch)]) (st' := [.int (nI i), .int (nI (q + sl.length + e)), .ref 16]) (by rfl) ?_
        refine zq_iast hc hH (by rfl) 4 (by decide +kernel) (inm) ?_
        rw [em]
        have g2 : FR μ (z_ui (z_ui μ2 15 (q + sl.length + e) (nI 1)) 16 (q + sl.length + e) (nI i)) q sL lL (sl ++ rwX i tn (e + 1)) := by
          have z := g.add (a := 1) (k := i) hlen
          rw [List.append_assoc] at z
          rw [show rwX i tn (e + 1) = rwX i tn e ++ [(1, i)] from (show rwX i tn e ++ [if e < tn then (1, i) else (0, i)] = _ by rw [if_pos c9])]
          exact z
        generalize z_ui (z_ui μ2 15 (q + sl.length + e) (nI 1)) 16 (q + sl.length + e) (nI i) = μ3 at g2 ⊢
        refine z_rcs hc hH 3 (pc' := 158) (lv' := [(9, .int ((nI e) + 1)), (3, .int ((nI (q + sl.length + e)) + 1)), (8, .int (nI lf)), (7, .int (nI tn)), (6, .int (nI i)), (5, .int r2), (4, .int r1), (0, .ref 14), (1, .long ch)]) (st' := []) (μ' := μ3) (by rfl) ?_
        rw [nI_1, nI_1]
        exact (ih (e + 1) (by omega) μ3 g2).2
      · skip
        refine z_rcs hc hH 4 (pc' := 165) (lv' := [(9, .int (nI e)), (8, .int (nI lf)), (7, .int (nI tn)), (6, .int (nI i)), (5, .int r2), (4, .int r1), (3, .int (nI (q + sl.length + e))), (0, .ref 14), (1, .long ch)]) (st' := [.int ((nI tn) + (nI lf)), .int (nI e)]) (μ' := μ2) (by rfl) ?_
        rw [nI_add]
        show Z 0 165 [(9, .int (nI e)), (8, .int (nI lf)), (7, .int (nI tn)), (6, .int (nI i)), (5, .int r2), (4, .int r1), (3, .int (nI (q + sl.length + e))), (0, .ref 14), (1, .long ch)] [.int (nI (tn + lf)), .int (nI e)] μ2
        refine zq_ic hc hH (by rfl) (tg := 208) (by rfl) (fun h9 => (zb_t h9 (ge_nI (n := tn + lf) (i := e) (by omega) (by omega))).elim) (fun _ => ?_)
        refine z_rcs hc hH 2 (pc' := 170) (lv' := [(9, .int (nI e)), (8, .int (nI lf)), (7, .int (nI tn)), (6, .int (nI i)), (5, .int r2), (4, .int r1), (3, .int (nI (q + sl.length + e))), (0, .ref 14), (1, .long ch)]) (st' := [.int 4, .int (nI (q + sl.length + e))]) (μ' := μ2) (by rfl) ?_
        refine zq_ic hc hH (by rfl) (tg := 208) (by rfl) (fun h9 => (zb_t h9 (ge_nI (n := 4) (i := q + sl.length + e) (by omega) (by decide))).elim) (fun _ => ?_)
        refine z_rcs hc hH 5 (pc' := 182) (lv' := [(9, .int (nI e)), (8, .int (nI lf)), (7, .int (nI tn)), (6, .int (nI i)), (5, .int r2), (4, .int r1), (3, .int (nI (q + sl.length + e))), (0, .ref 14), (1, .long ch)]) (st' := [.int (nI tn), .int (nI e), .int (nI (q + sl.length + e)), .ref 15]) (μ' := μ2) (by rfl) ?_
        refine zq_ic hc hH (by rfl) (tg := 189) (by rfl) (fun _ => ?_) (fun h9 => (zb_t (ge_nIt (n := tn) (i := e) (by omega) (by omega)) h9).elim)
        refine z_rcs hc hH 1 (pc' := 190) (lv' := [(9, .int (nI e)), (8, .int (nI lf)), (7, .int (nI tn)), (6, .int (nI i)), (5, .int r2), (4, .int r1), (3, .int (nI (q + sl.length + e))), (0, .ref 14), (1, .long ch)]) (st' := [.int 0, .int (nI (q + sl.length + e)), .ref 15]) (μ' := μ2) (by rfl) ?_
        refine zq_iast hc hH (by rfl) 4 (by decide +kernel) (inm) ?_
        rw [em]
        show Z 0 191 [(9, .int (nI e)), (8, .int (nI lf)), (7, .int (nI tn)), (6, .int (nI i)), (5, .int r2), (4, .int r1), (3, .int (nI (q + sl.length + e))), (0, .ref 14), (1, .long ch)] [] (z_ui μ2 15 (q + sl.length + e) (nI 0))
        refine z_rcs0 hc hH 4 (pc' := 198) (lv' := [(9, .int (nI e)), (8, .int (nI lf)), (7, .int (nI tn)), (6, .int (nI i)), (5, .int r2), (4, .int r1), (3, .int (nI (q + sl.length + e))), (0, .ref 14), (1, .long ch)]) (st' := [.int (nI i), .int (nI (q + sl.length + e)), .ref 16]) (by rfl) ?_
        refine zq_iast hc hH (by rfl) 4 (by decide +kernel) (inm) ?_
        rw [em]
        have g2 : FR μ (z_ui (z_ui μ2 15 (q + sl.length + e) (nI 0)) 16 (q + sl.length + e) (nI i)) q sL lL (sl ++ rwX i tn (e + 1)) := by
          have z := g.add (a := 0) (k := i) hlen
          rw [List.append_assoc] at z
          rw [show rwX i tn (e + 1) = rwX i tn e ++ [(0, i)] from (show rwX i tn e ++ [if e < tn then (1, i) else (0, i)] = _ by rw [if_neg c9])]
          exact z
        generalize z_ui (z_ui μ2 15 (q + sl.length + e) (nI 0)) 16 (q + sl.length + e) (nI i) = μ3 at g2 ⊢
        refine z_rcs hc hH 3 (pc' := 158) (lv' := [(9, .int ((nI e) + 1)), (3, .int ((nI (q + sl.length + e)) + 1)), (8, .int (nI lf)), (7, .int (nI tn)), (6, .int (nI i)), (5, .int r2), (4, .int r1), (0, .ref 14), (1, .long ch)]) (st' := []) (μ' := μ3) (by rfl) ?_
        rw [nI_1, nI_1]
        exact (ih (e + 1) (by omega) μ3 g2).2
    · by_cases c9 : e < tn
      · skip
        refine z_rcs hc hH 4 (pc' := 165) (lv' := [(9, .int (nI e)), (3, .int (nI (q + sl.length + e))), (8, .int (nI lf)), (7, .int (nI tn)), (6, .int (nI i)), (5, .int r2), (4, .int r1), (0, .ref 14), (1, .long ch)]) (st' := [.int ((nI tn) + (nI lf)), .int (nI e)]) (μ' := μ2) (by rfl) ?_
        rw [nI_add]
        show Z 0 165 [(9, .int (nI e)), (3, .int (nI (q + sl.length + e))), (8, .int (nI lf)), (7, .int (nI tn)), (6, .int (nI i)), (5, .int r2), (4, .int r1), (0, .ref 14), (1, .long ch)] [.int (nI (tn + lf)), .int (nI e)] μ2
        refine zq_ic hc hH (by rfl) (tg := 208) (by rfl) (fun h9 => (zb_t h9 (ge_nI (n := tn + lf) (i := e) (by omega) (by omega))).elim) (fun _ => ?_)
        refine z_rcs hc hH 2 (pc' := 170) (lv' := [(9, .int (nI e)), (3, .int (nI (q + sl.length + e))), (8, .int (nI lf)), (7, .int (nI tn)), (6, .int (nI i)), (5, .int r2), (4, .int r1), (0, .ref 14), (1, .long ch)]) (st' := [.int 4, .int (nI (q + sl.length + e))]) (μ' := μ2) (by rfl) ?_
        refine zq_ic hc hH (by rfl) (tg := 208) (by rfl) (fun h9 => (zb_t h9 (ge_nI (n := 4) (i := q + sl.length + e) (by omega) (by decide))).elim) (fun _ => ?_)
        refine z_rcs hc hH 5 (pc' := 182) (lv' := [(9, .int (nI e)), (3, .int (nI (q + sl.length + e))), (8, .int (nI lf)), (7, .int (nI tn)), (6, .int (nI i)), (5, .int r2), (4, .int r1), (0, .ref 14), (1, .long ch)]) (st' := [.int (nI tn), .int (nI e), .int (nI (q + sl.length + e)), .ref 15]) (μ' := μ2) (by rfl) ?_
        refine zq_ic hc hH (by rfl) (tg := 189) (by rfl) (fun h9 => (zb_t h9 (ge_nI (n := tn) (i := e) (by omega) (by omega))).elim) (fun _ => ?_)
        refine z_rcs hc hH 2 (pc' := 190) (lv' := [(9, .int (nI e)), (3, .int (nI (q + sl.length + e))), (8, .int (nI lf)), (7, .int (nI tn)), (6, .int (nI i)), (5, .int r2), (4, .int r1), (0, .ref 14), (1, .long ch)]) (st' := [.int 1, .int (nI (q + sl.length + e)), .ref 15]) (μ' := μ2) (by rfl) ?_
        refine zq_iast hc hH (by rfl) 4 (by decide +kernel) (inm) ?_
        rw [em]
        show Z 0 191 [(9, .int (nI e)), (3, .int (nI (q + sl.length + e))), (8, .int (nI lf)), (7, .int (nI tn)), (6, .int (nI i)), (5, .int r2), (4, .int r1), (0, .ref 14), (1, .long ch)] [] (z_ui μ2 15 (q + sl.length + e) (nI 1))
        refine z_rcs0 hc hH 4 (pc' := 198) (lv' := [(9, .int (nI e)), (3, .int (nI (q + sl.length + e))), (8, .int (nI lf)), (7, .int (nI tn)), (6, .int (nI i)), (5, .int r2), (4, .int r1), (0, .ref 14), (1, .long ch)]) (st' := [.int (nI i), .int (nI (q + sl.length + e)), .ref 16]) (by rfl) ?_
        refine zq_iast hc hH (by rfl) 4 (by decide +kernel) (inm) ?_
        rw [em]
        have g2 : FR μ (z_ui (z_ui μ2 15 (q + sl.length + e) (nI 1)) 16 (q + sl.length + e) (nI i)) q sL lL (sl ++ rwX i tn (e + 1)) := by
          have z := g.add (a := 1) (k := i) hlen
          rw [List.append_assoc] at z
          rw [show rwX i tn (e + 1) = rwX i tn e ++ [(1, i)] from (show rwX i tn e ++ [if e < tn then (1, i) else (0, i)] = _ by rw [if_pos c9])]
          exact z
        generalize z_ui (z_ui μ2 15 (q + sl.length + e) (nI 1)) 16 (q + sl.length + e) (nI i) = μ3 at g2 ⊢
        refine z_rcs hc hH 3 (pc' := 158) (lv' := [(9, .int ((nI e) + 1)), (3, .int ((nI (q + sl.length + e)) + 1)), (8, .int (nI lf)), (7, .int (nI tn)), (6, .int (nI i)), (5, .int r2), (4, .int r1), (0, .ref 14), (1, .long ch)]) (st' := []) (μ' := μ3) (by rfl) ?_
        rw [nI_1, nI_1]
        exact (ih (e + 1) (by omega) μ3 g2).2
      · skip
        refine z_rcs hc hH 4 (pc' := 165) (lv' := [(9, .int (nI e)), (3, .int (nI (q + sl.length + e))), (8, .int (nI lf)), (7, .int (nI tn)), (6, .int (nI i)), (5, .int r2), (4, .int r1), (0, .ref 14), (1, .long ch)]) (st' := [.int ((nI tn) + (nI lf)), .int (nI e)]) (μ' := μ2) (by rfl) ?_
        rw [nI_add]
        show Z 0 165 [(9, .int (nI e)), (3, .int (nI (q + sl.length + e))), (8, .int (nI lf)), (7, .int (nI tn)), (6, .int (nI i)), (5, .int r2), (4, .int r1), (0, .ref 14), (1, .long ch)] [.int (nI (tn + lf)), .int (nI e)] μ2
        refine zq_ic hc hH (by rfl) (tg := 208) (by rfl) (fun h9 => (zb_t h9 (ge_nI (n := tn + lf) (i := e) (by omega) (by omega))).elim) (fun _ => ?_)
        refine z_rcs hc hH 2 (pc' := 170) (lv' := [(9, .int (nI e)), (3, .int (nI (q + sl.length + e))), (8, .int (nI lf)), (7, .int (nI tn)), (6, .int (nI i)), (5, .int r2), (4, .int r1), (0, .ref 14), (1, .long ch)]) (st' := [.int 4, .int (nI (q + sl.length + e))]) (μ' := μ2) (by rfl) ?_
        refine zq_ic hc hH (by rfl) (tg := 208) (by rfl) (fun h9 => (zb_t h9 (ge_nI (n := 4) (i := q + sl.length + e) (by omega) (by decide))).elim) (fun _ => ?_)
        refine z_rcs hc hH 5 (pc' := 182) (lv' := [(9, .int (nI e)), (3, .int (nI (q + sl.length + e))), (8, .int (nI lf)), (7, .int (nI tn)), (6, .int (nI i)), (5, .int r2), (4, .int r1), (0, .ref 14), (1, .long ch)]) (st' := [.int (nI tn), .int (nI e), .int (nI (q + sl.length + e)), .ref 15]) (μ' := μ2) (by rfl) ?_
        refine zq_ic hc hH (by rfl) (tg := 189) (by rfl) (fun _ => ?_) (fun h9 => (zb_t (ge_nIt (n := tn) (i := e) (by omega) (by omega)) h9).elim)
        refine z_rcs hc hH 1 (pc' := 190) (lv' := [(9, .int (nI e)), (3, .int (nI (q + sl.length + e))), (8, .int (nI lf)), (7, .int (nI tn)), (6, .int (nI i)), (5, .int r2), (4, .int r1), (0, .ref 14), (1, .long ch)]) (st' := [.int 0, .int (nI (q + sl.length + e)), .ref 15]) (μ' := μ2) (by rfl) ?_
        refine zq_iast hc hH (by rfl) 4 (by decide +kernel) (inm) ?_
        rw [em]
        show Z 0 191 [(9, .int (nI e)), (3, .int (nI (q + sl.length + e))), (8, .int (nI lf)), (7, .int (nI tn)), (6, .int (nI i)), (5, .int r2), (4, .int r1), (0, .ref 14), (1, .long ch)] [] (z_ui μ2 15 (q + sl.length + e) (nI 0))
        refine z_rcs0 hc hH 4 (pc' := 198) (lv' := [(9, .int (nI e)), (3, .int (nI (q + sl.length + e))), (8, .int (nI lf)), (7, .int (nI tn)), (6, .int (nI i)), (5, .int r2), (4, .int r1), (0, .ref 14), (1, .long ch)]) (st' := [.int (nI i), .int (nI (q + sl.length + e)), .ref 16]) (by rfl) ?_
        refine zq_iast hc hH (by rfl) 4 (by decide +kernel) (inm) ?_
        rw [em]
        have g2 : FR μ (z_ui (z_ui μ2 15 (q + sl.length + e) (nI 0)) 16 (q + sl.length + e) (nI i)) q sL lL (sl ++ rwX i tn (e + 1)) := by
          have z := g.add (a := 0) (k := i) hlen
          rw [List.append_assoc] at z
          rw [show rwX i tn (e + 1) = rwX i tn e ++ [(0, i)] from (show rwX i tn e ++ [if e < tn then (1, i) else (0, i)] = _ by rw [if_neg c9])]
          exact z
        generalize z_ui (z_ui μ2 15 (q + sl.length + e) (nI 0)) 16 (q + sl.length + e) (nI i) = μ3 at g2 ⊢
        refine z_rcs hc hH 3 (pc' := 158) (lv' := [(9, .int ((nI e) + 1)), (3, .int ((nI (q + sl.length + e)) + 1)), (8, .int (nI lf)), (7, .int (nI tn)), (6, .int (nI i)), (5, .int r2), (4, .int r1), (0, .ref 14), (1, .long ch)]) (st' := []) (μ' := μ3) (by rfl) ?_
        rw [nI_1, nI_1]
        exact (ih (e + 1) (by omega) μ3 g2).2
theorem fw158_1 (d' : Nat) (Z : zK) (hd : 1 ≤ d') (μ : zM) (w : Nat → Nat) (p : Nat) (v : Nat → Nat) (hw : RW μ 10 w) (hp : p < 34) (h2p : 2 ≤ w p) (hv : ∀ k, v k = if k = p then w k - 2 else w k) (h15 : μ.1 14 15 = nI p) (ht : μ.2.2 14 = 9) (ch : Int64) (t : Nat → Nat) (ht9 : ∀ k, t k = tH ch k) (q : Nat) (hq : q ≤ 4) (e4 : μ.1 9 4 = nI q) (sL lL : Nat → Nat) (hc : z_clo z_x0 mi_X1_fillWay (z_C d') Z) (hr : z_ret mi_X1_fillWay (FWQ μ v t q sL lL) Z) (i tn lf : Nat) (sl : SL) (r1 r2 : Int32) (hi : i < 34) (h4 : q + sl.length + (tn + lf) ≤ 4) (K : ∀ μ2, FR μ μ2 q sL lL (sl ++ rwX i tn (tn + lf)) → ∀ x7 x8 x9, Z 0 63 [(6, .int (nI (i + 1))), (4, .int (nI lf)), (5, .int r1), (9, .int x9), (8, .int x8), (7, .int x7), (3, .int (nI (q + sl.length + (tn + lf)))), (0, .ref 14), (1, .long ch)] [] μ2 ∧ Z 0 63 [(6, .int (nI (i + 1))), (4, .int (nI lf)), (5, .int r1), (9, .int x9), (3, .int (nI (q + sl.length + (tn + lf)))), (8, .int x8), (7, .int x7), (0, .ref 14), (1, .long ch)] [] μ2) : ∀ n e, e + n = tn + lf → ∀ μ2, FR μ μ2 q sL lL (sl ++ rwX i tn e) → Z 0 158 [(9, .int (nI e)), (8, .int (nI lf)), (7, .int (nI tn)), (6, .int (nI i)), (4, .int r1), (5, .int r2), (3, .int (nI (q + sl.length + e))), (0, .ref 14), (1, .long ch)] [] μ2 ∧ Z 0 158 [(9, .int (nI e)), (3, .int (nI (q + sl.length + e))), (8, .int (nI lf)), (7, .int (nI tn)), (6, .int (nI i)), (4, .int r1), (5, .int r2), (0, .ref 14), (1, .long ch)] [] μ2 := by
  have hH := zh_X1_fillWay
  intro n
  induction n with
  | zero =>
    intro e he μ2 g
    have he : e = tn + lf := by omega
    subst he
    refine ⟨?_, ?_⟩
    · skip
      refine z_rcs hc hH 4 (pc' := 165) (lv' := [(9, .int (nI (tn + lf))), (8, .int (nI lf)), (7, .int (nI tn)), (6, .int (nI i)), (4, .int r1), (5, .int r2), (3, .int (nI (q + sl.length + (tn + lf)))), (0, .ref 14), (1, .long ch)]) (st' := [.int ((nI tn) + (nI lf)), .int (nI (tn + lf))]) (μ' := μ2) (by rfl) ?_
      rw [nI_add]
      show Z 0 165 [(9, .int (nI (tn + lf))), (8, .int (nI lf)), (7, .int (nI tn)), (6, .int (nI i)), (4, .int r1), (5, .int r2), (3, .int (nI (q + sl.length + (tn + lf)))), (0, .ref 14), (1, .long ch)] [.int (nI (tn + lf)), .int (nI (tn + lf))] μ2
      refine zq_ic hc hH (by rfl) (tg := 208) (by rfl) (fun _ => ?_) (fun h9 => (zb_t (ge_nIt (n := tn + lf) (i := tn + lf) (by omega) (by omega)) h9).elim)
      refine z_rcs hc hH 6 (pc' := 63) (lv' := [(6, .int ((nI i) + 1)), (4, .int (nI lf)), (5, .int r1), (9, .int (nI (tn + lf))), (8, .int (nI lf)), (7, .int (nI tn)), (3, .int (nI (q + sl.length + (tn + lf)))), (0, .ref 14), (1, .long ch)]) (st' := []) (μ' := μ2) (by rfl) ?_
      rw [nI_1]
      exact (K μ2 g _ _ _).1
    · skip
      refine z_rcs hc hH 4 (pc' := 165) (lv' := [(9, .int (nI (tn + lf))), (3, .int (nI (q + sl.length + (tn + lf)))), (8, .int (nI lf)), (7, .int (nI tn)), (6, .int (nI i)), (4, .int r1), (5, .int r2), (0, .ref 14), (1, .long ch)]) (st' := [.int ((nI tn) + (nI lf)), .int (nI (tn + lf))]) (μ' := μ2) (by rfl) ?_
      rw [nI_add]
      show Z 0 165 [(9, .int (nI (tn + lf))), (3, .int (nI (q + sl.length + (tn + lf)))), (8, .int (nI lf)), (7, .int (nI tn)), (6, .int (nI i)), (4, .int r1), (5, .int r2), (0, .ref 14), (1, .long ch)] [.int (nI (tn + lf)), .int (nI (tn + lf))] μ2
      refine zq_ic hc hH (by rfl) (tg := 208) (by rfl) (fun _ => ?_) (fun h9 => (zb_t (ge_nIt (n := tn + lf) (i := tn + lf) (by omega) (by omega)) h9).elim)
      refine z_rcs hc hH 6 (pc' := 63) (lv' := [(6, .int ((nI i) + 1)), (4, .int (nI lf)), (5, .int r1), (9, .int (nI (tn + lf))), (3, .int (nI (q + sl.length + (tn + lf)))), (8, .int (nI lf)), (7, .int (nI tn)), (0, .ref 14), (1, .long ch)]) (st' := []) (μ' := μ2) (by rfl) ?_
      rw [nI_1]
      exact (K μ2 g _ _ _).2
  | succ n ih =>
    intro e he μ2 g
    have inm : vp_in (nI (q + sl.length + e)) 4 := vp_in_nI (by omega) (by decide)
    have em : (nI (q + sl.length + e)).toNatClampNeg = q + sl.length + e := nI_clamp (by omega)
    have hlen : q + sl.length + e = q + (sl ++ rwX i tn e).length := by rw [List.length_append, rwX_len]; omega
    refine ⟨?_, ?_⟩
    · by_cases c9 : e < tn
      · skip
        refine z_rcs hc hH 4 (pc' := 165) (lv' := [(9, .int (nI e)), (8, .int (nI lf)), (7, .int (nI tn)), (6, .int (nI i)), (4, .int r1), (5, .int r2), (3, .int (nI (q + sl.length + e))), (0, .ref 14), (1, .long ch)]) (st' := [.int ((nI tn) + (nI lf)), .int (nI e)]) (μ' := μ2) (by rfl) ?_
        rw [nI_add]
        show Z 0 165 [(9, .int (nI e)), (8, .int (nI lf)), (7, .int (nI tn)), (6, .int (nI i)), (4, .int r1), (5, .int r2), (3, .int (nI (q + sl.length + e))), (0, .ref 14), (1, .long ch)] [.int (nI (tn + lf)), .int (nI e)] μ2
        refine zq_ic hc hH (by rfl) (tg := 208) (by rfl) (fun h9 => (zb_t h9 (ge_nI (n := tn + lf) (i := e) (by omega) (by omega))).elim) (fun _ => ?_)
        refine z_rcs hc hH 2 (pc' := 170) (lv' := [(9, .int (nI e)), (8, .int (nI lf)), (7, .int (nI tn)), (6, .int (nI i)), (4, .int r1), (5, .int r2), (3, .int (nI (q + sl.length + e))), (0, .ref 14), (1, .long ch)]) (st' := [.int 4, .int (nI (q + sl.length + e))]) (μ' := μ2) (by rfl) ?_
        refine zq_ic hc hH (by rfl) (tg := 208) (by rfl) (fun h9 => (zb_t h9 (ge_nI (n := 4) (i := q + sl.length + e) (by omega) (by decide))).elim) (fun _ => ?_)
        refine z_rcs hc hH 5 (pc' := 182) (lv' := [(9, .int (nI e)), (8, .int (nI lf)), (7, .int (nI tn)), (6, .int (nI i)), (4, .int r1), (5, .int r2), (3, .int (nI (q + sl.length + e))), (0, .ref 14), (1, .long ch)]) (st' := [.int (nI tn), .int (nI e), .int (nI (q + sl.length + e)), .ref 15]) (μ' := μ2) (by rfl) ?_
        refine zq_ic hc hH (by rfl) (tg := 189) (by rfl) (fun h9 => (zb_t h9 (ge_nI (n := tn) (i := e) (by omega) (by omega))).elim) (fun _ => ?_)
        refine z_rcs hc hH 2 (pc' := 190) (lv' := [(9, .int (nI e)), (8, .int (nI lf)), (7, .int (nI tn)), (6, .int (nI i)), (4, .int r1), (5, .int r2), (3, .int (nI (q + sl.length + e))), (0, .ref 14), (1, .long ch)]) (st' := [.int 1, .int (nI (q + sl.length + e)), .ref 15]) (μ' := μ2) (by rfl) ?_
        refine zq_iast hc hH (by rfl) 4 (by decide +kernel) (inm) ?_
        rw [em]
        show Z 0 191 [(9, .int (nI e)), (8, .int (nI lf)), (7, .int (nI tn)), (6, .int (nI i)), (4, .int r1), (5, .int r2), (3, .int (nI (q + sl.length + e))), (0, .ref 14), (1, .long ch)] [] (z_ui μ2 15 (q + sl.length + e) (nI 1))
        refine z_rcs0 hc hH 4 (pc' := 198) (lv' := [(9, .int (nI e)), (8, .int (nI lf)), (7, .int (nI tn)), (6, .int (nI i)), (4, .int r1), (5, .int r2), (3, .int (nI (q + sl.length + e))), (0, .ref 14), (1, .long ch)]) (st' := [.int (nI i), .int (nI (q + sl.length + e)), .ref 16]) (by rfl) ?_
        refine zq_iast hc hH (by rfl) 4 (by decide +kernel) (inm) ?_
        rw [em]
        have g2 : FR μ (z_ui (z_ui μ2 15 (q + sl.length + e) (nI 1)) 16 (q + sl.length + e) (nI i)) q sL lL (sl ++ rwX i tn (e + 1)) := by
          have z := g.add (a := 1) (k := i) hlen
          rw [List.append_assoc] at z
          rw [show rwX i tn (e + 1) = rwX i tn e ++ [(1, i)] from (show rwX i tn e ++ [if e < tn then (1, i) else (0, i)] = _ by rw [if_pos c9])]
          exact z
        generalize z_ui (z_ui μ2 15 (q + sl.length + e) (nI 1)) 16 (q + sl.length + e) (nI i) = μ3 at g2 ⊢
        refine z_rcs hc hH 3 (pc' := 158) (lv' := [(9, .int ((nI e) + 1)), (3, .int ((nI (q + sl.length + e)) + 1)), (8, .int (nI lf)), (7, .int (nI tn)), (6, .int (nI i)), (4, .int r1), (5, .int r2), (0, .ref 14), (1, .long ch)]) (st' := []) (μ' := μ3) (by rfl) ?_
        rw [nI_1, nI_1]
        exact (ih (e + 1) (by omega) μ3 g2).2
      · skip
        refine z_rcs hc hH 4 (pc' := 165) (lv' := [(9, .int (nI e)), (8, .int (nI lf)), (7, .int (nI tn)), (6, .int (nI i)), (4, .int r1), (5, .int r2), (3, .int (nI (q + sl.length + e))), (0, .ref 14), (1, .long ch)]) (st' := [.int ((nI tn) + (nI lf)), .int (nI e)]) (μ' := μ2) (by rfl) ?_
        rw [nI_add]
        show Z 0 165 [(9, .int (nI e)), (8, .int (nI lf)), (7, .int (nI tn)), (6, .int (nI i)), (4, .int r1), (5, .int r2), (3, .int (nI (q + sl.length + e))), (0, .ref 14), (1, .long ch)] [.int (nI (tn + lf)), .int (nI e)] μ2
        refine zq_ic hc hH (by rfl) (tg := 208) (by rfl) (fun h9 => (zb_t h9 (ge_nI (n := tn + lf) (i := e) (by omega) (by omega))).elim) (fun _ => ?_)
        refine z_rcs hc hH 2 (pc' := 170) (lv' := [(9, .int (nI e)), (8, .int (nI lf)), (7, .int (nI tn)), (6, .int (nI i)), (4, .int r1), (5, .int r2), (3, .int (nI (q + sl.length + e))), (0, .ref 14), (1, .long ch)]) (st' := [.int 4, .int (nI (q + sl.length + e))]) (μ' := μ2) (by rfl) ?_
        refine zq_ic hc hH (by rfl) (tg := 208) (by rfl) (fun h9 => (zb_t h9 (ge_nI (n := 4) (i := q + sl.length + e) (by omega) (by decide))).elim) (fun _ => ?_)
        refine z_rcs hc hH 5 (pc' := 182) (lv' := [(9, .int (nI e)), (8, .int (nI lf)), (7, .int (nI tn)), (6, .int (nI i)), (4, .int r1), (5, .int r2), (3, .int (nI (q + sl.length + e))), (0, .ref 14), (1, .long ch)]) (st' := [.int (nI tn), .int (nI e), .int (nI (q + sl.length + e)), .ref 15]) (μ' := μ2) (by rfl) ?_
        refine zq_ic hc hH (by rfl) (tg := 189) (by rfl) (fun _ => ?_) (fun h9 => (zb_t (ge_nIt (n := tn) (i := e) (by omega) (by omega)) h9).elim)
        refine z_rcs hc hH 1 (pc' := 190) (lv' := [(9, .int (nI e)), (8, .int (nI lf)), (7, .int (nI tn)), (6, .int (nI i)), (4, .int r1), (5, .int r2), (3, .int (nI (q + sl.length + e))), (0, .ref 14), (1, .long ch)]) (st' := [.int 0, .int (nI (q + sl.length + e)), .ref 15]) (μ' := μ2) (by rfl) ?_
        refine zq_iast hc hH (by rfl) 4 (by decide +kernel) (inm) ?_
        rw [em]
        show Z 0 191 [(9, .int (nI e)), (8, .int (nI lf)), (7, .int (nI tn)), (6, .int (nI i)), (4, .int r1), (5, .int r2), (3, .int (nI (q + sl.length + e))), (0, .ref 14), (1, .long ch)] [] (z_ui μ2 15 (q + sl.length + e) (nI 0))
        refine z_rcs0 hc hH 4 (pc' := 198) (lv' := [(9, .int (nI e)), (8, .int (nI lf)), (7, .int (nI tn)), (6, .int (nI i)), (4, .int r1), (5, .int r2), (3, .int (nI (q + sl.length + e))), (0, .ref 14), (1, .long ch)]) (st' := [.int (nI i), .int (nI (q + sl.length + e)), .ref 16]) (by rfl) ?_
        refine zq_iast hc hH (by rfl) 4 (by decide +kernel) (inm) ?_
        rw [em]
        have g2 : FR μ (z_ui (z_ui μ2 15 (q + sl.length + e) (nI 0)) 16 (q + sl.length + e) (nI i)) q sL lL (sl ++ rwX i tn (e + 1)) := by
          have z := g.add (a := 0) (k := i) hlen
          rw [List.append_assoc] at z
          rw [show rwX i tn (e + 1) = rwX i tn e ++ [(0, i)] from (show rwX i tn e ++ [if e < tn then (1, i) else (0, i)] = _ by rw [if_neg c9])]
          exact z
        generalize z_ui (z_ui μ2 15 (q + sl.length + e) (nI 0)) 16 (q + sl.length + e) (nI i) = μ3 at g2 ⊢
        refine z_rcs hc hH 3 (pc' := 158) (lv' := [(9, .int ((nI e) + 1)), (3, .int ((nI (q + sl.length + e)) + 1)), (8, .int (nI lf)), (7, .int (nI tn)), (6, .int (nI i)), (4, .int r1), (5, .int r2), (0, .ref 14), (1, .long ch)]) (st' := []) (μ' := μ3) (by rfl) ?_
        rw [nI_1, nI_1]
        exact (ih (e + 1) (by omega) μ3 g2).2
    · by_cases c9 : e < tn
      · skip
        refine z_rcs hc hH 4 (pc' := 165) (lv' := [(9, .int (nI e)), (3, .int (nI (q + sl.length + e))), (8, .int (nI lf)), (7, .int (nI tn)), (6, .int (nI i)), (4, .int r1), (5, .int r2), (0, .ref 14), (1, .long ch)]) (st' := [.int ((nI tn) + (nI lf)), .int (nI e)]) (μ' := μ2) (by rfl) ?_
        rw [nI_add]
        show Z 0 165 [(9, .int (nI e)), (3, .int (nI (q + sl.length + e))), (8, .int (nI lf)), (7, .int (nI tn)), (6, .int (nI i)), (4, .int r1), (5, .int r2), (0, .ref 14), (1, .long ch)] [.int (nI (tn + lf)), .int (nI e)] μ2
        refine zq_ic hc hH (by rfl) (tg := 208) (by rfl) (fun h9 => (zb_t h9 (ge_nI (n := tn + lf) (i := e) (by omega) (by omega))).elim) (fun _ => ?_)
        refine z_rcs hc hH 2 (pc' := 170) (lv' := [(9, .int (nI e)), (3, .int (nI (q + sl.length + e))), (8, .int (nI lf)), (7, .int (nI tn)), (6, .int (nI i)), (4, .int r1), (5, .int r2), (0, .ref 14), (1, .long ch)]) (st' := [.int 4, .int (nI (q + sl.length + e))]) (μ' := μ2) (by rfl) ?_
        refine zq_ic hc hH (by rfl) (tg := 208) (by rfl) (fun h9 => (zb_t h9 (ge_nI (n := 4) (i := q + sl.length + e) (by omega) (by decide))).elim) (fun _ => ?_)
        refine z_rcs hc hH 5 (pc' := 182) (lv' := [(9, .int (nI e)), (3, .int (nI (q + sl.length + e))), (8, .int (nI lf)), (7, .int (nI tn)), (6, .int (nI i)), (4, .int r1), (5, .int r2), (0, .ref 14), (1, .long ch)]) (st' := [.int (nI tn), .int (nI e), .int (nI (q + sl.length + e)), .ref 15]) (μ' := μ2) (by rfl) ?_
        refine zq_ic hc hH (by rfl) (tg := 189) (by rfl) (fun h9 => (zb_t h9 (ge_nI (n := tn) (i := e) (by omega) (by omega))).elim) (fun _ => ?_)
        refine z_rcs hc hH 2 (pc' := 190) (lv' := [(9, .int (nI e)), (3, .int (nI (q + sl.length + e))), (8, .int (nI lf)), (7, .int (nI tn)), (6, .int (nI i)), (4, .int r1), (5, .int r2), (0, .ref 14), (1, .long ch)]) (st' := [.int 1, .int (nI (q + sl.length + e)), .ref 15]) (μ' := μ2) (by rfl) ?_
        refine zq_iast hc hH (by rfl) 4 (by decide +kernel) (inm) ?_
        rw [em]
        show Z 0 191 [(9, .int (nI e)), (3, .int (nI (q + sl.length + e))), (8, .int (nI lf)), (7, .int (nI tn)), (6, .int (nI i)), (4, .int r1), (5, .int r2), (0, .ref 14), (1, .long ch)] [] (z_ui μ2 15 (q + sl.length + e) (nI 1))
        refine z_rcs0 hc hH 4 (pc' := 198) (lv' := [(9, .int (nI e)), (3, .int (nI (q + sl.length + e))), (8, .int (nI lf)), (7, .int (nI tn)), (6, .int (nI i)), (4, .int r1), (5, .int r2), (0, .ref 14), (1, .long ch)]) (st' := [.int (nI i), .int (nI (q + sl.length + e)), .ref 16]) (by rfl) ?_
        refine zq_iast hc hH (by rfl) 4 (by decide +kernel) (inm) ?_
        rw [em]
        have g2 : FR μ (z_ui (z_ui μ2 15 (q + sl.length + e) (nI 1)) 16 (q + sl.length + e) (nI i)) q sL lL (sl ++ rwX i tn (e + 1)) := by
          have z := g.add (a := 1) (k := i) hlen
          rw [List.append_assoc] at z
          rw [show rwX i tn (e + 1) = rwX i tn e ++ [(1, i)] from (show rwX i tn e ++ [if e < tn then (1, i) else (0, i)] = _ by rw [if_pos c9])]
          exact z
        generalize z_ui (z_ui μ2 15 (q + sl.length + e) (nI 1)) 16 (q + sl.length + e) (nI i) = μ3 at g2 ⊢
        refine z_rcs hc hH 3 (pc' := 158) (lv' := [(9, .int ((nI e) + 1)), (3, .int ((nI (q + sl.length + e)) + 1)), (8, .int (nI lf)), (7, .int (nI tn)), (6, .int (nI i)), (4, .int r1), (5, .int r2), (0, .ref 14), (1, .long ch)]) (st' := []) (μ' := μ3) (by rfl) ?_
        rw [nI_1, nI_1]
        exact (ih (e + 1) (by omega) μ3 g2).2
      · skip
        refine z_rcs hc hH 4 (pc' := 165) (lv' := [(9, .int (nI e)), (3, .int (nI (q + sl.length + e))), (8, .int (nI lf)), (7, .int (nI tn)), (6, .int (nI i)), (4, .int r1), (5, .int r2), (0, .ref 14), (1, .long ch)]) (st' := [.int ((nI tn) + (nI lf)), .int (nI e)]) (μ' := μ2) (by rfl) ?_
        rw [nI_add]
        show Z 0 165 [(9, .int (nI e)), (3, .int (nI (q + sl.length + e))), (8, .int (nI lf)), (7, .int (nI tn)), (6, .int (nI i)), (4, .int r1), (5, .int r2), (0, .ref 14), (1, .long ch)] [.int (nI (tn + lf)), .int (nI e)] μ2
        refine zq_ic hc hH (by rfl) (tg := 208) (by rfl) (fun h9 => (zb_t h9 (ge_nI (n := tn + lf) (i := e) (by omega) (by omega))).elim) (fun _ => ?_)
        refine z_rcs hc hH 2 (pc' := 170) (lv' := [(9, .int (nI e)), (3, .int (nI (q + sl.length + e))), (8, .int (nI lf)), (7, .int (nI tn)), (6, .int (nI i)), (4, .int r1), (5, .int r2), (0, .ref 14), (1, .long ch)]) (st' := [.int 4, .int (nI (q + sl.length + e))]) (μ' := μ2) (by rfl) ?_
        refine zq_ic hc hH (by rfl) (tg := 208) (by rfl) (fun h9 => (zb_t h9 (ge_nI (n := 4) (i := q + sl.length + e) (by omega) (by decide))).elim) (fun _ => ?_)
        refine z_rcs hc hH 5 (pc' := 182) (lv' := [(9, .int (nI e)), (3, .int (nI (q + sl.length + e))), (8, .int (nI lf)), (7, .int (nI tn)), (6, .int (nI i)), (4, .int r1), (5, .int r2), (0, .ref 14), (1, .long ch)]) (st' := [.int (nI tn), .int (nI e), .int (nI (q + sl.length + e)), .ref 15]) (μ' := μ2) (by rfl) ?_
        refine zq_ic hc hH (by rfl) (tg := 189) (by rfl) (fun _ => ?_) (fun h9 => (zb_t (ge_nIt (n := tn) (i := e) (by omega) (by omega)) h9).elim)
        refine z_rcs hc hH 1 (pc' := 190) (lv' := [(9, .int (nI e)), (3, .int (nI (q + sl.length + e))), (8, .int (nI lf)), (7, .int (nI tn)), (6, .int (nI i)), (4, .int r1), (5, .int r2), (0, .ref 14), (1, .long ch)]) (st' := [.int 0, .int (nI (q + sl.length + e)), .ref 15]) (μ' := μ2) (by rfl) ?_
        refine zq_iast hc hH (by rfl) 4 (by decide +kernel) (inm) ?_
        rw [em]
        show Z 0 191 [(9, .int (nI e)), (3, .int (nI (q + sl.length + e))), (8, .int (nI lf)), (7, .int (nI tn)), (6, .int (nI i)), (4, .int r1), (5, .int r2), (0, .ref 14), (1, .long ch)] [] (z_ui μ2 15 (q + sl.length + e) (nI 0))
        refine z_rcs0 hc hH 4 (pc' := 198) (lv' := [(9, .int (nI e)), (3, .int (nI (q + sl.length + e))), (8, .int (nI lf)), (7, .int (nI tn)), (6, .int (nI i)), (4, .int r1), (5, .int r2), (0, .ref 14), (1, .long ch)]) (st' := [.int (nI i), .int (nI (q + sl.length + e)), .ref 16]) (by rfl) ?_
        refine zq_iast hc hH (by rfl) 4 (by decide +kernel) (inm) ?_
        rw [em]
        have g2 : FR μ (z_ui (z_ui μ2 15 (q + sl.length + e) (nI 0)) 16 (q + sl.length + e) (nI i)) q sL lL (sl ++ rwX i tn (e + 1)) := by
          have z := g.add (a := 0) (k := i) hlen
          rw [List.append_assoc] at z
          rw [show rwX i tn (e + 1) = rwX i tn e ++ [(0, i)] from (show rwX i tn e ++ [if e < tn then (1, i) else (0, i)] = _ by rw [if_neg c9])]
          exact z
        generalize z_ui (z_ui μ2 15 (q + sl.length + e) (nI 0)) 16 (q + sl.length + e) (nI i) = μ3 at g2 ⊢
        refine z_rcs hc hH 3 (pc' := 158) (lv' := [(9, .int ((nI e) + 1)), (3, .int ((nI (q + sl.length + e)) + 1)), (8, .int (nI lf)), (7, .int (nI tn)), (6, .int (nI i)), (4, .int r1), (5, .int r2), (0, .ref 14), (1, .long ch)]) (st' := []) (μ' := μ3) (by rfl) ?_
        rw [nI_1, nI_1]
        exact (ih (e + 1) (by omega) μ3 g2).2
theorem fw63 (d' : Nat) (Z : zK) (hd : 1 ≤ d') (μ : zM) (w : Nat → Nat) (p : Nat) (v : Nat → Nat) (hw : RW μ 10 w) (hp : p < 34) (h2p : 2 ≤ w p) (hv : ∀ k, v k = if k = p then w k - 2 else w k) (h15 : μ.1 14 15 = nI p) (ht : μ.2.2 14 = 9) (ch : Int64) (t : Nat → Nat) (ht9 : ∀ k, t k = tH ch k) (q : Nat) (hq : q ≤ 4) (e4 : μ.1 9 4 = nI q) (sL lL : Nat → Nat) (hc : z_clo z_x0 mi_X1_fillWay (z_C d') Z) (hr : z_ret mi_X1_fillWay (FWQ μ v t q sL lL) Z) : ∀ n i, i + n = 34 → ∀ r, PF v t r i → q + (flt t r i 0).length ≤ 4 → ∀ μ1, FR μ μ1 q sL lL (flt t r i 0) → Z 0 63 [(6, .int (nI i)), (5, .int (nI (sh2 r i))), (4, .int (nI (sh1 r i))), (3, .int (nI (q + (flt t r i 0).length))), (0, .ref 14), (1, .long ch)] [] μ1 ∧ ∀ x7 x8 x9, Z 0 63 [(6, .int (nI i)), (4, .int (nI (sh1 r i))), (5, .int (nI (sh2 r i))), (9, .int x9), (8, .int x8), (7, .int x7), (3, .int (nI (q + (flt t r i 0).length))), (0, .ref 14), (1, .long ch)] [] μ1 ∧ Z 0 63 [(6, .int (nI i)), (4, .int (nI (sh1 r i))), (5, .int (nI (sh2 r i))), (9, .int x9), (3, .int (nI (q + (flt t r i 0).length))), (8, .int x8), (7, .int x7), (0, .ref 14), (1, .long ch)] [] μ1 := by
  have hH := zh_X1_fillWay
  have tle : ∀ k, t k ≤ 1 := fun k => by rw [ht9]; unfold tH; split <;> omega
  intro n
  induction n with
  | zero =>
    intro i hi r hP h4 μ1 g
    have hi : i = 34 := by omega
    subst hi
    have hl := flt_len t r 34
    have un : ∀ r', PW v t r' → ∀ k, k < 34 → r' k = r k := fun r' hr' => PF_un hP hr'.2 (by omega) 34 (by omega)
    have sneq : ∀ r', PW v t r' → sn (fun k => t k + r' k) 34 = sn (fun k => t k + r k) 34 := fun r' hr' => sn_congr (fun k hk => by rw [un r' hr' k hk])
    refine ⟨?_, fun x7 x8 x9 => ⟨?_, ?_⟩⟩
    · by_cases hh9 : q + (flt t r 34 0).length = 4
      · skip
        refine z_rcs hc hH 2 (pc' := 67) (lv' := [(6, .int (nI 34)), (5, .int (nI (sh2 r 34))), (4, .int (nI (sh1 r 34))), (3, .int (nI (q + (flt t r 34 0).length))), (0, .ref 14), (1, .long ch)]) (st' := [.int 34, .int (nI 34)]) (μ' := μ1) (by rfl) ?_
        refine zq_ic hc hH (by rfl) (tg := 222) (by rfl) (fun _ => ?_) (fun h9 => (zb_t (ge_nIt (n := 34) (i := 34) (by decide) (by decide)) h9).elim)
        refine z_rcs hc hH 2 (pc' := 224) (lv' := [(6, .int (nI 34)), (5, .int (nI (sh2 r 34))), (4, .int (nI (sh1 r 34))), (3, .int (nI (q + (flt t r 34 0).length))), (0, .ref 14), (1, .long ch)]) (st' := [.int 4, .int (nI (q + (flt t r 34 0).length))]) (μ' := μ1) (by rfl) ?_
        refine zq_ic hc hH (by rfl) (tg := 231) (by rfl) (fun h9 => (zb_t h9 (cn_ne.mpr (by rw [hh9]; rfl))).elim) (fun _ => ?_)
        refine z_rcs hc hH 2 (pc' := 232) (lv' := [(6, .int (nI 34)), (5, .int (nI (sh2 r 34))), (4, .int (nI (sh1 r 34))), (3, .int (nI (q + (flt t r 34 0).length))), (0, .ref 14), (1, .long ch)]) (st' := [.int 1]) (μ' := μ1) (by rfl) ?_
        exact hr 0 232 _ _ _ (some (.int 1)) (by decide +kernel) (z_rx_ok hH (by rfl)) (⟨true, rfl, g.2.1, g.2.2, fun _ => ⟨r, ⟨fun k hk => (hP.1 k hk).1, hP.2⟩, by omega, fun j hj => g.1 j (by omega)⟩, fun z => absurd z (by decide)⟩)
      · skip
        refine z_rcs hc hH 2 (pc' := 67) (lv' := [(6, .int (nI 34)), (5, .int (nI (sh2 r 34))), (4, .int (nI (sh1 r 34))), (3, .int (nI (q + (flt t r 34 0).length))), (0, .ref 14), (1, .long ch)]) (st' := [.int 34, .int (nI 34)]) (μ' := μ1) (by rfl) ?_
        refine zq_ic hc hH (by rfl) (tg := 222) (by rfl) (fun _ => ?_) (fun h9 => (zb_t (ge_nIt (n := 34) (i := 34) (by decide) (by decide)) h9).elim)
        refine z_rcs hc hH 2 (pc' := 224) (lv' := [(6, .int (nI 34)), (5, .int (nI (sh2 r 34))), (4, .int (nI (sh1 r 34))), (3, .int (nI (q + (flt t r 34 0).length))), (0, .ref 14), (1, .long ch)]) (st' := [.int 4, .int (nI (q + (flt t r 34 0).length))]) (μ' := μ1) (by rfl) ?_
        refine zq_ic hc hH (by rfl) (tg := 231) (by rfl) (fun _ => ?_) (fun h9 => (zb_t (cm_ne.mpr (fun z => hh9 ((nI_eq (by omega) (by decide)).mp z))) h9).elim)
        refine z_rcs hc hH 1 (pc' := 232) (lv' := [(6, .int (nI 34)), (5, .int (nI (sh2 r 34))), (4, .int (nI (sh1 r 34))), (3, .int (nI (q + (flt t r 34 0).length))), (0, .ref 14), (1, .long ch)]) (st' := [.int 0]) (μ' := μ1) (by rfl) ?_
        exact hr 0 232 _ _ _ (some (.int 0)) (by decide +kernel) (z_rx_ok hH (by rfl)) (⟨false, rfl, g.2.1, g.2.2, fun z => absurd z (by decide), fun _ ⟨r', hr', hs⟩ => by rw [sneq r' hr'] at hs; omega⟩)
    · by_cases hh9 : q + (flt t r 34 0).length = 4
      · skip
        refine z_rcs hc hH 2 (pc' := 67) (lv' := [(6, .int (nI 34)), (4, .int (nI (sh1 r 34))), (5, .int (nI (sh2 r 34))), (9, .int x9), (8, .int x8), (7, .int x7), (3, .int (nI (q + (flt t r 34 0).length))), (0, .ref 14), (1, .long ch)]) (st' := [.int 34, .int (nI 34)]) (μ' := μ1) (by rfl) ?_
        refine zq_ic hc hH (by rfl) (tg := 222) (by rfl) (fun _ => ?_) (fun h9 => (zb_t (ge_nIt (n := 34) (i := 34) (by decide) (by decide)) h9).elim)
        refine z_rcs hc hH 2 (pc' := 224) (lv' := [(6, .int (nI 34)), (4, .int (nI (sh1 r 34))), (5, .int (nI (sh2 r 34))), (9, .int x9), (8, .int x8), (7, .int x7), (3, .int (nI (q + (flt t r 34 0).length))), (0, .ref 14), (1, .long ch)]) (st' := [.int 4, .int (nI (q + (flt t r 34 0).length))]) (μ' := μ1) (by rfl) ?_
        refine zq_ic hc hH (by rfl) (tg := 231) (by rfl) (fun h9 => (zb_t h9 (cn_ne.mpr (by rw [hh9]; rfl))).elim) (fun _ => ?_)
        refine z_rcs hc hH 2 (pc' := 232) (lv' := [(6, .int (nI 34)), (4, .int (nI (sh1 r 34))), (5, .int (nI (sh2 r 34))), (9, .int x9), (8, .int x8), (7, .int x7), (3, .int (nI (q + (flt t r 34 0).length))), (0, .ref 14), (1, .long ch)]) (st' := [.int 1]) (μ' := μ1) (by rfl) ?_
        exact hr 0 232 _ _ _ (some (.int 1)) (by decide +kernel) (z_rx_ok hH (by rfl)) (⟨true, rfl, g.2.1, g.2.2, fun _ => ⟨r, ⟨fun k hk => (hP.1 k hk).1, hP.2⟩, by omega, fun j hj => g.1 j (by omega)⟩, fun z => absurd z (by decide)⟩)
      · skip
        refine z_rcs hc hH 2 (pc' := 67) (lv' := [(6, .int (nI 34)), (4, .int (nI (sh1 r 34))), (5, .int (nI (sh2 r 34))), (9, .int x9), (8, .int x8), (7, .int x7), (3, .int (nI (q + (flt t r 34 0).length))), (0, .ref 14), (1, .long ch)]) (st' := [.int 34, .int (nI 34)]) (μ' := μ1) (by rfl) ?_
        refine zq_ic hc hH (by rfl) (tg := 222) (by rfl) (fun _ => ?_) (fun h9 => (zb_t (ge_nIt (n := 34) (i := 34) (by decide) (by decide)) h9).elim)
        refine z_rcs hc hH 2 (pc' := 224) (lv' := [(6, .int (nI 34)), (4, .int (nI (sh1 r 34))), (5, .int (nI (sh2 r 34))), (9, .int x9), (8, .int x8), (7, .int x7), (3, .int (nI (q + (flt t r 34 0).length))), (0, .ref 14), (1, .long ch)]) (st' := [.int 4, .int (nI (q + (flt t r 34 0).length))]) (μ' := μ1) (by rfl) ?_
        refine zq_ic hc hH (by rfl) (tg := 231) (by rfl) (fun _ => ?_) (fun h9 => (zb_t (cm_ne.mpr (fun z => hh9 ((nI_eq (by omega) (by decide)).mp z))) h9).elim)
        refine z_rcs hc hH 1 (pc' := 232) (lv' := [(6, .int (nI 34)), (4, .int (nI (sh1 r 34))), (5, .int (nI (sh2 r 34))), (9, .int x9), (8, .int x8), (7, .int x7), (3, .int (nI (q + (flt t r 34 0).length))), (0, .ref 14), (1, .long ch)]) (st' := [.int 0]) (μ' := μ1) (by rfl) ?_
        exact hr 0 232 _ _ _ (some (.int 0)) (by decide +kernel) (z_rx_ok hH (by rfl)) (⟨false, rfl, g.2.1, g.2.2, fun z => absurd z (by decide), fun _ ⟨r', hr', hs⟩ => by rw [sneq r' hr'] at hs; omega⟩)
    · by_cases hh9 : q + (flt t r 34 0).length = 4
      · skip
        refine z_rcs hc hH 2 (pc' := 67) (lv' := [(6, .int (nI 34)), (4, .int (nI (sh1 r 34))), (5, .int (nI (sh2 r 34))), (9, .int x9), (3, .int (nI (q + (flt t r 34 0).length))), (8, .int x8), (7, .int x7), (0, .ref 14), (1, .long ch)]) (st' := [.int 34, .int (nI 34)]) (μ' := μ1) (by rfl) ?_
        refine zq_ic hc hH (by rfl) (tg := 222) (by rfl) (fun _ => ?_) (fun h9 => (zb_t (ge_nIt (n := 34) (i := 34) (by decide) (by decide)) h9).elim)
        refine z_rcs hc hH 2 (pc' := 224) (lv' := [(6, .int (nI 34)), (4, .int (nI (sh1 r 34))), (5, .int (nI (sh2 r 34))), (9, .int x9), (3, .int (nI (q + (flt t r 34 0).length))), (8, .int x8), (7, .int x7), (0, .ref 14), (1, .long ch)]) (st' := [.int 4, .int (nI (q + (flt t r 34 0).length))]) (μ' := μ1) (by rfl) ?_
        refine zq_ic hc hH (by rfl) (tg := 231) (by rfl) (fun h9 => (zb_t h9 (cn_ne.mpr (by rw [hh9]; rfl))).elim) (fun _ => ?_)
        refine z_rcs hc hH 2 (pc' := 232) (lv' := [(6, .int (nI 34)), (4, .int (nI (sh1 r 34))), (5, .int (nI (sh2 r 34))), (9, .int x9), (3, .int (nI (q + (flt t r 34 0).length))), (8, .int x8), (7, .int x7), (0, .ref 14), (1, .long ch)]) (st' := [.int 1]) (μ' := μ1) (by rfl) ?_
        exact hr 0 232 _ _ _ (some (.int 1)) (by decide +kernel) (z_rx_ok hH (by rfl)) (⟨true, rfl, g.2.1, g.2.2, fun _ => ⟨r, ⟨fun k hk => (hP.1 k hk).1, hP.2⟩, by omega, fun j hj => g.1 j (by omega)⟩, fun z => absurd z (by decide)⟩)
      · skip
        refine z_rcs hc hH 2 (pc' := 67) (lv' := [(6, .int (nI 34)), (4, .int (nI (sh1 r 34))), (5, .int (nI (sh2 r 34))), (9, .int x9), (3, .int (nI (q + (flt t r 34 0).length))), (8, .int x8), (7, .int x7), (0, .ref 14), (1, .long ch)]) (st' := [.int 34, .int (nI 34)]) (μ' := μ1) (by rfl) ?_
        refine zq_ic hc hH (by rfl) (tg := 222) (by rfl) (fun _ => ?_) (fun h9 => (zb_t (ge_nIt (n := 34) (i := 34) (by decide) (by decide)) h9).elim)
        refine z_rcs hc hH 2 (pc' := 224) (lv' := [(6, .int (nI 34)), (4, .int (nI (sh1 r 34))), (5, .int (nI (sh2 r 34))), (9, .int x9), (3, .int (nI (q + (flt t r 34 0).length))), (8, .int x8), (7, .int x7), (0, .ref 14), (1, .long ch)]) (st' := [.int 4, .int (nI (q + (flt t r 34 0).length))]) (μ' := μ1) (by rfl) ?_
        refine zq_ic hc hH (by rfl) (tg := 231) (by rfl) (fun _ => ?_) (fun h9 => (zb_t (cm_ne.mpr (fun z => hh9 ((nI_eq (by omega) (by decide)).mp z))) h9).elim)
        refine z_rcs hc hH 1 (pc' := 232) (lv' := [(6, .int (nI 34)), (4, .int (nI (sh1 r 34))), (5, .int (nI (sh2 r 34))), (9, .int x9), (3, .int (nI (q + (flt t r 34 0).length))), (8, .int x8), (7, .int x7), (0, .ref 14), (1, .long ch)]) (st' := [.int 0]) (μ' := μ1) (by rfl) ?_
        exact hr 0 232 _ _ _ (some (.int 0)) (by decide +kernel) (z_rx_ok hH (by rfl)) (⟨false, rfl, g.2.1, g.2.2, fun z => absurd z (by decide), fun _ ⟨r', hr', hs⟩ => by rw [sneq r' hr'] at hs; omega⟩)
  | succ n ih =>
    intro i hi r hP h4 μ1 g
    have hin : vp_in (nI i) 34 := vp_in_nI (by omega) (by decide)
    have ei : (nI i).toNatClampNeg = i := nI_clamp (by omega)
    have wi : μ1.1 10 i = nI (w i) := (a_Fz_at g.2.1 10 i (a_md_row (by decide +kernel))).trans (hw i (by omega)).1
    have bw := (hw i (by omega)).2
    have ht1 : μ1.2.2 14 = 9 := (g.2.1.2 14 (by decide)).trans ht
    have e151 : μ1.1 14 15 = nI p := (a_Fz_at g.2.1 14 15 (a_md_row (by decide +kernel))).trans h15
    have hl := flt_len t r i
    have bt := tle i
    have bv : v i < 6 := by rw [hv]; split <;> omega
    have rle : ∀ k, r k ≤ 4 := fun k => by
      by_cases z : r k = 0
      · omega
      · have hk := (hP.1 k z).2
        have := sn_le (f := fun k => t k + r k) hk
        have : t k + r k ≤ sn (fun k => t k + r k) i := this
        omega
    have b1 : sh1 r i ≤ 4 := by rcases i with _ | i; exact Nat.zero_le _; exact rle i
    have b2 : sh2 r i ≤ 4 := by rcases i with _ | _ | i; exact Nat.zero_le _; exact Nat.zero_le _; exact rle i
    have un : ∀ r', PW v t r' → ∀ k, k < i → r' k = r k := fun r' hr' => PF_un hP hr'.2 (by omega) i (by omega)
    have at_i : ∀ r', PW v t r' → v i = 3 * t i + r' i + sh1 r i + sh2 r i := fun r' hr' => by
      have := sh_eq (un r' hr')
      rw [← this.1, ← this.2]
      exact hr'.2 i (by omega)
    have sn_i : ∀ r', PW v t r' → sn (fun k => t k + r k) i + (t i + r' i) ≤ sn (fun k => t k + r' k) 34 := fun r' hr' => by
      have z := sn_ler (fun k => t k + r' k) (show i + 1 ≤ 34 by omega)
      have e : sn (fun k => t k + r' k) i = sn (fun k => t k + r k) i := sn_congr (fun k hk => by rw [un r' hr' k hk])
      have z : sn (fun k => t k + r' k) i + (t i + r' i) ≤ _ := z
      rw [e] at z
      exact z
    have xs := x_sub (v i) bv (t i) (by omega) (sh1 r i) (by omega) (sh2 r i) (by omega)
    have fail : (¬ ∃ r', PW v t r' ∧ sn (fun k => t k + r' k) 34 = 4 - q) → FWQ μ v t q sL lL (some (.int 0)) μ1 := fun z => ⟨false, rfl, g.2.1, g.2.2, fun y => absurd y (by decide), fun _ => z⟩
    refine ⟨?_, fun x7 x8 x9 => ⟨?_, ?_⟩⟩
    · skip
      have j142 : ∀ lf, v i = 3 * t i + lf + sh1 r i + sh2 r i → (lf ≠ 0 → rs i) → Z 0 142 [(8, .int (nI lf)), (7, .int (nI (t i))), (6, .int (nI i)), (5, .int (nI (sh2 r i))), (4, .int (nI (sh1 r i))), (3, .int (nI (q + (flt t r i 0).length))), (0, .ref 14), (1, .long ch)] [] μ1 := by
        intro lf hlf hrs
        have blf : lf < 6 := by omega
        have x4 := x_s4 (q + (flt t r i 0).length) (by omega) (t i) (by omega) lf blf
        by_cases hh9 : q + (flt t r i 0).length + t i + lf ≤ 4
        · skip
          refine z_rcs hc hH 6 (pc' := 150) (lv' := [(8, .int (nI lf)), (7, .int (nI (t i))), (6, .int (nI i)), (5, .int (nI (sh2 r i))), (4, .int (nI (sh1 r i))), (3, .int (nI (q + (flt t r i 0).length))), (0, .ref 14), (1, .long ch)]) (st' := [.int 4, .int (((nI (q + (flt t r i 0).length)) + (nI (t i))) + (nI lf))]) (μ' := μ1) (by rfl) ?_
          refine zq_ic hc hH (by rfl) (tg := 155) (by rfl) (fun _ => ?_) (fun h9 => (zb_t (by rw [x4.1]; exact decide_eq_true hh9) h9).elim)
          refine z_rcs hc hH 2 (pc' := 158) (lv' := [(9, .int 0), (8, .int (nI lf)), (7, .int (nI (t i))), (6, .int (nI i)), (5, .int (nI (sh2 r i))), (4, .int (nI (sh1 r i))), (3, .int (nI (q + (flt t r i 0).length))), (0, .ref 14), (1, .long ch)]) (st' := []) (μ' := μ1) (by rfl) ?_
          refine (fw158_0 d' Z hd μ w p v hw hp h2p hv h15 ht ch t ht9 q hq e4 sL lL hc hr i (t i) lf (flt t r i 0) _ _ (by omega) (by omega) (fun μ2 g2 x7 x8 x9 => ?_) (t i + lf) 0 (by omega) μ1 (by rw [show flt t r i 0 ++ rwX i (t i) 0 = flt t r i 0 from List.append_nil _]; exact g)).1
          rw [rwX_b] at g2
          have hr' : ∀ k, k < i → (fun k => if k = i then lf else r k) k = r k := fun k hk => if_neg (by omega)
          have ef : flt t (fun k => if k = i then lf else r k) (i + 1) 0 = flt t r i 0 ++ (List.replicate (t i) (1, i) ++ List.replicate lf (0, i)) := by
            rw [flt_snoc, Nat.zero_add, flt_congr i 0 (fun j _ h2 => ⟨rfl, hr' j (by omega)⟩)]
            show _ ++ (_ ++ List.replicate (if i = i then lf else r i) (0, i)) = _
            rw [if_pos rfl]
          have el : (flt t (fun k => if k = i then lf else r k) (i + 1) 0).length = (flt t r i 0).length + (t i + lf) := by rw [ef, List.length_append, List.length_append, List.length_replicate, List.length_replicate]
          have s1 : sh1 (fun k => if k = i then lf else r k) (i + 1) = lf := if_pos rfl
          have s2 : sh2 (fun k => if k = i then lf else r k) (i + 1) = sh1 r i := (sh_eq hr').1
          have hP2 : PF v t (fun k => if k = i then lf else r k) (i + 1) := by
            refine ⟨fun k hk => ?_, fun k hk => ?_⟩
            · by_cases e : k = i
              · rw [e]; refine ⟨hrs (fun z => hk (by show (if k = i then lf else r k) = 0; rw [if_pos e, z])), by omega⟩
              · have hk : (if k = i then lf else r k) ≠ 0 := hk
                rw [if_neg e] at hk; have := hP.1 k hk; exact ⟨this.1, by omega⟩
            · by_cases e : k = i
              · rw [e]; have := sh_eq hr'; show v i = 3 * t i + (if i = i then lf else r i) + _ + _; rw [this.1, this.2, if_pos rfl]; exact hlf
              · have := sh_eq (i := k) (fun j hj => hr' j (by omega)); show v k = 3 * t k + (if k = i then lf else r k) + _ + _; rw [this.1, this.2, if_neg e]; exact hP.2 k (by omega)
          have z := (ih (i + 1) (by omega) (fun k => if k = i then lf else r k) hP2 (by rw [el]; omega) μ2 (by rw [ef]; exact g2)).2 x7 x8 x9
          rw [el, s1, s2, ← Nat.add_assoc] at z
          exact z
        · skip
          refine z_rcs hc hH 6 (pc' := 150) (lv' := [(8, .int (nI lf)), (7, .int (nI (t i))), (6, .int (nI i)), (5, .int (nI (sh2 r i))), (4, .int (nI (sh1 r i))), (3, .int (nI (q + (flt t r i 0).length))), (0, .ref 14), (1, .long ch)]) (st' := [.int 4, .int (((nI (q + (flt t r i 0).length)) + (nI (t i))) + (nI lf))]) (μ' := μ1) (by rfl) ?_
          refine zq_ic hc hH (by rfl) (tg := 155) (by rfl) (fun h9 => (zb_t h9 (by rw [x4.1]; exact decide_eq_false hh9)).elim) (fun _ => ?_)
          refine z_rcs hc hH 1 (pc' := 154) (lv' := [(8, .int (nI lf)), (7, .int (nI (t i))), (6, .int (nI i)), (5, .int (nI (sh2 r i))), (4, .int (nI (sh1 r i))), (3, .int (nI (q + (flt t r i 0).length))), (0, .ref 14), (1, .long ch)]) (st' := [.int 0]) (μ' := μ1) (by rfl) ?_
          exact hr 0 154 _ _ _ (some (.int 0)) (by decide +kernel) (z_rx_ok hH (by rfl)) (fail (fun ⟨r', hr', hs⟩ => by have := at_i r' hr'; have := sn_i r' hr'; omega))
      have j111 : Z 0 111 [(7, .int (nI (t i))), (6, .int (nI i)), (5, .int (nI (sh2 r i))), (4, .int (nI (sh1 r i))), (3, .int (nI (q + (flt t r i 0).length))), (0, .ref 14), (1, .long ch)] [.int (nI (v i))] μ1 := by
        by_cases hle : 3 * t i + sh1 r i + sh2 r i ≤ v i
        · have eX := xs.1 hle
          have bl : v i - (3 * t i + sh1 r i + sh2 r i) < 6 := by omega
          have nl := x_nl _ bl
          have J := j142 (v i - (3 * t i + sh1 r i + sh2 r i)) (by omega)
          refine z_rcs hc hH 8 (pc' := 122) (lv' := [(7, .int (nI (t i))), (6, .int (nI i)), (5, .int (nI (sh2 r i))), (4, .int (nI (sh1 r i))), (3, .int (nI (q + (flt t r i 0).length))), (0, .ref 14), (1, .long ch)]) (st' := [.int ((((nI (v i)) - (3 * (nI (t i)))) - (nI (sh1 r i))) - (nI (sh2 r i)))]) (μ' := μ1) (by rfl) ?_
          rw [eX]
          show Z 0 122 [(7, .int (nI (t i))), (6, .int (nI i)), (5, .int (nI (sh2 r i))), (4, .int (nI (sh1 r i))), (3, .int (nI (q + (flt t r i 0).length))), (0, .ref 14), (1, .long ch)] [.int (nI (v i - (3 * t i + sh1 r i + sh2 r i)))] μ1
          refine z_rcs hc hH 2 (pc' := 126) (lv' := [(8, .int (nI (v i - (3 * t i + sh1 r i + sh2 r i)))), (7, .int (nI (t i))), (6, .int (nI i)), (5, .int (nI (sh2 r i))), (4, .int (nI (sh1 r i))), (3, .int (nI (q + (flt t r i 0).length))), (0, .ref 14), (1, .long ch)]) (st' := [.int (nI (v i - (3 * t i + sh1 r i + sh2 r i)))]) (μ' := μ1) (by rfl) ?_
          refine zq_if hc hH (by rfl) (tg := 153) (by rfl) (fun h9 => (zb_t h9 (nl.1)).elim) (fun _ => ?_)
          refine z_rcs hc hH 1 (pc' := 131) (lv' := [(8, .int (nI (v i - (3 * t i + sh1 r i + sh2 r i)))), (7, .int (nI (t i))), (6, .int (nI i)), (5, .int (nI (sh2 r i))), (4, .int (nI (sh1 r i))), (3, .int (nI (q + (flt t r i 0).length))), (0, .ref 14), (1, .long ch)]) (st' := [.int (nI (v i - (3 * t i + sh1 r i + sh2 r i)))]) (μ' := μ1) (by rfl) ?_
          by_cases h0 : v i - (3 * t i + sh1 r i + sh2 r i) = 0
          · skip
            refine zq_if hc hH (by rfl) (tg := 142) (by rfl) (fun _ => ?_) (fun h9 => (zb_t (by rw [nl.2]; exact decide_eq_true h0) h9).elim)
            exact J (fun z => absurd h0 z)
          · skip
            refine zq_if hc hH (by rfl) (tg := 142) (by rfl) (fun h9 => (zb_t h9 (by rw [nl.2]; exact decide_eq_false h0)).elim) (fun _ => ?_)
            refine z_rcs hc hH 1 (pc' := 136) (lv' := [(8, .int (nI (v i - (3 * t i + sh1 r i + sh2 r i)))), (7, .int (nI (t i))), (6, .int (nI i)), (5, .int (nI (sh2 r i))), (4, .int (nI (sh1 r i))), (3, .int (nI (q + (flt t r i 0).length))), (0, .ref 14), (1, .long ch)]) (st' := [.int (nI i)]) (μ' := μ1) (by rfl) ?_
            refine zq_call hc (z_cx_ok hH (by rfl)) (fc_X6_startsRun d' (by omega) μ1 (nI i)) (by decide +kernel) (fun r9 μ9 hq => ?_)
            obtain ⟨hμ9, hq⟩ := hq
            rw [hμ9]
            clear hμ9 μ9
            obtain ⟨rfl, hsr⟩ | ⟨rfl, hsr⟩ := hq
            · show Z 0 139 [(8, .int (nI (v i - (3 * t i + sh1 r i + sh2 r i)))), (7, .int (nI (t i))), (6, .int (nI i)), (5, .int (nI (sh2 r i))), (4, .int (nI (sh1 r i))), (3, .int (nI (q + (flt t r i 0).length))), (0, .ref 14), (1, .long ch)] [.int 1] μ1
              refine z_rcs hc hH 1 (pc' := 142) (lv' := [(8, .int (nI (v i - (3 * t i + sh1 r i + sh2 r i)))), (7, .int (nI (t i))), (6, .int (nI i)), (5, .int (nI (sh2 r i))), (4, .int (nI (sh1 r i))), (3, .int (nI (q + (flt t r i 0).length))), (0, .ref 14), (1, .long ch)]) (st' := []) (μ' := μ1) (by rfl) ?_
              exact J (fun _ => (sr_rs i (by omega)).mp hsr)
            · show Z 0 139 [(8, .int (nI (v i - (3 * t i + sh1 r i + sh2 r i)))), (7, .int (nI (t i))), (6, .int (nI i)), (5, .int (nI (sh2 r i))), (4, .int (nI (sh1 r i))), (3, .int (nI (q + (flt t r i 0).length))), (0, .ref 14), (1, .long ch)] [.int 0] μ1
              refine z_rcs hc hH 2 (pc' := 154) (lv' := [(8, .int (nI (v i - (3 * t i + sh1 r i + sh2 r i)))), (7, .int (nI (t i))), (6, .int (nI i)), (5, .int (nI (sh2 r i))), (4, .int (nI (sh1 r i))), (3, .int (nI (q + (flt t r i 0).length))), (0, .ref 14), (1, .long ch)]) (st' := [.int 0]) (μ' := μ1) (by rfl) ?_
              exact hr 0 154 _ _ _ (some (.int 0)) (by decide +kernel) (z_rx_ok hH (by rfl)) (fail (fun ⟨r', hr', hs⟩ => by have := at_i r' hr'; exact hsr ((sr_rs i (by omega)).mpr (hr'.1 i (by omega)))))
        · have lX := xs.2 hle
          refine z_rcs hc hH 10 (pc' := 126) (lv' := [(8, .int ((((nI (v i)) - (3 * (nI (t i)))) - (nI (sh1 r i))) - (nI (sh2 r i)))), (7, .int (nI (t i))), (6, .int (nI i)), (5, .int (nI (sh2 r i))), (4, .int (nI (sh1 r i))), (3, .int (nI (q + (flt t r i 0).length))), (0, .ref 14), (1, .long ch)]) (st' := [.int ((((nI (v i)) - (3 * (nI (t i)))) - (nI (sh1 r i))) - (nI (sh2 r i)))]) (μ' := μ1) (by rfl) ?_
          refine zq_if hc hH (by rfl) (tg := 153) (by rfl) (fun _ => ?_) (fun h9 => (zb_t (lX) h9).elim)
          refine z_rcs hc hH 1 (pc' := 154) (lv' := [(8, .int ((((nI (v i)) - (3 * (nI (t i)))) - (nI (sh1 r i))) - (nI (sh2 r i)))), (7, .int (nI (t i))), (6, .int (nI i)), (5, .int (nI (sh2 r i))), (4, .int (nI (sh1 r i))), (3, .int (nI (q + (flt t r i 0).length))), (0, .ref 14), (1, .long ch)]) (st' := [.int 0]) (μ' := μ1) (by rfl) ?_
          exact hr 0 154 _ _ _ (some (.int 0)) (by decide +kernel) (z_rx_ok hH (by rfl)) (fail (fun ⟨r', hr', hs⟩ => by have := at_i r' hr'; omega))
      have j86 : Z 0 86 [(7, .int (nI (t i))), (6, .int (nI i)), (5, .int (nI (sh2 r i))), (4, .int (nI (sh1 r i))), (3, .int (nI (q + (flt t r i 0).length))), (0, .ref 14), (1, .long ch)] [] μ1 := by
        refine z_rcs hc hH 1 (pc' := 87) (lv' := [(7, .int (nI (t i))), (6, .int (nI i)), (5, .int (nI (sh2 r i))), (4, .int (nI (sh1 r i))), (3, .int (nI (q + (flt t r i 0).length))), (0, .ref 14), (1, .long ch)]) (st' := [.ref 14]) (μ' := μ1) (by rfl) ?_
        refine zq_tget hc hH (by rfl) (ci := 0) (f := 5) (t := 9) (by decide +kernel) ht1 (by decide) ?_
        show Z 0 90 [(7, .int (nI (t i))), (6, .int (nI i)), (5, .int (nI (sh2 r i))), (4, .int (nI (sh1 r i))), (3, .int (nI (q + (flt t r i 0).length))), (0, .ref 14), (1, .long ch)] [.ref 9] μ1
        refine z_rcs hc hH 2 (pc' := 95) (lv' := [(7, .int (nI (t i))), (6, .int (nI i)), (5, .int (nI (sh2 r i))), (4, .int (nI (sh1 r i))), (3, .int (nI (q + (flt t r i 0).length))), (0, .ref 14), (1, .long ch)]) (st' := [.int (nI i), .ref 10]) (μ' := μ1) (by rfl) ?_
        refine zq_iald hc hH (by rfl) 34 (by decide +kernel) (hin) ?_
        rw [ei, wi]
        show Z 0 96 [(7, .int (nI (t i))), (6, .int (nI i)), (5, .int (nI (sh2 r i))), (4, .int (nI (sh1 r i))), (3, .int (nI (q + (flt t r i 0).length))), (0, .ref 14), (1, .long ch)] [.int (nI (w i))] μ1
        refine z_rcs hc hH 3 (pc' := 102) (lv' := [(7, .int (nI (t i))), (6, .int (nI i)), (5, .int (nI (sh2 r i))), (4, .int (nI (sh1 r i))), (3, .int (nI (q + (flt t r i 0).length))), (0, .ref 14), (1, .long ch)]) (st' := [.int (μ1.1 14 15), .int (nI i), .int (nI (w i))]) (μ' := μ1) (by rfl) ?_
        rw [e151]
        show Z 0 102 [(7, .int (nI (t i))), (6, .int (nI i)), (5, .int (nI (sh2 r i))), (4, .int (nI (sh1 r i))), (3, .int (nI (q + (flt t r i 0).length))), (0, .ref 14), (1, .long ch)] [.int (nI p), .int (nI i), .int (nI (w i))] μ1
        refine zq_ic hc hH (by rfl) (tg := 109) (by rfl) (fun h1 => ?_) (fun h1 => ?_)
        · have h1 := cm_ne.mp h1
          refine z_rcs hc hH 2 (pc' := 111) (lv' := [(7, .int (nI (t i))), (6, .int (nI i)), (5, .int (nI (sh2 r i))), (4, .int (nI (sh1 r i))), (3, .int (nI (q + (flt t r i 0).length))), (0, .ref 14), (1, .long ch)]) (st' := [.int ((nI (w i)) - 0)]) (μ' := μ1) (by rfl) ?_
          have ev : nI (w i) - 0 = nI (v i) := by rw [hv, if_neg (fun z => h1 (by rw [z])), Int32.sub_zero]
          rw [ev]
          exact j111
        · have h1 := cn_ne.mp h1
          refine z_rcs hc hH 3 (pc' := 111) (lv' := [(7, .int (nI (t i))), (6, .int (nI i)), (5, .int (nI (sh2 r i))), (4, .int (nI (sh1 r i))), (3, .int (nI (q + (flt t r i 0).length))), (0, .ref 14), (1, .long ch)]) (st' := [.int ((nI (w i)) - 2)]) (μ' := μ1) (by rfl) ?_
          have hip : i = p := (nI_eq (by omega) (by omega)).mp h1
          have ev : nI (w i) - 2 = nI (v i) := by rw [hv, if_pos hip]; exact l_2 (w i) (by omega) (by rw [hip]; exact h2p)
          rw [ev]
          exact j111
      refine z_rcs hc hH 2 (pc' := 67) (lv' := [(6, .int (nI i)), (5, .int (nI (sh2 r i))), (4, .int (nI (sh1 r i))), (3, .int (nI (q + (flt t r i 0).length))), (0, .ref 14), (1, .long ch)]) (st' := [.int 34, .int (nI i)]) (μ' := μ1) (by rfl) ?_
      refine zq_ic hc hH (by rfl) (tg := 222) (by rfl) (fun h9 => (zb_t h9 (ge_nI (n := 34) (i := i) (by omega) (by decide))).elim) (fun _ => ?_)
      refine z_rcs hc hH 2 (pc' := 73) (lv' := [(6, .int (nI i)), (5, .int (nI (sh2 r i))), (4, .int (nI (sh1 r i))), (3, .int (nI (q + (flt t r i 0).length))), (0, .ref 14), (1, .long ch)]) (st' := [.int (nI i), .long ch]) (μ' := μ1) (by rfl) ?_
      refine zq_call hc (z_cx_ok hH (by rfl)) (fb_X6_holds d' (by omega) μ1 ch (nI i)) (by decide +kernel) (fun r9 μ9 hq => ?_)
      obtain ⟨hμ9, rfl⟩ := hq
      rw [hμ9]
      clear hμ9 μ9
      show Z 0 76 [(6, .int (nI i)), (5, .int (nI (sh2 r i))), (4, .int (nI (sh1 r i))), (3, .int (nI (q + (flt t r i 0).length))), (0, .ref 14), (1, .long ch)] [.int (nB (xHd ch (nI i)))] μ1
      have tdef := ht9 i
      unfold tH at tdef
      generalize xHd ch (nI i) = bb at tdef ⊢
      show Z 0 76 [(6, .int (nI i)), (5, .int (nI (sh2 r i))), (4, .int (nI (sh1 r i))), (3, .int (nI (q + (flt t r i 0).length))), (0, .ref 14), (1, .long ch)] [.int (nB bb)] μ1
      refine zq_if hc hH (by rfl) (tg := 83) (by rfl) (fun h1 => ?_) (fun h1 => ?_)
      · have h1 := cm_eq9.mp h1
        refine z_rcs hc hH 1 (pc' := 84) (lv' := [(6, .int (nI i)), (5, .int (nI (sh2 r i))), (4, .int (nI (sh1 r i))), (3, .int (nI (q + (flt t r i 0).length))), (0, .ref 14), (1, .long ch)]) (st' := [.int 0]) (μ' := μ1) (by rfl) ?_
        have eb : bb = false := nB_z.mp h1
        rw [eb, if_neg (by decide)] at tdef
        refine z_rcs hc hH 1 (pc' := 86) (lv' := [(7, .int 0), (6, .int (nI i)), (5, .int (nI (sh2 r i))), (4, .int (nI (sh1 r i))), (3, .int (nI (q + (flt t r i 0).length))), (0, .ref 14), (1, .long ch)]) (st' := []) (μ' := μ1) (by rfl) ?_
        have j := j86
        exact zJ j86 (by rw [tdef]; rfl) rfl rfl
      · have h1 := cn_eq.mp h1
        refine z_rcs hc hH 2 (pc' := 84) (lv' := [(6, .int (nI i)), (5, .int (nI (sh2 r i))), (4, .int (nI (sh1 r i))), (3, .int (nI (q + (flt t r i 0).length))), (0, .ref 14), (1, .long ch)]) (st' := [.int 1]) (μ' := μ1) (by rfl) ?_
        have eb : bb = true := nB_n.mp h1
        rw [eb, if_pos rfl] at tdef
        refine z_rcs hc hH 1 (pc' := 86) (lv' := [(7, .int 1), (6, .int (nI i)), (5, .int (nI (sh2 r i))), (4, .int (nI (sh1 r i))), (3, .int (nI (q + (flt t r i 0).length))), (0, .ref 14), (1, .long ch)]) (st' := []) (μ' := μ1) (by rfl) ?_
        have j := j86
        exact zJ j86 (by rw [tdef]; rfl) rfl rfl
    · skip
      have j142 : ∀ lf, v i = 3 * t i + lf + sh1 r i + sh2 r i → (lf ≠ 0 → rs i) → Z 0 142 [(8, .int (nI lf)), (7, .int (nI (t i))), (6, .int (nI i)), (4, .int (nI (sh1 r i))), (5, .int (nI (sh2 r i))), (9, .int x9), (3, .int (nI (q + (flt t r i 0).length))), (0, .ref 14), (1, .long ch)] [] μ1 := by
        intro lf hlf hrs
        have blf : lf < 6 := by omega
        have x4 := x_s4 (q + (flt t r i 0).length) (by omega) (t i) (by omega) lf blf
        by_cases hh9 : q + (flt t r i 0).length + t i + lf ≤ 4
        · skip
          refine z_rcs hc hH 6 (pc' := 150) (lv' := [(8, .int (nI lf)), (7, .int (nI (t i))), (6, .int (nI i)), (4, .int (nI (sh1 r i))), (5, .int (nI (sh2 r i))), (9, .int x9), (3, .int (nI (q + (flt t r i 0).length))), (0, .ref 14), (1, .long ch)]) (st' := [.int 4, .int (((nI (q + (flt t r i 0).length)) + (nI (t i))) + (nI lf))]) (μ' := μ1) (by rfl) ?_
          refine zq_ic hc hH (by rfl) (tg := 155) (by rfl) (fun _ => ?_) (fun h9 => (zb_t (by rw [x4.1]; exact decide_eq_true hh9) h9).elim)
          refine z_rcs hc hH 2 (pc' := 158) (lv' := [(9, .int 0), (8, .int (nI lf)), (7, .int (nI (t i))), (6, .int (nI i)), (4, .int (nI (sh1 r i))), (5, .int (nI (sh2 r i))), (3, .int (nI (q + (flt t r i 0).length))), (0, .ref 14), (1, .long ch)]) (st' := []) (μ' := μ1) (by rfl) ?_
          refine (fw158_1 d' Z hd μ w p v hw hp h2p hv h15 ht ch t ht9 q hq e4 sL lL hc hr i (t i) lf (flt t r i 0) _ _ (by omega) (by omega) (fun μ2 g2 x7 x8 x9 => ?_) (t i + lf) 0 (by omega) μ1 (by rw [show flt t r i 0 ++ rwX i (t i) 0 = flt t r i 0 from List.append_nil _]; exact g)).1
          rw [rwX_b] at g2
          have hr' : ∀ k, k < i → (fun k => if k = i then lf else r k) k = r k := fun k hk => if_neg (by omega)
          have ef : flt t (fun k => if k = i then lf else r k) (i + 1) 0 = flt t r i 0 ++ (List.replicate (t i) (1, i) ++ List.replicate lf (0, i)) := by
            rw [flt_snoc, Nat.zero_add, flt_congr i 0 (fun j _ h2 => ⟨rfl, hr' j (by omega)⟩)]
            show _ ++ (_ ++ List.replicate (if i = i then lf else r i) (0, i)) = _
            rw [if_pos rfl]
          have el : (flt t (fun k => if k = i then lf else r k) (i + 1) 0).length = (flt t r i 0).length + (t i + lf) := by rw [ef, List.length_append, List.length_append, List.length_replicate, List.length_replicate]
          have s1 : sh1 (fun k => if k = i then lf else r k) (i + 1) = lf := if_pos rfl
          have s2 : sh2 (fun k => if k = i then lf else r k) (i + 1) = sh1 r i := (sh_eq hr').1
          have hP2 : PF v t (fun k => if k = i then lf else r k) (i + 1) := by
            refine ⟨fun k hk => ?_, fun k hk => ?_⟩
            · by_cases e : k = i
              · rw [e]; refine ⟨hrs (fun z => hk (by show (if k = i then lf else r k) = 0; rw [if_pos e, z])), by omega⟩
              · have hk : (if k = i then lf else r k) ≠ 0 := hk
                rw [if_neg e] at hk; have := hP.1 k hk; exact ⟨this.1, by omega⟩
            · by_cases e : k = i
              · rw [e]; have := sh_eq hr'; show v i = 3 * t i + (if i = i then lf else r i) + _ + _; rw [this.1, this.2, if_pos rfl]; exact hlf
              · have := sh_eq (i := k) (fun j hj => hr' j (by omega)); show v k = 3 * t k + (if k = i then lf else r k) + _ + _; rw [this.1, this.2, if_neg e]; exact hP.2 k (by omega)
          have z := (ih (i + 1) (by omega) (fun k => if k = i then lf else r k) hP2 (by rw [el]; omega) μ2 (by rw [ef]; exact g2)).2 x7 x8 x9
          rw [el, s1, s2, ← Nat.add_assoc] at z
          exact z
        · skip
          refine z_rcs hc hH 6 (pc' := 150) (lv' := [(8, .int (nI lf)), (7, .int (nI (t i))), (6, .int (nI i)), (4, .int (nI (sh1 r i))), (5, .int (nI (sh2 r i))), (9, .int x9), (3, .int (nI (q + (flt t r i 0).length))), (0, .ref 14), (1, .long ch)]) (st' := [.int 4, .int (((nI (q + (flt t r i 0).length)) + (nI (t i))) + (nI lf))]) (μ' := μ1) (by rfl) ?_
          refine zq_ic hc hH (by rfl) (tg := 155) (by rfl) (fun h9 => (zb_t h9 (by rw [x4.1]; exact decide_eq_false hh9)).elim) (fun _ => ?_)
          refine z_rcs hc hH 1 (pc' := 154) (lv' := [(8, .int (nI lf)), (7, .int (nI (t i))), (6, .int (nI i)), (4, .int (nI (sh1 r i))), (5, .int (nI (sh2 r i))), (9, .int x9), (3, .int (nI (q + (flt t r i 0).length))), (0, .ref 14), (1, .long ch)]) (st' := [.int 0]) (μ' := μ1) (by rfl) ?_
          exact hr 0 154 _ _ _ (some (.int 0)) (by decide +kernel) (z_rx_ok hH (by rfl)) (fail (fun ⟨r', hr', hs⟩ => by have := at_i r' hr'; have := sn_i r' hr'; omega))
      have j111 : Z 0 111 [(7, .int (nI (t i))), (6, .int (nI i)), (4, .int (nI (sh1 r i))), (5, .int (nI (sh2 r i))), (9, .int x9), (8, .int x8), (3, .int (nI (q + (flt t r i 0).length))), (0, .ref 14), (1, .long ch)] [.int (nI (v i))] μ1 := by
        by_cases hle : 3 * t i + sh1 r i + sh2 r i ≤ v i
        · have eX := xs.1 hle
          have bl : v i - (3 * t i + sh1 r i + sh2 r i) < 6 := by omega
          have nl := x_nl _ bl
          have J := j142 (v i - (3 * t i + sh1 r i + sh2 r i)) (by omega)
          refine z_rcs hc hH 8 (pc' := 122) (lv' := [(7, .int (nI (t i))), (6, .int (nI i)), (4, .int (nI (sh1 r i))), (5, .int (nI (sh2 r i))), (9, .int x9), (8, .int x8), (3, .int (nI (q + (flt t r i 0).length))), (0, .ref 14), (1, .long ch)]) (st' := [.int ((((nI (v i)) - (3 * (nI (t i)))) - (nI (sh1 r i))) - (nI (sh2 r i)))]) (μ' := μ1) (by rfl) ?_
          rw [eX]
          show Z 0 122 [(7, .int (nI (t i))), (6, .int (nI i)), (4, .int (nI (sh1 r i))), (5, .int (nI (sh2 r i))), (9, .int x9), (8, .int x8), (3, .int (nI (q + (flt t r i 0).length))), (0, .ref 14), (1, .long ch)] [.int (nI (v i - (3 * t i + sh1 r i + sh2 r i)))] μ1
          refine z_rcs hc hH 2 (pc' := 126) (lv' := [(8, .int (nI (v i - (3 * t i + sh1 r i + sh2 r i)))), (7, .int (nI (t i))), (6, .int (nI i)), (4, .int (nI (sh1 r i))), (5, .int (nI (sh2 r i))), (9, .int x9), (3, .int (nI (q + (flt t r i 0).length))), (0, .ref 14), (1, .long ch)]) (st' := [.int (nI (v i - (3 * t i + sh1 r i + sh2 r i)))]) (μ' := μ1) (by rfl) ?_
          refine zq_if hc hH (by rfl) (tg := 153) (by rfl) (fun h9 => (zb_t h9 (nl.1)).elim) (fun _ => ?_)
          refine z_rcs hc hH 1 (pc' := 131) (lv' := [(8, .int (nI (v i - (3 * t i + sh1 r i + sh2 r i)))), (7, .int (nI (t i))), (6, .int (nI i)), (4, .int (nI (sh1 r i))), (5, .int (nI (sh2 r i))), (9, .int x9), (3, .int (nI (q + (flt t r i 0).length))), (0, .ref 14), (1, .long ch)]) (st' := [.int (nI (v i - (3 * t i + sh1 r i + sh2 r i)))]) (μ' := μ1) (by rfl) ?_
          by_cases h0 : v i - (3 * t i + sh1 r i + sh2 r i) = 0
          · skip
            refine zq_if hc hH (by rfl) (tg := 142) (by rfl) (fun _ => ?_) (fun h9 => (zb_t (by rw [nl.2]; exact decide_eq_true h0) h9).elim)
            exact J (fun z => absurd h0 z)
          · skip
            refine zq_if hc hH (by rfl) (tg := 142) (by rfl) (fun h9 => (zb_t h9 (by rw [nl.2]; exact decide_eq_false h0)).elim) (fun _ => ?_)
            refine z_rcs hc hH 1 (pc' := 136) (lv' := [(8, .int (nI (v i - (3 * t i + sh1 r i + sh2 r i)))), (7, .int (nI (t i))), (6, .int (nI i)), (4, .int (nI (sh1 r i))), (5, .int (nI (sh2 r i))), (9, .int x9), (3, .int (nI (q + (flt t r i 0).length))), (0, .ref 14), (1, .long ch)]) (st' := [.int (nI i)]) (μ' := μ1) (by rfl) ?_
            refine zq_call hc (z_cx_ok hH (by rfl)) (fc_X6_startsRun d' (by omega) μ1 (nI i)) (by decide +kernel) (fun r9 μ9 hq => ?_)
            obtain ⟨hμ9, hq⟩ := hq
            rw [hμ9]
            clear hμ9 μ9
            obtain ⟨rfl, hsr⟩ | ⟨rfl, hsr⟩ := hq
            · show Z 0 139 [(8, .int (nI (v i - (3 * t i + sh1 r i + sh2 r i)))), (7, .int (nI (t i))), (6, .int (nI i)), (4, .int (nI (sh1 r i))), (5, .int (nI (sh2 r i))), (9, .int x9), (3, .int (nI (q + (flt t r i 0).length))), (0, .ref 14), (1, .long ch)] [.int 1] μ1
              refine z_rcs hc hH 1 (pc' := 142) (lv' := [(8, .int (nI (v i - (3 * t i + sh1 r i + sh2 r i)))), (7, .int (nI (t i))), (6, .int (nI i)), (4, .int (nI (sh1 r i))), (5, .int (nI (sh2 r i))), (9, .int x9), (3, .int (nI (q + (flt t r i 0).length))), (0, .ref 14), (1, .long ch)]) (st' := []) (μ' := μ1) (by rfl) ?_
              exact J (fun _ => (sr_rs i (by omega)).mp hsr)
            · show Z 0 139 [(8, .int (nI (v i - (3 * t i + sh1 r i + sh2 r i)))), (7, .int (nI (t i))), (6, .int (nI i)), (4, .int (nI (sh1 r i))), (5, .int (nI (sh2 r i))), (9, .int x9), (3, .int (nI (q + (flt t r i 0).length))), (0, .ref 14), (1, .long ch)] [.int 0] μ1
              refine z_rcs hc hH 2 (pc' := 154) (lv' := [(8, .int (nI (v i - (3 * t i + sh1 r i + sh2 r i)))), (7, .int (nI (t i))), (6, .int (nI i)), (4, .int (nI (sh1 r i))), (5, .int (nI (sh2 r i))), (9, .int x9), (3, .int (nI (q + (flt t r i 0).length))), (0, .ref 14), (1, .long ch)]) (st' := [.int 0]) (μ' := μ1) (by rfl) ?_
              exact hr 0 154 _ _ _ (some (.int 0)) (by decide +kernel) (z_rx_ok hH (by rfl)) (fail (fun ⟨r', hr', hs⟩ => by have := at_i r' hr'; exact hsr ((sr_rs i (by omega)).mpr (hr'.1 i (by omega)))))
        · have lX := xs.2 hle
          refine z_rcs hc hH 10 (pc' := 126) (lv' := [(8, .int ((((nI (v i)) - (3 * (nI (t i)))) - (nI (sh1 r i))) - (nI (sh2 r i)))), (7, .int (nI (t i))), (6, .int (nI i)), (4, .int (nI (sh1 r i))), (5, .int (nI (sh2 r i))), (9, .int x9), (3, .int (nI (q + (flt t r i 0).length))), (0, .ref 14), (1, .long ch)]) (st' := [.int ((((nI (v i)) - (3 * (nI (t i)))) - (nI (sh1 r i))) - (nI (sh2 r i)))]) (μ' := μ1) (by rfl) ?_
          refine zq_if hc hH (by rfl) (tg := 153) (by rfl) (fun _ => ?_) (fun h9 => (zb_t (lX) h9).elim)
          refine z_rcs hc hH 1 (pc' := 154) (lv' := [(8, .int ((((nI (v i)) - (3 * (nI (t i)))) - (nI (sh1 r i))) - (nI (sh2 r i)))), (7, .int (nI (t i))), (6, .int (nI i)), (4, .int (nI (sh1 r i))), (5, .int (nI (sh2 r i))), (9, .int x9), (3, .int (nI (q + (flt t r i 0).length))), (0, .ref 14), (1, .long ch)]) (st' := [.int 0]) (μ' := μ1) (by rfl) ?_
          exact hr 0 154 _ _ _ (some (.int 0)) (by decide +kernel) (z_rx_ok hH (by rfl)) (fail (fun ⟨r', hr', hs⟩ => by have := at_i r' hr'; omega))
      have j86 : Z 0 86 [(7, .int (nI (t i))), (6, .int (nI i)), (4, .int (nI (sh1 r i))), (5, .int (nI (sh2 r i))), (9, .int x9), (8, .int x8), (3, .int (nI (q + (flt t r i 0).length))), (0, .ref 14), (1, .long ch)] [] μ1 := by
        refine z_rcs hc hH 1 (pc' := 87) (lv' := [(7, .int (nI (t i))), (6, .int (nI i)), (4, .int (nI (sh1 r i))), (5, .int (nI (sh2 r i))), (9, .int x9), (8, .int x8), (3, .int (nI (q + (flt t r i 0).length))), (0, .ref 14), (1, .long ch)]) (st' := [.ref 14]) (μ' := μ1) (by rfl) ?_
        refine zq_tget hc hH (by rfl) (ci := 0) (f := 5) (t := 9) (by decide +kernel) ht1 (by decide) ?_
        show Z 0 90 [(7, .int (nI (t i))), (6, .int (nI i)), (4, .int (nI (sh1 r i))), (5, .int (nI (sh2 r i))), (9, .int x9), (8, .int x8), (3, .int (nI (q + (flt t r i 0).length))), (0, .ref 14), (1, .long ch)] [.ref 9] μ1
        refine z_rcs hc hH 2 (pc' := 95) (lv' := [(7, .int (nI (t i))), (6, .int (nI i)), (4, .int (nI (sh1 r i))), (5, .int (nI (sh2 r i))), (9, .int x9), (8, .int x8), (3, .int (nI (q + (flt t r i 0).length))), (0, .ref 14), (1, .long ch)]) (st' := [.int (nI i), .ref 10]) (μ' := μ1) (by rfl) ?_
        refine zq_iald hc hH (by rfl) 34 (by decide +kernel) (hin) ?_
        rw [ei, wi]
        show Z 0 96 [(7, .int (nI (t i))), (6, .int (nI i)), (4, .int (nI (sh1 r i))), (5, .int (nI (sh2 r i))), (9, .int x9), (8, .int x8), (3, .int (nI (q + (flt t r i 0).length))), (0, .ref 14), (1, .long ch)] [.int (nI (w i))] μ1
        refine z_rcs hc hH 3 (pc' := 102) (lv' := [(7, .int (nI (t i))), (6, .int (nI i)), (4, .int (nI (sh1 r i))), (5, .int (nI (sh2 r i))), (9, .int x9), (8, .int x8), (3, .int (nI (q + (flt t r i 0).length))), (0, .ref 14), (1, .long ch)]) (st' := [.int (μ1.1 14 15), .int (nI i), .int (nI (w i))]) (μ' := μ1) (by rfl) ?_
        rw [e151]
        show Z 0 102 [(7, .int (nI (t i))), (6, .int (nI i)), (4, .int (nI (sh1 r i))), (5, .int (nI (sh2 r i))), (9, .int x9), (8, .int x8), (3, .int (nI (q + (flt t r i 0).length))), (0, .ref 14), (1, .long ch)] [.int (nI p), .int (nI i), .int (nI (w i))] μ1
        refine zq_ic hc hH (by rfl) (tg := 109) (by rfl) (fun h1 => ?_) (fun h1 => ?_)
        · have h1 := cm_ne.mp h1
          refine z_rcs hc hH 2 (pc' := 111) (lv' := [(7, .int (nI (t i))), (6, .int (nI i)), (4, .int (nI (sh1 r i))), (5, .int (nI (sh2 r i))), (9, .int x9), (8, .int x8), (3, .int (nI (q + (flt t r i 0).length))), (0, .ref 14), (1, .long ch)]) (st' := [.int ((nI (w i)) - 0)]) (μ' := μ1) (by rfl) ?_
          have ev : nI (w i) - 0 = nI (v i) := by rw [hv, if_neg (fun z => h1 (by rw [z])), Int32.sub_zero]
          rw [ev]
          exact j111
        · have h1 := cn_ne.mp h1
          refine z_rcs hc hH 3 (pc' := 111) (lv' := [(7, .int (nI (t i))), (6, .int (nI i)), (4, .int (nI (sh1 r i))), (5, .int (nI (sh2 r i))), (9, .int x9), (8, .int x8), (3, .int (nI (q + (flt t r i 0).length))), (0, .ref 14), (1, .long ch)]) (st' := [.int ((nI (w i)) - 2)]) (μ' := μ1) (by rfl) ?_
          have hip : i = p := (nI_eq (by omega) (by omega)).mp h1
          have ev : nI (w i) - 2 = nI (v i) := by rw [hv, if_pos hip]; exact l_2 (w i) (by omega) (by rw [hip]; exact h2p)
          rw [ev]
          exact j111
      refine z_rcs hc hH 2 (pc' := 67) (lv' := [(6, .int (nI i)), (4, .int (nI (sh1 r i))), (5, .int (nI (sh2 r i))), (9, .int x9), (8, .int x8), (7, .int x7), (3, .int (nI (q + (flt t r i 0).length))), (0, .ref 14), (1, .long ch)]) (st' := [.int 34, .int (nI i)]) (μ' := μ1) (by rfl) ?_
      refine zq_ic hc hH (by rfl) (tg := 222) (by rfl) (fun h9 => (zb_t h9 (ge_nI (n := 34) (i := i) (by omega) (by decide))).elim) (fun _ => ?_)
      refine z_rcs hc hH 2 (pc' := 73) (lv' := [(6, .int (nI i)), (4, .int (nI (sh1 r i))), (5, .int (nI (sh2 r i))), (9, .int x9), (8, .int x8), (7, .int x7), (3, .int (nI (q + (flt t r i 0).length))), (0, .ref 14), (1, .long ch)]) (st' := [.int (nI i), .long ch]) (μ' := μ1) (by rfl) ?_
      refine zq_call hc (z_cx_ok hH (by rfl)) (fb_X6_holds d' (by omega) μ1 ch (nI i)) (by decide +kernel) (fun r9 μ9 hq => ?_)
      obtain ⟨hμ9, rfl⟩ := hq
      rw [hμ9]
      clear hμ9 μ9
      show Z 0 76 [(6, .int (nI i)), (4, .int (nI (sh1 r i))), (5, .int (nI (sh2 r i))), (9, .int x9), (8, .int x8), (7, .int x7), (3, .int (nI (q + (flt t r i 0).length))), (0, .ref 14), (1, .long ch)] [.int (nB (xHd ch (nI i)))] μ1
      have tdef := ht9 i
      unfold tH at tdef
      generalize xHd ch (nI i) = bb at tdef ⊢
      show Z 0 76 [(6, .int (nI i)), (4, .int (nI (sh1 r i))), (5, .int (nI (sh2 r i))), (9, .int x9), (8, .int x8), (7, .int x7), (3, .int (nI (q + (flt t r i 0).length))), (0, .ref 14), (1, .long ch)] [.int (nB bb)] μ1
      refine zq_if hc hH (by rfl) (tg := 83) (by rfl) (fun h1 => ?_) (fun h1 => ?_)
      · have h1 := cm_eq9.mp h1
        refine z_rcs hc hH 1 (pc' := 84) (lv' := [(6, .int (nI i)), (4, .int (nI (sh1 r i))), (5, .int (nI (sh2 r i))), (9, .int x9), (8, .int x8), (7, .int x7), (3, .int (nI (q + (flt t r i 0).length))), (0, .ref 14), (1, .long ch)]) (st' := [.int 0]) (μ' := μ1) (by rfl) ?_
        have eb : bb = false := nB_z.mp h1
        rw [eb, if_neg (by decide)] at tdef
        refine z_rcs hc hH 1 (pc' := 86) (lv' := [(7, .int 0), (6, .int (nI i)), (4, .int (nI (sh1 r i))), (5, .int (nI (sh2 r i))), (9, .int x9), (8, .int x8), (3, .int (nI (q + (flt t r i 0).length))), (0, .ref 14), (1, .long ch)]) (st' := []) (μ' := μ1) (by rfl) ?_
        have j := j86
        exact zJ j86 (by rw [tdef]; rfl) rfl rfl
      · have h1 := cn_eq.mp h1
        refine z_rcs hc hH 2 (pc' := 84) (lv' := [(6, .int (nI i)), (4, .int (nI (sh1 r i))), (5, .int (nI (sh2 r i))), (9, .int x9), (8, .int x8), (7, .int x7), (3, .int (nI (q + (flt t r i 0).length))), (0, .ref 14), (1, .long ch)]) (st' := [.int 1]) (μ' := μ1) (by rfl) ?_
        have eb : bb = true := nB_n.mp h1
        rw [eb, if_pos rfl] at tdef
        refine z_rcs hc hH 1 (pc' := 86) (lv' := [(7, .int 1), (6, .int (nI i)), (4, .int (nI (sh1 r i))), (5, .int (nI (sh2 r i))), (9, .int x9), (8, .int x8), (3, .int (nI (q + (flt t r i 0).length))), (0, .ref 14), (1, .long ch)]) (st' := []) (μ' := μ1) (by rfl) ?_
        have j := j86
        exact zJ j86 (by rw [tdef]; rfl) rfl rfl
    · skip
      have j142 : ∀ lf, v i = 3 * t i + lf + sh1 r i + sh2 r i → (lf ≠ 0 → rs i) → Z 0 142 [(8, .int (nI lf)), (7, .int (nI (t i))), (6, .int (nI i)), (4, .int (nI (sh1 r i))), (5, .int (nI (sh2 r i))), (9, .int x9), (3, .int (nI (q + (flt t r i 0).length))), (0, .ref 14), (1, .long ch)] [] μ1 := by
        intro lf hlf hrs
        have blf : lf < 6 := by omega
        have x4 := x_s4 (q + (flt t r i 0).length) (by omega) (t i) (by omega) lf blf
        by_cases hh9 : q + (flt t r i 0).length + t i + lf ≤ 4
        · skip
          refine z_rcs hc hH 6 (pc' := 150) (lv' := [(8, .int (nI lf)), (7, .int (nI (t i))), (6, .int (nI i)), (4, .int (nI (sh1 r i))), (5, .int (nI (sh2 r i))), (9, .int x9), (3, .int (nI (q + (flt t r i 0).length))), (0, .ref 14), (1, .long ch)]) (st' := [.int 4, .int (((nI (q + (flt t r i 0).length)) + (nI (t i))) + (nI lf))]) (μ' := μ1) (by rfl) ?_
          refine zq_ic hc hH (by rfl) (tg := 155) (by rfl) (fun _ => ?_) (fun h9 => (zb_t (by rw [x4.1]; exact decide_eq_true hh9) h9).elim)
          refine z_rcs hc hH 2 (pc' := 158) (lv' := [(9, .int 0), (8, .int (nI lf)), (7, .int (nI (t i))), (6, .int (nI i)), (4, .int (nI (sh1 r i))), (5, .int (nI (sh2 r i))), (3, .int (nI (q + (flt t r i 0).length))), (0, .ref 14), (1, .long ch)]) (st' := []) (μ' := μ1) (by rfl) ?_
          refine (fw158_1 d' Z hd μ w p v hw hp h2p hv h15 ht ch t ht9 q hq e4 sL lL hc hr i (t i) lf (flt t r i 0) _ _ (by omega) (by omega) (fun μ2 g2 x7 x8 x9 => ?_) (t i + lf) 0 (by omega) μ1 (by rw [show flt t r i 0 ++ rwX i (t i) 0 = flt t r i 0 from List.append_nil _]; exact g)).1
          rw [rwX_b] at g2
          have hr' : ∀ k, k < i → (fun k => if k = i then lf else r k) k = r k := fun k hk => if_neg (by omega)
          have ef : flt t (fun k => if k = i then lf else r k) (i + 1) 0 = flt t r i 0 ++ (List.replicate (t i) (1, i) ++ List.replicate lf (0, i)) := by
            rw [flt_snoc, Nat.zero_add, flt_congr i 0 (fun j _ h2 => ⟨rfl, hr' j (by omega)⟩)]
            show _ ++ (_ ++ List.replicate (if i = i then lf else r i) (0, i)) = _
            rw [if_pos rfl]
          have el : (flt t (fun k => if k = i then lf else r k) (i + 1) 0).length = (flt t r i 0).length + (t i + lf) := by rw [ef, List.length_append, List.length_append, List.length_replicate, List.length_replicate]
          have s1 : sh1 (fun k => if k = i then lf else r k) (i + 1) = lf := if_pos rfl
          have s2 : sh2 (fun k => if k = i then lf else r k) (i + 1) = sh1 r i := (sh_eq hr').1
          have hP2 : PF v t (fun k => if k = i then lf else r k) (i + 1) := by
            refine ⟨fun k hk => ?_, fun k hk => ?_⟩
            · by_cases e : k = i
              · rw [e]; refine ⟨hrs (fun z => hk (by show (if k = i then lf else r k) = 0; rw [if_pos e, z])), by omega⟩
              · have hk : (if k = i then lf else r k) ≠ 0 := hk
                rw [if_neg e] at hk; have := hP.1 k hk; exact ⟨this.1, by omega⟩
            · by_cases e : k = i
              · rw [e]; have := sh_eq hr'; show v i = 3 * t i + (if i = i then lf else r i) + _ + _; rw [this.1, this.2, if_pos rfl]; exact hlf
              · have := sh_eq (i := k) (fun j hj => hr' j (by omega)); show v k = 3 * t k + (if k = i then lf else r k) + _ + _; rw [this.1, this.2, if_neg e]; exact hP.2 k (by omega)
          have z := (ih (i + 1) (by omega) (fun k => if k = i then lf else r k) hP2 (by rw [el]; omega) μ2 (by rw [ef]; exact g2)).2 x7 x8 x9
          rw [el, s1, s2, ← Nat.add_assoc] at z
          exact z
        · skip
          refine z_rcs hc hH 6 (pc' := 150) (lv' := [(8, .int (nI lf)), (7, .int (nI (t i))), (6, .int (nI i)), (4, .int (nI (sh1 r i))), (5, .int (nI (sh2 r i))), (9, .int x9), (3, .int (nI (q + (flt t r i 0).length))), (0, .ref 14), (1, .long ch)]) (st' := [.int 4, .int (((nI (q + (flt t r i 0).length)) + (nI (t i))) + (nI lf))]) (μ' := μ1) (by rfl) ?_
          refine zq_ic hc hH (by rfl) (tg := 155) (by rfl) (fun h9 => (zb_t h9 (by rw [x4.1]; exact decide_eq_false hh9)).elim) (fun _ => ?_)
          refine z_rcs hc hH 1 (pc' := 154) (lv' := [(8, .int (nI lf)), (7, .int (nI (t i))), (6, .int (nI i)), (4, .int (nI (sh1 r i))), (5, .int (nI (sh2 r i))), (9, .int x9), (3, .int (nI (q + (flt t r i 0).length))), (0, .ref 14), (1, .long ch)]) (st' := [.int 0]) (μ' := μ1) (by rfl) ?_
          exact hr 0 154 _ _ _ (some (.int 0)) (by decide +kernel) (z_rx_ok hH (by rfl)) (fail (fun ⟨r', hr', hs⟩ => by have := at_i r' hr'; have := sn_i r' hr'; omega))
      have j111 : Z 0 111 [(7, .int (nI (t i))), (6, .int (nI i)), (4, .int (nI (sh1 r i))), (5, .int (nI (sh2 r i))), (9, .int x9), (3, .int (nI (q + (flt t r i 0).length))), (8, .int x8), (0, .ref 14), (1, .long ch)] [.int (nI (v i))] μ1 := by
        by_cases hle : 3 * t i + sh1 r i + sh2 r i ≤ v i
        · have eX := xs.1 hle
          have bl : v i - (3 * t i + sh1 r i + sh2 r i) < 6 := by omega
          have nl := x_nl _ bl
          have J := j142 (v i - (3 * t i + sh1 r i + sh2 r i)) (by omega)
          refine z_rcs hc hH 8 (pc' := 122) (lv' := [(7, .int (nI (t i))), (6, .int (nI i)), (4, .int (nI (sh1 r i))), (5, .int (nI (sh2 r i))), (9, .int x9), (3, .int (nI (q + (flt t r i 0).length))), (8, .int x8), (0, .ref 14), (1, .long ch)]) (st' := [.int ((((nI (v i)) - (3 * (nI (t i)))) - (nI (sh1 r i))) - (nI (sh2 r i)))]) (μ' := μ1) (by rfl) ?_
          rw [eX]
          show Z 0 122 [(7, .int (nI (t i))), (6, .int (nI i)), (4, .int (nI (sh1 r i))), (5, .int (nI (sh2 r i))), (9, .int x9), (3, .int (nI (q + (flt t r i 0).length))), (8, .int x8), (0, .ref 14), (1, .long ch)] [.int (nI (v i - (3 * t i + sh1 r i + sh2 r i)))] μ1
          refine z_rcs hc hH 2 (pc' := 126) (lv' := [(8, .int (nI (v i - (3 * t i + sh1 r i + sh2 r i)))), (7, .int (nI (t i))), (6, .int (nI i)), (4, .int (nI (sh1 r i))), (5, .int (nI (sh2 r i))), (9, .int x9), (3, .int (nI (q + (flt t r i 0).length))), (0, .ref 14), (1, .long ch)]) (st' := [.int (nI (v i - (3 * t i + sh1 r i + sh2 r i)))]) (μ' := μ1) (by rfl) ?_
          refine zq_if hc hH (by rfl) (tg := 153) (by rfl) (fun h9 => (zb_t h9 (nl.1)).elim) (fun _ => ?_)
          refine z_rcs hc hH 1 (pc' := 131) (lv' := [(8, .int (nI (v i - (3 * t i + sh1 r i + sh2 r i)))), (7, .int (nI (t i))), (6, .int (nI i)), (4, .int (nI (sh1 r i))), (5, .int (nI (sh2 r i))), (9, .int x9), (3, .int (nI (q + (flt t r i 0).length))), (0, .ref 14), (1, .long ch)]) (st' := [.int (nI (v i - (3 * t i + sh1 r i + sh2 r i)))]) (μ' := μ1) (by rfl) ?_
          by_cases h0 : v i - (3 * t i + sh1 r i + sh2 r i) = 0
          · skip
            refine zq_if hc hH (by rfl) (tg := 142) (by rfl) (fun _ => ?_) (fun h9 => (zb_t (by rw [nl.2]; exact decide_eq_true h0) h9).elim)
            exact J (fun z => absurd h0 z)
          · skip
            refine zq_if hc hH (by rfl) (tg := 142) (by rfl) (fun h9 => (zb_t h9 (by rw [nl.2]; exact decide_eq_false h0)).elim) (fun _ => ?_)
            refine z_rcs hc hH 1 (pc' := 136) (lv' := [(8, .int (nI (v i - (3 * t i + sh1 r i + sh2 r i)))), (7, .int (nI (t i))), (6, .int (nI i)), (4, .int (nI (sh1 r i))), (5, .int (nI (sh2 r i))), (9, .int x9), (3, .int (nI (q + (flt t r i 0).length))), (0, .ref 14), (1, .long ch)]) (st' := [.int (nI i)]) (μ' := μ1) (by rfl) ?_
            refine zq_call hc (z_cx_ok hH (by rfl)) (fc_X6_startsRun d' (by omega) μ1 (nI i)) (by decide +kernel) (fun r9 μ9 hq => ?_)
            obtain ⟨hμ9, hq⟩ := hq
            rw [hμ9]
            clear hμ9 μ9
            obtain ⟨rfl, hsr⟩ | ⟨rfl, hsr⟩ := hq
            · show Z 0 139 [(8, .int (nI (v i - (3 * t i + sh1 r i + sh2 r i)))), (7, .int (nI (t i))), (6, .int (nI i)), (4, .int (nI (sh1 r i))), (5, .int (nI (sh2 r i))), (9, .int x9), (3, .int (nI (q + (flt t r i 0).length))), (0, .ref 14), (1, .long ch)] [.int 1] μ1
              refine z_rcs hc hH 1 (pc' := 142) (lv' := [(8, .int (nI (v i - (3 * t i + sh1 r i + sh2 r i)))), (7, .int (nI (t i))), (6, .int (nI i)), (4, .int (nI (sh1 r i))), (5, .int (nI (sh2 r i))), (9, .int x9), (3, .int (nI (q + (flt t r i 0).length))), (0, .ref 14), (1, .long ch)]) (st' := []) (μ' := μ1) (by rfl) ?_
              exact J (fun _ => (sr_rs i (by omega)).mp hsr)
            · show Z 0 139 [(8, .int (nI (v i - (3 * t i + sh1 r i + sh2 r i)))), (7, .int (nI (t i))), (6, .int (nI i)), (4, .int (nI (sh1 r i))), (5, .int (nI (sh2 r i))), (9, .int x9), (3, .int (nI (q + (flt t r i 0).length))), (0, .ref 14), (1, .long ch)] [.int 0] μ1
              refine z_rcs hc hH 2 (pc' := 154) (lv' := [(8, .int (nI (v i - (3 * t i + sh1 r i + sh2 r i)))), (7, .int (nI (t i))), (6, .int (nI i)), (4, .int (nI (sh1 r i))), (5, .int (nI (sh2 r i))), (9, .int x9), (3, .int (nI (q + (flt t r i 0).length))), (0, .ref 14), (1, .long ch)]) (st' := [.int 0]) (μ' := μ1) (by rfl) ?_
              exact hr 0 154 _ _ _ (some (.int 0)) (by decide +kernel) (z_rx_ok hH (by rfl)) (fail (fun ⟨r', hr', hs⟩ => by have := at_i r' hr'; exact hsr ((sr_rs i (by omega)).mpr (hr'.1 i (by omega)))))
        · have lX := xs.2 hle
          refine z_rcs hc hH 10 (pc' := 126) (lv' := [(8, .int ((((nI (v i)) - (3 * (nI (t i)))) - (nI (sh1 r i))) - (nI (sh2 r i)))), (7, .int (nI (t i))), (6, .int (nI i)), (4, .int (nI (sh1 r i))), (5, .int (nI (sh2 r i))), (9, .int x9), (3, .int (nI (q + (flt t r i 0).length))), (0, .ref 14), (1, .long ch)]) (st' := [.int ((((nI (v i)) - (3 * (nI (t i)))) - (nI (sh1 r i))) - (nI (sh2 r i)))]) (μ' := μ1) (by rfl) ?_
          refine zq_if hc hH (by rfl) (tg := 153) (by rfl) (fun _ => ?_) (fun h9 => (zb_t (lX) h9).elim)
          refine z_rcs hc hH 1 (pc' := 154) (lv' := [(8, .int ((((nI (v i)) - (3 * (nI (t i)))) - (nI (sh1 r i))) - (nI (sh2 r i)))), (7, .int (nI (t i))), (6, .int (nI i)), (4, .int (nI (sh1 r i))), (5, .int (nI (sh2 r i))), (9, .int x9), (3, .int (nI (q + (flt t r i 0).length))), (0, .ref 14), (1, .long ch)]) (st' := [.int 0]) (μ' := μ1) (by rfl) ?_
          exact hr 0 154 _ _ _ (some (.int 0)) (by decide +kernel) (z_rx_ok hH (by rfl)) (fail (fun ⟨r', hr', hs⟩ => by have := at_i r' hr'; omega))
      have j86 : Z 0 86 [(7, .int (nI (t i))), (6, .int (nI i)), (4, .int (nI (sh1 r i))), (5, .int (nI (sh2 r i))), (9, .int x9), (3, .int (nI (q + (flt t r i 0).length))), (8, .int x8), (0, .ref 14), (1, .long ch)] [] μ1 := by
        refine z_rcs hc hH 1 (pc' := 87) (lv' := [(7, .int (nI (t i))), (6, .int (nI i)), (4, .int (nI (sh1 r i))), (5, .int (nI (sh2 r i))), (9, .int x9), (3, .int (nI (q + (flt t r i 0).length))), (8, .int x8), (0, .ref 14), (1, .long ch)]) (st' := [.ref 14]) (μ' := μ1) (by rfl) ?_
        refine zq_tget hc hH (by rfl) (ci := 0) (f := 5) (t := 9) (by decide +kernel) ht1 (by decide) ?_
        show Z 0 90 [(7, .int (nI (t i))), (6, .int (nI i)), (4, .int (nI (sh1 r i))), (5, .int (nI (sh2 r i))), (9, .int x9), (3, .int (nI (q + (flt t r i 0).length))), (8, .int x8), (0, .ref 14), (1, .long ch)] [.ref 9] μ1
        refine z_rcs hc hH 2 (pc' := 95) (lv' := [(7, .int (nI (t i))), (6, .int (nI i)), (4, .int (nI (sh1 r i))), (5, .int (nI (sh2 r i))), (9, .int x9), (3, .int (nI (q + (flt t r i 0).length))), (8, .int x8), (0, .ref 14), (1, .long ch)]) (st' := [.int (nI i), .ref 10]) (μ' := μ1) (by rfl) ?_
        refine zq_iald hc hH (by rfl) 34 (by decide +kernel) (hin) ?_
        rw [ei, wi]
        show Z 0 96 [(7, .int (nI (t i))), (6, .int (nI i)), (4, .int (nI (sh1 r i))), (5, .int (nI (sh2 r i))), (9, .int x9), (3, .int (nI (q + (flt t r i 0).length))), (8, .int x8), (0, .ref 14), (1, .long ch)] [.int (nI (w i))] μ1
        refine z_rcs hc hH 3 (pc' := 102) (lv' := [(7, .int (nI (t i))), (6, .int (nI i)), (4, .int (nI (sh1 r i))), (5, .int (nI (sh2 r i))), (9, .int x9), (3, .int (nI (q + (flt t r i 0).length))), (8, .int x8), (0, .ref 14), (1, .long ch)]) (st' := [.int (μ1.1 14 15), .int (nI i), .int (nI (w i))]) (μ' := μ1) (by rfl) ?_
        rw [e151]
        show Z 0 102 [(7, .int (nI (t i))), (6, .int (nI i)), (4, .int (nI (sh1 r i))), (5, .int (nI (sh2 r i))), (9, .int x9), (3, .int (nI (q + (flt t r i 0).length))), (8, .int x8), (0, .ref 14), (1, .long ch)] [.int (nI p), .int (nI i), .int (nI (w i))] μ1
        refine zq_ic hc hH (by rfl) (tg := 109) (by rfl) (fun h1 => ?_) (fun h1 => ?_)
        · have h1 := cm_ne.mp h1
          refine z_rcs hc hH 2 (pc' := 111) (lv' := [(7, .int (nI (t i))), (6, .int (nI i)), (4, .int (nI (sh1 r i))), (5, .int (nI (sh2 r i))), (9, .int x9), (3, .int (nI (q + (flt t r i 0).length))), (8, .int x8), (0, .ref 14), (1, .long ch)]) (st' := [.int ((nI (w i)) - 0)]) (μ' := μ1) (by rfl) ?_
          have ev : nI (w i) - 0 = nI (v i) := by rw [hv, if_neg (fun z => h1 (by rw [z])), Int32.sub_zero]
          rw [ev]
          exact j111
        · have h1 := cn_ne.mp h1
          refine z_rcs hc hH 3 (pc' := 111) (lv' := [(7, .int (nI (t i))), (6, .int (nI i)), (4, .int (nI (sh1 r i))), (5, .int (nI (sh2 r i))), (9, .int x9), (3, .int (nI (q + (flt t r i 0).length))), (8, .int x8), (0, .ref 14), (1, .long ch)]) (st' := [.int ((nI (w i)) - 2)]) (μ' := μ1) (by rfl) ?_
          have hip : i = p := (nI_eq (by omega) (by omega)).mp h1
          have ev : nI (w i) - 2 = nI (v i) := by rw [hv, if_pos hip]; exact l_2 (w i) (by omega) (by rw [hip]; exact h2p)
          rw [ev]
          exact j111
      refine z_rcs hc hH 2 (pc' := 67) (lv' := [(6, .int (nI i)), (4, .int (nI (sh1 r i))), (5, .int (nI (sh2 r i))), (9, .int x9), (3, .int (nI (q + (flt t r i 0).length))), (8, .int x8), (7, .int x7), (0, .ref 14), (1, .long ch)]) (st' := [.int 34, .int (nI i)]) (μ' := μ1) (by rfl) ?_
      refine zq_ic hc hH (by rfl) (tg := 222) (by rfl) (fun h9 => (zb_t h9 (ge_nI (n := 34) (i := i) (by omega) (by decide))).elim) (fun _ => ?_)
      refine z_rcs hc hH 2 (pc' := 73) (lv' := [(6, .int (nI i)), (4, .int (nI (sh1 r i))), (5, .int (nI (sh2 r i))), (9, .int x9), (3, .int (nI (q + (flt t r i 0).length))), (8, .int x8), (7, .int x7), (0, .ref 14), (1, .long ch)]) (st' := [.int (nI i), .long ch]) (μ' := μ1) (by rfl) ?_
      refine zq_call hc (z_cx_ok hH (by rfl)) (fb_X6_holds d' (by omega) μ1 ch (nI i)) (by decide +kernel) (fun r9 μ9 hq => ?_)
      obtain ⟨hμ9, rfl⟩ := hq
      rw [hμ9]
      clear hμ9 μ9
      show Z 0 76 [(6, .int (nI i)), (4, .int (nI (sh1 r i))), (5, .int (nI (sh2 r i))), (9, .int x9), (3, .int (nI (q + (flt t r i 0).length))), (8, .int x8), (7, .int x7), (0, .ref 14), (1, .long ch)] [.int (nB (xHd ch (nI i)))] μ1
      have tdef := ht9 i
      unfold tH at tdef
      generalize xHd ch (nI i) = bb at tdef ⊢
      show Z 0 76 [(6, .int (nI i)), (4, .int (nI (sh1 r i))), (5, .int (nI (sh2 r i))), (9, .int x9), (3, .int (nI (q + (flt t r i 0).length))), (8, .int x8), (7, .int x7), (0, .ref 14), (1, .long ch)] [.int (nB bb)] μ1
      refine zq_if hc hH (by rfl) (tg := 83) (by rfl) (fun h1 => ?_) (fun h1 => ?_)
      · have h1 := cm_eq9.mp h1
        refine z_rcs hc hH 1 (pc' := 84) (lv' := [(6, .int (nI i)), (4, .int (nI (sh1 r i))), (5, .int (nI (sh2 r i))), (9, .int x9), (3, .int (nI (q + (flt t r i 0).length))), (8, .int x8), (7, .int x7), (0, .ref 14), (1, .long ch)]) (st' := [.int 0]) (μ' := μ1) (by rfl) ?_
        have eb : bb = false := nB_z.mp h1
        rw [eb, if_neg (by decide)] at tdef
        refine z_rcs hc hH 1 (pc' := 86) (lv' := [(7, .int 0), (6, .int (nI i)), (4, .int (nI (sh1 r i))), (5, .int (nI (sh2 r i))), (9, .int x9), (3, .int (nI (q + (flt t r i 0).length))), (8, .int x8), (0, .ref 14), (1, .long ch)]) (st' := []) (μ' := μ1) (by rfl) ?_
        have j := j86
        exact zJ j86 (by rw [tdef]; rfl) rfl rfl
      · have h1 := cn_eq.mp h1
        refine z_rcs hc hH 2 (pc' := 84) (lv' := [(6, .int (nI i)), (4, .int (nI (sh1 r i))), (5, .int (nI (sh2 r i))), (9, .int x9), (3, .int (nI (q + (flt t r i 0).length))), (8, .int x8), (7, .int x7), (0, .ref 14), (1, .long ch)]) (st' := [.int 1]) (μ' := μ1) (by rfl) ?_
        have eb : bb = true := nB_n.mp h1
        rw [eb, if_pos rfl] at tdef
        refine z_rcs hc hH 1 (pc' := 86) (lv' := [(7, .int 1), (6, .int (nI i)), (4, .int (nI (sh1 r i))), (5, .int (nI (sh2 r i))), (9, .int x9), (3, .int (nI (q + (flt t r i 0).length))), (8, .int x8), (0, .ref 14), (1, .long ch)]) (st' := []) (μ' := μ1) (by rfl) ?_
        have j := j86
        exact zJ j86 (by rw [tdef]; rfl) rfl rfl
theorem fb_X1_fillWay (d : Nat) (hd : 2 ≤ d) (μ : zM) (w : Nat → Nat) (p : Nat) (hw : RW μ 10 w) (hp : p < 34) (h2p : 2 ≤ w p) (h15 : μ.1 14 15 = nI p) (ht : μ.2.2 14 = 9) (ch : Int64) (q : Nat) (hq : q ≤ 4) (e4 : μ.1 9 4 = nI q) (sL lL : Nat → Nat) (hL : ∀ j, j < q → μ.1 12 j = nI (sL j) ∧ μ.1 13 j = nI (lL j)) (hH0 : a_H μ) : z_C d mi_X1_fillWay [.ref 14, .long ch] μ (FWQ μ (sb2 w p) (tH ch) q sL lL) := by
  refine z_C_in (by decide) (by omega) (fun d' Z ed hc hr => ?_)
  have hH := zh_X1_fillWay
  have K := fw63 d' Z (by omega) μ w p (sb2 w p) hw hp h2p (fun k => rfl) h15 ht ch (tH ch) (fun k => rfl) q hq e4 sL lL hc hr 34 0 (by omega) (fun _ => 0) ⟨fun k z => absurd rfl z, fun k z => absurd z (by omega)⟩ (by show q + 0 ≤ 4; omega)
  have lp : ∀ (n i : Nat), i + n = q → ∀ μ1, ((∀ j, j < i → μ1.1 15 j = nI (sL j) ∧ μ1.1 16 j = nI (lL j)) ∧ a_Fz [(15, 9999), (16, 9999)] μ μ1 ∧ a_H μ1) → Z 0 2 [(3, .int (nI i)), (0, .ref 14), (1, .long ch)] [] μ1 := by
    intro n
    induction n with
    | zero =>
      intro i hi μ1 g
      have hi : i = q := by omega
      subst hi
      have ht1 : μ1.2.2 14 = 9 := (g.2.1.2 14 (by decide)).trans ht
      have e41 : μ1.1 9 4 = nI i := (a_Fz_at g.2.1 9 4 (a_md_row (by decide +kernel))).trans e4
      refine z_rcs hc hH 2 (pc' := 4) (lv' := [(3, .int (nI i)), (0, .ref 14), (1, .long ch)]) (st' := [.ref 14, .int (nI i)]) (μ' := μ1) (by rfl) ?_
      refine zq_tget hc hH (by rfl) (ci := 0) (f := 5) (t := 9) (by decide +kernel) ht1 (by decide) ?_
      show Z 0 7 [(3, .int (nI i)), (0, .ref 14), (1, .long ch)] [.ref 9, .int (nI i)] μ1
      refine z_rcs hc hH 1 (pc' := 10) (lv' := [(3, .int (nI i)), (0, .ref 14), (1, .long ch)]) (st' := [.int (μ1.1 9 4), .int (nI i)]) (μ' := μ1) (by rfl) ?_
      rw [e41]
      show Z 0 10 [(3, .int (nI i)), (0, .ref 14), (1, .long ch)] [.int (nI i), .int (nI i)] μ1
      refine zq_ic hc hH (by rfl) (tg := 54) (by rfl) (fun _ => ?_) (fun h9 => (zb_t (ge_nIt (n := i) (i := i) (by omega) (by omega)) h9).elim)
      refine z_rcs hc hH 6 (pc' := 63) (lv' := [(6, .int 0), (5, .int 0), (4, .int 0), (3, .int (nI i)), (0, .ref 14), (1, .long ch)]) (st' := []) (μ' := μ1) (by rfl) ?_
      exact (K μ1 ⟨fun j hj => by have hj : j < i + 0 := hj; unfold sA lA; rw [if_pos (by omega), if_pos (by omega)]; exact g.1 j (by omega), g.2.1, g.2.2⟩).1
    | succ n ih =>
      intro i hi μ1 g
      have ht1 : μ1.2.2 14 = 9 := (g.2.1.2 14 (by decide)).trans ht
      have e41 : μ1.1 9 4 = nI q := (a_Fz_at g.2.1 9 4 (a_md_row (by decide +kernel))).trans e4
      have hin : vp_in (nI i) 4 := vp_in_nI (by omega) (by decide)
      have ei : (nI i).toNatClampNeg = i := nI_clamp (by omega)
      have x12 := (a_Fz_at g.2.1 12 i (a_md_row (by decide +kernel))).trans (hL i (by omega)).1
      have x13 := (a_Fz_at g.2.1 13 i (a_md_row (by decide +kernel))).trans (hL i (by omega)).2
      refine z_rcs hc hH 2 (pc' := 4) (lv' := [(3, .int (nI i)), (0, .ref 14), (1, .long ch)]) (st' := [.ref 14, .int (nI i)]) (μ' := μ1) (by rfl) ?_
      refine zq_tget hc hH (by rfl) (ci := 0) (f := 5) (t := 9) (by decide +kernel) ht1 (by decide) ?_
      show Z 0 7 [(3, .int (nI i)), (0, .ref 14), (1, .long ch)] [.ref 9, .int (nI i)] μ1
      refine z_rcs hc hH 1 (pc' := 10) (lv' := [(3, .int (nI i)), (0, .ref 14), (1, .long ch)]) (st' := [.int (μ1.1 9 4), .int (nI i)]) (μ' := μ1) (by rfl) ?_
      rw [e41]
      show Z 0 10 [(3, .int (nI i)), (0, .ref 14), (1, .long ch)] [.int (nI q), .int (nI i)] μ1
      refine zq_ic hc hH (by rfl) (tg := 54) (by rfl) (fun h9 => (zb_t h9 (ge_nI (n := q) (i := i) (by omega) (by omega))).elim) (fun _ => ?_)
      refine z_rcs hc hH 2 (pc' := 15) (lv' := [(3, .int (nI i)), (0, .ref 14), (1, .long ch)]) (st' := [.int 4, .int (nI i)]) (μ' := μ1) (by rfl) ?_
      refine zq_ic hc hH (by rfl) (tg := 54) (by rfl) (fun h9 => (zb_t h9 (ge_nI (n := 4) (i := i) (by omega) (by decide))).elim) (fun _ => ?_)
      refine z_rcs hc hH 4 (pc' := 24) (lv' := [(3, .int (nI i)), (0, .ref 14), (1, .long ch)]) (st' := [.ref 14, .int (nI i), .ref 15]) (μ' := μ1) (by rfl) ?_
      refine zq_tget hc hH (by rfl) (ci := 0) (f := 5) (t := 9) (by decide +kernel) ht1 (by decide) ?_
      show Z 0 27 [(3, .int (nI i)), (0, .ref 14), (1, .long ch)] [.ref 9, .int (nI i), .ref 15] μ1
      refine z_rcs hc hH 2 (pc' := 31) (lv' := [(3, .int (nI i)), (0, .ref 14), (1, .long ch)]) (st' := [.int (nI i), .ref 12, .int (nI i), .ref 15]) (μ' := μ1) (by rfl) ?_
      refine zq_iald hc hH (by rfl) 4 (by decide +kernel) (hin) ?_
      rw [ei, x12]
      show Z 0 32 [(3, .int (nI i)), (0, .ref 14), (1, .long ch)] [.int (nI (sL i)), .int (nI i), .ref 15] μ1
      refine zq_iast hc hH (by rfl) 4 (by decide +kernel) (hin) ?_
      rw [ei]
      show Z 0 33 [(3, .int (nI i)), (0, .ref 14), (1, .long ch)] [] (z_ui μ1 15 i (nI (sL i)))
      have ht2 : (z_ui μ1 15 i (nI (sL i))).2.2 14 = 9 := ht1
      refine z_rcs0 hc hH 4 (pc' := 39) (lv' := [(3, .int (nI i)), (0, .ref 14), (1, .long ch)]) (st' := [.ref 14, .int (nI i), .ref 16]) (by rfl) ?_
      refine zq_tget hc hH (by rfl) (ci := 0) (f := 5) (t := 9) (by decide +kernel) ht2 (by decide) ?_
      show Z 0 42 [(3, .int (nI i)), (0, .ref 14), (1, .long ch)] [.ref 9, .int (nI i), .ref 16] _
      refine z_rcs0 hc hH 2 (pc' := 46) (lv' := [(3, .int (nI i)), (0, .ref 14), (1, .long ch)]) (st' := [.int (nI i), .ref 13, .int (nI i), .ref 16]) (by rfl) ?_
      refine zq_iald hc hH (by rfl) 4 (by decide +kernel) (hin) ?_
      rw [ei, z_ui_rd, if_neg (by omega), x13]
      show Z 0 47 [(3, .int (nI i)), (0, .ref 14), (1, .long ch)] [.int (nI (lL i)), .int (nI i), .ref 16] _
      refine zq_iast hc hH (by rfl) 4 (by decide +kernel) (hin) ?_
      rw [ei]
      have g2 : (∀ j, j < i + 1 → (z_ui (z_ui μ1 15 i (nI (sL i))) 16 i (nI (lL i))).1 15 j = nI (sL j) ∧ (z_ui (z_ui μ1 15 i (nI (sL i))) 16 i (nI (lL i))).1 16 j = nI (lL j)) ∧ a_Fz [(15, 9999), (16, 9999)] μ (z_ui (z_ui μ1 15 i (nI (sL i))) 16 i (nI (lL i))) ∧ a_H (z_ui (z_ui μ1 15 i (nI (sL i))) 16 i (nI (lL i))) := by
        refine ⟨fun j hj => ?_, a_Fz_ui (a_Fz_ui g.2.1 (a_mda_md (by decide +kernel) _)) (a_mda_md (by decide +kernel) _), a_H_ui (a_H_ui g.2.2 (bI_top _)) (bI_top _)⟩
        rw [z_ui_rd, if_neg (by omega), z_ui_rd, z_ui_rd]
        by_cases e : j = i
        · subst e; rw [if_pos ⟨rfl, rfl⟩, if_pos ⟨rfl, rfl⟩]; exact ⟨rfl, rfl⟩
        · rw [if_neg (fun z => e z.2), if_neg (fun z => e z.2), z_ui_rd, if_neg (by omega)]; exact g.1 j (by omega)
      generalize z_ui (z_ui μ1 15 i (nI (sL i))) 16 i (nI (lL i)) = μ2 at g2 ⊢
      refine z_rcs hc hH 2 (pc' := 2) (lv' := [(3, .int ((nI i) + 1)), (0, .ref 14), (1, .long ch)]) (st' := []) (μ' := μ2) (by rfl) ?_
      rw [nI_1]
      exact ih (i + 1) (by omega) μ2 g2
  refine z_rcs hc hH 2 (pc' := 2) (lv' := [(3, .int 0), (0, .ref 14), (1, .long ch)]) (st' := []) (μ' := μ) (by rfl) ?_
  exact lp q 0 (by omega) μ ⟨fun j hj => absurd hj (by omega), a_Fz_rf _ _, hH0⟩
/-! the class: OPEN, nine gates; FORMS of all ways -/
set_option maxRecDepth 8000
noncomputable def xOr (f : Nat → Int32) : Nat → Bool
  | 0 => false
  | i + 1 => xOr f i || !decide (f i = 3)
theorem xOr_iff (f : Nat → Int32) : ∀ q, xOr f q = true ↔ ∃ j, j < q ∧ ¬ f j = 3 := by
  intro q
  induction q with
  | zero => exact ⟨fun h => absurd h Bool.false_ne_true, fun ⟨j, hj, _⟩ => absurd hj (by omega)⟩
  | succ q ih =>
    show (xOr f q || !decide (f q = 3)) = true ↔ _
    rw [Bool.or_eq_true, ih, Bool.not_eq_true', decide_eq_false_iff_not]
    constructor
    · rintro (⟨j, h1, h2⟩ | h)
      · exact ⟨j, by omega, h2⟩
      · exact ⟨q, by omega, h⟩
    · rintro ⟨j, h1, h2⟩
      by_cases e : j = q
      · exact Or.inr (e ▸ h2)
      · exact Or.inl ⟨j, by omega, h2⟩
theorem zh_X3_isOpen : zH mi_X3_isOpen zt_X3_isOpen 79 3 2 := hh_X3_isOpen
theorem fx_X3_isOpen (d : Nat) (hd : 1 ≤ d) (μ : zM) (q : Nat) (hq : q ≤ 4) (e4 : μ.1 9 4 = nI q) : z_C d mi_X3_isOpen [.ref 9] μ (zR μ (.int (nB (xOr (μ.1 12) q)))) := by
  refine z_C_in (by decide) (by omega) (fun d' Z ed hc hr => ?_)
  have hH := zh_X3_isOpen
  have lp : ∀ (n i : Nat), i + n = q → (∀ j, j < i → μ.1 12 j = 3) → Z 0 2 [(1, .int (nI i)), (0, .ref 9)] [] μ := by
    intro n
    induction n with
    | zero =>
      intro i hi ha
      have hi : q = i := by omega
      subst hi
      have eo : xOr (μ.1 12) q = false := by rw [← Bool.not_eq_true]; exact fun z => ((xOr_iff _ q).mp z).elim (fun j hj => hj.2 (ha j hj.1))
      refine z_rcs hc hH 3 (pc' := 7) (lv' := [(1, .int (nI q)), (0, .ref 9)]) (st' := [.int (μ.1 9 4), .int (nI q)]) (μ' := μ) (by rfl) ?_
      rw [e4]
      show Z 0 7 [(1, .int (nI q)), (0, .ref 9)] [.int (nI q), .int (nI q)] μ
      refine zq_ic hc hH (by rfl) (tg := 33) (by rfl) (fun _ => ?_) (fun h9 => (zb_t (ge_nIt (n := q) (i := q) (by omega) (by omega)) h9).elim)
      refine z_rcs hc hH 1 (pc' := 34) (lv' := [(1, .int (nI q)), (0, .ref 9)]) (st' := [.int 0]) (μ' := μ) (by rfl) ?_
      exact hr 0 34 _ _ _ (some (.int 0)) (by decide +kernel) (z_rx_ok hH (by rfl)) (⟨rfl, by rw [eo]; rfl⟩)
    | succ n ih =>
      intro i hi ha
      have hin : vp_in (nI i) 4 := vp_in_nI (by omega) (by decide)
      have ei : (nI i).toNatClampNeg = i := nI_clamp (by omega)
      refine z_rcs hc hH 3 (pc' := 7) (lv' := [(1, .int (nI i)), (0, .ref 9)]) (st' := [.int (μ.1 9 4), .int (nI i)]) (μ' := μ) (by rfl) ?_
      rw [e4]
      show Z 0 7 [(1, .int (nI i)), (0, .ref 9)] [.int (nI q), .int (nI i)] μ
      refine zq_ic hc hH (by rfl) (tg := 33) (by rfl) (fun h9 => (zb_t h9 (ge_nI (n := q) (i := i) (by omega) (by omega))).elim) (fun _ => ?_)
      refine z_rcs hc hH 2 (pc' := 12) (lv' := [(1, .int (nI i)), (0, .ref 9)]) (st' := [.int 4, .int (nI i)]) (μ' := μ) (by rfl) ?_
      refine zq_ic hc hH (by rfl) (tg := 33) (by rfl) (fun h9 => (zb_t h9 (ge_nI (n := 4) (i := i) (by omega) (by decide))).elim) (fun _ => ?_)
      refine z_rcs hc hH 3 (pc' := 20) (lv' := [(1, .int (nI i)), (0, .ref 9)]) (st' := [.int (nI i), .ref 12]) (μ' := μ) (by rfl) ?_
      refine zq_iald hc hH (by rfl) 4 (by decide +kernel) (hin) ?_
      rw [ei]
      show Z 0 21 [(1, .int (nI i)), (0, .ref 9)] [.int (μ.1 12 i)] μ
      refine z_rcs hc hH 1 (pc' := 22) (lv' := [(1, .int (nI i)), (0, .ref 9)]) (st' := [.int 3, .int (μ.1 12 i)]) (μ' := μ) (by rfl) ?_
      refine zq_ic hc hH (by rfl) (tg := 27) (by rfl) (fun h1 => ?_) (fun h1 => ?_)
      · have h1 := cm_eq9.mp h1
        refine z_rcs hc hH 2 (pc' := 2) (lv' := [(1, .int ((nI i) + 1)), (0, .ref 9)]) (st' := []) (μ' := μ) (by rfl) ?_
        rw [nI_1]
        exact ih (i + 1) (by omega) (fun j hj => if e : j = i then e ▸ h1 else ha j (by omega))
      · have h1 := cn_eq.mp h1
        refine z_rcs hc hH 1 (pc' := 26) (lv' := [(1, .int (nI i)), (0, .ref 9)]) (st' := [.int 1]) (μ' := μ) (by rfl) ?_
        exact hr 0 26 _ _ _ (some (.int 1)) (by decide +kernel) (z_rx_ok hH (by rfl)) (⟨rfl, by rw [show xOr (μ.1 12) q = true from (xOr_iff _ q).mpr ⟨i, by omega, h1⟩]; rfl⟩)
  refine z_rcs hc hH 2 (pc' := 2) (lv' := [(1, .int 0), (0, .ref 9)]) (st' := []) (μ' := μ) (by rfl) ?_
  exact lp q 0 (by omega) (fun j hj => absurd hj (by omega))
theorem fx_X3_free (d : Nat) (hd : 2 ≤ d) (μ : zM) (k : Nat) (hk : k < 34) : z_C d mi_X3_free [.ref 9, .int (nI k)] μ (zR μ (.int (μ.1 10 k))) :=
  z_C_mono (fc_X3_free d hd μ (nI k)) (fun r μ' h => ⟨h.1, by rcases h.2 with ⟨_, e⟩ | ⟨z, _⟩; rw [e, nI_clamp (by omega)]; exact absurd (vp_in_nI hk (by decide)) z⟩)
noncomputable def xNG (μ : zM) (ks : Int64) : Bool := (decide ((μ.1 9 4) ≤ 0)) && (bif decide ((lg_cmp ks (511 <<< ((0 : Int32).toInt64 &&& 63))) = 0) then !(decide ((μ.1 10 0) < 3)) && (!(decide ((μ.1 10 8) < 3))) else bif decide ((lg_cmp ks (511 <<< ((9 : Int32).toInt64 &&& 63))) = 0) then !(decide ((μ.1 10 9) < 3)) && (!(decide ((μ.1 10 17) < 3))) else (decide ((lg_cmp ks (511 <<< ((18 : Int32).toInt64 &&& 63))) = 0)) && (!(decide ((μ.1 10 18) < 3)) && (!(decide ((μ.1 10 26) < 3)))))
theorem fb_X1_isNineGates (d : Nat) (hd : 3 ≤ d) (μ : zM) (ks : Int64) (ht : μ.2.2 14 = 9) : z_C d mi_X1_isNineGates [.ref 14, .long ks] μ (zR μ (.int (nB ((decide ((μ.1 9 4) ≤ 0)) && (bif decide ((lg_cmp ks (511 <<< ((0 : Int32).toInt64 &&& 63))) = 0) then !(decide ((μ.1 10 0) < 3)) && (!(decide ((μ.1 10 8) < 3))) else bif decide ((lg_cmp ks (511 <<< ((9 : Int32).toInt64 &&& 63))) = 0) then !(decide ((μ.1 10 9) < 3)) && (!(decide ((μ.1 10 17) < 3))) else (decide ((lg_cmp ks (511 <<< ((18 : Int32).toInt64 &&& 63))) = 0)) && (!(decide ((μ.1 10 18) < 3)) && (!(decide ((μ.1 10 26) < 3))))))))) := by
  refine z_C_in (by decide) (by omega) (fun d' Z ed hc hr => ?_)
  have hH : zH mi_X1_isNineGates zt_X1_isNineGates 79 1 4 := hh_X1_isNineGates
  refine z_rcs hc hH 1 (pc' := 1) (lv' := [(0, .ref 14), (1, .long ks)]) (st' := [.ref 14]) (μ' := μ) (by rfl) ?_
  refine zq_tget hc hH (by rfl) (ci := 0) (f := 5) (t := 9) (by decide +kernel) ht (by decide) ?_
  refine z_rcs hc hH 1 (pc' := 7) (lv' := [(0, .ref 14), (1, .long ks)]) (st' := [.int (μ.1 9 4)]) (μ' := μ) (by rfl) ?_
  refine zq_if hc hH (by rfl) (tg := 12) (by rfl) (fun h1 => ?_) (fun h1 => ?_)
  · have h1 : (decide ((μ.1 9 4) ≤ 0)) = true := decide_eq_true (cm_le.mp h1)
    refine z_rcs hc hH 10 (pc' := 27) (lv' := [(3, .int 0), (0, .ref 14), (1, .long ks)]) (st' := [.int (lg_cmp ks (511 <<< ((0 : Int32).toInt64 &&& 63)))]) (μ' := μ) (by rfl) ?_
    refine zq_if hc hH (by rfl) (tg := 63) (by rfl) (fun h2 => ?_) (fun h2 => ?_)
    · have h2 : (decide ((lg_cmp ks (511 <<< ((0 : Int32).toInt64 &&& 63))) = 0)) = false := decide_eq_false (cm_ne.mp h2)
      refine z_rcs hc hH 10 (pc' := 27) (lv' := [(3, .int 9), (0, .ref 14), (1, .long ks)]) (st' := [.int (lg_cmp ks (511 <<< ((9 : Int32).toInt64 &&& 63)))]) (μ' := μ) (by rfl) ?_
      refine zq_if hc hH (by rfl) (tg := 63) (by rfl) (fun h3 => ?_) (fun h3 => ?_)
      · have h3 : (decide ((lg_cmp ks (511 <<< ((9 : Int32).toInt64 &&& 63))) = 0)) = false := decide_eq_false (cm_ne.mp h3)
        refine z_rcs hc hH 10 (pc' := 27) (lv' := [(3, .int 18), (0, .ref 14), (1, .long ks)]) (st' := [.int (lg_cmp ks (511 <<< ((18 : Int32).toInt64 &&& 63)))]) (μ' := μ) (by rfl) ?_
        refine zq_if hc hH (by rfl) (tg := 63) (by rfl) (fun h4 => ?_) (fun h4 => ?_)
        · have h4 : (decide ((lg_cmp ks (511 <<< ((18 : Int32).toInt64 &&& 63))) = 0)) = false := decide_eq_false (cm_ne.mp h4)
          refine z_rcs hc hH 6 (pc' := 70) (lv' := [(3, .int 27), (0, .ref 14), (1, .long ks)]) (st' := [.int 0]) (μ' := μ) (by rfl) ?_
          exact hr 0 70 _ _ _ (some (.int 0)) (by decide +kernel) (z_rx_ok hH (by rfl)) (⟨rfl, (by simp only [h1, h2, h3, h4, lb_f, Int64.or_zero, Int32.add_zero, nB_t, nB_f, Bool.not_true, Bool.not_false, Bool.and_true, Bool.true_and, Bool.false_and, Bool.and_false, Bool.or_true, Bool.true_or, Bool.false_or, Bool.or_false, cond_true, cond_false])⟩)
        · have h4 : (decide ((lg_cmp ks (511 <<< ((18 : Int32).toInt64 &&& 63))) = 0)) = true := decide_eq_true (cn_ne.mp h4)
          refine z_rcs hc hH 1 (pc' := 31) (lv' := [(3, .int 18), (0, .ref 14), (1, .long ks)]) (st' := [.ref 14]) (μ' := μ) (by rfl) ?_
          refine zq_tget hc hH (by rfl) (ci := 0) (f := 5) (t := 9) (by decide +kernel) ht (by decide) ?_
          refine z_rcs hc hH 1 (pc' := 35) (lv' := [(3, .int 18), (0, .ref 14), (1, .long ks)]) (st' := [.int 18, .ref 9]) (μ' := μ) (by rfl) ?_
          refine zq_call hc (z_cx_ok hH (by rfl)) (fx_X3_free d' (by omega) μ 18 (by decide)) (by decide +kernel) (fun r9 μ9 hq => ?_)
          obtain ⟨hμ9, rfl⟩ := hq
          rw [hμ9]
          clear hμ9 μ9
          show Z 0 38 [(3, .int 18), (0, .ref 14), (1, .long ks)] [.int (μ.1 10 18)] μ
          refine z_rcs hc hH 1 (pc' := 39) (lv' := [(3, .int 18), (0, .ref 14), (1, .long ks)]) (st' := [.int 3, .int (μ.1 10 18)]) (μ' := μ) (by rfl) ?_
          have hJ5 : Z 0 62 [(3, .int 18), (0, .ref 14), (1, .long ks)] [.int (nB (!(decide ((μ.1 10 18) < 3)) && (!(decide ((μ.1 10 26) < 3)))))] μ := by
            exact hr 0 62 _ _ _ (some (.int (nB (!(decide ((μ.1 10 18) < 3)) && (!(decide ((μ.1 10 26) < 3))))))) (by decide +kernel) ((fun b : Bool => (by cases b <;> rfl : z_rn mi_X1_isNineGates 62 [.int (nB b)] = some (some (.int (nB b))))) (!(decide ((μ.1 10 18) < 3)) && (!(decide ((μ.1 10 26) < 3))))) (⟨rfl, (by simp only [h1, h2, h3, h4, lb_f, Int64.or_zero, Int32.add_zero, nB_t, nB_f, Bool.not_true, Bool.not_false, Bool.and_true, Bool.true_and, Bool.false_and, Bool.and_false, Bool.or_true, Bool.true_or, Bool.false_or, Bool.or_false, cond_true, cond_false])⟩)
          refine zq_ic hc hH (by rfl) (tg := 61) (by rfl) (fun h6 => ?_) (fun h6 => ?_)
          · have h6 : (decide ((μ.1 10 18) < 3)) = true := decide_eq_true (cm_lt.mp h6)
            refine z_rcs hc hH 1 (pc' := 62) (lv' := [(3, .int 18), (0, .ref 14), (1, .long ks)]) (st' := [.int 0]) (μ' := μ) (by rfl) ?_
            exact zJ hJ5 rfl (by first | with_reducible rfl | (simp only [h6, lb_f, Int64.or_zero, Int32.add_zero, nB_t, nB_f, Bool.not_true, Bool.not_false, Bool.and_true, Bool.true_and, Bool.false_and, Bool.and_false, Bool.or_true, Bool.true_or, Bool.false_or, Bool.or_false, cond_true, cond_false]; done) | rfl) rfl
          · have h6 : (decide ((μ.1 10 18) < 3)) = false := decide_eq_false (cn_lt.mp h6)
            refine z_rcs hc hH 1 (pc' := 43) (lv' := [(3, .int 18), (0, .ref 14), (1, .long ks)]) (st' := [.ref 14]) (μ' := μ) (by rfl) ?_
            refine zq_tget hc hH (by rfl) (ci := 0) (f := 5) (t := 9) (by decide +kernel) ht (by decide) ?_
            refine z_rcs hc hH 3 (pc' := 50) (lv' := [(3, .int 18), (0, .ref 14), (1, .long ks)]) (st' := [.int 26, .ref 9]) (μ' := μ) (by rfl) ?_
            refine zq_call hc (z_cx_ok hH (by rfl)) (fx_X3_free d' (by omega) μ 26 (by decide)) (by decide +kernel) (fun r9 μ9 hq => ?_)
            obtain ⟨hμ9, rfl⟩ := hq
            rw [hμ9]
            clear hμ9 μ9
            show Z 0 53 [(3, .int 18), (0, .ref 14), (1, .long ks)] [.int (μ.1 10 26)] μ
            refine z_rcs hc hH 1 (pc' := 54) (lv' := [(3, .int 18), (0, .ref 14), (1, .long ks)]) (st' := [.int 3, .int (μ.1 10 26)]) (μ' := μ) (by rfl) ?_
            refine zq_ic hc hH (by rfl) (tg := 61) (by rfl) (fun h7 => ?_) (fun h7 => ?_)
            · have h7 : (decide ((μ.1 10 26) < 3)) = true := decide_eq_true (cm_lt.mp h7)
              refine z_rcs hc hH 1 (pc' := 62) (lv' := [(3, .int 18), (0, .ref 14), (1, .long ks)]) (st' := [.int 0]) (μ' := μ) (by rfl) ?_
              exact zJ hJ5 rfl (by first | with_reducible rfl | (simp only [h6, h7, lb_f, Int64.or_zero, Int32.add_zero, nB_t, nB_f, Bool.not_true, Bool.not_false, Bool.and_true, Bool.true_and, Bool.false_and, Bool.and_false, Bool.or_true, Bool.true_or, Bool.false_or, Bool.or_false, cond_true, cond_false]; done) | rfl) rfl
            · have h7 : (decide ((μ.1 10 26) < 3)) = false := decide_eq_false (cn_lt.mp h7)
              refine z_rcs hc hH 2 (pc' := 62) (lv' := [(3, .int 18), (0, .ref 14), (1, .long ks)]) (st' := [.int 1]) (μ' := μ) (by rfl) ?_
              exact zJ hJ5 rfl (by first | with_reducible rfl | (simp only [h6, h7, lb_f, Int64.or_zero, Int32.add_zero, nB_t, nB_f, Bool.not_true, Bool.not_false, Bool.and_true, Bool.true_and, Bool.false_and, Bool.and_false, Bool.or_true, Bool.true_or, Bool.false_or, Bool.or_false, cond_true, cond_false]; done) | rfl) rfl
      · have h3 : (decide ((lg_cmp ks (511 <<< ((9 : Int32).toInt64 &&& 63))) = 0)) = true := decide_eq_true (cn_ne.mp h3)
        refine z_rcs hc hH 1 (pc' := 31) (lv' := [(3, .int 9), (0, .ref 14), (1, .long ks)]) (st' := [.ref 14]) (μ' := μ) (by rfl) ?_
        refine zq_tget hc hH (by rfl) (ci := 0) (f := 5) (t := 9) (by decide +kernel) ht (by decide) ?_
        refine z_rcs hc hH 1 (pc' := 35) (lv' := [(3, .int 9), (0, .ref 14), (1, .long ks)]) (st' := [.int 9, .ref 9]) (μ' := μ) (by rfl) ?_
        refine zq_call hc (z_cx_ok hH (by rfl)) (fx_X3_free d' (by omega) μ 9 (by decide)) (by decide +kernel) (fun r9 μ9 hq => ?_)
        obtain ⟨hμ9, rfl⟩ := hq
        rw [hμ9]
        clear hμ9 μ9
        show Z 0 38 [(3, .int 9), (0, .ref 14), (1, .long ks)] [.int (μ.1 10 9)] μ
        refine z_rcs hc hH 1 (pc' := 39) (lv' := [(3, .int 9), (0, .ref 14), (1, .long ks)]) (st' := [.int 3, .int (μ.1 10 9)]) (μ' := μ) (by rfl) ?_
        have hJ8 : Z 0 62 [(3, .int 9), (0, .ref 14), (1, .long ks)] [.int (nB (!(decide ((μ.1 10 9) < 3)) && (!(decide ((μ.1 10 17) < 3)))))] μ := by
          exact hr 0 62 _ _ _ (some (.int (nB (!(decide ((μ.1 10 9) < 3)) && (!(decide ((μ.1 10 17) < 3))))))) (by decide +kernel) ((fun b : Bool => (by cases b <;> rfl : z_rn mi_X1_isNineGates 62 [.int (nB b)] = some (some (.int (nB b))))) (!(decide ((μ.1 10 9) < 3)) && (!(decide ((μ.1 10 17) < 3))))) (⟨rfl, (by simp only [h1, h2, h3, lb_f, Int64.or_zero, Int32.add_zero, nB_t, nB_f, Bool.not_true, Bool.not_false, Bool.and_true, Bool.true_and, Bool.false_and, Bool.and_false, Bool.or_true, Bool.true_or, Bool.false_or, Bool.or_false, cond_true, cond_false])⟩)
        refine zq_ic hc hH (by rfl) (tg := 61) (by rfl) (fun h9 => ?_) (fun h9 => ?_)
        · have h9 : (decide ((μ.1 10 9) < 3)) = true := decide_eq_true (cm_lt.mp h9)
          refine z_rcs hc hH 1 (pc' := 62) (lv' := [(3, .int 9), (0, .ref 14), (1, .long ks)]) (st' := [.int 0]) (μ' := μ) (by rfl) ?_
          exact zJ hJ8 rfl (by first | with_reducible rfl | (simp only [h9, lb_f, Int64.or_zero, Int32.add_zero, nB_t, nB_f, Bool.not_true, Bool.not_false, Bool.and_true, Bool.true_and, Bool.false_and, Bool.and_false, Bool.or_true, Bool.true_or, Bool.false_or, Bool.or_false, cond_true, cond_false]; done) | rfl) rfl
        · have h9 : (decide ((μ.1 10 9) < 3)) = false := decide_eq_false (cn_lt.mp h9)
          refine z_rcs hc hH 1 (pc' := 43) (lv' := [(3, .int 9), (0, .ref 14), (1, .long ks)]) (st' := [.ref 14]) (μ' := μ) (by rfl) ?_
          refine zq_tget hc hH (by rfl) (ci := 0) (f := 5) (t := 9) (by decide +kernel) ht (by decide) ?_
          refine z_rcs hc hH 3 (pc' := 50) (lv' := [(3, .int 9), (0, .ref 14), (1, .long ks)]) (st' := [.int 17, .ref 9]) (μ' := μ) (by rfl) ?_
          refine zq_call hc (z_cx_ok hH (by rfl)) (fx_X3_free d' (by omega) μ 17 (by decide)) (by decide +kernel) (fun r9 μ9 hq => ?_)
          obtain ⟨hμ9, rfl⟩ := hq
          rw [hμ9]
          clear hμ9 μ9
          show Z 0 53 [(3, .int 9), (0, .ref 14), (1, .long ks)] [.int (μ.1 10 17)] μ
          refine z_rcs hc hH 1 (pc' := 54) (lv' := [(3, .int 9), (0, .ref 14), (1, .long ks)]) (st' := [.int 3, .int (μ.1 10 17)]) (μ' := μ) (by rfl) ?_
          refine zq_ic hc hH (by rfl) (tg := 61) (by rfl) (fun h10 => ?_) (fun h10 => ?_)
          · have h10 : (decide ((μ.1 10 17) < 3)) = true := decide_eq_true (cm_lt.mp h10)
            refine z_rcs hc hH 1 (pc' := 62) (lv' := [(3, .int 9), (0, .ref 14), (1, .long ks)]) (st' := [.int 0]) (μ' := μ) (by rfl) ?_
            exact zJ hJ8 rfl (by first | with_reducible rfl | (simp only [h9, h10, lb_f, Int64.or_zero, Int32.add_zero, nB_t, nB_f, Bool.not_true, Bool.not_false, Bool.and_true, Bool.true_and, Bool.false_and, Bool.and_false, Bool.or_true, Bool.true_or, Bool.false_or, Bool.or_false, cond_true, cond_false]; done) | rfl) rfl
          · have h10 : (decide ((μ.1 10 17) < 3)) = false := decide_eq_false (cn_lt.mp h10)
            refine z_rcs hc hH 2 (pc' := 62) (lv' := [(3, .int 9), (0, .ref 14), (1, .long ks)]) (st' := [.int 1]) (μ' := μ) (by rfl) ?_
            exact zJ hJ8 rfl (by first | with_reducible rfl | (simp only [h9, h10, lb_f, Int64.or_zero, Int32.add_zero, nB_t, nB_f, Bool.not_true, Bool.not_false, Bool.and_true, Bool.true_and, Bool.false_and, Bool.and_false, Bool.or_true, Bool.true_or, Bool.false_or, Bool.or_false, cond_true, cond_false]; done) | rfl) rfl
    · have h2 : (decide ((lg_cmp ks (511 <<< ((0 : Int32).toInt64 &&& 63))) = 0)) = true := decide_eq_true (cn_ne.mp h2)
      refine z_rcs hc hH 1 (pc' := 31) (lv' := [(3, .int 0), (0, .ref 14), (1, .long ks)]) (st' := [.ref 14]) (μ' := μ) (by rfl) ?_
      refine zq_tget hc hH (by rfl) (ci := 0) (f := 5) (t := 9) (by decide +kernel) ht (by decide) ?_
      refine z_rcs hc hH 1 (pc' := 35) (lv' := [(3, .int 0), (0, .ref 14), (1, .long ks)]) (st' := [.int 0, .ref 9]) (μ' := μ) (by rfl) ?_
      refine zq_call hc (z_cx_ok hH (by rfl)) (fx_X3_free d' (by omega) μ 0 (by decide)) (by decide +kernel) (fun r9 μ9 hq => ?_)
      obtain ⟨hμ9, rfl⟩ := hq
      rw [hμ9]
      clear hμ9 μ9
      show Z 0 38 [(3, .int 0), (0, .ref 14), (1, .long ks)] [.int (μ.1 10 0)] μ
      refine z_rcs hc hH 1 (pc' := 39) (lv' := [(3, .int 0), (0, .ref 14), (1, .long ks)]) (st' := [.int 3, .int (μ.1 10 0)]) (μ' := μ) (by rfl) ?_
      have hJ11 : Z 0 62 [(3, .int 0), (0, .ref 14), (1, .long ks)] [.int (nB (!(decide ((μ.1 10 0) < 3)) && (!(decide ((μ.1 10 8) < 3)))))] μ := by
        exact hr 0 62 _ _ _ (some (.int (nB (!(decide ((μ.1 10 0) < 3)) && (!(decide ((μ.1 10 8) < 3))))))) (by decide +kernel) ((fun b : Bool => (by cases b <;> rfl : z_rn mi_X1_isNineGates 62 [.int (nB b)] = some (some (.int (nB b))))) (!(decide ((μ.1 10 0) < 3)) && (!(decide ((μ.1 10 8) < 3))))) (⟨rfl, (by simp only [h1, h2, lb_f, Int64.or_zero, Int32.add_zero, nB_t, nB_f, Bool.not_true, Bool.not_false, Bool.and_true, Bool.true_and, Bool.false_and, Bool.and_false, Bool.or_true, Bool.true_or, Bool.false_or, Bool.or_false, cond_true, cond_false])⟩)
      refine zq_ic hc hH (by rfl) (tg := 61) (by rfl) (fun h12 => ?_) (fun h12 => ?_)
      · have h12 : (decide ((μ.1 10 0) < 3)) = true := decide_eq_true (cm_lt.mp h12)
        refine z_rcs hc hH 1 (pc' := 62) (lv' := [(3, .int 0), (0, .ref 14), (1, .long ks)]) (st' := [.int 0]) (μ' := μ) (by rfl) ?_
        exact zJ hJ11 rfl (by first | with_reducible rfl | (simp only [h12, lb_f, Int64.or_zero, Int32.add_zero, nB_t, nB_f, Bool.not_true, Bool.not_false, Bool.and_true, Bool.true_and, Bool.false_and, Bool.and_false, Bool.or_true, Bool.true_or, Bool.false_or, Bool.or_false, cond_true, cond_false]; done) | rfl) rfl
      · have h12 : (decide ((μ.1 10 0) < 3)) = false := decide_eq_false (cn_lt.mp h12)
        refine z_rcs hc hH 1 (pc' := 43) (lv' := [(3, .int 0), (0, .ref 14), (1, .long ks)]) (st' := [.ref 14]) (μ' := μ) (by rfl) ?_
        refine zq_tget hc hH (by rfl) (ci := 0) (f := 5) (t := 9) (by decide +kernel) ht (by decide) ?_
        refine z_rcs hc hH 3 (pc' := 50) (lv' := [(3, .int 0), (0, .ref 14), (1, .long ks)]) (st' := [.int 8, .ref 9]) (μ' := μ) (by rfl) ?_
        refine zq_call hc (z_cx_ok hH (by rfl)) (fx_X3_free d' (by omega) μ 8 (by decide)) (by decide +kernel) (fun r9 μ9 hq => ?_)
        obtain ⟨hμ9, rfl⟩ := hq
        rw [hμ9]
        clear hμ9 μ9
        show Z 0 53 [(3, .int 0), (0, .ref 14), (1, .long ks)] [.int (μ.1 10 8)] μ
        refine z_rcs hc hH 1 (pc' := 54) (lv' := [(3, .int 0), (0, .ref 14), (1, .long ks)]) (st' := [.int 3, .int (μ.1 10 8)]) (μ' := μ) (by rfl) ?_
        refine zq_ic hc hH (by rfl) (tg := 61) (by rfl) (fun h13 => ?_) (fun h13 => ?_)
        · have h13 : (decide ((μ.1 10 8) < 3)) = true := decide_eq_true (cm_lt.mp h13)
          refine z_rcs hc hH 1 (pc' := 62) (lv' := [(3, .int 0), (0, .ref 14), (1, .long ks)]) (st' := [.int 0]) (μ' := μ) (by rfl) ?_
          exact zJ hJ11 rfl (by first | with_reducible rfl | (simp only [h12, h13, lb_f, Int64.or_zero, Int32.add_zero, nB_t, nB_f, Bool.not_true, Bool.not_false, Bool.and_true, Bool.true_and, Bool.false_and, Bool.and_false, Bool.or_true, Bool.true_or, Bool.false_or, Bool.or_false, cond_true, cond_false]; done) | rfl) rfl
        · have h13 : (decide ((μ.1 10 8) < 3)) = false := decide_eq_false (cn_lt.mp h13)
          refine z_rcs hc hH 2 (pc' := 62) (lv' := [(3, .int 0), (0, .ref 14), (1, .long ks)]) (st' := [.int 1]) (μ' := μ) (by rfl) ?_
          exact zJ hJ11 rfl (by first | with_reducible rfl | (simp only [h12, h13, lb_f, Int64.or_zero, Int32.add_zero, nB_t, nB_f, Bool.not_true, Bool.not_false, Bool.and_true, Bool.true_and, Bool.false_and, Bool.and_false, Bool.or_true, Bool.true_or, Bool.false_or, Bool.or_false, cond_true, cond_false]; done) | rfl) rfl
  · have h1 : (decide ((μ.1 9 4) ≤ 0)) = false := decide_eq_false (cn_le.mp h1)
    refine z_rcs hc hH 1 (pc' := 11) (lv' := [(0, .ref 14), (1, .long ks)]) (st' := [.int 0]) (μ' := μ) (by rfl) ?_
    exact hr 0 11 _ _ _ (some (.int 0)) (by decide +kernel) (z_rx_ok hH (by rfl)) (⟨rfl, (by simp only [h1, lb_f, Int64.or_zero, Int32.add_zero, nB_t, nB_f, Bool.not_true, Bool.not_false, Bool.and_true, Bool.true_and, Bool.false_and, Bool.and_false, Bool.or_true, Bool.true_or, Bool.false_or, Bool.or_false, cond_true, cond_false])⟩)
noncomputable def xTF (ks : Int64) (ng : Bool) : Int64 := ((((((((lb (decide ((lg_cmp (ks &&& 17113154305) 0) = 0)) 8) ||| (lb (decide ((lg_cmp (ks &&& (-17113154306)) 0) = 0)) 24)) ||| (lb ((decide ((((0 + (nB (!(decide ((lg_cmp (ks &&& (511 <<< ((0 : Int32).toInt64 &&& 63))) 0) = 0))))) + (nB (!(decide ((lg_cmp (ks &&& (511 <<< ((9 : Int32).toInt64 &&& 63))) 0) = 0))))) + (nB (!(decide ((lg_cmp (ks &&& (511 <<< ((18 : Int32).toInt64 &&& 63))) 0) = 0))))) = 1)) && (!(decide ((lg_cmp (ks &&& 17045651456) 0) = 0)))) 26)) ||| (lb ((decide ((((0 + (nB (!(decide ((lg_cmp (ks &&& (511 <<< ((0 : Int32).toInt64 &&& 63))) 0) = 0))))) + (nB (!(decide ((lg_cmp (ks &&& (511 <<< ((9 : Int32).toInt64 &&& 63))) 0) = 0))))) + (nB (!(decide ((lg_cmp (ks &&& (511 <<< ((18 : Int32).toInt64 &&& 63))) 0) = 0))))) = 1)) && (!(!(decide ((lg_cmp (ks &&& 17045651456) 0) = 0))))) 29)) ||| (lb (decide ((lg_cmp (ks &&& (-17045651457)) 0) = 0)) 37)) ||| (lb (decide ((lg_cmp (ks &&& (-67502850)) 0) = 0)) 38)) ||| (lb (decide ((lg_cmp (ks &&& (-4340580353)) 0) = 0)) 39)) ||| (lb ng 40))
noncomputable def xTO (μ : zM) (to : Int64) : Int64 := (bif decide ((μ.1 14 7) = 0) then bif decide ((lg_cmp ((((to &&& 13194139533559).toUInt64 >>> ((1 : Int32).toInt64.toUInt64 &&& Int64.toUInt64 63)).toInt64) &&& 1) 0) = 0) then to &&& 13194139533559 else (to &&& 13194139533559) &&& (-2) else (bif decide ((lg_cmp ((((to &&& 13194139533559).toUInt64 >>> ((1 : Int32).toInt64.toUInt64 &&& Int64.toUInt64 63)).toInt64) &&& 1) 0) = 0) then to &&& 13194139533559 else (to &&& 13194139533559) &&& (-2)) ||| 8)
/-! the class: all ways of a hand -/
set_option maxRecDepth 8000
noncomputable def OVC (κ : zM) (q p : Nat) (sL lL : Nat → Nat) (sl : SL) (x : Q4) : Prop := ∃ c, q ≤ c ∧ c < 5 ∧ OC κ q p (sA q sL sl) (lA q lL sl) c x
noncomputable def Sic (κ : zM) (w : Nat → Nat) (q : Nat) (sL lL : Nat → Nat) (i : Nat) (x : Q4) : Prop := ∃ p, p < i ∧ 2 ≤ w p ∧ SS (OVC κ q p sL lL) [] (sb2 w p) (4 - q) 0 x
noncomputable def S7c (κ : zM) (w : Nat → Nat) (x : Q4) : Prop := ((∀ k, k < 34 → w k = 0 ∨ w k = 2) ∧ κ.1 9 4 = 0 ∧ κ.1 9 5 = 14) ∧ x = vO (κ.1 14 8) (κ.1 14 11) (κ.2.1 14 12 ||| 65536) 25
noncomputable def S13c (κ : zM) (w : Nat → Nat) (x : Q4) : Prop := (κ.1 9 4 = 0 ∧ κ.1 9 5 = 14 ∧ ∀ k, k < 34 → (0 < w k ↔ eN k = true)) ∧ x = vO (κ.1 14 8) (κ.1 14 11) (κ.2.1 14 12 ||| 4294967296) 30
noncomputable def SCl (κ : zM) (w : Nat → Nat) (q : Nat) (sL lL : Nat → Nat) (i : Nat) (x : Q4) : Prop := (S7c κ w x ∨ S13c κ w x) ∨ Sic κ w q sL lL i x
/-- the choices so far -/
noncomputable def Sch (κ : zM) (f : Nat → Int32) (v : Nat → Nat) (q p : Nat) (sL lL : Nat → Nat) (c : Nat) (x : Q4) : Prop := ∃ c', c' < c ∧ ∃ r, PW v (tH (chB f c' 4)) r ∧ sn (fun k => tH (chB f c' 4) k + r k) 34 = 4 - q ∧ OVC κ q p sL lL (flt (tH (chB f c' 4)) r 34 0) x
theorem enc : ∀ b0 b1 b2 b3 : Bool, ∀ m, m ≤ 4 → (m ≤ 0 → b0 = false) → (m ≤ 1 → b1 = false) → (m ≤ 2 → b2 = false) → (m ≤ 3 → b3 = false) → (b0.toNat + 2 * b1.toNat + 4 * b2.toNat + 8 * b3.toNat) < 2 ^ m ∧ ((b0.toNat + 2 * b1.toNat + 4 * b2.toNat + 8 * b3.toNat) / 2 ^ 0 % 2 = 1 ↔ b0 = true) ∧ ((b0.toNat + 2 * b1.toNat + 4 * b2.toNat + 8 * b3.toNat) / 2 ^ 1 % 2 = 1 ↔ b1 = true) ∧ ((b0.toNat + 2 * b1.toNat + 4 * b2.toNat + 8 * b3.toNat) / 2 ^ 2 % 2 = 1 ↔ b2 = true) ∧ ((b0.toNat + 2 * b1.toNat + 4 * b2.toNat + 8 * b3.toNat) / 2 ^ 3 % 2 = 1 ↔ b3 = true) := by
  intro b0 b1 b2 b3 m hm
  have : m = 0 ∨ m = 1 ∨ m = 2 ∨ m = 3 ∨ m = 4 := by omega
  rcases this with rfl | rfl | rfl | rfl | rfl <;> cases b0 <;> cases b1 <;> cases b2 <;> cases b3 <;> decide
theorem enc2 (b : Nat → Bool) (m : Nat) (hm : m ≤ 4) (hb : ∀ j, m ≤ j → b j = false) : ∃ c, c < 2 ^ m ∧ ∀ j, j < 4 → (c / 2 ^ j % 2 = 1 ↔ b j = true) := by
  have e := enc (b 0) (b 1) (b 2) (b 3) m hm (fun h => hb 0 h) (fun h => hb 1 h) (fun h => hb 2 h) (fun h => hb 3 h)
  refine ⟨_, e.1, fun j hj => ?_⟩
  rcases j with _ | _ | _ | _ | j
  · exact e.2.1
  · exact e.2.2.1
  · exact e.2.2.2.1
  · exact e.2.2.2.2
  · omega
theorem flt_c34 {t r t' : Nat → Nat} (h : ∀ k, k < 34 → t k = t' k) : flt t r 34 0 = flt t' r 34 0 := flt_congr 34 0 (fun j _ h2 => ⟨h j (by omega), rfl⟩)
theorem Sch_all {μ κ : zM} {v : Nat → Nat} {q p : Nat} {sL lL : Nat → Nat} (h4 : ∀ k, k < 34 → v k ≤ 5) (hs : sn v 34 ≤ 12) (hf : F3 μ v 34) (x : Q4) : Sch κ (μ.1 17) v q p sL lL (2 ^ c3 v 34) x ↔ SS (OVC κ q p sL lL) [] v (4 - q) 0 x := by
  constructor
  · rintro ⟨c', h1, r, h2, h3, h5⟩
    exact ⟨_, r, h2, h3, fun k z => absurd z (by omega), by rw [List.nil_append]; exact h5⟩
  · rintro ⟨t, r, h2, h3, -, h5⟩
    rw [List.nil_append] at h5
    have t1 : ∀ k, k < 34 → t k ≤ 1 := fun k hk => by have := h2.2 k hk; have := h4 k hk; omega
    have t3 : ∀ k, k < 34 → t k = 1 → 3 ≤ v k := fun k hk e => by have := h2.2 k hk; omega
    have hm : c3 v 34 ≤ 4 := by have := c3_sn v 34; omega
    obtain ⟨c, hc, hb⟩ := enc2 (wb (fun j => ∃ k, k < 34 ∧ 3 ≤ v k ∧ c3 v k = j ∧ t k = 1)) (c3 v 34) hm (fun j hj => wb_f (fun ⟨k, a1, a2, a3, _⟩ => by have := c3_lt v a1 a2; omega))
    have hb : ∀ j, j < 4 → (c / 2 ^ j % 2 = 1 ↔ ∃ k, k < 34 ∧ 3 ≤ v k ∧ c3 v k = j ∧ t k = 1) := fun j hj => (hb j hj).trans ⟨fun z => Classical.byContradiction (fun y => by rw [wb_f y] at z; exact absurd z (by decide)), fun z => wb_t z⟩
    have et : ∀ k, k < 34 → tH (chB (μ.1 17) c 4) k = t k := fun k hk => by
      have e := chB_bit (μ.1 17) c k hk 4 (fun j hj z => by
        obtain ⟨k', a1, a2, a3, _⟩ := (hb j hj).mp z
        exact ⟨k', a1, by rw [← a3]; exact hf k' a1 a2⟩)
      unfold tH
      rw [xHd_bit _ k hk]
      by_cases z : t k = 1
      · rw [z]
        have a2 := t3 k hk z
        have a3 := c3_lt v hk a2
        rw [if_pos (e.mpr ⟨c3 v k, by omega, (hb _ (by omega)).mpr ⟨k, hk, a2, rfl, z⟩, hf k hk a2⟩)]
      · rw [if_neg (fun y => by
          obtain ⟨j, hj, y1, y2⟩ := e.mp y
          obtain ⟨k', a1, a2, a3, a4⟩ := (hb j hj).mp y1
          have := hf k' a1 a2
          rw [a3, y2] at this
          have := (nI_eq (show k < 2 ^ 31 by omega) (show k' < 2 ^ 31 by omega)).mp this
          rw [this] at z
          exact z a4)]
        have := t1 k hk
        omega
    refine ⟨c, hc, r, ⟨h2.1, fun k hk => by rw [et k hk]; exact h2.2 k hk⟩, ?_, by rw [flt_c34 et]; exact h5⟩
    rw [← h3]
    exact sn_congr (fun k hk => by rw [et k hk])
theorem flt_PV {t r : Nat → Nat} {q : Nat} {sL lL : Nat → Nat} (hr : ∀ k, r k ≠ 0 → rs k) (hL : ∀ j, j < q → sL j ≤ 3 ∧ lL j < 34) (hl : q + (flt t r 34 0).length = 4) : ∀ j, j < 4 → sA q sL (flt t r 34 0) j ≤ 3 ∧ lA q lL (flt t r 34 0) j < 34 := by
  have hm : ∀ n, n ≤ 34 → ∀ x ∈ flt t r n 0, x.1 ≤ 3 ∧ x.2 < 34 := by
    intro n
    induction n with
    | zero => intro _ x hx; exact absurd hx List.not_mem_nil
    | succ n ih =>
      intro hn x hx
      rw [flt_snoc, List.mem_append, List.mem_append, Nat.zero_add] at hx
      rcases hx with hx | hx | hx
      · exact ih (by omega) x hx
      · rw [(List.mem_replicate.mp hx).2]; exact ⟨by show 1 ≤ 3; omega, by show n < 34; omega⟩
      · rw [(List.mem_replicate.mp hx).2]; exact ⟨by show 0 ≤ 3; omega, by show n < 34; omega⟩
  intro j hj
  unfold sA lA
  by_cases c : j < q
  · rw [if_pos c, if_pos c]; exact hL j c
  · rw [if_neg c, if_neg c, List.getD_eq_getElem?_getD, List.getElem?_eq_getElem (show j - q < (flt t r 34 0).length by omega), Option.getD_some]
    exact hm 34 (by omega) _ (List.getElem_mem _)
noncomputable abbrev mdJJ : List (Nat × Nat) := [(14, 0), (14, 1), (14, 2), (14, 3), (14, 4), (14, 9998), (14, 6), (14, 7), (14, 8), (14, 9), (14, 10), (14, 11), (14, 12), (14, 15), (14, 16), (14, 17), (15, 9999), (16, 9999), (17, 9999)]
/-- what the judge reads -/
noncomputable def KC (κ : zM) (w aw : Nat → Nat) (q : Nat) (sL lL : Nat → Nat) (k : Int32) (dr : Bool) (told : Int64) (sw rw dear : Int32) : Prop := (κ.1 9 4 = nI q) ∧ (κ.1 9 5 = nI (sn w 34)) ∧ (RW κ 10 w) ∧ (∀ j, j < q → κ.1 12 j = nI (sL j) ∧ κ.1 13 j = nI (lL j)) ∧ (κ.1 14 6 = k) ∧ (κ.1 14 7 = nB dr) ∧ (κ.1 14 8 = nB (xOr (κ.1 12) q)) ∧ (κ.1 14 9 = sw) ∧ (κ.1 14 10 = rw) ∧ (κ.1 14 11 = dear) ∧ (κ.2.1 14 12 = xTO κ told ||| xTF (kb (fun k => decide (0 < aw k)) 34) (xNG κ (kb (fun k => decide (0 < aw k)) 34))) ∧ (κ.2.2 14 = 9)
theorem KC.d4 {κ : zM} {w aw : Nat → Nat} {q : Nat} {sL lL : Nat → Nat} {k : Int32} {dr : Bool} {told : Int64} {sw rw dear : Int32} (h : KC κ w aw q sL lL k dr told sw rw dear) : κ.1 9 4 = nI q := h.1
theorem KC.d5 {κ : zM} {w aw : Nat → Nat} {q : Nat} {sL lL : Nat → Nat} {k : Int32} {dr : Bool} {told : Int64} {sw rw dear : Int32} (h : KC κ w aw q sL lL k dr told sw rw dear) : κ.1 9 5 = nI (sn w 34) := h.2.1
theorem KC.r10 {κ : zM} {w aw : Nat → Nat} {q : Nat} {sL lL : Nat → Nat} {k : Int32} {dr : Bool} {told : Int64} {sw rw dear : Int32} (h : KC κ w aw q sL lL k dr told sw rw dear) : RW κ 10 w := h.2.2.1
theorem KC.r12 {κ : zM} {w aw : Nat → Nat} {q : Nat} {sL lL : Nat → Nat} {k : Int32} {dr : Bool} {told : Int64} {sw rw dear : Int32} (h : KC κ w aw q sL lL k dr told sw rw dear) : ∀ j, j < q → κ.1 12 j = nI (sL j) ∧ κ.1 13 j = nI (lL j) := h.2.2.2.1
theorem KC.c6 {κ : zM} {w aw : Nat → Nat} {q : Nat} {sL lL : Nat → Nat} {k : Int32} {dr : Bool} {told : Int64} {sw rw dear : Int32} (h : KC κ w aw q sL lL k dr told sw rw dear) : κ.1 14 6 = k := h.2.2.2.2.1
theorem KC.c7 {κ : zM} {w aw : Nat → Nat} {q : Nat} {sL lL : Nat → Nat} {k : Int32} {dr : Bool} {told : Int64} {sw rw dear : Int32} (h : KC κ w aw q sL lL k dr told sw rw dear) : κ.1 14 7 = nB dr := h.2.2.2.2.2.1
theorem KC.c8 {κ : zM} {w aw : Nat → Nat} {q : Nat} {sL lL : Nat → Nat} {k : Int32} {dr : Bool} {told : Int64} {sw rw dear : Int32} (h : KC κ w aw q sL lL k dr told sw rw dear) : κ.1 14 8 = nB (xOr (κ.1 12) q) := h.2.2.2.2.2.2.1
theorem KC.c9 {κ : zM} {w aw : Nat → Nat} {q : Nat} {sL lL : Nat → Nat} {k : Int32} {dr : Bool} {told : Int64} {sw rw dear : Int32} (h : KC κ w aw q sL lL k dr told sw rw dear) : κ.1 14 9 = sw := h.2.2.2.2.2.2.2.1
theorem KC.c10 {κ : zM} {w aw : Nat → Nat} {q : Nat} {sL lL : Nat → Nat} {k : Int32} {dr : Bool} {told : Int64} {sw rw dear : Int32} (h : KC κ w aw q sL lL k dr told sw rw dear) : κ.1 14 10 = rw := h.2.2.2.2.2.2.2.2.1
theorem KC.c11 {κ : zM} {w aw : Nat → Nat} {q : Nat} {sL lL : Nat → Nat} {k : Int32} {dr : Bool} {told : Int64} {sw rw dear : Int32} (h : KC κ w aw q sL lL k dr told sw rw dear) : κ.1 14 11 = dear := h.2.2.2.2.2.2.2.2.2.1
theorem KC.t12 {κ : zM} {w aw : Nat → Nat} {q : Nat} {sL lL : Nat → Nat} {k : Int32} {dr : Bool} {told : Int64} {sw rw dear : Int32} (h : KC κ w aw q sL lL k dr told sw rw dear) : κ.2.1 14 12 = xTO κ told ||| xTF (kb (fun k => decide (0 < aw k)) 34) (xNG κ (kb (fun k => decide (0 < aw k)) 34)) := h.2.2.2.2.2.2.2.2.2.2.1
theorem KC.ht {κ : zM} {w aw : Nat → Nat} {q : Nat} {sL lL : Nat → Nat} {k : Int32} {dr : Bool} {told : Int64} {sw rw dear : Int32} (h : KC κ w aw q sL lL k dr told sw rw dear) : κ.2.2 14 = 9 := h.2.2.2.2.2.2.2.2.2.2.2
noncomputable def JP (κ μ1 : zM) (p : Nat) (S : Q4 → Prop) (N : Nat) : Prop := a_Fz mdJ κ μ1 ∧ a_H μ1 ∧ CI S N μ1
theorem lt2 : ∀ a, a < 6 → (z_cmp .lt (nI a) 2 = false ↔ 2 ≤ a) := by decide +kernel
theorem lt2n : ∀ a, a < 6 → (z_cmp .lt (nI a) 2 = true ↔ ¬ 2 ≤ a) := by decide +kernel
theorem sh_2 : ∀ m, m ≤ 4 → (1 : Int32) <<< (nI m &&& 31) = nI (2 ^ m) := by decide +kernel
theorem zh_X1_judge : zH mi_X1_judge zt_X1_judge 79 1 11 := hh_X1_judge
theorem jg203 (d' : Nat) (Z : zK) (hd : 6 ≤ d') (μ0 : zM) (w aw : Nat → Nat) (q : Nat) (hq : q ≤ 4) (sL lL : Nat → Nat) (hLb : ∀ j, j < q → sL j ≤ 3 ∧ lL j < 34) (hw4 : ∀ k, k < 34 → w k ≤ 4) (h14 : sn w 34 + 3 * q = 14) (k wi de sw rw de9 : Int32) (dr : Bool) (told : Int64) (κ : zM) (hK : KC κ w aw q sL lL k dr told sw rw de9) (hc : z_clo z_x0 mi_X1_judge (z_C d') Z) (i : Nat) (hi : i < 34) (h2 : 2 ≤ w i) (S : Q4 → Prop) (N : Nat) (hN : N + 100 < 100000) (f : Nat → Int32) (mm : Nat) (hm4 : mm ≤ 4) (K : ∀ μ1 x10 x9, JP κ μ1 i (fun x => S x ∨ Sch κ f (sb2 w i) q i sL lL (2 ^ mm) x) (N + 80) → Z 0 164 [(8, .int (nI (i + 1))), (10, .int x10), (9, .int x9), (0, .ref 14), (1, .ref 9), (2, .int k), (3, .int (nB dr)), (4, .long told), (6, .int wi), (7, .int de)] [] μ1) : ∀ n c, c + n = 2 ^ mm → ∀ μ1, (μ1.1 14 15 = nI i ∧ (∀ j, j < 4 → μ1.1 17 j = f j)) → JP κ μ1 i (fun x => S x ∨ Sch κ f (sb2 w i) q i sL lL c x) (N + 5 * c) → Z 0 203 [(10, .int (nI c)), (9, .int (nI (2 ^ mm))), (8, .int (nI i)), (0, .ref 14), (1, .ref 9), (2, .int k), (3, .int (nB dr)), (4, .long told), (6, .int wi), (7, .int de)] [] μ1 := by
  have hH := zh_X1_judge
  have h16 : 2 ^ mm ≤ 16 := by have : mm = 0 ∨ mm = 1 ∨ mm = 2 ∨ mm = 3 ∨ mm = 4 := by omega
                               rcases this with rfl | rfl | rfl | rfl | rfl <;> decide
  intro n
  induction n with
  | zero =>
    intro c hc9 μ1 hg g
    have hc9 : c = 2 ^ mm := by omega
    subst hc9
    refine z_rcs hc hH 2 (pc' := 207) (lv' := [(10, .int (nI (2 ^ mm))), (9, .int (nI (2 ^ mm))), (8, .int (nI i)), (0, .ref 14), (1, .ref 9), (2, .int k), (3, .int (nB dr)), (4, .long told), (6, .int wi), (7, .int de)]) (st' := [.int (nI (2 ^ mm)), .int (nI (2 ^ mm))]) (μ' := μ1) (by rfl) ?_
    refine zq_ic hc hH (by rfl) (tg := 233) (by rfl) (fun _ => ?_) (fun h9 => (zb_t (ge_nIt (n := 2 ^ mm) (i := 2 ^ mm) (Nat.le_refl _) (by omega)) h9).elim)
    refine z_rcs hc hH 2 (pc' := 164) (lv' := [(8, .int ((nI i) + 1)), (10, .int (nI (2 ^ mm))), (9, .int (nI (2 ^ mm))), (0, .ref 14), (1, .ref 9), (2, .int k), (3, .int (nB dr)), (4, .long told), (6, .int wi), (7, .int de)]) (st' := []) (μ' := μ1) (by rfl) ?_
    rw [nI_1]
    exact K μ1 _ _ ⟨g.1, g.2.1, g.2.2.up (by omega)⟩
  | succ n ih =>
    intro c hc9 μ1 hg g
    have d41 : μ1.1 9 4 = nI q := (a_Fz_at g.1 9 4 (a_md_row (by decide +kernel))).trans hK.d4
    have ht1 : μ1.2.2 14 = 9 := (g.1.2 14 (by decide)).trans hK.ht
    have w10 : RW μ1 10 w := fun j hj => by rw [a_Fz_at g.1 10 j (a_md_row (by decide +kernel))]; exact hK.r10 j hj
    have hL1 : ∀ j, j < q → μ1.1 12 j = nI (sL j) ∧ μ1.1 13 j = nI (lL j) := fun j hj => by rw [a_Fz_at g.1 12 j (a_md_row (by decide +kernel)), a_Fz_at g.1 13 j (a_md_row (by decide +kernel))]; exact hK.r12 j hj
    have ech : chB (μ1.1 17) c 4 = chB f c 4 := by
      have : ∀ n, n ≤ 4 → chB (μ1.1 17) c n = chB f c n := by
        intro n
        induction n with
        | zero => intro _; rfl
        | succ n ih => intro hn; show (if c / 2 ^ n % 2 = 1 then chB (μ1.1 17) c n ||| ((1 : Int64) <<< ((μ1.1 17 n).toInt64 &&& 63)) else chB (μ1.1 17) c n) = (if c / 2 ^ n % 2 = 1 then chB f c n ||| ((1 : Int64) <<< ((f n).toInt64 &&& 63)) else chB f c n); rw [ih (by omega), hg.2 n (by omega)]
      exact this 4 (by omega)
    refine z_rcs hc hH 2 (pc' := 207) (lv' := [(10, .int (nI c)), (9, .int (nI (2 ^ mm))), (8, .int (nI i)), (0, .ref 14), (1, .ref 9), (2, .int k), (3, .int (nB dr)), (4, .long told), (6, .int wi), (7, .int de)]) (st' := [.int (nI (2 ^ mm)), .int (nI c)]) (μ' := μ1) (by rfl) ?_
    refine zq_ic hc hH (by rfl) (tg := 233) (by rfl) (fun h9 => (zb_t h9 (ge_nI (n := 2 ^ mm) (i := c) (by omega) (by omega))).elim) (fun _ => ?_)
    refine z_rcs hc hH 3 (pc' := 214) (lv' := [(10, .int (nI c)), (9, .int (nI (2 ^ mm))), (8, .int (nI i)), (0, .ref 14), (1, .ref 9), (2, .int k), (3, .int (nB dr)), (4, .long told), (6, .int wi), (7, .int de)]) (st' := [.int (nI c), .ref 14, .ref 14]) (μ' := μ1) (by rfl) ?_
    refine zq_call hc (z_cx_ok hH (by rfl)) (fb_X1_chosenThrees d' (by omega) μ1 c (by omega)) (by decide +kernel) (fun r9 μ9 hq => ?_)
    obtain ⟨hμ9, rfl⟩ := hq
    rw [hμ9]
    clear hμ9 μ9
    show Z 0 217 [(10, .int (nI c)), (9, .int (nI (2 ^ mm))), (8, .int (nI i)), (0, .ref 14), (1, .ref 9), (2, .int k), (3, .int (nB dr)), (4, .long told), (6, .int wi), (7, .int de)] [.long (chB (μ1.1 17) c 4), .ref 14] μ1
    rw [ech]
    show Z 0 217 [(10, .int (nI c)), (9, .int (nI (2 ^ mm))), (8, .int (nI i)), (0, .ref 14), (1, .ref 9), (2, .int k), (3, .int (nB dr)), (4, .long told), (6, .int wi), (7, .int de)] [.long (chB f c 4), .ref 14] μ1
    refine zq_call hc (z_cx_ok hH (by rfl)) (fb_X1_fillWay d' (by omega) μ1 w i w10 hi h2 hg.1 ht1 (chB f c 4) q hq d41 sL lL hL1 g.2.1) (by decide +kernel) (fun r2 μ2 hq2 => ?_)
    obtain ⟨bb, rfl, F2, H2, ht2, hf2⟩ := hq2
    have FK2 : a_Fz mdJ κ μ2 := a_Fz_tr (by decide +kernel) g.1 F2
    have hg2 : μ2.1 14 15 = nI i ∧ (∀ j, j < 4 → μ2.1 17 j = f j) := ⟨(a_Fz_at F2 14 15 (a_md_row (by decide +kernel))).trans hg.1, fun j hj => (a_Fz_at F2 17 j (a_md_row (by decide +kernel))).trans (hg.2 j hj)⟩
    have C2 : CI (fun x => S x ∨ Sch κ f (sb2 w i) q i sL lL c x) (N + 5 * c) μ2 := by
      obtain ⟨n9, a1, a2, a3⟩ := g.2.2
      have e2 : bqC μ2 = bqC μ1 := by unfold bqC; rw [a_Fz_at F2 14 0 (a_md_row (by decide +kernel)), a_Fz_at F2 14 1 (a_md_row (by decide +kernel)), a_Fz_at F2 14 2 (a_md_row (by decide +kernel)), (F2.1 14 3 (a_md_row (by decide +kernel))).2]
      exact ⟨n9, a1, (a_Fz_at F2 14 4 (a_md_row (by decide +kernel))).trans a2, by rw [e2]; exact a3⟩
    show Z 0 220 [(10, .int (nI c)), (9, .int (nI (2 ^ mm))), (8, .int (nI i)), (0, .ref 14), (1, .ref 9), (2, .int k), (3, .int (nB dr)), (4, .long told), (6, .int wi), (7, .int de)] [.int (nB bb)] μ2
    refine zq_if hc hH (by rfl) (tg := 227) (by rfl) (fun h1 => ?_) (fun h1 => ?_)
    · have h1 := cm_eq9.mp h1
      refine z_rcs hc hH 2 (pc' := 203) (lv' := [(10, .int ((nI c) + 1)), (9, .int (nI (2 ^ mm))), (8, .int (nI i)), (0, .ref 14), (1, .ref 9), (2, .int k), (3, .int (nB dr)), (4, .long told), (6, .int wi), (7, .int de)]) (st' := []) (μ' := μ2) (by rfl) ?_
      rw [nI_1]
      have hbb : bb = false := nB_z.mp h1
      exact ih (c + 1) (by omega) μ2 hg2 ⟨FK2, H2, (C2.up (by omega)).iff (fun x => ⟨fun z => z.imp id (fun ⟨c9, b1, b2⟩ => ⟨c9, by omega, b2⟩), fun z => z.imp id (fun ⟨c9, b1, r9, b2, b3, b4⟩ => ⟨c9, if e : c9 = c then (by subst e; exact absurd ⟨r9, b2, b3⟩ (hf2 hbb)) else (by omega), r9, b2, b3, b4⟩)⟩)⟩
    · have h1 := cn_eq.mp h1
      refine z_rcs hc hH 1 (pc' := 224) (lv' := [(10, .int (nI c)), (9, .int (nI (2 ^ mm))), (8, .int (nI i)), (0, .ref 14), (1, .ref 9), (2, .int k), (3, .int (nB dr)), (4, .long told), (6, .int wi), (7, .int de)]) (st' := [.ref 14]) (μ' := μ2) (by rfl) ?_
      have hbb : bb = true := nB_n.mp h1
      obtain ⟨r, hPW, hsn, hrow⟩ := ht2 hbb
      have hlen : q + (flt (tH (chB f c 4)) r 34 0).length = 4 := by rw [flt_len]; omega
      have bnd := flt_PV hPW.1 hLb hlen
      have hW : CW μ2 (sA q sL (flt (tH (chB f c 4)) r 34 0)) (lA q lL (flt (tH (chB f c 4)) r 34 0)) := fun j hj => ⟨⟨(hrow j hj).1, (bnd j hj).1⟩, (hrow j hj).2, (bnd j hj).2⟩
      refine zq_call hc (z_cx_ok hH (by rfl)) (fb_X1_weighWay d' (by omega) μ2 κ q i _ _ _ (N + 5 * c) (by omega) hq hi FK2 H2 hW hg2.1 ((F2.2 14 (by decide +kernel)).trans ht1) ((a_Fz_at F2 9 4 (a_md_row (by decide +kernel))).trans d41) C2) (by decide +kernel) (fun r3 μ3 hq3 => ?_)
      obtain ⟨rfl, F3, H3, C3⟩ := hq3
      show Z 0 227 [(10, .int (nI c)), (9, .int (nI (2 ^ mm))), (8, .int (nI i)), (0, .ref 14), (1, .ref 9), (2, .int k), (3, .int (nB dr)), (4, .long told), (6, .int wi), (7, .int de)] [] μ3
      refine z_rcs hc hH 2 (pc' := 203) (lv' := [(10, .int ((nI c) + 1)), (9, .int (nI (2 ^ mm))), (8, .int (nI i)), (0, .ref 14), (1, .ref 9), (2, .int k), (3, .int (nB dr)), (4, .long told), (6, .int wi), (7, .int de)]) (st' := []) (μ' := μ3) (by rfl) ?_
      rw [nI_1]
      refine ih (c + 1) (by omega) μ3 ⟨(a_Fz_at F3 14 15 (by decide +kernel)).trans hg2.1, fun j hj => (a_Fz_at F3 17 j (a_md_row (by decide +kernel))).trans (hg2.2 j hj)⟩ ⟨a_Fz_tr (by decide +kernel) FK2 F3, H3, (C3.up (by omega)).iff (fun x => ⟨?_, ?_⟩)⟩
      · rintro ((z | ⟨c9, b1, b2⟩) | z)
        · exact Or.inl z
        · exact Or.inr ⟨c9, by omega, b2⟩
        · exact Or.inr ⟨c, by omega, r, hPW, hsn, z⟩
      · rintro (z | ⟨c9, b1, r9, b2, b3, b4⟩)
        · exact Or.inl (Or.inl z)
        · by_cases e : c9 = c
          · subst e
            have er : ∀ k, k < 34 → r9 k = r k := PF_un (i := 34) ⟨fun k hk => ⟨hPW.1 k hk, by have := hPW.1 k hk; unfold rs at this; omega⟩, hPW.2⟩ b2.2 (by omega) 34 (by omega)
            rw [flt_congr 34 0 (fun j _ h9 => ⟨rfl, er j (by omega)⟩)] at b4
            exact Or.inr b4
          · exact Or.inl (Or.inr ⟨c9, by omega, r9, b2, b3, b4⟩)
theorem jg164 (d' : Nat) (Z : zK) (hd : 6 ≤ d') (μ0 : zM) (w aw : Nat → Nat) (q : Nat) (hq : q ≤ 4) (sL lL : Nat → Nat) (hLb : ∀ j, j < q → sL j ≤ 3 ∧ lL j < 34) (hw4 : ∀ k, k < 34 → w k ≤ 4) (h14 : sn w 34 + 3 * q = 14) (k wi de sw rw de9 : Int32) (dr : Bool) (told : Int64) (κ : zM) (hK : KC κ w aw q sL lL k dr told sw rw de9) (hc : z_clo z_x0 mi_X1_judge (z_C d') Z) (hr : z_ret mi_X1_judge (fun r μ' => r = none ∧ JP κ μ' 0 (SCl κ w q sL lL 34) 5000) Z) : ∀ n i, i + n = 34 → ∀ μ1, JP κ μ1 i (SCl κ w q sL lL i) (2 + 80 * i) → Z 0 164 [(8, .int (nI i)), (0, .ref 14), (1, .ref 9), (2, .int k), (3, .int (nB dr)), (4, .long told), (6, .int wi), (7, .int de)] [] μ1 ∧ ∀ x10 x9, Z 0 164 [(8, .int (nI i)), (10, .int x10), (9, .int x9), (0, .ref 14), (1, .ref 9), (2, .int k), (3, .int (nB dr)), (4, .long told), (6, .int wi), (7, .int de)] [] μ1 := by
  have hH := zh_X1_judge
  intro n
  induction n with
  | zero =>
    intro i hi μ1 g
    have hi : i = 34 := by omega
    subst hi
    refine ⟨?_, fun x10 x9 => ?_⟩
    · skip
      refine z_rcs hc hH 2 (pc' := 168) (lv' := [(8, .int (nI 34)), (0, .ref 14), (1, .ref 9), (2, .int k), (3, .int (nB dr)), (4, .long told), (6, .int wi), (7, .int de)]) (st' := [.int 34, .int (nI 34)]) (μ' := μ1) (by rfl) ?_
      refine zq_ic hc hH (by rfl) (tg := 239) (by rfl) (fun _ => ?_) (fun h9 => (zb_t (ge_nIt (n := 34) (i := 34) (by decide) (by decide)) h9).elim)
      exact hr 0 239 _ _ _ none (by decide +kernel) (by rfl) (⟨rfl, g.1, g.2.1, g.2.2.up (by omega)⟩)
    · skip
      refine z_rcs hc hH 2 (pc' := 168) (lv' := [(8, .int (nI 34)), (10, .int x10), (9, .int x9), (0, .ref 14), (1, .ref 9), (2, .int k), (3, .int (nB dr)), (4, .long told), (6, .int wi), (7, .int de)]) (st' := [.int 34, .int (nI 34)]) (μ' := μ1) (by rfl) ?_
      refine zq_ic hc hH (by rfl) (tg := 239) (by rfl) (fun _ => ?_) (fun h9 => (zb_t (ge_nIt (n := 34) (i := 34) (by decide) (by decide)) h9).elim)
      exact hr 0 239 _ _ _ none (by decide +kernel) (by rfl) (⟨rfl, g.1, g.2.1, g.2.2.up (by omega)⟩)
  | succ n ih =>
    intro i hi μ1 g
    have hin : vp_in (nI i) 34 := vp_in_nI (by omega) (by decide)
    have ei : (nI i).toNatClampNeg = i := nI_clamp (by omega)
    have bw := hw4 i (by omega)
    have no : ¬ 2 ≤ w i → ∀ x, SCl κ w q sL lL i x ↔ SCl κ w q sL lL (i + 1) x := fun hn x => ⟨fun z => z.imp id (fun ⟨p9, u1, u2⟩ => ⟨p9, by omega, u2⟩), fun z => z.imp id (fun ⟨p9, u1, u2⟩ => ⟨p9, if e : p9 = i then (by rw [e] at u2; exact absurd u2.1 hn) else (by omega), u2⟩)⟩
    refine ⟨?_, fun x10 x9 => ?_⟩
    · skip
      refine z_rcs hc hH 2 (pc' := 168) (lv' := [(8, .int (nI i)), (0, .ref 14), (1, .ref 9), (2, .int k), (3, .int (nB dr)), (4, .long told), (6, .int wi), (7, .int de)]) (st' := [.int 34, .int (nI i)]) (μ' := μ1) (by rfl) ?_
      refine zq_ic hc hH (by rfl) (tg := 239) (by rfl) (fun h9 => (zb_t h9 (ge_nI (n := 34) (i := i) (by omega) (by decide))).elim) (fun _ => ?_)
      refine z_rcs hc hH 3 (pc' := 177) (lv' := [(8, .int (nI i)), (0, .ref 14), (1, .ref 9), (2, .int k), (3, .int (nB dr)), (4, .long told), (6, .int wi), (7, .int de)]) (st' := []) (μ' := z_ui μ1 14 15 (nI i)) (by rfl) ?_
      have g2 : JP κ (z_ui μ1 14 15 (nI i)) i (SCl κ w q sL lL i) (2 + 80 * i) := by
        refine ⟨a_Fz_ui g.1 (by decide +kernel), a_H_ui g.2.1 (bI_top _), ?_⟩
        obtain ⟨n9, a1, a2, a3⟩ := g.2.2
        exact ⟨n9, a1, a2, a3⟩
      have e15 : (z_ui μ1 14 15 (nI i)).1 14 15 = nI i := by rw [z_ui_rd, if_pos ⟨rfl, rfl⟩]
      generalize z_ui μ1 14 15 (nI i) = μ2 at g2 e15 ⊢
      have w10 : RW μ2 10 w := fun j hj => by rw [a_Fz_at g2.1 10 j (a_md_row (by decide +kernel))]; exact hK.r10 j hj
      have ht2 : μ2.2.2 14 = 9 := (g2.1.2 14 (by decide)).trans hK.ht
      refine z_rcs hc hH 3 (pc' := 183) (lv' := [(8, .int (nI i)), (0, .ref 14), (1, .ref 9), (2, .int k), (3, .int (nB dr)), (4, .long told), (6, .int wi), (7, .int de)]) (st' := [.int (nI i), .ref 10]) (μ' := μ2) (by rfl) ?_
      refine zq_iald hc hH (by rfl) 34 (by decide +kernel) (hin) ?_
      rw [ei, (w10 i (by omega)).1]
      show Z 0 184 [(8, .int (nI i)), (0, .ref 14), (1, .ref 9), (2, .int k), (3, .int (nB dr)), (4, .long told), (6, .int wi), (7, .int de)] [.int (nI (w i))] μ2
      refine z_rcs hc hH 1 (pc' := 185) (lv' := [(8, .int (nI i)), (0, .ref 14), (1, .ref 9), (2, .int k), (3, .int (nB dr)), (4, .long told), (6, .int wi), (7, .int de)]) (st' := [.int 2, .int (nI (w i))]) (μ' := μ2) (by rfl) ?_
      by_cases h2 : 2 ≤ w i
      · skip
        refine zq_ic hc hH (by rfl) (tg := 197) (by rfl) (fun h9 => (zb_t h9 ((lt2 (w i) (by omega)).mpr h2)).elim) (fun _ => ?_)
        refine z_rcs hc hH 2 (pc' := 190) (lv' := [(8, .int (nI i)), (0, .ref 14), (1, .ref 9), (2, .int k), (3, .int (nB dr)), (4, .long told), (6, .int wi), (7, .int de)]) (st' := [.ref 14, .int 1]) (μ' := μ2) (by rfl) ?_
        refine zq_call hc (z_cx_ok hH (by rfl)) (fb_X1_findThrees d' (by omega) μ2 w i w10 (by omega) h2 e15 ht2 g2.2.1 (by have := sn_sb2 (w := w) (p := i) (by omega) h2; omega)) (by decide +kernel) (fun r3 μ3 hq3 => ?_)
        obtain ⟨rfl, hT⟩ := hq3
        have hs12 : sn (sb2 w i) 34 ≤ 12 := by have := sn_sb2 (w := w) (p := i) (by omega) h2; omega
        have m4 : c3 (sb2 w i) 34 ≤ 4 := by have := c3_sn (sb2 w i) 34; omega
        show Z 0 193 [(8, .int (nI i)), (0, .ref 14), (1, .ref 9), (2, .int k), (3, .int (nB dr)), (4, .long told), (6, .int wi), (7, .int de)] [.int (nI (c3 (sb2 w i) 34)), .int 1] μ3
        refine z_rcs hc hH 1 (pc' := 194) (lv' := [(8, .int (nI i)), (0, .ref 14), (1, .ref 9), (2, .int k), (3, .int (nB dr)), (4, .long told), (6, .int wi), (7, .int de)]) (st' := [.int (1 <<< ((nI (c3 (sb2 w i) 34)) &&& 31))]) (μ' := μ3) (by rfl) ?_
        rw [sh_2 _ m4]
        show Z 0 194 [(8, .int (nI i)), (0, .ref 14), (1, .ref 9), (2, .int k), (3, .int (nB dr)), (4, .long told), (6, .int wi), (7, .int de)] [.int (nI (2 ^ c3 (sb2 w i) 34))] μ3
        refine z_rcs hc hH 4 (pc' := 203) (lv' := [(10, .int 0), (9, .int (nI (2 ^ c3 (sb2 w i) 34))), (8, .int (nI i)), (0, .ref 14), (1, .ref 9), (2, .int k), (3, .int (nB dr)), (4, .long told), (6, .int wi), (7, .int de)]) (st' := []) (μ' := μ3) (by rfl) ?_
        refine jg203 d' Z hd μ0 w aw q hq sL lL hLb hw4 h14 k wi de sw rw de9 dr told κ hK hc i (by omega) h2 (SCl κ w q sL lL i) (2 + 80 * i) (by omega) (μ3.1 17) (c3 (sb2 w i) 34) m4 (fun μ4 y10 y9 g4 => ?_) (2 ^ c3 (sb2 w i) 34) 0 (by omega) μ3 ⟨(a_Fz_at hT.1 14 15 (a_md_row (by decide +kernel))).trans e15, fun j _ => rfl⟩ ?_
        · refine (ih (i + 1) (by omega) μ4 ⟨g4.1, g4.2.1, (g4.2.2.up (by omega)).iff (fun x => ?_)⟩).2 y10 y9
          rw [Sch_all (fun k hk => by have := hw4 k hk; unfold sb2; split <;> omega) hs12 hT.2.2 x]
          constructor
          · rintro (z | z)
            · exact z.imp id (fun ⟨p9, u1, u2⟩ => ⟨p9, by omega, u2⟩)
            · exact Or.inr ⟨i, by omega, h2, z⟩
          · rintro (z | ⟨p9, u1, u2, u3⟩)
            · exact Or.inl (Or.inl z)
            · by_cases e : p9 = i
              · subst e; exact Or.inr u3
              · exact Or.inl (Or.inr ⟨p9, by omega, u2, u3⟩)
        · refine ⟨a_Fz_tr (by decide +kernel) g2.1 hT.1, hT.2.1, ?_⟩
          obtain ⟨n9, a1, a2, a3⟩ := g2.2.2
          have e2 : bqC μ3 = bqC μ2 := by unfold bqC; rw [a_Fz_at hT.1 14 0 (a_md_row (by decide +kernel)), a_Fz_at hT.1 14 1 (a_md_row (by decide +kernel)), a_Fz_at hT.1 14 2 (a_md_row (by decide +kernel)), (hT.1.1 14 3 (a_md_row (by decide +kernel))).2]
          exact CI.iff ⟨n9, by omega, (a_Fz_at hT.1 14 4 (a_md_row (by decide +kernel))).trans a2, by rw [e2]; exact a3⟩ (fun x => ⟨Or.inl, fun z => z.resolve_right (fun ⟨c9, b1, _⟩ => by omega)⟩)
      · skip
        refine zq_ic hc hH (by rfl) (tg := 197) (by rfl) (fun _ => ?_) (fun h9 => (zb_t ((lt2n (w i) (by omega)).mpr h2) h9).elim)
        refine z_rcs hc hH 4 (pc' := 203) (lv' := [(10, .int 0), (9, .int 0), (8, .int (nI i)), (0, .ref 14), (1, .ref 9), (2, .int k), (3, .int (nB dr)), (4, .long told), (6, .int wi), (7, .int de)]) (st' := []) (μ' := μ2) (by rfl) ?_
        refine z_rcs hc hH 2 (pc' := 207) (lv' := [(10, .int 0), (9, .int 0), (8, .int (nI i)), (0, .ref 14), (1, .ref 9), (2, .int k), (3, .int (nB dr)), (4, .long told), (6, .int wi), (7, .int de)]) (st' := [.int 0, .int 0]) (μ' := μ2) (by rfl) ?_
        refine zq_ic hc hH (by rfl) (tg := 233) (by rfl) (fun _ => ?_) (fun h9 => (zb_t (cm_ge.mpr (by decide)) h9).elim)
        refine z_rcs hc hH 2 (pc' := 164) (lv' := [(8, .int ((nI i) + 1)), (10, .int 0), (9, .int 0), (0, .ref 14), (1, .ref 9), (2, .int k), (3, .int (nB dr)), (4, .long told), (6, .int wi), (7, .int de)]) (st' := []) (μ' := μ2) (by rfl) ?_
        rw [nI_1]
        exact (ih (i + 1) (by omega) μ2 ⟨g2.1, g2.2.1, (g2.2.2.up (by omega)).iff (no h2)⟩).2 _ _
    · skip
      refine z_rcs hc hH 2 (pc' := 168) (lv' := [(8, .int (nI i)), (10, .int x10), (9, .int x9), (0, .ref 14), (1, .ref 9), (2, .int k), (3, .int (nB dr)), (4, .long told), (6, .int wi), (7, .int de)]) (st' := [.int 34, .int (nI i)]) (μ' := μ1) (by rfl) ?_
      refine zq_ic hc hH (by rfl) (tg := 239) (by rfl) (fun h9 => (zb_t h9 (ge_nI (n := 34) (i := i) (by omega) (by decide))).elim) (fun _ => ?_)
      refine z_rcs hc hH 3 (pc' := 177) (lv' := [(8, .int (nI i)), (10, .int x10), (9, .int x9), (0, .ref 14), (1, .ref 9), (2, .int k), (3, .int (nB dr)), (4, .long told), (6, .int wi), (7, .int de)]) (st' := []) (μ' := z_ui μ1 14 15 (nI i)) (by rfl) ?_
      have g2 : JP κ (z_ui μ1 14 15 (nI i)) i (SCl κ w q sL lL i) (2 + 80 * i) := by
        refine ⟨a_Fz_ui g.1 (by decide +kernel), a_H_ui g.2.1 (bI_top _), ?_⟩
        obtain ⟨n9, a1, a2, a3⟩ := g.2.2
        exact ⟨n9, a1, a2, a3⟩
      have e15 : (z_ui μ1 14 15 (nI i)).1 14 15 = nI i := by rw [z_ui_rd, if_pos ⟨rfl, rfl⟩]
      generalize z_ui μ1 14 15 (nI i) = μ2 at g2 e15 ⊢
      have w10 : RW μ2 10 w := fun j hj => by rw [a_Fz_at g2.1 10 j (a_md_row (by decide +kernel))]; exact hK.r10 j hj
      have ht2 : μ2.2.2 14 = 9 := (g2.1.2 14 (by decide)).trans hK.ht
      refine z_rcs hc hH 3 (pc' := 183) (lv' := [(8, .int (nI i)), (10, .int x10), (9, .int x9), (0, .ref 14), (1, .ref 9), (2, .int k), (3, .int (nB dr)), (4, .long told), (6, .int wi), (7, .int de)]) (st' := [.int (nI i), .ref 10]) (μ' := μ2) (by rfl) ?_
      refine zq_iald hc hH (by rfl) 34 (by decide +kernel) (hin) ?_
      rw [ei, (w10 i (by omega)).1]
      show Z 0 184 [(8, .int (nI i)), (10, .int x10), (9, .int x9), (0, .ref 14), (1, .ref 9), (2, .int k), (3, .int (nB dr)), (4, .long told), (6, .int wi), (7, .int de)] [.int (nI (w i))] μ2
      refine z_rcs hc hH 1 (pc' := 185) (lv' := [(8, .int (nI i)), (10, .int x10), (9, .int x9), (0, .ref 14), (1, .ref 9), (2, .int k), (3, .int (nB dr)), (4, .long told), (6, .int wi), (7, .int de)]) (st' := [.int 2, .int (nI (w i))]) (μ' := μ2) (by rfl) ?_
      by_cases h2 : 2 ≤ w i
      · skip
        refine zq_ic hc hH (by rfl) (tg := 197) (by rfl) (fun h9 => (zb_t h9 ((lt2 (w i) (by omega)).mpr h2)).elim) (fun _ => ?_)
        refine z_rcs hc hH 2 (pc' := 190) (lv' := [(8, .int (nI i)), (10, .int x10), (9, .int x9), (0, .ref 14), (1, .ref 9), (2, .int k), (3, .int (nB dr)), (4, .long told), (6, .int wi), (7, .int de)]) (st' := [.ref 14, .int 1]) (μ' := μ2) (by rfl) ?_
        refine zq_call hc (z_cx_ok hH (by rfl)) (fb_X1_findThrees d' (by omega) μ2 w i w10 (by omega) h2 e15 ht2 g2.2.1 (by have := sn_sb2 (w := w) (p := i) (by omega) h2; omega)) (by decide +kernel) (fun r3 μ3 hq3 => ?_)
        obtain ⟨rfl, hT⟩ := hq3
        have hs12 : sn (sb2 w i) 34 ≤ 12 := by have := sn_sb2 (w := w) (p := i) (by omega) h2; omega
        have m4 : c3 (sb2 w i) 34 ≤ 4 := by have := c3_sn (sb2 w i) 34; omega
        show Z 0 193 [(8, .int (nI i)), (10, .int x10), (9, .int x9), (0, .ref 14), (1, .ref 9), (2, .int k), (3, .int (nB dr)), (4, .long told), (6, .int wi), (7, .int de)] [.int (nI (c3 (sb2 w i) 34)), .int 1] μ3
        refine z_rcs hc hH 1 (pc' := 194) (lv' := [(8, .int (nI i)), (10, .int x10), (9, .int x9), (0, .ref 14), (1, .ref 9), (2, .int k), (3, .int (nB dr)), (4, .long told), (6, .int wi), (7, .int de)]) (st' := [.int (1 <<< ((nI (c3 (sb2 w i) 34)) &&& 31))]) (μ' := μ3) (by rfl) ?_
        rw [sh_2 _ m4]
        show Z 0 194 [(8, .int (nI i)), (10, .int x10), (9, .int x9), (0, .ref 14), (1, .ref 9), (2, .int k), (3, .int (nB dr)), (4, .long told), (6, .int wi), (7, .int de)] [.int (nI (2 ^ c3 (sb2 w i) 34))] μ3
        refine z_rcs hc hH 4 (pc' := 203) (lv' := [(10, .int 0), (9, .int (nI (2 ^ c3 (sb2 w i) 34))), (8, .int (nI i)), (0, .ref 14), (1, .ref 9), (2, .int k), (3, .int (nB dr)), (4, .long told), (6, .int wi), (7, .int de)]) (st' := []) (μ' := μ3) (by rfl) ?_
        refine jg203 d' Z hd μ0 w aw q hq sL lL hLb hw4 h14 k wi de sw rw de9 dr told κ hK hc i (by omega) h2 (SCl κ w q sL lL i) (2 + 80 * i) (by omega) (μ3.1 17) (c3 (sb2 w i) 34) m4 (fun μ4 y10 y9 g4 => ?_) (2 ^ c3 (sb2 w i) 34) 0 (by omega) μ3 ⟨(a_Fz_at hT.1 14 15 (a_md_row (by decide +kernel))).trans e15, fun j _ => rfl⟩ ?_
        · refine (ih (i + 1) (by omega) μ4 ⟨g4.1, g4.2.1, (g4.2.2.up (by omega)).iff (fun x => ?_)⟩).2 y10 y9
          rw [Sch_all (fun k hk => by have := hw4 k hk; unfold sb2; split <;> omega) hs12 hT.2.2 x]
          constructor
          · rintro (z | z)
            · exact z.imp id (fun ⟨p9, u1, u2⟩ => ⟨p9, by omega, u2⟩)
            · exact Or.inr ⟨i, by omega, h2, z⟩
          · rintro (z | ⟨p9, u1, u2, u3⟩)
            · exact Or.inl (Or.inl z)
            · by_cases e : p9 = i
              · subst e; exact Or.inr u3
              · exact Or.inl (Or.inr ⟨p9, by omega, u2, u3⟩)
        · refine ⟨a_Fz_tr (by decide +kernel) g2.1 hT.1, hT.2.1, ?_⟩
          obtain ⟨n9, a1, a2, a3⟩ := g2.2.2
          have e2 : bqC μ3 = bqC μ2 := by unfold bqC; rw [a_Fz_at hT.1 14 0 (a_md_row (by decide +kernel)), a_Fz_at hT.1 14 1 (a_md_row (by decide +kernel)), a_Fz_at hT.1 14 2 (a_md_row (by decide +kernel)), (hT.1.1 14 3 (a_md_row (by decide +kernel))).2]
          exact CI.iff ⟨n9, by omega, (a_Fz_at hT.1 14 4 (a_md_row (by decide +kernel))).trans a2, by rw [e2]; exact a3⟩ (fun x => ⟨Or.inl, fun z => z.resolve_right (fun ⟨c9, b1, _⟩ => by omega)⟩)
      · skip
        refine zq_ic hc hH (by rfl) (tg := 197) (by rfl) (fun _ => ?_) (fun h9 => (zb_t ((lt2n (w i) (by omega)).mpr h2) h9).elim)
        refine z_rcs hc hH 4 (pc' := 203) (lv' := [(10, .int 0), (9, .int 0), (8, .int (nI i)), (0, .ref 14), (1, .ref 9), (2, .int k), (3, .int (nB dr)), (4, .long told), (6, .int wi), (7, .int de)]) (st' := []) (μ' := μ2) (by rfl) ?_
        refine z_rcs hc hH 2 (pc' := 207) (lv' := [(10, .int 0), (9, .int 0), (8, .int (nI i)), (0, .ref 14), (1, .ref 9), (2, .int k), (3, .int (nB dr)), (4, .long told), (6, .int wi), (7, .int de)]) (st' := [.int 0, .int 0]) (μ' := μ2) (by rfl) ?_
        refine zq_ic hc hH (by rfl) (tg := 233) (by rfl) (fun _ => ?_) (fun h9 => (zb_t (cm_ge.mpr (by decide)) h9).elim)
        refine z_rcs hc hH 2 (pc' := 164) (lv' := [(8, .int ((nI i) + 1)), (10, .int 0), (9, .int 0), (0, .ref 14), (1, .ref 9), (2, .int k), (3, .int (nB dr)), (4, .long told), (6, .int wi), (7, .int de)]) (st' := []) (μ' := μ2) (by rfl) ?_
        rw [nI_1]
        exact (ih (i + 1) (by omega) μ2 ⟨g2.1, g2.2.1, (g2.2.2.up (by omega)).iff (no h2)⟩).2 _ _
/-! the class: a hand is judged; what the desk is worth -/
set_option maxRecDepth 8000
theorem b01 (b : Bool) : z_b01 (nB b) = true := by cases b <;> rfl
noncomputable abbrev rw9 (wi : Int32) : Int32 := 27 + ((wi.toUInt32 >>> ((2 : Int32).toUInt32 &&& Int32.toUInt32 31)).toInt32 &&& 3)
theorem CI_0 {μ : zM} {S : Q4 → Prop} (h : μ.1 14 4 = 0 ∧ bqC μ = (0, 0, 0, 0)) (hS : ∀ x, ¬ S x) : CI S 0 μ := ⟨0, Nat.le_refl _, h.1, Or.inl ⟨rfl, h.2, hS⟩⟩
theorem fb_X1_judge (d : Nat) (hd : 8 ≤ d) (μ : zM) (w aw : Nat → Nat) (q : Nat) (hq : q ≤ 4) (sL lL : Nat → Nat) (hLb : ∀ j, j < q → sL j ≤ 3 ∧ lL j < 34) (hw4 : ∀ k, k < 34 → w k ≤ 4) (w10 : RW μ 10 w) (w11 : RW μ 11 aw) (w110 : q = 0 → ∀ k, k < 34 → aw k = w k) (d4 : μ.1 9 4 = nI q) (d5 : μ.1 9 5 = nI (sn w 34)) (hL : ∀ j, j < q → μ.1 12 j = nI (sL j) ∧ μ.1 13 j = nI (lL j)) (hH0 : a_H μ) (k wi de : Int32) (dr : Bool) (told : Int64) : z_C d mi_X1_judge [.ref 14, .ref 9, .int k, .int (nB dr), .long told, .int wi, .int de] μ (fun r μ' => r = none ∧ a_H μ' ∧ a_Fz mdJJ μ μ' ∧ ((¬ (sn w 34 + 3 * q = 14 ∧ vp_in k 34 ∧ 0 < w k.toNatClampNeg) ∧ bqC μ' = (0, 0, 0, 0)) ∨ ((sn w 34 + 3 * q = 14 ∧ vp_in k 34 ∧ 0 < w k.toNatClampNeg) ∧ ∃ κ, KC κ w aw q sL lL k dr told (27 + (wi &&& 3)) (rw9 wi) de ∧ CI (SCl κ w q sL lL 34) 5000 μ'))) := by
  refine z_C_in (by decide) (by omega) (fun d' Z ed hc hr => ?_)
  have hH := zh_X1_judge
  have hsn : sn w 34 < 1000 := by have := sn_ub (w := w) (c := 4) 34 hw4; omega
  refine z_rcs hc hH 15 (pc' := 25) (lv' := [(0, .ref 14), (1, .ref 9), (2, .int k), (3, .int (nB dr)), (4, .long told), (6, .int wi), (7, .int de)]) (st' := []) (μ' := z_ui (z_uj (z_ui (z_ui (z_ui μ 14 0 0) 14 1 0) 14 2 0) 14 3 0) 14 4 0) (by rfl) ?_
  have F1 : a_Fz mdJJ μ (z_ui (z_uj (z_ui (z_ui (z_ui μ 14 0 0) 14 1 0) 14 2 0) 14 3 0) 14 4 0) := a_Fz_ui (a_Fz_uj (a_Fz_ui (a_Fz_ui (a_Fz_ui (a_Fz_rf _ _) (by decide +kernel)) (by decide +kernel)) (by decide +kernel)) (by decide +kernel)) (by decide +kernel)
  have H1 : a_H (z_ui (z_uj (z_ui (z_ui (z_ui μ 14 0 0) 14 1 0) 14 2 0) 14 3 0) 14 4 0) := a_H_ui (a_H_uj (a_H_ui (a_H_ui (a_H_ui hH0 (bI_top _)) (bI_top _)) (bI_top _))) (bI_top _)
  have q1 : bqC (z_ui (z_uj (z_ui (z_ui (z_ui μ 14 0 0) 14 1 0) 14 2 0) 14 3 0) 14 4 0) = (0, 0, 0, 0) := rfl
  have n1 : (z_ui (z_uj (z_ui (z_ui (z_ui μ 14 0 0) 14 1 0) 14 2 0) 14 3 0) 14 4 0).1 14 4 = 0 ∧ bqC (z_ui (z_uj (z_ui (z_ui (z_ui μ 14 0 0) 14 1 0) 14 2 0) 14 3 0) 14 4 0) = (0, 0, 0, 0) := ⟨rfl, rfl⟩
  generalize z_ui (z_uj (z_ui (z_ui (z_ui μ 14 0 0) 14 1 0) 14 2 0) 14 3 0) 14 4 0 = μ1 at F1 H1 q1 n1 ⊢
  have d41 : μ1.1 9 4 = nI q := (a_Fz_at F1 9 4 (a_md_row (by decide +kernel))).trans d4
  have d51 : μ1.1 9 5 = nI (sn w 34) := (a_Fz_at F1 9 5 (a_md_row (by decide +kernel))).trans d5
  have w101 : RW μ1 10 w := fun j hj => by rw [a_Fz_at F1 10 j (a_md_row (by decide +kernel))]; exact w10 j hj
  refine z_rcs hc hH 1 (pc' := 26) (lv' := [(0, .ref 14), (1, .ref 9), (2, .int k), (3, .int (nB dr)), (4, .long told), (6, .int wi), (7, .int de)]) (st' := [.ref 9]) (μ' := μ1) (by rfl) ?_
  refine z_rcs hc hH 2 (pc' := 30) (lv' := [(0, .ref 14), (1, .ref 9), (2, .int k), (3, .int (nB dr)), (4, .long told), (6, .int wi), (7, .int de)]) (st' := [.ref 9]) (μ' := μ1) (by rfl) ?_
  refine zq_call hc (z_cx_ok hH (by rfl)) (fc_X3_size d' (by omega) μ1) (by decide +kernel) (fun r9 μ9 hq => ?_)
  obtain ⟨hμ9, rfl⟩ := hq
  rw [hμ9]
  clear hμ9 μ9
  show Z 0 33 [(0, .ref 14), (1, .ref 9), (2, .int k), (3, .int (nB dr)), (4, .long told), (6, .int wi), (7, .int de)] [.int (μ1.1 9 5 + 3 * μ1.1 9 4)] μ1
  rw [d51, d41, size_nI]
  show Z 0 33 [(0, .ref 14), (1, .ref 9), (2, .int k), (3, .int (nB dr)), (4, .long told), (6, .int wi), (7, .int de)] [.int (nI (sn w 34 + 3 * q))] μ1
  refine z_rcs hc hH 1 (pc' := 35) (lv' := [(0, .ref 14), (1, .ref 9), (2, .int k), (3, .int (nB dr)), (4, .long told), (6, .int wi), (7, .int de)]) (st' := [.int 14, .int (nI (sn w 34 + 3 * q))]) (μ' := μ1) (by rfl) ?_
  by_cases h14 : sn w 34 + 3 * q = 14
  · skip
    refine zq_ic hc hH (by rfl) (tg := 46) (by rfl) (fun h9 => (zb_t h9 (cn_ne.mpr (by rw [h14]; rfl))).elim) (fun _ => ?_)
    refine z_rcs hc hH 2 (pc' := 40) (lv' := [(0, .ref 14), (1, .ref 9), (2, .int k), (3, .int (nB dr)), (4, .long told), (6, .int wi), (7, .int de)]) (st' := [.int k, .ref 9]) (μ' := μ1) (by rfl) ?_
    refine zq_call hc (z_cx_ok hH (by rfl)) (fc_X3_free d' (by omega) μ1 k) (by decide +kernel) (fun r9 μ9 hq9 => ?_)
    obtain ⟨hμ9, hq9⟩ := hq9
    rw [hμ9]
    clear hμ9 μ9
    obtain ⟨hk, rfl⟩ | ⟨hk, rfl⟩ := hq9
    · have hkn : k.toNatClampNeg < 34 := by have := vp_in_iff.mp hk; rw [Int32.toNatClampNeg]; omega
      rw [(w101 _ hkn).1]
      show Z 0 43 [(0, .ref 14), (1, .ref 9), (2, .int k), (3, .int (nB dr)), (4, .long told), (6, .int wi), (7, .int de)] [.int (nI (w k.toNatClampNeg))] μ1
      by_cases h0 : w k.toNatClampNeg = 0
      · skip
        have b5 := (w101 _ hkn).2
        refine zq_if hc hH (by rfl) (tg := 47) (by rfl) (fun h9 => (zb_t h9 (cn_ne.mpr (by rw [h0]; rfl))).elim) (fun _ => ?_)
        exact hr 0 46 _ _ _ none (by decide +kernel) (by rfl) (⟨rfl, H1, F1, Or.inl ⟨fun z => absurd z.2.2 (by omega), q1⟩⟩)
      · skip
        have b5 := (w101 _ hkn).2
        refine zq_if hc hH (by rfl) (tg := 47) (by rfl) (fun _ => ?_) (fun h9 => (zb_t (cm_ne.mpr (fun z => h0 ((nI_eq (by omega) (by decide)).mp z))) h9).elim)
        refine z_rcs hc hH 2 (pc' := 49) (lv' := [(0, .ref 14), (1, .ref 9), (2, .int k), (3, .int (nB dr)), (4, .long told), (6, .int wi), (7, .int de)]) (st' := [.ref 9, .ref 14]) (μ' := μ1) (by rfl) ?_
        refine z_rcs hc hH 6 (pc' := 59) (lv' := [(0, .ref 14), (1, .ref 9), (2, .int k), (3, .int (nB dr)), (4, .long told), (6, .int wi), (7, .int de)]) (st' := [.int (nB dr), .ref 14]) (μ' := z_ui (z_ur μ1 14 9) 14 6 k) (by rfl) ?_
        refine zq_zput hc hH (by rfl) (ci := 0) (f := 7) (by decide +kernel) (b01 _) ?_
        have F2 : a_Fz mdJJ μ (z_ui (z_ui (z_ur μ1 14 9) 14 6 k) 14 7 (nB dr)) := a_Fz_ui (a_Fz_ui (a_Fz_ur F1 (by decide +kernel)) (by decide +kernel)) (by decide +kernel)
        have H2 : a_H (z_ui (z_ui (z_ur μ1 14 9) 14 6 k) 14 7 (nB dr)) := a_H_ui (a_H_ui (show a_H (z_ur μ1 14 9) from H1) (bI_top _)) (by cases dr <;> exact ⟨by decide, by decide⟩)
        have t2 : (z_ui (z_ui (z_ur μ1 14 9) 14 6 k) 14 7 (nB dr)).2.2 14 = 9 := rfl
        have a2 : (z_ui (z_ui (z_ur μ1 14 9) 14 6 k) 14 7 (nB dr)).1 14 6 = k := rfl
        have b2 : (z_ui (z_ui (z_ur μ1 14 9) 14 6 k) 14 7 (nB dr)).1 14 7 = nB dr := rfl
        have n2 : (z_ui (z_ui (z_ur μ1 14 9) 14 6 k) 14 7 (nB dr)).1 14 4 = 0 ∧ bqC (z_ui (z_ui (z_ur μ1 14 9) 14 6 k) 14 7 (nB dr)) = (0, 0, 0, 0) := n1
        generalize z_ui (z_ui (z_ur μ1 14 9) 14 6 k) 14 7 (nB dr) = μ2 at F2 H2 t2 a2 b2 n2 ⊢
        have d42 : μ2.1 9 4 = nI q := (a_Fz_at F2 9 4 (a_md_row (by decide +kernel))).trans d4
        refine z_rcs hc hH 2 (pc' := 64) (lv' := [(0, .ref 14), (1, .ref 9), (2, .int k), (3, .int (nB dr)), (4, .long told), (6, .int wi), (7, .int de)]) (st' := [.ref 9, .ref 14]) (μ' := μ2) (by rfl) ?_
        refine zq_call hc (z_cx_ok hH (by rfl)) (fx_X3_isOpen d' (by omega) μ2 q hq d42) (by decide +kernel) (fun r9 μ9 hq => ?_)
        obtain ⟨hμ9, rfl⟩ := hq
        rw [hμ9]
        clear hμ9 μ9
        show Z 0 67 [(0, .ref 14), (1, .ref 9), (2, .int k), (3, .int (nB dr)), (4, .long told), (6, .int wi), (7, .int de)] [.int (nB (xOr (μ2.1 12) q)), .ref 14] μ2
        generalize eo : xOr (μ2.1 12) q = op
        show Z 0 67 [(0, .ref 14), (1, .ref 9), (2, .int k), (3, .int (nB dr)), (4, .long told), (6, .int wi), (7, .int de)] [.int (nB op), .ref 14] μ2
        refine zq_zput hc hH (by rfl) (ci := 0) (f := 8) (by decide +kernel) (b01 _) ?_
        refine z_rcs hc hH 11 (pc' := 87) (lv' := [(0, .ref 14), (1, .ref 9), (2, .int k), (3, .int (nB dr)), (4, .long told), (6, .int wi), (7, .int de)]) (st' := [.int 2, .int wi, .int 27, .ref 14]) (μ' := z_ui (z_ui μ2 14 8 (nB op)) 14 9 (27 + (wi &&& 3))) (by rfl) ?_
        refine z_rcs hc hH 8 (pc' := 100) (lv' := [(0, .ref 14), (1, .ref 9), (2, .int k), (3, .int (nB dr)), (4, .long told), (6, .int wi), (7, .int de)]) (st' := []) (μ' := z_ui (z_ui (z_ui (z_ui μ2 14 8 (nB op)) 14 9 (27 + (wi &&& 3))) 14 10 (27 + (((wi.toUInt32 >>> ((2 : Int32).toUInt32 &&& Int32.toUInt32 31)).toInt32) &&& 3))) 14 11 de) (by rfl) ?_
        have F3 : a_Fz mdJJ μ (z_ui (z_ui (z_ui (z_ui μ2 14 8 (nB op)) 14 9 (27 + (wi &&& 3))) 14 10 (27 + (((wi.toUInt32 >>> ((2 : Int32).toUInt32 &&& Int32.toUInt32 31)).toInt32) &&& 3))) 14 11 de) := a_Fz_ui (a_Fz_ui (a_Fz_ui (a_Fz_ui F2 (by decide +kernel)) (by decide +kernel)) (by decide +kernel)) (by decide +kernel)
        have H3 : a_H (z_ui (z_ui (z_ui (z_ui μ2 14 8 (nB op)) 14 9 (27 + (wi &&& 3))) 14 10 (27 + (((wi.toUInt32 >>> ((2 : Int32).toUInt32 &&& Int32.toUInt32 31)).toInt32) &&& 3))) 14 11 de) := a_H_ui (a_H_ui (a_H_ui (a_H_ui H2 (by cases op <;> exact ⟨by decide, by decide⟩)) (bI_top _)) (bI_top _)) (bI_top _)
        have fa : (z_ui (z_ui (z_ui (z_ui μ2 14 8 (nB op)) 14 9 (27 + (wi &&& 3))) 14 10 (27 + (((wi.toUInt32 >>> ((2 : Int32).toUInt32 &&& Int32.toUInt32 31)).toInt32) &&& 3))) 14 11 de).2.2 14 = 9 ∧ (z_ui (z_ui (z_ui (z_ui μ2 14 8 (nB op)) 14 9 (27 + (wi &&& 3))) 14 10 (27 + (((wi.toUInt32 >>> ((2 : Int32).toUInt32 &&& Int32.toUInt32 31)).toInt32) &&& 3))) 14 11 de).1 14 6 = k ∧ (z_ui (z_ui (z_ui (z_ui μ2 14 8 (nB op)) 14 9 (27 + (wi &&& 3))) 14 10 (27 + (((wi.toUInt32 >>> ((2 : Int32).toUInt32 &&& Int32.toUInt32 31)).toInt32) &&& 3))) 14 11 de).1 14 7 = nB dr ∧ (z_ui (z_ui (z_ui (z_ui μ2 14 8 (nB op)) 14 9 (27 + (wi &&& 3))) 14 10 (27 + (((wi.toUInt32 >>> ((2 : Int32).toUInt32 &&& Int32.toUInt32 31)).toInt32) &&& 3))) 14 11 de).1 14 8 = nB op ∧ (z_ui (z_ui (z_ui (z_ui μ2 14 8 (nB op)) 14 9 (27 + (wi &&& 3))) 14 10 (27 + (((wi.toUInt32 >>> ((2 : Int32).toUInt32 &&& Int32.toUInt32 31)).toInt32) &&& 3))) 14 11 de).1 14 9 = 27 + (wi &&& 3) ∧ (z_ui (z_ui (z_ui (z_ui μ2 14 8 (nB op)) 14 9 (27 + (wi &&& 3))) 14 10 (27 + (((wi.toUInt32 >>> ((2 : Int32).toUInt32 &&& Int32.toUInt32 31)).toInt32) &&& 3))) 14 11 de).1 14 10 = rw9 wi ∧ (z_ui (z_ui (z_ui (z_ui μ2 14 8 (nB op)) 14 9 (27 + (wi &&& 3))) 14 10 (27 + (((wi.toUInt32 >>> ((2 : Int32).toUInt32 &&& Int32.toUInt32 31)).toInt32) &&& 3))) 14 11 de).1 14 11 = de ∧ ((z_ui (z_ui (z_ui (z_ui μ2 14 8 (nB op)) 14 9 (27 + (wi &&& 3))) 14 10 (27 + (((wi.toUInt32 >>> ((2 : Int32).toUInt32 &&& Int32.toUInt32 31)).toInt32) &&& 3))) 14 11 de).1 14 4 = 0 ∧ bqC (z_ui (z_ui (z_ui (z_ui μ2 14 8 (nB op)) 14 9 (27 + (wi &&& 3))) 14 10 (27 + (((wi.toUInt32 >>> ((2 : Int32).toUInt32 &&& Int32.toUInt32 31)).toInt32) &&& 3))) 14 11 de) = (0, 0, 0, 0)) := ⟨t2, a2, b2, rfl, rfl, rfl, rfl, n2⟩
        have e12 : (z_ui (z_ui (z_ui (z_ui μ2 14 8 (nB op)) 14 9 (27 + (wi &&& 3))) 14 10 (27 + (((wi.toUInt32 >>> ((2 : Int32).toUInt32 &&& Int32.toUInt32 31)).toInt32) &&& 3))) 14 11 de).1 12 = μ2.1 12 := funext fun j => by rw [z_ui_rd, if_neg (by omega), z_ui_rd, if_neg (by omega), z_ui_rd, if_neg (by omega), z_ui_rd, if_neg (by omega)]
        generalize z_ui (z_ui (z_ui (z_ui μ2 14 8 (nB op)) 14 9 (27 + (wi &&& 3))) 14 10 (27 + (((wi.toUInt32 >>> ((2 : Int32).toUInt32 &&& Int32.toUInt32 31)).toInt32) &&& 3))) 14 11 de = μ3 at F3 H3 fa e12 ⊢
        have w113 : RW μ3 11 aw := fun j hj => by rw [a_Fz_at F3 11 j (a_md_row (by decide +kernel))]; exact w11 j hj
        have op3 : nB op = nB (xOr (μ3.1 12) q) := by rw [e12, eo]
        refine z_rcs hc hH 3 (pc' := 104) (lv' := [(0, .ref 14), (1, .ref 9), (2, .int k), (3, .int (nB dr)), (4, .long told), (6, .int wi), (7, .int de)]) (st' := [.long told, .ref 14, .ref 14]) (μ' := μ3) (by rfl) ?_
        refine zq_call hc (z_cx_ok hH (by rfl)) (fb_X1_toldOnes d' (by omega) μ3 told) (by decide +kernel) (fun r9 μ9 hq => ?_)
        obtain ⟨hμ9, rfl⟩ := hq
        rw [hμ9]
        clear hμ9 μ9
        show Z 0 107 [(0, .ref 14), (1, .ref 9), (2, .int k), (3, .int (nB dr)), (4, .long told), (6, .int wi), (7, .int de)] [.long (xTO μ3 told), .ref 14] μ3
        refine z_rcs hc hH 2 (pc' := 109) (lv' := [(0, .ref 14), (1, .ref 9), (2, .int k), (3, .int (nB dr)), (4, .long told), (6, .int wi), (7, .int de)]) (st' := [.ref 9, .ref 14, .long (xTO μ3 told), .ref 14]) (μ' := μ3) (by rfl) ?_
        refine zq_call hc (z_cx_ok hH (by rfl)) (fc_X3_kinds d' (by omega) μ3 aw w113) (by decide +kernel) (fun r9 μ9 hq => ?_)
        obtain ⟨hμ9, rfl⟩ := hq
        rw [hμ9]
        clear hμ9 μ9
        show Z 0 112 [(0, .ref 14), (1, .ref 9), (2, .int k), (3, .int (nB dr)), (4, .long told), (6, .int wi), (7, .int de)] [.long (kb (fun k => decide (0 < aw k)) 34), .ref 14, .long (xTO μ3 told), .ref 14] μ3
        refine zq_call hc (z_cx_ok hH (by rfl)) (fb_X1_tileForms d' (by omega) μ3 (kb (fun k => decide (0 < aw k)) 34) (xNG μ3 (kb (fun k => decide (0 < aw k)) 34)) (fun d9 h9 => fb_X1_isNineGates d9 h9 μ3 (kb (fun k => decide (0 < aw k)) 34) fa.1)) (by decide +kernel) (fun r9 μ9 hq => ?_)
        obtain ⟨hμ9, rfl⟩ := hq
        rw [hμ9]
        clear hμ9 μ9
        show Z 0 115 [(0, .ref 14), (1, .ref 9), (2, .int k), (3, .int (nB dr)), (4, .long told), (6, .int wi), (7, .int de)] [.long (xTF (kb (fun k => decide (0 < aw k)) 34) (xNG μ3 (kb (fun k => decide (0 < aw k)) 34))), .long (xTO μ3 told), .ref 14] μ3
        refine z_rcs hc hH 2 (pc' := 119) (lv' := [(0, .ref 14), (1, .ref 9), (2, .int k), (3, .int (nB dr)), (4, .long told), (6, .int wi), (7, .int de)]) (st' := []) (μ' := z_uj μ3 14 12 ((xTO μ3 told) ||| (xTF (kb (fun k => decide (0 < aw k)) 34) (xNG μ3 (kb (fun k => decide (0 < aw k)) 34))))) (by rfl) ?_
        have F4 : a_Fz mdJJ μ (z_uj μ3 14 12 ((xTO μ3 told) ||| (xTF (kb (fun k => decide (0 < aw k)) 34) (xNG μ3 (kb (fun k => decide (0 < aw k)) 34))))) := a_Fz_uj F3 (by decide +kernel)
        have H4 : a_H (z_uj μ3 14 12 ((xTO μ3 told) ||| (xTF (kb (fun k => decide (0 < aw k)) 34) (xNG μ3 (kb (fun k => decide (0 < aw k)) 34))))) := a_H_uj H3
        have K4 : KC (z_uj μ3 14 12 ((xTO μ3 told) ||| (xTF (kb (fun k => decide (0 < aw k)) 34) (xNG μ3 (kb (fun k => decide (0 < aw k)) 34))))) w aw q sL lL k dr told (27 + (wi &&& 3)) (rw9 wi) de := ⟨(a_Fz_at F4 9 4 (a_md_row (by decide +kernel))).trans d4, (a_Fz_at F4 9 5 (a_md_row (by decide +kernel))).trans d5, fun j hj => by rw [a_Fz_at F4 10 j (a_md_row (by decide +kernel))]; exact w10 j hj, fun j hj => by rw [a_Fz_at F4 12 j (a_md_row (by decide +kernel)), a_Fz_at F4 13 j (a_md_row (by decide +kernel))]; exact hL j hj, fa.2.1, fa.2.2.1, fa.2.2.2.1.trans op3, fa.2.2.2.2.1, fa.2.2.2.2.2.1, fa.2.2.2.2.2.2.1, (by rw [z_uj_rd, if_pos ⟨rfl, rfl⟩]; rfl), fa.1⟩
        have n4 : (z_uj μ3 14 12 ((xTO μ3 told) ||| (xTF (kb (fun k => decide (0 < aw k)) 34) (xNG μ3 (kb (fun k => decide (0 < aw k)) 34))))).1 14 4 = 0 ∧ bqC (z_uj μ3 14 12 ((xTO μ3 told) ||| (xTF (kb (fun k => decide (0 < aw k)) 34) (xNG μ3 (kb (fun k => decide (0 < aw k)) 34))))) = (0, 0, 0, 0) := fa.2.2.2.2.2.2.2
        generalize z_uj μ3 14 12 ((xTO μ3 told) ||| (xTF (kb (fun k => decide (0 < aw k)) 34) (xNG μ3 (kb (fun k => decide (0 < aw k)) 34)))) = κ at F4 H4 K4 n4 ⊢
        have V : (sn w 34 + 3 * q = 14 ∧ vp_in k 34 ∧ 0 < w k.toNatClampNeg) := ⟨h14, hk, by omega⟩
        have K := jg164 d' Z (by omega) μ w aw q hq sL lL hLb hw4 h14 k wi de (27 + (wi &&& 3)) (rw9 wi) de dr told κ K4 hc (fun b pc lv st ν r h1 h2 h3 => hr b pc lv st ν r h1 h2 ⟨h3.1, h3.2.2.1, a_Fz_tr (by decide +kernel) F4 h3.2.1, Or.inr ⟨V, κ, K4, h3.2.2.2⟩⟩) 34 0 (by omega)
        have t161 : ∀ μ5, a_Fz mdO κ μ5 → a_H μ5 → CI (fun x => S7c κ w x ∨ S13c κ w x) 2 μ5 → Z 0 161 [(0, .ref 14), (1, .ref 9), (2, .int k), (3, .int (nB dr)), (4, .long told), (6, .int wi), (7, .int de)] [] μ5 := by
          intro μ5 F5 H5 C5
          refine z_rcs hc hH 2 (pc' := 164) (lv' := [(8, .int 0), (0, .ref 14), (1, .ref 9), (2, .int k), (3, .int (nB dr)), (4, .long told), (6, .int wi), (7, .int de)]) (st' := []) (μ' := μ5) (by rfl) ?_
          exact (K μ5 ⟨a_Fz_tr (by decide +kernel) (a_Fz_rf mdJ κ) F5, H5, (C5.up (by omega)).iff (fun x => ⟨Or.inl, fun y => y.resolve_right (fun ⟨p9, u1, _⟩ => by omega)⟩)⟩).1
        have t140 : ∀ μ5, a_Fz mdO κ μ5 → a_H μ5 → CI (fun x => S7c κ w x) 1 μ5 → Z 0 140 [(0, .ref 14), (1, .ref 9), (2, .int k), (3, .int (nB dr)), (4, .long told), (6, .int wi), (7, .int de)] [] μ5 := by
          intro μ5 F5 H5 C5
          have d45 : μ5.1 9 4 = κ.1 9 4 := a_Fz_at F5 9 4 (a_md_row (by decide +kernel))
          have d55 : μ5.1 9 5 = κ.1 9 5 := a_Fz_at F5 9 5 (a_md_row (by decide +kernel))
          have w115 : μ5.1 9 4 = 0 → RW μ5 11 w := fun z j hj => by
            have q0 : q = 0 := by rw [d45, K4.d4] at z; exact (nI_eq (by omega) (by decide)).mp z
            rw [a_Fz_at F5 11 j (a_md_row (by decide +kernel)), a_Fz_at F4 11 j (a_md_row (by decide +kernel)), ← w110 q0 j hj]; exact w11 j hj
          refine z_rcs hc hH 1 (pc' := 141) (lv' := [(0, .ref 14), (1, .ref 9), (2, .int k), (3, .int (nB dr)), (4, .long told), (6, .int wi), (7, .int de)]) (st' := [.ref 9]) (μ' := μ5) (by rfl) ?_
          refine zq_call hc (z_cx_ok hH (by rfl)) (fc_X3_isThirteen d' (by omega) μ5 w w115) (by decide +kernel) (fun r9 μ9 hq => ?_)
          obtain ⟨hμ9, hq⟩ := hq
          rw [hμ9]
          clear hμ9 μ9
          obtain ⟨rfl, h13⟩ | ⟨rfl, h13⟩ := hq
          · show Z 0 144 [(0, .ref 14), (1, .ref 9), (2, .int k), (3, .int (nB dr)), (4, .long told), (6, .int wi), (7, .int de)] [.int 1] μ5
            refine z_rcs hc hH 7 (pc' := 158) (lv' := [(0, .ref 14), (1, .ref 9), (2, .int k), (3, .int (nB dr)), (4, .long told), (6, .int wi), (7, .int de)]) (st' := [.int 30, .long ((μ5.2.1 14 12) ||| 4294967296), .ref 14]) (μ' := μ5) (by rfl) ?_
            have e12 : μ5.2.1 14 12 = κ.2.1 14 12 := (F5.1 14 12 (by decide)).2
            have e8 : μ5.1 14 8 = κ.1 14 8 := a_Fz_at F5 14 8 (by decide +kernel)
            have e11 : μ5.1 14 11 = κ.1 14 11 := a_Fz_at F5 14 11 (by decide +kernel)
            refine zq_call hc (z_cx_ok hH (by rfl)) (fb_X1_offer d' (by omega) μ5 (μ5.2.1 14 12 ||| 4294967296) 30 H5) (by decide +kernel) (fun r6 μ6 hq6 => ?_)
            obtain ⟨rfl, ho⟩ := hq6
            rw [e8, e11, e12] at ho
            show Z 0 161 [(0, .ref 14), (1, .ref 9), (2, .int k), (3, .int (nB dr)), (4, .long told), (6, .int wi), (7, .int de)] [] μ6
            exact t161 μ6 (a_Fz_tr (by decide +kernel) F5 ho.1) ho.2.1 ((C5.add (by omega) ho).iff (fun x => ⟨fun y => y.imp id (fun e => ⟨by rw [← d45, ← d55]; exact h13, e⟩), fun y => y.imp id (fun e => e.2)⟩))
          · show Z 0 144 [(0, .ref 14), (1, .ref 9), (2, .int k), (3, .int (nB dr)), (4, .long told), (6, .int wi), (7, .int de)] [.int 0] μ5
            refine z_rcs hc hH 1 (pc' := 161) (lv' := [(0, .ref 14), (1, .ref 9), (2, .int k), (3, .int (nB dr)), (4, .long told), (6, .int wi), (7, .int de)]) (st' := []) (μ' := μ5) (by rfl) ?_
            exact t161 μ5 F5 H5 ((C5.up (by omega)).iff (fun x => ⟨Or.inl, fun y => y.resolve_right (fun e => h13 (by rw [d45, d55]; exact e.1))⟩))
        refine z_rcs hc hH 1 (pc' := 120) (lv' := [(0, .ref 14), (1, .ref 9), (2, .int k), (3, .int (nB dr)), (4, .long told), (6, .int wi), (7, .int de)]) (st' := [.ref 9]) (μ' := κ) (by rfl) ?_
        refine zq_call hc (z_cx_ok hH (by rfl)) (fc_X3_isSevenPairs d' (by omega) κ w K4.r10) (by decide +kernel) (fun r9 μ9 hq => ?_)
        obtain ⟨hμ9, hq⟩ := hq
        rw [hμ9]
        clear hμ9 μ9
        obtain ⟨rfl, h7⟩ | ⟨rfl, h7⟩ := hq
        · show Z 0 123 [(0, .ref 14), (1, .ref 9), (2, .int k), (3, .int (nB dr)), (4, .long told), (6, .int wi), (7, .int de)] [.int 1] (κ)
          refine z_rcs hc hH 7 (pc' := 137) (lv' := [(0, .ref 14), (1, .ref 9), (2, .int k), (3, .int (nB dr)), (4, .long told), (6, .int wi), (7, .int de)]) (st' := [.int 25, .long ((κ.2.1 14 12) ||| 65536), .ref 14]) (μ' := κ) (by rfl) ?_
          refine zq_call hc (z_cx_ok hH (by rfl)) (fb_X1_offer d' (by omega) κ (κ.2.1 14 12 ||| 65536) 25 H4) (by decide +kernel) (fun r6 μ6 hq6 => ?_)
          obtain ⟨rfl, ho⟩ := hq6
          show Z 0 140 [(0, .ref 14), (1, .ref 9), (2, .int k), (3, .int (nB dr)), (4, .long told), (6, .int wi), (7, .int de)] [] μ6
          exact t140 μ6 ho.1 ho.2.1 (((CI_0 (S := fun _ => False) n4 (fun _ h => h)).add (by omega) ho).iff (fun x => ⟨fun y => y.elim False.elim (fun e => ⟨h7, e⟩), fun y => Or.inr y.2⟩))
        · show Z 0 123 [(0, .ref 14), (1, .ref 9), (2, .int k), (3, .int (nB dr)), (4, .long told), (6, .int wi), (7, .int de)] [.int 0] (κ)
          refine z_rcs hc hH 1 (pc' := 140) (lv' := [(0, .ref 14), (1, .ref 9), (2, .int k), (3, .int (nB dr)), (4, .long told), (6, .int wi), (7, .int de)]) (st' := []) (μ' := κ) (by rfl) ?_
          exact t140 κ (a_Fz_rf _ _) H4 ((CI_0 n4 (fun x (e : S7c κ w x) => h7 e.1)).up (by omega))
    · skip
      show Z 0 43 [(0, .ref 14), (1, .ref 9), (2, .int k), (3, .int (nB dr)), (4, .long told), (6, .int wi), (7, .int de)] [.int 0] μ1
      refine z_rcs hc hH 1 (pc' := 46) (lv' := [(0, .ref 14), (1, .ref 9), (2, .int k), (3, .int (nB dr)), (4, .long told), (6, .int wi), (7, .int de)]) (st' := []) (μ' := μ1) (by rfl) ?_
      exact hr 0 46 _ _ _ none (by decide +kernel) (by rfl) (⟨rfl, H1, F1, Or.inl ⟨fun z => hk z.2.1, q1⟩⟩)
  · skip
    refine zq_ic hc hH (by rfl) (tg := 46) (by rfl) (fun _ => ?_) (fun h9 => (zb_t (cm_ne.mpr (fun z => h14 ((nI_eq (by omega) (by decide)).mp z))) h9).elim)
    exact hr 0 46 _ _ _ none (by decide +kernel) (by rfl) (⟨rfl, H1, F1, Or.inl ⟨fun z => h14 z.1, q1⟩⟩)
theorem zh_X6_worth : zH mi_X6_worth zt_X6_worth 79 6 7 := hh_X6_worth
theorem fb_X6_worth (d : Nat) (hd : 9 ≤ d) (μ : zM) (w aw : Nat → Nat) (q : Nat) (hq : q ≤ 4) (sL lL : Nat → Nat) (hLb : ∀ j, j < q → sL j ≤ 3 ∧ lL j < 34) (hw4 : ∀ k, k < 34 → w k ≤ 4) (w10 : RW μ 10 w) (w11 : RW μ 11 aw) (w110 : q = 0 → ∀ k, k < 34 → aw k = w k) (d4 : μ.1 9 4 = nI q) (d5 : μ.1 9 5 = nI (sn w 34)) (hL : ∀ j, j < q → μ.1 12 j = nI (sL j) ∧ μ.1 13 j = nI (lL j)) (hH0 : a_H μ) (k wi de : Int32) (dr : Bool) (told : Int64) : z_C d mi_X6_worth [.ref 0, .int k, .int (nB dr), .long told, .int wi, .int de] μ (fun r μ' => r = some (.int (bqC μ').1) ∧ a_H μ' ∧ a_Fz mdJJ μ μ' ∧ ((¬ (sn w 34 + 3 * q = 14 ∧ vp_in k 34 ∧ 0 < w k.toNatClampNeg) ∧ bqC μ' = (0, 0, 0, 0)) ∨ ((sn w 34 + 3 * q = 14 ∧ vp_in k 34 ∧ 0 < w k.toNatClampNeg) ∧ ∃ κ, KC κ w aw q sL lL k dr told (27 + (wi &&& 3)) (rw9 wi) (de &&& 63) ∧ CI (SCl κ w q sL lL 34) 5000 μ'))) := by
  refine z_C_in (by decide) (by omega) (fun d' Z ed hc hr => ?_)
  have hH := zh_X6_worth
  refine z_rcs hc hH 11 (pc' := 18) (lv' := [(0, .ref 0), (1, .int k), (2, .int (nB dr)), (3, .long told), (5, .int wi), (6, .int de)]) (st' := [.int (de &&& 63), .int wi, .long told, .int (nB dr), .int k, .ref 9, .ref 14]) (μ' := μ) (by rfl) ?_
  refine zq_call hc (z_cx_ok hH (by rfl)) (fb_X1_judge d' (by omega) μ w aw q hq sL lL hLb hw4 w10 w11 w110 d4 d5 hL hH0 k wi (de &&& 63) dr told) (by decide +kernel) (fun r1 μ1 hq1 => ?_)
  obtain ⟨rfl, hj⟩ := hq1
  show Z 0 21 [(0, .ref 0), (1, .int k), (2, .int (nB dr)), (3, .long told), (5, .int wi), (6, .int de)] [] μ1
  refine z_rcs hc hH 3 (pc' := 28) (lv' := [(0, .ref 0), (1, .int k), (2, .int (nB dr)), (3, .long told), (5, .int wi), (6, .int de)]) (st' := [.int (μ1.1 14 0)]) (μ' := μ1) (by rfl) ?_
  exact hr 0 28 _ _ _ (some (.int (μ1.1 14 0))) (by decide +kernel) (z_rx_ok hH (by rfl)) (⟨rfl, hj⟩)
/-! HAN, base: both sides alike -/
set_option maxRecDepth 8000
theorem as_n : ∀ k, k < 64 → (((nI k).toInt64 &&& 63).toBitVec.smod 64#64) = BitVec.ofNat 64 k := by decide +kernel
theorem as_bit (x : Int64) (k : Nat) (c : Int32) (hc : c = nI k) (hk : k < 64) : ((x >>> (c.toInt64 &&& 63)) &&& 1) = lb (x.toBitVec.getLsbD k) 0 := by
  subst hc
  have e : ((x >>> ((nI k).toInt64 &&& 63)) &&& 1).toBitVec = (x.toBitVec.sshiftRight k) &&& 1#64 := by
    rw [Int64.toBitVec_and]
    congr 1
    rw [Int64.toBitVec_shiftRight]
    show x.toBitVec.sshiftRight' (((nI k).toInt64 &&& 63).toBitVec.smod 64#64) = _
    rw [as_n k hk, BitVec.sshiftRight_eq', BitVec.toNat_ofNat, Nat.mod_eq_of_lt (by omega)]
  rw [← Int64.toBitVec_inj, e]
  apply BitVec.eq_of_getLsbD_eq
  intro i hi
  rw [BitVec.getLsbD_and, BitVec.getLsbD_sshiftRight]
  by_cases h0 : i = 0
  · subst h0
    rw [Nat.add_zero, if_pos hk]
    cases x.toBitVec.getLsbD k <;> decide
  · have : (1#64).getLsbD i = false := by rw [BitVec.getLsbD_one]; simp; omega
    rw [this, Bool.and_false]
    cases x.toBitVec.getLsbD k
    · show false = (0#64).getLsbD i; rw [BitVec.getLsbD_zero]
    · show false = (1#64).getLsbD i; rw [this]
theorem as_dec (x : Int64) (k : Nat) (c : Int32) (hc : c = nI k) (hk : k < 64) : decide (lg_cmp ((x >>> (c.toInt64 &&& 63)) &&& 1) 1 = 0) = x.toBitVec.getLsbD k := by
  rw [as_bit x k c hc hk]
  cases x.toBitVec.getLsbD k <;> decide
theorem hb_dec (x : Int64) (k : Nat) (hk : k < 64) : hb x k = !x.toBitVec.getLsbD k := by
  unfold hb
  cases h : x.toBitVec.getLsbD k
  · exact decide_eq_true (lg_c0.mpr ((us_bit x k hk).mpr h))
  · exact decide_eq_false (fun z => by have := (us_bit x k hk).mp (lg_c0.mp z); rw [h] at this; exact absurd this (by decide))
theorem hs_0 (a : Int32) (β op : Bool) : (bif !β then a else a + (bif decide (nB op = 0) then (z_ro z_x0 101).2 0 else (z_ro z_x0 102).2 0)) = a + (nB (β && (!op))) := by
  cases β <;> cases op <;> first | rfl | exact (Int32.add_zero a).symm
theorem hs_1 (a : Int32) (β op : Bool) : (bif !β then a else a + (bif decide (nB op = 0) then (z_ro z_x0 101).2 1 else (z_ro z_x0 102).2 1)) = a + (bif β then bif op then (0 : Int32) else 2 else 0) := by
  cases β <;> cases op <;> first | rfl | exact (Int32.add_zero a).symm
theorem hs_2 (a : Int32) (β op : Bool) : (bif !β then a else a + (bif decide (nB op = 0) then (z_ro z_x0 101).2 2 else (z_ro z_x0 102).2 2)) = a + (nB (β && (!op))) := by
  cases β <;> cases op <;> first | rfl | exact (Int32.add_zero a).symm
theorem hs_3 (a : Int32) (β op : Bool) : (bif !β then a else a + (bif decide (nB op = 0) then (z_ro z_x0 101).2 3 else (z_ro z_x0 102).2 3)) = a + (nB (β && (!op))) := by
  cases β <;> cases op <;> first | rfl | exact (Int32.add_zero a).symm
theorem hs_4 (a : Int32) (β op : Bool) : (bif !β then a else a + (bif decide (nB op = 0) then (z_ro z_x0 101).2 4 else (z_ro z_x0 102).2 4)) = a + (nB β) := by
  cases β <;> cases op <;> first | rfl | exact (Int32.add_zero a).symm
theorem hs_5 (a : Int32) (β op : Bool) : (bif !β then a else a + (bif decide (nB op = 0) then (z_ro z_x0 101).2 5 else (z_ro z_x0 102).2 5)) = a + (nB β) := by
  cases β <;> cases op <;> first | rfl | exact (Int32.add_zero a).symm
theorem hs_6 (a : Int32) (β op : Bool) : (bif !β then a else a + (bif decide (nB op = 0) then (z_ro z_x0 101).2 6 else (z_ro z_x0 102).2 6)) = a + (nB β) := by
  cases β <;> cases op <;> first | rfl | exact (Int32.add_zero a).symm
theorem hs_7 (a : Int32) (β op : Bool) : (bif !β then a else a + (bif decide (nB op = 0) then (z_ro z_x0 101).2 7 else (z_ro z_x0 102).2 7)) = a + (nB β) := by
  cases β <;> cases op <;> first | rfl | exact (Int32.add_zero a).symm
theorem hs_8 (a : Int32) (β op : Bool) : (bif !β then a else a + (bif decide (nB op = 0) then (z_ro z_x0 101).2 8 else (z_ro z_x0 102).2 8)) = a + (nB β) := by
  cases β <;> cases op <;> first | rfl | exact (Int32.add_zero a).symm
theorem hs_9 (a : Int32) (β op : Bool) : (bif !β then a else a + (bif decide (nB op = 0) then (z_ro z_x0 101).2 9 else (z_ro z_x0 102).2 9)) = a + (nB (β && (!op))) := by
  cases β <;> cases op <;> first | rfl | exact (Int32.add_zero a).symm
theorem hs_10 (a : Int32) (β op : Bool) : (bif !β then a else a + (bif decide (nB op = 0) then (z_ro z_x0 101).2 10 else (z_ro z_x0 102).2 10)) = a + (nB (β && (!op))) := by
  cases β <;> cases op <;> first | rfl | exact (Int32.add_zero a).symm
theorem hs_11 (a : Int32) (β op : Bool) : (bif !β then a else a + (bif decide (nB op = 0) then (z_ro z_x0 101).2 11 else (z_ro z_x0 102).2 11)) = a + (nB β) := by
  cases β <;> cases op <;> first | rfl | exact (Int32.add_zero a).symm
theorem hs_12 (a : Int32) (β op : Bool) : (bif !β then a else a + (bif decide (nB op = 0) then (z_ro z_x0 101).2 12 else (z_ro z_x0 102).2 12)) = a + (nB β) := by
  cases β <;> cases op <;> first | rfl | exact (Int32.add_zero a).symm
theorem hs_13 (a : Int32) (β op : Bool) : (bif !β then a else a + (bif decide (nB op = 0) then (z_ro z_x0 101).2 13 else (z_ro z_x0 102).2 13)) = a + (nB β) := by
  cases β <;> cases op <;> first | rfl | exact (Int32.add_zero a).symm
theorem hs_14 (a : Int32) (β op : Bool) : (bif !β then a else a + (bif decide (nB op = 0) then (z_ro z_x0 101).2 14 else (z_ro z_x0 102).2 14)) = a + (nB β) := by
  cases β <;> cases op <;> first | rfl | exact (Int32.add_zero a).symm
theorem hs_15 (a : Int32) (β op : Bool) : (bif !β then a else a + (bif decide (nB op = 0) then (z_ro z_x0 101).2 15 else (z_ro z_x0 102).2 15)) = a + (nB β) := by
  cases β <;> cases op <;> first | rfl | exact (Int32.add_zero a).symm
theorem hs_16 (a : Int32) (β op : Bool) : (bif !β then a else a + (bif decide (nB op = 0) then (z_ro z_x0 101).2 16 else (z_ro z_x0 102).2 16)) = a + (bif β then (2 : Int32) else 0) := by
  cases β <;> cases op <;> first | rfl | exact (Int32.add_zero a).symm
theorem hs_17 (a : Int32) (β op : Bool) : (bif !β then a else a + (bif decide (nB op = 0) then (z_ro z_x0 101).2 17 else (z_ro z_x0 102).2 17)) = a + (bif β then bif op then (1 : Int32) else 2 else 0) := by
  cases β <;> cases op <;> first | rfl | exact (Int32.add_zero a).symm
theorem hs_18 (a : Int32) (β op : Bool) : (bif !β then a else a + (bif decide (nB op = 0) then (z_ro z_x0 101).2 18 else (z_ro z_x0 102).2 18)) = a + (bif β then bif op then (1 : Int32) else 2 else 0) := by
  cases β <;> cases op <;> first | rfl | exact (Int32.add_zero a).symm
theorem hs_19 (a : Int32) (β op : Bool) : (bif !β then a else a + (bif decide (nB op = 0) then (z_ro z_x0 101).2 19 else (z_ro z_x0 102).2 19)) = a + (bif β then (2 : Int32) else 0) := by
  cases β <;> cases op <;> first | rfl | exact (Int32.add_zero a).symm
theorem hs_20 (a : Int32) (β op : Bool) : (bif !β then a else a + (bif decide (nB op = 0) then (z_ro z_x0 101).2 20 else (z_ro z_x0 102).2 20)) = a + (bif β then (2 : Int32) else 0) := by
  cases β <;> cases op <;> first | rfl | exact (Int32.add_zero a).symm
theorem hs_21 (a : Int32) (β op : Bool) : (bif !β then a else a + (bif decide (nB op = 0) then (z_ro z_x0 101).2 21 else (z_ro z_x0 102).2 21)) = a + (bif β then (2 : Int32) else 0) := by
  cases β <;> cases op <;> first | rfl | exact (Int32.add_zero a).symm
theorem hs_22 (a : Int32) (β op : Bool) : (bif !β then a else a + (bif decide (nB op = 0) then (z_ro z_x0 101).2 22 else (z_ro z_x0 102).2 22)) = a + (bif β then (2 : Int32) else 0) := by
  cases β <;> cases op <;> first | rfl | exact (Int32.add_zero a).symm
theorem hs_23 (a : Int32) (β op : Bool) : (bif !β then a else a + (bif decide (nB op = 0) then (z_ro z_x0 101).2 23 else (z_ro z_x0 102).2 23)) = a + (bif β then bif op then (1 : Int32) else 2 else 0) := by
  cases β <;> cases op <;> first | rfl | exact (Int32.add_zero a).symm
theorem hs_24 (a : Int32) (β op : Bool) : (bif !β then a else a + (bif decide (nB op = 0) then (z_ro z_x0 101).2 24 else (z_ro z_x0 102).2 24)) = a + (bif β then (2 : Int32) else 0) := by
  cases β <;> cases op <;> first | rfl | exact (Int32.add_zero a).symm
theorem hs_25 (a : Int32) (β op : Bool) : (bif !β then a else a + (bif decide (nB op = 0) then (z_ro z_x0 101).2 25 else (z_ro z_x0 102).2 25)) = a + (bif β then (2 : Int32) else 0) := by
  cases β <;> cases op <;> first | rfl | exact (Int32.add_zero a).symm
theorem hs_26 (a : Int32) (β op : Bool) : (bif !β then a else a + (bif decide (nB op = 0) then (z_ro z_x0 101).2 26 else (z_ro z_x0 102).2 26)) = a + (bif β then bif op then (2 : Int32) else 3 else 0) := by
  cases β <;> cases op <;> first | rfl | exact (Int32.add_zero a).symm
theorem hs_27 (a : Int32) (β op : Bool) : (bif !β then a else a + (bif decide (nB op = 0) then (z_ro z_x0 101).2 27 else (z_ro z_x0 102).2 27)) = a + (bif β then bif op then (2 : Int32) else 3 else 0) := by
  cases β <;> cases op <;> first | rfl | exact (Int32.add_zero a).symm
theorem hs_28 (a : Int32) (β op : Bool) : (bif !β then a else a + (bif decide (nB op = 0) then (z_ro z_x0 101).2 28 else (z_ro z_x0 102).2 28)) = a + (bif β then bif op then (0 : Int32) else 3 else 0) := by
  cases β <;> cases op <;> first | rfl | exact (Int32.add_zero a).symm
theorem hs_29 (a : Int32) (β op : Bool) : (bif !β then a else a + (bif decide (nB op = 0) then (z_ro z_x0 101).2 29 else (z_ro z_x0 102).2 29)) = a + (bif β then bif op then (5 : Int32) else 6 else 0) := by
  cases β <;> cases op <;> first | rfl | exact (Int32.add_zero a).symm
theorem han_eq (p : Int64) (op : Bool) : hnc p (nB op) 30 = hnP p op := by
  unfold hnP
  rw [as_dec p 0 0 rfl (by decide)]
  rw [as_dec p 1 1 rfl (by decide)]
  rw [as_dec p 2 2 rfl (by decide)]
  rw [as_dec p 3 3 rfl (by decide)]
  rw [as_dec p 4 4 rfl (by decide)]
  rw [as_dec p 5 5 rfl (by decide)]
  rw [as_dec p 6 6 rfl (by decide)]
  rw [as_dec p 7 7 rfl (by decide)]
  rw [as_dec p 8 8 rfl (by decide)]
  rw [as_dec p 9 9 rfl (by decide)]
  rw [as_dec p 10 10 rfl (by decide)]
  rw [as_dec p 11 11 rfl (by decide)]
  rw [as_dec p 12 12 rfl (by decide)]
  rw [as_dec p 13 13 rfl (by decide)]
  rw [as_dec p 14 14 rfl (by decide)]
  rw [as_dec p 15 15 rfl (by decide)]
  rw [as_dec p 16 16 rfl (by decide)]
  rw [as_dec p 17 17 rfl (by decide)]
  rw [as_dec p 18 18 rfl (by decide)]
  rw [as_dec p 19 19 rfl (by decide)]
  rw [as_dec p 20 20 rfl (by decide)]
  rw [as_dec p 21 21 rfl (by decide)]
  rw [as_dec p 22 22 rfl (by decide)]
  rw [as_dec p 23 23 rfl (by decide)]
  rw [as_dec p 24 24 rfl (by decide)]
  rw [as_dec p 25 25 rfl (by decide)]
  rw [as_dec p 26 26 rfl (by decide)]
  rw [as_dec p 27 27 rfl (by decide)]
  rw [as_dec p 28 28 rfl (by decide)]
  rw [as_dec p 29 29 rfl (by decide)]
  have st : ∀ i, hnc p (nB op) (i + 1) = bif hb p i then hnc p (nB op) i else hnc p (nB op) i + (bif decide (nB op = 0) then (z_ro z_x0 101).2 i else (z_ro z_x0 102).2 i) := fun i => rfl
  rw [show hnc p (nB op) 30 = hnc p (nB op) (29 + 1) from rfl]
  rw [st 29, hb_dec p 29 (by decide), hs_29]
  rw [show hnc p (nB op) 29 = hnc p (nB op) (28 + 1) from rfl]
  rw [st 28, hb_dec p 28 (by decide), hs_28]
  rw [show hnc p (nB op) 28 = hnc p (nB op) (27 + 1) from rfl]
  rw [st 27, hb_dec p 27 (by decide), hs_27]
  rw [show hnc p (nB op) 27 = hnc p (nB op) (26 + 1) from rfl]
  rw [st 26, hb_dec p 26 (by decide), hs_26]
  rw [show hnc p (nB op) 26 = hnc p (nB op) (25 + 1) from rfl]
  rw [st 25, hb_dec p 25 (by decide), hs_25]
  rw [show hnc p (nB op) 25 = hnc p (nB op) (24 + 1) from rfl]
  rw [st 24, hb_dec p 24 (by decide), hs_24]
  rw [show hnc p (nB op) 24 = hnc p (nB op) (23 + 1) from rfl]
  rw [st 23, hb_dec p 23 (by decide), hs_23]
  rw [show hnc p (nB op) 23 = hnc p (nB op) (22 + 1) from rfl]
  rw [st 22, hb_dec p 22 (by decide), hs_22]
  rw [show hnc p (nB op) 22 = hnc p (nB op) (21 + 1) from rfl]
  rw [st 21, hb_dec p 21 (by decide), hs_21]
  rw [show hnc p (nB op) 21 = hnc p (nB op) (20 + 1) from rfl]
  rw [st 20, hb_dec p 20 (by decide), hs_20]
  rw [show hnc p (nB op) 20 = hnc p (nB op) (19 + 1) from rfl]
  rw [st 19, hb_dec p 19 (by decide), hs_19]
  rw [show hnc p (nB op) 19 = hnc p (nB op) (18 + 1) from rfl]
  rw [st 18, hb_dec p 18 (by decide), hs_18]
  rw [show hnc p (nB op) 18 = hnc p (nB op) (17 + 1) from rfl]
  rw [st 17, hb_dec p 17 (by decide), hs_17]
  rw [show hnc p (nB op) 17 = hnc p (nB op) (16 + 1) from rfl]
  rw [st 16, hb_dec p 16 (by decide), hs_16]
  rw [show hnc p (nB op) 16 = hnc p (nB op) (15 + 1) from rfl]
  rw [st 15, hb_dec p 15 (by decide), hs_15]
  rw [show hnc p (nB op) 15 = hnc p (nB op) (14 + 1) from rfl]
  rw [st 14, hb_dec p 14 (by decide), hs_14]
  rw [show hnc p (nB op) 14 = hnc p (nB op) (13 + 1) from rfl]
  rw [st 13, hb_dec p 13 (by decide), hs_13]
  rw [show hnc p (nB op) 13 = hnc p (nB op) (12 + 1) from rfl]
  rw [st 12, hb_dec p 12 (by decide), hs_12]
  rw [show hnc p (nB op) 12 = hnc p (nB op) (11 + 1) from rfl]
  rw [st 11, hb_dec p 11 (by decide), hs_11]
  rw [show hnc p (nB op) 11 = hnc p (nB op) (10 + 1) from rfl]
  rw [st 10, hb_dec p 10 (by decide), hs_10]
  rw [show hnc p (nB op) 10 = hnc p (nB op) (9 + 1) from rfl]
  rw [st 9, hb_dec p 9 (by decide), hs_9]
  rw [show hnc p (nB op) 9 = hnc p (nB op) (8 + 1) from rfl]
  rw [st 8, hb_dec p 8 (by decide), hs_8]
  rw [show hnc p (nB op) 8 = hnc p (nB op) (7 + 1) from rfl]
  rw [st 7, hb_dec p 7 (by decide), hs_7]
  rw [show hnc p (nB op) 7 = hnc p (nB op) (6 + 1) from rfl]
  rw [st 6, hb_dec p 6 (by decide), hs_6]
  rw [show hnc p (nB op) 6 = hnc p (nB op) (5 + 1) from rfl]
  rw [st 5, hb_dec p 5 (by decide), hs_5]
  rw [show hnc p (nB op) 5 = hnc p (nB op) (4 + 1) from rfl]
  rw [st 4, hb_dec p 4 (by decide), hs_4]
  rw [show hnc p (nB op) 4 = hnc p (nB op) (3 + 1) from rfl]
  rw [st 3, hb_dec p 3 (by decide), hs_3]
  rw [show hnc p (nB op) 3 = hnc p (nB op) (2 + 1) from rfl]
  rw [st 2, hb_dec p 2 (by decide), hs_2]
  rw [show hnc p (nB op) 2 = hnc p (nB op) (1 + 1) from rfl]
  rw [st 1, hb_dec p 1 (by decide), hs_1]
  rw [show hnc p (nB op) 1 = hnc p (nB op) (0 + 1) from rfl]
  rw [st 0, hb_dec p 0 (by decide), hs_0]
  rfl
theorem bas_eq (μ : zM) (x f : Int32) : baC f (x + μ.1 50 10) = bsH μ x f := by
  unfold baC bsH
  generalize x + μ.1 50 10 = h
  have le : ∀ x y : Int32, decide (x ≤ y) = !decide (y < x) := fun x y => by rw [← decide_not]; exact decide_eq_decide.mpr Int32.not_lt.symm
  have l8 : decide ((8 : Int32) ≤ h) = decide (7 < h) := decide_eq_decide.mpr (by rw [Int32.le_iff_toInt_le, Int32.lt_iff_toInt_lt]; show (8 : Int) ≤ _ ↔ (7 : Int) < _; omega)
  have l11 : decide ((11 : Int32) ≤ h) = decide (10 < h) := decide_eq_decide.mpr (by rw [Int32.le_iff_toInt_le, Int32.lt_iff_toInt_lt]; show (11 : Int) ≤ _ ↔ (10 : Int) < _; omega)
  have l13 : decide ((13 : Int32) ≤ h) = decide (12 < h) := decide_eq_decide.mpr (by rw [Int32.le_iff_toInt_le, Int32.lt_iff_toInt_lt]; show (13 : Int) ≤ _ ↔ (12 : Int) < _; omega)
  rw [l8, l11, l13, le h 4]
  cases decide (4 < h)
  · show (bif decide ((2000 : Int32) ≤ f <<< ((2 + h) &&& 31)) then (2000 : Int32) else _) = if f <<< ((2 + h) &&& 31) < 2000 then _ else (2000 : Int32)
    rw [le]
    by_cases c : f <<< ((2 + h) &&& 31) < 2000
    · rw [if_pos c, decide_eq_true c]; rfl
    · rw [if_neg c, decide_eq_false c]; rfl
  · rfl
theorem lb_one : ∀ k, k < 64 → ((1 : Int64) <<< ((nI k).toInt64 &&& 63)).toBitVec = BitVec.twoPow 64 k := by decide +kernel
theorem lb_bit (e : Bool) (c : Int32) (k : Nat) (hc : c = nI k) (hk : k < 64) (n : Nat) : (lb e c).toBitVec.getLsbD n = (e && decide (k = n)) := by
  subst hc
  cases e
  · show (0#64).getLsbD n = _; rw [BitVec.getLsbD_zero]; rfl
  · show ((1 : Int64) <<< ((nI k).toInt64 &&& 63)).toBitVec.getLsbD n = _
    rw [lb_one k hk, BitVec.getLsbD_twoPow]
    by_cases h : k = n
    · subst h; simp; omega
    · simp [h]
theorem lb_or (a b : Bool) (k : Int32) : lb a k ||| lb b k = lb (a || b) k := by
  cases a <;> cases b
  · exact Int64.or_self
  · exact Int64.zero_or
  · exact Int64.or_zero
  · exact Int64.or_self
theorem i64_ext {x y : Int64} (h : ∀ n, n < 64 → x.toBitVec.getLsbD n = y.toBitVec.getLsbD n) : x = y := by
  rw [← Int64.toBitVec_inj]
  exact BitVec.eq_of_getLsbD_eq h
theorem or_and9 (a b m : Int64) : (a ||| b) &&& m = (a &&& m) ||| (b &&& m) := i64_ext (fun n _ => by
  rw [Int64.toBitVec_and, Int64.toBitVec_or, Int64.toBitVec_or, Int64.toBitVec_and, Int64.toBitVec_and, BitVec.getLsbD_and, BitVec.getLsbD_or, BitVec.getLsbD_or, BitVec.getLsbD_and, BitVec.getLsbD_and]
  exact Bool.and_or_distrib_right _ _ _)
/-- a long of which only few bits are kept -/
noncomputable def orl : List (Bool × Nat) → Int64
  | [] => 0
  | x :: t => lb x.1 (nI x.2) ||| orl t
theorem orl_bit : ∀ L : List (Bool × Nat), (∀ x ∈ L, x.2 < 64) → ∀ n, (orl L).toBitVec.getLsbD n = L.any (fun x => x.1 && decide (x.2 = n)) := by
  intro L
  induction L with
  | nil => intro _ n; show (0#64).getLsbD n = _; rw [BitVec.getLsbD_zero]; rfl
  | cons x t ih =>
    intro h n
    show (lb x.1 (nI x.2) ||| orl t).toBitVec.getLsbD n = (x.1 && decide (x.2 = n) || t.any _)
    rw [Int64.toBitVec_or, BitVec.getLsbD_or, ih (fun y hy => h y (List.mem_cons_of_mem _ hy)), lb_bit x.1 _ x.2 rfl (h x List.mem_cons_self)]
theorem mask_orl (x m : Int64) (K : List Nat) (hK : ∀ k ∈ K, k < 64) (hm : ∀ n, n < 64 → m.toBitVec.getLsbD n = decide (n ∈ K)) : x &&& m = orl (K.map (fun k => (x.toBitVec.getLsbD k, k))) := i64_ext (fun n hn => by
  rw [Int64.toBitVec_and, BitVec.getLsbD_and, hm n hn, orl_bit _ (by intro y hy; obtain ⟨k, hk, rfl⟩ := List.mem_map.mp hy; exact hK k hk) n, List.any_map]
  rw [Bool.eq_iff_iff, Bool.and_eq_true, decide_eq_true_iff, List.any_eq_true]
  constructor
  · rintro ⟨h1, h2⟩
    exact ⟨n, h2, by show (x.toBitVec.getLsbD n && decide (n = n)) = true; rw [h1, decide_eq_true rfl]; rfl⟩
  · rintro ⟨k, h1, h2⟩
    have h2 : (x.toBitVec.getLsbD k && decide (k = n)) = true := h2
    rw [Bool.and_eq_true, decide_eq_true_iff] at h2
    rw [h2.2] at h1 h2
    exact ⟨h2.1, h1⟩)
theorem gcnt : ∀ b0 b1 b2 b3 b4 b5 b6 b7 b8 b9 ba bb : Bool, xBc (orl [(b0, 32), (b1, 33), (b2, 34), (b3, 35), (b4, 36), (b5, 37), (b6, 38), (b7, 39), (b8, 40), (b9, 41), (ba, 42), (bb, 43)]) = (((((((((((0 + nB b0) + nB b1) + nB b2) + nB b3) + nB b4) + nB b5) + nB b6) + nB b7) + nB b8) + nB b9) + nB ba) + nB bb := by decide +kernel
theorem nB_l (b : Bool) : (lb b 0).toInt32 = nB b := by cases b <;> rfl
theorem great_eq (x : Int64) : xBc (x &&& 17587891077120) = hnG (x &&& 17587891077120) := by
  have e : x &&& 17587891077120 = orl [(x.toBitVec.getLsbD 32, 32), (x.toBitVec.getLsbD 33, 33), (x.toBitVec.getLsbD 34, 34), (x.toBitVec.getLsbD 35, 35), (x.toBitVec.getLsbD 36, 36), (x.toBitVec.getLsbD 37, 37), (x.toBitVec.getLsbD 38, 38), (x.toBitVec.getLsbD 39, 39), (x.toBitVec.getLsbD 40, 40), (x.toBitVec.getLsbD 41, 41), (x.toBitVec.getLsbD 42, 42), (x.toBitVec.getLsbD 43, 43)] :=
    mask_orl x 17587891077120 [32, 33, 34, 35, 36, 37, 38, 39, 40, 41, 42, 43] (by decide) (by decide +kernel)
  have b : ∀ k, 32 ≤ k → k ≤ 43 → (x &&& 17587891077120).toBitVec.getLsbD k = x.toBitVec.getLsbD k := fun k h1 h2 => by
    have : ∀ k, k ≤ 43 → 32 ≤ k → (17587891077120 : Int64).toBitVec.getLsbD k = true := by decide +kernel
    rw [Int64.toBitVec_and, BitVec.getLsbD_and, this k h2 h1, Bool.and_true]
  unfold hnG
  rw [as_bit _ 32 32 rfl (by decide), as_bit _ 33 33 rfl (by decide), as_bit _ 34 34 rfl (by decide), as_bit _ 35 35 rfl (by decide), as_bit _ 36 36 rfl (by decide), as_bit _ 37 37 rfl (by decide), as_bit _ 38 38 rfl (by decide), as_bit _ 39 39 rfl (by decide), as_bit _ 40 40 rfl (by decide), as_bit _ 41 41 rfl (by decide), as_bit _ 42 42 rfl (by decide), as_bit _ 43 43 rfl (by decide)]
  rw [b 32 (by decide) (by decide), b 33 (by decide) (by decide), b 34 (by decide) (by decide), b 35 (by decide) (by decide), b 36 (by decide) (by decide), b 37 (by decide) (by decide), b 38 (by decide) (by decide), b 39 (by decide) (by decide), b 40 (by decide) (by decide), b 41 (by decide) (by decide), b 42 (by decide) (by decide), b 43 (by decide) (by decide)]
  rw [nB_l, nB_l, nB_l, nB_l, nB_l, nB_l, nB_l, nB_l, nB_l, nB_l, nB_l, nB_l, e]
  exact gcnt _ _ _ _ _ _ _ _ _ _ _ _
/-- an offer of the class beside the reference's -/
theorem val_eq {μ : zM} {op : Bool} {F : Int64} {fu dear : Int32} (hF : fO (nB op) F = cpG μ ||| cpP μ op) (hG : cpG μ &&& 17587891077120 = cpG μ) (hP : cpP μ op &&& 17587891077120 = 0) (hf : μ.1 50 23 = fu) (hd : μ.1 50 10 = dear) : (vO (nB op) dear F fu).2.2.2 = (cOf μ op).2.2.2 ∧ (¬ (vO (nB op) dear F fu).2.2.2 = 0 → vO (nB op) dear F fu = cOf μ op) := by
  have eG : fO (nB op) F &&& 17587891077120 = cpG μ := by rw [hF, or_and9, hG, hP, Int64.or_zero]
  unfold vO cOf
  rw [eG]
  by_cases c : cpG μ = 0
  · rw [show decide (lg_cmp (cpG μ) 0 = 0) = true from decide_eq_true (lg_c0.mpr c), cond_true, cond_true]
    have eP : fO (nB op) F = cpP μ op := by rw [hF, c, Int64.zero_or]
    rw [eP]
    by_cases c2 : cpP μ op = 0
    · rw [show decide (lg_cmp (cpP μ op) 0 = 0) = true from decide_eq_true (lg_c0.mpr c2), cond_true]
      exact ⟨rfl, fun z => absurd c2 z⟩
    · rw [show decide (lg_cmp (cpP μ op) 0 = 0) = false from decide_eq_false (fun z => c2 (lg_c0.mp z)), cond_false]
      refine ⟨rfl, fun _ => ?_⟩
      rw [han_eq, ← hd, bas_eq, hf]
  · rw [show decide (lg_cmp (cpG μ) 0 = 0) = false from decide_eq_false (fun z => c (lg_c0.mp z)), cond_false, cond_false]
    refine ⟨rfl, fun _ => ?_⟩
    have e := great_eq (cpG μ)
    rw [hG] at e
    rw [e, hf, Int32.mul_comm 13]
/-! a way: THREES and RUNS as bits; both sides' FORMS alike -/
set_option maxRecDepth 8000
theorem tB_bit (s l : Nat → Nat) (n : Nat) : ∀ i, (∀ j, j < i → l j < 34) → ((tB s l i).toBitVec.getLsbD n = true ↔ ∃ j, j < i ∧ ¬ s j = 0 ∧ l j = n) := by
  intro i
  induction i with
  | zero => intro _; exact ⟨fun h => absurd h (by rw [show (tB s l 0).toBitVec = 0#64 from rfl, BitVec.getLsbD_zero]; decide), fun ⟨j, hj, _⟩ => absurd hj (by omega)⟩
  | succ i ih =>
    intro hl
    have i1 := ih (fun j hj => hl j (by omega))
    show (if s i = 0 then tB s l i else tB s l i ||| ((1 : Int64) <<< ((nI (l i)).toInt64 &&& 63))).toBitVec.getLsbD n = true ↔ _
    by_cases h : s i = 0
    · rw [if_pos h, i1]
      exact ⟨fun ⟨j, h1, h2⟩ => ⟨j, by omega, h2⟩, fun ⟨j, h1, h2⟩ => ⟨j, if e : j = i then (by rw [e] at h2; exact absurd h h2.1) else (by omega), h2⟩⟩
    · rw [if_neg h, Int64.toBitVec_or, BitVec.getLsbD_or, Bool.or_eq_true, i1, show ((1 : Int64) <<< ((nI (l i)).toInt64 &&& 63)) = lb true (nI (l i)) from rfl, lb_bit true _ (l i) rfl (by have := hl i (by omega); omega), Bool.true_and, decide_eq_true_iff]
      constructor
      · rintro (⟨j, h1, h2⟩ | e)
        · exact ⟨j, by omega, h2⟩
        · exact ⟨i, by omega, h, e⟩
      · rintro ⟨j, h1, h2, h3⟩
        by_cases e : j = i
        · rw [e] at h3; exact Or.inr h3
        · exact Or.inl ⟨j, by omega, h2, h3⟩
theorem rB_bit (s l : Nat → Nat) (n : Nat) : ∀ i, (∀ j, j < i → l j < 34) → ((rB s l i).toBitVec.getLsbD n = true ↔ ∃ j, j < i ∧ s j = 0 ∧ l j = n) := by
  intro i
  induction i with
  | zero => intro _; exact ⟨fun h => absurd h (by rw [show (rB s l 0).toBitVec = 0#64 from rfl, BitVec.getLsbD_zero]; decide), fun ⟨j, hj, _⟩ => absurd hj (by omega)⟩
  | succ i ih =>
    intro hl
    have i1 := ih (fun j hj => hl j (by omega))
    show (if s i = 0 then rB s l i ||| ((1 : Int64) <<< ((nI (l i)).toInt64 &&& 63)) else rB s l i).toBitVec.getLsbD n = true ↔ _
    by_cases h : s i = 0
    · rw [if_pos h, Int64.toBitVec_or, BitVec.getLsbD_or, Bool.or_eq_true, i1, show ((1 : Int64) <<< ((nI (l i)).toInt64 &&& 63)) = lb true (nI (l i)) from rfl, lb_bit true _ (l i) rfl (by have := hl i (by omega); omega), Bool.true_and, decide_eq_true_iff]
      constructor
      · rintro (⟨j, h1, h2⟩ | e)
        · exact ⟨j, by omega, h2⟩
        · exact ⟨i, by omega, h, e⟩
      · rintro ⟨j, h1, h2, h3⟩
        by_cases e : j = i
        · rw [e] at h3; exact Or.inr h3
        · exact Or.inl ⟨j, by omega, h2, h3⟩
    · rw [if_neg h, i1]
      exact ⟨fun ⟨j, h1, h2⟩ => ⟨j, by omega, h2⟩, fun ⟨j, h1, h2⟩ => ⟨j, if e : j = i then (by rw [e] at h2; exact absurd h2.1 h) else (by omega), h2⟩⟩
theorem ex4 {P : Nat → Prop} : (∃ j, j < 4 ∧ P j) ↔ (((P 0 ∨ P 1) ∨ P 2) ∨ P 3) := by
  constructor
  · rintro ⟨j, hj, h⟩
    rcases j with _ | _ | _ | _ | j
    · exact Or.inl (Or.inl (Or.inl h))
    · exact Or.inl (Or.inl (Or.inr h))
    · exact Or.inl (Or.inr h)
    · exact Or.inr h
    · omega
  · rintro (((h | h) | h) | h)
    · exact ⟨0, by omega, h⟩
    · exact ⟨1, by omega, h⟩
    · exact ⟨2, by omega, h⟩
    · exact ⟨3, by omega, h⟩
/-- what is known of a way -/
noncomputable def WY (q p co : Nat) (s l : Nat → Nat) : Prop := (q ≤ 4) ∧ (p < 34) ∧ (co < 5) ∧ (q ≤ co) ∧ (∀ j, j < 4 → s j ≤ 3 ∧ l j < 34 ∧ (s j = 0 → rs (l j))) ∧ (∀ j, q ≤ j → j < 4 → s j ≤ 1)
theorem WY.q4 {q p co : Nat} {s l : Nat → Nat} (h : WY q p co s l) : q ≤ 4 := h.1
theorem WY.p34 {q p co : Nat} {s l : Nat → Nat} (h : WY q p co s l) : p < 34 := h.2.1
theorem WY.c5 {q p co : Nat} {s l : Nat → Nat} (h : WY q p co s l) : co < 5 := h.2.2.1
theorem WY.qc {q p co : Nat} {s l : Nat → Nat} (h : WY q p co s l) : q ≤ co := h.2.2.2.1
theorem WY.sl {q p co : Nat} {s l : Nat → Nat} (h : WY q p co s l) : ∀ j, j < 4 → s j ≤ 3 ∧ l j < 34 ∧ (s j = 0 → rs (l j)) := h.2.2.2.2.1
theorem WY.s1 {q p co : Nat} {s l : Nat → Nat} (h : WY q p co s l) : ∀ j, q ≤ j → j < 4 → s j ≤ 1 := h.2.2.2.2.2
theorem WY.n0 {q : Nat} {p : Nat} {co : Nat} {s : Nat → Nat} {l : Nat → Nat} (h : WY q p co s l) (j : Nat) (hj : j < 4) : decide (nI (s j) = 0) = decide (s j = 0) := decide_eq_decide.mpr (nI_eq (by have := (h.sl j hj).1; omega) (show 0 < 2 ^ 31 by decide))
theorem WY.nk {q : Nat} {p : Nat} {co : Nat} {s : Nat → Nat} {l : Nat → Nat} (h : WY q p co s l) (j : Nat) (hj : j < 4) (k : Nat) (hk : k < 4) : decide (nI (s j) = nI k) = decide (s j = k) := decide_eq_decide.mpr (nI_eq (by have := (h.sl j hj).1; omega) (by omega))
theorem WY.nl {q : Nat} {p : Nat} {co : Nat} {s : Nat → Nat} {l : Nat → Nat} (h : WY q p co s l) (j : Nat) (hj : j < 4) (n : Nat) (hn : n < 100) : decide (nI (l j) = nI n) = decide (l j = n) := decide_eq_decide.mpr (nI_eq (by have := (h.sl j hj).2.1; omega) (by omega))
theorem WY.aT {q : Nat} {p : Nat} {co : Nat} {s : Nat → Nat} {l : Nat → Nat} (h : WY q p co s l) (κM : zM) (n : Nat) (hn : n < 64) : xT (yM κM s l (nI p) (nI co)) (nI n) = (tB s l 4).toBitVec.getLsbD n := by
  rw [Bool.eq_iff_iff, tB_bit s l n 4 (fun j hj => (h.sl j hj).2.1), ex4]
  show (((((!decide (nI (s 0) = 0)) && decide (nI (l 0) = nI n)) || ((!decide (nI (s 1) = 0)) && decide (nI (l 1) = nI n))) || ((!decide (nI (s 2) = 0)) && decide (nI (l 2) = nI n))) || ((!decide (nI (s 3) = 0)) && decide (nI (l 3) = nI n))) = true ↔ _
  rw [h.n0 0 (by omega), h.n0 1 (by omega), h.n0 2 (by omega), h.n0 3 (by omega), h.nl 0 (by omega) n (by omega), h.nl 1 (by omega) n (by omega), h.nl 2 (by omega) n (by omega), h.nl 3 (by omega) n (by omega)]
  simp only [Bool.or_eq_true, Bool.and_eq_true, Bool.not_eq_true', decide_eq_false_iff_not, decide_eq_true_iff]
theorem WY.aR {q : Nat} {p : Nat} {co : Nat} {s : Nat → Nat} {l : Nat → Nat} (h : WY q p co s l) (κM : zM) (n : Nat) (hn : n < 64) : xR (yM κM s l (nI p) (nI co)) (nI n) = (rB s l 4).toBitVec.getLsbD n := by
  rw [Bool.eq_iff_iff, rB_bit s l n 4 (fun j hj => (h.sl j hj).2.1), ex4]
  show ((((decide (nI (s 0) = 0) && decide (nI (l 0) = nI n)) || (decide (nI (s 1) = 0) && decide (nI (l 1) = nI n))) || (decide (nI (s 2) = 0) && decide (nI (l 2) = nI n))) || (decide (nI (s 3) = 0) && decide (nI (l 3) = nI n))) = true ↔ _
  rw [h.n0 0 (by omega), h.n0 1 (by omega), h.n0 2 (by omega), h.n0 3 (by omega), h.nl 0 (by omega) n (by omega), h.nl 1 (by omega) n (by omega), h.nl 2 (by omega) n (by omega), h.nl 3 (by omega) n (by omega)]
  simp only [Bool.or_eq_true, Bool.and_eq_true, decide_eq_true_iff]
/-- no RUN begins at 7, 8 -/
theorem WY.r78 {q : Nat} {p : Nat} {co : Nat} {s : Nat → Nat} {l : Nat → Nat} (h : WY q p co s l) (n : Nat) (hn : ¬ rs n) : (rB s l 4).toBitVec.getLsbD n = false := by
  rw [← Bool.not_eq_true, rB_bit s l n 4 (fun j hj => (h.sl j hj).2.1)]
  rintro ⟨j, hj, h1, h2⟩
  exact hn (h2 ▸ (h.sl j hj).2.2 h1)
theorem WY.rhi {q : Nat} {p : Nat} {co : Nat} {s : Nat → Nat} {l : Nat → Nat} (h : WY q p co s l) (n : Nat) (hn : 34 ≤ n) : (rB s l 4).toBitVec.getLsbD n = false := by
  rw [← Bool.not_eq_true, rB_bit s l n 4 (fun j hj => (h.sl j hj).2.1)]
  rintro ⟨j, hj, h1, h2⟩
  have := (h.sl j hj).2.1; omega
/-- RUNS: none, or some -/
theorem WY.r0 {q : Nat} {p : Nat} {co : Nat} {s : Nat → Nat} {l : Nat → Nat} (h : WY q p co s l) (κM : zM) : decide (lg_cmp (rB s l 4) 0 = 0) = decide (w0_1 (yM κM s l (nI p) (nI co)) q s l = 0) := by
  have e : decide (lg_cmp (rB s l 4) 0 = 0) = (((!decide (s 0 = 0) && !decide (s 1 = 0)) && !decide (s 2 = 0)) && !decide (s 3 = 0)) := by
    rw [Bool.eq_iff_iff, decide_eq_true_iff, lg_c0]
    have e0 : (∃ j, j < 4 ∧ s j = 0) ↔ (((s 0 = 0 ∨ s 1 = 0) ∨ s 2 = 0) ∨ s 3 = 0) := ex4
    simp only [Bool.and_eq_true, Bool.not_eq_true', decide_eq_false_iff_not]
    constructor
    · intro z
      have n0 : ¬ ∃ j, j < 4 ∧ s j = 0 := fun ⟨j, hj, hz⟩ => by
        have := (rB_bit s l (l j) 4 (fun j hj => (h.sl j hj).2.1)).mpr ⟨j, hj, hz, rfl⟩
        rw [z] at this
        exact absurd this (by show ¬ (0#64).getLsbD (l j) = true; rw [BitVec.getLsbD_zero]; decide)
      rw [e0] at n0
      simp only [not_or] at n0
      exact n0
    · intro z
      refine i64_ext (fun n _ => ?_)
      show _ = (0#64).getLsbD n
      rw [BitVec.getLsbD_zero, ← Bool.not_eq_true, rB_bit s l n 4 (fun j hj => (h.sl j hj).2.1)]
      rintro ⟨j, hj, h1, _⟩
      have := e0.mp ⟨j, hj, h1⟩
      rcases this with ((y | y) | y) | y
      · exact z.1.1.1 y
      · exact z.1.1.2 y
      · exact z.1.2 y
      · exact z.2 y
  rw [e]
  show _ = decide ((((0 + nB (decide (nI (s 0) = 0))) + nB (decide (nI (s 1) = 0))) + nB (decide (nI (s 2) = 0))) + nB (decide (nI (s 3) = 0)) = 0)
  rw [h.n0 0 (by omega), h.n0 1 (by omega), h.n0 2 (by omega), h.n0 3 (by omega)]
  generalize decide (s 0 = 0) = a
  generalize decide (s 1 = 0) = b
  generalize decide (s 2 = 0) = c
  generalize decide (s 3 = 0) = d
  revert a b c d
  decide +kernel
/-- no THREE: four RUNS -/
theorem WY.t0 {q : Nat} {p : Nat} {co : Nat} {s : Nat → Nat} {l : Nat → Nat} (h : WY q p co s l) (κM : zM) : decide (lg_cmp (tB s l 4) 0 = 0) = decide (w0_1 (yM κM s l (nI p) (nI co)) q s l = 4) := by
  have e : decide (lg_cmp (tB s l 4) 0 = 0) = (((decide (s 0 = 0) && decide (s 1 = 0)) && decide (s 2 = 0)) && decide (s 3 = 0)) := by
    rw [Bool.eq_iff_iff, decide_eq_true_iff, lg_c0]
    have e0 : (∃ j, j < 4 ∧ ¬ s j = 0) ↔ (((¬ s 0 = 0 ∨ ¬ s 1 = 0) ∨ ¬ s 2 = 0) ∨ ¬ s 3 = 0) := ex4
    simp only [Bool.and_eq_true, decide_eq_true_iff]
    constructor
    · intro z
      have n0 : ¬ ∃ j, j < 4 ∧ ¬ s j = 0 := fun ⟨j, hj, hz⟩ => by
        have := (tB_bit s l (l j) 4 (fun j hj => (h.sl j hj).2.1)).mpr ⟨j, hj, hz, rfl⟩
        rw [z] at this
        exact absurd this (by show ¬ (0#64).getLsbD (l j) = true; rw [BitVec.getLsbD_zero]; decide)
      rw [e0] at n0
      omega
    · intro z
      refine i64_ext (fun n _ => ?_)
      show _ = (0#64).getLsbD n
      rw [BitVec.getLsbD_zero, ← Bool.not_eq_true, tB_bit s l n 4 (fun j hj => (h.sl j hj).2.1)]
      rintro ⟨j, hj, h1, _⟩
      have := e0.mp ⟨j, hj, h1⟩
      omega
  rw [e]
  show _ = decide ((((0 + nB (decide (nI (s 0) = 0))) + nB (decide (nI (s 1) = 0))) + nB (decide (nI (s 2) = 0))) + nB (decide (nI (s 3) = 0)) = 4)
  rw [h.n0 0 (by omega), h.n0 1 (by omega), h.n0 2 (by omega), h.n0 3 (by omega)]
  generalize decide (s 0 = 0) = a
  generalize decide (s 1 = 0) = b
  generalize decide (s 2 = 0) = c
  generalize decide (s 3 = 0) = d
  revert a b c d
  decide +kernel
/-- bits that are shifted -/
theorem us_sh (x : Int64) (k : Nat) (c : Int32) (hc : c = nI k) (hk : k < 64) (n : Nat) : ((x.toUInt64 >>> (c.toInt64.toUInt64 &&& Int64.toUInt64 63)).toInt64).toBitVec.getLsbD n = x.toBitVec.getLsbD (k + n) := by
  subst hc
  rw [us_n k hk]
  show (x.toUInt64 >>> UInt64.ofNat k).toBitVec.getLsbD n = _
  rw [UInt64.toBitVec_shiftRight]
  have : (UInt64.ofNat k).toBitVec % 64 = BitVec.ofNat 64 k := by
    revert k; decide +kernel
  rw [this]
  show (x.toBitVec >>> (BitVec.ofNat 64 k)).getLsbD n = _
  rw [BitVec.ushiftRight_eq', BitVec.toNat_ofNat, Nat.mod_eq_of_lt (by omega), BitVec.getLsbD_ushiftRight]
theorem ne0_bit (x : Int64) : (!decide (lg_cmp x 0 = 0)) = true ↔ ∃ n, n < 64 ∧ x.toBitVec.getLsbD n = true := by
  rw [Bool.not_eq_true', decide_eq_false_iff_not, lg_c0]
  constructor
  · intro z
    apply Classical.byContradiction
    intro y
    refine z (i64_ext (fun n hn => ?_))
    show _ = (0#64).getLsbD n
    rw [BitVec.getLsbD_zero, ← Bool.not_eq_true]
    exact fun w => y ⟨n, hn, w⟩
  · rintro ⟨n, hn, h⟩ z
    rw [z] at h
    exact absurd h (by show ¬ (0#64).getLsbD n = true; rw [BitVec.getLsbD_zero]; decide)
theorem m511 : ∀ n, n < 64 → (511 : Int64).toBitVec.getLsbD n = decide (n < 9) := by decide +kernel
/-- in all three suits -/
theorem all3 (x : Int64) : (!(decide ((lg_cmp (((x &&& ((x.toUInt64 >>> ((9 : Int32).toInt64.toUInt64 &&& Int64.toUInt64 63)).toInt64)) &&& ((x.toUInt64 >>> ((18 : Int32).toInt64.toUInt64 &&& Int64.toUInt64 63)).toInt64)) &&& 511) 0) = 0))) = true ↔ ∃ n, n < 9 ∧ x.toBitVec.getLsbD n = true ∧ x.toBitVec.getLsbD (9 + n) = true ∧ x.toBitVec.getLsbD (18 + n) = true := by
  rw [ne0_bit]
  have e : ∀ n, n < 64 → ((((x &&& ((x.toUInt64 >>> ((9 : Int32).toInt64.toUInt64 &&& Int64.toUInt64 63)).toInt64)) &&& ((x.toUInt64 >>> ((18 : Int32).toInt64.toUInt64 &&& Int64.toUInt64 63)).toInt64)) &&& 511).toBitVec.getLsbD n = true ↔ (n < 9 ∧ x.toBitVec.getLsbD n = true ∧ x.toBitVec.getLsbD (9 + n) = true ∧ x.toBitVec.getLsbD (18 + n) = true)) := fun n hn => by
    rw [Int64.toBitVec_and, BitVec.getLsbD_and, Int64.toBitVec_and, BitVec.getLsbD_and, Int64.toBitVec_and, BitVec.getLsbD_and, us_sh x 9 9 rfl (by decide) n, us_sh x 18 18 rfl (by decide) n, m511 n hn]
    simp only [Bool.and_eq_true, decide_eq_true_iff]
    constructor
    · rintro ⟨⟨⟨a, b⟩, c⟩, d⟩; exact ⟨d, a, b, c⟩
    · rintro ⟨d, a, b, c⟩; exact ⟨⟨⟨a, b⟩, c⟩, d⟩
  constructor
  · rintro ⟨n, hn, z⟩; exact ⟨n, (e n hn).mp z⟩
  · rintro ⟨n, hn, z⟩; exact ⟨n, by omega, (e n (by omega)).mpr ⟨hn, z⟩⟩
theorem m73 : ∀ n, n < 64 → (73 : Int64).toBitVec.getLsbD n = (decide (n = 0) || (decide (n = 3) || decide (n = 6))) := by decide +kernel
theorem is73 (x : Int64) (k : Nat) (c : Int32) (hc : c = nI k) (hk : k < 50) : decide (lg_cmp (((x.toUInt64 >>> (c.toInt64.toUInt64 &&& Int64.toUInt64 63)).toInt64) &&& 73) 73 = 0) = (x.toBitVec.getLsbD k && (x.toBitVec.getLsbD (k + 3) && x.toBitVec.getLsbD (k + 6))) := by
  rw [Bool.eq_iff_iff, decide_eq_true_iff, lg_c0, Bool.and_eq_true, Bool.and_eq_true]
  have e : ∀ n, ((((x.toUInt64 >>> (c.toInt64.toUInt64 &&& Int64.toUInt64 63)).toInt64) &&& 73).toBitVec.getLsbD n) = (x.toBitVec.getLsbD (k + n) && (73 : Int64).toBitVec.getLsbD n) := fun n => by rw [Int64.toBitVec_and, BitVec.getLsbD_and, us_sh x k c hc (by omega) n]
  constructor
  · intro z
    have f := fun n => (e n).symm.trans (by rw [z])
    refine ⟨?_, ?_, ?_⟩
    · have := f 0; rw [m73 0 (by decide)] at this; simpa using this
    · have := f 3; rw [m73 3 (by decide)] at this; simpa using this
    · have := f 6; rw [m73 6 (by decide)] at this; simpa using this
  · rintro ⟨a, b, d⟩
    refine i64_ext (fun n hn => ?_)
    rw [e, m73 n hn]
    by_cases h0 : n = 0
    · subst h0; rw [Nat.add_zero, a]; rfl
    · by_cases h3 : n = 3
      · subst h3; rw [b]; rfl
      · by_cases h6 : n = 6
        · subst h6; rw [d]; rfl
        · rw [decide_eq_false h0, decide_eq_false h3, decide_eq_false h6]; exact Bool.and_false _
/-! FORMS of the SETS of a way: both sides alike -/
set_option maxRecDepth 8000
theorem dg_eq : ∀ a b c : Bool, (((orl [(a, 31), (b, 32), (c, 33)]).toUInt64 >>> ((31 : Int32).toInt64.toUInt64 &&& Int64.toUInt64 63)).toInt64) <<< ((11 : Int32).toInt64 &&& 63) = (lb a 11 ||| lb b 12) ||| lb c 13 := by decide +kernel
theorem dg_cn : ∀ a b c : Bool, xBc (orl [(a, 31), (b, 32), (c, 33)]) = ((0 + nB a) + nB b) + nB c := by decide +kernel
theorem wd_cn : ∀ a b c d : Bool, xBc (orl [(a, 27), (b, 28), (c, 29), (d, 30)]) = (((0 + nB a) + nB b) + nB c) + nB d := by decide +kernel
theorem dg_p : ∀ p, p < 34 → xHd 15032385536 (nI p) = xDr (nI p) := by decide +kernel
theorem wd_p : ∀ p, p < 34 → xHd 2013265920 (nI p) = (!(decide (nI p ≤ 26)) && (!(decide (31 ≤ nI p)))) := by decide +kernel
theorem en_p : ∀ p, p < 34 → xHd 17113154305 (nI p) = xEn (nI p) := by decide +kernel
theorem te_p : ∀ p, p < 34 → xHd 67502849 (nI p) = xTe (nI p) := by decide +kernel
theorem ho_p : ∀ p, p < 34 → xHd 17045651456 (nI p) = xHo (nI p) := by decide +kernel
theorem ek_e : ∀ a, a < 4 → ∀ k, k < 34 → (a = 0 → k < 27 ∧ k % 9 < 7) → (!(decide ((lg_cmp (((bif decide (nI a = 0) then (7 : Int64) else 1) <<< ((nI k).toInt64 &&& 63)) &&& 17113154305) 0) = 0))) = (xEn (nI k) || (decide (nI a = 0) && xEn (nI k + 2))) := by decide +kernel
theorem ek_t : ∀ a, a < 4 → ∀ k, k < 34 → (a = 0 → k < 27 ∧ k % 9 < 7) → (!(decide ((lg_cmp (((bif decide (nI a = 0) then (7 : Int64) else 1) <<< ((nI k).toInt64 &&& 63)) &&& 67502849) 0) = 0))) = (xTe (nI k) || (decide (nI a = 0) && xTe (nI k + 2))) := by decide +kernel
theorem ho_n : ∀ k, k < 34 → xHo (nI k) = decide (27 ≤ k) := by decide +kernel
theorem mHO : ∀ n, n < 64 → (17045651456 : Int64).toBitVec.getLsbD n = (decide (27 ≤ n) && decide (n < 34)) := by decide +kernel
theorem WY.T {q : Nat} {p : Nat} {co : Nat} {s : Nat → Nat} {l : Nat → Nat} (h : WY q p co s l) (κM : zM) (n : Nat) (c : Int32) (hc : c = nI n) (hn : n < 64) : xT (yM κM s l (nI p) (nI co)) c = (tB s l 4).toBitVec.getLsbD n := by subst hc; exact h.aT κM n hn
theorem WY.R {q : Nat} {p : Nat} {co : Nat} {s : Nat → Nat} {l : Nat → Nat} (h : WY q p co s l) (κM : zM) (n : Nat) (c : Int32) (hc : c = nI n) (hn : n < 64) : xR (yM κM s l (nI p) (nI co)) c = (rB s l 4).toBitVec.getLsbD n := by subst hc; exact h.aR κM n hn
/-- RUNS of all suits, THREES of all suits -/
theorem WY.e17 {q : Nat} {p : Nat} {co : Nat} {s : Nat → Nat} {l : Nat → Nat} (h : WY q p co s l) : (!(decide ((lg_cmp ((((rB s l 4) &&& (((rB s l 4).toUInt64 >>> ((9 : Int32).toInt64.toUInt64 &&& Int64.toUInt64 63)).toInt64)) &&& (((rB s l 4).toUInt64 >>> ((18 : Int32).toInt64.toUInt64 &&& Int64.toUInt64 63)).toInt64)) &&& 511) 0) = 0))) = ((((((((rB s l 4).toBitVec.getLsbD 0 && ((rB s l 4).toBitVec.getLsbD 9 && (rB s l 4).toBitVec.getLsbD 18)) || ((rB s l 4).toBitVec.getLsbD 1 && ((rB s l 4).toBitVec.getLsbD 10 && (rB s l 4).toBitVec.getLsbD 19))) || ((rB s l 4).toBitVec.getLsbD 2 && ((rB s l 4).toBitVec.getLsbD 11 && (rB s l 4).toBitVec.getLsbD 20))) || ((rB s l 4).toBitVec.getLsbD 3 && ((rB s l 4).toBitVec.getLsbD 12 && (rB s l 4).toBitVec.getLsbD 21))) || ((rB s l 4).toBitVec.getLsbD 4 && ((rB s l 4).toBitVec.getLsbD 13 && (rB s l 4).toBitVec.getLsbD 22))) || ((rB s l 4).toBitVec.getLsbD 5 && ((rB s l 4).toBitVec.getLsbD 14 && (rB s l 4).toBitVec.getLsbD 23))) || ((rB s l 4).toBitVec.getLsbD 6 && ((rB s l 4).toBitVec.getLsbD 15 && (rB s l 4).toBitVec.getLsbD 24))) := by
  rw [Bool.eq_iff_iff, all3]
  have h7 := h.r78 7 (by unfold rs; omega)
  have h8 := h.r78 8 (by unfold rs; omega)
  generalize (rB s l 4).toBitVec = b at h7 h8 ⊢
  simp only [Bool.or_eq_true, Bool.and_eq_true]
  constructor
  · rintro ⟨n, hn, h1, h2, h3⟩
    have : n = 0 ∨ n = 1 ∨ n = 2 ∨ n = 3 ∨ n = 4 ∨ n = 5 ∨ n = 6 ∨ n = 7 ∨ n = 8 := by omega
    rcases this with rfl | rfl | rfl | rfl | rfl | rfl | rfl | rfl | rfl
    · exact Or.inl (Or.inl (Or.inl (Or.inl (Or.inl (Or.inl ⟨h1, h2, h3⟩)))))
    · exact Or.inl (Or.inl (Or.inl (Or.inl (Or.inl (Or.inr ⟨h1, h2, h3⟩)))))
    · exact Or.inl (Or.inl (Or.inl (Or.inl (Or.inr ⟨h1, h2, h3⟩))))
    · exact Or.inl (Or.inl (Or.inl (Or.inr ⟨h1, h2, h3⟩)))
    · exact Or.inl (Or.inl (Or.inr ⟨h1, h2, h3⟩))
    · exact Or.inl (Or.inr ⟨h1, h2, h3⟩)
    · exact Or.inr ⟨h1, h2, h3⟩
    · rw [h7] at h1; exact absurd h1 (by decide)
    · rw [h8] at h1; exact absurd h1 (by decide)
  · rintro ((((((z | z) | z) | z) | z) | z) | z)
    · exact ⟨0, by omega, z⟩
    · exact ⟨1, by omega, z⟩
    · exact ⟨2, by omega, z⟩
    · exact ⟨3, by omega, z⟩
    · exact ⟨4, by omega, z⟩
    · exact ⟨5, by omega, z⟩
    · exact ⟨6, by omega, z⟩
theorem e22 (x : Int64) : (!(decide ((lg_cmp (((x &&& ((x.toUInt64 >>> ((9 : Int32).toInt64.toUInt64 &&& Int64.toUInt64 63)).toInt64)) &&& ((x.toUInt64 >>> ((18 : Int32).toInt64.toUInt64 &&& Int64.toUInt64 63)).toInt64)) &&& 511) 0) = 0))) = (((((((((x.toBitVec.getLsbD 0 && (x.toBitVec.getLsbD 9 && x.toBitVec.getLsbD 18)) || (x.toBitVec.getLsbD 1 && (x.toBitVec.getLsbD 10 && x.toBitVec.getLsbD 19))) || (x.toBitVec.getLsbD 2 && (x.toBitVec.getLsbD 11 && x.toBitVec.getLsbD 20))) || (x.toBitVec.getLsbD 3 && (x.toBitVec.getLsbD 12 && x.toBitVec.getLsbD 21))) || (x.toBitVec.getLsbD 4 && (x.toBitVec.getLsbD 13 && x.toBitVec.getLsbD 22))) || (x.toBitVec.getLsbD 5 && (x.toBitVec.getLsbD 14 && x.toBitVec.getLsbD 23))) || (x.toBitVec.getLsbD 6 && (x.toBitVec.getLsbD 15 && x.toBitVec.getLsbD 24))) || (x.toBitVec.getLsbD 7 && (x.toBitVec.getLsbD 16 && x.toBitVec.getLsbD 25))) || (x.toBitVec.getLsbD 8 && (x.toBitVec.getLsbD 17 && x.toBitVec.getLsbD 26))) := by
  rw [Bool.eq_iff_iff, all3]
  generalize x.toBitVec = b
  simp only [Bool.or_eq_true, Bool.and_eq_true]
  constructor
  · rintro ⟨n, hn, h1, h2, h3⟩
    have : n = 0 ∨ n = 1 ∨ n = 2 ∨ n = 3 ∨ n = 4 ∨ n = 5 ∨ n = 6 ∨ n = 7 ∨ n = 8 := by omega
    rcases this with rfl | rfl | rfl | rfl | rfl | rfl | rfl | rfl | rfl
    · exact Or.inl (Or.inl (Or.inl (Or.inl (Or.inl (Or.inl (Or.inl (Or.inl ⟨h1, h2, h3⟩)))))))
    · exact Or.inl (Or.inl (Or.inl (Or.inl (Or.inl (Or.inl (Or.inl (Or.inr ⟨h1, h2, h3⟩)))))))
    · exact Or.inl (Or.inl (Or.inl (Or.inl (Or.inl (Or.inl (Or.inr ⟨h1, h2, h3⟩))))))
    · exact Or.inl (Or.inl (Or.inl (Or.inl (Or.inl (Or.inr ⟨h1, h2, h3⟩)))))
    · exact Or.inl (Or.inl (Or.inl (Or.inl (Or.inr ⟨h1, h2, h3⟩))))
    · exact Or.inl (Or.inl (Or.inl (Or.inr ⟨h1, h2, h3⟩)))
    · exact Or.inl (Or.inl (Or.inr ⟨h1, h2, h3⟩))
    · exact Or.inl (Or.inr ⟨h1, h2, h3⟩)
    · exact Or.inr ⟨h1, h2, h3⟩
  · rintro ((((((((z | z) | z) | z) | z) | z) | z) | z) | z)
    · exact ⟨0, by omega, z⟩
    · exact ⟨1, by omega, z⟩
    · exact ⟨2, by omega, z⟩
    · exact ⟨3, by omega, z⟩
    · exact ⟨4, by omega, z⟩
    · exact ⟨5, by omega, z⟩
    · exact ⟨6, by omega, z⟩
    · exact ⟨7, by omega, z⟩
    · exact ⟨8, by omega, z⟩
/-- honours among the SETS -/
theorem WY.hon {q : Nat} {p : Nat} {co : Nat} {s : Nat → Nat} {l : Nat → Nat} (h : WY q p co s l) : (xHo (nI p) || (!(decide ((lg_cmp ((tB s l 4) &&& 17045651456) 0) = 0)))) = ((((xHo (nI p) || xHo (nI (l 0))) || xHo (nI (l 1))) || xHo (nI (l 2))) || xHo (nI (l 3))) := by
  have e : (!(decide ((lg_cmp ((tB s l 4) &&& 17045651456) 0) = 0))) = (((xHo (nI (l 0)) || xHo (nI (l 1))) || xHo (nI (l 2))) || xHo (nI (l 3))) := by
    rw [Bool.eq_iff_iff, ne0_bit, ho_n _ (h.sl 0 (by omega)).2.1, ho_n _ (h.sl 1 (by omega)).2.1, ho_n _ (h.sl 2 (by omega)).2.1, ho_n _ (h.sl 3 (by omega)).2.1]
    simp only [Bool.or_eq_true, decide_eq_true_iff]
    rw [← ex4 (P := fun j => 27 ≤ l j)]
    constructor
    · rintro ⟨n, hn, z⟩
      rw [Int64.toBitVec_and, BitVec.getLsbD_and, mHO n hn, Bool.and_eq_true, Bool.and_eq_true, decide_eq_true_iff, tB_bit s l n 4 (fun j hj => (h.sl j hj).2.1)] at z
      obtain ⟨⟨j, hj, _, e⟩, h1, _⟩ := z
      exact ⟨j, hj, by omega⟩
    · rintro ⟨j, hj, z⟩
      have b := h.sl j hj
      refine ⟨l j, by omega, ?_⟩
      rw [Int64.toBitVec_and, BitVec.getLsbD_and, mHO (l j) (by omega), Bool.and_eq_true, Bool.and_eq_true, decide_eq_true_iff, decide_eq_true_iff, tB_bit s l (l j) 4 (fun j hj => (h.sl j hj).2.1)]
      exact ⟨⟨j, hj, fun z0 => by have := b.2.2 z0; unfold rs at this; omega, rfl⟩, z, b.2.1⟩
  rw [e]
  generalize xHo (nI p) = a
  generalize xHo (nI (l 0)) = b
  generalize xHo (nI (l 1)) = c
  generalize xHo (nI (l 2)) = d
  generalize xHo (nI (l 3)) = f
  revert a b c d f
  decide
theorem WY.ru {q : Nat} {p : Nat} {co : Nat} {s : Nat → Nat} {l : Nat → Nat} (h : WY q p co s l) (κM : zM) : (!(decide (w0_1 (yM κM s l (nI p) (nI co)) q s l ≤ 0))) = (!(decide (lg_cmp (rB s l 4) 0 = 0))) := by
  rw [h.r0 κM]
  congr 1
  show decide ((((0 + nB (decide (nI (s 0) = 0))) + nB (decide (nI (s 1) = 0))) + nB (decide (nI (s 2) = 0))) + nB (decide (nI (s 3) = 0)) ≤ 0) = decide ((((0 + nB (decide (nI (s 0) = 0))) + nB (decide (nI (s 1) = 0))) + nB (decide (nI (s 2) = 0))) + nB (decide (nI (s 3) = 0)) = 0)
  generalize decide (nI (s 0) = 0) = a
  generalize decide (nI (s 1) = 0) = b
  generalize decide (nI (s 2) = 0) = c
  generalize decide (nI (s 3) = 0) = d
  revert a b c d
  decide +kernel
theorem WY.EF {q : Nat} {p : Nat} {co : Nat} {s : Nat → Nat} {l : Nat → Nat} (h : WY q p co s l) (κC : zM) (κM : zM) : xEF (cM κC s l (nI p)) = lb (xE1 (yM κM s l (nI p) (nI co)) (w0_1 (yM κM s l (nI p) (nI co)) q s l)) 23 ||| lb (xE2 (yM κM s l (nI p) (nI co)) (w0_1 (yM κM s l (nI p) (nI co)) q s l)) 27 := by
  have b : ∀ j, j < 4 → s j < 4 ∧ l j < 34 ∧ (s j = 0 → l j < 27 ∧ l j % 9 < 7) := fun j hj => ⟨by have := (h.sl j hj).1; omega, (h.sl j hj).2.1, fun z => by have := (h.sl j hj).2.2 z; unfold rs at this; omega⟩
  have k0 := ek_e _ (b 0 (by omega)).1 _ (b 0 (by omega)).2.1 (b 0 (by omega)).2.2
  have k1 := ek_e _ (b 1 (by omega)).1 _ (b 1 (by omega)).2.1 (b 1 (by omega)).2.2
  have k2 := ek_e _ (b 2 (by omega)).1 _ (b 2 (by omega)).2.1 (b 2 (by omega)).2.2
  have k3 := ek_e _ (b 3 (by omega)).1 _ (b 3 (by omega)).2.1 (b 3 (by omega)).2.2
  have t0 := ek_t _ (b 0 (by omega)).1 _ (b 0 (by omega)).2.1 (b 0 (by omega)).2.2
  have t1 := ek_t _ (b 1 (by omega)).1 _ (b 1 (by omega)).2.1 (b 1 (by omega)).2.2
  have t2 := ek_t _ (b 2 (by omega)).1 _ (b 2 (by omega)).2.1 (b 2 (by omega)).2.2
  have t3 := ek_t _ (b 3 (by omega)).1 _ (b 3 (by omega)).2.1 (b 3 (by omega)).2.2
  unfold xEF xE1 xE2
  rw [h.ru κM]
  show ((lb ((((((xHd 17113154305 (nI p)) && (!(decide ((lg_cmp (((bif decide (nI (s 0) = 0) then (7 : Int64) else 1) <<< ((nI (l 0)).toInt64 &&& 63)) &&& 17113154305) 0) = 0)))) && (!(decide ((lg_cmp (((bif decide (nI (s 1) = 0) then (7 : Int64) else 1) <<< ((nI (l 1)).toInt64 &&& 63)) &&& 17113154305) 0) = 0)))) && (!(decide ((lg_cmp (((bif decide (nI (s 2) = 0) then (7 : Int64) else 1) <<< ((nI (l 2)).toInt64 &&& 63)) &&& 17113154305) 0) = 0)))) && (!(decide ((lg_cmp (((bif decide (nI (s 3) = 0) then (7 : Int64) else 1) <<< ((nI (l 3)).toInt64 &&& 63)) &&& 17113154305) 0) = 0)))) && (((xHd 17045651456 (nI p)) || (!(decide ((lg_cmp ((tB s l 4) &&& 17045651456) 0) = 0)))) && (!(decide ((lg_cmp (rB s l 4) 0) = 0))))) 23) ||| (lb ((((((xHd 67502849 (nI p)) && (!(decide ((lg_cmp (((bif decide (nI (s 0) = 0) then (7 : Int64) else 1) <<< ((nI (l 0)).toInt64 &&& 63)) &&& 67502849) 0) = 0)))) && (!(decide ((lg_cmp (((bif decide (nI (s 1) = 0) then (7 : Int64) else 1) <<< ((nI (l 1)).toInt64 &&& 63)) &&& 67502849) 0) = 0)))) && (!(decide ((lg_cmp (((bif decide (nI (s 2) = 0) then (7 : Int64) else 1) <<< ((nI (l 2)).toInt64 &&& 63)) &&& 67502849) 0) = 0)))) && (!(decide ((lg_cmp (((bif decide (nI (s 3) = 0) then (7 : Int64) else 1) <<< ((nI (l 3)).toInt64 &&& 63)) &&& 67502849) 0) = 0)))) && (!(decide ((lg_cmp (rB s l 4) 0) = 0)))) 27)) = _
  rw [k0, k1, k2, k3, t0, t1, t2, t3, ho_p p h.p34, h.hon, en_p p h.p34, te_p p h.p34]
  generalize (!(decide ((lg_cmp (rB s l 4) 0) = 0))) = r
  congr 2
  exact congrArg _ (Bool.and_comm _ _)
/-! like RUNS, FORMS of SETS: both sides alike -/
set_option maxRecDepth 8000
theorem cn_t (b : Nat → Bool) (n : Nat) : cn b (n + 1) = cn b n + (b n).toNat := by
  show cn b n + (if b n = true then 1 else 0) = _
  cases b n <;> rfl
theorem sn_z : ∀ n, sn (fun _ => 0) n = 0 := by
  intro n
  induction n with
  | zero => rfl
  | succ n ih => show sn (fun _ => 0) n + 0 = 0; rw [ih]
theorem tw_step (s l : Nat → Nat) (m : Nat) (hl : s m = 0 → l m < 27) : sn (fun c => nr4 s l c (m + 1) / 2) 27 = sn (fun c => nr4 s l c m / 2) 27 + (if s m = 0 then nr4 s l (l m) m % 2 else 0) := by
  have st : ∀ c, nr4 s l c (m + 1) = nr4 s l c m + (decide (s m = 0 ∧ l m = c)).toNat := fun c => cn_t _ _
  by_cases h : s m = 0
  · rw [if_pos h]
    refine (sn_upd (f := fun c => nr4 s l c (m + 1) / 2) (g := fun c => nr4 s l c m / 2) (hl h) (fun k _ hk => ?_) ?_).symm
    · show nr4 s l k m / 2 = nr4 s l k (m + 1) / 2
      rw [st, decide_eq_false (fun z => hk z.2.symm)]; rfl
    · show nr4 s l (l m) m / 2 + nr4 s l (l m) m % 2 = nr4 s l (l m) (m + 1) / 2
      rw [st, decide_eq_true ⟨h, rfl⟩]
      show _ = (nr4 s l (l m) m + 1) / 2
      omega
  · rw [if_neg h, Nat.add_zero]
    refine sn_congr (f := fun c => nr4 s l c m / 2) (g := fun c => nr4 s l c (m + 1) / 2) (fun k _ => ?_)
    show nr4 s l k (m + 1) / 2 = nr4 s l k m / 2
    rw [st, decide_eq_false (fun z => h z.1)]; rfl
theorem lr_i : ∀ x10 x20 x21 x30 x31 x32 : Bool, ((0 + ((0 + nB x10) - (0 + nB x10) / 2 * 2)) + (((0 + nB x20) + nB x21) - ((0 + nB x20) + nB x21) / 2 * 2)) + ((((0 + nB x30) + nB x31) + nB x32) - (((0 + nB x30) + nB x31) + nB x32) / 2 * 2) = nI ((x10.toNat % 2 + (x20.toNat + x21.toNat) % 2) + (x30.toNat + x31.toNat + x32.toNat) % 2) := by decide +kernel
theorem tw_n (s l : Nat → Nat) (hl : ∀ j, j < 4 → s j = 0 → l j < 27) : twn s l 27 = ((decide (s 1 = 0) && (decide (s 0 = 0) && decide (l 1 = l 0))).toNat % 2 + ((decide (s 2 = 0) && (decide (s 0 = 0) && decide (l 2 = l 0))).toNat + (decide (s 2 = 0) && (decide (s 1 = 0) && decide (l 2 = l 1))).toNat) % 2) + ((decide (s 3 = 0) && (decide (s 0 = 0) && decide (l 3 = l 0))).toNat + (decide (s 3 = 0) && (decide (s 1 = 0) && decide (l 3 = l 1))).toNat + (decide (s 3 = 0) && (decide (s 2 = 0) && decide (l 3 = l 2))).toNat) % 2 := by
  have e1 := tw_step s l 0 (hl 0 (by omega))
  have e2 := tw_step s l 1 (hl 1 (by omega))
  have e3 := tw_step s l 2 (hl 2 (by omega))
  have e4 := tw_step s l 3 (hl 3 (by omega))
  have z0 : sn (fun c => nr4 s l c 0 / 2) 27 = 0 := (sn_congr (f := fun _ => 0) (g := fun c => nr4 s l c 0 / 2) (fun k _ => by show 0 / 2 = 0; rfl)).trans (sn_z 27)
  have st : ∀ c n, nr4 s l c (n + 1) = nr4 s l c n + (decide (s n = 0) && decide (l n = c)).toNat := fun c n => by
    refine (cn_t _ _).trans ?_
    show nr4 s l c n + (decide (s n = 0 ∧ l n = c)).toNat = _
    rw [Bool.decide_and]
  have n0 : ∀ c, nr4 s l c 0 = 0 := fun c => rfl
  have n1 : ∀ c, nr4 s l c 1 = (decide (s 0 = 0) && decide (l 0 = c)).toNat := fun c => by rw [st c 0, n0, Nat.zero_add]
  have n2 : ∀ c, nr4 s l c 2 = (decide (s 0 = 0) && decide (l 0 = c)).toNat + (decide (s 1 = 0) && decide (l 1 = c)).toNat := fun c => by rw [st c 1, n1]
  have n3 : ∀ c, nr4 s l c 3 = (decide (s 0 = 0) && decide (l 0 = c)).toNat + (decide (s 1 = 0) && decide (l 1 = c)).toNat + (decide (s 2 = 0) && decide (l 2 = c)).toNat := fun c => by rw [st c 2, n2]
  have cm : ∀ a b : Nat, decide (a = b) = decide (b = a) := fun a b => decide_eq_decide.mpr eq_comm
  show sn (fun c => nr4 s l c 4 / 2) 27 = _
  rw [e4, e3, e2, e1, z0, n0, n1, n2, n3]
  rw [cm (l 0) (l 1), cm (l 0) (l 2), cm (l 0) (l 3), cm (l 1) (l 2), cm (l 1) (l 3), cm (l 2) (l 3)]
  have i0 : (if s 0 = 0 then 0 % 2 else 0) = 0 := by split <;> rfl
  rw [i0]
  by_cases h1 : s 1 = 0 <;> by_cases h2 : s 2 = 0 <;> by_cases h3 : s 3 = 0 <;> simp [h1, h2, h3]
theorem WY.ll {q : Nat} {p : Nat} {co : Nat} {s : Nat → Nat} {l : Nat → Nat} (h : WY q p co s l) (i j : Nat) (hi : i < 4) (hj : j < 4) : decide (nI (l i) = nI (l j)) = decide (l i = l j) := decide_eq_decide.mpr (nI_eq (by have := (h.sl i hi).2.1; omega) (by have := (h.sl j hj).2.1; omega))
theorem WY.LR {q : Nat} {p : Nat} {co : Nat} {s : Nat → Nat} {l : Nat → Nat} (h : WY q p co s l) (κC : zM) : xLR (cM κC s l (nI p)) = lb (decide (nI (twn s l 27) = 1)) 10 ||| lb (decide (nI (twn s l 27) = 2)) 28 := by
  show ((lb (decide ((((0 + ((0 + (nB ((decide ((nI (s 1)) = 0)) && ((decide ((nI (s 0)) = 0)) && (decide ((nI (l 1)) = (nI (l 0)))))))) - (0 + (nB ((decide ((nI (s 1)) = 0)) && ((decide ((nI (s 0)) = 0)) && (decide ((nI (l 1)) = (nI (l 0)))))))) / 2 * 2)) + (((0 + (nB ((decide ((nI (s 2)) = 0)) && ((decide ((nI (s 0)) = 0)) && (decide ((nI (l 2)) = (nI (l 0)))))))) + (nB ((decide ((nI (s 2)) = 0)) && ((decide ((nI (s 1)) = 0)) && (decide ((nI (l 2)) = (nI (l 1)))))))) - ((0 + (nB ((decide ((nI (s 2)) = 0)) && ((decide ((nI (s 0)) = 0)) && (decide ((nI (l 2)) = (nI (l 0)))))))) + (nB ((decide ((nI (s 2)) = 0)) && ((decide ((nI (s 1)) = 0)) && (decide ((nI (l 2)) = (nI (l 1)))))))) / 2 * 2)) + ((((0 + (nB ((decide ((nI (s 3)) = 0)) && ((decide ((nI (s 0)) = 0)) && (decide ((nI (l 3)) = (nI (l 0)))))))) + (nB ((decide ((nI (s 3)) = 0)) && ((decide ((nI (s 1)) = 0)) && (decide ((nI (l 3)) = (nI (l 1)))))))) + (nB ((decide ((nI (s 3)) = 0)) && ((decide ((nI (s 2)) = 0)) && (decide ((nI (l 3)) = (nI (l 2)))))))) - (((0 + (nB ((decide ((nI (s 3)) = 0)) && ((decide ((nI (s 0)) = 0)) && (decide ((nI (l 3)) = (nI (l 0)))))))) + (nB ((decide ((nI (s 3)) = 0)) && ((decide ((nI (s 1)) = 0)) && (decide ((nI (l 3)) = (nI (l 1)))))))) + (nB ((decide ((nI (s 3)) = 0)) && ((decide ((nI (s 2)) = 0)) && (decide ((nI (l 3)) = (nI (l 2)))))))) / 2 * 2)) = 1)) 10) ||| (lb (decide ((((0 + ((0 + (nB ((decide ((nI (s 1)) = 0)) && ((decide ((nI (s 0)) = 0)) && (decide ((nI (l 1)) = (nI (l 0)))))))) - (0 + (nB ((decide ((nI (s 1)) = 0)) && ((decide ((nI (s 0)) = 0)) && (decide ((nI (l 1)) = (nI (l 0)))))))) / 2 * 2)) + (((0 + (nB ((decide ((nI (s 2)) = 0)) && ((decide ((nI (s 0)) = 0)) && (decide ((nI (l 2)) = (nI (l 0)))))))) + (nB ((decide ((nI (s 2)) = 0)) && ((decide ((nI (s 1)) = 0)) && (decide ((nI (l 2)) = (nI (l 1)))))))) - ((0 + (nB ((decide ((nI (s 2)) = 0)) && ((decide ((nI (s 0)) = 0)) && (decide ((nI (l 2)) = (nI (l 0)))))))) + (nB ((decide ((nI (s 2)) = 0)) && ((decide ((nI (s 1)) = 0)) && (decide ((nI (l 2)) = (nI (l 1)))))))) / 2 * 2)) + ((((0 + (nB ((decide ((nI (s 3)) = 0)) && ((decide ((nI (s 0)) = 0)) && (decide ((nI (l 3)) = (nI (l 0)))))))) + (nB ((decide ((nI (s 3)) = 0)) && ((decide ((nI (s 1)) = 0)) && (decide ((nI (l 3)) = (nI (l 1)))))))) + (nB ((decide ((nI (s 3)) = 0)) && ((decide ((nI (s 2)) = 0)) && (decide ((nI (l 3)) = (nI (l 2)))))))) - (((0 + (nB ((decide ((nI (s 3)) = 0)) && ((decide ((nI (s 0)) = 0)) && (decide ((nI (l 3)) = (nI (l 0)))))))) + (nB ((decide ((nI (s 3)) = 0)) && ((decide ((nI (s 1)) = 0)) && (decide ((nI (l 3)) = (nI (l 1)))))))) + (nB ((decide ((nI (s 3)) = 0)) && ((decide ((nI (s 2)) = 0)) && (decide ((nI (l 3)) = (nI (l 2)))))))) / 2 * 2)) = 2)) 28)) = _
  rw [h.n0 0 (by omega), h.n0 1 (by omega), h.n0 2 (by omega), h.n0 3 (by omega), h.ll 1 0 (by omega) (by omega), h.ll 2 0 (by omega) (by omega), h.ll 2 1 (by omega) (by omega), h.ll 3 0 (by omega) (by omega), h.ll 3 1 (by omega) (by omega), h.ll 3 2 (by omega) (by omega)]
  rw [tw_n s l (fun j hj z => ((h.sl j hj).2.2 z).1), ← lr_i]
theorem WY.SF {q p co : Nat} {s l : Nat → Nat} (h : WY q p co s l) (κC κM : zM) (a b : Nat) (ha : a < 34) (hb : b < 34) (e9 : κC.1 14 9 = nI a) (e10 : κC.1 14 10 = nI b) : xSF (cM κC s l (nI p)) = (((((((((((((((lb (xT (yM κM s l (nI p) (nI co)) 31) 11) ||| (lb (xT (yM κM s l (nI p) (nI co)) 32) 12)) ||| (lb (xT (yM κM s l (nI p) (nI co)) 33) 13)) ||| (lb (xT (yM κM s l (nI p) (nI co)) (nI a)) 14)) ||| (lb (xT (yM κM s l (nI p) (nI co)) (nI b)) 15)) ||| (lb ((((((((xR (yM κM s l (nI p) (nI co)) 0 && (xR (yM κM s l (nI p) (nI co)) 9 && xR (yM κM s l (nI p) (nI co)) 18)) || (xR (yM κM s l (nI p) (nI co)) 1 && (xR (yM κM s l (nI p) (nI co)) 10 && xR (yM κM s l (nI p) (nI co)) 19))) || (xR (yM κM s l (nI p) (nI co)) 2 && (xR (yM κM s l (nI p) (nI co)) 11 && xR (yM κM s l (nI p) (nI co)) 20))) || (xR (yM κM s l (nI p) (nI co)) 3 && (xR (yM κM s l (nI p) (nI co)) 12 && xR (yM κM s l (nI p) (nI co)) 21))) || (xR (yM κM s l (nI p) (nI co)) 4 && (xR (yM κM s l (nI p) (nI co)) 13 && xR (yM κM s l (nI p) (nI co)) 22))) || (xR (yM κM s l (nI p) (nI co)) 5 && (xR (yM κM s l (nI p) (nI co)) 14 && xR (yM κM s l (nI p) (nI co)) 23))) || (xR (yM κM s l (nI p) (nI co)) 6 && (xR (yM κM s l (nI p) (nI co)) 15 && xR (yM κM s l (nI p) (nI co)) 24)))) 17)) ||| (lb (((xR (yM κM s l (nI p) (nI co)) 0 && (xR (yM κM s l (nI p) (nI co)) 3 && xR (yM κM s l (nI p) (nI co)) 6)) || (xR (yM κM s l (nI p) (nI co)) 9 && (xR (yM κM s l (nI p) (nI co)) 12 && xR (yM κM s l (nI p) (nI co)) 15))) || (xR (yM κM s l (nI p) (nI co)) 18 && (xR (yM κM s l (nI p) (nI co)) 21 && xR (yM κM s l (nI p) (nI co)) 24))) 18)) ||| (lb (decide (w0_1 (yM κM s l (nI p) (nI co)) q s l = 0)) 19)) ||| (lb (decide (w0_3 (yM κM s l (nI p) (nI co)) q s l = 3)) 21)) ||| (lb ((((((((((xT (yM κM s l (nI p) (nI co)) 0 && (xT (yM κM s l (nI p) (nI co)) 9 && xT (yM κM s l (nI p) (nI co)) 18)) || (xT (yM κM s l (nI p) (nI co)) 1 && (xT (yM κM s l (nI p) (nI co)) 10 && xT (yM κM s l (nI p) (nI co)) 19))) || (xT (yM κM s l (nI p) (nI co)) 2 && (xT (yM κM s l (nI p) (nI co)) 11 && xT (yM κM s l (nI p) (nI co)) 20))) || (xT (yM κM s l (nI p) (nI co)) 3 && (xT (yM κM s l (nI p) (nI co)) 12 && xT (yM κM s l (nI p) (nI co)) 21))) || (xT (yM κM s l (nI p) (nI co)) 4 && (xT (yM κM s l (nI p) (nI co)) 13 && xT (yM κM s l (nI p) (nI co)) 22))) || (xT (yM κM s l (nI p) (nI co)) 5 && (xT (yM κM s l (nI p) (nI co)) 14 && xT (yM κM s l (nI p) (nI co)) 23))) || (xT (yM κM s l (nI p) (nI co)) 6 && (xT (yM κM s l (nI p) (nI co)) 15 && xT (yM κM s l (nI p) (nI co)) 24))) || (xT (yM κM s l (nI p) (nI co)) 7 && (xT (yM κM s l (nI p) (nI co)) 16 && xT (yM κM s l (nI p) (nI co)) 25))) || (xT (yM κM s l (nI p) (nI co)) 8 && (xT (yM κM s l (nI p) (nI co)) 17 && xT (yM κM s l (nI p) (nI co)) 26)))) 22)) ||| (lb ((decide ((((0 + (nB (xT (yM κM s l (nI p) (nI co)) 31))) + (nB (xT (yM κM s l (nI p) (nI co)) 32))) + (nB (xT (yM κM s l (nI p) (nI co)) 33))) = 2)) && (xDr (nI p))) 25)) ||| (lb (decide ((((0 + (nB (xT (yM κM s l (nI p) (nI co)) 31))) + (nB (xT (yM κM s l (nI p) (nI co)) 32))) + (nB (xT (yM κM s l (nI p) (nI co)) 33))) = 3)) 34)) ||| (lb ((decide (((((0 + (nB (xT (yM κM s l (nI p) (nI co)) 27))) + (nB (xT (yM κM s l (nI p) (nI co)) 28))) + (nB (xT (yM κM s l (nI p) (nI co)) 29))) + (nB (xT (yM κM s l (nI p) (nI co)) 30))) = 3)) && (!(decide (nI p ≤ 26)) && (!(decide (31 ≤ nI p))))) 35)) ||| (lb (decide (((((0 + (nB (xT (yM κM s l (nI p) (nI co)) 27))) + (nB (xT (yM κM s l (nI p) (nI co)) 28))) + (nB (xT (yM κM s l (nI p) (nI co)) 29))) + (nB (xT (yM κM s l (nI p) (nI co)) 30))) = 4)) 36)) ||| (lb (decide (w0_3 (yM κM s l (nI p) (nI co)) q s l = 4)) 41)) := by
  have e : xSF (cM κC s l (nI p)) = (((((((((((((((((tB s l 4) &&& 15032385536).toUInt64 >>> ((31 : Int32).toInt64.toUInt64 &&& Int64.toUInt64 63)).toInt64) <<< ((11 : Int32).toInt64 &&& 63)) ||| (lb (xHd (tB s l 4) (nI a)) 14)) ||| (lb (xHd (tB s l 4) (nI b)) 15)) ||| (lb (!(decide ((lg_cmp ((((rB s l 4) &&& (((rB s l 4).toUInt64 >>> ((9 : Int32).toInt64.toUInt64 &&& Int64.toUInt64 63)).toInt64)) &&& (((rB s l 4).toUInt64 >>> ((18 : Int32).toInt64.toUInt64 &&& Int64.toUInt64 63)).toInt64)) &&& 511) 0) = 0))) 17)) ||| (lb (((decide ((lg_cmp ((((rB s l 4).toUInt64 >>> ((0 : Int32).toInt64.toUInt64 &&& Int64.toUInt64 63)).toInt64) &&& 73) 73) = 0)) || (decide ((lg_cmp ((((rB s l 4).toUInt64 >>> ((9 : Int32).toInt64.toUInt64 &&& Int64.toUInt64 63)).toInt64) &&& 73) 73) = 0))) || (decide ((lg_cmp ((((rB s l 4).toUInt64 >>> ((18 : Int32).toInt64.toUInt64 &&& Int64.toUInt64 63)).toInt64) &&& 73) 73) = 0))) 18)) ||| (lb (decide ((lg_cmp (rB s l 4) 0) = 0)) 19)) ||| (lb (decide (((((0 + (nB ((decide ((nI (s 0)) = 2)) || (decide ((nI (s 0)) = 3))))) + (nB ((decide ((nI (s 1)) = 2)) || (decide ((nI (s 1)) = 3))))) + (nB ((decide ((nI (s 2)) = 2)) || (decide ((nI (s 2)) = 3))))) + (nB ((decide ((nI (s 3)) = 2)) || (decide ((nI (s 3)) = 3))))) = 3)) 21)) ||| (lb (!(decide ((lg_cmp ((((tB s l 4) &&& (((tB s l 4).toUInt64 >>> ((9 : Int32).toInt64.toUInt64 &&& Int64.toUInt64 63)).toInt64)) &&& (((tB s l 4).toUInt64 >>> ((18 : Int32).toInt64.toUInt64 &&& Int64.toUInt64 63)).toInt64)) &&& 511) 0) = 0))) 22)) ||| (lb ((decide ((xBc ((tB s l 4) &&& 15032385536)) = 2)) && (xHd 15032385536 (nI p))) 25)) ||| (lb (decide ((xBc ((tB s l 4) &&& 15032385536)) = 3)) 34)) ||| (lb ((decide ((xBc ((tB s l 4) &&& 2013265920)) = 3)) && (xHd 2013265920 (nI p))) 35)) ||| (lb (decide ((xBc ((tB s l 4) &&& 2013265920)) = 4)) 36)) ||| (lb (decide (((((0 + (nB ((decide ((nI (s 0)) = 2)) || (decide ((nI (s 0)) = 3))))) + (nB ((decide ((nI (s 1)) = 2)) || (decide ((nI (s 1)) = 3))))) + (nB ((decide ((nI (s 2)) = 2)) || (decide ((nI (s 2)) = 3))))) + (nB ((decide ((nI (s 3)) = 2)) || (decide ((nI (s 3)) = 3))))) = 4)) 41)) := by
    rw [← e9, ← e10]
    rfl
  rw [e]
  have m1 : tB s l 4 &&& 15032385536 = orl [((tB s l 4).toBitVec.getLsbD 31, 31), ((tB s l 4).toBitVec.getLsbD 32, 32), ((tB s l 4).toBitVec.getLsbD 33, 33)] := mask_orl (tB s l 4) 15032385536 [31, 32, 33] (by decide) (by decide +kernel)
  have m2 : tB s l 4 &&& 2013265920 = orl [((tB s l 4).toBitVec.getLsbD 27, 27), ((tB s l 4).toBitVec.getLsbD 28, 28), ((tB s l 4).toBitVec.getLsbD 29, 29), ((tB s l 4).toBitVec.getLsbD 30, 30)] := mask_orl (tB s l 4) 2013265920 [27, 28, 29, 30] (by decide) (by decide +kernel)
  rw [m1, m2, dg_eq, dg_cn, wd_cn, xHd_bit _ a ha, xHd_bit _ b hb, h.e17, e22 (tB s l 4), is73 (rB s l 4) 0 0 rfl (by decide), is73 (rB s l 4) 9 9 rfl (by decide), is73 (rB s l 4) 18 18 rfl (by decide), h.r0 κM, dg_p p h.p34, wd_p p h.p34]
  rw [h.T κM 0 0 rfl (by decide), h.T κM 1 1 rfl (by decide), h.T κM 2 2 rfl (by decide), h.T κM 3 3 rfl (by decide), h.T κM 4 4 rfl (by decide), h.T κM 5 5 rfl (by decide), h.T κM 6 6 rfl (by decide), h.T κM 7 7 rfl (by decide), h.T κM 8 8 rfl (by decide), h.T κM 9 9 rfl (by decide), h.T κM 10 10 rfl (by decide), h.T κM 11 11 rfl (by decide), h.T κM 12 12 rfl (by decide), h.T κM 13 13 rfl (by decide), h.T κM 14 14 rfl (by decide), h.T κM 15 15 rfl (by decide), h.T κM 16 16 rfl (by decide), h.T κM 17 17 rfl (by decide), h.T κM 18 18 rfl (by decide), h.T κM 19 19 rfl (by decide), h.T κM 20 20 rfl (by decide), h.T κM 21 21 rfl (by decide), h.T κM 22 22 rfl (by decide), h.T κM 23 23 rfl (by decide), h.T κM 24 24 rfl (by decide), h.T κM 25 25 rfl (by decide), h.T κM 26 26 rfl (by decide), h.T κM 27 27 rfl (by decide), h.T κM 28 28 rfl (by decide), h.T κM 29 29 rfl (by decide), h.T κM 30 30 rfl (by decide), h.T κM 31 31 rfl (by decide), h.T κM 32 32 rfl (by decide), h.T κM 33 33 rfl (by decide), h.T κM a (nI a) rfl (by omega)]
  rw [h.T κM b (nI b) rfl (by omega)]
  rw [h.R κM 0 0 rfl (by decide), h.R κM 1 1 rfl (by decide), h.R κM 2 2 rfl (by decide), h.R κM 3 3 rfl (by decide), h.R κM 4 4 rfl (by decide), h.R κM 5 5 rfl (by decide), h.R κM 6 6 rfl (by decide), h.R κM 9 9 rfl (by decide), h.R κM 10 10 rfl (by decide), h.R κM 11 11 rfl (by decide), h.R κM 12 12 rfl (by decide), h.R κM 13 13 rfl (by decide), h.R κM 14 14 rfl (by decide), h.R κM 15 15 rfl (by decide), h.R κM 18 18 rfl (by decide), h.R κM 19 19 rfl (by decide), h.R κM 20 20 rfl (by decide), h.R κM 21 21 rfl (by decide), h.R κM 22 22 rfl (by decide), h.R κM 23 23 rfl (by decide), h.R κM 24 24 rfl (by decide)]
  rfl
