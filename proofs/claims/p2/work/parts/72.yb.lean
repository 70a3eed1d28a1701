/-! the class: a way is filled in -/
set_option maxRecDepth 8000
def tH (ch : Int64) (k : Nat) : Nat := if xHd ch (nI k) = true then 1 else 0
def PF (v t r : Nat → Nat) (i : Nat) : Prop := (∀ k, r k ≠ 0 → rs k ∧ k < i) ∧ ∀ k, k < i → v k = 3 * t k + r k + sh1 r k + sh2 r k
theorem sh_eq {r r' : Nat → Nat} {i : Nat} (h : ∀ k, k < i → r' k = r k) : sh1 r' i = sh1 r i ∧ sh2 r' i = sh2 r i := by
  rcases i with _ | _ | i
  · exact ⟨rfl, rfl⟩
  · exact ⟨h 0 (by omega), rfl⟩
  · exact ⟨h (i + 1) (by omega), h i (by omega)⟩
theorem PF_un {v t r r' : Nat → Nat} {i : Nat} (h : PF v t r i) (h' : ∀ k, k < 34 → v k = 3 * t k + r' k + sh1 r' k + sh2 r' k) (hi : i ≤ 34) : ∀ k, k ≤ i → ∀ j, j < k → r' j = r j := by
  intro k
  induction k with
  | zero => intro _ j hj; omega
  | succ k ih =>
    intro hk j hj
    by_cases e : j = k
    · subst e
      have a := sh_eq (ih (by omega))
      have b := h.2 j (by omega)
      have c := h' j (by omega)
      omega
    · exact ih (by omega) j (by omega)
theorem flt_snoc (t r : Nat → Nat) : ∀ n i, flt t r (n + 1) i = flt t r n i ++ (List.replicate (t (i + n)) (1, i + n) ++ List.replicate (r (i + n)) (0, i + n)) := by
  intro n
  induction n with
  | zero => intro i; show List.replicate (t i) (1, i) ++ (List.replicate (r i) (0, i) ++ []) = [] ++ _; rw [List.append_nil, List.nil_append, Nat.add_zero]
  | succ n ih =>
    intro i
    show List.replicate (t i) (1, i) ++ (List.replicate (r i) (0, i) ++ flt t r (n + 1) (i + 1)) = (List.replicate (t i) (1, i) ++ (List.replicate (r i) (0, i) ++ flt t r n (i + 1))) ++ _
    rw [ih (i + 1), show i + 1 + n = i + (n + 1) by omega, List.append_assoc, List.append_assoc]
theorem flt_len (t r : Nat → Nat) : ∀ n, (flt t r n 0).length = sn (fun k => t k + r k) n := by
  intro n
  induction n with
  | zero => rfl
  | succ n ih => rw [flt_snoc, List.length_append, List.length_append, List.length_replicate, List.length_replicate, ih, Nat.zero_add]; rfl
def rwX (i t : Nat) : Nat → SL
  | 0 => []
  | e + 1 => rwX i t e ++ [if e < t then (1, i) else (0, i)]
theorem rwX_a (i t : Nat) : ∀ e, e ≤ t → rwX i t e = List.replicate e (1, i) := by
  intro e
  induction e with
  | zero => intro _; rfl
  | succ e ih => intro h; show rwX i t e ++ [if e < t then (1, i) else (0, i)] = _; rw [ih (by omega), if_pos (by omega), List.replicate_succ']
theorem rwX_b (i t : Nat) : ∀ f, rwX i t (t + f) = List.replicate t (1, i) ++ List.replicate f (0, i) := by
  intro f
  induction f with
  | zero => rw [Nat.add_zero, rwX_a i t t (Nat.le_refl _)]; show _ = _ ++ []; rw [List.append_nil]
  | succ f ih => show rwX i t (t + f) ++ [if t + f < t then (1, i) else (0, i)] = _; rw [ih, if_neg (by omega), List.replicate_succ', List.append_assoc]
theorem rwX_len (i t : Nat) : ∀ e, (rwX i t e).length = e := by
  intro e
  induction e with
  | zero => rfl
  | succ e ih => show (rwX i t e ++ [_]).length = _; rw [List.length_append, ih]; rfl
def FR (μ μ1 : zM) (q : Nat) (sL lL : Nat → Nat) (sl : SL) : Prop := (∀ j, j < q + sl.length → μ1.1 15 j = nI (sA q sL sl j) ∧ μ1.1 16 j = nI (lA q lL sl j)) ∧ a_Fz [(15, 9999), (16, 9999)] μ μ1 ∧ a_H μ1
theorem FR.add {μ μ1 : zM} {q : Nat} {sL lL : Nat → Nat} {sl : SL} {a k n : Nat} (h : FR μ μ1 q sL lL sl) (hn : n = q + sl.length) : FR μ (z_ui (z_ui μ1 15 n (nI a)) 16 n (nI k)) q sL lL (sl ++ [(a, k)]) := by
  subst hn
  refine ⟨fun j hj => ?_, a_Fz_ui (a_Fz_ui h.2.1 (a_mda_md (by decide) _)) (a_mda_md (by decide) _), a_H_ui (a_H_ui h.2.2 (bI_top _)) (bI_top _)⟩
  rw [List.length_append] at hj
  have hj : j < q + (sl.length + 1) := hj
  rw [z_ui_rd, if_neg (by omega), z_ui_rd, z_ui_rd]
  by_cases e : j = q + sl.length
  · subst e
    rw [if_pos ⟨rfl, rfl⟩, if_pos ⟨rfl, rfl⟩]
    unfold sA lA
    rw [if_neg (by omega), if_neg (by omega), show q + sl.length - q = sl.length by omega]
    simp [List.getD_eq_getElem?_getD]
  · rw [if_neg (fun z => e z.2), if_neg (fun z => e z.2), z_ui_rd, if_neg (by omega)]
    have := h.1 j (by omega)
    have e2 : sA q sL (sl ++ [(a, k)]) j = sA q sL sl j ∧ lA q lL (sl ++ [(a, k)]) j = lA q lL sl j := by
      unfold sA lA
      by_cases c : j < q
      · rw [if_pos c, if_pos c, if_pos c, if_pos c]; exact ⟨rfl, rfl⟩
      · rw [if_neg c, if_neg c, if_neg c, if_neg c, List.getD_eq_getElem?_getD, List.getD_eq_getElem?_getD, List.getElem?_append_left (by omega)]; exact ⟨rfl, rfl⟩
    rw [e2.1, e2.2]; exact this
/-- the class's answer -/
def FWQ (μ : zM) (v t : Nat → Nat) (q : Nat) (sL lL : Nat → Nat) (x : Option Value) (μ' : zM) : Prop := ∃ b : Bool, x = some (.int (nB b)) ∧ a_Fz [(15, 9999), (16, 9999)] μ μ' ∧ a_H μ' ∧ (b = true → ∃ r, PW v t r ∧ sn (fun k => t k + r k) 34 = 4 - q ∧ ∀ j, j < 4 → μ'.1 15 j = nI (sA q sL (flt t r 34 0) j) ∧ μ'.1 16 j = nI (lA q lL (flt t r 34 0) j)) ∧ (b = false → ¬ ∃ r, PW v t r ∧ sn (fun k => t k + r k) 34 = 4 - q)
theorem x_sub1 : ∀ a, a < 6 → ∀ t, t < 2 → ∀ r1, r1 < 5 → ∀ r2, r2 < 5 → (3 * t + r1 + r2 ≤ a → nI a - 3 * nI t - nI r1 - nI r2 = nI (a - (3 * t + r1 + r2))) := by decide +kernel
theorem x_sub2 : ∀ a, a < 6 → ∀ t, t < 2 → ∀ r1, r1 < 5 → ∀ r2, r2 < 5 → (a < 3 * t + r1 + r2 → z_cmp .lt (nI a - 3 * nI t - nI r1 - nI r2) 0 = true) := by decide +kernel
theorem x_sub (a : Nat) (ha : a < 6) (t : Nat) (ht : t < 2) (r1 : Nat) (h1 : r1 < 5) (r2 : Nat) (h2 : r2 < 5) : (3 * t + r1 + r2 ≤ a → nI a - 3 * nI t - nI r1 - nI r2 = nI (a - (3 * t + r1 + r2))) ∧ (¬ 3 * t + r1 + r2 ≤ a → z_cmp .lt (nI a - 3 * nI t - nI r1 - nI r2) 0 = true) := ⟨x_sub1 a ha t ht r1 h1 r2 h2, fun h => x_sub2 a ha t ht r1 h1 r2 h2 (by omega)⟩
theorem x_nl : ∀ a, a < 6 → z_cmp .lt (nI a) 0 = false ∧ (z_cmp .le (nI a) 0 = decide (a = 0)) := by decide +kernel
theorem x_s4 : ∀ m, m < 5 → ∀ t, t < 2 → ∀ a, a < 6 → z_cmp .le (nI m + nI t + nI a) 4 = decide (m + t + a ≤ 4) ∧ nI m + nI t + nI a = nI (m + t + a) := by decide +kernel
theorem sn_mo (f : Nat → Nat) {i : Nat} : ∀ n, sn f i ≤ sn f (i + n) := by
  intro n
  induction n with
  | zero => exact Nat.le_refl _
  | succ n ih => show _ ≤ sn f (i + n) + f (i + n); omega
theorem sn_ler (f : Nat → Nat) {i j : Nat} (h : i ≤ j) : sn f i ≤ sn f j := by have := sn_mo f (i := i) (j - i); rw [show i + (j - i) = j by omega] at this; exact this
theorem zh_X1_fillWay : zH mi_X1_fillWay zc_X1_fillWay 79 1 10 := ⟨by rfl, by rfl, by rfl, by rfl⟩
theorem fw158_0 (d' : Nat) (Z : zK) (hd : 1 ≤ d') (μ : zM) (w : Nat → Nat) (p : Nat) (v : Nat → Nat) (hw : RW μ 10 w) (hp : p < 34) (h2p : 2 ≤ w p) (hv : ∀ k, v k = if k = p then w k - 2 else w k) (h15 : μ.1 14 15 = nI p) (ht : μ.2.2 14 = 9) (ch : Int64) (t : Nat → Nat) (ht9 : ∀ k, t k = tH ch k) (q : Nat) (hq : q ≤ 4) (e4 : μ.1 9 4 = nI q) (sL lL : Nat → Nat) (hc : z_clo z_x0 mi_X1_fillWay (z_C d') Z) (hr : z_ret mi_X1_fillWay (FWQ μ v t q sL lL) Z) (i tn lf : Nat) (sl : SL) (r1 r2 : Int32) (hi : i < 34) (h4 : q + sl.length + (tn + lf) ≤ 4) (K : ∀ μ2, FR μ μ2 q sL lL (sl ++ rwX i tn (tn + lf)) → ∀ x7 x8 x9, Z 0 63 [(6, .int (nI (i + 1))), (4, .int (nI lf)), (5, .int r1), (9, .int x9), (8, .int x8), (7, .int x7), (3, .int (nI (q + sl.length + (tn + lf)))), (0, .ref 14), (1, .long ch)] [] μ2 ∧ Z 0 63 [(6, .int (nI (i + 1))), (4, .int (nI lf)), (5, .int r1), (9, .int x9), (3, .int (nI (q + sl.length + (tn + lf)))), (8, .int x8), (7, .int x7), (0, .ref 14), (1, .long ch)] [] μ2) : ∀ n e, e + n = tn + lf → ∀ μ2, FR μ μ2 q sL lL (sl ++ rwX i tn e) → Z 0 158 [(9, .int (nI e)), (8, .int (nI lf)), (7, .int (nI tn)), (6, .int (nI i)), (5, .int r2), (4, .int r1), (3, .int (nI (q + sl.length + e))), (0, .ref 14), (1, .long ch)] [] μ2 ∧ Z 0 158 [(9, .int (nI e)), (3, .int (nI (q + sl.length + e))), (8, .int (nI lf)), (7, .int (nI tn)), (6, .int (nI i)), (5, .int r2), (4, .int r1), (0, .ref 14), (1, .long ch)] [] μ2 := by
  have hH := zh_X1_fillWay
  intro n
  induction n with
  | zero =>
    intro e he μ2 g
    have he : e = tn + lf := by omega
    subst he
    refine ⟨?_, ?_⟩
    · skip
      refine z_rcs hc hH 4 (pc' := 165) (lv' := [(9, .int (nI (tn + lf))), (8, .int (nI lf)), (7, .int (nI tn)), (6, .int (nI i)), (5, .int r2), (4, .int r1), (3, .int (nI (q + sl.length + (tn + lf)))), (0, .ref 14), (1, .long ch)]) (st' := [.int ((nI tn) + (nI lf)), .int (nI (tn + lf))]) (μ' := μ2) (by rfl) ?_
      rw [nI_add]
      show Z 0 165 [(9, .int (nI (tn + lf))), (8, .int (nI lf)), (7, .int (nI tn)), (6, .int (nI i)), (5, .int r2), (4, .int r1), (3, .int (nI (q + sl.length + (tn + lf)))), (0, .ref 14), (1, .long ch)] [.int (nI (tn + lf)), .int (nI (tn + lf))] μ2
      refine zq_ic hc hH (by rfl) (tg := 208) (by rfl) (fun _ => ?_) (fun h9 => (zb_t (ge_nIt (n := tn + lf) (i := tn + lf) (by omega) (by omega)) h9).elim)
      refine z_rcs hc hH 6 (pc' := 63) (lv' := [(6, .int ((nI i) + 1)), (4, .int (nI lf)), (5, .int r1), (9, .int (nI (tn + lf))), (8, .int (nI lf)), (7, .int (nI tn)), (3, .int (nI (q + sl.length + (tn + lf)))), (0, .ref 14), (1, .long ch)]) (st' := []) (μ' := μ2) (by rfl) ?_
      rw [nI_1]
      exact (K μ2 g _ _ _).1
    · skip
      refine z_rcs hc hH 4 (pc' := 165) (lv' := [(9, .int (nI (tn + lf))), (3, .int (nI (q + sl.length + (tn + lf)))), (8, .int (nI lf)), (7, .int (nI tn)), (6, .int (nI i)), (5, .int r2), (4, .int r1), (0, .ref 14), (1, .long ch)]) (st' := [.int ((nI tn) + (nI lf)), .int (nI (tn + lf))]) (μ' := μ2) (by rfl) ?_
      rw [nI_add]
      show Z 0 165 [(9, .int (nI (tn + lf))), (3, .int (nI (q + sl.length + (tn + lf)))), (8, .int (nI lf)), (7, .int (nI tn)), (6, .int (nI i)), (5, .int r2), (4, .int r1), (0, .ref 14), (1, .long ch)] [.int (nI (tn + lf)), .int (nI (tn + lf))] μ2
      refine zq_ic hc hH (by rfl) (tg := 208) (by rfl) (fun _ => ?_) (fun h9 => (zb_t (ge_nIt (n := tn + lf) (i := tn + lf) (by omega) (by omega)) h9).elim)
      refine z_rcs hc hH 6 (pc' := 63) (lv' := [(6, .int ((nI i) + 1)), (4, .int (nI lf)), (5, .int r1), (9, .int (nI (tn + lf))), (3, .int (nI (q + sl.length + (tn + lf)))), (8, .int (nI lf)), (7, .int (nI tn)), (0, .ref 14), (1, .long ch)]) (st' := []) (μ' := μ2) (by rfl) ?_
      rw [nI_1]
      exact (K μ2 g _ _ _).2
  | succ n ih =>
    intro e he μ2 g
    have inm : vp_in (nI (q + sl.length + e)) 4 := vp_in_nI (by omega) (by decide)
    have em : (nI (q + sl.length + e)).toNatClampNeg = q + sl.length + e := nI_clamp (by omega)
    have hlen : q + sl.length + e = q + (sl ++ rwX i tn e).length := by rw [List.length_append, rwX_len]; omega
    refine ⟨?_, ?_⟩
    · by_cases c9 : e < tn
      · skip
        refine z_rcs hc hH 4 (pc' := 165) (lv' := [(9, .int (nI e)), (8, .int (nI lf)), (7, .int (nI tn)), (6, .int (nI i)), (5, .int r2), (4, .int r1), (3, .int (nI (q + sl.length + e))), (0, .ref 14), (1, .long ch)]) (st' := [.int ((nI tn) + (nI lf)), .int (nI e)]) (μ' := μ2) (by rfl) ?_
        rw [nI_add]
        show Z 0 165 [(9, .int (nI e)), (8, .int (nI lf)), (7, .int (nI tn)), (6, .int (nI i)), (5, .int r2), (4, .int r1), (3, .int (nI (q + sl.length + e))), (0, .ref 14), (1, .long ch)] [.int (nI (tn + lf)), .int (nI e)] μ2
        refine zq_ic hc hH (by rfl) (tg := 208) (by rfl) (fun h9 => (zb_t h9 (ge_nI (n := tn + lf) (i := e) (by omega) (by omega))).elim) (fun _ => ?_)
        refine z_rcs hc hH 2 (pc' := 170) (lv' := [(9, .int (nI e)), (8, .int (nI lf)), (7, .int (nI tn)), (6, .int (nI i)), (5, .int r2), (4, .int r1), (3, .int (nI (q + sl.length + e))), (0, .ref 14), (1, .long ch)]) (st' := [.int 4, .int (nI (q + sl.length + e))]) (μ' := μ2) (by rfl) ?_
        refine zq_ic hc hH (by rfl) (tg := 208) (by rfl) (fun h9 => (zb_t h9 (ge_nI (n := 4) (i := q + sl.length + e) (by omega) (by decide))).elim) (fun _ => ?_)
        refine z_rcs hc hH 5 (pc' := 182) (lv' := [(9, .int (nI e)), (8, .int (nI lf)), (7, .int (nI tn)), (6, .int (nI i)), (5, .int r2), (4, .int r1), (3, .int (nI (q + sl.length + e))), (0, .ref 14), (1, .long ch)]) (st' := [.int (nI tn), .int (nI e), .int (nI (q + sl.length + e)), .ref 15]) (μ' := μ2) (by rfl) ?_
        refine zq_ic hc hH (by rfl) (tg := 189) (by rfl) (fun h9 => (zb_t h9 (ge_nI (n := tn) (i := e) (by omega) (by omega))).elim) (fun _ => ?_)
        refine z_rcs hc hH 2 (pc' := 190) (lv' := [(9, .int (nI e)), (8, .int (nI lf)), (7, .int (nI tn)), (6, .int (nI i)), (5, .int r2), (4, .int r1), (3, .int (nI (q + sl.length + e))), (0, .ref 14), (1, .long ch)]) (st' := [.int 1, .int (nI (q + sl.length + e)), .ref 15]) (μ' := μ2) (by rfl) ?_
        refine zq_iast hc hH (by rfl) 4 (by decide +kernel) (inm) ?_
        rw [em]
        show Z 0 191 [(9, .int (nI e)), (8, .int (nI lf)), (7, .int (nI tn)), (6, .int (nI i)), (5, .int r2), (4, .int r1), (3, .int (nI (q + sl.length + e))), (0, .ref 14), (1, .long ch)] [] (z_ui μ2 15 (q + sl.length + e) (nI 1))
        refine z_rcs hc hH 4 (pc' := 198) (lv' := [(9, .int (nI e)), (8, .int (nI lf)), (7, .int (nI tn)), (6, .int (nI i)), (5, .int r2), (4, .int r1), (3, .int (nI (q + sl.length + e))), (0, .ref 14), (1, .long ch)]) (st' := [.int (nI i), .int (nI (q + sl.length + e)), .ref 16]) (μ' := z_ui μ2 15 (q + sl.length + e) (nI 1)) (by rfl) ?_
        refine zq_iast hc hH (by rfl) 4 (by decide +kernel) (inm) ?_
        rw [em]
        have g2 : FR μ (z_ui (z_ui μ2 15 (q + sl.length + e) (nI 1)) 16 (q + sl.length + e) (nI i)) q sL lL (sl ++ rwX i tn (e + 1)) := by
          have z := g.add (a := 1) (k := i) hlen
          rw [List.append_assoc] at z
          rw [show rwX i tn (e + 1) = rwX i tn e ++ [(1, i)] from (show rwX i tn e ++ [if e < tn then (1, i) else (0, i)] = _ by rw [if_pos c9])]
          exact z
        generalize z_ui (z_ui μ2 15 (q + sl.length + e) (nI 1)) 16 (q + sl.length + e) (nI i) = μ3 at g2 ⊢
        refine z_rcs hc hH 3 (pc' := 158) (lv' := [(9, .int ((nI e) + 1)), (3, .int ((nI (q + sl.length + e)) + 1)), (8, .int (nI lf)), (7, .int (nI tn)), (6, .int (nI i)), (5, .int r2), (4, .int r1), (0, .ref 14), (1, .long ch)]) (st' := []) (μ' := μ3) (by rfl) ?_
        rw [nI_1, nI_1]
        exact (ih (e + 1) (by omega) μ3 g2).2
      · skip
        refine z_rcs hc hH 4 (pc' := 165) (lv' := [(9, .int (nI e)), (8, .int (nI lf)), (7, .int (nI tn)), (6, .int (nI i)), (5, .int r2), (4, .int r1), (3, .int (nI (q + sl.length + e))), (0, .ref 14), (1, .long ch)]) (st' := [.int ((nI tn) + (nI lf)), .int (nI e)]) (μ' := μ2) (by rfl) ?_
        rw [nI_add]
        show Z 0 165 [(9, .int (nI e)), (8, .int (nI lf)), (7, .int (nI tn)), (6, .int (nI i)), (5, .int r2), (4, .int r1), (3, .int (nI (q + sl.length + e))), (0, .ref 14), (1, .long ch)] [.int (nI (tn + lf)), .int (nI e)] μ2
        refine zq_ic hc hH (by rfl) (tg := 208) (by rfl) (fun h9 => (zb_t h9 (ge_nI (n := tn + lf) (i := e) (by omega) (by omega))).elim) (fun _ => ?_)
        refine z_rcs hc hH 2 (pc' := 170) (lv' := [(9, .int (nI e)), (8, .int (nI lf)), (7, .int (nI tn)), (6, .int (nI i)), (5, .int r2), (4, .int r1), (3, .int (nI (q + sl.length + e))), (0, .ref 14), (1, .long ch)]) (st' := [.int 4, .int (nI (q + sl.length + e))]) (μ' := μ2) (by rfl) ?_
        refine zq_ic hc hH (by rfl) (tg := 208) (by rfl) (fun h9 => (zb_t h9 (ge_nI (n := 4) (i := q + sl.length + e) (by omega) (by decide))).elim) (fun _ => ?_)
        refine z_rcs hc hH 5 (pc' := 182) (lv' := [(9, .int (nI e)), (8, .int (nI lf)), (7, .int (nI tn)), (6, .int (nI i)), (5, .int r2), (4, .int r1), (3, .int (nI (q + sl.length + e))), (0, .ref 14), (1, .long ch)]) (st' := [.int (nI tn), .int (nI e), .int (nI (q + sl.length + e)), .ref 15]) (μ' := μ2) (by rfl) ?_
        refine zq_ic hc hH (by rfl) (tg := 189) (by rfl) (fun _ => ?_) (fun h9 => (zb_t (ge_nIt (n := tn) (i := e) (by omega) (by omega)) h9).elim)
        refine z_rcs hc hH 1 (pc' := 190) (lv' := [(9, .int (nI e)), (8, .int (nI lf)), (7, .int (nI tn)), (6, .int (nI i)), (5, .int r2), (4, .int r1), (3, .int (nI (q + sl.length + e))), (0, .ref 14), (1, .long ch)]) (st' := [.int 0, .int (nI (q + sl.length + e)), .ref 15]) (μ' := μ2) (by rfl) ?_
        refine zq_iast hc hH (by rfl) 4 (by decide +kernel) (inm) ?_
        rw [em]
        show Z 0 191 [(9, .int (nI e)), (8, .int (nI lf)), (7, .int (nI tn)), (6, .int (nI i)), (5, .int r2), (4, .int r1), (3, .int (nI (q + sl.length + e))), (0, .ref 14), (1, .long ch)] [] (z_ui μ2 15 (q + sl.length + e) (nI 0))
        refine z_rcs hc hH 4 (pc' := 198) (lv' := [(9, .int (nI e)), (8, .int (nI lf)), (7, .int (nI tn)), (6, .int (nI i)), (5, .int r2), (4, .int r1), (3, .int (nI (q + sl.length + e))), (0, .ref 14), (1, .long ch)]) (st' := [.int (nI i), .int (nI (q + sl.length + e)), .ref 16]) (μ' := z_ui μ2 15 (q + sl.length + e) (nI 0)) (by rfl) ?_
        refine zq_iast hc hH (by rfl) 4 (by decide +kernel) (inm) ?_
        rw [em]
        have g2 : FR μ (z_ui (z_ui μ2 15 (q + sl.length + e) (nI 0)) 16 (q + sl.length + e) (nI i)) q sL lL (sl ++ rwX i tn (e + 1)) := by
          have z := g.add (a := 0) (k := i) hlen
          rw [List.append_assoc] at z
          rw [show rwX i tn (e + 1) = rwX i tn e ++ [(0, i)] from (show rwX i tn e ++ [if e < tn then (1, i) else (0, i)] = _ by rw [if_neg c9])]
          exact z
        generalize z_ui (z_ui μ2 15 (q + sl.length + e) (nI 0)) 16 (q + sl.length + e) (nI i) = μ3 at g2 ⊢
        refine z_rcs hc hH 3 (pc' := 158) (lv' := [(9, .int ((nI e) + 1)), (3, .int ((nI (q + sl.length + e)) + 1)), (8, .int (nI lf)), (7, .int (nI tn)), (6, .int (nI i)), (5, .int r2), (4, .int r1), (0, .ref 14), (1, .long ch)]) (st' := []) (μ' := μ3) (by rfl) ?_
        rw [nI_1, nI_1]
        exact (ih (e + 1) (by omega) μ3 g2).2
    · by_cases c9 : e < tn
      · skip
        refine z_rcs hc hH 4 (pc' := 165) (lv' := [(9, .int (nI e)), (3, .int (nI (q + sl.length + e))), (8, .int (nI lf)), (7, .int (nI tn)), (6, .int (nI i)), (5, .int r2), (4, .int r1), (0, .ref 14), (1, .long ch)]) (st' := [.int ((nI tn) + (nI lf)), .int (nI e)]) (μ' := μ2) (by rfl) ?_
        rw [nI_add]
        show Z 0 165 [(9, .int (nI e)), (3, .int (nI (q + sl.length + e))), (8, .int (nI lf)), (7, .int (nI tn)), (6, .int (nI i)), (5, .int r2), (4, .int r1), (0, .ref 14), (1, .long ch)] [.int (nI (tn + lf)), .int (nI e)] μ2
        refine zq_ic hc hH (by rfl) (tg := 208) (by rfl) (fun h9 => (zb_t h9 (ge_nI (n := tn + lf) (i := e) (by omega) (by omega))).elim) (fun _ => ?_)
        refine z_rcs hc hH 2 (pc' := 170) (lv' := [(9, .int (nI e)), (3, .int (nI (q + sl.length + e))), (8, .int (nI lf)), (7, .int (nI tn)), (6, .int (nI i)), (5, .int r2), (4, .int r1), (0, .ref 14), (1, .long ch)]) (st' := [.int 4, .int (nI (q + sl.length + e))]) (μ' := μ2) (by rfl) ?_
        refine zq_ic hc hH (by rfl) (tg := 208) (by rfl) (fun h9 => (zb_t h9 (ge_nI (n := 4) (i := q + sl.length + e) (by omega) (by decide))).elim) (fun _ => ?_)
        refine z_rcs hc hH 5 (pc' := 182) (lv' := [(9, .int (nI e)), (3, .int (nI (q + sl.length + e))), (8, .int (nI lf)), (7, .int (nI tn)), (6, .int (nI i)), (5, .int r2), (4, .int r1), (0, .ref 14), (1, .long ch)]) (st' := [.int (nI tn), .int (nI e), .int (nI (q + sl.length + e)), .ref 15]) (μ' := μ2) (by rfl) ?_
        refine zq_ic hc hH (by rfl) (tg := 189) (by rfl) (fun h9 => (zb_t h9 (ge_nI (n := tn) (i := e) (by omega) (by omega))).elim) (fun _ => ?_)
        refine z_rcs hc hH 2 (pc' := 190) (lv' := [(9, .int (nI e)), (3, .int (nI (q + sl.length + e))), (8, .int (nI lf)), (7, .int (nI tn)), (6, .int (nI i)), (5, .int r2), (4, .int r1), (0, .ref 14), (1, .long ch)]) (st' := [.int 1, .int (nI (q + sl.length + e)), .ref 15]) (μ' := μ2) (by rfl) ?_
        refine zq_iast hc hH (by rfl) 4 (by decide +kernel) (inm) ?_
        rw [em]
        show Z 0 191 [(9, .int (nI e)), (3, .int (nI (q + sl.length + e))), (8, .int (nI lf)), (7, .int (nI tn)), (6, .int (nI i)), (5, .int r2), (4, .int r1), (0, .ref 14), (1, .long ch)] [] (z_ui μ2 15 (q + sl.length + e) (nI 1))
        refine z_rcs hc hH 4 (pc' := 198) (lv' := [(9, .int (nI e)), (3, .int (nI (q + sl.length + e))), (8, .int (nI lf)), (7, .int (nI tn)), (6, .int (nI i)), (5, .int r2), (4, .int r1), (0, .ref 14), (1, .long ch)]) (st' := [.int (nI i), .int (nI (q + sl.length + e)), .ref 16]) (μ' := z_ui μ2 15 (q + sl.length + e) (nI 1)) (by rfl) ?_
        refine zq_iast hc hH (by rfl) 4 (by decide +kernel) (inm) ?_
        rw [em]
        have g2 : FR μ (z_ui (z_ui μ2 15 (q + sl.length + e) (nI 1)) 16 (q + sl.length + e) (nI i)) q sL lL (sl ++ rwX i tn (e + 1)) := by
          have z := g.add (a := 1) (k := i) hlen
          rw [List.append_assoc] at z
          rw [show rwX i tn (e + 1) = rwX i tn e ++ [(1, i)] from (show rwX i tn e ++ [if e < tn then (1, i) else (0, i)] = _ by rw [if_pos c9])]
          exact z
        generalize z_ui (z_ui μ2 15 (q + sl.length + e) (nI 1)) 16 (q + sl.length + e) (nI i) = μ3 at g2 ⊢
        refine z_rcs hc hH 3 (pc' := 158) (lv' := [(9, .int ((nI e) + 1)), (3, .int ((nI (q + sl.length + e)) + 1)), (8, .int (nI lf)), (7, .int (nI tn)), (6, .int (nI i)), (5, .int r2), (4, .int r1), (0, .ref 14), (1, .long ch)]) (st' := []) (μ' := μ3) (by rfl) ?_
        rw [nI_1, nI_1]
        exact (ih (e + 1) (by omega) μ3 g2).2
      · skip
        refine z_rcs hc hH 4 (pc' := 165) (lv' := [(9, .int (nI e)), (3, .int (nI (q + sl.length + e))), (8, .int (nI lf)), (7, .int (nI tn)), (6, .int (nI i)), (5, .int r2), (4, .int r1), (0, .ref 14), (1, .long ch)]) (st' := [.int ((nI tn) + (nI lf)), .int (nI e)]) (μ' := μ2) (by rfl) ?_
        rw [nI_add]
        show Z 0 165 [(9, .int (nI e)), (3, .int (nI (q + sl.length + e))), (8, .int (nI lf)), (7, .int (nI tn)), (6, .int (nI i)), (5, .int r2), (4, .int r1), (0, .ref 14), (1, .long ch)] [.int (nI (tn + lf)), .int (nI e)] μ2
        refine zq_ic hc hH (by rfl) (tg := 208) (by rfl) (fun h9 => (zb_t h9 (ge_nI (n := tn + lf) (i := e) (by omega) (by omega))).elim) (fun _ => ?_)
        refine z_rcs hc hH 2 (pc' := 170) (lv' := [(9, .int (nI e)), (3, .int (nI (q + sl.length + e))), (8, .int (nI lf)), (7, .int (nI tn)), (6, .int (nI i)), (5, .int r2), (4, .int r1), (0, .ref 14), (1, .long ch)]) (st' := [.int 4, .int (nI (q + sl.length + e))]) (μ' := μ2) (by rfl) ?_
        refine zq_ic hc hH (by rfl) (tg := 208) (by rfl) (fun h9 => (zb_t h9 (ge_nI (n := 4) (i := q + sl.length + e) (by omega) (by decide))).elim) (fun _ => ?_)
        refine z_rcs hc hH 5 (pc' := 182) (lv' := [(9, .int (nI e)), (3, .int (nI (q + sl.length + e))), (8, .int (nI lf)), (7, .int (nI tn)), (6, .int (nI i)), (5, .int r2), (4, .int r1), (0, .ref 14), (1, .long ch)]) (st' := [.int (nI tn), .int (nI e), .int (nI (q + sl.length + e)), .ref 15]) (μ' := μ2) (by rfl) ?_
        refine zq_ic hc hH (by rfl) (tg := 189) (by rfl) (fun _ => ?_) (fun h9 => (zb_t (ge_nIt (n := tn) (i := e) (by omega) (by omega)) h9).elim)
        refine z_rcs hc hH 1 (pc' := 190) (lv' := [(9, .int (nI e)), (3, .int (nI (q + sl.length + e))), (8, .int (nI lf)), (7, .int (nI tn)), (6, .int (nI i)), (5, .int r2), (4, .int r1), (0, .ref 14), (1, .long ch)]) (st' := [.int 0, .int (nI (q + sl.length + e)), .ref 15]) (μ' := μ2) (by rfl) ?_
        refine zq_iast hc hH (by rfl) 4 (by decide +kernel) (inm) ?_
        rw [em]
        show Z 0 191 [(9, .int (nI e)), (3, .int (nI (q + sl.length + e))), (8, .int (nI lf)), (7, .int (nI tn)), (6, .int (nI i)), (5, .int r2), (4, .int r1), (0, .ref 14), (1, .long ch)] [] (z_ui μ2 15 (q + sl.length + e) (nI 0))
        refine z_rcs hc hH 4 (pc' := 198) (lv' := [(9, .int (nI e)), (3, .int (nI (q + sl.length + e))), (8, .int (nI lf)), (7, .int (nI tn)), (6, .int (nI i)), (5, .int r2), (4, .int r1), (0, .ref 14), (1, .long ch)]) (st' := [.int (nI i), .int (nI (q + sl.length + e)), .ref 16]) (μ' := z_ui μ2 15 (q + sl.length + e) (nI 0)) (by rfl) ?_
        refine zq_iast hc hH (by rfl) 4 (by decide +kernel) (inm) ?_
        rw [em]
        have g2 : FR μ (z_ui (z_ui μ2 15 (q + sl.length + e) (nI 0)) 16 (q + sl.length + e) (nI i)) q sL lL (sl ++ rwX i tn (e + 1)) := by
          have z := g.add (a := 0) (k := i) hlen
          rw [List.append_assoc] at z
          rw [show rwX i tn (e + 1) = rwX i tn e ++ [(0, i)] from (show rwX i tn e ++ [if e < tn then (1, i) else (0, i)] = _ by rw [if_neg c9])]
          exact z
        generalize z_ui (z_ui μ2 15 (q + sl.length + e) (nI 0)) 16 (q + sl.length + e) (nI i) = μ3 at g2 ⊢
        refine z_rcs hc hH 3 (pc' := 158) (lv' := [(9, .int ((nI e) + 1)), (3, .int ((nI (q + sl.length + e)) + 1)), (8, .int (nI lf)), (7, .int (nI tn)), (6, .int (nI i)), (5, .int r2), (4, .int r1), (0, .ref 14), (1, .long ch)]) (st' := []) (μ' := μ3) (by rfl) ?_
        rw [nI_1, nI_1]
        exact (ih (e + 1) (by omega) μ3 g2).2
theorem fw158_1 (d' : Nat) (Z : zK) (hd : 1 ≤ d') (μ : zM) (w : Nat → Nat) (p : Nat) (v : Nat → Nat) (hw : RW μ 10 w) (hp : p < 34) (h2p : 2 ≤ w p) (hv : ∀ k, v k = if k = p then w k - 2 else w k) (h15 : μ.1 14 15 = nI p) (ht : μ.2.2 14 = 9) (ch : Int64) (t : Nat → Nat) (ht9 : ∀ k, t k = tH ch k) (q : Nat) (hq : q ≤ 4) (e4 : μ.1 9 4 = nI q) (sL lL : Nat → Nat) (hc : z_clo z_x0 mi_X1_fillWay (z_C d') Z) (hr : z_ret mi_X1_fillWay (FWQ μ v t q sL lL) Z) (i tn lf : Nat) (sl : SL) (r1 r2 : Int32) (hi : i < 34) (h4 : q + sl.length + (tn + lf) ≤ 4) (K : ∀ μ2, FR μ μ2 q sL lL (sl ++ rwX i tn (tn + lf)) → ∀ x7 x8 x9, Z 0 63 [(6, .int (nI (i + 1))), (4, .int (nI lf)), (5, .int r1), (9, .int x9), (8, .int x8), (7, .int x7), (3, .int (nI (q + sl.length + (tn + lf)))), (0, .ref 14), (1, .long ch)] [] μ2 ∧ Z 0 63 [(6, .int (nI (i + 1))), (4, .int (nI lf)), (5, .int r1), (9, .int x9), (3, .int (nI (q + sl.length + (tn + lf)))), (8, .int x8), (7, .int x7), (0, .ref 14), (1, .long ch)] [] μ2) : ∀ n e, e + n = tn + lf → ∀ μ2, FR μ μ2 q sL lL (sl ++ rwX i tn e) → Z 0 158 [(9, .int (nI e)), (8, .int (nI lf)), (7, .int (nI tn)), (6, .int (nI i)), (4, .int r1), (5, .int r2), (3, .int (nI (q + sl.length + e))), (0, .ref 14), (1, .long ch)] [] μ2 ∧ Z 0 158 [(9, .int (nI e)), (3, .int (nI (q + sl.length + e))), (8, .int (nI lf)), (7, .int (nI tn)), (6, .int (nI i)), (4, .int r1), (5, .int r2), (0, .ref 14), (1, .long ch)] [] μ2 := by
  have hH := zh_X1_fillWay
  intro n
  induction n with
  | zero =>
    intro e he μ2 g
    have he : e = tn + lf := by omega
    subst he
    refine ⟨?_, ?_⟩
    · skip
      refine z_rcs hc hH 4 (pc' := 165) (lv' := [(9, .int (nI (tn + lf))), (8, .int (nI lf)), (7, .int (nI tn)), (6, .int (nI i)), (4, .int r1), (5, .int r2), (3, .int (nI (q + sl.length + (tn + lf)))), (0, .ref 14), (1, .long ch)]) (st' := [.int ((nI tn) + (nI lf)), .int (nI (tn + lf))]) (μ' := μ2) (by rfl) ?_
      rw [nI_add]
      show Z 0 165 [(9, .int (nI (tn + lf))), (8, .int (nI lf)), (7, .int (nI tn)), (6, .int (nI i)), (4, .int r1), (5, .int r2), (3, .int (nI (q + sl.length + (tn + lf)))), (0, .ref 14), (1, .long ch)] [.int (nI (tn + lf)), .int (nI (tn + lf))] μ2
      refine zq_ic hc hH (by rfl) (tg := 208) (by rfl) (fun _ => ?_) (fun h9 => (zb_t (ge_nIt (n := tn + lf) (i := tn + lf) (by omega) (by omega)) h9).elim)
      refine z_rcs hc hH 6 (pc' := 63) (lv' := [(6, .int ((nI i) + 1)), (4, .int (nI lf)), (5, .int r1), (9, .int (nI (tn + lf))), (8, .int (nI lf)), (7, .int (nI tn)), (3, .int (nI (q + sl.length + (tn + lf)))), (0, .ref 14), (1, .long ch)]) (st' := []) (μ' := μ2) (by rfl) ?_
      rw [nI_1]
      exact (K μ2 g _ _ _).1
    · skip
      refine z_rcs hc hH 4 (pc' := 165) (lv' := [(9, .int (nI (tn + lf))), (3, .int (nI (q + sl.length + (tn + lf)))), (8, .int (nI lf)), (7, .int (nI tn)), (6, .int (nI i)), (4, .int r1), (5, .int r2), (0, .ref 14), (1, .long ch)]) (st' := [.int ((nI tn) + (nI lf)), .int (nI (tn + lf))]) (μ' := μ2) (by rfl) ?_
      rw [nI_add]
      show Z 0 165 [(9, .int (nI (tn + lf))), (3, .int (nI (q + sl.length + (tn + lf)))), (8, .int (nI lf)), (7, .int (nI tn)), (6, .int (nI i)), (4, .int r1), (5, .int r2), (0, .ref 14), (1, .long ch)] [.int (nI (tn + lf)), .int (nI (tn + lf))] μ2
      refine zq_ic hc hH (by rfl) (tg := 208) (by rfl) (fun _ => ?_) (fun h9 => (zb_t (ge_nIt (n := tn + lf) (i := tn + lf) (by omega) (by omega)) h9).elim)
      refine z_rcs hc hH 6 (pc' := 63) (lv' := [(6, .int ((nI i) + 1)), (4, .int (nI lf)), (5, .int r1), (9, .int (nI (tn + lf))), (3, .int (nI (q + sl.length + (tn + lf)))), (8, .int (nI lf)), (7, .int (nI tn)), (0, .ref 14), (1, .long ch)]) (st' := []) (μ' := μ2) (by rfl) ?_
      rw [nI_1]
      exact (K μ2 g _ _ _).2
  | succ n ih =>
    intro e he μ2 g
    have inm : vp_in (nI (q + sl.length + e)) 4 := vp_in_nI (by omega) (by decide)
    have em : (nI (q + sl.length + e)).toNatClampNeg = q + sl.length + e := nI_clamp (by omega)
    have hlen : q + sl.length + e = q + (sl ++ rwX i tn e).length := by rw [List.length_append, rwX_len]; omega
    refine ⟨?_, ?_⟩
    · by_cases c9 : e < tn
      · skip
        refine z_rcs hc hH 4 (pc' := 165) (lv' := [(9, .int (nI e)), (8, .int (nI lf)), (7, .int (nI tn)), (6, .int (nI i)), (4, .int r1), (5, .int r2), (3, .int (nI (q + sl.length + e))), (0, .ref 14), (1, .long ch)]) (st' := [.int ((nI tn) + (nI lf)), .int (nI e)]) (μ' := μ2) (by rfl) ?_
        rw [nI_add]
        show Z 0 165 [(9, .int (nI e)), (8, .int (nI lf)), (7, .int (nI tn)), (6, .int (nI i)), (4, .int r1), (5, .int r2), (3, .int (nI (q + sl.length + e))), (0, .ref 14), (1, .long ch)] [.int (nI (tn + lf)), .int (nI e)] μ2
        refine zq_ic hc hH (by rfl) (tg := 208) (by rfl) (fun h9 => (zb_t h9 (ge_nI (n := tn + lf) (i := e) (by omega) (by omega))).elim) (fun _ => ?_)
        refine z_rcs hc hH 2 (pc' := 170) (lv' := [(9, .int (nI e)), (8, .int (nI lf)), (7, .int (nI tn)), (6, .int (nI i)), (4, .int r1), (5, .int r2), (3, .int (nI (q + sl.length + e))), (0, .ref 14), (1, .long ch)]) (st' := [.int 4, .int (nI (q + sl.length + e))]) (μ' := μ2) (by rfl) ?_
        refine zq_ic hc hH (by rfl) (tg := 208) (by rfl) (fun h9 => (zb_t h9 (ge_nI (n := 4) (i := q + sl.length + e) (by omega) (by decide))).elim) (fun _ => ?_)
        refine z_rcs hc hH 5 (pc' := 182) (lv' := [(9, .int (nI e)), (8, .int (nI lf)), (7, .int (nI tn)), (6, .int (nI i)), (4, .int r1), (5, .int r2), (3, .int (nI (q + sl.length + e))), (0, .ref 14), (1, .long ch)]) (st' := [.int (nI tn), .int (nI e), .int (nI (q + sl.length + e)), .ref 15]) (μ' := μ2) (by rfl) ?_
        refine zq_ic hc hH (by rfl) (tg := 189) (by rfl) (fun h9 => (zb_t h9 (ge_nI (n := tn) (i := e) (by omega) (by omega))).elim) (fun _ => ?_)
        refine z_rcs hc hH 2 (pc' := 190) (lv' := [(9, .int (nI e)), (8, .int (nI lf)), (7, .int (nI tn)), (6, .int (nI i)), (4, .int r1), (5, .int r2), (3, .int (nI (q + sl.length + e))), (0, .ref 14), (1, .long ch)]) (st' := [.int 1, .int (nI (q + sl.length + e)), .ref 15]) (μ' := μ2) (by rfl) ?_
        refine zq_iast hc hH (by rfl) 4 (by decide +kernel) (inm) ?_
        rw [em]
        show Z 0 191 [(9, .int (nI e)), (8, .int (nI lf)), (7, .int (nI tn)), (6, .int (nI i)), (4, .int r1), (5, .int r2), (3, .int (nI (q + sl.length + e))), (0, .ref 14), (1, .long ch)] [] (z_ui μ2 15 (q + sl.length + e) (nI 1))
        refine z_rcs hc hH 4 (pc' := 198) (lv' := [(9, .int (nI e)), (8, .int (nI lf)), (7, .int (nI tn)), (6, .int (nI i)), (4, .int r1), (5, .int r2), (3, .int (nI (q + sl.length + e))), (0, .ref 14), (1, .long ch)]) (st' := [.int (nI i), .int (nI (q + sl.length + e)), .ref 16]) (μ' := z_ui μ2 15 (q + sl.length + e) (nI 1)) (by rfl) ?_
        refine zq_iast hc hH (by rfl) 4 (by decide +kernel) (inm) ?_
        rw [em]
        have g2 : FR μ (z_ui (z_ui μ2 15 (q + sl.length + e) (nI 1)) 16 (q + sl.length + e) (nI i)) q sL lL (sl ++ rwX i tn (e + 1)) := by
          have z := g.add (a := 1) (k := i) hlen
          rw [List.append_assoc] at z
          rw [show rwX i tn (e + 1) = rwX i tn e ++ [(1, i)] from (show rwX i tn e ++ [if e < tn then (1, i) else (0, i)] = _ by rw [if_pos c9])]
          exact z
        generalize z_ui (z_ui μ2 15 (q + sl.length + e) (nI 1)) 16 (q + sl.length + e) (nI i) = μ3 at g2 ⊢
        refine z_rcs hc hH 3 (pc' := 158) (lv' := [(9, .int ((nI e) + 1)), (3, .int ((nI (q + sl.length + e)) + 1)), (8, .int (nI lf)), (7, .int (nI tn)), (6, .int (nI i)), (4, .int r1), (5, .int r2), (0, .ref 14), (1, .long ch)]) (st' := []) (μ' := μ3) (by rfl) ?_
        rw [nI_1, nI_1]
        exact (ih (e + 1) (by omega) μ3 g2).2
      · skip
        refine z_rcs hc hH 4 (pc' := 165) (lv' := [(9, .int (nI e)), (8, .int (nI lf)), (7, .int (nI tn)), (6, .int (nI i)), (4, .int r1), (5, .int r2), (3, .int (nI (q + sl.length + e))), (0, .ref 14), (1, .long ch)]) (st' := [.int ((nI tn) + (nI lf)), .int (nI e)]) (μ' := μ2) (by rfl) ?_
        rw [nI_add]
        show Z 0 165 [(9, .int (nI e)), (8, .int (nI lf)), (7, .int (nI tn)), (6, .int (nI i)), (4, .int r1), (5, .int r2), (3, .int (nI (q + sl.length + e))), (0, .ref 14), (1, .long ch)] [.int (nI (tn + lf)), .int (nI e)] μ2
        refine zq_ic hc hH (by rfl) (tg := 208) (by rfl) (fun h9 => (zb_t h9 (ge_nI (n := tn + lf) (i := e) (by omega) (by omega))).elim) (fun _ => ?_)
        refine z_rcs hc hH 2 (pc' := 170) (lv' := [(9, .int (nI e)), (8, .int (nI lf)), (7, .int (nI tn)), (6, .int (nI i)), (4, .int r1), (5, .int r2), (3, .int (nI (q + sl.length + e))), (0, .ref 14), (1, .long ch)]) (st' := [.int 4, .int (nI (q + sl.length + e))]) (μ' := μ2) (by rfl) ?_
        refine zq_ic hc hH (by rfl) (tg := 208) (by rfl) (fun h9 => (zb_t h9 (ge_nI (n := 4) (i := q + sl.length + e) (by omega) (by decide))).elim) (fun _ => ?_)
        refine z_rcs hc hH 5 (pc' := 182) (lv' := [(9, .int (nI e)), (8, .int (nI lf)), (7, .int (nI tn)), (6, .int (nI i)), (4, .int r1), (5, .int r2), (3, .int (nI (q + sl.length + e))), (0, .ref 14), (1, .long ch)]) (st' := [.int (nI tn), .int (nI e), .int (nI (q + sl.length + e)), .ref 15]) (μ' := μ2) (by rfl) ?_
        refine zq_ic hc hH (by rfl) (tg := 189) (by rfl) (fun _ => ?_) (fun h9 => (zb_t (ge_nIt (n := tn) (i := e) (by omega) (by omega)) h9).elim)
        refine z_rcs hc hH 1 (pc' := 190) (lv' := [(9, .int (nI e)), (8, .int (nI lf)), (7, .int (nI tn)), (6, .int (nI i)), (4, .int r1), (5, .int r2), (3, .int (nI (q + sl.length + e))), (0, .ref 14), (1, .long ch)]) (st' := [.int 0, .int (nI (q + sl.length + e)), .ref 15]) (μ' := μ2) (by rfl) ?_
        refine zq_iast hc hH (by rfl) 4 (by decide +kernel) (inm) ?_
        rw [em]
        show Z 0 191 [(9, .int (nI e)), (8, .int (nI lf)), (7, .int (nI tn)), (6, .int (nI i)), (4, .int r1), (5, .int r2), (3, .int (nI (q + sl.length + e))), (0, .ref 14), (1, .long ch)] [] (z_ui μ2 15 (q + sl.length + e) (nI 0))
        refine z_rcs hc hH 4 (pc' := 198) (lv' := [(9, .int (nI e)), (8, .int (nI lf)), (7, .int (nI tn)), (6, .int (nI i)), (4, .int r1), (5, .int r2), (3, .int (nI (q + sl.length + e))), (0, .ref 14), (1, .long ch)]) (st' := [.int (nI i), .int (nI (q + sl.length + e)), .ref 16]) (μ' := z_ui μ2 15 (q + sl.length + e) (nI 0)) (by rfl) ?_
        refine zq_iast hc hH (by rfl) 4 (by decide +kernel) (inm) ?_
        rw [em]
        have g2 : FR μ (z_ui (z_ui μ2 15 (q + sl.length + e) (nI 0)) 16 (q + sl.length + e) (nI i)) q sL lL (sl ++ rwX i tn (e + 1)) := by
          have z := g.add (a := 0) (k := i) hlen
          rw [List.append_assoc] at z
          rw [show rwX i tn (e + 1) = rwX i tn e ++ [(0, i)] from (show rwX i tn e ++ [if e < tn then (1, i) else (0, i)] = _ by rw [if_neg c9])]
          exact z
        generalize z_ui (z_ui μ2 15 (q + sl.length + e) (nI 0)) 16 (q + sl.length + e) (nI i) = μ3 at g2 ⊢
        refine z_rcs hc hH 3 (pc' := 158) (lv' := [(9, .int ((nI e) + 1)), (3, .int ((nI (q + sl.length + e)) + 1)), (8, .int (nI lf)), (7, .int (nI tn)), (6, .int (nI i)), (4, .int r1), (5, .int r2), (0, .ref 14), (1, .long ch)]) (st' := []) (μ' := μ3) (by rfl) ?_
        rw [nI_1, nI_1]
        exact (ih (e + 1) (by omega) μ3 g2).2
    · by_cases c9 : e < tn
      · skip
        refine z_rcs hc hH 4 (pc' := 165) (lv' := [(9, .int (nI e)), (3, .int (nI (q + sl.length + e))), (8, .int (nI lf)), (7, .int (nI tn)), (6, .int (nI i)), (4, .int r1), (5, .int r2), (0, .ref 14), (1, .long ch)]) (st' := [.int ((nI tn) + (nI lf)), .int (nI e)]) (μ' := μ2) (by rfl) ?_
        rw [nI_add]
        show Z 0 165 [(9, .int (nI e)), (3, .int (nI (q + sl.length + e))), (8, .int (nI lf)), (7, .int (nI tn)), (6, .int (nI i)), (4, .int r1), (5, .int r2), (0, .ref 14), (1, .long ch)] [.int (nI (tn + lf)), .int (nI e)] μ2
        refine zq_ic hc hH (by rfl) (tg := 208) (by rfl) (fun h9 => (zb_t h9 (ge_nI (n := tn + lf) (i := e) (by omega) (by omega))).elim) (fun _ => ?_)
        refine z_rcs hc hH 2 (pc' := 170) (lv' := [(9, .int (nI e)), (3, .int (nI (q + sl.length + e))), (8, .int (nI lf)), (7, .int (nI tn)), (6, .int (nI i)), (4, .int r1), (5, .int r2), (0, .ref 14), (1, .long ch)]) (st' := [.int 4, .int (nI (q + sl.length + e))]) (μ' := μ2) (by rfl) ?_
        refine zq_ic hc hH (by rfl) (tg := 208) (by rfl) (fun h9 => (zb_t h9 (ge_nI (n := 4) (i := q + sl.length + e) (by omega) (by decide))).elim) (fun _ => ?_)
        refine z_rcs hc hH 5 (pc' := 182) (lv' := [(9, .int (nI e)), (3, .int (nI (q + sl.length + e))), (8, .int (nI lf)), (7, .int (nI tn)), (6, .int (nI i)), (4, .int r1), (5, .int r2), (0, .ref 14), (1, .long ch)]) (st' := [.int (nI tn), .int (nI e), .int (nI (q + sl.length + e)), .ref 15]) (μ' := μ2) (by rfl) ?_
        refine zq_ic hc hH (by rfl) (tg := 189) (by rfl) (fun h9 => (zb_t h9 (ge_nI (n := tn) (i := e) (by omega) (by omega))).elim) (fun _ => ?_)
        refine z_rcs hc hH 2 (pc' := 190) (lv' := [(9, .int (nI e)), (3, .int (nI (q + sl.length + e))), (8, .int (nI lf)), (7, .int (nI tn)), (6, .int (nI i)), (4, .int r1), (5, .int r2), (0, .ref 14), (1, .long ch)]) (st' := [.int 1, .int (nI (q + sl.length + e)), .ref 15]) (μ' := μ2) (by rfl) ?_
        refine zq_iast hc hH (by rfl) 4 (by decide +kernel) (inm) ?_
        rw [em]
        show Z 0 191 [(9, .int (nI e)), (3, .int (nI (q + sl.length + e))), (8, .int (nI lf)), (7, .int (nI tn)), (6, .int (nI i)), (4, .int r1), (5, .int r2), (0, .ref 14), (1, .long ch)] [] (z_ui μ2 15 (q + sl.length + e) (nI 1))
        refine z_rcs hc hH 4 (pc' := 198) (lv' := [(9, .int (nI e)), (3, .int (nI (q + sl.length + e))), (8, .int (nI lf)), (7, .int (nI tn)), (6, .int (nI i)), (4, .int r1), (5, .int r2), (0, .ref 14), (1, .long ch)]) (st' := [.int (nI i), .int (nI (q + sl.length + e)), .ref 16]) (μ' := z_ui μ2 15 (q + sl.length + e) (nI 1)) (by rfl) ?_
        refine zq_iast hc hH (by rfl) 4 (by decide +kernel) (inm) ?_
        rw [em]
        have g2 : FR μ (z_ui (z_ui μ2 15 (q + sl.length + e) (nI 1)) 16 (q + sl.length + e) (nI i)) q sL lL (sl ++ rwX i tn (e + 1)) := by
          have z := g.add (a := 1) (k := i) hlen
          rw [List.append_assoc] at z
          rw [show rwX i tn (e + 1) = rwX i tn e ++ [(1, i)] from (show rwX i tn e ++ [if e < tn then (1, i) else (0, i)] = _ by rw [if_pos c9])]
          exact z
        generalize z_ui (z_ui μ2 15 (q + sl.length + e) (nI 1)) 16 (q + sl.length + e) (nI i) = μ3 at g2 ⊢
        refine z_rcs hc hH 3 (pc' := 158) (lv' := [(9, .int ((nI e) + 1)), (3, .int ((nI (q + sl.length + e)) + 1)), (8, .int (nI lf)), (7, .int (nI tn)), (6, .int (nI i)), (4, .int r1), (5, .int r2), (0, .ref 14), (1, .long ch)]) (st' := []) (μ' := μ3) (by rfl) ?_
        rw [nI_1, nI_1]
        exact (ih (e + 1) (by omega) μ3 g2).2
      · skip
        refine z_rcs hc hH 4 (pc' := 165) (lv' := [(9, .int (nI e)), (3, .int (nI (q + sl.length + e))), (8, .int (nI lf)), (7, .int (nI tn)), (6, .int (nI i)), (4, .int r1), (5, .int r2), (0, .ref 14), (1, .long ch)]) (st' := [.int ((nI tn) + (nI lf)), .int (nI e)]) (μ' := μ2) (by rfl) ?_
        rw [nI_add]
        show Z 0 165 [(9, .int (nI e)), (3, .int (nI (q + sl.length + e))), (8, .int (nI lf)), (7, .int (nI tn)), (6, .int (nI i)), (4, .int r1), (5, .int r2), (0, .ref 14), (1, .long ch)] [.int (nI (tn + lf)), .int (nI e)] μ2
        refine zq_ic hc hH (by rfl) (tg := 208) (by rfl) (fun h9 => (zb_t h9 (ge_nI (n := tn + lf) (i := e) (by omega) (by omega))).elim) (fun _ => ?_)
        refine z_rcs hc hH 2 (pc' := 170) (lv' := [(9, .int (nI e)), (3, .int (nI (q + sl.length + e))), (8, .int (nI lf)), (7, .int (nI tn)), (6, .int (nI i)), (4, .int r1), (5, .int r2), (0, .ref 14), (1, .long ch)]) (st' := [.int 4, .int (nI (q + sl.length + e))]) (μ' := μ2) (by rfl) ?_
        refine zq_ic hc hH (by rfl) (tg := 208) (by rfl) (fun h9 => (zb_t h9 (ge_nI (n := 4) (i := q + sl.length + e) (by omega) (by decide))).elim) (fun _ => ?_)
        refine z_rcs hc hH 5 (pc' := 182) (lv' := [(9, .int (nI e)), (3, .int (nI (q + sl.length + e))), (8, .int (nI lf)), (7, .int (nI tn)), (6, .int (nI i)), (4, .int r1), (5, .int r2), (0, .ref 14), (1, .long ch)]) (st' := [.int (nI tn), .int (nI e), .int (nI (q + sl.length + e)), .ref 15]) (μ' := μ2) (by rfl) ?_
        refine zq_ic hc hH (by rfl) (tg := 189) (by rfl) (fun _ => ?_) (fun h9 => (zb_t (ge_nIt (n := tn) (i := e) (by omega) (by omega)) h9).elim)
        refine z_rcs hc hH 1 (pc' := 190) (lv' := [(9, .int (nI e)), (3, .int (nI (q + sl.length + e))), (8, .int (nI lf)), (7, .int (nI tn)), (6, .int (nI i)), (4, .int r1), (5, .int r2), (0, .ref 14), (1, .long ch)]) (st' := [.int 0, .int (nI (q + sl.length + e)), .ref 15]) (μ' := μ2) (by rfl) ?_
        refine zq_iast hc hH (by rfl) 4 (by decide +kernel) (inm) ?_
        rw [em]
        show Z 0 191 [(9, .int (nI e)), (3, .int (nI (q + sl.length + e))), (8, .int (nI lf)), (7, .int (nI tn)), (6, .int (nI i)), (4, .int r1), (5, .int r2), (0, .ref 14), (1, .long ch)] [] (z_ui μ2 15 (q + sl.length + e) (nI 0))
        refine z_rcs hc hH 4 (pc' := 198) (lv' := [(9, .int (nI e)), (3, .int (nI (q + sl.length + e))), (8, .int (nI lf)), (7, .int (nI tn)), (6, .int (nI i)), (4, .int r1), (5, .int r2), (0, .ref 14), (1, .long ch)]) (st' := [.int (nI i), .int (nI (q + sl.length + e)), .ref 16]) (μ' := z_ui μ2 15 (q + sl.length + e) (nI 0)) (by rfl) ?_
        refine zq_iast hc hH (by rfl) 4 (by decide +kernel) (inm) ?_
        rw [em]
        have g2 : FR μ (z_ui (z_ui μ2 15 (q + sl.length + e) (nI 0)) 16 (q + sl.length + e) (nI i)) q sL lL (sl ++ rwX i tn (e + 1)) := by
          have z := g.add (a := 0) (k := i) hlen
          rw [List.append_assoc] at z
          rw [show rwX i tn (e + 1) = rwX i tn e ++ [(0, i)] from (show rwX i tn e ++ [if e < tn then (1, i) else (0, i)] = _ by rw [if_neg c9])]
          exact z
        generalize z_ui (z_ui μ2 15 (q + sl.length + e) (nI 0)) 16 (q + sl.length + e) (nI i) = μ3 at g2 ⊢
        refine z_rcs hc hH 3 (pc' := 158) (lv' := [(9, .int ((nI e) + 1)), (3, .int ((nI (q + sl.length + e)) + 1)), (8, .int (nI lf)), (7, .int (nI tn)), (6, .int (nI i)), (4, .int r1), (5, .int r2), (0, .ref 14), (1, .long ch)]) (st' := []) (μ' := μ3) (by rfl) ?_
        rw [nI_1, nI_1]
        exact (ih (e + 1) (by omega) μ3 g2).2
theorem fw63 (d' : Nat) (Z : zK) (hd : 1 ≤ d') (μ : zM) (w : Nat → Nat) (p : Nat) (v : Nat → Nat) (hw : RW μ 10 w) (hp : p < 34) (h2p : 2 ≤ w p) (hv : ∀ k, v k = if k = p then w k - 2 else w k) (h15 : μ.1 14 15 = nI p) (ht : μ.2.2 14 = 9) (ch : Int64) (t : Nat → Nat) (ht9 : ∀ k, t k = tH ch k) (q : Nat) (hq : q ≤ 4) (e4 : μ.1 9 4 = nI q) (sL lL : Nat → Nat) (hc : z_clo z_x0 mi_X1_fillWay (z_C d') Z) (hr : z_ret mi_X1_fillWay (FWQ μ v t q sL lL) Z) : ∀ n i, i + n = 34 → ∀ r, PF v t r i → q + (flt t r i 0).length ≤ 4 → ∀ μ1, FR μ μ1 q sL lL (flt t r i 0) → Z 0 63 [(6, .int (nI i)), (5, .int (nI (sh2 r i))), (4, .int (nI (sh1 r i))), (3, .int (nI (q + (flt t r i 0).length))), (0, .ref 14), (1, .long ch)] [] μ1 ∧ ∀ x7 x8 x9, Z 0 63 [(6, .int (nI i)), (4, .int (nI (sh1 r i))), (5, .int (nI (sh2 r i))), (9, .int x9), (8, .int x8), (7, .int x7), (3, .int (nI (q + (flt t r i 0).length))), (0, .ref 14), (1, .long ch)] [] μ1 ∧ Z 0 63 [(6, .int (nI i)), (4, .int (nI (sh1 r i))), (5, .int (nI (sh2 r i))), (9, .int x9), (3, .int (nI (q + (flt t r i 0).length))), (8, .int x8), (7, .int x7), (0, .ref 14), (1, .long ch)] [] μ1 := by
  have hH := zh_X1_fillWay
  have tle : ∀ k, t k ≤ 1 := fun k => by rw [ht9]; unfold tH; split <;> omega
  intro n
  induction n with
  | zero =>
    intro i hi r hP h4 μ1 g
    have hi : i = 34 := by omega
    subst hi
    have hl := flt_len t r 34
    have un : ∀ r', PW v t r' → ∀ k, k < 34 → r' k = r k := fun r' hr' => PF_un hP hr'.2 (by omega) 34 (by omega)
    have sneq : ∀ r', PW v t r' → sn (fun k => t k + r' k) 34 = sn (fun k => t k + r k) 34 := fun r' hr' => sn_congr (fun k hk => by rw [un r' hr' k hk])
    refine ⟨?_, fun x7 x8 x9 => ⟨?_, ?_⟩⟩
    · by_cases hh9 : q + (flt t r 34 0).length = 4
      · skip
        refine z_rcs hc hH 2 (pc' := 67) (lv' := [(6, .int (nI 34)), (5, .int (nI (sh2 r 34))), (4, .int (nI (sh1 r 34))), (3, .int (nI (q + (flt t r 34 0).length))), (0, .ref 14), (1, .long ch)]) (st' := [.int 34, .int (nI 34)]) (μ' := μ1) (by rfl) ?_
        refine zq_ic hc hH (by rfl) (tg := 222) (by rfl) (fun _ => ?_) (fun h9 => (zb_t (ge_nIt (n := 34) (i := 34) (by decide) (by decide)) h9).elim)
        refine z_rcs hc hH 2 (pc' := 224) (lv' := [(6, .int (nI 34)), (5, .int (nI (sh2 r 34))), (4, .int (nI (sh1 r 34))), (3, .int (nI (q + (flt t r 34 0).length))), (0, .ref 14), (1, .long ch)]) (st' := [.int 4, .int (nI (q + (flt t r 34 0).length))]) (μ' := μ1) (by rfl) ?_
        refine zq_ic hc hH (by rfl) (tg := 231) (by rfl) (fun h9 => (zb_t h9 (cn_ne.mpr (by rw [hh9]; rfl))).elim) (fun _ => ?_)
        refine z_rcs hc hH 2 (pc' := 232) (lv' := [(6, .int (nI 34)), (5, .int (nI (sh2 r 34))), (4, .int (nI (sh1 r 34))), (3, .int (nI (q + (flt t r 34 0).length))), (0, .ref 14), (1, .long ch)]) (st' := [.int 1]) (μ' := μ1) (by rfl) ?_
        exact hr 0 232 _ _ _ (some (.int 1)) (by decide +kernel) (by rfl) (⟨true, rfl, g.2.1, g.2.2, fun _ => ⟨r, ⟨fun k hk => (hP.1 k hk).1, hP.2⟩, by omega, fun j hj => g.1 j (by omega)⟩, fun z => absurd z (by decide)⟩)
      · skip
        refine z_rcs hc hH 2 (pc' := 67) (lv' := [(6, .int (nI 34)), (5, .int (nI (sh2 r 34))), (4, .int (nI (sh1 r 34))), (3, .int (nI (q + (flt t r 34 0).length))), (0, .ref 14), (1, .long ch)]) (st' := [.int 34, .int (nI 34)]) (μ' := μ1) (by rfl) ?_
        refine zq_ic hc hH (by rfl) (tg := 222) (by rfl) (fun _ => ?_) (fun h9 => (zb_t (ge_nIt (n := 34) (i := 34) (by decide) (by decide)) h9).elim)
        refine z_rcs hc hH 2 (pc' := 224) (lv' := [(6, .int (nI 34)), (5, .int (nI (sh2 r 34))), (4, .int (nI (sh1 r 34))), (3, .int (nI (q + (flt t r 34 0).length))), (0, .ref 14), (1, .long ch)]) (st' := [.int 4, .int (nI (q + (flt t r 34 0).length))]) (μ' := μ1) (by rfl) ?_
        refine zq_ic hc hH (by rfl) (tg := 231) (by rfl) (fun _ => ?_) (fun h9 => (zb_t (cm_ne.mpr (fun z => hh9 ((nI_eq (by omega) (by decide)).mp z))) h9).elim)
        refine z_rcs hc hH 1 (pc' := 232) (lv' := [(6, .int (nI 34)), (5, .int (nI (sh2 r 34))), (4, .int (nI (sh1 r 34))), (3, .int (nI (q + (flt t r 34 0).length))), (0, .ref 14), (1, .long ch)]) (st' := [.int 0]) (μ' := μ1) (by rfl) ?_
        exact hr 0 232 _ _ _ (some (.int 0)) (by decide +kernel) (by rfl) (⟨false, rfl, g.2.1, g.2.2, fun z => absurd z (by decide), fun _ ⟨r', hr', hs⟩ => by rw [sneq r' hr'] at hs; omega⟩)
    · by_cases hh9 : q + (flt t r 34 0).length = 4
      · skip
        refine z_rcs hc hH 2 (pc' := 67) (lv' := [(6, .int (nI 34)), (4, .int (nI (sh1 r 34))), (5, .int (nI (sh2 r 34))), (9, .int x9), (8, .int x8), (7, .int x7), (3, .int (nI (q + (flt t r 34 0).length))), (0, .ref 14), (1, .long ch)]) (st' := [.int 34, .int (nI 34)]) (μ' := μ1) (by rfl) ?_
        refine zq_ic hc hH (by rfl) (tg := 222) (by rfl) (fun _ => ?_) (fun h9 => (zb_t (ge_nIt (n := 34) (i := 34) (by decide) (by decide)) h9).elim)
        refine z_rcs hc hH 2 (pc' := 224) (lv' := [(6, .int (nI 34)), (4, .int (nI (sh1 r 34))), (5, .int (nI (sh2 r 34))), (9, .int x9), (8, .int x8), (7, .int x7), (3, .int (nI (q + (flt t r 34 0).length))), (0, .ref 14), (1, .long ch)]) (st' := [.int 4, .int (nI (q + (flt t r 34 0).length))]) (μ' := μ1) (by rfl) ?_
        refine zq_ic hc hH (by rfl) (tg := 231) (by rfl) (fun h9 => (zb_t h9 (cn_ne.mpr (by rw [hh9]; rfl))).elim) (fun _ => ?_)
        refine z_rcs hc hH 2 (pc' := 232) (lv' := [(6, .int (nI 34)), (4, .int (nI (sh1 r 34))), (5, .int (nI (sh2 r 34))), (9, .int x9), (8, .int x8), (7, .int x7), (3, .int (nI (q + (flt t r 34 0).length))), (0, .ref 14), (1, .long ch)]) (st' := [.int 1]) (μ' := μ1) (by rfl) ?_
        exact hr 0 232 _ _ _ (some (.int 1)) (by decide +kernel) (by rfl) (⟨true, rfl, g.2.1, g.2.2, fun _ => ⟨r, ⟨fun k hk => (hP.1 k hk).1, hP.2⟩, by omega, fun j hj => g.1 j (by omega)⟩, fun z => absurd z (by decide)⟩)
      · skip
        refine z_rcs hc hH 2 (pc' := 67) (lv' := [(6, .int (nI 34)), (4, .int (nI (sh1 r 34))), (5, .int (nI (sh2 r 34))), (9, .int x9), (8, .int x8), (7, .int x7), (3, .int (nI (q + (flt t r 34 0).length))), (0, .ref 14), (1, .long ch)]) (st' := [.int 34, .int (nI 34)]) (μ' := μ1) (by rfl) ?_
        refine zq_ic hc hH (by rfl) (tg := 222) (by rfl) (fun _ => ?_) (fun h9 => (zb_t (ge_nIt (n := 34) (i := 34) (by decide) (by decide)) h9).elim)
        refine z_rcs hc hH 2 (pc' := 224) (lv' := [(6, .int (nI 34)), (4, .int (nI (sh1 r 34))), (5, .int (nI (sh2 r 34))), (9, .int x9), (8, .int x8), (7, .int x7), (3, .int (nI (q + (flt t r 34 0).length))), (0, .ref 14), (1, .long ch)]) (st' := [.int 4, .int (nI (q + (flt t r 34 0).length))]) (μ' := μ1) (by rfl) ?_
        refine zq_ic hc hH (by rfl) (tg := 231) (by rfl) (fun _ => ?_) (fun h9 => (zb_t (cm_ne.mpr (fun z => hh9 ((nI_eq (by omega) (by decide)).mp z))) h9).elim)
        refine z_rcs hc hH 1 (pc' := 232) (lv' := [(6, .int (nI 34)), (4, .int (nI (sh1 r 34))), (5, .int (nI (sh2 r 34))), (9, .int x9), (8, .int x8), (7, .int x7), (3, .int (nI (q + (flt t r 34 0).length))), (0, .ref 14), (1, .long ch)]) (st' := [.int 0]) (μ' := μ1) (by rfl) ?_
        exact hr 0 232 _ _ _ (some (.int 0)) (by decide +kernel) (by rfl) (⟨false, rfl, g.2.1, g.2.2, fun z => absurd z (by decide), fun _ ⟨r', hr', hs⟩ => by rw [sneq r' hr'] at hs; omega⟩)
    · by_cases hh9 : q + (flt t r 34 0).length = 4
      · skip
        refine z_rcs hc hH 2 (pc' := 67) (lv' := [(6, .int (nI 34)), (4, .int (nI (sh1 r 34))), (5, .int (nI (sh2 r 34))), (9, .int x9), (3, .int (nI (q + (flt t r 34 0).length))), (8, .int x8), (7, .int x7), (0, .ref 14), (1, .long ch)]) (st' := [.int 34, .int (nI 34)]) (μ' := μ1) (by rfl) ?_
        refine zq_ic hc hH (by rfl) (tg := 222) (by rfl) (fun _ => ?_) (fun h9 => (zb_t (ge_nIt (n := 34) (i := 34) (by decide) (by decide)) h9).elim)
        refine z_rcs hc hH 2 (pc' := 224) (lv' := [(6, .int (nI 34)), (4, .int (nI (sh1 r 34))), (5, .int (nI (sh2 r 34))), (9, .int x9), (3, .int (nI (q + (flt t r 34 0).length))), (8, .int x8), (7, .int x7), (0, .ref 14), (1, .long ch)]) (st' := [.int 4, .int (nI (q + (flt t r 34 0).length))]) (μ' := μ1) (by rfl) ?_
        refine zq_ic hc hH (by rfl) (tg := 231) (by rfl) (fun h9 => (zb_t h9 (cn_ne.mpr (by rw [hh9]; rfl))).elim) (fun _ => ?_)
        refine z_rcs hc hH 2 (pc' := 232) (lv' := [(6, .int (nI 34)), (4, .int (nI (sh1 r 34))), (5, .int (nI (sh2 r 34))), (9, .int x9), (3, .int (nI (q + (flt t r 34 0).length))), (8, .int x8), (7, .int x7), (0, .ref 14), (1, .long ch)]) (st' := [.int 1]) (μ' := μ1) (by rfl) ?_
        exact hr 0 232 _ _ _ (some (.int 1)) (by decide +kernel) (by rfl) (⟨true, rfl, g.2.1, g.2.2, fun _ => ⟨r, ⟨fun k hk => (hP.1 k hk).1, hP.2⟩, by omega, fun j hj => g.1 j (by omega)⟩, fun z => absurd z (by decide)⟩)
      · skip
        refine z_rcs hc hH 2 (pc' := 67) (lv' := [(6, .int (nI 34)), (4, .int (nI (sh1 r 34))), (5, .int (nI (sh2 r 34))), (9, .int x9), (3, .int (nI (q + (flt t r 34 0).length))), (8, .int x8), (7, .int x7), (0, .ref 14), (1, .long ch)]) (st' := [.int 34, .int (nI 34)]) (μ' := μ1) (by rfl) ?_
        refine zq_ic hc hH (by rfl) (tg := 222) (by rfl) (fun _ => ?_) (fun h9 => (zb_t (ge_nIt (n := 34) (i := 34) (by decide) (by decide)) h9).elim)
        refine z_rcs hc hH 2 (pc' := 224) (lv' := [(6, .int (nI 34)), (4, .int (nI (sh1 r 34))), (5, .int (nI (sh2 r 34))), (9, .int x9), (3, .int (nI (q + (flt t r 34 0).length))), (8, .int x8), (7, .int x7), (0, .ref 14), (1, .long ch)]) (st' := [.int 4, .int (nI (q + (flt t r 34 0).length))]) (μ' := μ1) (by rfl) ?_
        refine zq_ic hc hH (by rfl) (tg := 231) (by rfl) (fun _ => ?_) (fun h9 => (zb_t (cm_ne.mpr (fun z => hh9 ((nI_eq (by omega) (by decide)).mp z))) h9).elim)
        refine z_rcs hc hH 1 (pc' := 232) (lv' := [(6, .int (nI 34)), (4, .int (nI (sh1 r 34))), (5, .int (nI (sh2 r 34))), (9, .int x9), (3, .int (nI (q + (flt t r 34 0).length))), (8, .int x8), (7, .int x7), (0, .ref 14), (1, .long ch)]) (st' := [.int 0]) (μ' := μ1) (by rfl) ?_
        exact hr 0 232 _ _ _ (some (.int 0)) (by decide +kernel) (by rfl) (⟨false, rfl, g.2.1, g.2.2, fun z => absurd z (by decide), fun _ ⟨r', hr', hs⟩ => by rw [sneq r' hr'] at hs; omega⟩)
  | succ n ih =>
    intro i hi r hP h4 μ1 g
    have hin : vp_in (nI i) 34 := vp_in_nI (by omega) (by decide)
    have ei : (nI i).toNatClampNeg = i := nI_clamp (by omega)
    have wi : μ1.1 10 i = nI (w i) := (a_Fz_at g.2.1 10 i (a_md_row (by decide))).trans (hw i (by omega)).1
    have bw := (hw i (by omega)).2
    have ht1 : μ1.2.2 14 = 9 := (g.2.1.2 14 (by decide)).trans ht
    have e151 : μ1.1 14 15 = nI p := (a_Fz_at g.2.1 14 15 (a_md_row (by decide))).trans h15
    have hl := flt_len t r i
    have bt := tle i
    have bv : v i < 6 := by rw [hv]; split <;> omega
    have rle : ∀ k, r k ≤ 4 := fun k => by
      by_cases z : r k = 0
      · omega
      · have hk := (hP.1 k z).2
        have := sn_le (f := fun k => t k + r k) hk
        have : t k + r k ≤ sn (fun k => t k + r k) i := this
        omega
    have b1 : sh1 r i ≤ 4 := by rcases i with _ | i; exact Nat.zero_le _; exact rle i
    have b2 : sh2 r i ≤ 4 := by rcases i with _ | _ | i; exact Nat.zero_le _; exact Nat.zero_le _; exact rle i
    have un : ∀ r', PW v t r' → ∀ k, k < i → r' k = r k := fun r' hr' => PF_un hP hr'.2 (by omega) i (by omega)
    have at_i : ∀ r', PW v t r' → v i = 3 * t i + r' i + sh1 r i + sh2 r i := fun r' hr' => by
      have := sh_eq (un r' hr')
      rw [← this.1, ← this.2]
      exact hr'.2 i (by omega)
    have sn_i : ∀ r', PW v t r' → sn (fun k => t k + r k) i + (t i + r' i) ≤ sn (fun k => t k + r' k) 34 := fun r' hr' => by
      have z := sn_ler (fun k => t k + r' k) (show i + 1 ≤ 34 by omega)
      have e : sn (fun k => t k + r' k) i = sn (fun k => t k + r k) i := sn_congr (fun k hk => by rw [un r' hr' k hk])
      have z : sn (fun k => t k + r' k) i + (t i + r' i) ≤ _ := z
      rw [e] at z
      exact z
    have xs := x_sub (v i) bv (t i) (by omega) (sh1 r i) (by omega) (sh2 r i) (by omega)
    have fail : (¬ ∃ r', PW v t r' ∧ sn (fun k => t k + r' k) 34 = 4 - q) → FWQ μ v t q sL lL (some (.int 0)) μ1 := fun z => ⟨false, rfl, g.2.1, g.2.2, fun y => absurd y (by decide), fun _ => z⟩
    refine ⟨?_, fun x7 x8 x9 => ⟨?_, ?_⟩⟩
    · skip
      have j142 : ∀ lf, v i = 3 * t i + lf + sh1 r i + sh2 r i → (lf ≠ 0 → rs i) → Z 0 142 [(8, .int (nI lf)), (7, .int (nI (t i))), (6, .int (nI i)), (5, .int (nI (sh2 r i))), (4, .int (nI (sh1 r i))), (3, .int (nI (q + (flt t r i 0).length))), (0, .ref 14), (1, .long ch)] [] μ1 := by
        intro lf hlf hrs
        have blf : lf < 6 := by omega
        have x4 := x_s4 (q + (flt t r i 0).length) (by omega) (t i) (by omega) lf blf
        by_cases hh9 : q + (flt t r i 0).length + t i + lf ≤ 4
        · skip
          refine z_rcs hc hH 6 (pc' := 150) (lv' := [(8, .int (nI lf)), (7, .int (nI (t i))), (6, .int (nI i)), (5, .int (nI (sh2 r i))), (4, .int (nI (sh1 r i))), (3, .int (nI (q + (flt t r i 0).length))), (0, .ref 14), (1, .long ch)]) (st' := [.int 4, .int (((nI (q + (flt t r i 0).length)) + (nI (t i))) + (nI lf))]) (μ' := μ1) (by rfl) ?_
          refine zq_ic hc hH (by rfl) (tg := 155) (by rfl) (fun _ => ?_) (fun h9 => (zb_t (by rw [x4.1]; exact decide_eq_true hh9) h9).elim)
          refine z_rcs hc hH 2 (pc' := 158) (lv' := [(9, .int 0), (8, .int (nI lf)), (7, .int (nI (t i))), (6, .int (nI i)), (5, .int (nI (sh2 r i))), (4, .int (nI (sh1 r i))), (3, .int (nI (q + (flt t r i 0).length))), (0, .ref 14), (1, .long ch)]) (st' := []) (μ' := μ1) (by rfl) ?_
          refine (fw158_0 d' Z hd μ w p v hw hp h2p hv h15 ht ch t ht9 q hq e4 sL lL hc hr i (t i) lf (flt t r i 0) _ _ (by omega) (by omega) (fun μ2 g2 x7 x8 x9 => ?_) (t i + lf) 0 (by omega) μ1 (by rw [show flt t r i 0 ++ rwX i (t i) 0 = flt t r i 0 from List.append_nil _]; exact g)).1
          rw [rwX_b] at g2
          have hr' : ∀ k, k < i → (fun k => if k = i then lf else r k) k = r k := fun k hk => if_neg (by omega)
          have ef : flt t (fun k => if k = i then lf else r k) (i + 1) 0 = flt t r i 0 ++ (List.replicate (t i) (1, i) ++ List.replicate lf (0, i)) := by
            rw [flt_snoc, Nat.zero_add, flt_congr i 0 (fun j _ h2 => ⟨rfl, hr' j (by omega)⟩)]
            show _ ++ (_ ++ List.replicate (if i = i then lf else r i) (0, i)) = _
            rw [if_pos rfl]
          have el : (flt t (fun k => if k = i then lf else r k) (i + 1) 0).length = (flt t r i 0).length + (t i + lf) := by rw [ef, List.length_append, List.length_append, List.length_replicate, List.length_replicate]
          have s1 : sh1 (fun k => if k = i then lf else r k) (i + 1) = lf := if_pos rfl
          have s2 : sh2 (fun k => if k = i then lf else r k) (i + 1) = sh1 r i := (sh_eq hr').1
          have hP2 : PF v t (fun k => if k = i then lf else r k) (i + 1) := by
            refine ⟨fun k hk => ?_, fun k hk => ?_⟩
            · by_cases e : k = i
              · rw [e]; refine ⟨hrs (fun z => hk (by show (if k = i then lf else r k) = 0; rw [if_pos e, z])), by omega⟩
              · have hk : (if k = i then lf else r k) ≠ 0 := hk
                rw [if_neg e] at hk; have := hP.1 k hk; exact ⟨this.1, by omega⟩
            · by_cases e : k = i
              · rw [e]; have := sh_eq hr'; show v i = 3 * t i + (if i = i then lf else r i) + _ + _; rw [this.1, this.2, if_pos rfl]; exact hlf
              · have := sh_eq (i := k) (fun j hj => hr' j (by omega)); show v k = 3 * t k + (if k = i then lf else r k) + _ + _; rw [this.1, this.2, if_neg e]; exact hP.2 k (by omega)
          have z := (ih (i + 1) (by omega) (fun k => if k = i then lf else r k) hP2 (by rw [el]; omega) μ2 (by rw [ef]; exact g2)).2 x7 x8 x9
          rw [el, s1, s2, ← Nat.add_assoc] at z
          exact z
        · skip
          refine z_rcs hc hH 6 (pc' := 150) (lv' := [(8, .int (nI lf)), (7, .int (nI (t i))), (6, .int (nI i)), (5, .int (nI (sh2 r i))), (4, .int (nI (sh1 r i))), (3, .int (nI (q + (flt t r i 0).length))), (0, .ref 14), (1, .long ch)]) (st' := [.int 4, .int (((nI (q + (flt t r i 0).length)) + (nI (t i))) + (nI lf))]) (μ' := μ1) (by rfl) ?_
          refine zq_ic hc hH (by rfl) (tg := 155) (by rfl) (fun h9 => (zb_t h9 (by rw [x4.1]; exact decide_eq_false hh9)).elim) (fun _ => ?_)
          refine z_rcs hc hH 1 (pc' := 154) (lv' := [(8, .int (nI lf)), (7, .int (nI (t i))), (6, .int (nI i)), (5, .int (nI (sh2 r i))), (4, .int (nI (sh1 r i))), (3, .int (nI (q + (flt t r i 0).length))), (0, .ref 14), (1, .long ch)]) (st' := [.int 0]) (μ' := μ1) (by rfl) ?_
          exact hr 0 154 _ _ _ (some (.int 0)) (by decide +kernel) (by rfl) (fail (fun ⟨r', hr', hs⟩ => by have := at_i r' hr'; have := sn_i r' hr'; omega))
      have j111 : Z 0 111 [(7, .int (nI (t i))), (6, .int (nI i)), (5, .int (nI (sh2 r i))), (4, .int (nI (sh1 r i))), (3, .int (nI (q + (flt t r i 0).length))), (0, .ref 14), (1, .long ch)] [.int (nI (v i))] μ1 := by
        by_cases hle : 3 * t i + sh1 r i + sh2 r i ≤ v i
        · have eX := xs.1 hle
          have bl : v i - (3 * t i + sh1 r i + sh2 r i) < 6 := by omega
          have nl := x_nl _ bl
          have J := j142 (v i - (3 * t i + sh1 r i + sh2 r i)) (by omega)
          refine z_rcs hc hH 8 (pc' := 122) (lv' := [(7, .int (nI (t i))), (6, .int (nI i)), (5, .int (nI (sh2 r i))), (4, .int (nI (sh1 r i))), (3, .int (nI (q + (flt t r i 0).length))), (0, .ref 14), (1, .long ch)]) (st' := [.int ((((nI (v i)) - (3 * (nI (t i)))) - (nI (sh1 r i))) - (nI (sh2 r i)))]) (μ' := μ1) (by rfl) ?_
          rw [eX]
          show Z 0 122 [(7, .int (nI (t i))), (6, .int (nI i)), (5, .int (nI (sh2 r i))), (4, .int (nI (sh1 r i))), (3, .int (nI (q + (flt t r i 0).length))), (0, .ref 14), (1, .long ch)] [.int (nI (v i - (3 * t i + sh1 r i + sh2 r i)))] μ1
          refine z_rcs hc hH 2 (pc' := 126) (lv' := [(8, .int (nI (v i - (3 * t i + sh1 r i + sh2 r i)))), (7, .int (nI (t i))), (6, .int (nI i)), (5, .int (nI (sh2 r i))), (4, .int (nI (sh1 r i))), (3, .int (nI (q + (flt t r i 0).length))), (0, .ref 14), (1, .long ch)]) (st' := [.int (nI (v i - (3 * t i + sh1 r i + sh2 r i)))]) (μ' := μ1) (by rfl) ?_
          refine zq_if hc hH (by rfl) (tg := 153) (by rfl) (fun h9 => (zb_t h9 (nl.1)).elim) (fun _ => ?_)
          refine z_rcs hc hH 1 (pc' := 131) (lv' := [(8, .int (nI (v i - (3 * t i + sh1 r i + sh2 r i)))), (7, .int (nI (t i))), (6, .int (nI i)), (5, .int (nI (sh2 r i))), (4, .int (nI (sh1 r i))), (3, .int (nI (q + (flt t r i 0).length))), (0, .ref 14), (1, .long ch)]) (st' := [.int (nI (v i - (3 * t i + sh1 r i + sh2 r i)))]) (μ' := μ1) (by rfl) ?_
          by_cases h0 : v i - (3 * t i + sh1 r i + sh2 r i) = 0
          · skip
            refine zq_if hc hH (by rfl) (tg := 142) (by rfl) (fun _ => ?_) (fun h9 => (zb_t (by rw [nl.2]; exact decide_eq_true h0) h9).elim)
            exact J (fun z => absurd h0 z)
          · skip
            refine zq_if hc hH (by rfl) (tg := 142) (by rfl) (fun h9 => (zb_t h9 (by rw [nl.2]; exact decide_eq_false h0)).elim) (fun _ => ?_)
            refine z_rcs hc hH 1 (pc' := 136) (lv' := [(8, .int (nI (v i - (3 * t i + sh1 r i + sh2 r i)))), (7, .int (nI (t i))), (6, .int (nI i)), (5, .int (nI (sh2 r i))), (4, .int (nI (sh1 r i))), (3, .int (nI (q + (flt t r i 0).length))), (0, .ref 14), (1, .long ch)]) (st' := [.int (nI i)]) (μ' := μ1) (by rfl) ?_
            refine zq_call hc (by rfl) (fc_X6_startsRun d' (by omega) μ1 (nI i)) (by decide +kernel) (fun r9 μ9 hq => ?_)
            obtain ⟨hμ9, hq⟩ := hq
            rw [hμ9]
            clear hμ9 μ9
            obtain ⟨rfl, hsr⟩ | ⟨rfl, hsr⟩ := hq
            · show Z 0 139 [(8, .int (nI (v i - (3 * t i + sh1 r i + sh2 r i)))), (7, .int (nI (t i))), (6, .int (nI i)), (5, .int (nI (sh2 r i))), (4, .int (nI (sh1 r i))), (3, .int (nI (q + (flt t r i 0).length))), (0, .ref 14), (1, .long ch)] [.int 1] μ1
              refine z_rcs hc hH 1 (pc' := 142) (lv' := [(8, .int (nI (v i - (3 * t i + sh1 r i + sh2 r i)))), (7, .int (nI (t i))), (6, .int (nI i)), (5, .int (nI (sh2 r i))), (4, .int (nI (sh1 r i))), (3, .int (nI (q + (flt t r i 0).length))), (0, .ref 14), (1, .long ch)]) (st' := []) (μ' := μ1) (by rfl) ?_
              exact J (fun _ => (sr_rs i (by omega)).mp hsr)
            · show Z 0 139 [(8, .int (nI (v i - (3 * t i + sh1 r i + sh2 r i)))), (7, .int (nI (t i))), (6, .int (nI i)), (5, .int (nI (sh2 r i))), (4, .int (nI (sh1 r i))), (3, .int (nI (q + (flt t r i 0).length))), (0, .ref 14), (1, .long ch)] [.int 0] μ1
              refine z_rcs hc hH 2 (pc' := 154) (lv' := [(8, .int (nI (v i - (3 * t i + sh1 r i + sh2 r i)))), (7, .int (nI (t i))), (6, .int (nI i)), (5, .int (nI (sh2 r i))), (4, .int (nI (sh1 r i))), (3, .int (nI (q + (flt t r i 0).length))), (0, .ref 14), (1, .long ch)]) (st' := [.int 0]) (μ' := μ1) (by rfl) ?_
              exact hr 0 154 _ _ _ (some (.int 0)) (by decide +kernel) (by rfl) (fail (fun ⟨r', hr', hs⟩ => by have := at_i r' hr'; exact hsr ((sr_rs i (by omega)).mpr (hr'.1 i (by omega)))))
        · have lX := xs.2 hle
          refine z_rcs hc hH 10 (pc' := 126) (lv' := [(8, .int ((((nI (v i)) - (3 * (nI (t i)))) - (nI (sh1 r i))) - (nI (sh2 r i)))), (7, .int (nI (t i))), (6, .int (nI i)), (5, .int (nI (sh2 r i))), (4, .int (nI (sh1 r i))), (3, .int (nI (q + (flt t r i 0).length))), (0, .ref 14), (1, .long ch)]) (st' := [.int ((((nI (v i)) - (3 * (nI (t i)))) - (nI (sh1 r i))) - (nI (sh2 r i)))]) (μ' := μ1) (by rfl) ?_
          refine zq_if hc hH (by rfl) (tg := 153) (by rfl) (fun _ => ?_) (fun h9 => (zb_t (lX) h9).elim)
          refine z_rcs hc hH 1 (pc' := 154) (lv' := [(8, .int ((((nI (v i)) - (3 * (nI (t i)))) - (nI (sh1 r i))) - (nI (sh2 r i)))), (7, .int (nI (t i))), (6, .int (nI i)), (5, .int (nI (sh2 r i))), (4, .int (nI (sh1 r i))), (3, .int (nI (q + (flt t r i 0).length))), (0, .ref 14), (1, .long ch)]) (st' := [.int 0]) (μ' := μ1) (by rfl) ?_
          exact hr 0 154 _ _ _ (some (.int 0)) (by decide +kernel) (by rfl) (fail (fun ⟨r', hr', hs⟩ => by have := at_i r' hr'; omega))
      have j86 : Z 0 86 [(7, .int (nI (t i))), (6, .int (nI i)), (5, .int (nI (sh2 r i))), (4, .int (nI (sh1 r i))), (3, .int (nI (q + (flt t r i 0).length))), (0, .ref 14), (1, .long ch)] [] μ1 := by
        refine z_rcs hc hH 1 (pc' := 87) (lv' := [(7, .int (nI (t i))), (6, .int (nI i)), (5, .int (nI (sh2 r i))), (4, .int (nI (sh1 r i))), (3, .int (nI (q + (flt t r i 0).length))), (0, .ref 14), (1, .long ch)]) (st' := [.ref 14]) (μ' := μ1) (by rfl) ?_
        refine zq_tget hc hH (by rfl) (ci := 0) (f := 5) (t := 9) (by decide +kernel) ht1 (by decide) ?_
        show Z 0 90 [(7, .int (nI (t i))), (6, .int (nI i)), (5, .int (nI (sh2 r i))), (4, .int (nI (sh1 r i))), (3, .int (nI (q + (flt t r i 0).length))), (0, .ref 14), (1, .long ch)] [.ref 9] μ1
        refine z_rcs hc hH 2 (pc' := 95) (lv' := [(7, .int (nI (t i))), (6, .int (nI i)), (5, .int (nI (sh2 r i))), (4, .int (nI (sh1 r i))), (3, .int (nI (q + (flt t r i 0).length))), (0, .ref 14), (1, .long ch)]) (st' := [.int (nI i), .ref 10]) (μ' := μ1) (by rfl) ?_
        refine zq_iald hc hH (by rfl) 34 (by decide +kernel) (hin) ?_
        rw [ei, wi]
        show Z 0 96 [(7, .int (nI (t i))), (6, .int (nI i)), (5, .int (nI (sh2 r i))), (4, .int (nI (sh1 r i))), (3, .int (nI (q + (flt t r i 0).length))), (0, .ref 14), (1, .long ch)] [.int (nI (w i))] μ1
        refine z_rcs hc hH 3 (pc' := 102) (lv' := [(7, .int (nI (t i))), (6, .int (nI i)), (5, .int (nI (sh2 r i))), (4, .int (nI (sh1 r i))), (3, .int (nI (q + (flt t r i 0).length))), (0, .ref 14), (1, .long ch)]) (st' := [.int (μ1.1 14 15), .int (nI i), .int (nI (w i))]) (μ' := μ1) (by rfl) ?_
        rw [e151]
        show Z 0 102 [(7, .int (nI (t i))), (6, .int (nI i)), (5, .int (nI (sh2 r i))), (4, .int (nI (sh1 r i))), (3, .int (nI (q + (flt t r i 0).length))), (0, .ref 14), (1, .long ch)] [.int (nI p), .int (nI i), .int (nI (w i))] μ1
        refine zq_ic hc hH (by rfl) (tg := 109) (by rfl) (fun h1 => ?_) (fun h1 => ?_)
        · have h1 := cm_ne.mp h1
          refine z_rcs hc hH 2 (pc' := 111) (lv' := [(7, .int (nI (t i))), (6, .int (nI i)), (5, .int (nI (sh2 r i))), (4, .int (nI (sh1 r i))), (3, .int (nI (q + (flt t r i 0).length))), (0, .ref 14), (1, .long ch)]) (st' := [.int ((nI (w i)) - 0)]) (μ' := μ1) (by rfl) ?_
          have ev : nI (w i) - 0 = nI (v i) := by rw [hv, if_neg (fun z => h1 (by rw [z])), Int32.sub_zero]
          rw [ev]
          exact j111
        · have h1 := cn_ne.mp h1
          refine z_rcs hc hH 3 (pc' := 111) (lv' := [(7, .int (nI (t i))), (6, .int (nI i)), (5, .int (nI (sh2 r i))), (4, .int (nI (sh1 r i))), (3, .int (nI (q + (flt t r i 0).length))), (0, .ref 14), (1, .long ch)]) (st' := [.int ((nI (w i)) - 2)]) (μ' := μ1) (by rfl) ?_
          have hip : i = p := (nI_eq (by omega) (by omega)).mp h1
          have ev : nI (w i) - 2 = nI (v i) := by rw [hv, if_pos hip]; exact l_2 (w i) (by omega) (by rw [hip]; exact h2p)
          rw [ev]
          exact j111
      refine z_rcs hc hH 2 (pc' := 67) (lv' := [(6, .int (nI i)), (5, .int (nI (sh2 r i))), (4, .int (nI (sh1 r i))), (3, .int (nI (q + (flt t r i 0).length))), (0, .ref 14), (1, .long ch)]) (st' := [.int 34, .int (nI i)]) (μ' := μ1) (by rfl) ?_
      refine zq_ic hc hH (by rfl) (tg := 222) (by rfl) (fun h9 => (zb_t h9 (ge_nI (n := 34) (i := i) (by omega) (by decide))).elim) (fun _ => ?_)
      refine z_rcs hc hH 2 (pc' := 73) (lv' := [(6, .int (nI i)), (5, .int (nI (sh2 r i))), (4, .int (nI (sh1 r i))), (3, .int (nI (q + (flt t r i 0).length))), (0, .ref 14), (1, .long ch)]) (st' := [.int (nI i), .long ch]) (μ' := μ1) (by rfl) ?_
      refine zq_call hc (by rfl) (fb_X6_holds d' (by omega) μ1 ch (nI i)) (by decide +kernel) (fun r9 μ9 hq => ?_)
      obtain ⟨hμ9, rfl⟩ := hq
      rw [hμ9]
      clear hμ9 μ9
      show Z 0 76 [(6, .int (nI i)), (5, .int (nI (sh2 r i))), (4, .int (nI (sh1 r i))), (3, .int (nI (q + (flt t r i 0).length))), (0, .ref 14), (1, .long ch)] [.int (nB (xHd ch (nI i)))] μ1
      have tdef := ht9 i
      unfold tH at tdef
      generalize xHd ch (nI i) = bb at tdef ⊢
      show Z 0 76 [(6, .int (nI i)), (5, .int (nI (sh2 r i))), (4, .int (nI (sh1 r i))), (3, .int (nI (q + (flt t r i 0).length))), (0, .ref 14), (1, .long ch)] [.int (nB bb)] μ1
      refine zq_if hc hH (by rfl) (tg := 83) (by rfl) (fun h1 => ?_) (fun h1 => ?_)
      · have h1 := cm_eq9.mp h1
        refine z_rcs hc hH 1 (pc' := 84) (lv' := [(6, .int (nI i)), (5, .int (nI (sh2 r i))), (4, .int (nI (sh1 r i))), (3, .int (nI (q + (flt t r i 0).length))), (0, .ref 14), (1, .long ch)]) (st' := [.int 0]) (μ' := μ1) (by rfl) ?_
        have eb : bb = false := nB_z.mp h1
        rw [eb, if_neg (by decide)] at tdef
        refine z_rcs hc hH 1 (pc' := 86) (lv' := [(7, .int 0), (6, .int (nI i)), (5, .int (nI (sh2 r i))), (4, .int (nI (sh1 r i))), (3, .int (nI (q + (flt t r i 0).length))), (0, .ref 14), (1, .long ch)]) (st' := []) (μ' := μ1) (by rfl) ?_
        have j := j86
        exact zJ j86 (by rw [tdef]; rfl) rfl rfl
      · have h1 := cn_eq.mp h1
        refine z_rcs hc hH 2 (pc' := 84) (lv' := [(6, .int (nI i)), (5, .int (nI (sh2 r i))), (4, .int (nI (sh1 r i))), (3, .int (nI (q + (flt t r i 0).length))), (0, .ref 14), (1, .long ch)]) (st' := [.int 1]) (μ' := μ1) (by rfl) ?_
        have eb : bb = true := nB_n.mp h1
        rw [eb, if_pos rfl] at tdef
        refine z_rcs hc hH 1 (pc' := 86) (lv' := [(7, .int 1), (6, .int (nI i)), (5, .int (nI (sh2 r i))), (4, .int (nI (sh1 r i))), (3, .int (nI (q + (flt t r i 0).length))), (0, .ref 14), (1, .long ch)]) (st' := []) (μ' := μ1) (by rfl) ?_
        have j := j86
        exact zJ j86 (by rw [tdef]; rfl) rfl rfl
    · skip
      have j142 : ∀ lf, v i = 3 * t i + lf + sh1 r i + sh2 r i → (lf ≠ 0 → rs i) → Z 0 142 [(8, .int (nI lf)), (7, .int (nI (t i))), (6, .int (nI i)), (4, .int (nI (sh1 r i))), (5, .int (nI (sh2 r i))), (9, .int x9), (3, .int (nI (q + (flt t r i 0).length))), (0, .ref 14), (1, .long ch)] [] μ1 := by
        intro lf hlf hrs
        have blf : lf < 6 := by omega
        have x4 := x_s4 (q + (flt t r i 0).length) (by omega) (t i) (by omega) lf blf
        by_cases hh9 : q + (flt t r i 0).length + t i + lf ≤ 4
        · skip
          refine z_rcs hc hH 6 (pc' := 150) (lv' := [(8, .int (nI lf)), (7, .int (nI (t i))), (6, .int (nI i)), (4, .int (nI (sh1 r i))), (5, .int (nI (sh2 r i))), (9, .int x9), (3, .int (nI (q + (flt t r i 0).length))), (0, .ref 14), (1, .long ch)]) (st' := [.int 4, .int (((nI (q + (flt t r i 0).length)) + (nI (t i))) + (nI lf))]) (μ' := μ1) (by rfl) ?_
          refine zq_ic hc hH (by rfl) (tg := 155) (by rfl) (fun _ => ?_) (fun h9 => (zb_t (by rw [x4.1]; exact decide_eq_true hh9) h9).elim)
          refine z_rcs hc hH 2 (pc' := 158) (lv' := [(9, .int 0), (8, .int (nI lf)), (7, .int (nI (t i))), (6, .int (nI i)), (4, .int (nI (sh1 r i))), (5, .int (nI (sh2 r i))), (3, .int (nI (q + (flt t r i 0).length))), (0, .ref 14), (1, .long ch)]) (st' := []) (μ' := μ1) (by rfl) ?_
          refine (fw158_1 d' Z hd μ w p v hw hp h2p hv h15 ht ch t ht9 q hq e4 sL lL hc hr i (t i) lf (flt t r i 0) _ _ (by omega) (by omega) (fun μ2 g2 x7 x8 x9 => ?_) (t i + lf) 0 (by omega) μ1 (by rw [show flt t r i 0 ++ rwX i (t i) 0 = flt t r i 0 from List.append_nil _]; exact g)).1
          rw [rwX_b] at g2
          have hr' : ∀ k, k < i → (fun k => if k = i then lf else r k) k = r k := fun k hk => if_neg (by omega)
          have ef : flt t (fun k => if k = i then lf else r k) (i + 1) 0 = flt t r i 0 ++ (List.replicate (t i) (1, i) ++ List.replicate lf (0, i)) := by
            rw [flt_snoc, Nat.zero_add, flt_congr i 0 (fun j _ h2 => ⟨rfl, hr' j (by omega)⟩)]
            show _ ++ (_ ++ List.replicate (if i = i then lf else r i) (0, i)) = _
            rw [if_pos rfl]
          have el : (flt t (fun k => if k = i then lf else r k) (i + 1) 0).length = (flt t r i 0).length + (t i + lf) := by rw [ef, List.length_append, List.length_append, List.length_replicate, List.length_replicate]
          have s1 : sh1 (fun k => if k = i then lf else r k) (i + 1) = lf := if_pos rfl
          have s2 : sh2 (fun k => if k = i then lf else r k) (i + 1) = sh1 r i := (sh_eq hr').1
          have hP2 : PF v t (fun k => if k = i then lf else r k) (i + 1) := by
            refine ⟨fun k hk => ?_, fun k hk => ?_⟩
            · by_cases e : k = i
              · rw [e]; refine ⟨hrs (fun z => hk (by show (if k = i then lf else r k) = 0; rw [if_pos e, z])), by omega⟩
              · have hk : (if k = i then lf else r k) ≠ 0 := hk
                rw [if_neg e] at hk; have := hP.1 k hk; exact ⟨this.1, by omega⟩
            · by_cases e : k = i
              · rw [e]; have := sh_eq hr'; show v i = 3 * t i + (if i = i then lf else r i) + _ + _; rw [this.1, this.2, if_pos rfl]; exact hlf
              · have := sh_eq (i := k) (fun j hj => hr' j (by omega)); show v k = 3 * t k + (if k = i then lf else r k) + _ + _; rw [this.1, this.2, if_neg e]; exact hP.2 k (by omega)
          have z := (ih (i + 1) (by omega) (fun k => if k = i then lf else r k) hP2 (by rw [el]; omega) μ2 (by rw [ef]; exact g2)).2 x7 x8 x9
          rw [el, s1, s2, ← Nat.add_assoc] at z
          exact z
        · skip
          refine z_rcs hc hH 6 (pc' := 150) (lv' := [(8, .int (nI lf)), (7, .int (nI (t i))), (6, .int (nI i)), (4, .int (nI (sh1 r i))), (5, .int (nI (sh2 r i))), (9, .int x9), (3, .int (nI (q + (flt t r i 0).length))), (0, .ref 14), (1, .long ch)]) (st' := [.int 4, .int (((nI (q + (flt t r i 0).length)) + (nI (t i))) + (nI lf))]) (μ' := μ1) (by rfl) ?_
          refine zq_ic hc hH (by rfl) (tg := 155) (by rfl) (fun h9 => (zb_t h9 (by rw [x4.1]; exact decide_eq_false hh9)).elim) (fun _ => ?_)
          refine z_rcs hc hH 1 (pc' := 154) (lv' := [(8, .int (nI lf)), (7, .int (nI (t i))), (6, .int (nI i)), (4, .int (nI (sh1 r i))), (5, .int (nI (sh2 r i))), (9, .int x9), (3, .int (nI (q + (flt t r i 0).length))), (0, .ref 14), (1, .long ch)]) (st' := [.int 0]) (μ' := μ1) (by rfl) ?_
          exact hr 0 154 _ _ _ (some (.int 0)) (by decide +kernel) (by rfl) (fail (fun ⟨r', hr', hs⟩ => by have := at_i r' hr'; have := sn_i r' hr'; omega))
      have j111 : Z 0 111 [(7, .int (nI (t i))), (6, .int (nI i)), (4, .int (nI (sh1 r i))), (5, .int (nI (sh2 r i))), (9, .int x9), (8, .int x8), (3, .int (nI (q + (flt t r i 0).length))), (0, .ref 14), (1, .long ch)] [.int (nI (v i))] μ1 := by
        by_cases hle : 3 * t i + sh1 r i + sh2 r i ≤ v i
        · have eX := xs.1 hle
          have bl : v i - (3 * t i + sh1 r i + sh2 r i) < 6 := by omega
          have nl := x_nl _ bl
          have J := j142 (v i - (3 * t i + sh1 r i + sh2 r i)) (by omega)
          refine z_rcs hc hH 8 (pc' := 122) (lv' := [(7, .int (nI (t i))), (6, .int (nI i)), (4, .int (nI (sh1 r i))), (5, .int (nI (sh2 r i))), (9, .int x9), (8, .int x8), (3, .int (nI (q + (flt t r i 0).length))), (0, .ref 14), (1, .long ch)]) (st' := [.int ((((nI (v i)) - (3 * (nI (t i)))) - (nI (sh1 r i))) - (nI (sh2 r i)))]) (μ' := μ1) (by rfl) ?_
          rw [eX]
          show Z 0 122 [(7, .int (nI (t i))), (6, .int (nI i)), (4, .int (nI (sh1 r i))), (5, .int (nI (sh2 r i))), (9, .int x9), (8, .int x8), (3, .int (nI (q + (flt t r i 0).length))), (0, .ref 14), (1, .long ch)] [.int (nI (v i - (3 * t i + sh1 r i + sh2 r i)))] μ1
          refine z_rcs hc hH 2 (pc' := 126) (lv' := [(8, .int (nI (v i - (3 * t i + sh1 r i + sh2 r i)))), (7, .int (nI (t i))), (6, .int (nI i)), (4, .int (nI (sh1 r i))), (5, .int (nI (sh2 r i))), (9, .int x9), (3, .int (nI (q + (flt t r i 0).length))), (0, .ref 14), (1, .long ch)]) (st' := [.int (nI (v i - (3 * t i + sh1 r i + sh2 r i)))]) (μ' := μ1) (by rfl) ?_
          refine zq_if hc hH (by rfl) (tg := 153) (by rfl) (fun h9 => (zb_t h9 (nl.1)).elim) (fun _ => ?_)
          refine z_rcs hc hH 1 (pc' := 131) (lv' := [(8, .int (nI (v i - (3 * t i + sh1 r i + sh2 r i)))), (7, .int (nI (t i))), (6, .int (nI i)), (4, .int (nI (sh1 r i))), (5, .int (nI (sh2 r i))), (9, .int x9), (3, .int (nI (q + (flt t r i 0).length))), (0, .ref 14), (1, .long ch)]) (st' := [.int (nI (v i - (3 * t i + sh1 r i + sh2 r i)))]) (μ' := μ1) (by rfl) ?_
          by_cases h0 : v i - (3 * t i + sh1 r i + sh2 r i) = 0
          · skip
            refine zq_if hc hH (by rfl) (tg := 142) (by rfl) (fun _ => ?_) (fun h9 => (zb_t (by rw [nl.2]; exact decide_eq_true h0) h9).elim)
            exact J (fun z => absurd h0 z)
          · skip
            refine zq_if hc hH (by rfl) (tg := 142) (by rfl) (fun h9 => (zb_t h9 (by rw [nl.2]; exact decide_eq_false h0)).elim) (fun _ => ?_)
            refine z_rcs hc hH 1 (pc' := 136) (lv' := [(8, .int (nI (v i - (3 * t i + sh1 r i + sh2 r i)))), (7, .int (nI (t i))), (6, .int (nI i)), (4, .int (nI (sh1 r i))), (5, .int (nI (sh2 r i))), (9, .int x9), (3, .int (nI (q + (flt t r i 0).length))), (0, .ref 14), (1, .long ch)]) (st' := [.int (nI i)]) (μ' := μ1) (by rfl) ?_
            refine zq_call hc (by rfl) (fc_X6_startsRun d' (by omega) μ1 (nI i)) (by decide +kernel) (fun r9 μ9 hq => ?_)
            obtain ⟨hμ9, hq⟩ := hq
            rw [hμ9]
            clear hμ9 μ9
            obtain ⟨rfl, hsr⟩ | ⟨rfl, hsr⟩ := hq
            · show Z 0 139 [(8, .int (nI (v i - (3 * t i + sh1 r i + sh2 r i)))), (7, .int (nI (t i))), (6, .int (nI i)), (4, .int (nI (sh1 r i))), (5, .int (nI (sh2 r i))), (9, .int x9), (3, .int (nI (q + (flt t r i 0).length))), (0, .ref 14), (1, .long ch)] [.int 1] μ1
              refine z_rcs hc hH 1 (pc' := 142) (lv' := [(8, .int (nI (v i - (3 * t i + sh1 r i + sh2 r i)))), (7, .int (nI (t i))), (6, .int (nI i)), (4, .int (nI (sh1 r i))), (5, .int (nI (sh2 r i))), (9, .int x9), (3, .int (nI (q + (flt t r i 0).length))), (0, .ref 14), (1, .long ch)]) (st' := []) (μ' := μ1) (by rfl) ?_
              exact J (fun _ => (sr_rs i (by omega)).mp hsr)
            · show Z 0 139 [(8, .int (nI (v i - (3 * t i + sh1 r i + sh2 r i)))), (7, .int (nI (t i))), (6, .int (nI i)), (4, .int (nI (sh1 r i))), (5, .int (nI (sh2 r i))), (9, .int x9), (3, .int (nI (q + (flt t r i 0).length))), (0, .ref 14), (1, .long ch)] [.int 0] μ1
              refine z_rcs hc hH 2 (pc' := 154) (lv' := [(8, .int (nI (v i - (3 * t i + sh1 r i + sh2 r i)))), (7, .int (nI (t i))), (6, .int (nI i)), (4, .int (nI (sh1 r i))), (5, .int (nI (sh2 r i))), (9, .int x9), (3, .int (nI (q + (flt t r i 0).length))), (0, .ref 14), (1, .long ch)]) (st' := [.int 0]) (μ' := μ1) (by rfl) ?_
              exact hr 0 154 _ _ _ (some (.int 0)) (by decide +kernel) (by rfl) (fail (fun ⟨r', hr', hs⟩ => by have := at_i r' hr'; exact hsr ((sr_rs i (by omega)).mpr (hr'.1 i (by omega)))))
        · have lX := xs.2 hle
          refine z_rcs hc hH 10 (pc' := 126) (lv' := [(8, .int ((((nI (v i)) - (3 * (nI (t i)))) - (nI (sh1 r i))) - (nI (sh2 r i)))), (7, .int (nI (t i))), (6, .int (nI i)), (4, .int (nI (sh1 r i))), (5, .int (nI (sh2 r i))), (9, .int x9), (3, .int (nI (q + (flt t r i 0).length))), (0, .ref 14), (1, .long ch)]) (st' := [.int ((((nI (v i)) - (3 * (nI (t i)))) - (nI (sh1 r i))) - (nI (sh2 r i)))]) (μ' := μ1) (by rfl) ?_
          refine zq_if hc hH (by rfl) (tg := 153) (by rfl) (fun _ => ?_) (fun h9 => (zb_t (lX) h9).elim)
          refine z_rcs hc hH 1 (pc' := 154) (lv' := [(8, .int ((((nI (v i)) - (3 * (nI (t i)))) - (nI (sh1 r i))) - (nI (sh2 r i)))), (7, .int (nI (t i))), (6, .int (nI i)), (4, .int (nI (sh1 r i))), (5, .int (nI (sh2 r i))), (9, .int x9), (3, .int (nI (q + (flt t r i 0).length))), (0, .ref 14), (1, .long ch)]) (st' := [.int 0]) (μ' := μ1) (by rfl) ?_
          exact hr 0 154 _ _ _ (some (.int 0)) (by decide +kernel) (by rfl) (fail (fun ⟨r', hr', hs⟩ => by have := at_i r' hr'; omega))
      have j86 : Z 0 86 [(7, .int (nI (t i))), (6, .int (nI i)), (4, .int (nI (sh1 r i))), (5, .int (nI (sh2 r i))), (9, .int x9), (8, .int x8), (3, .int (nI (q + (flt t r i 0).length))), (0, .ref 14), (1, .long ch)] [] μ1 := by
        refine z_rcs hc hH 1 (pc' := 87) (lv' := [(7, .int (nI (t i))), (6, .int (nI i)), (4, .int (nI (sh1 r i))), (5, .int (nI (sh2 r i))), (9, .int x9), (8, .int x8), (3, .int (nI (q + (flt t r i 0).length))), (0, .ref 14), (1, .long ch)]) (st' := [.ref 14]) (μ' := μ1) (by rfl) ?_
        refine zq_tget hc hH (by rfl) (ci := 0) (f := 5) (t := 9) (by decide +kernel) ht1 (by decide) ?_
        show Z 0 90 [(7, .int (nI (t i))), (6, .int (nI i)), (4, .int (nI (sh1 r i))), (5, .int (nI (sh2 r i))), (9, .int x9), (8, .int x8), (3, .int (nI (q + (flt t r i 0).length))), (0, .ref 14), (1, .long ch)] [.ref 9] μ1
        refine z_rcs hc hH 2 (pc' := 95) (lv' := [(7, .int (nI (t i))), (6, .int (nI i)), (4, .int (nI (sh1 r i))), (5, .int (nI (sh2 r i))), (9, .int x9), (8, .int x8), (3, .int (nI (q + (flt t r i 0).length))), (0, .ref 14), (1, .long ch)]) (st' := [.int (nI i), .ref 10]) (μ' := μ1) (by rfl) ?_
        refine zq_iald hc hH (by rfl) 34 (by decide +kernel) (hin) ?_
        rw [ei, wi]
        show Z 0 96 [(7, .int (nI (t i))), (6, .int (nI i)), (4, .int (nI (sh1 r i))), (5, .int (nI (sh2 r i))), (9, .int x9), (8, .int x8), (3, .int (nI (q + (flt t r i 0).length))), (0, .ref 14), (1, .long ch)] [.int (nI (w i))] μ1
        refine z_rcs hc hH 3 (pc' := 102) (lv' := [(7, .int (nI (t i))), (6, .int (nI i)), (4, .int (nI (sh1 r i))), (5, .int (nI (sh2 r i))), (9, .int x9), (8, .int x8), (3, .int (nI (q + (flt t r i 0).length))), (0, .ref 14), (1, .long ch)]) (st' := [.int (μ1.1 14 15), .int (nI i), .int (nI (w i))]) (μ' := μ1) (by rfl) ?_
        rw [e151]
        show Z 0 102 [(7, .int (nI (t i))), (6, .int (nI i)), (4, .int (nI (sh1 r i))), (5, .int (nI (sh2 r i))), (9, .int x9), (8, .int x8), (3, .int (nI (q + (flt t r i 0).length))), (0, .ref 14), (1, .long ch)] [.int (nI p), .int (nI i), .int (nI (w i))] μ1
        refine zq_ic hc hH (by rfl) (tg := 109) (by rfl) (fun h1 => ?_) (fun h1 => ?_)
        · have h1 := cm_ne.mp h1
          refine z_rcs hc hH 2 (pc' := 111) (lv' := [(7, .int (nI (t i))), (6, .int (nI i)), (4, .int (nI (sh1 r i))), (5, .int (nI (sh2 r i))), (9, .int x9), (8, .int x8), (3, .int (nI (q + (flt t r i 0).length))), (0, .ref 14), (1, .long ch)]) (st' := [.int ((nI (w i)) - 0)]) (μ' := μ1) (by rfl) ?_
          have ev : nI (w i) - 0 = nI (v i) := by rw [hv, if_neg (fun z => h1 (by rw [z])), Int32.sub_zero]
          rw [ev]
          exact j111
        · have h1 := cn_ne.mp h1
          refine z_rcs hc hH 3 (pc' := 111) (lv' := [(7, .int (nI (t i))), (6, .int (nI i)), (4, .int (nI (sh1 r i))), (5, .int (nI (sh2 r i))), (9, .int x9), (8, .int x8), (3, .int (nI (q + (flt t r i 0).length))), (0, .ref 14), (1, .long ch)]) (st' := [.int ((nI (w i)) - 2)]) (μ' := μ1) (by rfl) ?_
          have hip : i = p := (nI_eq (by omega) (by omega)).mp h1
          have ev : nI (w i) - 2 = nI (v i) := by rw [hv, if_pos hip]; exact l_2 (w i) (by omega) (by rw [hip]; exact h2p)
          rw [ev]
          exact j111
      refine z_rcs hc hH 2 (pc' := 67) (lv' := [(6, .int (nI i)), (4, .int (nI (sh1 r i))), (5, .int (nI (sh2 r i))), (9, .int x9), (8, .int x8), (7, .int x7), (3, .int (nI (q + (flt t r i 0).length))), (0, .ref 14), (1, .long ch)]) (st' := [.int 34, .int (nI i)]) (μ' := μ1) (by rfl) ?_
      refine zq_ic hc hH (by rfl) (tg := 222) (by rfl) (fun h9 => (zb_t h9 (ge_nI (n := 34) (i := i) (by omega) (by decide))).elim) (fun _ => ?_)
      refine z_rcs hc hH 2 (pc' := 73) (lv' := [(6, .int (nI i)), (4, .int (nI (sh1 r i))), (5, .int (nI (sh2 r i))), (9, .int x9), (8, .int x8), (7, .int x7), (3, .int (nI (q + (flt t r i 0).length))), (0, .ref 14), (1, .long ch)]) (st' := [.int (nI i), .long ch]) (μ' := μ1) (by rfl) ?_
      refine zq_call hc (by rfl) (fb_X6_holds d' (by omega) μ1 ch (nI i)) (by decide +kernel) (fun r9 μ9 hq => ?_)
      obtain ⟨hμ9, rfl⟩ := hq
      rw [hμ9]
      clear hμ9 μ9
      show Z 0 76 [(6, .int (nI i)), (4, .int (nI (sh1 r i))), (5, .int (nI (sh2 r i))), (9, .int x9), (8, .int x8), (7, .int x7), (3, .int (nI (q + (flt t r i 0).length))), (0, .ref 14), (1, .long ch)] [.int (nB (xHd ch (nI i)))] μ1
      have tdef := ht9 i
      unfold tH at tdef
      generalize xHd ch (nI i) = bb at tdef ⊢
      show Z 0 76 [(6, .int (nI i)), (4, .int (nI (sh1 r i))), (5, .int (nI (sh2 r i))), (9, .int x9), (8, .int x8), (7, .int x7), (3, .int (nI (q + (flt t r i 0).length))), (0, .ref 14), (1, .long ch)] [.int (nB bb)] μ1
      refine zq_if hc hH (by rfl) (tg := 83) (by rfl) (fun h1 => ?_) (fun h1 => ?_)
      · have h1 := cm_eq9.mp h1
        refine z_rcs hc hH 1 (pc' := 84) (lv' := [(6, .int (nI i)), (4, .int (nI (sh1 r i))), (5, .int (nI (sh2 r i))), (9, .int x9), (8, .int x8), (7, .int x7), (3, .int (nI (q + (flt t r i 0).length))), (0, .ref 14), (1, .long ch)]) (st' := [.int 0]) (μ' := μ1) (by rfl) ?_
        have eb : bb = false := nB_z.mp h1
        rw [eb, if_neg (by decide)] at tdef
        refine z_rcs hc hH 1 (pc' := 86) (lv' := [(7, .int 0), (6, .int (nI i)), (4, .int (nI (sh1 r i))), (5, .int (nI (sh2 r i))), (9, .int x9), (8, .int x8), (3, .int (nI (q + (flt t r i 0).length))), (0, .ref 14), (1, .long ch)]) (st' := []) (μ' := μ1) (by rfl) ?_
        have j := j86
        exact zJ j86 (by rw [tdef]; rfl) rfl rfl
      · have h1 := cn_eq.mp h1
        refine z_rcs hc hH 2 (pc' := 84) (lv' := [(6, .int (nI i)), (4, .int (nI (sh1 r i))), (5, .int (nI (sh2 r i))), (9, .int x9), (8, .int x8), (7, .int x7), (3, .int (nI (q + (flt t r i 0).length))), (0, .ref 14), (1, .long ch)]) (st' := [.int 1]) (μ' := μ1) (by rfl) ?_
        have eb : bb = true := nB_n.mp h1
        rw [eb, if_pos rfl] at tdef
        refine z_rcs hc hH 1 (pc' := 86) (lv' := [(7, .int 1), (6, .int (nI i)), (4, .int (nI (sh1 r i))), (5, .int (nI (sh2 r i))), (9, .int x9), (8, .int x8), (3, .int (nI (q + (flt t r i 0).length))), (0, .ref 14), (1, .long ch)]) (st' := []) (μ' := μ1) (by rfl) ?_
        have j := j86
        exact zJ j86 (by rw [tdef]; rfl) rfl rfl
    · skip
      have j142 : ∀ lf, v i = 3 * t i + lf + sh1 r i + sh2 r i → (lf ≠ 0 → rs i) → Z 0 142 [(8, .int (nI lf)), (7, .int (nI (t i))), (6, .int (nI i)), (4, .int (nI (sh1 r i))), (5, .int (nI (sh2 r i))), (9, .int x9), (3, .int (nI (q + (flt t r i 0).length))), (0, .ref 14), (1, .long ch)] [] μ1 := by
        intro lf hlf hrs
        have blf : lf < 6 := by omega
        have x4 := x_s4 (q + (flt t r i 0).length) (by omega) (t i) (by omega) lf blf
        by_cases hh9 : q + (flt t r i 0).length + t i + lf ≤ 4
        · skip
          refine z_rcs hc hH 6 (pc' := 150) (lv' := [(8, .int (nI lf)), (7, .int (nI (t i))), (6, .int (nI i)), (4, .int (nI (sh1 r i))), (5, .int (nI (sh2 r i))), (9, .int x9), (3, .int (nI (q + (flt t r i 0).length))), (0, .ref 14), (1, .long ch)]) (st' := [.int 4, .int (((nI (q + (flt t r i 0).length)) + (nI (t i))) + (nI lf))]) (μ' := μ1) (by rfl) ?_
          refine zq_ic hc hH (by rfl) (tg := 155) (by rfl) (fun _ => ?_) (fun h9 => (zb_t (by rw [x4.1]; exact decide_eq_true hh9) h9).elim)
          refine z_rcs hc hH 2 (pc' := 158) (lv' := [(9, .int 0), (8, .int (nI lf)), (7, .int (nI (t i))), (6, .int (nI i)), (4, .int (nI (sh1 r i))), (5, .int (nI (sh2 r i))), (3, .int (nI (q + (flt t r i 0).length))), (0, .ref 14), (1, .long ch)]) (st' := []) (μ' := μ1) (by rfl) ?_
          refine (fw158_1 d' Z hd μ w p v hw hp h2p hv h15 ht ch t ht9 q hq e4 sL lL hc hr i (t i) lf (flt t r i 0) _ _ (by omega) (by omega) (fun μ2 g2 x7 x8 x9 => ?_) (t i + lf) 0 (by omega) μ1 (by rw [show flt t r i 0 ++ rwX i (t i) 0 = flt t r i 0 from List.append_nil _]; exact g)).1
          rw [rwX_b] at g2
          have hr' : ∀ k, k < i → (fun k => if k = i then lf else r k) k = r k := fun k hk => if_neg (by omega)
          have ef : flt t (fun k => if k = i then lf else r k) (i + 1) 0 = flt t r i 0 ++ (List.replicate (t i) (1, i) ++ List.replicate lf (0, i)) := by
            rw [flt_snoc, Nat.zero_add, flt_congr i 0 (fun j _ h2 => ⟨rfl, hr' j (by omega)⟩)]
            show _ ++ (_ ++ List.replicate (if i = i then lf else r i) (0, i)) = _
            rw [if_pos rfl]
          have el : (flt t (fun k => if k = i then lf else r k) (i + 1) 0).length = (flt t r i 0).length + (t i + lf) := by rw [ef, List.length_append, List.length_append, List.length_replicate, List.length_replicate]
          have s1 : sh1 (fun k => if k = i then lf else r k) (i + 1) = lf := if_pos rfl
          have s2 : sh2 (fun k => if k = i then lf else r k) (i + 1) = sh1 r i := (sh_eq hr').1
          have hP2 : PF v t (fun k => if k = i then lf else r k) (i + 1) := by
            refine ⟨fun k hk => ?_, fun k hk => ?_⟩
            · by_cases e : k = i
              · rw [e]; refine ⟨hrs (fun z => hk (by show (if k = i then lf else r k) = 0; rw [if_pos e, z])), by omega⟩
              · have hk : (if k = i then lf else r k) ≠ 0 := hk
                rw [if_neg e] at hk; have := hP.1 k hk; exact ⟨this.1, by omega⟩
            · by_cases e : k = i
              · rw [e]; have := sh_eq hr'; show v i = 3 * t i + (if i = i then lf else r i) + _ + _; rw [this.1, this.2, if_pos rfl]; exact hlf
              · have := sh_eq (i := k) (fun j hj => hr' j (by omega)); show v k = 3 * t k + (if k = i then lf else r k) + _ + _; rw [this.1, this.2, if_neg e]; exact hP.2 k (by omega)
          have z := (ih (i + 1) (by omega) (fun k => if k = i then lf else r k) hP2 (by rw [el]; omega) μ2 (by rw [ef]; exact g2)).2 x7 x8 x9
          rw [el, s1, s2, ← Nat.add_assoc] at z
          exact z
        · skip
          refine z_rcs hc hH 6 (pc' := 150) (lv' := [(8, .int (nI lf)), (7, .int (nI (t i))), (6, .int (nI i)), (4, .int (nI (sh1 r i))), (5, .int (nI (sh2 r i))), (9, .int x9), (3, .int (nI (q + (flt t r i 0).length))), (0, .ref 14), (1, .long ch)]) (st' := [.int 4, .int (((nI (q + (flt t r i 0).length)) + (nI (t i))) + (nI lf))]) (μ' := μ1) (by rfl) ?_
          refine zq_ic hc hH (by rfl) (tg := 155) (by rfl) (fun h9 => (zb_t h9 (by rw [x4.1]; exact decide_eq_false hh9)).elim) (fun _ => ?_)
          refine z_rcs hc hH 1 (pc' := 154) (lv' := [(8, .int (nI lf)), (7, .int (nI (t i))), (6, .int (nI i)), (4, .int (nI (sh1 r i))), (5, .int (nI (sh2 r i))), (9, .int x9), (3, .int (nI (q + (flt t r i 0).length))), (0, .ref 14), (1, .long ch)]) (st' := [.int 0]) (μ' := μ1) (by rfl) ?_
          exact hr 0 154 _ _ _ (some (.int 0)) (by decide +kernel) (by rfl) (fail (fun ⟨r', hr', hs⟩ => by have := at_i r' hr'; have := sn_i r' hr'; omega))
      have j111 : Z 0 111 [(7, .int (nI (t i))), (6, .int (nI i)), (4, .int (nI (sh1 r i))), (5, .int (nI (sh2 r i))), (9, .int x9), (3, .int (nI (q + (flt t r i 0).length))), (8, .int x8), (0, .ref 14), (1, .long ch)] [.int (nI (v i))] μ1 := by
        by_cases hle : 3 * t i + sh1 r i + sh2 r i ≤ v i
        · have eX := xs.1 hle
          have bl : v i - (3 * t i + sh1 r i + sh2 r i) < 6 := by omega
          have nl := x_nl _ bl
          have J := j142 (v i - (3 * t i + sh1 r i + sh2 r i)) (by omega)
          refine z_rcs hc hH 8 (pc' := 122) (lv' := [(7, .int (nI (t i))), (6, .int (nI i)), (4, .int (nI (sh1 r i))), (5, .int (nI (sh2 r i))), (9, .int x9), (3, .int (nI (q + (flt t r i 0).length))), (8, .int x8), (0, .ref 14), (1, .long ch)]) (st' := [.int ((((nI (v i)) - (3 * (nI (t i)))) - (nI (sh1 r i))) - (nI (sh2 r i)))]) (μ' := μ1) (by rfl) ?_
          rw [eX]
          show Z 0 122 [(7, .int (nI (t i))), (6, .int (nI i)), (4, .int (nI (sh1 r i))), (5, .int (nI (sh2 r i))), (9, .int x9), (3, .int (nI (q + (flt t r i 0).length))), (8, .int x8), (0, .ref 14), (1, .long ch)] [.int (nI (v i - (3 * t i + sh1 r i + sh2 r i)))] μ1
          refine z_rcs hc hH 2 (pc' := 126) (lv' := [(8, .int (nI (v i - (3 * t i + sh1 r i + sh2 r i)))), (7, .int (nI (t i))), (6, .int (nI i)), (4, .int (nI (sh1 r i))), (5, .int (nI (sh2 r i))), (9, .int x9), (3, .int (nI (q + (flt t r i 0).length))), (0, .ref 14), (1, .long ch)]) (st' := [.int (nI (v i - (3 * t i + sh1 r i + sh2 r i)))]) (μ' := μ1) (by rfl) ?_
          refine zq_if hc hH (by rfl) (tg := 153) (by rfl) (fun h9 => (zb_t h9 (nl.1)).elim) (fun _ => ?_)
          refine z_rcs hc hH 1 (pc' := 131) (lv' := [(8, .int (nI (v i - (3 * t i + sh1 r i + sh2 r i)))), (7, .int (nI (t i))), (6, .int (nI i)), (4, .int (nI (sh1 r i))), (5, .int (nI (sh2 r i))), (9, .int x9), (3, .int (nI (q + (flt t r i 0).length))), (0, .ref 14), (1, .long ch)]) (st' := [.int (nI (v i - (3 * t i + sh1 r i + sh2 r i)))]) (μ' := μ1) (by rfl) ?_
          by_cases h0 : v i - (3 * t i + sh1 r i + sh2 r i) = 0
          · skip
            refine zq_if hc hH (by rfl) (tg := 142) (by rfl) (fun _ => ?_) (fun h9 => (zb_t (by rw [nl.2]; exact decide_eq_true h0) h9).elim)
            exact J (fun z => absurd h0 z)
          · skip
            refine zq_if hc hH (by rfl) (tg := 142) (by rfl) (fun h9 => (zb_t h9 (by rw [nl.2]; exact decide_eq_false h0)).elim) (fun _ => ?_)
            refine z_rcs hc hH 1 (pc' := 136) (lv' := [(8, .int (nI (v i - (3 * t i + sh1 r i + sh2 r i)))), (7, .int (nI (t i))), (6, .int (nI i)), (4, .int (nI (sh1 r i))), (5, .int (nI (sh2 r i))), (9, .int x9), (3, .int (nI (q + (flt t r i 0).length))), (0, .ref 14), (1, .long ch)]) (st' := [.int (nI i)]) (μ' := μ1) (by rfl) ?_
            refine zq_call hc (by rfl) (fc_X6_startsRun d' (by omega) μ1 (nI i)) (by decide +kernel) (fun r9 μ9 hq => ?_)
            obtain ⟨hμ9, hq⟩ := hq
            rw [hμ9]
            clear hμ9 μ9
            obtain ⟨rfl, hsr⟩ | ⟨rfl, hsr⟩ := hq
            · show Z 0 139 [(8, .int (nI (v i - (3 * t i + sh1 r i + sh2 r i)))), (7, .int (nI (t i))), (6, .int (nI i)), (4, .int (nI (sh1 r i))), (5, .int (nI (sh2 r i))), (9, .int x9), (3, .int (nI (q + (flt t r i 0).length))), (0, .ref 14), (1, .long ch)] [.int 1] μ1
              refine z_rcs hc hH 1 (pc' := 142) (lv' := [(8, .int (nI (v i - (3 * t i + sh1 r i + sh2 r i)))), (7, .int (nI (t i))), (6, .int (nI i)), (4, .int (nI (sh1 r i))), (5, .int (nI (sh2 r i))), (9, .int x9), (3, .int (nI (q + (flt t r i 0).length))), (0, .ref 14), (1, .long ch)]) (st' := []) (μ' := μ1) (by rfl) ?_
              exact J (fun _ => (sr_rs i (by omega)).mp hsr)
            · show Z 0 139 [(8, .int (nI (v i - (3 * t i + sh1 r i + sh2 r i)))), (7, .int (nI (t i))), (6, .int (nI i)), (4, .int (nI (sh1 r i))), (5, .int (nI (sh2 r i))), (9, .int x9), (3, .int (nI (q + (flt t r i 0).length))), (0, .ref 14), (1, .long ch)] [.int 0] μ1
              refine z_rcs hc hH 2 (pc' := 154) (lv' := [(8, .int (nI (v i - (3 * t i + sh1 r i + sh2 r i)))), (7, .int (nI (t i))), (6, .int (nI i)), (4, .int (nI (sh1 r i))), (5, .int (nI (sh2 r i))), (9, .int x9), (3, .int (nI (q + (flt t r i 0).length))), (0, .ref 14), (1, .long ch)]) (st' := [.int 0]) (μ' := μ1) (by rfl) ?_
              exact hr 0 154 _ _ _ (some (.int 0)) (by decide +kernel) (by rfl) (fail (fun ⟨r', hr', hs⟩ => by have := at_i r' hr'; exact hsr ((sr_rs i (by omega)).mpr (hr'.1 i (by omega)))))
        · have lX := xs.2 hle
          refine z_rcs hc hH 10 (pc' := 126) (lv' := [(8, .int ((((nI (v i)) - (3 * (nI (t i)))) - (nI (sh1 r i))) - (nI (sh2 r i)))), (7, .int (nI (t i))), (6, .int (nI i)), (4, .int (nI (sh1 r i))), (5, .int (nI (sh2 r i))), (9, .int x9), (3, .int (nI (q + (flt t r i 0).length))), (0, .ref 14), (1, .long ch)]) (st' := [.int ((((nI (v i)) - (3 * (nI (t i)))) - (nI (sh1 r i))) - (nI (sh2 r i)))]) (μ' := μ1) (by rfl) ?_
          refine zq_if hc hH (by rfl) (tg := 153) (by rfl) (fun _ => ?_) (fun h9 => (zb_t (lX) h9).elim)
          refine z_rcs hc hH 1 (pc' := 154) (lv' := [(8, .int ((((nI (v i)) - (3 * (nI (t i)))) - (nI (sh1 r i))) - (nI (sh2 r i)))), (7, .int (nI (t i))), (6, .int (nI i)), (4, .int (nI (sh1 r i))), (5, .int (nI (sh2 r i))), (9, .int x9), (3, .int (nI (q + (flt t r i 0).length))), (0, .ref 14), (1, .long ch)]) (st' := [.int 0]) (μ' := μ1) (by rfl) ?_
          exact hr 0 154 _ _ _ (some (.int 0)) (by decide +kernel) (by rfl) (fail (fun ⟨r', hr', hs⟩ => by have := at_i r' hr'; omega))
      have j86 : Z 0 86 [(7, .int (nI (t i))), (6, .int (nI i)), (4, .int (nI (sh1 r i))), (5, .int (nI (sh2 r i))), (9, .int x9), (3, .int (nI (q + (flt t r i 0).length))), (8, .int x8), (0, .ref 14), (1, .long ch)] [] μ1 := by
        refine z_rcs hc hH 1 (pc' := 87) (lv' := [(7, .int (nI (t i))), (6, .int (nI i)), (4, .int (nI (sh1 r i))), (5, .int (nI (sh2 r i))), (9, .int x9), (3, .int (nI (q + (flt t r i 0).length))), (8, .int x8), (0, .ref 14), (1, .long ch)]) (st' := [.ref 14]) (μ' := μ1) (by rfl) ?_
        refine zq_tget hc hH (by rfl) (ci := 0) (f := 5) (t := 9) (by decide +kernel) ht1 (by decide) ?_
        show Z 0 90 [(7, .int (nI (t i))), (6, .int (nI i)), (4, .int (nI (sh1 r i))), (5, .int (nI (sh2 r i))), (9, .int x9), (3, .int (nI (q + (flt t r i 0).length))), (8, .int x8), (0, .ref 14), (1, .long ch)] [.ref 9] μ1
        refine z_rcs hc hH 2 (pc' := 95) (lv' := [(7, .int (nI (t i))), (6, .int (nI i)), (4, .int (nI (sh1 r i))), (5, .int (nI (sh2 r i))), (9, .int x9), (3, .int (nI (q + (flt t r i 0).length))), (8, .int x8), (0, .ref 14), (1, .long ch)]) (st' := [.int (nI i), .ref 10]) (μ' := μ1) (by rfl) ?_
        refine zq_iald hc hH (by rfl) 34 (by decide +kernel) (hin) ?_
        rw [ei, wi]
        show Z 0 96 [(7, .int (nI (t i))), (6, .int (nI i)), (4, .int (nI (sh1 r i))), (5, .int (nI (sh2 r i))), (9, .int x9), (3, .int (nI (q + (flt t r i 0).length))), (8, .int x8), (0, .ref 14), (1, .long ch)] [.int (nI (w i))] μ1
        refine z_rcs hc hH 3 (pc' := 102) (lv' := [(7, .int (nI (t i))), (6, .int (nI i)), (4, .int (nI (sh1 r i))), (5, .int (nI (sh2 r i))), (9, .int x9), (3, .int (nI (q + (flt t r i 0).length))), (8, .int x8), (0, .ref 14), (1, .long ch)]) (st' := [.int (μ1.1 14 15), .int (nI i), .int (nI (w i))]) (μ' := μ1) (by rfl) ?_
        rw [e151]
        show Z 0 102 [(7, .int (nI (t i))), (6, .int (nI i)), (4, .int (nI (sh1 r i))), (5, .int (nI (sh2 r i))), (9, .int x9), (3, .int (nI (q + (flt t r i 0).length))), (8, .int x8), (0, .ref 14), (1, .long ch)] [.int (nI p), .int (nI i), .int (nI (w i))] μ1
        refine zq_ic hc hH (by rfl) (tg := 109) (by rfl) (fun h1 => ?_) (fun h1 => ?_)
        · have h1 := cm_ne.mp h1
          refine z_rcs hc hH 2 (pc' := 111) (lv' := [(7, .int (nI (t i))), (6, .int (nI i)), (4, .int (nI (sh1 r i))), (5, .int (nI (sh2 r i))), (9, .int x9), (3, .int (nI (q + (flt t r i 0).length))), (8, .int x8), (0, .ref 14), (1, .long ch)]) (st' := [.int ((nI (w i)) - 0)]) (μ' := μ1) (by rfl) ?_
          have ev : nI (w i) - 0 = nI (v i) := by rw [hv, if_neg (fun z => h1 (by rw [z])), Int32.sub_zero]
          rw [ev]
          exact j111
        · have h1 := cn_ne.mp h1
          refine z_rcs hc hH 3 (pc' := 111) (lv' := [(7, .int (nI (t i))), (6, .int (nI i)), (4, .int (nI (sh1 r i))), (5, .int (nI (sh2 r i))), (9, .int x9), (3, .int (nI (q + (flt t r i 0).length))), (8, .int x8), (0, .ref 14), (1, .long ch)]) (st' := [.int ((nI (w i)) - 2)]) (μ' := μ1) (by rfl) ?_
          have hip : i = p := (nI_eq (by omega) (by omega)).mp h1
          have ev : nI (w i) - 2 = nI (v i) := by rw [hv, if_pos hip]; exact l_2 (w i) (by omega) (by rw [hip]; exact h2p)
          rw [ev]
          exact j111
      refine z_rcs hc hH 2 (pc' := 67) (lv' := [(6, .int (nI i)), (4, .int (nI (sh1 r i))), (5, .int (nI (sh2 r i))), (9, .int x9), (3, .int (nI (q + (flt t r i 0).length))), (8, .int x8), (7, .int x7), (0, .ref 14), (1, .long ch)]) (st' := [.int 34, .int (nI i)]) (μ' := μ1) (by rfl) ?_
      refine zq_ic hc hH (by rfl) (tg := 222) (by rfl) (fun h9 => (zb_t h9 (ge_nI (n := 34) (i := i) (by omega) (by decide))).elim) (fun _ => ?_)
      refine z_rcs hc hH 2 (pc' := 73) (lv' := [(6, .int (nI i)), (4, .int (nI (sh1 r i))), (5, .int (nI (sh2 r i))), (9, .int x9), (3, .int (nI (q + (flt t r i 0).length))), (8, .int x8), (7, .int x7), (0, .ref 14), (1, .long ch)]) (st' := [.int (nI i), .long ch]) (μ' := μ1) (by rfl) ?_
      refine zq_call hc (by rfl) (fb_X6_holds d' (by omega) μ1 ch (nI i)) (by decide +kernel) (fun r9 μ9 hq => ?_)
      obtain ⟨hμ9, rfl⟩ := hq
      rw [hμ9]
      clear hμ9 μ9
      show Z 0 76 [(6, .int (nI i)), (4, .int (nI (sh1 r i))), (5, .int (nI (sh2 r i))), (9, .int x9), (3, .int (nI (q + (flt t r i 0).length))), (8, .int x8), (7, .int x7), (0, .ref 14), (1, .long ch)] [.int (nB (xHd ch (nI i)))] μ1
      have tdef := ht9 i
      unfold tH at tdef
      generalize xHd ch (nI i) = bb at tdef ⊢
      show Z 0 76 [(6, .int (nI i)), (4, .int (nI (sh1 r i))), (5, .int (nI (sh2 r i))), (9, .int x9), (3, .int (nI (q + (flt t r i 0).length))), (8, .int x8), (7, .int x7), (0, .ref 14), (1, .long ch)] [.int (nB bb)] μ1
      refine zq_if hc hH (by rfl) (tg := 83) (by rfl) (fun h1 => ?_) (fun h1 => ?_)
      · have h1 := cm_eq9.mp h1
        refine z_rcs hc hH 1 (pc' := 84) (lv' := [(6, .int (nI i)), (4, .int (nI (sh1 r i))), (5, .int (nI (sh2 r i))), (9, .int x9), (3, .int (nI (q + (flt t r i 0).length))), (8, .int x8), (7, .int x7), (0, .ref 14), (1, .long ch)]) (st' := [.int 0]) (μ' := μ1) (by rfl) ?_
        have eb : bb = false := nB_z.mp h1
        rw [eb, if_neg (by decide)] at tdef
        refine z_rcs hc hH 1 (pc' := 86) (lv' := [(7, .int 0), (6, .int (nI i)), (4, .int (nI (sh1 r i))), (5, .int (nI (sh2 r i))), (9, .int x9), (3, .int (nI (q + (flt t r i 0).length))), (8, .int x8), (0, .ref 14), (1, .long ch)]) (st' := []) (μ' := μ1) (by rfl) ?_
        have j := j86
        exact zJ j86 (by rw [tdef]; rfl) rfl rfl
      · have h1 := cn_eq.mp h1
        refine z_rcs hc hH 2 (pc' := 84) (lv' := [(6, .int (nI i)), (4, .int (nI (sh1 r i))), (5, .int (nI (sh2 r i))), (9, .int x9), (3, .int (nI (q + (flt t r i 0).length))), (8, .int x8), (7, .int x7), (0, .ref 14), (1, .long ch)]) (st' := [.int 1]) (μ' := μ1) (by rfl) ?_
        have eb : bb = true := nB_n.mp h1
        rw [eb, if_pos rfl] at tdef
        refine z_rcs hc hH 1 (pc' := 86) (lv' := [(7, .int 1), (6, .int (nI i)), (4, .int (nI (sh1 r i))), (5, .int (nI (sh2 r i))), (9, .int x9), (3, .int (nI (q + (flt t r i 0).length))), (8, .int x8), (0, .ref 14), (1, .long ch)]) (st' := []) (μ' := μ1) (by rfl) ?_
        have j := j86
        exact zJ j86 (by rw [tdef]; rfl) rfl rfl
theorem fb_X1_fillWay (d : Nat) (hd : 2 ≤ d) (μ : zM) (w : Nat → Nat) (p : Nat) (hw : RW μ 10 w) (hp : p < 34) (h2p : 2 ≤ w p) (h15 : μ.1 14 15 = nI p) (ht : μ.2.2 14 = 9) (ch : Int64) (q : Nat) (hq : q ≤ 4) (e4 : μ.1 9 4 = nI q) (sL lL : Nat → Nat) (hL : ∀ j, j < q → μ.1 12 j = nI (sL j) ∧ μ.1 13 j = nI (lL j)) (hH0 : a_H μ) : z_C d mi_X1_fillWay [.ref 14, .long ch] μ (FWQ μ (sb2 w p) (tH ch) q sL lL) := by
  refine z_C_in (by decide) (by omega) (fun d' Z ed hc hr => ?_)
  have hH := zh_X1_fillWay
  have K := fw63 d' Z (by omega) μ w p (sb2 w p) hw hp h2p (fun k => rfl) h15 ht ch (tH ch) (fun k => rfl) q hq e4 sL lL hc hr 34 0 (by omega) (fun _ => 0) ⟨fun k z => absurd rfl z, fun k z => absurd z (by omega)⟩ (by show q + 0 ≤ 4; omega)
  have lp : ∀ (n i : Nat), i + n = q → ∀ μ1, ((∀ j, j < i → μ1.1 15 j = nI (sL j) ∧ μ1.1 16 j = nI (lL j)) ∧ a_Fz [(15, 9999), (16, 9999)] μ μ1 ∧ a_H μ1) → Z 0 2 [(3, .int (nI i)), (0, .ref 14), (1, .long ch)] [] μ1 := by
    intro n
    induction n with
    | zero =>
      intro i hi μ1 g
      have hi : i = q := by omega
      subst hi
      have ht1 : μ1.2.2 14 = 9 := (g.2.1.2 14 (by decide)).trans ht
      have e41 : μ1.1 9 4 = nI i := (a_Fz_at g.2.1 9 4 (a_md_row (by decide))).trans e4
      refine z_rcs hc hH 2 (pc' := 4) (lv' := [(3, .int (nI i)), (0, .ref 14), (1, .long ch)]) (st' := [.ref 14, .int (nI i)]) (μ' := μ1) (by rfl) ?_
      refine zq_tget hc hH (by rfl) (ci := 0) (f := 5) (t := 9) (by decide +kernel) ht1 (by decide) ?_
      show Z 0 7 [(3, .int (nI i)), (0, .ref 14), (1, .long ch)] [.ref 9, .int (nI i)] μ1
      refine z_rcs hc hH 1 (pc' := 10) (lv' := [(3, .int (nI i)), (0, .ref 14), (1, .long ch)]) (st' := [.int (μ1.1 9 4), .int (nI i)]) (μ' := μ1) (by rfl) ?_
      rw [e41]
      show Z 0 10 [(3, .int (nI i)), (0, .ref 14), (1, .long ch)] [.int (nI i), .int (nI i)] μ1
      refine zq_ic hc hH (by rfl) (tg := 54) (by rfl) (fun _ => ?_) (fun h9 => (zb_t (ge_nIt (n := i) (i := i) (by omega) (by omega)) h9).elim)
      refine z_rcs hc hH 6 (pc' := 63) (lv' := [(6, .int 0), (5, .int 0), (4, .int 0), (3, .int (nI i)), (0, .ref 14), (1, .long ch)]) (st' := []) (μ' := μ1) (by rfl) ?_
      exact (K μ1 ⟨fun j hj => by have hj : j < i + 0 := hj; unfold sA lA; rw [if_pos (by omega), if_pos (by omega)]; exact g.1 j (by omega), g.2.1, g.2.2⟩).1
    | succ n ih =>
      intro i hi μ1 g
      have ht1 : μ1.2.2 14 = 9 := (g.2.1.2 14 (by decide)).trans ht
      have e41 : μ1.1 9 4 = nI q := (a_Fz_at g.2.1 9 4 (a_md_row (by decide))).trans e4
      have hin : vp_in (nI i) 4 := vp_in_nI (by omega) (by decide)
      have ei : (nI i).toNatClampNeg = i := nI_clamp (by omega)
      have x12 := (a_Fz_at g.2.1 12 i (a_md_row (by decide))).trans (hL i (by omega)).1
      have x13 := (a_Fz_at g.2.1 13 i (a_md_row (by decide))).trans (hL i (by omega)).2
      refine z_rcs hc hH 2 (pc' := 4) (lv' := [(3, .int (nI i)), (0, .ref 14), (1, .long ch)]) (st' := [.ref 14, .int (nI i)]) (μ' := μ1) (by rfl) ?_
      refine zq_tget hc hH (by rfl) (ci := 0) (f := 5) (t := 9) (by decide +kernel) ht1 (by decide) ?_
      show Z 0 7 [(3, .int (nI i)), (0, .ref 14), (1, .long ch)] [.ref 9, .int (nI i)] μ1
      refine z_rcs hc hH 1 (pc' := 10) (lv' := [(3, .int (nI i)), (0, .ref 14), (1, .long ch)]) (st' := [.int (μ1.1 9 4), .int (nI i)]) (μ' := μ1) (by rfl) ?_
      rw [e41]
      show Z 0 10 [(3, .int (nI i)), (0, .ref 14), (1, .long ch)] [.int (nI q), .int (nI i)] μ1
      refine zq_ic hc hH (by rfl) (tg := 54) (by rfl) (fun h9 => (zb_t h9 (ge_nI (n := q) (i := i) (by omega) (by omega))).elim) (fun _ => ?_)
      refine z_rcs hc hH 2 (pc' := 15) (lv' := [(3, .int (nI i)), (0, .ref 14), (1, .long ch)]) (st' := [.int 4, .int (nI i)]) (μ' := μ1) (by rfl) ?_
      refine zq_ic hc hH (by rfl) (tg := 54) (by rfl) (fun h9 => (zb_t h9 (ge_nI (n := 4) (i := i) (by omega) (by decide))).elim) (fun _ => ?_)
      refine z_rcs hc hH 4 (pc' := 24) (lv' := [(3, .int (nI i)), (0, .ref 14), (1, .long ch)]) (st' := [.ref 14, .int (nI i), .ref 15]) (μ' := μ1) (by rfl) ?_
      refine zq_tget hc hH (by rfl) (ci := 0) (f := 5) (t := 9) (by decide +kernel) ht1 (by decide) ?_
      show Z 0 27 [(3, .int (nI i)), (0, .ref 14), (1, .long ch)] [.ref 9, .int (nI i), .ref 15] μ1
      refine z_rcs hc hH 2 (pc' := 31) (lv' := [(3, .int (nI i)), (0, .ref 14), (1, .long ch)]) (st' := [.int (nI i), .ref 12, .int (nI i), .ref 15]) (μ' := μ1) (by rfl) ?_
      refine zq_iald hc hH (by rfl) 4 (by decide +kernel) (hin) ?_
      rw [ei, x12]
      show Z 0 32 [(3, .int (nI i)), (0, .ref 14), (1, .long ch)] [.int (nI (sL i)), .int (nI i), .ref 15] μ1
      refine zq_iast hc hH (by rfl) 4 (by decide +kernel) (hin) ?_
      rw [ei]
      show Z 0 33 [(3, .int (nI i)), (0, .ref 14), (1, .long ch)] [] (z_ui μ1 15 i (nI (sL i)))
      have ht2 : (z_ui μ1 15 i (nI (sL i))).2.2 14 = 9 := ht1
      refine z_rcs hc hH 4 (pc' := 39) (lv' := [(3, .int (nI i)), (0, .ref 14), (1, .long ch)]) (st' := [.ref 14, .int (nI i), .ref 16]) (μ' := z_ui μ1 15 i (nI (sL i))) (by rfl) ?_
      refine zq_tget hc hH (by rfl) (ci := 0) (f := 5) (t := 9) (by decide +kernel) ht2 (by decide) ?_
      show Z 0 42 [(3, .int (nI i)), (0, .ref 14), (1, .long ch)] [.ref 9, .int (nI i), .ref 16] (z_ui μ1 15 i (nI (sL i)))
      refine z_rcs hc hH 2 (pc' := 46) (lv' := [(3, .int (nI i)), (0, .ref 14), (1, .long ch)]) (st' := [.int (nI i), .ref 13, .int (nI i), .ref 16]) (μ' := z_ui μ1 15 i (nI (sL i))) (by rfl) ?_
      refine zq_iald hc hH (by rfl) 4 (by decide +kernel) (hin) ?_
      rw [ei, z_ui_rd, if_neg (by omega), x13]
      show Z 0 47 [(3, .int (nI i)), (0, .ref 14), (1, .long ch)] [.int (nI (lL i)), .int (nI i), .ref 16] (z_ui μ1 15 i (nI (sL i)))
      refine zq_iast hc hH (by rfl) 4 (by decide +kernel) (hin) ?_
      rw [ei]
      have g2 : (∀ j, j < i + 1 → (z_ui (z_ui μ1 15 i (nI (sL i))) 16 i (nI (lL i))).1 15 j = nI (sL j) ∧ (z_ui (z_ui μ1 15 i (nI (sL i))) 16 i (nI (lL i))).1 16 j = nI (lL j)) ∧ a_Fz [(15, 9999), (16, 9999)] μ (z_ui (z_ui μ1 15 i (nI (sL i))) 16 i (nI (lL i))) ∧ a_H (z_ui (z_ui μ1 15 i (nI (sL i))) 16 i (nI (lL i))) := by
        refine ⟨fun j hj => ?_, a_Fz_ui (a_Fz_ui g.2.1 (a_mda_md (by decide) _)) (a_mda_md (by decide) _), a_H_ui (a_H_ui g.2.2 (bI_top _)) (bI_top _)⟩
        rw [z_ui_rd, if_neg (by omega), z_ui_rd, z_ui_rd]
        by_cases e : j = i
        · subst e; rw [if_pos ⟨rfl, rfl⟩, if_pos ⟨rfl, rfl⟩]; exact ⟨rfl, rfl⟩
        · rw [if_neg (fun z => e z.2), if_neg (fun z => e z.2), z_ui_rd, if_neg (by omega)]; exact g.1 j (by omega)
      generalize z_ui (z_ui μ1 15 i (nI (sL i))) 16 i (nI (lL i)) = μ2 at g2 ⊢
      refine z_rcs hc hH 2 (pc' := 2) (lv' := [(3, .int ((nI i) + 1)), (0, .ref 14), (1, .long ch)]) (st' := []) (μ' := μ2) (by rfl) ?_
      rw [nI_1]
      exact ih (i + 1) (by omega) μ2 g2
  refine z_rcs hc hH 2 (pc' := 2) (lv' := [(3, .int 0), (0, .ref 14), (1, .long ch)]) (st' := []) (μ' := μ) (by rfl) ?_
  exact lp q 0 (by omega) μ ⟨fun j hj => absurd hj (by omega), a_Fz_rf _ _, hH0⟩
