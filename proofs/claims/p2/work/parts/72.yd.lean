/-! the class: all ways of a hand -/
set_option maxRecDepth 8000
def OVC (κ : zM) (q p : Nat) (sL lL : Nat → Nat) (sl : SL) (x : Q4) : Prop := ∃ c, q ≤ c ∧ c < 5 ∧ OC κ q p (sA q sL sl) (lA q lL sl) c x
def Sic (κ : zM) (w : Nat → Nat) (q : Nat) (sL lL : Nat → Nat) (i : Nat) (x : Q4) : Prop := ∃ p, p < i ∧ 2 ≤ w p ∧ SS (OVC κ q p sL lL) [] (sb2 w p) (4 - q) 0 x
def S7c (κ : zM) (w : Nat → Nat) (x : Q4) : Prop := ((∀ k, k < 34 → w k = 0 ∨ w k = 2) ∧ κ.1 9 4 = 0 ∧ κ.1 9 5 = 14) ∧ x = vO (κ.1 14 8) (κ.1 14 11) (κ.2.1 14 12 ||| 65536) 25
def S13c (κ : zM) (w : Nat → Nat) (x : Q4) : Prop := (κ.1 9 4 = 0 ∧ κ.1 9 5 = 14 ∧ ∀ k, k < 34 → (0 < w k ↔ eN k = true)) ∧ x = vO (κ.1 14 8) (κ.1 14 11) (κ.2.1 14 12 ||| 4294967296) 30
def SCl (κ : zM) (w : Nat → Nat) (q : Nat) (sL lL : Nat → Nat) (i : Nat) (x : Q4) : Prop := (S7c κ w x ∨ S13c κ w x) ∨ Sic κ w q sL lL i x
/-- the choices so far -/
def Sch (κ : zM) (f : Nat → Int32) (v : Nat → Nat) (q p : Nat) (sL lL : Nat → Nat) (c : Nat) (x : Q4) : Prop := ∃ c', c' < c ∧ ∃ r, PW v (tH (chB f c' 4)) r ∧ sn (fun k => tH (chB f c' 4) k + r k) 34 = 4 - q ∧ OVC κ q p sL lL (flt (tH (chB f c' 4)) r 34 0) x
theorem enc : ∀ b0 b1 b2 b3 : Bool, ∀ m, m ≤ 4 → (m ≤ 0 → b0 = false) → (m ≤ 1 → b1 = false) → (m ≤ 2 → b2 = false) → (m ≤ 3 → b3 = false) → (b0.toNat + 2 * b1.toNat + 4 * b2.toNat + 8 * b3.toNat) < 2 ^ m ∧ ((b0.toNat + 2 * b1.toNat + 4 * b2.toNat + 8 * b3.toNat) / 2 ^ 0 % 2 = 1 ↔ b0 = true) ∧ ((b0.toNat + 2 * b1.toNat + 4 * b2.toNat + 8 * b3.toNat) / 2 ^ 1 % 2 = 1 ↔ b1 = true) ∧ ((b0.toNat + 2 * b1.toNat + 4 * b2.toNat + 8 * b3.toNat) / 2 ^ 2 % 2 = 1 ↔ b2 = true) ∧ ((b0.toNat + 2 * b1.toNat + 4 * b2.toNat + 8 * b3.toNat) / 2 ^ 3 % 2 = 1 ↔ b3 = true) := by
  intro b0 b1 b2 b3 m hm
  have : m = 0 ∨ m = 1 ∨ m = 2 ∨ m = 3 ∨ m = 4 := by omega
  rcases this with rfl | rfl | rfl | rfl | rfl <;> cases b0 <;> cases b1 <;> cases b2 <;> cases b3 <;> decide
theorem enc2 (b : Nat → Bool) (m : Nat) (hm : m ≤ 4) (hb : ∀ j, m ≤ j → b j = false) : ∃ c, c < 2 ^ m ∧ ∀ j, j < 4 → (c / 2 ^ j % 2 = 1 ↔ b j = true) := by
  have e := enc (b 0) (b 1) (b 2) (b 3) m hm (fun h => hb 0 h) (fun h => hb 1 h) (fun h => hb 2 h) (fun h => hb 3 h)
  refine ⟨_, e.1, fun j hj => ?_⟩
  rcases j with _ | _ | _ | _ | j
  · exact e.2.1
  · exact e.2.2.1
  · exact e.2.2.2.1
  · exact e.2.2.2.2
  · omega
theorem flt_c34 {t r t' : Nat → Nat} (h : ∀ k, k < 34 → t k = t' k) : flt t r 34 0 = flt t' r 34 0 := flt_congr 34 0 (fun j _ h2 => ⟨h j (by omega), rfl⟩)
theorem Sch_all {μ κ : zM} {v : Nat → Nat} {q p : Nat} {sL lL : Nat → Nat} (h4 : ∀ k, k < 34 → v k ≤ 5) (hs : sn v 34 ≤ 12) (hf : F3 μ v 34) (x : Q4) : Sch κ (μ.1 17) v q p sL lL (2 ^ c3 v 34) x ↔ SS (OVC κ q p sL lL) [] v (4 - q) 0 x := by
  constructor
  · rintro ⟨c', h1, r, h2, h3, h5⟩
    exact ⟨_, r, h2, h3, fun k z => absurd z (by omega), by rw [List.nil_append]; exact h5⟩
  · rintro ⟨t, r, h2, h3, -, h5⟩
    rw [List.nil_append] at h5
    have t1 : ∀ k, k < 34 → t k ≤ 1 := fun k hk => by have := h2.2 k hk; have := h4 k hk; omega
    have t3 : ∀ k, k < 34 → t k = 1 → 3 ≤ v k := fun k hk e => by have := h2.2 k hk; omega
    have hm : c3 v 34 ≤ 4 := by have := c3_sn v 34; omega
    obtain ⟨c, hc, hb⟩ := enc2 (wb (fun j => ∃ k, k < 34 ∧ 3 ≤ v k ∧ c3 v k = j ∧ t k = 1)) (c3 v 34) hm (fun j hj => wb_f (fun ⟨k, a1, a2, a3, _⟩ => by have := c3_lt v a1 a2; omega))
    have hb : ∀ j, j < 4 → (c / 2 ^ j % 2 = 1 ↔ ∃ k, k < 34 ∧ 3 ≤ v k ∧ c3 v k = j ∧ t k = 1) := fun j hj => (hb j hj).trans ⟨fun z => Classical.byContradiction (fun y => by rw [wb_f y] at z; exact absurd z (by decide)), fun z => wb_t z⟩
    have et : ∀ k, k < 34 → tH (chB (μ.1 17) c 4) k = t k := fun k hk => by
      have e := chB_bit (μ.1 17) c k hk 4 (fun j hj z => by
        obtain ⟨k', a1, a2, a3, _⟩ := (hb j hj).mp z
        exact ⟨k', a1, by rw [← a3]; exact hf k' a1 a2⟩)
      unfold tH
      rw [xHd_bit _ k hk]
      by_cases z : t k = 1
      · rw [z]
        have a2 := t3 k hk z
        have a3 := c3_lt v hk a2
        rw [if_pos (e.mpr ⟨c3 v k, by omega, (hb _ (by omega)).mpr ⟨k, hk, a2, rfl, z⟩, hf k hk a2⟩)]
      · rw [if_neg (fun y => by
          obtain ⟨j, hj, y1, y2⟩ := e.mp y
          obtain ⟨k', a1, a2, a3, a4⟩ := (hb j hj).mp y1
          have := hf k' a1 a2
          rw [a3, y2] at this
          have := (nI_eq (show k < 2 ^ 31 by omega) (show k' < 2 ^ 31 by omega)).mp this
          rw [this] at z
          exact z a4)]
        have := t1 k hk
        omega
    refine ⟨c, hc, r, ⟨h2.1, fun k hk => by rw [et k hk]; exact h2.2 k hk⟩, ?_, by rw [flt_c34 et]; exact h5⟩
    rw [← h3]
    exact sn_congr (fun k hk => by rw [et k hk])
theorem flt_PV {t r : Nat → Nat} {q : Nat} {sL lL : Nat → Nat} (hr : ∀ k, r k ≠ 0 → rs k) (hL : ∀ j, j < q → sL j ≤ 3 ∧ lL j < 34) (hl : q + (flt t r 34 0).length = 4) : ∀ j, j < 4 → sA q sL (flt t r 34 0) j ≤ 3 ∧ lA q lL (flt t r 34 0) j < 34 := by
  have hm : ∀ n, n ≤ 34 → ∀ x ∈ flt t r n 0, x.1 ≤ 3 ∧ x.2 < 34 := by
    intro n
    induction n with
    | zero => intro _ x hx; exact absurd hx List.not_mem_nil
    | succ n ih =>
      intro hn x hx
      rw [flt_snoc, List.mem_append, List.mem_append, Nat.zero_add] at hx
      rcases hx with hx | hx | hx
      · exact ih (by omega) x hx
      · rw [(List.mem_replicate.mp hx).2]; exact ⟨by show 1 ≤ 3; omega, by show n < 34; omega⟩
      · rw [(List.mem_replicate.mp hx).2]; exact ⟨by show 0 ≤ 3; omega, by show n < 34; omega⟩
  intro j hj
  unfold sA lA
  by_cases c : j < q
  · rw [if_pos c, if_pos c]; exact hL j c
  · rw [if_neg c, if_neg c, List.getD_eq_getElem?_getD, List.getElem?_eq_getElem (show j - q < (flt t r 34 0).length by omega), Option.getD_some]
    exact hm 34 (by omega) _ (List.getElem_mem _)
abbrev mdJJ : List (Nat × Nat) := [(14, 0), (14, 1), (14, 2), (14, 3), (14, 4), (14, 9998), (14, 6), (14, 7), (14, 8), (14, 9), (14, 10), (14, 11), (14, 12), (14, 15), (14, 16), (14, 17), (15, 9999), (16, 9999), (17, 9999)]
/-- what the judge reads -/
def KC (κ : zM) (w aw : Nat → Nat) (q : Nat) (sL lL : Nat → Nat) (k : Int32) (dr : Bool) (told : Int64) (sw rw dear : Int32) : Prop := (κ.1 9 4 = nI q) ∧ (κ.1 9 5 = nI (sn w 34)) ∧ (RW κ 10 w) ∧ (∀ j, j < q → κ.1 12 j = nI (sL j) ∧ κ.1 13 j = nI (lL j)) ∧ (κ.1 14 6 = k) ∧ (κ.1 14 7 = nB dr) ∧ (κ.1 14 8 = nB (xOr (κ.1 12) q)) ∧ (κ.1 14 9 = sw) ∧ (κ.1 14 10 = rw) ∧ (κ.1 14 11 = dear) ∧ (κ.2.1 14 12 = xTO κ told ||| xTF (kb (fun k => decide (0 < aw k)) 34) (xNG κ (kb (fun k => decide (0 < aw k)) 34))) ∧ (κ.2.2 14 = 9)
theorem KC.d4 {κ : zM} {w aw : Nat → Nat} {q : Nat} {sL lL : Nat → Nat} {k : Int32} {dr : Bool} {told : Int64} {sw rw dear : Int32} (h : KC κ w aw q sL lL k dr told sw rw dear) : κ.1 9 4 = nI q := h.1
theorem KC.d5 {κ : zM} {w aw : Nat → Nat} {q : Nat} {sL lL : Nat → Nat} {k : Int32} {dr : Bool} {told : Int64} {sw rw dear : Int32} (h : KC κ w aw q sL lL k dr told sw rw dear) : κ.1 9 5 = nI (sn w 34) := h.2.1
theorem KC.r10 {κ : zM} {w aw : Nat → Nat} {q : Nat} {sL lL : Nat → Nat} {k : Int32} {dr : Bool} {told : Int64} {sw rw dear : Int32} (h : KC κ w aw q sL lL k dr told sw rw dear) : RW κ 10 w := h.2.2.1
theorem KC.r12 {κ : zM} {w aw : Nat → Nat} {q : Nat} {sL lL : Nat → Nat} {k : Int32} {dr : Bool} {told : Int64} {sw rw dear : Int32} (h : KC κ w aw q sL lL k dr told sw rw dear) : ∀ j, j < q → κ.1 12 j = nI (sL j) ∧ κ.1 13 j = nI (lL j) := h.2.2.2.1
theorem KC.c6 {κ : zM} {w aw : Nat → Nat} {q : Nat} {sL lL : Nat → Nat} {k : Int32} {dr : Bool} {told : Int64} {sw rw dear : Int32} (h : KC κ w aw q sL lL k dr told sw rw dear) : κ.1 14 6 = k := h.2.2.2.2.1
theorem KC.c7 {κ : zM} {w aw : Nat → Nat} {q : Nat} {sL lL : Nat → Nat} {k : Int32} {dr : Bool} {told : Int64} {sw rw dear : Int32} (h : KC κ w aw q sL lL k dr told sw rw dear) : κ.1 14 7 = nB dr := h.2.2.2.2.2.1
theorem KC.c8 {κ : zM} {w aw : Nat → Nat} {q : Nat} {sL lL : Nat → Nat} {k : Int32} {dr : Bool} {told : Int64} {sw rw dear : Int32} (h : KC κ w aw q sL lL k dr told sw rw dear) : κ.1 14 8 = nB (xOr (κ.1 12) q) := h.2.2.2.2.2.2.1
theorem KC.c9 {κ : zM} {w aw : Nat → Nat} {q : Nat} {sL lL : Nat → Nat} {k : Int32} {dr : Bool} {told : Int64} {sw rw dear : Int32} (h : KC κ w aw q sL lL k dr told sw rw dear) : κ.1 14 9 = sw := h.2.2.2.2.2.2.2.1
theorem KC.c10 {κ : zM} {w aw : Nat → Nat} {q : Nat} {sL lL : Nat → Nat} {k : Int32} {dr : Bool} {told : Int64} {sw rw dear : Int32} (h : KC κ w aw q sL lL k dr told sw rw dear) : κ.1 14 10 = rw := h.2.2.2.2.2.2.2.2.1
theorem KC.c11 {κ : zM} {w aw : Nat → Nat} {q : Nat} {sL lL : Nat → Nat} {k : Int32} {dr : Bool} {told : Int64} {sw rw dear : Int32} (h : KC κ w aw q sL lL k dr told sw rw dear) : κ.1 14 11 = dear := h.2.2.2.2.2.2.2.2.2.1
theorem KC.t12 {κ : zM} {w aw : Nat → Nat} {q : Nat} {sL lL : Nat → Nat} {k : Int32} {dr : Bool} {told : Int64} {sw rw dear : Int32} (h : KC κ w aw q sL lL k dr told sw rw dear) : κ.2.1 14 12 = xTO κ told ||| xTF (kb (fun k => decide (0 < aw k)) 34) (xNG κ (kb (fun k => decide (0 < aw k)) 34)) := h.2.2.2.2.2.2.2.2.2.2.1
theorem KC.ht {κ : zM} {w aw : Nat → Nat} {q : Nat} {sL lL : Nat → Nat} {k : Int32} {dr : Bool} {told : Int64} {sw rw dear : Int32} (h : KC κ w aw q sL lL k dr told sw rw dear) : κ.2.2 14 = 9 := h.2.2.2.2.2.2.2.2.2.2.2
def JP (κ μ1 : zM) (p : Nat) (S : Q4 → Prop) (N : Nat) : Prop := a_Fz mdJ κ μ1 ∧ a_H μ1 ∧ CI S N μ1
theorem lt2 : ∀ a, a < 6 → (z_cmp .lt (nI a) 2 = false ↔ 2 ≤ a) := by decide +kernel
theorem lt2n : ∀ a, a < 6 → (z_cmp .lt (nI a) 2 = true ↔ ¬ 2 ≤ a) := by decide +kernel
theorem sh_2 : ∀ m, m ≤ 4 → (1 : Int32) <<< (nI m &&& 31) = nI (2 ^ m) := by decide +kernel
theorem zh_X1_judge : zH mi_X1_judge zc_X1_judge 79 1 11 := ⟨by rfl, by rfl, by rfl, by rfl⟩
theorem jg203 (d' : Nat) (Z : zK) (hd : 6 ≤ d') (μ0 : zM) (w aw : Nat → Nat) (q : Nat) (hq : q ≤ 4) (sL lL : Nat → Nat) (hLb : ∀ j, j < q → sL j ≤ 3 ∧ lL j < 34) (hw4 : ∀ k, k < 34 → w k ≤ 4) (h14 : sn w 34 + 3 * q = 14) (k wi de sw rw de9 : Int32) (dr : Bool) (told : Int64) (κ : zM) (hK : KC κ w aw q sL lL k dr told sw rw de9) (hc : z_clo z_x0 mi_X1_judge (z_C d') Z) (i : Nat) (hi : i < 34) (h2 : 2 ≤ w i) (S : Q4 → Prop) (N : Nat) (hN : N + 100 < 100000) (f : Nat → Int32) (mm : Nat) (hm4 : mm ≤ 4) (K : ∀ μ1 x10 x9, JP κ μ1 i (fun x => S x ∨ Sch κ f (sb2 w i) q i sL lL (2 ^ mm) x) (N + 80) → Z 0 164 [(8, .int (nI (i + 1))), (10, .int x10), (9, .int x9), (0, .ref 14), (1, .ref 9), (2, .int k), (3, .int (nB dr)), (4, .long told), (6, .int wi), (7, .int de)] [] μ1) : ∀ n c, c + n = 2 ^ mm → ∀ μ1, (μ1.1 14 15 = nI i ∧ (∀ j, j < 4 → μ1.1 17 j = f j)) → JP κ μ1 i (fun x => S x ∨ Sch κ f (sb2 w i) q i sL lL c x) (N + 5 * c) → Z 0 203 [(10, .int (nI c)), (9, .int (nI (2 ^ mm))), (8, .int (nI i)), (0, .ref 14), (1, .ref 9), (2, .int k), (3, .int (nB dr)), (4, .long told), (6, .int wi), (7, .int de)] [] μ1 := by
  have hH := zh_X1_judge
  have h16 : 2 ^ mm ≤ 16 := by have : mm = 0 ∨ mm = 1 ∨ mm = 2 ∨ mm = 3 ∨ mm = 4 := by omega
                               rcases this with rfl | rfl | rfl | rfl | rfl <;> decide
  intro n
  induction n with
  | zero =>
    intro c hc9 μ1 hg g
    have hc9 : c = 2 ^ mm := by omega
    subst hc9
    refine z_rcs hc hH 2 (pc' := 207) (lv' := [(10, .int (nI (2 ^ mm))), (9, .int (nI (2 ^ mm))), (8, .int (nI i)), (0, .ref 14), (1, .ref 9), (2, .int k), (3, .int (nB dr)), (4, .long told), (6, .int wi), (7, .int de)]) (st' := [.int (nI (2 ^ mm)), .int (nI (2 ^ mm))]) (μ' := μ1) (by rfl) ?_
    refine zq_ic hc hH (by rfl) (tg := 233) (by rfl) (fun _ => ?_) (fun h9 => (zb_t (ge_nIt (n := 2 ^ mm) (i := 2 ^ mm) (Nat.le_refl _) (by omega)) h9).elim)
    refine z_rcs hc hH 2 (pc' := 164) (lv' := [(8, .int ((nI i) + 1)), (10, .int (nI (2 ^ mm))), (9, .int (nI (2 ^ mm))), (0, .ref 14), (1, .ref 9), (2, .int k), (3, .int (nB dr)), (4, .long told), (6, .int wi), (7, .int de)]) (st' := []) (μ' := μ1) (by rfl) ?_
    rw [nI_1]
    exact K μ1 _ _ ⟨g.1, g.2.1, g.2.2.up (by omega)⟩
  | succ n ih =>
    intro c hc9 μ1 hg g
    have d41 : μ1.1 9 4 = nI q := (a_Fz_at g.1 9 4 (a_md_row (by decide))).trans hK.d4
    have ht1 : μ1.2.2 14 = 9 := (g.1.2 14 (by decide)).trans hK.ht
    have w10 : RW μ1 10 w := fun j hj => by rw [a_Fz_at g.1 10 j (a_md_row (by decide))]; exact hK.r10 j hj
    have hL1 : ∀ j, j < q → μ1.1 12 j = nI (sL j) ∧ μ1.1 13 j = nI (lL j) := fun j hj => by rw [a_Fz_at g.1 12 j (a_md_row (by decide)), a_Fz_at g.1 13 j (a_md_row (by decide))]; exact hK.r12 j hj
    have ech : chB (μ1.1 17) c 4 = chB f c 4 := by
      have : ∀ n, n ≤ 4 → chB (μ1.1 17) c n = chB f c n := by
        intro n
        induction n with
        | zero => intro _; rfl
        | succ n ih => intro hn; show (if c / 2 ^ n % 2 = 1 then chB (μ1.1 17) c n ||| ((1 : Int64) <<< ((μ1.1 17 n).toInt64 &&& 63)) else chB (μ1.1 17) c n) = (if c / 2 ^ n % 2 = 1 then chB f c n ||| ((1 : Int64) <<< ((f n).toInt64 &&& 63)) else chB f c n); rw [ih (by omega), hg.2 n (by omega)]
      exact this 4 (by omega)
    refine z_rcs hc hH 2 (pc' := 207) (lv' := [(10, .int (nI c)), (9, .int (nI (2 ^ mm))), (8, .int (nI i)), (0, .ref 14), (1, .ref 9), (2, .int k), (3, .int (nB dr)), (4, .long told), (6, .int wi), (7, .int de)]) (st' := [.int (nI (2 ^ mm)), .int (nI c)]) (μ' := μ1) (by rfl) ?_
    refine zq_ic hc hH (by rfl) (tg := 233) (by rfl) (fun h9 => (zb_t h9 (ge_nI (n := 2 ^ mm) (i := c) (by omega) (by omega))).elim) (fun _ => ?_)
    refine z_rcs hc hH 3 (pc' := 214) (lv' := [(10, .int (nI c)), (9, .int (nI (2 ^ mm))), (8, .int (nI i)), (0, .ref 14), (1, .ref 9), (2, .int k), (3, .int (nB dr)), (4, .long told), (6, .int wi), (7, .int de)]) (st' := [.int (nI c), .ref 14, .ref 14]) (μ' := μ1) (by rfl) ?_
    refine zq_call hc (by rfl) (fb_X1_chosenThrees d' (by omega) μ1 c (by omega)) (by decide +kernel) (fun r9 μ9 hq => ?_)
    obtain ⟨hμ9, rfl⟩ := hq
    rw [hμ9]
    clear hμ9 μ9
    show Z 0 217 [(10, .int (nI c)), (9, .int (nI (2 ^ mm))), (8, .int (nI i)), (0, .ref 14), (1, .ref 9), (2, .int k), (3, .int (nB dr)), (4, .long told), (6, .int wi), (7, .int de)] [.long (chB (μ1.1 17) c 4), .ref 14] μ1
    rw [ech]
    show Z 0 217 [(10, .int (nI c)), (9, .int (nI (2 ^ mm))), (8, .int (nI i)), (0, .ref 14), (1, .ref 9), (2, .int k), (3, .int (nB dr)), (4, .long told), (6, .int wi), (7, .int de)] [.long (chB f c 4), .ref 14] μ1
    refine zq_call hc (by rfl) (fb_X1_fillWay d' (by omega) μ1 w i w10 hi h2 hg.1 ht1 (chB f c 4) q hq d41 sL lL hL1 g.2.1) (by decide +kernel) (fun r2 μ2 hq2 => ?_)
    obtain ⟨bb, rfl, F2, H2, ht2, hf2⟩ := hq2
    have FK2 : a_Fz mdJ κ μ2 := a_Fz_tr (by decide) g.1 F2
    have hg2 : μ2.1 14 15 = nI i ∧ (∀ j, j < 4 → μ2.1 17 j = f j) := ⟨(a_Fz_at F2 14 15 (a_md_row (by decide))).trans hg.1, fun j hj => (a_Fz_at F2 17 j (a_md_row (by decide))).trans (hg.2 j hj)⟩
    have C2 : CI (fun x => S x ∨ Sch κ f (sb2 w i) q i sL lL c x) (N + 5 * c) μ2 := by
      obtain ⟨n9, a1, a2, a3⟩ := g.2.2
      have e2 : bqC μ2 = bqC μ1 := by unfold bqC; rw [a_Fz_at F2 14 0 (a_md_row (by decide)), a_Fz_at F2 14 1 (a_md_row (by decide)), a_Fz_at F2 14 2 (a_md_row (by decide)), (F2.1 14 3 (a_md_row (by decide))).2]
      exact ⟨n9, a1, (a_Fz_at F2 14 4 (a_md_row (by decide))).trans a2, by rw [e2]; exact a3⟩
    show Z 0 220 [(10, .int (nI c)), (9, .int (nI (2 ^ mm))), (8, .int (nI i)), (0, .ref 14), (1, .ref 9), (2, .int k), (3, .int (nB dr)), (4, .long told), (6, .int wi), (7, .int de)] [.int (nB bb)] μ2
    refine zq_if hc hH (by rfl) (tg := 227) (by rfl) (fun h1 => ?_) (fun h1 => ?_)
    · have h1 := cm_eq9.mp h1
      refine z_rcs hc hH 2 (pc' := 203) (lv' := [(10, .int ((nI c) + 1)), (9, .int (nI (2 ^ mm))), (8, .int (nI i)), (0, .ref 14), (1, .ref 9), (2, .int k), (3, .int (nB dr)), (4, .long told), (6, .int wi), (7, .int de)]) (st' := []) (μ' := μ2) (by rfl) ?_
      rw [nI_1]
      have hbb : bb = false := nB_z.mp h1
      exact ih (c + 1) (by omega) μ2 hg2 ⟨FK2, H2, (C2.up (by omega)).iff (fun x => ⟨fun z => z.imp id (fun ⟨c9, b1, b2⟩ => ⟨c9, by omega, b2⟩), fun z => z.imp id (fun ⟨c9, b1, r9, b2, b3, b4⟩ => ⟨c9, if e : c9 = c then (by subst e; exact absurd ⟨r9, b2, b3⟩ (hf2 hbb)) else (by omega), r9, b2, b3, b4⟩)⟩)⟩
    · have h1 := cn_eq.mp h1
      refine z_rcs hc hH 1 (pc' := 224) (lv' := [(10, .int (nI c)), (9, .int (nI (2 ^ mm))), (8, .int (nI i)), (0, .ref 14), (1, .ref 9), (2, .int k), (3, .int (nB dr)), (4, .long told), (6, .int wi), (7, .int de)]) (st' := [.ref 14]) (μ' := μ2) (by rfl) ?_
      have hbb : bb = true := nB_n.mp h1
      obtain ⟨r, hPW, hsn, hrow⟩ := ht2 hbb
      have hlen : q + (flt (tH (chB f c 4)) r 34 0).length = 4 := by rw [flt_len]; omega
      have bnd := flt_PV hPW.1 hLb hlen
      have hW : CW μ2 (sA q sL (flt (tH (chB f c 4)) r 34 0)) (lA q lL (flt (tH (chB f c 4)) r 34 0)) := fun j hj => ⟨⟨(hrow j hj).1, (bnd j hj).1⟩, (hrow j hj).2, (bnd j hj).2⟩
      refine zq_call hc (by rfl) (fb_X1_weighWay d' (by omega) μ2 κ q i _ _ _ (N + 5 * c) (by omega) hq hi FK2 H2 hW hg2.1 ((F2.2 14 (by decide)).trans ht1) ((a_Fz_at F2 9 4 (a_md_row (by decide))).trans d41) C2) (by decide +kernel) (fun r3 μ3 hq3 => ?_)
      obtain ⟨rfl, F3, H3, C3⟩ := hq3
      show Z 0 227 [(10, .int (nI c)), (9, .int (nI (2 ^ mm))), (8, .int (nI i)), (0, .ref 14), (1, .ref 9), (2, .int k), (3, .int (nB dr)), (4, .long told), (6, .int wi), (7, .int de)] [] μ3
      refine z_rcs hc hH 2 (pc' := 203) (lv' := [(10, .int ((nI c) + 1)), (9, .int (nI (2 ^ mm))), (8, .int (nI i)), (0, .ref 14), (1, .ref 9), (2, .int k), (3, .int (nB dr)), (4, .long told), (6, .int wi), (7, .int de)]) (st' := []) (μ' := μ3) (by rfl) ?_
      rw [nI_1]
      refine ih (c + 1) (by omega) μ3 ⟨(a_Fz_at F3 14 15 (by decide)).trans hg2.1, fun j hj => (a_Fz_at F3 17 j (a_md_row (by decide))).trans (hg2.2 j hj)⟩ ⟨a_Fz_tr (by decide) FK2 F3, H3, (C3.up (by omega)).iff (fun x => ⟨?_, ?_⟩)⟩
      · rintro ((z | ⟨c9, b1, b2⟩) | z)
        · exact Or.inl z
        · exact Or.inr ⟨c9, by omega, b2⟩
        · exact Or.inr ⟨c, by omega, r, hPW, hsn, z⟩
      · rintro (z | ⟨c9, b1, r9, b2, b3, b4⟩)
        · exact Or.inl (Or.inl z)
        · by_cases e : c9 = c
          · subst e
            have er : ∀ k, k < 34 → r9 k = r k := PF_un (i := 34) ⟨fun k hk => ⟨hPW.1 k hk, by have := hPW.1 k hk; unfold rs at this; omega⟩, hPW.2⟩ b2.2 (by omega) 34 (by omega)
            rw [flt_congr 34 0 (fun j _ h9 => ⟨rfl, er j (by omega)⟩)] at b4
            exact Or.inr b4
          · exact Or.inl (Or.inr ⟨c9, by omega, r9, b2, b3, b4⟩)
theorem jg164 (d' : Nat) (Z : zK) (hd : 6 ≤ d') (μ0 : zM) (w aw : Nat → Nat) (q : Nat) (hq : q ≤ 4) (sL lL : Nat → Nat) (hLb : ∀ j, j < q → sL j ≤ 3 ∧ lL j < 34) (hw4 : ∀ k, k < 34 → w k ≤ 4) (h14 : sn w 34 + 3 * q = 14) (k wi de sw rw de9 : Int32) (dr : Bool) (told : Int64) (κ : zM) (hK : KC κ w aw q sL lL k dr told sw rw de9) (hc : z_clo z_x0 mi_X1_judge (z_C d') Z) (hr : z_ret mi_X1_judge (fun r μ' => r = none ∧ JP κ μ' 0 (SCl κ w q sL lL 34) 5000) Z) : ∀ n i, i + n = 34 → ∀ μ1, JP κ μ1 i (SCl κ w q sL lL i) (2 + 80 * i) → Z 0 164 [(8, .int (nI i)), (0, .ref 14), (1, .ref 9), (2, .int k), (3, .int (nB dr)), (4, .long told), (6, .int wi), (7, .int de)] [] μ1 ∧ ∀ x10 x9, Z 0 164 [(8, .int (nI i)), (10, .int x10), (9, .int x9), (0, .ref 14), (1, .ref 9), (2, .int k), (3, .int (nB dr)), (4, .long told), (6, .int wi), (7, .int de)] [] μ1 := by
  have hH := zh_X1_judge
  intro n
  induction n with
  | zero =>
    intro i hi μ1 g
    have hi : i = 34 := by omega
    subst hi
    refine ⟨?_, fun x10 x9 => ?_⟩
    · skip
      refine z_rcs hc hH 2 (pc' := 168) (lv' := [(8, .int (nI 34)), (0, .ref 14), (1, .ref 9), (2, .int k), (3, .int (nB dr)), (4, .long told), (6, .int wi), (7, .int de)]) (st' := [.int 34, .int (nI 34)]) (μ' := μ1) (by rfl) ?_
      refine zq_ic hc hH (by rfl) (tg := 239) (by rfl) (fun _ => ?_) (fun h9 => (zb_t (ge_nIt (n := 34) (i := 34) (by decide) (by decide)) h9).elim)
      exact hr 0 239 _ _ _ none (by decide +kernel) (by rfl) (⟨rfl, g.1, g.2.1, g.2.2.up (by omega)⟩)
    · skip
      refine z_rcs hc hH 2 (pc' := 168) (lv' := [(8, .int (nI 34)), (10, .int x10), (9, .int x9), (0, .ref 14), (1, .ref 9), (2, .int k), (3, .int (nB dr)), (4, .long told), (6, .int wi), (7, .int de)]) (st' := [.int 34, .int (nI 34)]) (μ' := μ1) (by rfl) ?_
      refine zq_ic hc hH (by rfl) (tg := 239) (by rfl) (fun _ => ?_) (fun h9 => (zb_t (ge_nIt (n := 34) (i := 34) (by decide) (by decide)) h9).elim)
      exact hr 0 239 _ _ _ none (by decide +kernel) (by rfl) (⟨rfl, g.1, g.2.1, g.2.2.up (by omega)⟩)
  | succ n ih =>
    intro i hi μ1 g
    have hin : vp_in (nI i) 34 := vp_in_nI (by omega) (by decide)
    have ei : (nI i).toNatClampNeg = i := nI_clamp (by omega)
    have bw := hw4 i (by omega)
    have no : ¬ 2 ≤ w i → ∀ x, SCl κ w q sL lL i x ↔ SCl κ w q sL lL (i + 1) x := fun hn x => ⟨fun z => z.imp id (fun ⟨p9, u1, u2⟩ => ⟨p9, by omega, u2⟩), fun z => z.imp id (fun ⟨p9, u1, u2⟩ => ⟨p9, if e : p9 = i then (by rw [e] at u2; exact absurd u2.1 hn) else (by omega), u2⟩)⟩
    refine ⟨?_, fun x10 x9 => ?_⟩
    · skip
      refine z_rcs hc hH 2 (pc' := 168) (lv' := [(8, .int (nI i)), (0, .ref 14), (1, .ref 9), (2, .int k), (3, .int (nB dr)), (4, .long told), (6, .int wi), (7, .int de)]) (st' := [.int 34, .int (nI i)]) (μ' := μ1) (by rfl) ?_
      refine zq_ic hc hH (by rfl) (tg := 239) (by rfl) (fun h9 => (zb_t h9 (ge_nI (n := 34) (i := i) (by omega) (by decide))).elim) (fun _ => ?_)
      refine z_rcs hc hH 3 (pc' := 177) (lv' := [(8, .int (nI i)), (0, .ref 14), (1, .ref 9), (2, .int k), (3, .int (nB dr)), (4, .long told), (6, .int wi), (7, .int de)]) (st' := []) (μ' := z_ui μ1 14 15 (nI i)) (by rfl) ?_
      have g2 : JP κ (z_ui μ1 14 15 (nI i)) i (SCl κ w q sL lL i) (2 + 80 * i) := by
        refine ⟨a_Fz_ui g.1 (by decide), a_H_ui g.2.1 (bI_top _), ?_⟩
        obtain ⟨n9, a1, a2, a3⟩ := g.2.2
        exact ⟨n9, a1, a2, a3⟩
      have e15 : (z_ui μ1 14 15 (nI i)).1 14 15 = nI i := by rw [z_ui_rd, if_pos ⟨rfl, rfl⟩]
      generalize z_ui μ1 14 15 (nI i) = μ2 at g2 e15 ⊢
      have w10 : RW μ2 10 w := fun j hj => by rw [a_Fz_at g2.1 10 j (a_md_row (by decide))]; exact hK.r10 j hj
      have ht2 : μ2.2.2 14 = 9 := (g2.1.2 14 (by decide)).trans hK.ht
      refine z_rcs hc hH 3 (pc' := 183) (lv' := [(8, .int (nI i)), (0, .ref 14), (1, .ref 9), (2, .int k), (3, .int (nB dr)), (4, .long told), (6, .int wi), (7, .int de)]) (st' := [.int (nI i), .ref 10]) (μ' := μ2) (by rfl) ?_
      refine zq_iald hc hH (by rfl) 34 (by decide +kernel) (hin) ?_
      rw [ei, (w10 i (by omega)).1]
      show Z 0 184 [(8, .int (nI i)), (0, .ref 14), (1, .ref 9), (2, .int k), (3, .int (nB dr)), (4, .long told), (6, .int wi), (7, .int de)] [.int (nI (w i))] μ2
      refine z_rcs hc hH 1 (pc' := 185) (lv' := [(8, .int (nI i)), (0, .ref 14), (1, .ref 9), (2, .int k), (3, .int (nB dr)), (4, .long told), (6, .int wi), (7, .int de)]) (st' := [.int 2, .int (nI (w i))]) (μ' := μ2) (by rfl) ?_
      by_cases h2 : 2 ≤ w i
      · skip
        refine zq_ic hc hH (by rfl) (tg := 197) (by rfl) (fun h9 => (zb_t h9 ((lt2 (w i) (by omega)).mpr h2)).elim) (fun _ => ?_)
        refine z_rcs hc hH 2 (pc' := 190) (lv' := [(8, .int (nI i)), (0, .ref 14), (1, .ref 9), (2, .int k), (3, .int (nB dr)), (4, .long told), (6, .int wi), (7, .int de)]) (st' := [.ref 14, .int 1]) (μ' := μ2) (by rfl) ?_
        refine zq_call hc (by rfl) (fb_X1_findThrees d' (by omega) μ2 w i w10 (by omega) h2 e15 ht2 g2.2.1 (by have := sn_sb2 (w := w) (p := i) (by omega) h2; omega)) (by decide +kernel) (fun r3 μ3 hq3 => ?_)
        obtain ⟨rfl, hT⟩ := hq3
        have hs12 : sn (sb2 w i) 34 ≤ 12 := by have := sn_sb2 (w := w) (p := i) (by omega) h2; omega
        have m4 : c3 (sb2 w i) 34 ≤ 4 := by have := c3_sn (sb2 w i) 34; omega
        show Z 0 193 [(8, .int (nI i)), (0, .ref 14), (1, .ref 9), (2, .int k), (3, .int (nB dr)), (4, .long told), (6, .int wi), (7, .int de)] [.int (nI (c3 (sb2 w i) 34)), .int 1] μ3
        refine z_rcs hc hH 1 (pc' := 194) (lv' := [(8, .int (nI i)), (0, .ref 14), (1, .ref 9), (2, .int k), (3, .int (nB dr)), (4, .long told), (6, .int wi), (7, .int de)]) (st' := [.int (1 <<< ((nI (c3 (sb2 w i) 34)) &&& 31))]) (μ' := μ3) (by rfl) ?_
        rw [sh_2 _ m4]
        show Z 0 194 [(8, .int (nI i)), (0, .ref 14), (1, .ref 9), (2, .int k), (3, .int (nB dr)), (4, .long told), (6, .int wi), (7, .int de)] [.int (nI (2 ^ c3 (sb2 w i) 34))] μ3
        refine z_rcs hc hH 4 (pc' := 203) (lv' := [(10, .int 0), (9, .int (nI (2 ^ c3 (sb2 w i) 34))), (8, .int (nI i)), (0, .ref 14), (1, .ref 9), (2, .int k), (3, .int (nB dr)), (4, .long told), (6, .int wi), (7, .int de)]) (st' := []) (μ' := μ3) (by rfl) ?_
        refine jg203 d' Z hd μ0 w aw q hq sL lL hLb hw4 h14 k wi de sw rw de9 dr told κ hK hc i (by omega) h2 (SCl κ w q sL lL i) (2 + 80 * i) (by omega) (μ3.1 17) (c3 (sb2 w i) 34) m4 (fun μ4 y10 y9 g4 => ?_) (2 ^ c3 (sb2 w i) 34) 0 (by omega) μ3 ⟨(a_Fz_at hT.1 14 15 (a_md_row (by decide))).trans e15, fun j _ => rfl⟩ ?_
        · refine (ih (i + 1) (by omega) μ4 ⟨g4.1, g4.2.1, (g4.2.2.up (by omega)).iff (fun x => ?_)⟩).2 y10 y9
          rw [Sch_all (fun k hk => by have := hw4 k hk; unfold sb2; split <;> omega) hs12 hT.2.2 x]
          constructor
          · rintro (z | z)
            · exact z.imp id (fun ⟨p9, u1, u2⟩ => ⟨p9, by omega, u2⟩)
            · exact Or.inr ⟨i, by omega, h2, z⟩
          · rintro (z | ⟨p9, u1, u2, u3⟩)
            · exact Or.inl (Or.inl z)
            · by_cases e : p9 = i
              · subst e; exact Or.inr u3
              · exact Or.inl (Or.inr ⟨p9, by omega, u2, u3⟩)
        · refine ⟨a_Fz_tr (by decide) g2.1 hT.1, hT.2.1, ?_⟩
          obtain ⟨n9, a1, a2, a3⟩ := g2.2.2
          have e2 : bqC μ3 = bqC μ2 := by unfold bqC; rw [a_Fz_at hT.1 14 0 (a_md_row (by decide)), a_Fz_at hT.1 14 1 (a_md_row (by decide)), a_Fz_at hT.1 14 2 (a_md_row (by decide)), (hT.1.1 14 3 (a_md_row (by decide))).2]
          exact CI.iff ⟨n9, by omega, (a_Fz_at hT.1 14 4 (a_md_row (by decide))).trans a2, by rw [e2]; exact a3⟩ (fun x => ⟨Or.inl, fun z => z.resolve_right (fun ⟨c9, b1, _⟩ => by omega)⟩)
      · skip
        refine zq_ic hc hH (by rfl) (tg := 197) (by rfl) (fun _ => ?_) (fun h9 => (zb_t ((lt2n (w i) (by omega)).mpr h2) h9).elim)
        refine z_rcs hc hH 4 (pc' := 203) (lv' := [(10, .int 0), (9, .int 0), (8, .int (nI i)), (0, .ref 14), (1, .ref 9), (2, .int k), (3, .int (nB dr)), (4, .long told), (6, .int wi), (7, .int de)]) (st' := []) (μ' := μ2) (by rfl) ?_
        refine z_rcs hc hH 2 (pc' := 207) (lv' := [(10, .int 0), (9, .int 0), (8, .int (nI i)), (0, .ref 14), (1, .ref 9), (2, .int k), (3, .int (nB dr)), (4, .long told), (6, .int wi), (7, .int de)]) (st' := [.int 0, .int 0]) (μ' := μ2) (by rfl) ?_
        refine zq_ic hc hH (by rfl) (tg := 233) (by rfl) (fun _ => ?_) (fun h9 => (zb_t (cm_ge.mpr (by decide)) h9).elim)
        refine z_rcs hc hH 2 (pc' := 164) (lv' := [(8, .int ((nI i) + 1)), (10, .int 0), (9, .int 0), (0, .ref 14), (1, .ref 9), (2, .int k), (3, .int (nB dr)), (4, .long told), (6, .int wi), (7, .int de)]) (st' := []) (μ' := μ2) (by rfl) ?_
        rw [nI_1]
        exact (ih (i + 1) (by omega) μ2 ⟨g2.1, g2.2.1, (g2.2.2.up (by omega)).iff (no h2)⟩).2 _ _
    · skip
      refine z_rcs hc hH 2 (pc' := 168) (lv' := [(8, .int (nI i)), (10, .int x10), (9, .int x9), (0, .ref 14), (1, .ref 9), (2, .int k), (3, .int (nB dr)), (4, .long told), (6, .int wi), (7, .int de)]) (st' := [.int 34, .int (nI i)]) (μ' := μ1) (by rfl) ?_
      refine zq_ic hc hH (by rfl) (tg := 239) (by rfl) (fun h9 => (zb_t h9 (ge_nI (n := 34) (i := i) (by omega) (by decide))).elim) (fun _ => ?_)
      refine z_rcs hc hH 3 (pc' := 177) (lv' := [(8, .int (nI i)), (10, .int x10), (9, .int x9), (0, .ref 14), (1, .ref 9), (2, .int k), (3, .int (nB dr)), (4, .long told), (6, .int wi), (7, .int de)]) (st' := []) (μ' := z_ui μ1 14 15 (nI i)) (by rfl) ?_
      have g2 : JP κ (z_ui μ1 14 15 (nI i)) i (SCl κ w q sL lL i) (2 + 80 * i) := by
        refine ⟨a_Fz_ui g.1 (by decide), a_H_ui g.2.1 (bI_top _), ?_⟩
        obtain ⟨n9, a1, a2, a3⟩ := g.2.2
        exact ⟨n9, a1, a2, a3⟩
      have e15 : (z_ui μ1 14 15 (nI i)).1 14 15 = nI i := by rw [z_ui_rd, if_pos ⟨rfl, rfl⟩]
      generalize z_ui μ1 14 15 (nI i) = μ2 at g2 e15 ⊢
      have w10 : RW μ2 10 w := fun j hj => by rw [a_Fz_at g2.1 10 j (a_md_row (by decide))]; exact hK.r10 j hj
      have ht2 : μ2.2.2 14 = 9 := (g2.1.2 14 (by decide)).trans hK.ht
      refine z_rcs hc hH 3 (pc' := 183) (lv' := [(8, .int (nI i)), (10, .int x10), (9, .int x9), (0, .ref 14), (1, .ref 9), (2, .int k), (3, .int (nB dr)), (4, .long told), (6, .int wi), (7, .int de)]) (st' := [.int (nI i), .ref 10]) (μ' := μ2) (by rfl) ?_
      refine zq_iald hc hH (by rfl) 34 (by decide +kernel) (hin) ?_
      rw [ei, (w10 i (by omega)).1]
      show Z 0 184 [(8, .int (nI i)), (10, .int x10), (9, .int x9), (0, .ref 14), (1, .ref 9), (2, .int k), (3, .int (nB dr)), (4, .long told), (6, .int wi), (7, .int de)] [.int (nI (w i))] μ2
      refine z_rcs hc hH 1 (pc' := 185) (lv' := [(8, .int (nI i)), (10, .int x10), (9, .int x9), (0, .ref 14), (1, .ref 9), (2, .int k), (3, .int (nB dr)), (4, .long told), (6, .int wi), (7, .int de)]) (st' := [.int 2, .int (nI (w i))]) (μ' := μ2) (by rfl) ?_
      by_cases h2 : 2 ≤ w i
      · skip
        refine zq_ic hc hH (by rfl) (tg := 197) (by rfl) (fun h9 => (zb_t h9 ((lt2 (w i) (by omega)).mpr h2)).elim) (fun _ => ?_)
        refine z_rcs hc hH 2 (pc' := 190) (lv' := [(8, .int (nI i)), (10, .int x10), (9, .int x9), (0, .ref 14), (1, .ref 9), (2, .int k), (3, .int (nB dr)), (4, .long told), (6, .int wi), (7, .int de)]) (st' := [.ref 14, .int 1]) (μ' := μ2) (by rfl) ?_
        refine zq_call hc (by rfl) (fb_X1_findThrees d' (by omega) μ2 w i w10 (by omega) h2 e15 ht2 g2.2.1 (by have := sn_sb2 (w := w) (p := i) (by omega) h2; omega)) (by decide +kernel) (fun r3 μ3 hq3 => ?_)
        obtain ⟨rfl, hT⟩ := hq3
        have hs12 : sn (sb2 w i) 34 ≤ 12 := by have := sn_sb2 (w := w) (p := i) (by omega) h2; omega
        have m4 : c3 (sb2 w i) 34 ≤ 4 := by have := c3_sn (sb2 w i) 34; omega
        show Z 0 193 [(8, .int (nI i)), (10, .int x10), (9, .int x9), (0, .ref 14), (1, .ref 9), (2, .int k), (3, .int (nB dr)), (4, .long told), (6, .int wi), (7, .int de)] [.int (nI (c3 (sb2 w i) 34)), .int 1] μ3
        refine z_rcs hc hH 1 (pc' := 194) (lv' := [(8, .int (nI i)), (10, .int x10), (9, .int x9), (0, .ref 14), (1, .ref 9), (2, .int k), (3, .int (nB dr)), (4, .long told), (6, .int wi), (7, .int de)]) (st' := [.int (1 <<< ((nI (c3 (sb2 w i) 34)) &&& 31))]) (μ' := μ3) (by rfl) ?_
        rw [sh_2 _ m4]
        show Z 0 194 [(8, .int (nI i)), (10, .int x10), (9, .int x9), (0, .ref 14), (1, .ref 9), (2, .int k), (3, .int (nB dr)), (4, .long told), (6, .int wi), (7, .int de)] [.int (nI (2 ^ c3 (sb2 w i) 34))] μ3
        refine z_rcs hc hH 4 (pc' := 203) (lv' := [(10, .int 0), (9, .int (nI (2 ^ c3 (sb2 w i) 34))), (8, .int (nI i)), (0, .ref 14), (1, .ref 9), (2, .int k), (3, .int (nB dr)), (4, .long told), (6, .int wi), (7, .int de)]) (st' := []) (μ' := μ3) (by rfl) ?_
        refine jg203 d' Z hd μ0 w aw q hq sL lL hLb hw4 h14 k wi de sw rw de9 dr told κ hK hc i (by omega) h2 (SCl κ w q sL lL i) (2 + 80 * i) (by omega) (μ3.1 17) (c3 (sb2 w i) 34) m4 (fun μ4 y10 y9 g4 => ?_) (2 ^ c3 (sb2 w i) 34) 0 (by omega) μ3 ⟨(a_Fz_at hT.1 14 15 (a_md_row (by decide))).trans e15, fun j _ => rfl⟩ ?_
        · refine (ih (i + 1) (by omega) μ4 ⟨g4.1, g4.2.1, (g4.2.2.up (by omega)).iff (fun x => ?_)⟩).2 y10 y9
          rw [Sch_all (fun k hk => by have := hw4 k hk; unfold sb2; split <;> omega) hs12 hT.2.2 x]
          constructor
          · rintro (z | z)
            · exact z.imp id (fun ⟨p9, u1, u2⟩ => ⟨p9, by omega, u2⟩)
            · exact Or.inr ⟨i, by omega, h2, z⟩
          · rintro (z | ⟨p9, u1, u2, u3⟩)
            · exact Or.inl (Or.inl z)
            · by_cases e : p9 = i
              · subst e; exact Or.inr u3
              · exact Or.inl (Or.inr ⟨p9, by omega, u2, u3⟩)
        · refine ⟨a_Fz_tr (by decide) g2.1 hT.1, hT.2.1, ?_⟩
          obtain ⟨n9, a1, a2, a3⟩ := g2.2.2
          have e2 : bqC μ3 = bqC μ2 := by unfold bqC; rw [a_Fz_at hT.1 14 0 (a_md_row (by decide)), a_Fz_at hT.1 14 1 (a_md_row (by decide)), a_Fz_at hT.1 14 2 (a_md_row (by decide)), (hT.1.1 14 3 (a_md_row (by decide))).2]
          exact CI.iff ⟨n9, by omega, (a_Fz_at hT.1 14 4 (a_md_row (by decide))).trans a2, by rw [e2]; exact a3⟩ (fun x => ⟨Or.inl, fun z => z.resolve_right (fun ⟨c9, b1, _⟩ => by omega)⟩)
      · skip
        refine zq_ic hc hH (by rfl) (tg := 197) (by rfl) (fun _ => ?_) (fun h9 => (zb_t ((lt2n (w i) (by omega)).mpr h2) h9).elim)
        refine z_rcs hc hH 4 (pc' := 203) (lv' := [(10, .int 0), (9, .int 0), (8, .int (nI i)), (0, .ref 14), (1, .ref 9), (2, .int k), (3, .int (nB dr)), (4, .long told), (6, .int wi), (7, .int de)]) (st' := []) (μ' := μ2) (by rfl) ?_
        refine z_rcs hc hH 2 (pc' := 207) (lv' := [(10, .int 0), (9, .int 0), (8, .int (nI i)), (0, .ref 14), (1, .ref 9), (2, .int k), (3, .int (nB dr)), (4, .long told), (6, .int wi), (7, .int de)]) (st' := [.int 0, .int 0]) (μ' := μ2) (by rfl) ?_
        refine zq_ic hc hH (by rfl) (tg := 233) (by rfl) (fun _ => ?_) (fun h9 => (zb_t (cm_ge.mpr (by decide)) h9).elim)
        refine z_rcs hc hH 2 (pc' := 164) (lv' := [(8, .int ((nI i) + 1)), (10, .int 0), (9, .int 0), (0, .ref 14), (1, .ref 9), (2, .int k), (3, .int (nB dr)), (4, .long told), (6, .int wi), (7, .int de)]) (st' := []) (μ' := μ2) (by rfl) ?_
        rw [nI_1]
        exact (ih (i + 1) (by omega) μ2 ⟨g2.1, g2.2.1, (g2.2.2.up (by omega)).iff (no h2)⟩).2 _ _
