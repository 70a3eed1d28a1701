/-! a seat's tiles: what is known of the desk's goes over -/
set_option maxRecDepth 8000
theorem z_tr_lng {f : Nat → Nat} {v : Value} {n : Int64} (h : z_tr f v = .long n) : v = .long n := by
  cases v <;> first | exact h | (exact absurd h (by simp [z_tr]))
theorem map_int {f : Nat → Nat} {r : Option Value} {n : Int32} (h : r.map (z_tr f) = some (.int n)) : r = some (.int n) := by
  cases r with
  | none => exact absurd h (by simp)
  | some v =>
    have h2 : some (z_tr f v) = some (Value.int n) := h
    injection h2 with h2
    exact congrArg some (z_tr_int h2)
theorem map_lng {f : Nat → Nat} {r : Option Value} {n : Int64} (h : r.map (z_tr f) = some (.long n)) : r = some (.long n) := by
  cases r with
  | none => exact absurd h (by simp)
  | some v =>
    have h2 : some (z_tr f v) = some (Value.long n) := h
    injection h2 with h2
    exact congrArg some (z_tr_lng h2)
theorem map_non {f : Nat → Nat} {r : Option Value} (h : r.map (z_tr f) = none) : r = none := by
  cases r with
  | none => rfl
  | some v => exact absurd h (by simp)
theorem at_Ri {j : Nat} (hj : j < 4) {μ : zM} {m d : Nat} (hm : m ∈ JX) {As As' : List Value} (hA : Sg (sgm j) As = As') {n : Int32} (h : z_C d m As (sMm j μ) (zR (sMm j μ) (.int n))) : z_C d m As' μ (zR μ (.int n)) := by
  rw [← hA]
  refine z_C_mono (at_seat hj hm h) (fun r μ' z => ⟨?_, map_int z.2⟩)
  rw [← sM_sM hj μ', z.1, sM_sM hj]
theorem at_Rl {j : Nat} (hj : j < 4) {μ : zM} {m d : Nat} (hm : m ∈ JX) {As As' : List Value} (hA : Sg (sgm j) As = As') {n : Int64} (h : z_C d m As (sMm j μ) (zR (sMm j μ) (.long n))) : z_C d m As' μ (zR μ (.long n)) := by
  rw [← hA]
  refine z_C_mono (at_seat hj hm h) (fun r μ' z => ⟨?_, map_lng z.2⟩)
  rw [← sM_sM hj μ', z.1, sM_sM hj]
theorem at_B {j : Nat} (hj : j < 4) {μ : zM} {m d : Nat} (hm : m ∈ JX) {As As' : List Value} (hA : Sg (sgm j) As = As') {p : Prop} (h : z_C d m As (sMm j μ) (zB (sMm j μ) p)) : z_C d m As' μ (zB μ p) := by
  rw [← hA]
  refine z_C_mono (at_seat hj hm h) (fun r μ' z => ⟨?_, ?_⟩)
  · rw [← sM_sM hj μ', z.1, sM_sM hj]
  · rcases z.2 with ⟨e, h⟩ | ⟨e, h⟩
    · exact Or.inl ⟨map_int e, h⟩
    · exact Or.inr ⟨map_int e, h⟩
theorem at_N {j : Nat} (hj : j < 4) {μ : zM} {m d : Nat} (hm : m ∈ JX) {As As' : List Value} (hA : Sg (sgm j) As = As') {Q : zM → Prop} (h : z_C d m As (sMm j μ) (fun r μ' => r = none ∧ Q μ')) : z_C d m As' μ (fun r μ' => r = none ∧ Q (sMm j μ')) := by
  rw [← hA]
  exact z_C_mono (at_seat hj hm h) (fun r μ' z => ⟨map_non z.1, z.2⟩)
theorem sg9 {j : Nat} (hj : j < 4) {l : List Value} (hl : Sg (sgm j) l = l) : Sg (sgm j) (.ref 9 :: l) = .ref (19 + 8 * j) :: l := by
  show Value.ref (sgm j 9) :: Sg (sgm j) l = _
  rw [(sgm_r j hj).1, hl]
theorem gc_isOpen (d : Nat) (hd : 1 ≤ d) (μ : zM) (j : Nat) (hj : j < 4) (q : Nat) (hq : q ≤ 4) (e4 : μ.1 (19 + 8 * j) 4 = nI q) : z_C d mi_X3_isOpen [.ref (19 + 8 * j)] μ (zR μ (.int (nB (xOr (μ.1 (22 + 8 * j)) q)))) := by
  have z := fx_X3_isOpen d hd (sMm j μ) q hq (by rw [sM9 hj]; exact e4)
  have e : (sMm j μ).1 12 = μ.1 (22 + 8 * j) := by funext k; exact sM12 hj μ k
  rw [e] at z
  exact at_Ri hj (by decide) (sg9 hj rfl) z
theorem gc_waiting (d : Nat) (hd : 7 ≤ d) (μ : zM) (j : Nat) (hj : j < 4) (w : Nat → Nat) (q : Nat) (hw : RW μ (20 + 8 * j) w) (h4 : ∀ k, k < 34 → w k ≤ 4) (hq : q ≤ 4) (e4 : μ.1 (19 + 8 * j) 4 = nI q) (h11 : q = 0 → RW μ (21 + 8 * j) w) : z_C d mi_X3_waiting [.ref (19 + 8 * j)] μ (zR μ (.long (kb (wb (WX (sMm j μ) w q)) 34))) := by
  refine at_Rl hj (by decide) (sg9 hj rfl) (fx_X3_waiting d hd (sMm j μ) w q ?_ h4 hq (by rw [sM9 hj]; exact e4) ?_)
  · intro k hk; rw [sM10 hj]; exact hw k hk
  · intro h0 k hk; rw [sM11 hj]; exact h11 h0 k hk
theorem gc_waitsFor (d : Nat) (hd : 6 ≤ d) (μ : zM) (j : Nat) (hj : j < 4) (w : Nat → Nat) (q c : Nat) (hw : RW μ (20 + 8 * j) w) (h4 : ∀ k, k < 34 → w k ≤ 4) (hq : q ≤ 4) (e4 : μ.1 (19 + 8 * j) 4 = nI q) (h11 : q = 0 → RW μ (21 + 8 * j) w) (hcc : c < 34) : z_C d mi_X3_waitsFor [.ref (19 + 8 * j), .int (nI c)] μ (zB μ (WX (sMm j μ) w q c)) := by
  refine at_B hj (by decide) (sg9 hj rfl) (fx_X3_waitsFor d hd (sMm j μ) w q c ?_ h4 hq (by rw [sM9 hj]; exact e4) ?_ hcc)
  · intro k hk; rw [sM10 hj]; exact hw k hk
  · intro h0 k hk; rw [sM11 hj]; exact h11 h0 k hk
theorem gc_layDown (d : Nat) (hd : 2 ≤ d) (μ : zM) (j : Nat) (hj : j < 4) (s : Int32) (a q : Nat) (ham : a + zl s ≤ 33) (hq3 : q ≤ 3) (e4 : μ.1 (19 + 8 * j) 4 = nI q) : z_C d mi_X3_layDown [.ref (19 + 8 * j), .int s, .int (nI a)] μ (fun r μ' => r = none ∧ zLD (sMm j μ) s a q (sMm j μ')) :=
  at_N hj (by decide) (sg9 hj rfl) (fc_X3_layDown d hd (sMm j μ) s a q ham hq3 (by rw [sM9 hj]; exact e4))
theorem gc_kinds (d : Nat) (hd : 1 ≤ d) (μ : zM) (j : Nat) (hj : j < 4) (w : Nat → Nat) (hw : RW μ (21 + 8 * j) w) : z_C d mi_X3_kinds [.ref (19 + 8 * j)] μ (zR μ (.long (kb (fun k => decide (0 < w k)) 34))) := by
  refine at_Rl hj (by decide) (sg9 hj rfl) (fc_X3_kinds d hd (sMm j μ) w ?_)
  intro k hk; rw [sM11 hj]; exact hw k hk
theorem gc_size (d : Nat) (hd : 1 ≤ d) (μ : zM) (j : Nat) (hj : j < 4) : z_C d mi_X3_size [.ref (19 + 8 * j)] μ (zR μ (.int (μ.1 (19 + 8 * j) 5 + 3 * μ.1 (19 + 8 * j) 4))) := by
  have z := fc_X3_size d hd (sMm j μ)
  rw [sM9 hj, sM9 hj] at z
  exact at_Ri hj (by decide) (sg9 hj rfl) z
theorem a_abs_sg : ∀ j, j < 4 → ∀ r, r < 79 → z_lk a_abs (sgm j r) = z_lk a_abs r := by decide +kernel
theorem a_bd_sg {j : Nat} (hj : j < 4) (r k : Nat) : a_bd (sgm j r) k = a_bd r k := by
  by_cases c : r < 79
  · unfold a_bd a_abd
    rw [(sgm_lo j hj r c).2, a_abs_sg j hj r c]
  · rw [sgm_hi j hj r (by omega)]
theorem a_H_sg {j : Nat} (hj : j < 4) {μ : zM} (h : a_H μ) : a_H (sMm j μ) := by
  intro r k
  have z := h (sgm j r) k
  rw [a_bd_sg hj] at z
  exact z
theorem gc_judge (d : Nat) (hd : 8 ≤ d) (μ : zM) (j : Nat) (hj : j < 4) (w aw : Nat → Nat) (q : Nat) (hq : q ≤ 4) (sL lL : Nat → Nat) (hLb : ∀ i, i < q → sL i ≤ 3 ∧ lL i < 34) (hw4 : ∀ k, k < 34 → w k ≤ 4) (w10 : RW μ (20 + 8 * j) w) (w11 : RW μ (21 + 8 * j) aw) (w110 : q = 0 → ∀ k, k < 34 → aw k = w k) (d4 : μ.1 (19 + 8 * j) 4 = nI q) (d5 : μ.1 (19 + 8 * j) 5 = nI (sn w 34)) (hL : ∀ i, i < q → μ.1 (22 + 8 * j) i = nI (sL i) ∧ μ.1 (23 + 8 * j) i = nI (lL i)) (hH0 : a_H μ) (k wi de : Int32) (dr : Bool) (told : Int64) : z_C d mi_X1_judge [.ref 4, .ref (19 + 8 * j), .int k, .int (nB dr), .long told, .int wi, .int de] μ (fun r μ' => r = none ∧ a_H (sMm j μ') ∧ a_Fz mdJJ (sMm j μ) (sMm j μ') ∧ ((¬ (sn w 34 + 3 * q = 14 ∧ vp_in k 34 ∧ 0 < w k.toNatClampNeg) ∧ bqC (sMm j μ') = (0, 0, 0, 0)) ∨ ((sn w 34 + 3 * q = 14 ∧ vp_in k 34 ∧ 0 < w k.toNatClampNeg) ∧ ∃ κ, KC κ w aw q sL lL k dr told (27 + (wi &&& 3)) (rw9 wi) de ∧ CI (SCl κ w q sL lL 34) 5000 (sMm j μ')))) := by
  refine at_N hj (by decide) (As := [.ref 14, .ref 9, .int k, .int (nB dr), .long told, .int wi, .int de]) ?_ (fb_X1_judge d hd (sMm j μ) w aw q hq sL lL hLb hw4 ?_ ?_ w110 (by rw [sM9 hj]; exact d4) (by rw [sM9 hj]; exact d5) ?_ (a_H_sg hj hH0) k wi de dr told)
  · show [Value.ref (sgm j 14), .ref (sgm j 9), .int k, .int (nB dr), .long told, .int wi, .int de] = _
    rw [(sgm_r j hj).1, (sgm_r j hj).2.2.2.2.2.1]
  · intro k hk; rw [sM10 hj]; exact w10 k hk
  · intro k hk; rw [sM11 hj]; exact w11 k hk
  · intro i hi; rw [sM12 hj, sM13 hj]; exact hL i hi
