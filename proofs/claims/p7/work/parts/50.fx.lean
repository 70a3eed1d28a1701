/-! walking the small machine by hand: many steps at once, rows, branches, calls -/
def z_rc (xs : Nat × (Nat → Int32)) (np oc nL : Nat) (code : zT) : Nat → zS → Option zS
  | 0, q => some q
  | n + 1, q => match z_tk code.2.1 q.1 with
    | none => none
    | some ins => match z_step xs np oc nL ins q with
      | none => none
      | some q' => z_rc xs np oc nL code n q'
section FX
variable {xs : Nat × (Nat → Int32)} {j : Nat} {C : Nat → List Value → zM → zQ → Prop} {Z : zK} {code : zT} {np oc nL : Nat} {b pc : Nat} {lv : zL} {st : List Value} {μ : zM}
theorem z_rcs (h : z_clo xs j C Z) (hH : zH j code np oc nL) (n : Nat) {pc' : Nat} {lv' : zL} {st' : List Value} {μ' : zM} (hr : z_rc xs np oc nL code n (pc, lv, st, μ) = some (pc', lv', st', μ')) (k : Z b pc' lv' st' μ') : Z b pc lv st μ := by
  obtain ⟨hc, hn, ho, hl, -, -⟩ := hH
  induction n generalizing pc lv st μ with
  | zero => cases hr; exact k
  | succ n ih =>
    unfold z_rc at hr
    split at hr
    · cases hr
    · rename_i ins hi
      split at hr
      · cases hr
      · rename_i q' hq
        obtain ⟨pc', lv', st', μ'⟩ := q'
        have hi : z_ft j pc = some ins := hc pc ins hi
        rw [← hn, ← ho, ← hl] at hq
        exact h.1 b pc lv st μ ins pc' lv' st' μ' hi hq (ih hr)
theorem zq_st (h : z_clo xs j C Z) (hH : zH j code np oc nL) {ins : Instr} (hi : z_tk code.2.1 pc = some ins) {pc' : Nat} {lv' : zL} {st' : List Value} {μ' : zM} (hs : z_step xs np oc nL ins (pc, lv, st, μ) = some (pc', lv', st', μ')) (k : Z b pc' lv' st' μ') : Z b pc lv st μ := by
  obtain ⟨hc, hn, ho, hl, -, -⟩ := hH
  refine h.1 b pc lv st μ ins pc' lv' st' μ' (hc pc ins hi) ?_ k
  rw [hn, ho, hl]
  exact hs
theorem zq_iald (h : z_clo xs j C Z) (hH : zH j code np oc nL) (hi : z_tk code.2.1 pc = some .iaload) {r : Nat} {i : Int32} {t : List Value} (n : Nat) (h1 : Nat.blt r 100 = true ∧ Nat.blt r np = true ∧ Nat.beq (z_sh r).1 1 = true ∧ (z_sh r).2.2 = n) (hin : vp_in i n) (k : Z b (pc + 1) lv (.int (μ.1 r i.toNatClampNeg) :: t) μ) : Z b pc lv (.int i :: .ref r :: t) μ := by
  refine zq_st h hH hi ?_ k
  show (match z_hp xs np oc .iaload (.int i :: .ref r :: t) μ with | some (st', μ') => some (pc + 1, lv, st', μ') | none => none) = _
  unfold z_hp
  simp only [h1.1, h1.2.1, h1.2.2.1, h1.2.2.2, z_in_iff.mpr hin, Bool.and_self, cond_true]
theorem zq_iast (h : z_clo xs j C Z) (hH : zH j code np oc nL) (hi : z_tk code.2.1 pc = some .iastore) {r : Nat} {i x : Int32} {t : List Value} (n : Nat) (h1 : Nat.blt r np = true ∧ Nat.beq (z_sh r).1 1 = true ∧ (z_sh r).2.2 = n) (hin : vp_in i n) (k : Z b (pc + 1) lv t (z_ui μ r i.toNatClampNeg x)) : Z b pc lv (.int x :: .int i :: .ref r :: t) μ := by
  refine zq_st h hH hi ?_ k
  show (match z_hp xs np oc .iastore (.int x :: .int i :: .ref r :: t) μ with | some (st', μ') => some (pc + 1, lv, st', μ') | none => none) = _
  unfold z_hp
  simp only [h1.1, h1.2.1, h1.2.2, z_in_iff.mpr hin, Bool.and_self, cond_true]
theorem zq_bald (h : z_clo xs j C Z) (hH : zH j code np oc nL) (hi : z_tk code.2.1 pc = some .baload) {r : Nat} {i : Int32} {t : List Value} (n : Nat) (h1 : Nat.blt r np = true ∧ Nat.beq (z_sh r).1 3 = true ∧ (z_sh r).2.2 = n) (hin : vp_in i n) (k : Z b (pc + 1) lv (.int (μ.1 r i.toNatClampNeg) :: t) μ) : Z b pc lv (.int i :: .ref r :: t) μ := by
  refine zq_st h hH hi ?_ k
  show (match z_hp xs np oc .baload (.int i :: .ref r :: t) μ with | some (st', μ') => some (pc + 1, lv, st', μ') | none => none) = _
  unfold z_hp
  simp only [h1.1, h1.2.1, h1.2.2, z_in_iff.mpr hin, Bool.and_self, cond_true]
theorem zq_bast (h : z_clo xs j C Z) (hH : zH j code np oc nL) (hi : z_tk code.2.1 pc = some .bastore) {r : Nat} {i x : Int32} {t : List Value} (n : Nat) (h1 : Nat.blt r np = true ∧ Nat.beq (z_sh r).1 3 = true ∧ (z_sh r).2.2 = n) (hin : vp_in i n) (hx : z_b01 x = true) (k : Z b (pc + 1) lv t (z_ui μ r i.toNatClampNeg x)) : Z b pc lv (.int x :: .int i :: .ref r :: t) μ := by
  refine zq_st h hH hi ?_ k
  show (match z_hp xs np oc .bastore (.int x :: .int i :: .ref r :: t) μ with | some (st', μ') => some (pc + 1, lv, st', μ') | none => none) = _
  unfold z_hp
  simp only [h1.1, h1.2.1, h1.2.2, z_in_iff.mpr hin, hx, Bool.and_self, cond_true]
/-- a boolean field is written -/
theorem zq_zput (h : z_clo xs j C Z) (hH : zH j code np oc nL) {idx : Nat} (hi : z_tk code.2.1 pc = some (.putfield idx)) {r ci f : Nat} {x : Int32} {t : List Value} (h1 : z_lk (z_flds.getD oc []) idx = some (ci, f) ∧ (Nat.blt r np && (Nat.beq (z_sh r).1 0 && (Nat.beq (z_sh r).2.1 ci && Nat.blt f (z_sh r).2.2))) = true ∧ z_fk ci f = 2) (hx : z_b01 x = true) (k : Z b (pc + 3) lv t (z_ui μ r f x)) : Z b pc lv (.int x :: .ref r :: t) μ := by
  refine zq_st h hH hi ?_ k
  show (match z_hp xs np oc (.putfield idx) (.int x :: .ref r :: t) μ with | some (st', μ') => some (pc + 3, lv, st', μ') | none => none) = _
  unfold z_hp z_pv
  simp only [h1.1, h1.2.1, h1.2.2, hx, cond_true, Option.map_some]
theorem zq_if (h : z_clo xs j C Z) (hH : zH j code np oc nL) {c : Jvm.ClassFile.Cond} {off : Int} (hi : z_tk code.2.1 pc = some (.ifCond c off)) {x : Int32} {t : List Value} {tg : Nat} (ht : z_to pc off = some tg) (kt : z_cmp c x 0 = true → Z b tg lv t μ) (kf : z_cmp c x 0 = false → Z b (pc + 3) lv t μ) : Z b pc lv (.int x :: t) μ := by
  cases hc : z_cmp c x 0 with
  | true =>
    refine zq_st h hH hi ?_ (kt hc)
    show (match (z_to pc off).map (fun t' => (bif z_cmp c x 0 then t' else pc + 3, t)) with | some (pc', st') => some (pc', lv, st', μ) | none => _) = _
    rw [ht, hc]
    rfl
  | false =>
    refine zq_st h hH hi ?_ (kf hc)
    show (match (z_to pc off).map (fun t' => (bif z_cmp c x 0 then t' else pc + 3, t)) with | some (pc', st') => some (pc', lv, st', μ) | none => _) = _
    rw [ht, hc]
    rfl
theorem zq_ic (h : z_clo xs j C Z) (hH : zH j code np oc nL) {c : Jvm.ClassFile.Cond} {off : Int} (hi : z_tk code.2.1 pc = some (.if_icmp c off)) {x y : Int32} {t : List Value} {tg : Nat} (ht : z_to pc off = some tg) (kt : z_cmp c x y = true → Z b tg lv t μ) (kf : z_cmp c x y = false → Z b (pc + 3) lv t μ) : Z b pc lv (.int y :: .int x :: t) μ := by
  cases hc : z_cmp c x y with
  | true =>
    refine zq_st h hH hi ?_ (kt hc)
    show (match (z_to pc off).map (fun t' => (bif z_cmp c x y then t' else pc + 3, t)) with | some (pc', st') => some (pc', lv, st', μ) | none => _) = _
    rw [ht, hc]
    rfl
  | false =>
    refine zq_st h hH hi ?_ (kf hc)
    show (match (z_to pc off).map (fun t' => (bif z_cmp c x y then t' else pc + 3, t)) with | some (pc', st') => some (pc', lv, st', μ) | none => _) = _
    rw [ht, hc]
    rfl
theorem zq_call {d : Nat} (h : z_clo xs j (z_C d) Z) {j' : Nat} {As rest : List Value} {Q : zQ} (hz : z_cl j pc st = some (j', As, rest)) (hC : z_C d j' As μ Q) (hb : b + z_al j' ≤ z_al j) (k : ∀ (r : Option Value) (μ' : zM), Q r μ' → Z (b + z_al j') (pc + 3) lv (r.toList ++ rest) μ') : Z b pc lv st μ := h.2 b pc lv st μ j' As rest hz hb (z_C_mono hC k)
end FX
theorem z_C_in {d j : Nat} {As : List Value} {μ : zM} {Q : zQ} (hj : Nat.beq j mi_X7_nobodyWins = false) (hd : 1 ≤ d) (h : ∀ (d' : Nat) (Z : zK), d = d' + 1 → z_clo z_x0 j (z_C d') Z → z_ret j Q Z → Z 0 0 (lv_args 0 As) [] μ) : z_C d j As μ Q := by
  cases d with
  | zero => exact absurd hd (by decide)
  | succ d =>
    intro Z h1 h2
    unfold z_go
    rw [hj]
    exact h d Z rfl h1 h2
/-- a pure answer: memory as it was -/
def zR (μ : zM) (v : Value) : zQ := fun r μ' => μ' = μ ∧ r = some v
theorem zb_t {c : Bool} (h : c = true) : ¬ c = false := by rw [h]; decide
theorem cm_lt {x y : Int32} : z_cmp .lt x y = true ↔ x < y := decide_eq_true_iff
theorem cm_ge {x y : Int32} : z_cmp .ge x y = true ↔ y ≤ x := decide_eq_true_iff
theorem cm_gt {x y : Int32} : z_cmp .gt x y = true ↔ y < x := decide_eq_true_iff
theorem cm_le {x y : Int32} : z_cmp .le x y = true ↔ x ≤ y := decide_eq_true_iff
theorem cm_eq9 {x y : Int32} : z_cmp .eq x y = true ↔ x = y := decide_eq_true_iff
theorem cn_lt {x y : Int32} : z_cmp .lt x y = false ↔ ¬ x < y := decide_eq_false_iff_not
theorem cn_ge {x y : Int32} : z_cmp .ge x y = false ↔ ¬ y ≤ x := decide_eq_false_iff_not
theorem cn_gt {x y : Int32} : z_cmp .gt x y = false ↔ ¬ y < x := decide_eq_false_iff_not
theorem cn_le {x y : Int32} : z_cmp .le x y = false ↔ ¬ x ≤ y := decide_eq_false_iff_not
theorem cn_eq {x y : Int32} : z_cmp .eq x y = false ↔ ¬ x = y := decide_eq_false_iff_not
theorem cm_ne {x y : Int32} : z_cmp .ne x y = true ↔ ¬ x = y := by
  show (!decide (x = y)) = true ↔ _
  rw [Bool.not_eq_true', decide_eq_false_iff_not]
theorem cn_ne {x y : Int32} : z_cmp .ne x y = false ↔ x = y := by
  show (!decide (x = y)) = false ↔ _
  rw [Bool.not_eq_false', decide_eq_true_iff]
