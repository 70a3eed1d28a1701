/-! rules for cells of a seat that is not known by number -/
section RF
variable {xs : Nat × (Nat → Int32)} {j : Nat} {C : Nat → List Value → zM → zQ → Prop} {Z : zK} {code : List (Nat × Instr)} {np oc nL : Nat} {b pc : Nat} {lv : zL} {st : List Value} {μ : zM}
def okf (np ci f r : Nat) : Bool := Nat.blt r np && (Nat.beq (z_sh r).1 0 && (Nat.beq (z_sh r).2.1 ci && Nat.blt f (z_sh r).2.2))
def oka (np t n r : Nat) : Bool := Nat.blt r 100 && (Nat.blt r np && (Nat.beq (z_sh r).1 t && Nat.beq (z_sh r).2.2 n))
theorem sj {P : Nat → Bool} {i : Nat} (hi : i < 4) (h : (P 0 && (P 1 && (P 2 && P 3))) = true) : P i = true := by
  simp only [Bool.and_eq_true] at h
  match i, hi with
  | 0, _ => exact h.1
  | 1, _ => exact h.2.1
  | 2, _ => exact h.2.2.1
  | 3, _ => exact h.2.2.2
  | n + 4, h => exact absurd h (by omega)
theorem zq_gfi (h : z_clo xs j C Z) (hH : zH j code np oc nL) {idx : Nat} (hi : z_lk code pc = some (.getfield idx)) {r ci f : Nat} {t : List Value} (h1 : z_lk (z_flds.getD oc []) idx = some (ci, f)) (h2 : okf np ci f r = true) (h3 : (Nat.beq (z_fk ci f) 0 || Nat.beq (z_fk ci f) 2) = true) (k : Z b (pc + 3) lv (.int (μ.1 r f) :: t) μ) : Z b pc lv (.ref r :: t) μ := by
  refine zq_st h hH hi ?_ k
  show (match z_hp xs np oc (.getfield idx) (.ref r :: t) μ with | some (st', μ') => some (pc + 3, lv, st', μ') | none => none) = _
  unfold okf at h2
  unfold z_hp z_gv
  simp only [h1, h2, cond_true]
  rw [Bool.or_eq_true] at h3
  rcases h3 with e | e
  · rw [Nat.eq_of_beq_eq_true e]; rfl
  · rw [Nat.eq_of_beq_eq_true e]; rfl
theorem zq_gfl (h : z_clo xs j C Z) (hH : zH j code np oc nL) {idx : Nat} (hi : z_lk code pc = some (.getfield idx)) {r ci f : Nat} {t : List Value} (h1 : z_lk (z_flds.getD oc []) idx = some (ci, f)) (h2 : okf np ci f r = true) (h3 : z_fk ci f = 1) (k : Z b (pc + 3) lv (.long (μ.2.1 r f) :: t) μ) : Z b pc lv (.ref r :: t) μ := by
  refine zq_st h hH hi ?_ k
  show (match z_hp xs np oc (.getfield idx) (.ref r :: t) μ with | some (st', μ') => some (pc + 3, lv, st', μ') | none => none) = _
  unfold okf at h2
  unfold z_hp z_gv
  simp only [h1, h2, cond_true, h3]
theorem zq_gfr (h : z_clo xs j C Z) (hH : zH j code np oc nL) {idx : Nat} (hi : z_lk code pc = some (.getfield idx)) {r ci f q : Nat} {t : List Value} (h1 : z_lk (z_flds.getD oc []) idx = some (ci, f)) (h2 : okf np ci f r = true) (h3 : z_fk ci f = 3) (h4 : Nat.beq (z_gr r f) q = true) (k : Z b (pc + 3) lv (.ref q :: t) μ) : Z b pc lv (.ref r :: t) μ := by
  refine zq_st h hH hi ?_ k
  show (match z_hp xs np oc (.getfield idx) (.ref r :: t) μ with | some (st', μ') => some (pc + 3, lv, st', μ') | none => none) = _
  unfold okf at h2
  unfold z_hp z_gv
  simp only [h1, h2, cond_true, h3, Nat.eq_of_beq_eq_true h4]
theorem zq_pfi (h : z_clo xs j C Z) (hH : zH j code np oc nL) {idx : Nat} (hi : z_lk code pc = some (.putfield idx)) {r ci f : Nat} {x : Int32} {t : List Value} (h1 : z_lk (z_flds.getD oc []) idx = some (ci, f)) (h2 : okf np ci f r = true) (h3 : z_fk ci f = 0) (k : Z b (pc + 3) lv t (z_ui μ r f x)) : Z b pc lv (.int x :: .ref r :: t) μ := by
  refine zq_st h hH hi ?_ k
  show (match z_hp xs np oc (.putfield idx) (.int x :: .ref r :: t) μ with | some (st', μ') => some (pc + 3, lv, st', μ') | none => none) = _
  unfold okf at h2
  unfold z_hp z_pv
  simp only [h1, h2, h3, cond_true, Option.map_some]
theorem zq_pfb (h : z_clo xs j C Z) (hH : zH j code np oc nL) {idx : Nat} (hi : z_lk code pc = some (.putfield idx)) {r ci f : Nat} {x : Int32} {t : List Value} (h1 : z_lk (z_flds.getD oc []) idx = some (ci, f)) (h2 : okf np ci f r = true) (h3 : z_fk ci f = 2) (hx : z_b01 x = true) (k : Z b (pc + 3) lv t (z_ui μ r f x)) : Z b pc lv (.int x :: .ref r :: t) μ := by
  refine zq_st h hH hi ?_ k
  show (match z_hp xs np oc (.putfield idx) (.int x :: .ref r :: t) μ with | some (st', μ') => some (pc + 3, lv, st', μ') | none => none) = _
  unfold okf at h2
  unfold z_hp z_pv
  simp only [h1, h2, h3, hx, cond_true, Option.map_some]
theorem zq_pfl (h : z_clo xs j C Z) (hH : zH j code np oc nL) {idx : Nat} (hi : z_lk code pc = some (.putfield idx)) {r ci f : Nat} {x : Int64} {t : List Value} (h1 : z_lk (z_flds.getD oc []) idx = some (ci, f)) (h2 : okf np ci f r = true) (h3 : z_fk ci f = 1) (k : Z b (pc + 3) lv t (z_uj μ r f x)) : Z b pc lv (.long x :: .ref r :: t) μ := by
  refine zq_st h hH hi ?_ k
  show (match z_hp xs np oc (.putfield idx) (.long x :: .ref r :: t) μ with | some (st', μ') => some (pc + 3, lv, st', μ') | none => none) = _
  unfold okf at h2
  unfold z_hp z_pv
  simp only [h1, h2, h3, cond_true, Option.map_some]
theorem oka_i {np n r : Nat} (h : oka np 1 n r = true) : Nat.blt r 100 = true ∧ Nat.blt r np = true ∧ Nat.beq (z_sh r).1 1 = true ∧ (z_sh r).2.2 = n := by
  unfold oka at h
  simp only [Bool.and_eq_true] at h
  exact ⟨h.1, h.2.1, h.2.2.1, Nat.eq_of_beq_eq_true h.2.2.2⟩
/-- players[i], wins[i] -/
theorem zq_aald (h : z_clo xs j C Z) (hH : zH j code np oc nL) (hi : z_lk code pc = some .aaload) {r i q : Nat} {t : List Value} (hi4 : i < 4) (h1 : (Nat.blt r np && (Nat.beq (z_sh r).1 4 && Nat.beq (z_sh r).2.2 4)) = true) (h2 : Nat.beq (z_gr r i) q = true) (k : Z b (pc + 1) lv (.ref q :: t) μ) : Z b pc lv (.int (nI i) :: .ref r :: t) μ := by
  refine zq_st h hH hi ?_ k
  show (match z_hp xs np oc .aaload (.int (nI i) :: .ref r :: t) μ with | some (st', μ') => some (pc + 1, lv, st', μ') | none => none) = _
  simp only [Bool.and_eq_true] at h1
  have e : (nI i).toNatClampNeg = i := nI_clamp (by omega)
  have e2 : z_in (nI i) 4 = true := z_in_iff.mpr (vp_in_nI hi4 (by decide))
  unfold z_hp
  simp only [h1.1, h1.2.1, Nat.eq_of_beq_eq_true h1.2.2, e, e2, Bool.and_self, cond_true, Nat.eq_of_beq_eq_true h2]
end RF
theorem and3 {a : Nat} (h : a < 2147483648) : (nI a &&& 3 : Int32) = nI (a % 4) := by
  apply Int32.toBitVec_inj.mp
  show BitVec.ofNat 32 a &&& 3#32 = BitVec.ofNat 32 (a % 4)
  apply BitVec.eq_of_toNat_eq
  rw [BitVec.toNat_and, BitVec.toNat_ofNat, Nat.mod_eq_of_lt (by omega : a < 2 ^ 32)]
  refine Eq.trans (b := a % 4) ?_ (Eq.symm (by rw [BitVec.toNat_ofNat]; exact Nat.mod_eq_of_lt (by omega)))
  show a &&& (2 ^ 2 - 1) = a % 4
  rw [Nat.and_two_pow_sub_one_eq_mod]
def okr (np ci r : Nat) : Bool := Nat.blt r np && (Nat.beq (z_sh r).1 0 && Nat.beq (z_sh r).2.1 ci)
/-- a call of a method of a cell that is not known by number -/
theorem z_clv {j pc idx j' na ci r : Nat} {As rest st : List Value} (h1 : z_ft j pc = some (.invokevirtual idx)) (h2 : z_lk (z_cals.getD (z_oc j) []) idx = some (0, j', na, ci)) (h3 : (st.take na).reverse = .ref r :: As) (h8 : st.drop na = rest) (h4 : Nat.beq (As.length + 1) na = true) (hn : z_np j = 79) (h5 : okr 79 ci r = true) (h6 : Nat.ble (z_cat rest) 8 = true) (h7 : Nat.ble (z_cat (.ref r :: As)) (z_ml j') = true) : z_cl j pc st = some (j', .ref r :: As, rest) := by
  unfold okr at h5
  simp only [Bool.and_eq_true] at h5
  unfold z_cl
  rw [h1]
  simp only [h2, h3]
  subst h8
  rw [h4, hn, h5.1, h5.2.1, h5.2.2, h6, h7]
  rfl
