/-! a seat's tiles in the place of the desk's, the game's judge in the place of the desk's -/
set_option maxRecDepth 8000
noncomputable def swp (L : List (Nat × Nat)) (r : Nat) : Nat := match L with
  | [] => r
  | q :: t => if r = q.1 then q.2 else if r = q.2 then q.1 else swp t r
/-- seat j's tiles for the desk's, judge 4 for judge 14 -/
noncomputable def sgm (j : Nat) : Nat → Nat := swp [(9, 19 + 8 * j), (10, 20 + 8 * j), (11, 21 + 8 * j), (12, 22 + 8 * j), (13, 23 + 8 * j), (14, 4), (15, 5), (16, 6), (17, 7)]
theorem sgm_hi (j : Nat) (hj : j < 4) (r : Nat) (hr : 79 ≤ r) : sgm j r = r := by
  unfold sgm
  simp only [swp]
  repeat' rw [if_neg (by omega)]
theorem sgm_lo : ∀ j, j < 4 → ∀ r, r < 79 → sgm j (sgm j r) = r ∧ z_sh (sgm j r) = z_sh r := by decide +kernel
theorem gr_hi : ∀ r, r < 79 → ∀ q ∈ z_grs.getD r [], q.1 < 80 := by decide +kernel
theorem lk_none {l : List (Nat × Nat)} {k : Nat} (h : ∀ q ∈ l, q.1 < 80) (hk : 80 ≤ k) : z_lk l k = none := by
  induction l with
  | nil => rfl
  | cons q t ih =>
    show (bif Nat.beq q.1 k then some q.2 else z_lk t k) = none
    have : Nat.beq q.1 k = false := by rw [← Bool.not_eq_true, bq_t]; have := h q List.mem_cons_self; omega
    rw [this]
    exact ih (fun q hq => h q (List.mem_cons_of_mem _ hq))
theorem gr_lo : ∀ j, j < 4 → ∀ r, r < 79 → (!(Nat.beq (z_sh r).1 0 && (Nat.beq (z_sh r).2.1 0 || Nat.beq (z_sh r).2.1 2)) || (List.range 80).all (fun k => Nat.beq (z_gr (sgm j r) k) (sgm j (z_gr r k)))) = true := by decide +kernel
theorem sgm_lt : ∀ j, j < 4 → ∀ r, r < 79 → sgm j r < 79 := by decide +kernel
theorem sgm_0 : ∀ j, j < 4 → sgm j 0 = 0 ∧ sgm j 60 = 60 := by decide +kernel
theorem RN_sgm (j : Nat) (hj : j < 4) : RN (sgm j) := by
  refine ⟨fun r => ?_, fun r => ?_, fun r hr => sgm_hi j hj r hr, (sgm_0 j hj).1, (sgm_0 j hj).2, fun r k h0 h1 => ?_⟩
  · by_cases c : r < 79
    · exact (sgm_lo j hj r c).1
    · rw [sgm_hi j hj r (by omega), sgm_hi j hj r (by omega)]
  · by_cases c : r < 79
    · exact (sgm_lo j hj r c).2
    · rw [sgm_hi j hj r (by omega)]
  · by_cases c : r < 79
    · by_cases hk : k < 80
      · have z := gr_lo j hj r c
        rw [show (Nat.beq (z_sh r).1 0 && (Nat.beq (z_sh r).2.1 0 || Nat.beq (z_sh r).2.1 2)) = true from by
          rw [Bool.and_eq_true, Bool.or_eq_true, bq_t, bq_t, bq_t]; exact ⟨h0, h1⟩] at z
        have z := List.all_eq_true.mp (show (List.range 80).all (fun k => Nat.beq (z_gr (sgm j r) k) (sgm j (z_gr r k))) = true from z) k (List.mem_range.mpr hk)
        exact z_beq z
      · unfold z_gr
        rw [lk_none (gr_hi r c) (by omega), lk_none (gr_hi (sgm j r) (sgm_lt j hj r c)) (by omega)]
        exact (sgm_0 j hj).1.symm
    · exfalso
      by_cases h9 : r = 79
      · rw [h9] at h0; exact absurd h0 (by decide +kernel)
      · have e : z_sh r = (9, 0, 0) := by
          rw [z_sh_eq]
          rw [List.getD_eq_getElem?_getD, List.getElem?_eq_none (by have : z_shs.length = 80 := by decide +kernel
                                                                    omega)]
          rfl
        rw [e] at h0
        exact absurd h0 (by decide)
/-! contracts of tiles and judge at a seat -/
set_option maxRecDepth 8000
noncomputable def JX : List Nat := [mi_X0_baseOf, mi_X0_hanOf, mi_X1_bit, mi_X1_chosenThrees, mi_X1_findThrees, mi_X1_isBetter, mi_X1_isHidden, mi_X1_mayHaveCompleted, mi_X1_pairFu, mi_X1_toldOnes, mi_X1_waitFu, mi_X3_empty, mi_X3_isOpen, mi_X3_isSevenPairs, mi_X3_kinds, mi_X3_size, mi_X6_holds, mi_X6_isKind, mi_X6_startsRun, mi_X6_tilesOfEach, mi_J13_bitCount_95d88, mi_X1_endForms, mi_X1_fillWay, mi_X1_fuOf, mi_X1_likeRuns, mi_X1_offer, mi_X1_setForms, mi_X3_all, mi_X3_free, mi_X3_isThirteen, mi_X3_layDown, mi_X3_put, mi_X3_splitsBeside, mi_X1_isNineGates, mi_X1_weighCompleted, mi_X3_addToThree, mi_X3_isSetsAndPair, mi_X3_take, mi_X1_tileForms, mi_X1_weighWay, mi_X3_waitsFor, mi_X1_judge, mi_X3_waiting]
theorem JX_ok : ∀ j ∈ JX, okM JX j = true := by decide +kernel
noncomputable abbrev sMm (j : Nat) (μ : zM) : zM := zsg (sgm j) μ
theorem sM_sM {j : Nat} (hj : j < 4) (μ : zM) : sMm j (sMm j μ) = μ := zsg_sg (RN_sgm j hj) μ
theorem at_seat {j : Nat} (hj : j < 4) {d m : Nat} (hm : m ∈ JX) {As : List Value} {μ : zM} {Q : zQ} (h : z_C d m As (sMm j μ) Q) : z_C d m (Sg (sgm j) As) μ (fun r μ' => Q (r.map (z_tr (sgm j))) (sMm j μ')) := by
  have z := rn_C (RN_sgm j hj) JX_ok d m As (sMm j μ) Q hm h
  rw [zsg_sg (RN_sgm j hj)] at z
  exact z
theorem sgm_r : ∀ j, j < 4 → sgm j 9 = 19 + 8 * j ∧ sgm j 10 = 20 + 8 * j ∧ sgm j 11 = 21 + 8 * j ∧ sgm j 12 = 22 + 8 * j ∧ sgm j 13 = 23 + 8 * j ∧ sgm j 14 = 4 ∧ sgm j 15 = 5 ∧ sgm j 16 = 6 ∧ sgm j 17 = 7 := by decide +kernel
theorem sM9 {j : Nat} (hj : j < 4) (μ : zM) (k : Nat) : (sMm j μ).1 9 k = μ.1 (19 + 8 * j) k := by show μ.1 (sgm j 9) k = _; rw [(sgm_r j hj).1]
theorem sM10 {j : Nat} (hj : j < 4) (μ : zM) (k : Nat) : (sMm j μ).1 10 k = μ.1 (20 + 8 * j) k := by show μ.1 (sgm j 10) k = _; rw [(sgm_r j hj).2.1]
theorem sM11 {j : Nat} (hj : j < 4) (μ : zM) (k : Nat) : (sMm j μ).1 11 k = μ.1 (21 + 8 * j) k := by show μ.1 (sgm j 11) k = _; rw [(sgm_r j hj).2.2.1]
theorem sM12 {j : Nat} (hj : j < 4) (μ : zM) (k : Nat) : (sMm j μ).1 12 k = μ.1 (22 + 8 * j) k := by show μ.1 (sgm j 12) k = _; rw [(sgm_r j hj).2.2.2.1]
theorem sM13 {j : Nat} (hj : j < 4) (μ : zM) (k : Nat) : (sMm j μ).1 13 k = μ.1 (23 + 8 * j) k := by show μ.1 (sgm j 13) k = _; rw [(sgm_r j hj).2.2.2.2.1]
theorem sM14 {j : Nat} (hj : j < 4) (μ : zM) (k : Nat) : (sMm j μ).1 14 k = μ.1 4 k := by show μ.1 (sgm j 14) k = _; rw [(sgm_r j hj).2.2.2.2.2.1]
theorem sM14j {j : Nat} (hj : j < 4) (μ : zM) (k : Nat) : (sMm j μ).2.1 14 k = μ.2.1 4 k := by show μ.2.1 (sgm j 14) k = _; rw [(sgm_r j hj).2.2.2.2.2.1]
theorem sM_pure {j : Nat} (hj : j < 4) (μ : zM) {m d : Nat} (hm : m ∈ JX) {As As' : List Value} (hA : Sg (sgm j) As = As') {P : Option Value → Prop} (h : z_C d m As (sMm j μ) (fun r μ' => μ' = sMm j μ ∧ P r)) : z_C d m As' μ (fun r μ' => μ' = μ ∧ P (r.map (z_tr (sgm j)))) := by
  rw [← hA]
  refine z_C_mono (at_seat hj hm h) (fun r μ' z => ⟨?_, z.2⟩)
  rw [← sM_sM hj μ', z.1, sM_sM hj]
theorem z_tr_int {f : Nat → Nat} {v : Value} {n : Int32} (h : z_tr f v = .int n) : v = .int n := by
  cases v <;> first | exact h | (exact absurd h (by simp [z_tr]))
/-- the seat's tiles: free ones -/
theorem ts_free {j : Nat} (hj : j < 4) (μ : zM) (d : Nat) (hd : 2 ≤ d) (k : Int32) : z_C d mi_X3_free [.ref (19 + 8 * j), .int k] μ (fun r μ' => μ' = μ ∧ ((vp_in k 34 ∧ r = some (.int (μ.1 (20 + 8 * j) k.toNatClampNeg))) ∨ (¬ vp_in k 34 ∧ r = some (.int 0)))) := by
  refine z_C_mono (sM_pure hj μ (by decide) (by show [Value.ref (sgm j 9), .int k] = _; rw [(sgm_r j hj).1]) (fc_X3_free d hd (sMm j μ) k)) (fun r μ' z => ⟨z.1, ?_⟩)
  rcases z.2 with ⟨h1, h2⟩ | ⟨h1, h2⟩
  · refine Or.inl ⟨h1, ?_⟩
    rw [sM10 hj] at h2
    cases r with
    | none => exact absurd h2 (by simp)
    | some v =>
      have h2 : some (z_tr (sgm j) v) = some (Value.int _) := h2
      injection h2 with h2
      exact congrArg some (z_tr_int h2)
  · refine Or.inr ⟨h1, ?_⟩
    cases r with
    | none => exact absurd h2 (by simp)
    | some v =>
      have h2 : some (z_tr (sgm j) v) = some (Value.int _) := h2
      injection h2 with h2
      exact congrArg some (z_tr_int h2)
/-! rules for cells of a seat that is not known by number -/
section RF
variable {xs : Nat × (Nat → Int32)} {j : Nat} {C : Nat → List Value → zM → zQ → Prop} {Z : zK} {code : zT} {np oc nL : Nat} {b pc : Nat} {lv : zL} {st : List Value} {μ : zM}
noncomputable def okf (np ci f r : Nat) : Bool := Nat.blt r np && (Nat.beq (z_sh r).1 0 && (Nat.beq (z_sh r).2.1 ci && Nat.blt f (z_sh r).2.2))
noncomputable def oka (np t n r : Nat) : Bool := Nat.blt r 100 && (Nat.blt r np && (Nat.beq (z_sh r).1 t && Nat.beq (z_sh r).2.2 n))
theorem sj {P : Nat → Bool} {i : Nat} (hi : i < 4) (h : (P 0 && (P 1 && (P 2 && P 3))) = true) : P i = true := by
  simp only [Bool.and_eq_true] at h
  match i, hi with
  | 0, _ => exact h.1
  | 1, _ => exact h.2.1
  | 2, _ => exact h.2.2.1
  | 3, _ => exact h.2.2.2
  | n + 4, h => exact absurd h (by omega)
theorem zq_gfi (h : z_clo xs j C Z) (hH : zH j code np oc nL) {idx : Nat} (hi : z_tk code.2.1 pc = some (.getfield idx)) {r ci f : Nat} {t : List Value} (h1 : z_lk (z_flds.getD oc []) idx = some (ci, f)) (h2 : okf np ci f r = true) (h3 : (Nat.beq (z_fk ci f) 0 || Nat.beq (z_fk ci f) 2) = true) (k : Z b (pc + 3) lv (.int (μ.1 r f) :: t) μ) : Z b pc lv (.ref r :: t) μ := by
  refine zq_st h hH hi ?_ k
  show (match z_hp xs np oc (.getfield idx) (.ref r :: t) μ with | some (st', μ') => some (pc + 3, lv, st', μ') | none => none) = _
  unfold okf at h2
  unfold z_hp z_gv
  simp only [h1, h2, cond_true]
  rw [Bool.or_eq_true] at h3
  rcases h3 with e | e
  · rw [Nat.eq_of_beq_eq_true e]; rfl
  · rw [Nat.eq_of_beq_eq_true e]; rfl
theorem zq_gfl (h : z_clo xs j C Z) (hH : zH j code np oc nL) {idx : Nat} (hi : z_tk code.2.1 pc = some (.getfield idx)) {r ci f : Nat} {t : List Value} (h1 : z_lk (z_flds.getD oc []) idx = some (ci, f)) (h2 : okf np ci f r = true) (h3 : z_fk ci f = 1) (k : Z b (pc + 3) lv (.long (μ.2.1 r f) :: t) μ) : Z b pc lv (.ref r :: t) μ := by
  refine zq_st h hH hi ?_ k
  show (match z_hp xs np oc (.getfield idx) (.ref r :: t) μ with | some (st', μ') => some (pc + 3, lv, st', μ') | none => none) = _
  unfold okf at h2
  unfold z_hp z_gv
  simp only [h1, h2, cond_true, h3]
theorem zq_gfr (h : z_clo xs j C Z) (hH : zH j code np oc nL) {idx : Nat} (hi : z_tk code.2.1 pc = some (.getfield idx)) {r ci f q : Nat} {t : List Value} (h1 : z_lk (z_flds.getD oc []) idx = some (ci, f)) (h2 : okf np ci f r = true) (h3 : z_fk ci f = 3) (h4 : Nat.beq (z_gr r f) q = true) (k : Z b (pc + 3) lv (.ref q :: t) μ) : Z b pc lv (.ref r :: t) μ := by
  refine zq_st h hH hi ?_ k
  show (match z_hp xs np oc (.getfield idx) (.ref r :: t) μ with | some (st', μ') => some (pc + 3, lv, st', μ') | none => none) = _
  unfold okf at h2
  unfold z_hp z_gv
  simp only [h1, h2, cond_true, h3, Nat.eq_of_beq_eq_true h4]
theorem zq_pfi (h : z_clo xs j C Z) (hH : zH j code np oc nL) {idx : Nat} (hi : z_tk code.2.1 pc = some (.putfield idx)) {r ci f : Nat} {x : Int32} {t : List Value} (h1 : z_lk (z_flds.getD oc []) idx = some (ci, f)) (h2 : okf np ci f r = true) (h3 : z_fk ci f = 0) (k : Z b (pc + 3) lv t (z_ui μ r f x)) : Z b pc lv (.int x :: .ref r :: t) μ := by
  refine zq_st h hH hi ?_ k
  show (match z_hp xs np oc (.putfield idx) (.int x :: .ref r :: t) μ with | some (st', μ') => some (pc + 3, lv, st', μ') | none => none) = _
  unfold okf at h2
  unfold z_hp z_pv
  simp only [h1, h2, h3, cond_true, Option.map_some]
theorem zq_pfb (h : z_clo xs j C Z) (hH : zH j code np oc nL) {idx : Nat} (hi : z_tk code.2.1 pc = some (.putfield idx)) {r ci f : Nat} {x : Int32} {t : List Value} (h1 : z_lk (z_flds.getD oc []) idx = some (ci, f)) (h2 : okf np ci f r = true) (h3 : z_fk ci f = 2) (hx : z_b01 x = true) (k : Z b (pc + 3) lv t (z_ui μ r f x)) : Z b pc lv (.int x :: .ref r :: t) μ := by
  refine zq_st h hH hi ?_ k
  show (match z_hp xs np oc (.putfield idx) (.int x :: .ref r :: t) μ with | some (st', μ') => some (pc + 3, lv, st', μ') | none => none) = _
  unfold okf at h2
  unfold z_hp z_pv
  simp only [h1, h2, h3, hx, cond_true, Option.map_some]
theorem zq_pfl (h : z_clo xs j C Z) (hH : zH j code np oc nL) {idx : Nat} (hi : z_tk code.2.1 pc = some (.putfield idx)) {r ci f : Nat} {x : Int64} {t : List Value} (h1 : z_lk (z_flds.getD oc []) idx = some (ci, f)) (h2 : okf np ci f r = true) (h3 : z_fk ci f = 1) (k : Z b (pc + 3) lv t (z_uj μ r f x)) : Z b pc lv (.long x :: .ref r :: t) μ := by
  refine zq_st h hH hi ?_ k
  show (match z_hp xs np oc (.putfield idx) (.long x :: .ref r :: t) μ with | some (st', μ') => some (pc + 3, lv, st', μ') | none => none) = _
  unfold okf at h2
  unfold z_hp z_pv
  simp only [h1, h2, h3, cond_true, Option.map_some]
theorem oka_i {np n r : Nat} (h : oka np 1 n r = true) : Nat.blt r 100 = true ∧ Nat.blt r np = true ∧ Nat.beq (z_sh r).1 1 = true ∧ (z_sh r).2.2 = n := by
  unfold oka at h
  simp only [Bool.and_eq_true] at h
  exact ⟨h.1, h.2.1, h.2.2.1, Nat.eq_of_beq_eq_true h.2.2.2⟩
/-- players[i], wins[i] -/
theorem zq_aald (h : z_clo xs j C Z) (hH : zH j code np oc nL) (hi : z_tk code.2.1 pc = some .aaload) {r i q : Nat} {t : List Value} (hi4 : i < 4) (h1 : (Nat.blt r np && (Nat.beq (z_sh r).1 4 && Nat.beq (z_sh r).2.2 4)) = true) (h2 : Nat.beq (z_gr r i) q = true) (k : Z b (pc + 1) lv (.ref q :: t) μ) : Z b pc lv (.int (nI i) :: .ref r :: t) μ := by
  refine zq_st h hH hi ?_ k
  show (match z_hp xs np oc .aaload (.int (nI i) :: .ref r :: t) μ with | some (st', μ') => some (pc + 1, lv, st', μ') | none => none) = _
  simp only [Bool.and_eq_true] at h1
  have e : (nI i).toNatClampNeg = i := nI_clamp (by omega)
  have e2 : z_in (nI i) 4 = true := z_in_iff.mpr (vp_in_nI hi4 (by decide))
  unfold z_hp
  simp only [h1.1, h1.2.1, Nat.eq_of_beq_eq_true h1.2.2, e, e2, Bool.and_self, cond_true, Nat.eq_of_beq_eq_true h2]
end RF
theorem and3 {a : Nat} (h : a < 2147483648) : (nI a &&& 3 : Int32) = nI (a % 4) := by
  apply Int32.toBitVec_inj.mp
  show BitVec.ofNat 32 a &&& 3#32 = BitVec.ofNat 32 (a % 4)
  apply BitVec.eq_of_toNat_eq
  rw [BitVec.toNat_and, BitVec.toNat_ofNat, Nat.mod_eq_of_lt (by omega : a < 2 ^ 32)]
  refine Eq.trans (b := a % 4) ?_ (Eq.symm (by rw [BitVec.toNat_ofNat]; exact Nat.mod_eq_of_lt (by omega)))
  show a &&& (2 ^ 2 - 1) = a % 4
  rw [Nat.and_two_pow_sub_one_eq_mod]
noncomputable def okr (np ci r : Nat) : Bool := Nat.blt r np && (Nat.beq (z_sh r).1 0 && Nat.beq (z_sh r).2.1 ci)
/-- a call of a method of a cell that is not known by number -/
theorem z_clv9 {j pc j' na ci r ml oc nL : Nat} {code : zT} {As rest st : List Value} (hH : zH j code 79 oc nL) (h1 : z_lk code.2.2 pc = some (0, j', na, ci, ml)) (h3 : (st.take na).reverse = .ref r :: As) (h8 : st.drop na = rest) (h4 : Nat.beq (As.length + 1) na = true) (h5 : okr 79 ci r = true) (h6 : Nat.ble (z_cat rest) 8 = true) (h7 : Nat.ble (z_cat (.ref r :: As)) ml = true) : z_cl j pc st = some (j', .ref r :: As, rest) := by
  refine z_cx_ok hH ?_
  have h5 : (Nat.blt r 79 && (Nat.beq (z_sh r).1 0 && Nat.beq (z_sh r).2.1 ci)) = true := h5
  rw [Bool.and_eq_true] at h5
  unfold z_cx
  rw [h1]
  show (match (st.take na).reverse with
        | .ref r :: As => bif Nat.beq (As.length + 1) na && (Nat.blt r 79 && (z_sc r ci && (Nat.ble (z_cat (st.drop na)) 8 && Nat.ble (z_cat (Value.ref r :: As)) ml))) then some (j', Value.ref r :: As, st.drop na) else none
        | _ => none) = some (j', Value.ref r :: As, rest)
  simp only [h3, h8, h4, h5.1, z_sc_eq, h5.2, h6, h7, Bool.and_self, cond_true]
theorem z_clv {j pc idx j' na ci r : Nat} {As rest st : List Value} (h1 : z_ft j pc = some (.invokevirtual idx)) (h2 : z_lk (z_cals.getD (z_oc j) []) idx = some (0, j', na, ci)) (h3 : (st.take na).reverse = .ref r :: As) (h8 : st.drop na = rest) (h4 : Nat.beq (As.length + 1) na = true) (hn : z_np j = 79) (h5 : okr 79 ci r = true) (h6 : Nat.ble (z_cat rest) 8 = true) (h7 : Nat.ble (z_cat (.ref r :: As)) (z_ml j') = true) : z_cl j pc st = some (j', .ref r :: As, rest) := by
  unfold okr at h5
  simp only [Bool.and_eq_true] at h5
  unfold z_cl
  rw [h1]
  simp only [h2, h3]
  subst h8
  rw [h4, hn, h5.1, h5.2.1, h5.2.2, h6, h7]
  rfl
/-! the game: leaves of the class -/
set_option maxRecDepth 8000
theorem ui_s {μ : zM} {r k : Nat} {x : Int32} : (z_ui μ r k x).1 r k = x := by
  show (bif Nat.beq r r && Nat.beq k k then x else μ.1 r k) = x
  rw [Nat.beq_refl, Nat.beq_refl]; rfl
theorem ui_o {μ : zM} {r k r' k' : Nat} {x : Int32} (h : r' ≠ r) : (z_ui μ r k x).1 r' k' = μ.1 r' k' := by
  show (bif Nat.beq r' r && Nat.beq k' k then x else μ.1 r' k') = _
  have e : Nat.beq r' r = false := by cases e : Nat.beq r' r with | false => rfl | true => exact absurd (Nat.eq_of_beq_eq_true e) h
  rw [e]; rfl
theorem ui_k {μ : zM} {r k r' k' : Nat} {x : Int32} (h : k' ≠ k) : (z_ui μ r k x).1 r' k' = μ.1 r' k' := by
  show (bif Nat.beq r' r && Nat.beq k' k then x else μ.1 r' k') = _
  have e : Nat.beq k' k = false := by cases e : Nat.beq k' k with | false => rfl | true => exact absurd (Nat.eq_of_beq_eq_true e) h
  rw [e, Bool.and_false]; rfl
theorem uj_s {μ : zM} {r k : Nat} {x : Int64} : (z_uj μ r k x).2.1 r k = x := by
  show (bif Nat.beq r r && Nat.beq k k then x else μ.2.1 r k) = x
  rw [Nat.beq_refl, Nat.beq_refl]; rfl
theorem uj_o {μ : zM} {r k r' k' : Nat} {x : Int64} (h : r' ≠ r) : (z_uj μ r k x).2.1 r' k' = μ.2.1 r' k' := by
  show (bif Nat.beq r' r && Nat.beq k' k then x else μ.2.1 r' k') = _
  have e : Nat.beq r' r = false := by cases e : Nat.beq r' r with | false => rfl | true => exact absurd (Nat.eq_of_beq_eq_true e) h
  rw [e]; rfl
theorem uj_k {μ : zM} {r k r' k' : Nat} {x : Int64} (h : k' ≠ k) : (z_uj μ r k x).2.1 r' k' = μ.2.1 r' k' := by
  show (bif Nat.beq r' r && Nat.beq k' k then x else μ.2.1 r' k') = _
  have e : Nat.beq k' k = false := by cases e : Nat.beq k' k with | false => rfl | true => exact absurd (Nat.eq_of_beq_eq_true e) h
  rw [e, Bool.and_false]; rfl
theorem ad_ne {a b s t : Nat} (h : a % 8 ≠ b % 8) : a + 8 * s ≠ b + 8 * t := by omega
theorem ad_m {a b s : Nat} (h : a % 8 ≠ b % 8) : a + 8 * s ≠ b := by omega
theorem ad_l {a b s : Nat} (h : a % 8 ≠ b % 8) : a ≠ b + 8 * s := by omega
theorem ad_g {a b s : Nat} (h : b < a) : a + 8 * s ≠ b := by omega
theorem ad_lt {a b s : Nat} (h : a < b) : a ≠ b + 8 * s := by omega
theorem ad_o {a s : Nat} (h : 7 < a) : a + 8 * s < 4 ∨ 7 < a + 8 * s := by omega
theorem ui_n {μ : zM} {r k r' k' : Nat} {x : Int32} (h : ¬ (r' = r ∧ k' = k)) : (z_ui μ r k x).1 r' k' = μ.1 r' k' := by
  by_cases e : r' = r
  · exact ui_k (fun e2 => h ⟨e, e2⟩)
  · exact ui_o e
theorem uj_n {μ : zM} {r k r' k' : Nat} {x : Int64} (h : ¬ (r' = r ∧ k' = k)) : (z_uj μ r k x).2.1 r' k' = μ.2.1 r' k' := by
  by_cases e : r' = r
  · exact uj_k (fun e2 => h ⟨e, e2⟩)
  · exact uj_o e
theorem uj_i {μ : zM} {r k r' k' : Nat} {x : Int64} : (z_uj μ r k x).1 r' k' = μ.1 r' k' := rfl
theorem ui_j {μ : zM} {r k r' k' : Nat} {x : Int32} : (z_ui μ r k x).2.1 r' k' = μ.2.1 r' k' := rfl
theorem gc_at (d : Nat) (hd : 1 ≤ d) (μ : zM) (s : Nat) (hs : s < 2147483648) : z_C d mi_X6_at [.ref 0, .int (nI s)] μ (zR μ (.ref (18 + 8 * (s % 4)))) := by
  refine z_C_in (by decide) (by omega) (fun d' Z ed hc hr => ?_)
  have hH : zH mi_X6_at zt_X6_at 79 6 2 := hh_X6_at
  refine z_rcs hc hH 5 (pc' := 7) (lv' := [(0, .ref 0), (1, .int (nI s))]) (st' := [.int (nI s &&& 3), .ref 1]) (μ' := μ) (by rfl) ?_
  rw [and3 hs]
  refine zq_aald hc hH (by rfl) (i := s % 4) (q := 18 + 8 * (s % 4)) (by omega) (by decide +kernel) (sj (P := fun i => Nat.beq (z_gr 1 i) (18 + 8 * i)) (by omega) (by decide +kernel)) ?_
  exact hr 0 8 _ _ _ (some (.ref (18 + 8 * (s % 4)))) (by decide +kernel) (by rfl) ⟨rfl, rfl⟩
theorem gc_left (d : Nat) (hd : 1 ≤ d) (μ : zM) : z_C d mi_X4_left [.ref 2] μ (zR μ (.int (bif decide ((μ.1 2 1) = 0) then (0 : Int32) else (122 - (μ.1 2 3)) - (μ.1 2 2)))) := by
  refine z_C_in (by decide) (by omega) (fun d' Z ed hc hr => ?_)
  have hH : zH mi_X4_left zt_X4_left 79 4 1 := hh_X4_left
  refine z_rcs hc hH 1 (pc' := 1) (lv' := [(0, .ref 2)]) (st' := [.ref 2]) (μ' := μ) (by rfl) ?_
  refine zq_gfi hc hH (by rfl) (ci := 3) (f := 1) (by rfl) (by decide +kernel) (by rfl) ?_
  have hJ1 : Z 0 23 [(0, .ref 2)] [.int (bif decide ((μ.1 2 1) = 0) then (0 : Int32) else (122 - (μ.1 2 3)) - (μ.1 2 2))] μ := by
    generalize hyy2 : (bif decide ((μ.1 2 1) = 0) then (0 : Int32) else (122 - (μ.1 2 3)) - (μ.1 2 2) : Int32) = yy2
    exact hr 0 23 _ _ _ (some (.int yy2)) (by decide +kernel) (z_rx_ok hH (by rfl)) (⟨rfl, (by subst hyy2; rfl)⟩)
  refine zq_if hc hH (by rfl) (tg := 22) (by rfl) (fun h3 => ?_) (fun h3 => ?_)
  · have h3 : (decide ((μ.1 2 1) = 0)) = true := decide_eq_true (cm_eq9.mp h3)
    refine z_rcs hc hH 1 (pc' := 23) (lv' := [(0, .ref 2)]) (st' := [.int 0]) (μ' := μ) (by rfl) ?_
    exact zJ hJ1 rfl (by first | with_reducible rfl | (simp only [h3, lb_f, Int64.or_zero, Int32.add_zero, nB_t, nB_f, Bool.not_true, Bool.not_false, Bool.and_true, Bool.true_and, Bool.false_and, Bool.and_false, Bool.or_true, Bool.true_or, Bool.false_or, Bool.or_false, cond_true, cond_false]; done) | rfl) rfl
  · have h3 : (decide ((μ.1 2 1) = 0)) = false := decide_eq_false (cn_eq.mp h3)
    refine z_rcs hc hH 2 (pc' := 10) (lv' := [(0, .ref 2)]) (st' := [.ref 2, .int 122]) (μ' := μ) (by rfl) ?_
    refine zq_gfi hc hH (by rfl) (ci := 3) (f := 3) (by rfl) (by decide +kernel) (by rfl) ?_
    refine z_rcs hc hH 2 (pc' := 15) (lv' := [(0, .ref 2)]) (st' := [.ref 2, .int (122 - (μ.1 2 3))]) (μ' := μ) (by rfl) ?_
    refine zq_gfi hc hH (by rfl) (ci := 3) (f := 2) (by rfl) (by decide +kernel) (by rfl) ?_
    refine z_rcs hc hH 2 (pc' := 23) (lv' := [(0, .ref 2)]) (st' := [.int ((122 - (μ.1 2 3)) - (μ.1 2 2))]) (μ' := μ) (by rfl) ?_
    exact zJ hJ1 rfl (by first | with_reducible rfl | (simp only [h3, lb_f, Int64.or_zero, Int32.add_zero, nB_t, nB_f, Bool.not_true, Bool.not_false, Bool.and_true, Bool.true_and, Bool.false_and, Bool.and_false, Bool.or_true, Bool.true_or, Bool.false_or, Bool.or_false, cond_true, cond_false]; done) | rfl) rfl
theorem gc_signs (d : Nat) (hd : 1 ≤ d) (μ : zM) : z_C d mi_X4_signs [.ref 2] μ (zR μ (.int (bif decide ((μ.1 2 1) = 0) then (0 : Int32) else 1 + (μ.1 2 3)))) := by
  refine z_C_in (by decide) (by omega) (fun d' Z ed hc hr => ?_)
  have hH : zH mi_X4_signs zt_X4_signs 79 4 1 := hh_X4_signs
  refine z_rcs hc hH 1 (pc' := 1) (lv' := [(0, .ref 2)]) (st' := [.ref 2]) (μ' := μ) (by rfl) ?_
  refine zq_gfi hc hH (by rfl) (ci := 3) (f := 1) (by rfl) (by decide +kernel) (by rfl) ?_
  have hJ1 : Z 0 17 [(0, .ref 2)] [.int (bif decide ((μ.1 2 1) = 0) then (0 : Int32) else 1 + (μ.1 2 3))] μ := by
    exact hr 0 17 _ _ _ (some (.int (bif decide ((μ.1 2 1) = 0) then (0 : Int32) else 1 + (μ.1 2 3)))) (by decide +kernel) (z_rx_ok hH (by rfl)) (⟨rfl, (by rfl)⟩)
  refine zq_if hc hH (by rfl) (tg := 16) (by rfl) (fun h2 => ?_) (fun h2 => ?_)
  · have h2 : (decide ((μ.1 2 1) = 0)) = true := decide_eq_true (cm_eq9.mp h2)
    refine z_rcs hc hH 1 (pc' := 17) (lv' := [(0, .ref 2)]) (st' := [.int 0]) (μ' := μ) (by rfl) ?_
    exact zJ hJ1 rfl (by first | with_reducible rfl | (simp only [h2, lb_f, Int64.or_zero, Int32.add_zero, nB_t, nB_f, Bool.not_true, Bool.not_false, Bool.and_true, Bool.true_and, Bool.false_and, Bool.and_false, Bool.or_true, Bool.true_or, Bool.false_or, Bool.or_false, cond_true, cond_false]; done) | rfl) rfl
  · have h2 : (decide ((μ.1 2 1) = 0)) = false := decide_eq_false (cn_eq.mp h2)
    refine z_rcs hc hH 2 (pc' := 9) (lv' := [(0, .ref 2)]) (st' := [.ref 2, .int 1]) (μ' := μ) (by rfl) ?_
    refine zq_gfi hc hH (by rfl) (ci := 3) (f := 3) (by rfl) (by decide +kernel) (by rfl) ?_
    refine z_rcs hc hH 2 (pc' := 17) (lv' := [(0, .ref 2)]) (st' := [.int (1 + (μ.1 2 3))]) (μ' := μ) (by rfl) ?_
    exact zJ hJ1 rfl (by first | with_reducible rfl | (simp only [h2, lb_f, Int64.or_zero, Int32.add_zero, nB_t, nB_f, Bool.not_true, Bool.not_false, Bool.and_true, Bool.true_and, Bool.false_and, Bool.and_false, Bool.or_true, Bool.true_or, Bool.false_or, Bool.or_false, cond_true, cond_false]; done) | rfl) rfl
theorem gc_windOf (d : Nat) (hd : 1 ≤ d) (μ : zM) (x : Int32) : z_C d mi_X6_windOf [.ref 0, .int x] μ (zR μ (.int ((x - (μ.1 0 9)) &&& 3))) := by
  refine z_C_in (by decide) (by omega) (fun d' Z ed hc hr => ?_)
  have hH : zH mi_X6_windOf zt_X6_windOf 79 6 2 := hh_X6_windOf
  refine z_rcs hc hH 2 (pc' := 2) (lv' := [(0, .ref 0), (1, .int x)]) (st' := [.ref 0, .int x]) (μ' := μ) (by rfl) ?_
  refine zq_gfi hc hH (by rfl) (ci := 5) (f := 9) (by rfl) (by decide +kernel) (by rfl) ?_
  refine z_rcs hc hH 3 (pc' := 8) (lv' := [(0, .ref 0), (1, .int x)]) (st' := [.int ((x - (μ.1 0 9)) &&& 3)]) (μ' := μ) (by rfl) ?_
  exact hr 0 8 _ _ _ (some (.int ((x - (μ.1 0 9)) &&& 3))) (by decide +kernel) (z_rx_ok hH (by rfl)) (⟨rfl, (by rfl)⟩)
theorem gc_isSeat (d : Nat) (hd : 1 ≤ d) (μ : zM) (x : Int32) : z_C d mi_X6_isSeat [.int x] μ (zR μ (.int (nB (!(decide (x < 0)) && (!(decide (4 ≤ x))))))) := by
  refine z_C_in (by decide) (by omega) (fun d' Z ed hc hr => ?_)
  have hH : zH mi_X6_isSeat zt_X6_isSeat 79 6 1 := hh_X6_isSeat
  refine z_rcs hc hH 1 (pc' := 1) (lv' := [(0, .int x)]) (st' := [.int x]) (μ' := μ) (by rfl) ?_
  have hJ1 : Z 0 14 [(0, .int x)] [.int (nB (!(decide (x < 0)) && (!(decide (4 ≤ x)))))] μ := by
    exact hr 0 14 _ _ _ (some (.int (nB (!(decide (x < 0)) && (!(decide (4 ≤ x))))))) (by decide +kernel) ((fun b : Bool => (by cases b <;> rfl : z_rn mi_X6_isSeat 14 [.int (nB b)] = some (some (.int (nB b))))) (!(decide (x < 0)) && (!(decide (4 ≤ x))))) (⟨rfl, (by rfl)⟩)
  refine zq_if hc hH (by rfl) (tg := 13) (by rfl) (fun h2 => ?_) (fun h2 => ?_)
  · have h2 : (decide (x < 0)) = true := decide_eq_true (cm_lt.mp h2)
    refine z_rcs hc hH 1 (pc' := 14) (lv' := [(0, .int x)]) (st' := [.int 0]) (μ' := μ) (by rfl) ?_
    exact zJ hJ1 rfl (by first | with_reducible rfl | (simp only [h2, lb_f, Int64.or_zero, Int32.add_zero, nB_t, nB_f, Bool.not_true, Bool.not_false, Bool.and_true, Bool.true_and, Bool.false_and, Bool.and_false, Bool.or_true, Bool.true_or, Bool.false_or, Bool.or_false, cond_true, cond_false]; done) | rfl) rfl
  · have h2 : (decide (x < 0)) = false := decide_eq_false (cn_lt.mp h2)
    refine z_rcs hc hH 2 (pc' := 6) (lv' := [(0, .int x)]) (st' := [.int 4, .int x]) (μ' := μ) (by rfl) ?_
    refine zq_ic hc hH (by rfl) (tg := 13) (by rfl) (fun h3 => ?_) (fun h3 => ?_)
    · have h3 : (decide (4 ≤ x)) = true := decide_eq_true (cm_ge.mp h3)
      refine z_rcs hc hH 1 (pc' := 14) (lv' := [(0, .int x)]) (st' := [.int 0]) (μ' := μ) (by rfl) ?_
      exact zJ hJ1 rfl (by first | with_reducible rfl | (simp only [h2, h3, lb_f, Int64.or_zero, Int32.add_zero, nB_t, nB_f, Bool.not_true, Bool.not_false, Bool.and_true, Bool.true_and, Bool.false_and, Bool.and_false, Bool.or_true, Bool.true_or, Bool.false_or, Bool.or_false, cond_true, cond_false]; done) | rfl) rfl
    · have h3 : (decide (4 ≤ x)) = false := decide_eq_false (cn_ge.mp h3)
      refine z_rcs hc hH 2 (pc' := 14) (lv' := [(0, .int x)]) (st' := [.int 1]) (μ' := μ) (by rfl) ?_
      exact zJ hJ1 rfl (by first | with_reducible rfl | (simp only [h2, h3, lb_f, Int64.or_zero, Int32.add_zero, nB_t, nB_f, Bool.not_true, Bool.not_false, Bool.and_true, Bool.true_and, Bool.false_and, Bool.and_false, Bool.or_true, Bool.true_or, Bool.false_or, Bool.or_false, cond_true, cond_false]; done) | rfl) rfl
theorem gc_hundreds (d : Nat) (hd : 1 ≤ d) (μ : zM) (x : Int32) : z_C d mi_X6_hundreds [.int x] μ (zR μ (.int (((x + 99) / 100) * 100))) := by
  refine z_C_in (by decide) (by omega) (fun d' Z ed hc hr => ?_)
  have hH : zH mi_X6_hundreds zt_X6_hundreds 79 6 1 := hh_X6_hundreds
  refine z_rcs hc hH 7 (pc' := 10) (lv' := [(0, .int x)]) (st' := [.int (((x + 99) / 100) * 100)]) (μ' := μ) (by rfl) ?_
  exact hr 0 10 _ _ _ (some (.int (((x + 99) / 100) * 100))) (by decide +kernel) (z_rx_ok hH (by rfl)) (⟨rfl, (by rfl)⟩)
theorem gc_behind (d : Nat) (hd : 1 ≤ d) (μ : zM) (x : Int32) : z_C d mi_X4_behind [.int x] μ (zR μ (.int (bif decide (27 ≤ x) then bif decide (x = 30) then (27 : Int32) else bif decide (x = 33) then (31 : Int32) else x + 1 else bif decide ((x - x / 9 * 9) = 8) then x - 8 else x + 1))) := by
  refine z_C_in (by decide) (by omega) (fun d' Z ed hc hr => ?_)
  have hH : zH mi_X4_behind zt_X4_behind 79 4 1 := hh_X4_behind
  refine z_rcs hc hH 2 (pc' := 3) (lv' := [(0, .int x)]) (st' := [.int 27, .int x]) (μ' := μ) (by rfl) ?_
  refine zq_ic hc hH (by rfl) (tg := 26) (by rfl) (fun h1 => ?_) (fun h1 => ?_)
  · have h1 : (decide (27 ≤ x)) = true := decide_eq_true (cm_ge.mp h1)
    refine z_rcs hc hH 2 (pc' := 29) (lv' := [(0, .int x)]) (st' := [.int 30, .int x]) (μ' := μ) (by rfl) ?_
    refine zq_ic hc hH (by rfl) (tg := 35) (by rfl) (fun h2 => ?_) (fun h2 => ?_)
    · have h2 : (decide (x = 30)) = false := decide_eq_false (cm_ne.mp h2)
      refine z_rcs hc hH 2 (pc' := 38) (lv' := [(0, .int x)]) (st' := [.int 33, .int x]) (μ' := μ) (by rfl) ?_
      have hJ3 : Z 0 49 [(0, .int x)] [.int (bif decide (x = 33) then (31 : Int32) else x + 1)] μ := by
        exact hr 0 49 _ _ _ (some (.int (bif decide (x = 33) then (31 : Int32) else x + 1))) (by decide +kernel) (z_rx_ok hH (by rfl)) (⟨rfl, (by simp only [h1, h2, lb_f, Int64.or_zero, Int32.add_zero, nB_t, nB_f, Bool.not_true, Bool.not_false, Bool.and_true, Bool.true_and, Bool.false_and, Bool.and_false, Bool.or_true, Bool.true_or, Bool.false_or, Bool.or_false, cond_true, cond_false])⟩)
      refine zq_ic hc hH (by rfl) (tg := 46) (by rfl) (fun h4 => ?_) (fun h4 => ?_)
      · have h4 : (decide (x = 33)) = false := decide_eq_false (cm_ne.mp h4)
        refine z_rcs hc hH 3 (pc' := 49) (lv' := [(0, .int x)]) (st' := [.int (x + 1)]) (μ' := μ) (by rfl) ?_
        exact zJ hJ3 rfl (by first | with_reducible rfl | (simp only [h4, lb_f, Int64.or_zero, Int32.add_zero, nB_t, nB_f, Bool.not_true, Bool.not_false, Bool.and_true, Bool.true_and, Bool.false_and, Bool.and_false, Bool.or_true, Bool.true_or, Bool.false_or, Bool.or_false, cond_true, cond_false]; done) | rfl) rfl
      · have h4 : (decide (x = 33)) = true := decide_eq_true (cn_ne.mp h4)
        refine z_rcs hc hH 2 (pc' := 49) (lv' := [(0, .int x)]) (st' := [.int 31]) (μ' := μ) (by rfl) ?_
        exact zJ hJ3 rfl (by first | with_reducible rfl | (simp only [h4, lb_f, Int64.or_zero, Int32.add_zero, nB_t, nB_f, Bool.not_true, Bool.not_false, Bool.and_true, Bool.true_and, Bool.false_and, Bool.and_false, Bool.or_true, Bool.true_or, Bool.false_or, Bool.or_false, cond_true, cond_false]; done) | rfl) rfl
    · have h2 : (decide (x = 30)) = true := decide_eq_true (cn_ne.mp h2)
      refine z_rcs hc hH 1 (pc' := 34) (lv' := [(0, .int x)]) (st' := [.int 27]) (μ' := μ) (by rfl) ?_
      exact hr 0 34 _ _ _ (some (.int 27)) (by decide +kernel) (z_rx_ok hH (by rfl)) (⟨rfl, (by simp only [h1, h2, lb_f, Int64.or_zero, Int32.add_zero, nB_t, nB_f, Bool.not_true, Bool.not_false, Bool.and_true, Bool.true_and, Bool.false_and, Bool.and_false, Bool.or_true, Bool.true_or, Bool.false_or, Bool.or_false, cond_true, cond_false])⟩)
  · have h1 : (decide (27 ≤ x)) = false := decide_eq_false (cn_ge.mp h1)
    refine z_rcs hc hH 4 (pc' := 12) (lv' := [(0, .int x)]) (st' := [.int 8, .int (x - x / 9 * 9)]) (μ' := μ) (by rfl) ?_
    have hJ5 : Z 0 25 [(0, .int x)] [.int (bif decide ((x - x / 9 * 9) = 8) then x - 8 else x + 1)] μ := by
      exact hr 0 25 _ _ _ (some (.int (bif decide ((x - x / 9 * 9) = 8) then x - 8 else x + 1))) (by decide +kernel) (z_rx_ok hH (by rfl)) (⟨rfl, (by simp only [h1, lb_f, Int64.or_zero, Int32.add_zero, nB_t, nB_f, Bool.not_true, Bool.not_false, Bool.and_true, Bool.true_and, Bool.false_and, Bool.and_false, Bool.or_true, Bool.true_or, Bool.false_or, Bool.or_false, cond_true, cond_false])⟩)
    refine zq_ic hc hH (by rfl) (tg := 22) (by rfl) (fun h6 => ?_) (fun h6 => ?_)
    · have h6 : (decide ((x - x / 9 * 9) = 8)) = false := decide_eq_false (cm_ne.mp h6)
      refine z_rcs hc hH 3 (pc' := 25) (lv' := [(0, .int x)]) (st' := [.int (x + 1)]) (μ' := μ) (by rfl) ?_
      exact zJ hJ5 rfl (by first | with_reducible rfl | (simp only [h6, lb_f, Int64.or_zero, Int32.add_zero, nB_t, nB_f, Bool.not_true, Bool.not_false, Bool.and_true, Bool.true_and, Bool.false_and, Bool.and_false, Bool.or_true, Bool.true_or, Bool.false_or, Bool.or_false, cond_true, cond_false]; done) | rfl) rfl
    · have h6 : (decide ((x - x / 9 * 9) = 8)) = true := decide_eq_true (cn_ne.mp h6)
      refine z_rcs hc hH 4 (pc' := 25) (lv' := [(0, .int x)]) (st' := [.int (x - 8)]) (μ' := μ) (by rfl) ?_
      exact zJ hJ5 rfl (by first | with_reducible rfl | (simp only [h6, lb_f, Int64.or_zero, Int32.add_zero, nB_t, nB_f, Bool.not_true, Bool.not_false, Bool.and_true, Bool.true_and, Bool.false_and, Bool.and_false, Bool.or_true, Bool.true_or, Bool.false_or, Bool.or_false, cond_true, cond_false]; done) | rfl) rfl
/-! the game: questions of the class -/
set_option maxRecDepth 8000
theorem gc_at4 (d : Nat) (hd : 1 ≤ d) (μ : zM) (s : Nat) (hs : s < 4) : z_C d mi_X6_at [.ref 0, .int (nI s)] μ (zR μ (.ref (18 + 8 * s))) := by
  have z := gc_at d hd μ s (by omega)
  rw [Nat.mod_eq_of_lt hs] at z
  exact z
theorem gc_atm (d : Nat) (hd : 1 ≤ d) (μ : zM) (s u : Nat) (hs : s < 2147483648) (hu : s % 4 = u) : z_C d mi_X6_at [.ref 0, .int (nI s)] μ (zR μ (.ref (18 + 8 * u))) := by
  have z := gc_at d hd μ s (by omega)
  rw [hu] at z
  exact z
noncomputable def fr (μ : zM) (r : Nat) (k : Int32) : Int32 := bif z_in k 34 then μ.1 r k.toNatClampNeg else 0
theorem gc_free (d : Nat) (hd : 2 ≤ d) (μ : zM) (j : Nat) (hj : j < 4) (k : Int32) : z_C d mi_X3_free [.ref (19 + 8 * j), .int k] μ (zR μ (.int (fr μ (20 + 8 * j) k))) := by
  refine z_C_mono (ts_free hj μ d hd k) (fun r μ' z => ⟨z.1, ?_⟩)
  rcases z.2 with ⟨h1, h2⟩ | ⟨h1, h2⟩
  · rw [h2]; unfold fr; rw [z_in_iff.mpr h1]; rfl
  · rw [h2]; unfold fr
    have e : z_in k 34 = false := by cases e : z_in k 34 with | false => rfl | true => exact absurd (z_in_iff.mp e) h1
    rw [e]; rfl
noncomputable abbrev sI (x : Int32) : Bool := !(decide (x < 0)) && (!(decide (4 ≤ x)))
noncomputable abbrev xLf (μ : zM) : Int32 := bif decide ((μ.1 2 1) = 0) then (0 : Int32) else (122 - (μ.1 2 3)) - (μ.1 2 2)
noncomputable abbrev xSg (μ : zM) : Int32 := bif decide ((μ.1 2 1) = 0) then (0 : Int32) else 1 + (μ.1 2 3)
noncomputable abbrev srB (x : Int32) : Bool := !(decide (x < 0)) && (!(decide (27 ≤ x)) && (!(decide (6 < (x - x / 9 * 9)))))
theorem gc_startsRun (d : Nat) (hd : 1 ≤ d) (μ : zM) (x : Int32) : z_C d mi_X6_startsRun [.int x] μ (zR μ (.int (nB (!(decide (x < 0)) && (!(decide (27 ≤ x)) && (!(decide (6 < (x - x / 9 * 9))))))))) := by
  refine z_C_in (by decide) (by omega) (fun d' Z ed hc hr => ?_)
  have hH : zH mi_X6_startsRun zt_X6_startsRun 79 6 1 := hh_X6_startsRun
  refine z_rcs hc hH 1 (pc' := 1) (lv' := [(0, .int x)]) (st' := [.int x]) (μ' := μ) (by rfl) ?_
  have hJ1 : Z 0 24 [(0, .int x)] [.int (nB (!(decide (x < 0)) && (!(decide (27 ≤ x)) && (!(decide (6 < (x - x / 9 * 9)))))))] μ := by
    generalize hee2 : (!(decide (x < 0)) && (!(decide (27 ≤ x)) && (!(decide (6 < (x - x / 9 * 9)))))) = ee2
    exact hr 0 24 _ _ _ (some (.int (nB ee2))) (by decide +kernel) ((fun b : Bool => (by cases b <;> rfl : z_rn mi_X6_startsRun 24 [.int (nB b)] = some (some (.int (nB b))))) ee2) (⟨rfl, (by subst hee2; rfl)⟩)
  refine zq_if hc hH (by rfl) (tg := 23) (by rfl) (fun h3 => ?_) (fun h3 => ?_)
  · have h3 : (decide (x < 0)) = true := decide_eq_true (cm_lt.mp h3)
    refine z_rcs hc hH 1 (pc' := 24) (lv' := [(0, .int x)]) (st' := [.int 0]) (μ' := μ) (by rfl) ?_
    exact zJ hJ1 rfl (by first | with_reducible rfl | (simp only [h3, lb_f, Int64.or_zero, Int32.add_zero, nB_t, nB_f, Bool.not_true, Bool.not_false, Bool.and_true, Bool.true_and, Bool.false_and, Bool.and_false, Bool.or_true, Bool.true_or, Bool.false_or, Bool.or_false, cond_true, cond_false]; done) | rfl) rfl
  · have h3 : (decide (x < 0)) = false := decide_eq_false (cn_lt.mp h3)
    refine z_rcs hc hH 2 (pc' := 7) (lv' := [(0, .int x)]) (st' := [.int 27, .int x]) (μ' := μ) (by rfl) ?_
    refine zq_ic hc hH (by rfl) (tg := 23) (by rfl) (fun h4 => ?_) (fun h4 => ?_)
    · have h4 : (decide (27 ≤ x)) = true := decide_eq_true (cm_ge.mp h4)
      refine z_rcs hc hH 1 (pc' := 24) (lv' := [(0, .int x)]) (st' := [.int 0]) (μ' := μ) (by rfl) ?_
      exact zJ hJ1 rfl (by first | with_reducible rfl | (simp only [h3, h4, lb_f, Int64.or_zero, Int32.add_zero, nB_t, nB_f, Bool.not_true, Bool.not_false, Bool.and_true, Bool.true_and, Bool.false_and, Bool.and_false, Bool.or_true, Bool.true_or, Bool.false_or, Bool.or_false, cond_true, cond_false]; done) | rfl) rfl
    · have h4 : (decide (27 ≤ x)) = false := decide_eq_false (cn_ge.mp h4)
      refine z_rcs hc hH 4 (pc' := 16) (lv' := [(0, .int x)]) (st' := [.int 6, .int (x - x / 9 * 9)]) (μ' := μ) (by rfl) ?_
      refine zq_ic hc hH (by rfl) (tg := 23) (by rfl) (fun h5 => ?_) (fun h5 => ?_)
      · have h5 : (decide (6 < (x - x / 9 * 9))) = true := decide_eq_true (cm_gt.mp h5)
        refine z_rcs hc hH 1 (pc' := 24) (lv' := [(0, .int x)]) (st' := [.int 0]) (μ' := μ) (by rfl) ?_
        exact zJ hJ1 rfl (by first | with_reducible rfl | (simp only [h3, h4, h5, lb_f, Int64.or_zero, Int32.add_zero, nB_t, nB_f, Bool.not_true, Bool.not_false, Bool.and_true, Bool.true_and, Bool.false_and, Bool.and_false, Bool.or_true, Bool.true_or, Bool.false_or, Bool.or_false, cond_true, cond_false]; done) | rfl) rfl
      · have h5 : (decide (6 < (x - x / 9 * 9))) = false := decide_eq_false (cn_gt.mp h5)
        refine z_rcs hc hH 2 (pc' := 24) (lv' := [(0, .int x)]) (st' := [.int 1]) (μ' := μ) (by rfl) ?_
        exact zJ hJ1 rfl (by first | with_reducible rfl | (simp only [h3, h4, h5, lb_f, Int64.or_zero, Int32.add_zero, nB_t, nB_f, Bool.not_true, Bool.not_false, Bool.and_true, Bool.true_and, Bool.false_and, Bool.and_false, Bool.or_true, Bool.true_or, Bool.false_or, Bool.or_false, cond_true, cond_false]; done) | rfl) rfl
noncomputable abbrev xAny (μ : zM) : Bool := !(decide ((μ.1 18 9) = 0)) || (!(decide ((μ.1 26 9) = 0)) || (!(decide ((μ.1 34 9) = 0)) || (!(decide ((μ.1 42 9) = 0)))))
theorem gc_someoneSays (d : Nat) (hd : 2 ≤ d) (μ : zM) : z_C d mi_X6_someoneSays [.ref 0] μ (zR μ (.int (nB (!(decide ((μ.1 18 9) = 0)) || (!(decide ((μ.1 26 9) = 0)) || (!(decide ((μ.1 34 9) = 0)) || (!(decide ((μ.1 42 9) = 0))))))))) := by
  refine z_C_in (by decide) (by omega) (fun d' Z ed hc hr => ?_)
  have hH : zH mi_X6_someoneSays zt_X6_someoneSays 79 6 2 := hh_X6_someoneSays
  refine z_rcs hc hH 7 (pc' := 9) (lv' := [(1, .int 0), (0, .ref 0)]) (st' := [.int 0, .ref 0]) (μ' := μ) (by rfl) ?_
  refine zq_call hc (z_cx_ok hH (by rfl)) (gc_at d' (by omega) μ 0 (by decide)) (by decide +kernel) (fun r9 μ9 hq => ?_)
  obtain ⟨hμ9, rfl⟩ := hq
  rw [hμ9]
  clear hμ9 μ9
  show Z 0 12 [(1, .int 0), (0, .ref 0)] [.ref 18] μ
  refine zq_gfi hc hH (by rfl) (ci := 1) (f := 9) (by rfl) (by decide +kernel) (by rfl) ?_
  refine zq_if hc hH (by rfl) (tg := 20) (by rfl) (fun h1 => ?_) (fun h1 => ?_)
  · have h1 : (decide ((μ.1 18 9) = 0)) = true := decide_eq_true (cm_eq9.mp h1)
    refine z_rcs hc hH 7 (pc' := 9) (lv' := [(1, .int 1), (0, .ref 0)]) (st' := [.int 1, .ref 0]) (μ' := μ) (by rfl) ?_
    refine zq_call hc (z_cx_ok hH (by rfl)) (gc_at d' (by omega) μ 1 (by decide)) (by decide +kernel) (fun r9 μ9 hq => ?_)
    obtain ⟨hμ9, rfl⟩ := hq
    rw [hμ9]
    clear hμ9 μ9
    show Z 0 12 [(1, .int 1), (0, .ref 0)] [.ref 26] μ
    refine zq_gfi hc hH (by rfl) (ci := 1) (f := 9) (by rfl) (by decide +kernel) (by rfl) ?_
    refine zq_if hc hH (by rfl) (tg := 20) (by rfl) (fun h2 => ?_) (fun h2 => ?_)
    · have h2 : (decide ((μ.1 26 9) = 0)) = true := decide_eq_true (cm_eq9.mp h2)
      refine z_rcs hc hH 7 (pc' := 9) (lv' := [(1, .int 2), (0, .ref 0)]) (st' := [.int 2, .ref 0]) (μ' := μ) (by rfl) ?_
      refine zq_call hc (z_cx_ok hH (by rfl)) (gc_at d' (by omega) μ 2 (by decide)) (by decide +kernel) (fun r9 μ9 hq => ?_)
      obtain ⟨hμ9, rfl⟩ := hq
      rw [hμ9]
      clear hμ9 μ9
      show Z 0 12 [(1, .int 2), (0, .ref 0)] [.ref 34] μ
      refine zq_gfi hc hH (by rfl) (ci := 1) (f := 9) (by rfl) (by decide +kernel) (by rfl) ?_
      refine zq_if hc hH (by rfl) (tg := 20) (by rfl) (fun h3 => ?_) (fun h3 => ?_)
      · have h3 : (decide ((μ.1 34 9) = 0)) = true := decide_eq_true (cm_eq9.mp h3)
        refine z_rcs hc hH 7 (pc' := 9) (lv' := [(1, .int 3), (0, .ref 0)]) (st' := [.int 3, .ref 0]) (μ' := μ) (by rfl) ?_
        refine zq_call hc (z_cx_ok hH (by rfl)) (gc_at d' (by omega) μ 3 (by decide)) (by decide +kernel) (fun r9 μ9 hq => ?_)
        obtain ⟨hμ9, rfl⟩ := hq
        rw [hμ9]
        clear hμ9 μ9
        show Z 0 12 [(1, .int 3), (0, .ref 0)] [.ref 42] μ
        refine zq_gfi hc hH (by rfl) (ci := 1) (f := 9) (by rfl) (by decide +kernel) (by rfl) ?_
        refine zq_if hc hH (by rfl) (tg := 20) (by rfl) (fun h4 => ?_) (fun h4 => ?_)
        · have h4 : (decide ((μ.1 42 9) = 0)) = true := decide_eq_true (cm_eq9.mp h4)
          refine z_rcs hc hH 6 (pc' := 27) (lv' := [(1, .int 4), (0, .ref 0)]) (st' := [.int 0]) (μ' := μ) (by rfl) ?_
          exact hr 0 27 _ _ _ (some (.int 0)) (by decide +kernel) (z_rx_ok hH (by rfl)) (⟨rfl, (by simp only [h1, h2, h3, h4, lb_f, Int64.or_zero, Int32.add_zero, nB_t, nB_f, Bool.not_true, Bool.not_false, Bool.and_true, Bool.true_and, Bool.false_and, Bool.and_false, Bool.or_true, Bool.true_or, Bool.false_or, Bool.or_false, cond_true, cond_false])⟩)
        · have h4 : (decide ((μ.1 42 9) = 0)) = false := decide_eq_false (cn_eq.mp h4)
          refine z_rcs hc hH 1 (pc' := 19) (lv' := [(1, .int 3), (0, .ref 0)]) (st' := [.int 1]) (μ' := μ) (by rfl) ?_
          exact hr 0 19 _ _ _ (some (.int 1)) (by decide +kernel) (z_rx_ok hH (by rfl)) (⟨rfl, (by simp only [h1, h2, h3, h4, lb_f, Int64.or_zero, Int32.add_zero, nB_t, nB_f, Bool.not_true, Bool.not_false, Bool.and_true, Bool.true_and, Bool.false_and, Bool.and_false, Bool.or_true, Bool.true_or, Bool.false_or, Bool.or_false, cond_true, cond_false])⟩)
      · have h3 : (decide ((μ.1 34 9) = 0)) = false := decide_eq_false (cn_eq.mp h3)
        refine z_rcs hc hH 1 (pc' := 19) (lv' := [(1, .int 2), (0, .ref 0)]) (st' := [.int 1]) (μ' := μ) (by rfl) ?_
        exact hr 0 19 _ _ _ (some (.int 1)) (by decide +kernel) (z_rx_ok hH (by rfl)) (⟨rfl, (by simp only [h1, h2, h3, lb_f, Int64.or_zero, Int32.add_zero, nB_t, nB_f, Bool.not_true, Bool.not_false, Bool.and_true, Bool.true_and, Bool.false_and, Bool.and_false, Bool.or_true, Bool.true_or, Bool.false_or, Bool.or_false, cond_true, cond_false])⟩)
    · have h2 : (decide ((μ.1 26 9) = 0)) = false := decide_eq_false (cn_eq.mp h2)
      refine z_rcs hc hH 1 (pc' := 19) (lv' := [(1, .int 1), (0, .ref 0)]) (st' := [.int 1]) (μ' := μ) (by rfl) ?_
      exact hr 0 19 _ _ _ (some (.int 1)) (by decide +kernel) (z_rx_ok hH (by rfl)) (⟨rfl, (by simp only [h1, h2, lb_f, Int64.or_zero, Int32.add_zero, nB_t, nB_f, Bool.not_true, Bool.not_false, Bool.and_true, Bool.true_and, Bool.false_and, Bool.and_false, Bool.or_true, Bool.true_or, Bool.false_or, Bool.or_false, cond_true, cond_false])⟩)
  · have h1 : (decide ((μ.1 18 9) = 0)) = false := decide_eq_false (cn_eq.mp h1)
    refine z_rcs hc hH 1 (pc' := 19) (lv' := [(1, .int 0), (0, .ref 0)]) (st' := [.int 1]) (μ' := μ) (by rfl) ?_
    exact hr 0 19 _ _ _ (some (.int 1)) (by decide +kernel) (z_rx_ok hH (by rfl)) (⟨rfl, (by simp only [h1, lb_f, Int64.or_zero, Int32.add_zero, nB_t, nB_f, Bool.not_true, Bool.not_false, Bool.and_true, Bool.true_and, Bool.false_and, Bool.and_false, Bool.or_true, Bool.true_or, Bool.false_or, Bool.or_false, cond_true, cond_false])⟩)
noncomputable abbrev xIw (μ : zM) (x : Int32) : Bool := !(decide (x < 0)) && (!(decide ((μ.1 0 6) ≤ x)) && (!(decide (4 ≤ x))))
theorem gc_isWin (d : Nat) (hd : 2 ≤ d) (μ : zM) (x : Int32) : z_C d mi_X6_isWin [.ref 0, .int x] μ (zR μ (.int (nB (!(decide (x < 0)) && (!(decide ((μ.1 0 6) ≤ x)) && (!(decide (4 ≤ x)))))))) := by
  refine z_C_in (by decide) (by omega) (fun d' Z ed hc hr => ?_)
  have hH : zH mi_X6_isWin zt_X6_isWin 79 6 2 := hh_X6_isWin
  refine z_rcs hc hH 1 (pc' := 1) (lv' := [(0, .ref 0), (1, .int x)]) (st' := [.int x]) (μ' := μ) (by rfl) ?_
  have hJ1 : Z 0 22 [(0, .ref 0), (1, .int x)] [.int (nB (!(decide (x < 0)) && (!(decide ((μ.1 0 6) ≤ x)) && (!(decide (4 ≤ x))))))] μ := by
    generalize hee2 : (!(decide (x < 0)) && (!(decide ((μ.1 0 6) ≤ x)) && (!(decide (4 ≤ x))))) = ee2
    exact hr 0 22 _ _ _ (some (.int (nB ee2))) (by decide +kernel) ((fun b : Bool => (by cases b <;> rfl : z_rn mi_X6_isWin 22 [.int (nB b)] = some (some (.int (nB b))))) ee2) (⟨rfl, (by subst hee2; rfl)⟩)
  refine zq_if hc hH (by rfl) (tg := 21) (by rfl) (fun h3 => ?_) (fun h3 => ?_)
  · have h3 : (decide (x < 0)) = true := decide_eq_true (cm_lt.mp h3)
    refine z_rcs hc hH 1 (pc' := 22) (lv' := [(0, .ref 0), (1, .int x)]) (st' := [.int 0]) (μ' := μ) (by rfl) ?_
    exact zJ hJ1 rfl (by first | with_reducible rfl | (simp only [h3, lb_f, Int64.or_zero, Int32.add_zero, nB_t, nB_f, Bool.not_true, Bool.not_false, Bool.and_true, Bool.true_and, Bool.false_and, Bool.and_false, Bool.or_true, Bool.true_or, Bool.false_or, Bool.or_false, cond_true, cond_false]; done) | rfl) rfl
  · have h3 : (decide (x < 0)) = false := decide_eq_false (cn_lt.mp h3)
    refine z_rcs hc hH 2 (pc' := 6) (lv' := [(0, .ref 0), (1, .int x)]) (st' := [.ref 0, .int x]) (μ' := μ) (by rfl) ?_
    refine zq_gfi hc hH (by rfl) (ci := 5) (f := 6) (by rfl) (by decide +kernel) (by rfl) ?_
    refine zq_ic hc hH (by rfl) (tg := 21) (by rfl) (fun h4 => ?_) (fun h4 => ?_)
    · have h4 : (decide ((μ.1 0 6) ≤ x)) = true := decide_eq_true (cm_ge.mp h4)
      refine z_rcs hc hH 1 (pc' := 22) (lv' := [(0, .ref 0), (1, .int x)]) (st' := [.int 0]) (μ' := μ) (by rfl) ?_
      exact zJ hJ1 rfl (by first | with_reducible rfl | (simp only [h3, h4, lb_f, Int64.or_zero, Int32.add_zero, nB_t, nB_f, Bool.not_true, Bool.not_false, Bool.and_true, Bool.true_and, Bool.false_and, Bool.and_false, Bool.or_true, Bool.true_or, Bool.false_or, Bool.or_false, cond_true, cond_false]; done) | rfl) rfl
    · have h4 : (decide ((μ.1 0 6) ≤ x)) = false := decide_eq_false (cn_ge.mp h4)
      refine z_rcs hc hH 2 (pc' := 14) (lv' := [(0, .ref 0), (1, .int x)]) (st' := [.int 4, .int x]) (μ' := μ) (by rfl) ?_
      refine zq_ic hc hH (by rfl) (tg := 21) (by rfl) (fun h5 => ?_) (fun h5 => ?_)
      · have h5 : (decide (4 ≤ x)) = true := decide_eq_true (cm_ge.mp h5)
        refine z_rcs hc hH 1 (pc' := 22) (lv' := [(0, .ref 0), (1, .int x)]) (st' := [.int 0]) (μ' := μ) (by rfl) ?_
        exact zJ hJ1 rfl (by first | with_reducible rfl | (simp only [h3, h4, h5, lb_f, Int64.or_zero, Int32.add_zero, nB_t, nB_f, Bool.not_true, Bool.not_false, Bool.and_true, Bool.true_and, Bool.false_and, Bool.and_false, Bool.or_true, Bool.true_or, Bool.false_or, Bool.or_false, cond_true, cond_false]; done) | rfl) rfl
      · have h5 : (decide (4 ≤ x)) = false := decide_eq_false (cn_ge.mp h5)
        refine z_rcs hc hH 2 (pc' := 22) (lv' := [(0, .ref 0), (1, .int x)]) (st' := [.int 1]) (μ' := μ) (by rfl) ?_
        exact zJ hJ1 rfl (by first | with_reducible rfl | (simp only [h3, h4, h5, lb_f, Int64.or_zero, Int32.add_zero, nB_t, nB_f, Bool.not_true, Bool.not_false, Bool.and_true, Bool.true_and, Bool.false_and, Bool.and_false, Bool.or_true, Bool.true_or, Bool.false_or, Bool.or_false, cond_true, cond_false]; done) | rfl) rfl
theorem gc_mayMakeFour (d : Nat) (hd : 3 ≤ d) (μ : zM) (t : Nat) (ht4 : t < 4) (ht : μ.1 0 8 = nI t) : z_C d mi_X6_mayMakeFour [.ref 0] μ (zR μ (.int (nB ((decide ((μ.1 0 7) = 1)) && (!(decide ((μ.1 0 15) = (-1))) && ((decide ((μ.1 (18 + 8 * t) 5) = 0)) && (!(decide ((xLf μ) ≤ 0)) && (!(decide (4 ≤ (μ.1 2 3))))))))))) := by
  refine z_C_in (by decide) (by omega) (fun d' Z ed hc hr => ?_)
  have hH : zH mi_X6_mayMakeFour zt_X6_mayMakeFour 79 6 1 := hh_X6_mayMakeFour
  refine z_rcs hc hH 1 (pc' := 1) (lv' := [(0, .ref 0)]) (st' := [.ref 0]) (μ' := μ) (by rfl) ?_
  refine zq_gfi hc hH (by rfl) (ci := 5) (f := 7) (by rfl) (by decide +kernel) (by rfl) ?_
  refine z_rcs hc hH 1 (pc' := 5) (lv' := [(0, .ref 0)]) (st' := [.int 1, .int (μ.1 0 7)]) (μ' := μ) (by rfl) ?_
  have hJ1 : Z 0 56 [(0, .ref 0)] [.int (nB ((decide ((μ.1 0 7) = 1)) && (!(decide ((μ.1 0 15) = (-1))) && ((decide ((μ.1 (18 + 8 * t) 5) = 0)) && (!(decide ((xLf μ) ≤ 0)) && (!(decide (4 ≤ (μ.1 2 3)))))))))] μ := by
    generalize hee2 : ((decide ((μ.1 0 7) = 1)) && (!(decide ((μ.1 0 15) = (-1))) && ((decide ((μ.1 (18 + 8 * t) 5) = 0)) && (!(decide ((xLf μ) ≤ 0)) && (!(decide (4 ≤ (μ.1 2 3)))))))) = ee2
    exact hr 0 56 _ _ _ (some (.int (nB ee2))) (by decide +kernel) ((fun b : Bool => (by cases b <;> rfl : z_rn mi_X6_mayMakeFour 56 [.int (nB b)] = some (some (.int (nB b))))) ee2) (⟨rfl, (by subst hee2; rfl)⟩)
  refine zq_ic hc hH (by rfl) (tg := 55) (by rfl) (fun h3 => ?_) (fun h3 => ?_)
  · have h3 : (decide ((μ.1 0 7) = 1)) = false := decide_eq_false (cm_ne.mp h3)
    refine z_rcs hc hH 1 (pc' := 56) (lv' := [(0, .ref 0)]) (st' := [.int 0]) (μ' := μ) (by rfl) ?_
    exact zJ hJ1 rfl (by first | with_reducible rfl | (simp only [h3, lb_f, Int64.or_zero, Int32.add_zero, nB_t, nB_f, Bool.not_true, Bool.not_false, Bool.and_true, Bool.true_and, Bool.false_and, Bool.and_false, Bool.or_true, Bool.true_or, Bool.false_or, Bool.or_false, cond_true, cond_false]; done) | rfl) rfl
  · have h3 : (decide ((μ.1 0 7) = 1)) = true := decide_eq_true (cn_ne.mp h3)
    refine z_rcs hc hH 1 (pc' := 9) (lv' := [(0, .ref 0)]) (st' := [.ref 0]) (μ' := μ) (by rfl) ?_
    refine zq_gfi hc hH (by rfl) (ci := 5) (f := 15) (by rfl) (by decide +kernel) (by rfl) ?_
    refine z_rcs hc hH 1 (pc' := 13) (lv' := [(0, .ref 0)]) (st' := [.int (-1), .int (μ.1 0 15)]) (μ' := μ) (by rfl) ?_
    refine zq_ic hc hH (by rfl) (tg := 55) (by rfl) (fun h4 => ?_) (fun h4 => ?_)
    · have h4 : (decide ((μ.1 0 15) = (-1))) = true := decide_eq_true (cm_eq9.mp h4)
      refine z_rcs hc hH 1 (pc' := 56) (lv' := [(0, .ref 0)]) (st' := [.int 0]) (μ' := μ) (by rfl) ?_
      exact zJ hJ1 rfl (by first | with_reducible rfl | (simp only [h3, h4, lb_f, Int64.or_zero, Int32.add_zero, nB_t, nB_f, Bool.not_true, Bool.not_false, Bool.and_true, Bool.true_and, Bool.false_and, Bool.and_false, Bool.or_true, Bool.true_or, Bool.false_or, Bool.or_false, cond_true, cond_false]; done) | rfl) rfl
    · have h4 : (decide ((μ.1 0 15) = (-1))) = false := decide_eq_false (cn_eq.mp h4)
      refine z_rcs hc hH 2 (pc' := 18) (lv' := [(0, .ref 0)]) (st' := [.ref 0, .ref 0]) (μ' := μ) (by rfl) ?_
      refine zq_gfi hc hH (by rfl) (ci := 5) (f := 8) (by rfl) (by decide +kernel) (by rfl) ?_
      rw [ht]
      refine zq_call hc (z_cx_ok hH (by rfl)) (gc_at4 d' (by omega) μ t ht4) (by decide +kernel) (fun r9 μ9 hq => ?_)
      obtain ⟨hμ9, rfl⟩ := hq
      rw [hμ9]
      clear hμ9 μ9
      show Z 0 24 [(0, .ref 0)] [.ref (18 + 8 * t)] μ
      refine zq_gfi hc hH (by rfl) (ci := 1) (f := 5) (by rfl) (sj (P := fun i => okf 79 1 5 (18 + 8 * i)) ht4 (by decide +kernel)) (by rfl) ?_
      refine zq_if hc hH (by rfl) (tg := 55) (by rfl) (fun h5 => ?_) (fun h5 => ?_)
      · have h5 : (decide ((μ.1 (18 + 8 * t) 5) = 0)) = false := decide_eq_false (cm_ne.mp h5)
        refine z_rcs hc hH 1 (pc' := 56) (lv' := [(0, .ref 0)]) (st' := [.int 0]) (μ' := μ) (by rfl) ?_
        exact zJ hJ1 rfl (by first | with_reducible rfl | (simp only [h3, h4, h5, lb_f, Int64.or_zero, Int32.add_zero, nB_t, nB_f, Bool.not_true, Bool.not_false, Bool.and_true, Bool.true_and, Bool.false_and, Bool.and_false, Bool.or_true, Bool.true_or, Bool.false_or, Bool.or_false, cond_true, cond_false]; done) | rfl) rfl
      · have h5 : (decide ((μ.1 (18 + 8 * t) 5) = 0)) = true := decide_eq_true (cn_ne.mp h5)
        refine z_rcs hc hH 1 (pc' := 31) (lv' := [(0, .ref 0)]) (st' := [.ref 0]) (μ' := μ) (by rfl) ?_
        refine zq_gfr hc hH (by rfl) (ci := 5) (f := 1) (q := 2) (by rfl) (by decide +kernel) (by rfl) (by decide +kernel) ?_
        refine zq_call hc (z_cx_ok hH (by rfl)) (gc_left d' (by omega) μ) (by decide +kernel) (fun r9 μ9 hq => ?_)
        obtain ⟨hμ9, rfl⟩ := hq
        rw [hμ9]
        clear hμ9 μ9
        show Z 0 37 [(0, .ref 0)] [.int (xLf μ)] μ
        refine zq_if hc hH (by rfl) (tg := 55) (by rfl) (fun h6 => ?_) (fun h6 => ?_)
        · have h6 : (decide ((xLf μ) ≤ 0)) = true := decide_eq_true (cm_le.mp h6)
          refine z_rcs hc hH 1 (pc' := 56) (lv' := [(0, .ref 0)]) (st' := [.int 0]) (μ' := μ) (by rfl) ?_
          exact zJ hJ1 rfl (by first | with_reducible rfl | (simp only [h3, h4, h5, h6, lb_f, Int64.or_zero, Int32.add_zero, nB_t, nB_f, Bool.not_true, Bool.not_false, Bool.and_true, Bool.true_and, Bool.false_and, Bool.and_false, Bool.or_true, Bool.true_or, Bool.false_or, Bool.or_false, cond_true, cond_false]; done) | rfl) rfl
        · have h6 : (decide ((xLf μ) ≤ 0)) = false := decide_eq_false (cn_le.mp h6)
          refine z_rcs hc hH 1 (pc' := 41) (lv' := [(0, .ref 0)]) (st' := [.ref 0]) (μ' := μ) (by rfl) ?_
          refine zq_gfr hc hH (by rfl) (ci := 5) (f := 1) (q := 2) (by rfl) (by decide +kernel) (by rfl) (by decide +kernel) ?_
          refine zq_gfi hc hH (by rfl) (ci := 3) (f := 3) (by rfl) (by decide +kernel) (by rfl) ?_
          refine z_rcs hc hH 1 (pc' := 48) (lv' := [(0, .ref 0)]) (st' := [.int 4, .int (μ.1 2 3)]) (μ' := μ) (by rfl) ?_
          refine zq_ic hc hH (by rfl) (tg := 55) (by rfl) (fun h7 => ?_) (fun h7 => ?_)
          · have h7 : (decide (4 ≤ (μ.1 2 3))) = true := decide_eq_true (cm_ge.mp h7)
            refine z_rcs hc hH 1 (pc' := 56) (lv' := [(0, .ref 0)]) (st' := [.int 0]) (μ' := μ) (by rfl) ?_
            exact zJ hJ1 rfl (by first | with_reducible rfl | (simp only [h3, h4, h5, h6, h7, lb_f, Int64.or_zero, Int32.add_zero, nB_t, nB_f, Bool.not_true, Bool.not_false, Bool.and_true, Bool.true_and, Bool.false_and, Bool.and_false, Bool.or_true, Bool.true_or, Bool.false_or, Bool.or_false, cond_true, cond_false]; done) | rfl) rfl
          · have h7 : (decide (4 ≤ (μ.1 2 3))) = false := decide_eq_false (cn_ge.mp h7)
            refine z_rcs hc hH 2 (pc' := 56) (lv' := [(0, .ref 0)]) (st' := [.int 1]) (μ' := μ) (by rfl) ?_
            exact zJ hJ1 rfl (by first | with_reducible rfl | (simp only [h3, h4, h5, h6, h7, lb_f, Int64.or_zero, Int32.add_zero, nB_t, nB_f, Bool.not_true, Bool.not_false, Bool.and_true, Bool.true_and, Bool.false_and, Bool.and_false, Bool.or_true, Bool.true_or, Bool.false_or, Bool.or_false, cond_true, cond_false]; done) | rfl) rfl
theorem gc_mayThrow (d : Nat) (hd : 3 ≤ d) (μ : zM) (t : Nat) (ht4 : t < 4) (ht : μ.1 0 8 = nI t) (x : Int32) : z_C d mi_X6_mayThrow [.ref 0, .int x] μ (zR μ (.int (nB (!(decide ((fr μ (20 + 8 * t) x) = 0)) && (!(xHd (μ.2.1 0 18) x) && ((decide ((μ.1 (18 + 8 * t) 5) = 0)) || (decide (x = (μ.1 0 15))))))))) := by
  refine z_C_in (by decide) (by omega) (fun d' Z ed hc hr => ?_)
  have hH : zH mi_X6_mayThrow zt_X6_mayThrow 79 6 3 := hh_X6_mayThrow
  refine z_rcs hc hH 2 (pc' := 2) (lv' := [(0, .ref 0), (1, .int x)]) (st' := [.ref 0, .ref 0]) (μ' := μ) (by rfl) ?_
  refine zq_gfi hc hH (by rfl) (ci := 5) (f := 8) (by rfl) (by decide +kernel) (by rfl) ?_
  rw [ht]
  refine zq_call hc (z_cx_ok hH (by rfl)) (gc_at4 d' (by omega) μ t ht4) (by decide +kernel) (fun r9 μ9 hq => ?_)
  obtain ⟨hμ9, rfl⟩ := hq
  rw [hμ9]
  clear hμ9 μ9
  show Z 0 8 [(0, .ref 0), (1, .int x)] [.ref (18 + 8 * t)] μ
  refine z_rcs hc hH 2 (pc' := 10) (lv' := [(2, .ref (18 + 8 * t)), (0, .ref 0), (1, .int x)]) (st' := [.ref (18 + 8 * t)]) (μ' := μ) (by rfl) ?_
  refine zq_gfr hc hH (by rfl) (ci := 1) (f := 0) (q := 19 + 8 * t) (by rfl) (sj (P := fun i => okf 79 1 0 (18 + 8 * i)) ht4 (by decide +kernel)) (by rfl) (sj (P := fun i => Nat.beq (z_gr (18 + 8 * i) 0) (19 + 8 * i)) ht4 (by decide +kernel)) ?_
  refine z_rcs hc hH 1 (pc' := 14) (lv' := [(2, .ref (18 + 8 * t)), (0, .ref 0), (1, .int x)]) (st' := [.int x, .ref (19 + 8 * t)]) (μ' := μ) (by rfl) ?_
  refine zq_call hc (z_clv9 hH (by rfl) (by rfl) (by rfl) (by rfl) (sj (P := fun i => okr 79 2 (19 + 8 * i)) ht4 (by decide +kernel)) (by rfl) (by rfl)) (gc_free d' (by omega) μ t ht4 x) (by decide +kernel) (fun r9 μ9 hq => ?_)
  obtain ⟨hμ9, rfl⟩ := hq
  rw [hμ9]
  clear hμ9 μ9
  show Z 0 17 [(2, .ref (18 + 8 * t)), (0, .ref 0), (1, .int x)] [.int (fr μ (20 + 8 * t) x)] μ
  refine zq_if hc hH (by rfl) (tg := 31) (by rfl) (fun h1 => ?_) (fun h1 => ?_)
  · have h1 : (decide ((fr μ (20 + 8 * t) x) = 0)) = true := decide_eq_true (cm_eq9.mp h1)
    refine z_rcs hc hH 1 (pc' := 32) (lv' := [(2, .ref (18 + 8 * t)), (0, .ref 0), (1, .int x)]) (st' := [.int 0]) (μ' := μ) (by rfl) ?_
    exact hr 0 32 _ _ _ (some (.int 0)) (by decide +kernel) (z_rx_ok hH (by rfl)) (⟨rfl, (by simp only [h1, lb_f, Int64.or_zero, Int32.add_zero, nB_t, nB_f, Bool.not_true, Bool.not_false, Bool.and_true, Bool.true_and, Bool.false_and, Bool.and_false, Bool.or_true, Bool.true_or, Bool.false_or, Bool.or_false, cond_true, cond_false])⟩)
  · have h1 : (decide ((fr μ (20 + 8 * t) x) = 0)) = false := decide_eq_false (cn_eq.mp h1)
    refine z_rcs hc hH 1 (pc' := 21) (lv' := [(2, .ref (18 + 8 * t)), (0, .ref 0), (1, .int x)]) (st' := [.ref 0]) (μ' := μ) (by rfl) ?_
    refine zq_gfl hc hH (by rfl) (ci := 5) (f := 18) (by rfl) (by decide +kernel) (by rfl) ?_
    refine z_rcs hc hH 1 (pc' := 25) (lv' := [(2, .ref (18 + 8 * t)), (0, .ref 0), (1, .int x)]) (st' := [.int x, .long (μ.2.1 0 18)]) (μ' := μ) (by rfl) ?_
    refine zq_call hc (z_cx_ok hH (by rfl)) (fb_X6_holds d' (by omega) μ (μ.2.1 0 18) x) (by decide +kernel) (fun r9 μ9 hq => ?_)
    obtain ⟨hμ9, rfl⟩ := hq
    rw [hμ9]
    clear hμ9 μ9
    show Z 0 28 [(2, .ref (18 + 8 * t)), (0, .ref 0), (1, .int x)] [.int (nB (xHd (μ.2.1 0 18) x))] μ
    generalize hee2 : (xHd (μ.2.1 0 18) x) = ee2
    refine zq_if hc hH (by rfl) (tg := 33) (by rfl) (fun h3 => ?_) (fun h3 => ?_)
    · have h3 : (ee2) = false := nB_z.mp (cm_eq9.mp h3)
      refine z_rcs hc hH 1 (pc' := 34) (lv' := [(2, .ref (18 + 8 * t)), (0, .ref 0), (1, .int x)]) (st' := [.ref (18 + 8 * t)]) (μ' := μ) (by rfl) ?_
      refine zq_gfi hc hH (by rfl) (ci := 1) (f := 5) (by rfl) (sj (P := fun i => okf 79 1 5 (18 + 8 * i)) ht4 (by decide +kernel)) (by rfl) ?_
      have hJ4 : Z 0 53 [(2, .ref (18 + 8 * t)), (0, .ref 0), (1, .int x)] [.int (nB ((decide ((μ.1 (18 + 8 * t) 5) = 0)) || (decide (x = (μ.1 0 15)))))] μ := by
        exact hr 0 53 _ _ _ (some (.int (nB ((decide ((μ.1 (18 + 8 * t) 5) = 0)) || (decide (x = (μ.1 0 15))))))) (by decide +kernel) ((fun b : Bool => (by cases b <;> rfl : z_rn mi_X6_mayThrow 53 [.int (nB b)] = some (some (.int (nB b))))) ((decide ((μ.1 (18 + 8 * t) 5) = 0)) || (decide (x = (μ.1 0 15))))) (⟨rfl, (by try rw [hee2]; simp only [h1, h3, lb_f, Int64.or_zero, Int32.add_zero, nB_t, nB_f, Bool.not_true, Bool.not_false, Bool.and_true, Bool.true_and, Bool.false_and, Bool.and_false, Bool.or_true, Bool.true_or, Bool.false_or, Bool.or_false, cond_true, cond_false])⟩)
      refine zq_if hc hH (by rfl) (tg := 48) (by rfl) (fun h5 => ?_) (fun h5 => ?_)
      · have h5 : (decide ((μ.1 (18 + 8 * t) 5) = 0)) = true := decide_eq_true (cm_eq9.mp h5)
        refine z_rcs hc hH 2 (pc' := 53) (lv' := [(2, .ref (18 + 8 * t)), (0, .ref 0), (1, .int x)]) (st' := [.int 1]) (μ' := μ) (by rfl) ?_
        exact zJ hJ4 rfl (by first | with_reducible rfl | (simp only [h5, lb_f, Int64.or_zero, Int32.add_zero, nB_t, nB_f, Bool.not_true, Bool.not_false, Bool.and_true, Bool.true_and, Bool.false_and, Bool.and_false, Bool.or_true, Bool.true_or, Bool.false_or, Bool.or_false, cond_true, cond_false]; done) | rfl) rfl
      · have h5 : (decide ((μ.1 (18 + 8 * t) 5) = 0)) = false := decide_eq_false (cn_eq.mp h5)
        refine z_rcs hc hH 2 (pc' := 42) (lv' := [(2, .ref (18 + 8 * t)), (0, .ref 0), (1, .int x)]) (st' := [.ref 0, .int x]) (μ' := μ) (by rfl) ?_
        refine zq_gfi hc hH (by rfl) (ci := 5) (f := 15) (by rfl) (by decide +kernel) (by rfl) ?_
        refine zq_ic hc hH (by rfl) (tg := 52) (by rfl) (fun h6 => ?_) (fun h6 => ?_)
        · have h6 : (decide (x = (μ.1 0 15))) = false := decide_eq_false (cm_ne.mp h6)
          refine z_rcs hc hH 1 (pc' := 53) (lv' := [(2, .ref (18 + 8 * t)), (0, .ref 0), (1, .int x)]) (st' := [.int 0]) (μ' := μ) (by rfl) ?_
          exact zJ hJ4 rfl (by first | with_reducible rfl | (simp only [h5, h6, lb_f, Int64.or_zero, Int32.add_zero, nB_t, nB_f, Bool.not_true, Bool.not_false, Bool.and_true, Bool.true_and, Bool.false_and, Bool.and_false, Bool.or_true, Bool.true_or, Bool.false_or, Bool.or_false, cond_true, cond_false]; done) | rfl) rfl
        · have h6 : (decide (x = (μ.1 0 15))) = true := decide_eq_true (cn_ne.mp h6)
          refine z_rcs hc hH 2 (pc' := 53) (lv' := [(2, .ref (18 + 8 * t)), (0, .ref 0), (1, .int x)]) (st' := [.int 1]) (μ' := μ) (by rfl) ?_
          exact zJ hJ4 rfl (by first | with_reducible rfl | (simp only [h5, h6, lb_f, Int64.or_zero, Int32.add_zero, nB_t, nB_f, Bool.not_true, Bool.not_false, Bool.and_true, Bool.true_and, Bool.false_and, Bool.and_false, Bool.or_true, Bool.true_or, Bool.false_or, Bool.or_false, cond_true, cond_false]; done) | rfl) rfl
    · have h3 : (ee2) = true := nB_n.mp (cn_eq.mp h3)
      refine z_rcs hc hH 1 (pc' := 32) (lv' := [(2, .ref (18 + 8 * t)), (0, .ref 0), (1, .int x)]) (st' := [.int 0]) (μ' := μ) (by rfl) ?_
      exact hr 0 32 _ _ _ (some (.int 0)) (by decide +kernel) (z_rx_ok hH (by rfl)) (⟨rfl, (by try rw [hee2]; simp only [h1, h3, lb_f, Int64.or_zero, Int32.add_zero, nB_t, nB_f, Bool.not_true, Bool.not_false, Bool.and_true, Bool.true_and, Bool.false_and, Bool.and_false, Bool.or_true, Bool.true_or, Bool.false_or, Bool.or_false, cond_true, cond_false])⟩)
theorem gc_mayClaimSet (d : Nat) (hd : 3 ≤ d) (μ : zM) (s : Nat) (hs4 : s < 4) : z_C d mi_X6_mayClaimSet [.ref 0, .int (nI s)] μ (zR μ (.int (nB ((decide ((μ.1 0 7) = 2)) && ((sI (nI s)) && (!(decide ((nI s) = (μ.1 0 8))) && ((decide ((μ.1 (18 + 8 * s) 5) = 0)) && (!(decide ((xLf μ) ≤ 0)) && (!(xAny μ)))))))))) := by
  refine z_C_in (by decide) (by omega) (fun d' Z ed hc hr => ?_)
  have hH : zH mi_X6_mayClaimSet zt_X6_mayClaimSet 79 6 2 := hh_X6_mayClaimSet
  refine z_rcs hc hH 1 (pc' := 1) (lv' := [(0, .ref 0), (1, .int (nI s))]) (st' := [.ref 0]) (μ' := μ) (by rfl) ?_
  refine zq_gfi hc hH (by rfl) (ci := 5) (f := 7) (by rfl) (by decide +kernel) (by rfl) ?_
  refine z_rcs hc hH 1 (pc' := 5) (lv' := [(0, .ref 0), (1, .int (nI s))]) (st' := [.int 2, .int (μ.1 0 7)]) (μ' := μ) (by rfl) ?_
  have hJ1 : Z 0 56 [(0, .ref 0), (1, .int (nI s))] [.int (nB ((decide ((μ.1 0 7) = 2)) && ((sI (nI s)) && (!(decide ((nI s) = (μ.1 0 8))) && ((decide ((μ.1 (18 + 8 * s) 5) = 0)) && (!(decide ((xLf μ) ≤ 0)) && (!(xAny μ))))))))] μ := by
    generalize hee2 : ((decide ((μ.1 0 7) = 2)) && ((sI (nI s)) && (!(decide ((nI s) = (μ.1 0 8))) && ((decide ((μ.1 (18 + 8 * s) 5) = 0)) && (!(decide ((xLf μ) ≤ 0)) && (!(xAny μ))))))) = ee2
    exact hr 0 56 _ _ _ (some (.int (nB ee2))) (by decide +kernel) ((fun b : Bool => (by cases b <;> rfl : z_rn mi_X6_mayClaimSet 56 [.int (nB b)] = some (some (.int (nB b))))) ee2) (⟨rfl, (by subst hee2; rfl)⟩)
  refine zq_ic hc hH (by rfl) (tg := 55) (by rfl) (fun h3 => ?_) (fun h3 => ?_)
  · have h3 : (decide ((μ.1 0 7) = 2)) = false := decide_eq_false (cm_ne.mp h3)
    refine z_rcs hc hH 1 (pc' := 56) (lv' := [(0, .ref 0), (1, .int (nI s))]) (st' := [.int 0]) (μ' := μ) (by rfl) ?_
    exact zJ hJ1 rfl (by first | with_reducible rfl | (simp only [h3, lb_f, Int64.or_zero, Int32.add_zero, nB_t, nB_f, Bool.not_true, Bool.not_false, Bool.and_true, Bool.true_and, Bool.false_and, Bool.and_false, Bool.or_true, Bool.true_or, Bool.false_or, Bool.or_false, cond_true, cond_false]; done) | rfl) rfl
  · have h3 : (decide ((μ.1 0 7) = 2)) = true := decide_eq_true (cn_ne.mp h3)
    refine z_rcs hc hH 1 (pc' := 9) (lv' := [(0, .ref 0), (1, .int (nI s))]) (st' := [.int (nI s)]) (μ' := μ) (by rfl) ?_
    refine zq_call hc (z_cx_ok hH (by rfl)) (gc_isSeat d' (by omega) μ (nI s)) (by decide +kernel) (fun r9 μ9 hq => ?_)
    obtain ⟨hμ9, rfl⟩ := hq
    rw [hμ9]
    clear hμ9 μ9
    show Z 0 12 [(0, .ref 0), (1, .int (nI s))] [.int (nB (sI (nI s)))] μ
    refine zq_if hc hH (by rfl) (tg := 55) (by rfl) (fun h4 => ?_) (fun h4 => ?_)
    · have h4 : (sI (nI s)) = false := nB_z.mp (cm_eq9.mp h4)
      refine z_rcs hc hH 1 (pc' := 56) (lv' := [(0, .ref 0), (1, .int (nI s))]) (st' := [.int 0]) (μ' := μ) (by rfl) ?_
      exact zJ hJ1 rfl (by first | with_reducible rfl | (simp only [h3, h4, lb_f, Int64.or_zero, Int32.add_zero, nB_t, nB_f, Bool.not_true, Bool.not_false, Bool.and_true, Bool.true_and, Bool.false_and, Bool.and_false, Bool.or_true, Bool.true_or, Bool.false_or, Bool.or_false, cond_true, cond_false]; done) | rfl) rfl
    · have h4 : (sI (nI s)) = true := nB_n.mp (cn_eq.mp h4)
      refine z_rcs hc hH 2 (pc' := 17) (lv' := [(0, .ref 0), (1, .int (nI s))]) (st' := [.ref 0, .int (nI s)]) (μ' := μ) (by rfl) ?_
      refine zq_gfi hc hH (by rfl) (ci := 5) (f := 8) (by rfl) (by decide +kernel) (by rfl) ?_
      refine zq_ic hc hH (by rfl) (tg := 55) (by rfl) (fun h5 => ?_) (fun h5 => ?_)
      · have h5 : (decide ((nI s) = (μ.1 0 8))) = true := decide_eq_true (cm_eq9.mp h5)
        refine z_rcs hc hH 1 (pc' := 56) (lv' := [(0, .ref 0), (1, .int (nI s))]) (st' := [.int 0]) (μ' := μ) (by rfl) ?_
        exact zJ hJ1 rfl (by first | with_reducible rfl | (simp only [h3, h4, h5, lb_f, Int64.or_zero, Int32.add_zero, nB_t, nB_f, Bool.not_true, Bool.not_false, Bool.and_true, Bool.true_and, Bool.false_and, Bool.and_false, Bool.or_true, Bool.true_or, Bool.false_or, Bool.or_false, cond_true, cond_false]; done) | rfl) rfl
      · have h5 : (decide ((nI s) = (μ.1 0 8))) = false := decide_eq_false (cn_eq.mp h5)
        refine z_rcs hc hH 2 (pc' := 25) (lv' := [(0, .ref 0), (1, .int (nI s))]) (st' := [.int (nI s), .ref 0]) (μ' := μ) (by rfl) ?_
        refine zq_call hc (z_cx_ok hH (by rfl)) (gc_at4 d' (by omega) μ s hs4) (by decide +kernel) (fun r9 μ9 hq => ?_)
        obtain ⟨hμ9, rfl⟩ := hq
        rw [hμ9]
        clear hμ9 μ9
        show Z 0 28 [(0, .ref 0), (1, .int (nI s))] [.ref (18 + 8 * s)] μ
        refine zq_gfi hc hH (by rfl) (ci := 1) (f := 5) (by rfl) (sj (P := fun i => okf 79 1 5 (18 + 8 * i)) hs4 (by decide +kernel)) (by rfl) ?_
        refine zq_if hc hH (by rfl) (tg := 55) (by rfl) (fun h6 => ?_) (fun h6 => ?_)
        · have h6 : (decide ((μ.1 (18 + 8 * s) 5) = 0)) = false := decide_eq_false (cm_ne.mp h6)
          refine z_rcs hc hH 1 (pc' := 56) (lv' := [(0, .ref 0), (1, .int (nI s))]) (st' := [.int 0]) (μ' := μ) (by rfl) ?_
          exact zJ hJ1 rfl (by first | with_reducible rfl | (simp only [h3, h4, h5, h6, lb_f, Int64.or_zero, Int32.add_zero, nB_t, nB_f, Bool.not_true, Bool.not_false, Bool.and_true, Bool.true_and, Bool.false_and, Bool.and_false, Bool.or_true, Bool.true_or, Bool.false_or, Bool.or_false, cond_true, cond_false]; done) | rfl) rfl
        · have h6 : (decide ((μ.1 (18 + 8 * s) 5) = 0)) = true := decide_eq_true (cn_ne.mp h6)
          refine z_rcs hc hH 1 (pc' := 35) (lv' := [(0, .ref 0), (1, .int (nI s))]) (st' := [.ref 0]) (μ' := μ) (by rfl) ?_
          refine zq_gfr hc hH (by rfl) (ci := 5) (f := 1) (q := 2) (by rfl) (by decide +kernel) (by rfl) (by decide +kernel) ?_
          refine zq_call hc (z_cx_ok hH (by rfl)) (gc_left d' (by omega) μ) (by decide +kernel) (fun r9 μ9 hq => ?_)
          obtain ⟨hμ9, rfl⟩ := hq
          rw [hμ9]
          clear hμ9 μ9
          show Z 0 41 [(0, .ref 0), (1, .int (nI s))] [.int (xLf μ)] μ
          refine zq_if hc hH (by rfl) (tg := 55) (by rfl) (fun h7 => ?_) (fun h7 => ?_)
          · have h7 : (decide ((xLf μ) ≤ 0)) = true := decide_eq_true (cm_le.mp h7)
            refine z_rcs hc hH 1 (pc' := 56) (lv' := [(0, .ref 0), (1, .int (nI s))]) (st' := [.int 0]) (μ' := μ) (by rfl) ?_
            exact zJ hJ1 rfl (by first | with_reducible rfl | (simp only [h3, h4, h5, h6, h7, lb_f, Int64.or_zero, Int32.add_zero, nB_t, nB_f, Bool.not_true, Bool.not_false, Bool.and_true, Bool.true_and, Bool.false_and, Bool.and_false, Bool.or_true, Bool.true_or, Bool.false_or, Bool.or_false, cond_true, cond_false]; done) | rfl) rfl
          · have h7 : (decide ((xLf μ) ≤ 0)) = false := decide_eq_false (cn_le.mp h7)
            refine z_rcs hc hH 1 (pc' := 45) (lv' := [(0, .ref 0), (1, .int (nI s))]) (st' := [.ref 0]) (μ' := μ) (by rfl) ?_
            refine zq_call hc (z_cx_ok hH (by rfl)) (gc_someoneSays d' (by omega) μ) (by decide +kernel) (fun r9 μ9 hq => ?_)
            obtain ⟨hμ9, rfl⟩ := hq
            rw [hμ9]
            clear hμ9 μ9
            show Z 0 48 [(0, .ref 0), (1, .int (nI s))] [.int (nB (xAny μ))] μ
            refine zq_if hc hH (by rfl) (tg := 55) (by rfl) (fun h8 => ?_) (fun h8 => ?_)
            · have h8 : (xAny μ) = true := nB_n.mp (cm_ne.mp h8)
              refine z_rcs hc hH 1 (pc' := 56) (lv' := [(0, .ref 0), (1, .int (nI s))]) (st' := [.int 0]) (μ' := μ) (by rfl) ?_
              exact zJ hJ1 rfl (by first | with_reducible rfl | (simp only [h3, h4, h5, h6, h7, h8, lb_f, Int64.or_zero, Int32.add_zero, nB_t, nB_f, Bool.not_true, Bool.not_false, Bool.and_true, Bool.true_and, Bool.false_and, Bool.and_false, Bool.or_true, Bool.true_or, Bool.false_or, Bool.or_false, cond_true, cond_false]; done) | rfl) rfl
            · have h8 : (xAny μ) = false := nB_z.mp (cn_ne.mp h8)
              refine z_rcs hc hH 2 (pc' := 56) (lv' := [(0, .ref 0), (1, .int (nI s))]) (st' := [.int 1]) (μ' := μ) (by rfl) ?_
              exact zJ hJ1 rfl (by first | with_reducible rfl | (simp only [h3, h4, h5, h6, h7, h8, lb_f, Int64.or_zero, Int32.add_zero, nB_t, nB_f, Bool.not_true, Bool.not_false, Bool.and_true, Bool.true_and, Bool.false_and, Bool.and_false, Bool.or_true, Bool.true_or, Bool.false_or, Bool.or_false, cond_true, cond_false]; done) | rfl) rfl
theorem gc_otherEnd (d : Nat) (hd : 2 ≤ d) (μ : zM) (x : Int32) : z_C d mi_X6_otherEnd [.ref 0, .int x] μ (zR μ (.long (bif decide ((μ.1 0 15) = x) then bif srB (x + 1) then 1 <<< ((x + 3).toInt64 &&& 63) else bif decide ((μ.1 0 15) = (x + 2)) then bif decide (x ≤ 0) then (0 : Int64) else bif srB (x - 1) then 1 <<< ((x - 1).toInt64 &&& 63) else 0 else 0 else bif decide ((μ.1 0 15) = (x + 2)) then bif decide (x ≤ 0) then (0 : Int64) else bif srB (x - 1) then 1 <<< ((x - 1).toInt64 &&& 63) else 0 else 0))) := by
  refine z_C_in (by decide) (by omega) (fun d' Z ed hc hr => ?_)
  have hH : zH mi_X6_otherEnd zt_X6_otherEnd 79 6 2 := hh_X6_otherEnd
  refine z_rcs hc hH 1 (pc' := 1) (lv' := [(0, .ref 0), (1, .int x)]) (st' := [.ref 0]) (μ' := μ) (by rfl) ?_
  refine zq_gfi hc hH (by rfl) (ci := 5) (f := 15) (by rfl) (by decide +kernel) (by rfl) ?_
  refine z_rcs hc hH 1 (pc' := 5) (lv' := [(0, .ref 0), (1, .int x)]) (st' := [.int x, .int (μ.1 0 15)]) (μ' := μ) (by rfl) ?_
  refine zq_ic hc hH (by rfl) (tg := 23) (by rfl) (fun h1 => ?_) (fun h1 => ?_)
  · have h1 : (decide ((μ.1 0 15) = x)) = false := decide_eq_false (cm_ne.mp h1)
    refine z_rcs hc hH 1 (pc' := 24) (lv' := [(0, .ref 0), (1, .int x)]) (st' := [.ref 0]) (μ' := μ) (by rfl) ?_
    refine zq_gfi hc hH (by rfl) (ci := 5) (f := 15) (by rfl) (by decide +kernel) (by rfl) ?_
    refine z_rcs hc hH 3 (pc' := 30) (lv' := [(0, .ref 0), (1, .int x)]) (st' := [.int (x + 2), .int (μ.1 0 15)]) (μ' := μ) (by rfl) ?_
    refine zq_ic hc hH (by rfl) (tg := 52) (by rfl) (fun h2 => ?_) (fun h2 => ?_)
    · have h2 : (decide ((μ.1 0 15) = (x + 2))) = false := decide_eq_false (cm_ne.mp h2)
      refine z_rcs hc hH 1 (pc' := 53) (lv' := [(0, .ref 0), (1, .int x)]) (st' := [.long 0]) (μ' := μ) (by rfl) ?_
      exact hr 0 53 _ _ _ (some (.long 0)) (by decide +kernel) (z_rx_ok hH (by rfl)) (⟨rfl, (by simp only [h1, h2, lb_f, Int64.or_zero, Int32.add_zero, nB_t, nB_f, Bool.not_true, Bool.not_false, Bool.and_true, Bool.true_and, Bool.false_and, Bool.and_false, Bool.or_true, Bool.true_or, Bool.false_or, Bool.or_false, cond_true, cond_false])⟩)
    · have h2 : (decide ((μ.1 0 15) = (x + 2))) = true := decide_eq_true (cn_ne.mp h2)
      refine z_rcs hc hH 1 (pc' := 34) (lv' := [(0, .ref 0), (1, .int x)]) (st' := [.int x]) (μ' := μ) (by rfl) ?_
      refine zq_if hc hH (by rfl) (tg := 52) (by rfl) (fun h3 => ?_) (fun h3 => ?_)
      · have h3 : (decide (x ≤ 0)) = true := decide_eq_true (cm_le.mp h3)
        refine z_rcs hc hH 1 (pc' := 53) (lv' := [(0, .ref 0), (1, .int x)]) (st' := [.long 0]) (μ' := μ) (by rfl) ?_
        exact hr 0 53 _ _ _ (some (.long 0)) (by decide +kernel) (z_rx_ok hH (by rfl)) (⟨rfl, (by simp only [h1, h2, h3, lb_f, Int64.or_zero, Int32.add_zero, nB_t, nB_f, Bool.not_true, Bool.not_false, Bool.and_true, Bool.true_and, Bool.false_and, Bool.and_false, Bool.or_true, Bool.true_or, Bool.false_or, Bool.or_false, cond_true, cond_false])⟩)
      · have h3 : (decide (x ≤ 0)) = false := decide_eq_false (cn_le.mp h3)
        refine z_rcs hc hH 3 (pc' := 40) (lv' := [(0, .ref 0), (1, .int x)]) (st' := [.int (x - 1)]) (μ' := μ) (by rfl) ?_
        refine zq_call hc (z_cx_ok hH (by rfl)) (gc_startsRun d' (by omega) μ (x - 1)) (by decide +kernel) (fun r9 μ9 hq => ?_)
        obtain ⟨hμ9, rfl⟩ := hq
        rw [hμ9]
        clear hμ9 μ9
        show Z 0 43 [(0, .ref 0), (1, .int x)] [.int (nB (srB (x - 1)))] μ
        generalize hee4 : (srB (x - 1)) = ee4
        refine zq_if hc hH (by rfl) (tg := 52) (by rfl) (fun h5 => ?_) (fun h5 => ?_)
        · have h5 : (ee4) = false := nB_z.mp (cm_eq9.mp h5)
          refine z_rcs hc hH 1 (pc' := 53) (lv' := [(0, .ref 0), (1, .int x)]) (st' := [.long 0]) (μ' := μ) (by rfl) ?_
          exact hr 0 53 _ _ _ (some (.long 0)) (by decide +kernel) (z_rx_ok hH (by rfl)) (⟨rfl, (by try rw [hee4]; simp only [h1, h2, h3, h5, lb_f, Int64.or_zero, Int32.add_zero, nB_t, nB_f, Bool.not_true, Bool.not_false, Bool.and_true, Bool.true_and, Bool.false_and, Bool.and_false, Bool.or_true, Bool.true_or, Bool.false_or, Bool.or_false, cond_true, cond_false])⟩)
        · have h5 : (ee4) = true := nB_n.mp (cn_eq.mp h5)
          refine z_rcs hc hH 5 (pc' := 51) (lv' := [(0, .ref 0), (1, .int x)]) (st' := [.long (1 <<< ((x - 1).toInt64 &&& 63))]) (μ' := μ) (by rfl) ?_
          exact hr 0 51 _ _ _ (some (.long (1 <<< ((x - 1).toInt64 &&& 63)))) (by decide +kernel) (z_rx_ok hH (by rfl)) (⟨rfl, (by try rw [hee4]; simp only [h1, h2, h3, h5, lb_f, Int64.or_zero, Int32.add_zero, nB_t, nB_f, Bool.not_true, Bool.not_false, Bool.and_true, Bool.true_and, Bool.false_and, Bool.and_false, Bool.or_true, Bool.true_or, Bool.false_or, Bool.or_false, cond_true, cond_false])⟩)
  · have h1 : (decide ((μ.1 0 15) = x)) = true := decide_eq_true (cn_ne.mp h1)
    refine z_rcs hc hH 3 (pc' := 11) (lv' := [(0, .ref 0), (1, .int x)]) (st' := [.int (x + 1)]) (μ' := μ) (by rfl) ?_
    refine zq_call hc (z_cx_ok hH (by rfl)) (gc_startsRun d' (by omega) μ (x + 1)) (by decide +kernel) (fun r9 μ9 hq => ?_)
    obtain ⟨hμ9, rfl⟩ := hq
    rw [hμ9]
    clear hμ9 μ9
    show Z 0 14 [(0, .ref 0), (1, .int x)] [.int (nB (srB (x + 1)))] μ
    generalize hee6 : (srB (x + 1)) = ee6
    refine zq_if hc hH (by rfl) (tg := 23) (by rfl) (fun h7 => ?_) (fun h7 => ?_)
    · have h7 : (ee6) = false := nB_z.mp (cm_eq9.mp h7)
      refine z_rcs hc hH 1 (pc' := 24) (lv' := [(0, .ref 0), (1, .int x)]) (st' := [.ref 0]) (μ' := μ) (by rfl) ?_
      refine zq_gfi hc hH (by rfl) (ci := 5) (f := 15) (by rfl) (by decide +kernel) (by rfl) ?_
      refine z_rcs hc hH 3 (pc' := 30) (lv' := [(0, .ref 0), (1, .int x)]) (st' := [.int (x + 2), .int (μ.1 0 15)]) (μ' := μ) (by rfl) ?_
      refine zq_ic hc hH (by rfl) (tg := 52) (by rfl) (fun h8 => ?_) (fun h8 => ?_)
      · have h8 : (decide ((μ.1 0 15) = (x + 2))) = false := decide_eq_false (cm_ne.mp h8)
        refine z_rcs hc hH 1 (pc' := 53) (lv' := [(0, .ref 0), (1, .int x)]) (st' := [.long 0]) (μ' := μ) (by rfl) ?_
        exact hr 0 53 _ _ _ (some (.long 0)) (by decide +kernel) (z_rx_ok hH (by rfl)) (⟨rfl, (by try rw [hee6]; simp only [h1, h7, h8, lb_f, Int64.or_zero, Int32.add_zero, nB_t, nB_f, Bool.not_true, Bool.not_false, Bool.and_true, Bool.true_and, Bool.false_and, Bool.and_false, Bool.or_true, Bool.true_or, Bool.false_or, Bool.or_false, cond_true, cond_false])⟩)
      · have h8 : (decide ((μ.1 0 15) = (x + 2))) = true := decide_eq_true (cn_ne.mp h8)
        refine z_rcs hc hH 1 (pc' := 34) (lv' := [(0, .ref 0), (1, .int x)]) (st' := [.int x]) (μ' := μ) (by rfl) ?_
        refine zq_if hc hH (by rfl) (tg := 52) (by rfl) (fun h9 => ?_) (fun h9 => ?_)
        · have h9 : (decide (x ≤ 0)) = true := decide_eq_true (cm_le.mp h9)
          refine z_rcs hc hH 1 (pc' := 53) (lv' := [(0, .ref 0), (1, .int x)]) (st' := [.long 0]) (μ' := μ) (by rfl) ?_
          exact hr 0 53 _ _ _ (some (.long 0)) (by decide +kernel) (z_rx_ok hH (by rfl)) (⟨rfl, (by try rw [hee6]; simp only [h1, h7, h8, h9, lb_f, Int64.or_zero, Int32.add_zero, nB_t, nB_f, Bool.not_true, Bool.not_false, Bool.and_true, Bool.true_and, Bool.false_and, Bool.and_false, Bool.or_true, Bool.true_or, Bool.false_or, Bool.or_false, cond_true, cond_false])⟩)
        · have h9 : (decide (x ≤ 0)) = false := decide_eq_false (cn_le.mp h9)
          refine z_rcs hc hH 3 (pc' := 40) (lv' := [(0, .ref 0), (1, .int x)]) (st' := [.int (x - 1)]) (μ' := μ) (by rfl) ?_
          refine zq_call hc (z_cx_ok hH (by rfl)) (gc_startsRun d' (by omega) μ (x - 1)) (by decide +kernel) (fun r9 μ9 hq => ?_)
          obtain ⟨hμ9, rfl⟩ := hq
          rw [hμ9]
          clear hμ9 μ9
          show Z 0 43 [(0, .ref 0), (1, .int x)] [.int (nB (srB (x - 1)))] μ
          generalize hee10 : (srB (x - 1)) = ee10
          refine zq_if hc hH (by rfl) (tg := 52) (by rfl) (fun h11 => ?_) (fun h11 => ?_)
          · have h11 : (ee10) = false := nB_z.mp (cm_eq9.mp h11)
            refine z_rcs hc hH 1 (pc' := 53) (lv' := [(0, .ref 0), (1, .int x)]) (st' := [.long 0]) (μ' := μ) (by rfl) ?_
            exact hr 0 53 _ _ _ (some (.long 0)) (by decide +kernel) (z_rx_ok hH (by rfl)) (⟨rfl, (by try rw [hee6]; try rw [hee10]; simp only [h1, h7, h8, h9, h11, lb_f, Int64.or_zero, Int32.add_zero, nB_t, nB_f, Bool.not_true, Bool.not_false, Bool.and_true, Bool.true_and, Bool.false_and, Bool.and_false, Bool.or_true, Bool.true_or, Bool.false_or, Bool.or_false, cond_true, cond_false])⟩)
          · have h11 : (ee10) = true := nB_n.mp (cn_eq.mp h11)
            refine z_rcs hc hH 5 (pc' := 51) (lv' := [(0, .ref 0), (1, .int x)]) (st' := [.long (1 <<< ((x - 1).toInt64 &&& 63))]) (μ' := μ) (by rfl) ?_
            exact hr 0 51 _ _ _ (some (.long (1 <<< ((x - 1).toInt64 &&& 63)))) (by decide +kernel) (z_rx_ok hH (by rfl)) (⟨rfl, (by try rw [hee6]; try rw [hee10]; simp only [h1, h7, h8, h9, h11, lb_f, Int64.or_zero, Int32.add_zero, nB_t, nB_f, Bool.not_true, Bool.not_false, Bool.and_true, Bool.true_and, Bool.false_and, Bool.and_false, Bool.or_true, Bool.true_or, Bool.false_or, Bool.or_false, cond_true, cond_false])⟩)
    · have h7 : (ee6) = true := nB_n.mp (cn_eq.mp h7)
      refine z_rcs hc hH 5 (pc' := 22) (lv' := [(0, .ref 0), (1, .int x)]) (st' := [.long (1 <<< ((x + 3).toInt64 &&& 63))]) (μ' := μ) (by rfl) ?_
      exact hr 0 22 _ _ _ (some (.long (1 <<< ((x + 3).toInt64 &&& 63)))) (by decide +kernel) (z_rx_ok hH (by rfl)) (⟨rfl, (by try rw [hee6]; simp only [h1, h7, lb_f, Int64.or_zero, Int32.add_zero, nB_t, nB_f, Bool.not_true, Bool.not_false, Bool.and_true, Bool.true_and, Bool.false_and, Bool.and_false, Bool.or_true, Bool.true_or, Bool.false_or, Bool.or_false, cond_true, cond_false])⟩)
theorem gc_toldForms (d : Nat) (hd : 3 ≤ d) (μ : zM) (s : Nat) (hs4 : s < 4) (dr : Bool) : z_C d mi_X6_toldForms [.ref 0, .ref (18 + 8 * s), .int (nB dr)] μ (zR μ (.long (bif decide ((xLf μ) = 0) then bif dr then (bif decide ((xLf μ) = 0) then ((bif dr then (((0 ||| (bif decide ((μ.1 (18 + 8 * s) 5) = 1) then (1 : Int64) else 0)) ||| (bif decide ((μ.1 (18 + 8 * s) 5) = 2) then (2 : Int64) else 0)) ||| (bif decide ((μ.1 (18 + 8 * s) 7) = 0) then (0 : Int64) else 4)) ||| (bif decide ((μ.1 0 16) = 0) then (0 : Int64) else 64) else ((0 ||| (bif decide ((μ.1 (18 + 8 * s) 5) = 1) then (1 : Int64) else 0)) ||| (bif decide ((μ.1 (18 + 8 * s) 5) = 2) then (2 : Int64) else 0)) ||| (bif decide ((μ.1 (18 + 8 * s) 7) = 0) then (0 : Int64) else 4)) ||| (bif decide ((μ.1 0 7) = 3) then (128 : Int64) else 0)) ||| (bif decide ((μ.1 0 7) = 2) then (32 : Int64) else 0) else (bif dr then (((0 ||| (bif decide ((μ.1 (18 + 8 * s) 5) = 1) then (1 : Int64) else 0)) ||| (bif decide ((μ.1 (18 + 8 * s) 5) = 2) then (2 : Int64) else 0)) ||| (bif decide ((μ.1 (18 + 8 * s) 7) = 0) then (0 : Int64) else 4)) ||| (bif decide ((μ.1 0 16) = 0) then (0 : Int64) else 64) else ((0 ||| (bif decide ((μ.1 (18 + 8 * s) 5) = 1) then (1 : Int64) else 0)) ||| (bif decide ((μ.1 (18 + 8 * s) 5) = 2) then (2 : Int64) else 0)) ||| (bif decide ((μ.1 (18 + 8 * s) 7) = 0) then (0 : Int64) else 4)) ||| (bif decide ((μ.1 0 7) = 3) then (128 : Int64) else 0)) ||| (bif decide ((μ.1 0 16) = 0) then (16 : Int64) else 0) else bif decide ((xLf μ) = 0) then ((bif dr then (((0 ||| (bif decide ((μ.1 (18 + 8 * s) 5) = 1) then (1 : Int64) else 0)) ||| (bif decide ((μ.1 (18 + 8 * s) 5) = 2) then (2 : Int64) else 0)) ||| (bif decide ((μ.1 (18 + 8 * s) 7) = 0) then (0 : Int64) else 4)) ||| (bif decide ((μ.1 0 16) = 0) then (0 : Int64) else 64) else ((0 ||| (bif decide ((μ.1 (18 + 8 * s) 5) = 1) then (1 : Int64) else 0)) ||| (bif decide ((μ.1 (18 + 8 * s) 5) = 2) then (2 : Int64) else 0)) ||| (bif decide ((μ.1 (18 + 8 * s) 7) = 0) then (0 : Int64) else 4)) ||| (bif decide ((μ.1 0 7) = 3) then (128 : Int64) else 0)) ||| (bif decide ((μ.1 0 7) = 2) then (32 : Int64) else 0) else (bif dr then (((0 ||| (bif decide ((μ.1 (18 + 8 * s) 5) = 1) then (1 : Int64) else 0)) ||| (bif decide ((μ.1 (18 + 8 * s) 5) = 2) then (2 : Int64) else 0)) ||| (bif decide ((μ.1 (18 + 8 * s) 7) = 0) then (0 : Int64) else 4)) ||| (bif decide ((μ.1 0 16) = 0) then (0 : Int64) else 64) else ((0 ||| (bif decide ((μ.1 (18 + 8 * s) 5) = 1) then (1 : Int64) else 0)) ||| (bif decide ((μ.1 (18 + 8 * s) 5) = 2) then (2 : Int64) else 0)) ||| (bif decide ((μ.1 (18 + 8 * s) 7) = 0) then (0 : Int64) else 4)) ||| (bif decide ((μ.1 0 7) = 3) then (128 : Int64) else 0) else bif decide ((xLf μ) = 0) then ((bif dr then (((0 ||| (bif decide ((μ.1 (18 + 8 * s) 5) = 1) then (1 : Int64) else 0)) ||| (bif decide ((μ.1 (18 + 8 * s) 5) = 2) then (2 : Int64) else 0)) ||| (bif decide ((μ.1 (18 + 8 * s) 7) = 0) then (0 : Int64) else 4)) ||| (bif decide ((μ.1 0 16) = 0) then (0 : Int64) else 64) else ((0 ||| (bif decide ((μ.1 (18 + 8 * s) 5) = 1) then (1 : Int64) else 0)) ||| (bif decide ((μ.1 (18 + 8 * s) 5) = 2) then (2 : Int64) else 0)) ||| (bif decide ((μ.1 (18 + 8 * s) 7) = 0) then (0 : Int64) else 4)) ||| (bif decide ((μ.1 0 7) = 3) then (128 : Int64) else 0)) ||| (bif decide ((μ.1 0 7) = 2) then (32 : Int64) else 0) else (bif dr then (((0 ||| (bif decide ((μ.1 (18 + 8 * s) 5) = 1) then (1 : Int64) else 0)) ||| (bif decide ((μ.1 (18 + 8 * s) 5) = 2) then (2 : Int64) else 0)) ||| (bif decide ((μ.1 (18 + 8 * s) 7) = 0) then (0 : Int64) else 4)) ||| (bif decide ((μ.1 0 16) = 0) then (0 : Int64) else 64) else ((0 ||| (bif decide ((μ.1 (18 + 8 * s) 5) = 1) then (1 : Int64) else 0)) ||| (bif decide ((μ.1 (18 + 8 * s) 5) = 2) then (2 : Int64) else 0)) ||| (bif decide ((μ.1 (18 + 8 * s) 7) = 0) then (0 : Int64) else 4)) ||| (bif decide ((μ.1 0 7) = 3) then (128 : Int64) else 0)))) := by
  refine z_C_in (by decide) (by omega) (fun d' Z ed hc hr => ?_)
  have hH : zH mi_X6_toldForms zt_X6_toldForms 79 6 5 := hh_X6_toldForms
  refine z_rcs hc hH 3 (pc' := 3) (lv' := [(3, .long 0), (0, .ref 0), (1, .ref (18 + 8 * s)), (2, .int (nB dr))]) (st' := [.ref (18 + 8 * s)]) (μ' := μ) (by rfl) ?_
  refine zq_gfi hc hH (by rfl) (ci := 1) (f := 5) (by rfl) (sj (P := fun i => okf 79 1 5 (18 + 8 * i)) hs4 (by decide +kernel)) (by rfl) ?_
  refine z_rcs hc hH 1 (pc' := 7) (lv' := [(3, .long 0), (0, .ref 0), (1, .ref (18 + 8 * s)), (2, .int (nB dr))]) (st' := [.int 1, .int (μ.1 (18 + 8 * s) 5)]) (μ' := μ) (by rfl) ?_
  have hJ1 : Z 0 14 [(3, .long (0 ||| (bif decide ((μ.1 (18 + 8 * s) 5) = 1) then (1 : Int64) else 0))), (0, .ref 0), (1, .ref (18 + 8 * s)), (2, .int (nB dr))] [] μ := by
    refine z_rcs hc hH 1 (pc' := 15) (lv' := [(3, .long (0 ||| (bif decide ((μ.1 (18 + 8 * s) 5) = 1) then (1 : Int64) else 0))), (0, .ref 0), (1, .ref (18 + 8 * s)), (2, .int (nB dr))]) (st' := [.ref (18 + 8 * s)]) (μ' := μ) (by rfl) ?_
    refine zq_gfi hc hH (by rfl) (ci := 1) (f := 5) (by rfl) (sj (P := fun i => okf 79 1 5 (18 + 8 * i)) hs4 (by decide +kernel)) (by rfl) ?_
    refine z_rcs hc hH 1 (pc' := 19) (lv' := [(3, .long (0 ||| (bif decide ((μ.1 (18 + 8 * s) 5) = 1) then (1 : Int64) else 0))), (0, .ref 0), (1, .ref (18 + 8 * s)), (2, .int (nB dr))]) (st' := [.int 2, .int (μ.1 (18 + 8 * s) 5)]) (μ' := μ) (by rfl) ?_
    have hJ2 : Z 0 28 [(3, .long ((0 ||| (bif decide ((μ.1 (18 + 8 * s) 5) = 1) then (1 : Int64) else 0)) ||| (bif decide ((μ.1 (18 + 8 * s) 5) = 2) then (2 : Int64) else 0))), (0, .ref 0), (1, .ref (18 + 8 * s)), (2, .int (nB dr))] [] μ := by
      generalize hyy3 : ((0 ||| (bif decide ((μ.1 (18 + 8 * s) 5) = 1) then (1 : Int64) else 0)) ||| (bif decide ((μ.1 (18 + 8 * s) 5) = 2) then (2 : Int64) else 0) : Int64) = yy3
      refine z_rcs hc hH 1 (pc' := 29) (lv' := [(3, .long yy3), (0, .ref 0), (1, .ref (18 + 8 * s)), (2, .int (nB dr))]) (st' := [.ref (18 + 8 * s)]) (μ' := μ) (by rfl) ?_
      refine zq_gfi hc hH (by rfl) (ci := 1) (f := 7) (by rfl) (sj (P := fun i => okf 79 1 7 (18 + 8 * i)) hs4 (by decide +kernel)) (by rfl) ?_
      have hJ4 : Z 0 41 [(3, .long (yy3 ||| (bif decide ((μ.1 (18 + 8 * s) 7) = 0) then (0 : Int64) else 4))), (0, .ref 0), (1, .ref (18 + 8 * s)), (2, .int (nB dr))] [] μ := by
        generalize hyy5 : (yy3 ||| (bif decide ((μ.1 (18 + 8 * s) 7) = 0) then (0 : Int64) else 4) : Int64) = yy5
        refine z_rcs hc hH 1 (pc' := 42) (lv' := [(3, .long yy5), (0, .ref 0), (1, .ref (18 + 8 * s)), (2, .int (nB dr))]) (st' := [.int (nB dr)]) (μ' := μ) (by rfl) ?_
        have hJ6 : Z 0 58 [(3, .long (bif dr then yy5 ||| (bif decide ((μ.1 0 16) = 0) then (0 : Int64) else 64) else yy5)), (0, .ref 0), (1, .ref (18 + 8 * s)), (2, .int (nB dr))] [] μ := by
          generalize hyy7 : (bif dr then yy5 ||| (bif decide ((μ.1 0 16) = 0) then (0 : Int64) else 64) else yy5 : Int64) = yy7
          refine z_rcs hc hH 1 (pc' := 59) (lv' := [(3, .long yy7), (0, .ref 0), (1, .ref (18 + 8 * s)), (2, .int (nB dr))]) (st' := [.ref 0]) (μ' := μ) (by rfl) ?_
          refine zq_gfi hc hH (by rfl) (ci := 5) (f := 7) (by rfl) (by decide +kernel) (by rfl) ?_
          refine z_rcs hc hH 1 (pc' := 63) (lv' := [(3, .long yy7), (0, .ref 0), (1, .ref (18 + 8 * s)), (2, .int (nB dr))]) (st' := [.int 3, .int (μ.1 0 7)]) (μ' := μ) (by rfl) ?_
          have hJ8 : Z 0 72 [(3, .long (yy7 ||| (bif decide ((μ.1 0 7) = 3) then (128 : Int64) else 0))), (0, .ref 0), (1, .ref (18 + 8 * s)), (2, .int (nB dr))] [] μ := by
            refine z_rcs hc hH 1 (pc' := 73) (lv' := [(3, .long (yy7 ||| (bif decide ((μ.1 0 7) = 3) then (128 : Int64) else 0))), (0, .ref 0), (1, .ref (18 + 8 * s)), (2, .int (nB dr))]) (st' := [.ref 0]) (μ' := μ) (by rfl) ?_
            refine zq_gfr hc hH (by rfl) (ci := 5) (f := 1) (q := 2) (by rfl) (by decide +kernel) (by rfl) (by decide +kernel) ?_
            refine zq_call hc (z_cx_ok hH (by rfl)) (gc_left d' (by omega) μ) (by decide +kernel) (fun r9 μ9 hq => ?_)
            obtain ⟨hμ9, rfl⟩ := hq
            rw [hμ9]
            clear hμ9 μ9
            show Z 0 79 [(3, .long (yy7 ||| (bif decide ((μ.1 0 7) = 3) then (128 : Int64) else 0))), (0, .ref 0), (1, .ref (18 + 8 * s)), (2, .int (nB dr))] [.int (xLf μ)] μ
            have hJ9 : Z 0 96 [(3, .long (bif decide ((xLf μ) = 0) then (yy7 ||| (bif decide ((μ.1 0 7) = 3) then (128 : Int64) else 0)) ||| (bif decide ((μ.1 0 7) = 2) then (32 : Int64) else 0) else yy7 ||| (bif decide ((μ.1 0 7) = 3) then (128 : Int64) else 0))), (0, .ref 0), (1, .ref (18 + 8 * s)), (2, .int (nB dr))] [] μ := by
              generalize hyy10 : (bif decide ((xLf μ) = 0) then (yy7 ||| (bif decide ((μ.1 0 7) = 3) then (128 : Int64) else 0)) ||| (bif decide ((μ.1 0 7) = 2) then (32 : Int64) else 0) else yy7 ||| (bif decide ((μ.1 0 7) = 3) then (128 : Int64) else 0) : Int64) = yy10
              refine z_rcs hc hH 1 (pc' := 97) (lv' := [(3, .long yy10), (0, .ref 0), (1, .ref (18 + 8 * s)), (2, .int (nB dr))]) (st' := [.ref 0]) (μ' := μ) (by rfl) ?_
              refine zq_gfr hc hH (by rfl) (ci := 5) (f := 1) (q := 2) (by rfl) (by decide +kernel) (by rfl) (by decide +kernel) ?_
              refine zq_call hc (z_cx_ok hH (by rfl)) (gc_left d' (by omega) μ) (by decide +kernel) (fun r9 μ9 hq => ?_)
              obtain ⟨hμ9, rfl⟩ := hq
              rw [hμ9]
              clear hμ9 μ9
              show Z 0 103 [(3, .long yy10), (0, .ref 0), (1, .ref (18 + 8 * s)), (2, .int (nB dr))] [.int (xLf μ)] μ
              have hJ11 : Z 0 123 [(3, .long (bif decide ((xLf μ) = 0) then bif dr then yy10 ||| (bif decide ((μ.1 0 16) = 0) then (16 : Int64) else 0) else yy10 else yy10)), (0, .ref 0), (1, .ref (18 + 8 * s)), (2, .int (nB dr))] [] μ := by
                generalize hyy12 : (bif decide ((xLf μ) = 0) then bif dr then yy10 ||| (bif decide ((μ.1 0 16) = 0) then (16 : Int64) else 0) else yy10 else yy10 : Int64) = yy12
                refine z_rcs hc hH 1 (pc' := 124) (lv' := [(3, .long yy12), (0, .ref 0), (1, .ref (18 + 8 * s)), (2, .int (nB dr))]) (st' := [.long yy12]) (μ' := μ) (by rfl) ?_
                exact hr 0 124 _ _ _ (some (.long yy12)) (by decide +kernel) (z_rx_ok hH (by rfl)) (⟨rfl, (by subst hyy12; subst hyy10; subst hyy7; subst hyy5; subst hyy3; rfl)⟩)
              refine zq_if hc hH (by rfl) (tg := 123) (by rfl) (fun h13 => ?_) (fun h13 => ?_)
              · have h13 : (decide ((xLf μ) = 0)) = false := decide_eq_false (cm_ne.mp h13)
                exact zJ hJ11 (by first | with_reducible rfl | (simp only [h13, lb_f, Int64.or_zero, Int32.add_zero, nB_t, nB_f, Bool.not_true, Bool.not_false, Bool.and_true, Bool.true_and, Bool.false_and, Bool.and_false, Bool.or_true, Bool.true_or, Bool.false_or, Bool.or_false, cond_true, cond_false]; done) | rfl) rfl rfl
              · have h13 : (decide ((xLf μ) = 0)) = true := decide_eq_true (cn_ne.mp h13)
                refine z_rcs hc hH 1 (pc' := 107) (lv' := [(3, .long yy10), (0, .ref 0), (1, .ref (18 + 8 * s)), (2, .int (nB dr))]) (st' := [.int (nB dr)]) (μ' := μ) (by rfl) ?_
                refine zq_if hc hH (by rfl) (tg := 123) (by rfl) (fun h14 => ?_) (fun h14 => ?_)
                · have h14 : (dr) = false := nB_z.mp (cm_eq9.mp h14)
                  exact zJ hJ11 (by first | with_reducible rfl | (simp only [h13, h14, lb_f, Int64.or_zero, Int32.add_zero, nB_t, nB_f, Bool.not_true, Bool.not_false, Bool.and_true, Bool.true_and, Bool.false_and, Bool.and_false, Bool.or_true, Bool.true_or, Bool.false_or, Bool.or_false, cond_true, cond_false]; done) | rfl) rfl rfl
                · have h14 : (dr) = true := nB_n.mp (cn_eq.mp h14)
                  refine z_rcs hc hH 1 (pc' := 111) (lv' := [(3, .long yy10), (0, .ref 0), (1, .ref (18 + 8 * s)), (2, .int (nB dr))]) (st' := [.ref 0]) (μ' := μ) (by rfl) ?_
                  refine zq_gfi hc hH (by rfl) (ci := 5) (f := 16) (by rfl) (by decide +kernel) (by rfl) ?_
                  refine zq_if hc hH (by rfl) (tg := 123) (by rfl) (fun h15 => ?_) (fun h15 => ?_)
                  · have h15 : (decide ((μ.1 0 16) = 0)) = false := decide_eq_false (cm_ne.mp h15)
                    exact zJ hJ11 (by first | with_reducible rfl | (simp only [h13, h14, h15, lb_f, Int64.or_zero, Int32.add_zero, nB_t, nB_f, Bool.not_true, Bool.not_false, Bool.and_true, Bool.true_and, Bool.false_and, Bool.and_false, Bool.or_true, Bool.true_or, Bool.false_or, Bool.or_false, cond_true, cond_false]; done) | rfl) rfl rfl
                  · have h15 : (decide ((μ.1 0 16) = 0)) = true := decide_eq_true (cn_ne.mp h15)
                    refine z_rcs hc hH 4 (pc' := 123) (lv' := [(3, .long (yy10 ||| 16)), (0, .ref 0), (1, .ref (18 + 8 * s)), (2, .int (nB dr))]) (st' := []) (μ' := μ) (by rfl) ?_
                    exact zJ hJ11 (by first | with_reducible rfl | (simp only [h13, h14, h15, lb_f, Int64.or_zero, Int32.add_zero, nB_t, nB_f, Bool.not_true, Bool.not_false, Bool.and_true, Bool.true_and, Bool.false_and, Bool.and_false, Bool.or_true, Bool.true_or, Bool.false_or, Bool.or_false, cond_true, cond_false]; done) | rfl) rfl rfl
            refine zq_if hc hH (by rfl) (tg := 96) (by rfl) (fun h16 => ?_) (fun h16 => ?_)
            · have h16 : (decide ((xLf μ) = 0)) = false := decide_eq_false (cm_ne.mp h16)
              exact zJ hJ9 (by first | with_reducible rfl | (simp only [h16, lb_f, Int64.or_zero, Int32.add_zero, nB_t, nB_f, Bool.not_true, Bool.not_false, Bool.and_true, Bool.true_and, Bool.false_and, Bool.and_false, Bool.or_true, Bool.true_or, Bool.false_or, Bool.or_false, cond_true, cond_false]; done) | rfl) rfl rfl
            · have h16 : (decide ((xLf μ) = 0)) = true := decide_eq_true (cn_ne.mp h16)
              refine z_rcs hc hH 1 (pc' := 83) (lv' := [(3, .long (yy7 ||| (bif decide ((μ.1 0 7) = 3) then (128 : Int64) else 0))), (0, .ref 0), (1, .ref (18 + 8 * s)), (2, .int (nB dr))]) (st' := [.ref 0]) (μ' := μ) (by rfl) ?_
              refine zq_gfi hc hH (by rfl) (ci := 5) (f := 7) (by rfl) (by decide +kernel) (by rfl) ?_
              refine z_rcs hc hH 1 (pc' := 87) (lv' := [(3, .long (yy7 ||| (bif decide ((μ.1 0 7) = 3) then (128 : Int64) else 0))), (0, .ref 0), (1, .ref (18 + 8 * s)), (2, .int (nB dr))]) (st' := [.int 2, .int (μ.1 0 7)]) (μ' := μ) (by rfl) ?_
              refine zq_ic hc hH (by rfl) (tg := 96) (by rfl) (fun h17 => ?_) (fun h17 => ?_)
              · have h17 : (decide ((μ.1 0 7) = 2)) = false := decide_eq_false (cm_ne.mp h17)
                exact zJ hJ9 (by first | with_reducible rfl | (simp only [h16, h17, lb_f, Int64.or_zero, Int32.add_zero, nB_t, nB_f, Bool.not_true, Bool.not_false, Bool.and_true, Bool.true_and, Bool.false_and, Bool.and_false, Bool.or_true, Bool.true_or, Bool.false_or, Bool.or_false, cond_true, cond_false]; done) | rfl) rfl rfl
              · have h17 : (decide ((μ.1 0 7) = 2)) = true := decide_eq_true (cn_ne.mp h17)
                refine z_rcs hc hH 4 (pc' := 96) (lv' := [(3, .long ((yy7 ||| (bif decide ((μ.1 0 7) = 3) then (128 : Int64) else 0)) ||| 32)), (0, .ref 0), (1, .ref (18 + 8 * s)), (2, .int (nB dr))]) (st' := []) (μ' := μ) (by rfl) ?_
                exact zJ hJ9 (by first | with_reducible rfl | (simp only [h16, h17, lb_f, Int64.or_zero, Int32.add_zero, nB_t, nB_f, Bool.not_true, Bool.not_false, Bool.and_true, Bool.true_and, Bool.false_and, Bool.and_false, Bool.or_true, Bool.true_or, Bool.false_or, Bool.or_false, cond_true, cond_false]; done) | rfl) rfl rfl
          refine zq_ic hc hH (by rfl) (tg := 72) (by rfl) (fun h18 => ?_) (fun h18 => ?_)
          · have h18 : (decide ((μ.1 0 7) = 3)) = false := decide_eq_false (cm_ne.mp h18)
            exact zJ hJ8 (by first | with_reducible rfl | (simp only [h18, lb_f, Int64.or_zero, Int32.add_zero, nB_t, nB_f, Bool.not_true, Bool.not_false, Bool.and_true, Bool.true_and, Bool.false_and, Bool.and_false, Bool.or_true, Bool.true_or, Bool.false_or, Bool.or_false, cond_true, cond_false]; done) | rfl) rfl rfl
          · have h18 : (decide ((μ.1 0 7) = 3)) = true := decide_eq_true (cn_ne.mp h18)
            refine z_rcs hc hH 4 (pc' := 72) (lv' := [(3, .long (yy7 ||| 128)), (0, .ref 0), (1, .ref (18 + 8 * s)), (2, .int (nB dr))]) (st' := []) (μ' := μ) (by rfl) ?_
            exact zJ hJ8 (by first | with_reducible rfl | (simp only [h18, lb_f, Int64.or_zero, Int32.add_zero, nB_t, nB_f, Bool.not_true, Bool.not_false, Bool.and_true, Bool.true_and, Bool.false_and, Bool.and_false, Bool.or_true, Bool.true_or, Bool.false_or, Bool.or_false, cond_true, cond_false]; done) | rfl) rfl rfl
        refine zq_if hc hH (by rfl) (tg := 58) (by rfl) (fun h19 => ?_) (fun h19 => ?_)
        · have h19 : (dr) = false := nB_z.mp (cm_eq9.mp h19)
          exact zJ hJ6 (by first | with_reducible rfl | (simp only [h19, lb_f, Int64.or_zero, Int32.add_zero, nB_t, nB_f, Bool.not_true, Bool.not_false, Bool.and_true, Bool.true_and, Bool.false_and, Bool.and_false, Bool.or_true, Bool.true_or, Bool.false_or, Bool.or_false, cond_true, cond_false]; done) | rfl) rfl rfl
        · have h19 : (dr) = true := nB_n.mp (cn_eq.mp h19)
          refine z_rcs hc hH 1 (pc' := 46) (lv' := [(3, .long yy5), (0, .ref 0), (1, .ref (18 + 8 * s)), (2, .int (nB dr))]) (st' := [.ref 0]) (μ' := μ) (by rfl) ?_
          refine zq_gfi hc hH (by rfl) (ci := 5) (f := 16) (by rfl) (by decide +kernel) (by rfl) ?_
          refine zq_if hc hH (by rfl) (tg := 58) (by rfl) (fun h20 => ?_) (fun h20 => ?_)
          · have h20 : (decide ((μ.1 0 16) = 0)) = true := decide_eq_true (cm_eq9.mp h20)
            exact zJ hJ6 (by first | with_reducible rfl | (simp only [h19, h20, lb_f, Int64.or_zero, Int32.add_zero, nB_t, nB_f, Bool.not_true, Bool.not_false, Bool.and_true, Bool.true_and, Bool.false_and, Bool.and_false, Bool.or_true, Bool.true_or, Bool.false_or, Bool.or_false, cond_true, cond_false]; done) | rfl) rfl rfl
          · have h20 : (decide ((μ.1 0 16) = 0)) = false := decide_eq_false (cn_eq.mp h20)
            refine z_rcs hc hH 4 (pc' := 58) (lv' := [(3, .long (yy5 ||| 64)), (0, .ref 0), (1, .ref (18 + 8 * s)), (2, .int (nB dr))]) (st' := []) (μ' := μ) (by rfl) ?_
            exact zJ hJ6 (by first | with_reducible rfl | (simp only [h19, h20, lb_f, Int64.or_zero, Int32.add_zero, nB_t, nB_f, Bool.not_true, Bool.not_false, Bool.and_true, Bool.true_and, Bool.false_and, Bool.and_false, Bool.or_true, Bool.true_or, Bool.false_or, Bool.or_false, cond_true, cond_false]; done) | rfl) rfl rfl
      refine zq_if hc hH (by rfl) (tg := 41) (by rfl) (fun h21 => ?_) (fun h21 => ?_)
      · have h21 : (decide ((μ.1 (18 + 8 * s) 7) = 0)) = true := decide_eq_true (cm_eq9.mp h21)
        exact zJ hJ4 (by first | with_reducible rfl | (simp only [h21, lb_f, Int64.or_zero, Int32.add_zero, nB_t, nB_f, Bool.not_true, Bool.not_false, Bool.and_true, Bool.true_and, Bool.false_and, Bool.and_false, Bool.or_true, Bool.true_or, Bool.false_or, Bool.or_false, cond_true, cond_false]; done) | rfl) rfl rfl
      · have h21 : (decide ((μ.1 (18 + 8 * s) 7) = 0)) = false := decide_eq_false (cn_eq.mp h21)
        refine z_rcs hc hH 4 (pc' := 41) (lv' := [(3, .long (yy3 ||| 4)), (0, .ref 0), (1, .ref (18 + 8 * s)), (2, .int (nB dr))]) (st' := []) (μ' := μ) (by rfl) ?_
        exact zJ hJ4 (by first | with_reducible rfl | (simp only [h21, lb_f, Int64.or_zero, Int32.add_zero, nB_t, nB_f, Bool.not_true, Bool.not_false, Bool.and_true, Bool.true_and, Bool.false_and, Bool.and_false, Bool.or_true, Bool.true_or, Bool.false_or, Bool.or_false, cond_true, cond_false]; done) | rfl) rfl rfl
    refine zq_ic hc hH (by rfl) (tg := 28) (by rfl) (fun h22 => ?_) (fun h22 => ?_)
    · have h22 : (decide ((μ.1 (18 + 8 * s) 5) = 2)) = false := decide_eq_false (cm_ne.mp h22)
      exact zJ hJ2 (by first | with_reducible rfl | (simp only [h22, lb_f, Int64.or_zero, Int32.add_zero, nB_t, nB_f, Bool.not_true, Bool.not_false, Bool.and_true, Bool.true_and, Bool.false_and, Bool.and_false, Bool.or_true, Bool.true_or, Bool.false_or, Bool.or_false, cond_true, cond_false]; done) | rfl) rfl rfl
    · have h22 : (decide ((μ.1 (18 + 8 * s) 5) = 2)) = true := decide_eq_true (cn_ne.mp h22)
      refine z_rcs hc hH 4 (pc' := 28) (lv' := [(3, .long ((0 ||| (bif decide ((μ.1 (18 + 8 * s) 5) = 1) then (1 : Int64) else 0)) ||| 2)), (0, .ref 0), (1, .ref (18 + 8 * s)), (2, .int (nB dr))]) (st' := []) (μ' := μ) (by rfl) ?_
      exact zJ hJ2 (by first | with_reducible rfl | (simp only [h22, lb_f, Int64.or_zero, Int32.add_zero, nB_t, nB_f, Bool.not_true, Bool.not_false, Bool.and_true, Bool.true_and, Bool.false_and, Bool.and_false, Bool.or_true, Bool.true_or, Bool.false_or, Bool.or_false, cond_true, cond_false]; done) | rfl) rfl rfl
  refine zq_ic hc hH (by rfl) (tg := 14) (by rfl) (fun h23 => ?_) (fun h23 => ?_)
  · have h23 : (decide ((μ.1 (18 + 8 * s) 5) = 1)) = false := decide_eq_false (cm_ne.mp h23)
    exact zJ hJ1 (by first | with_reducible rfl | (simp only [h23, lb_f, Int64.or_zero, Int32.add_zero, nB_t, nB_f, Bool.not_true, Bool.not_false, Bool.and_true, Bool.true_and, Bool.false_and, Bool.and_false, Bool.or_true, Bool.true_or, Bool.false_or, Bool.or_false, cond_true, cond_false]; done) | rfl) rfl rfl
  · have h23 : (decide ((μ.1 (18 + 8 * s) 5) = 1)) = true := decide_eq_true (cn_ne.mp h23)
    refine z_rcs hc hH 4 (pc' := 14) (lv' := [(3, .long (0 ||| 1)), (0, .ref 0), (1, .ref (18 + 8 * s)), (2, .int (nB dr))]) (st' := []) (μ' := μ) (by rfl) ?_
    exact zJ hJ1 (by first | with_reducible rfl | (simp only [h23, lb_f, Int64.or_zero, Int32.add_zero, nB_t, nB_f, Bool.not_true, Bool.not_false, Bool.and_true, Bool.true_and, Bool.false_and, Bool.and_false, Bool.or_true, Bool.true_or, Bool.false_or, Bool.or_false, cond_true, cond_false]; done) | rfl) rfl rfl
theorem gc_firstDraw (d : Nat) (hd : 3 ≤ d) (μ : zM) (s : Nat) (hs4 : s < 4) (dr : Bool) : z_C d mi_X6_firstDraw [.ref 0, .int (nI s), .int (nB dr)] μ (zR μ (.long (bif dr then bif decide ((μ.1 0 17) = 0) then bif decide ((μ.1 (18 + 8 * s) 2) ≤ 0) then 1 <<< ((bif decide ((nI s) = (μ.1 0 9)) then (42 : Int32) else 43).toInt64 &&& 63) else 0 else 0 else 0))) := by
  refine z_C_in (by decide) (by omega) (fun d' Z ed hc hr => ?_)
  have hH : zH mi_X6_firstDraw zt_X6_firstDraw 79 6 3 := hh_X6_firstDraw
  refine z_rcs hc hH 1 (pc' := 1) (lv' := [(0, .ref 0), (1, .int (nI s)), (2, .int (nB dr))]) (st' := [.int (nB dr)]) (μ' := μ) (by rfl) ?_
  refine zq_if hc hH (by rfl) (tg := 22) (by rfl) (fun h1 => ?_) (fun h1 => ?_)
  · have h1 : (dr) = false := nB_z.mp (cm_eq9.mp h1)
    refine z_rcs hc hH 1 (pc' := 23) (lv' := [(0, .ref 0), (1, .int (nI s)), (2, .int (nB dr))]) (st' := [.long 0]) (μ' := μ) (by rfl) ?_
    exact hr 0 23 _ _ _ (some (.long 0)) (by decide +kernel) (z_rx_ok hH (by rfl)) (⟨rfl, (by simp only [h1, lb_f, Int64.or_zero, Int32.add_zero, nB_t, nB_f, Bool.not_true, Bool.not_false, Bool.and_true, Bool.true_and, Bool.false_and, Bool.and_false, Bool.or_true, Bool.true_or, Bool.false_or, Bool.or_false, cond_true, cond_false])⟩)
  · have h1 : (dr) = true := nB_n.mp (cn_eq.mp h1)
    refine z_rcs hc hH 1 (pc' := 5) (lv' := [(0, .ref 0), (1, .int (nI s)), (2, .int (nB dr))]) (st' := [.ref 0]) (μ' := μ) (by rfl) ?_
    refine zq_gfi hc hH (by rfl) (ci := 5) (f := 17) (by rfl) (by decide +kernel) (by rfl) ?_
    refine zq_if hc hH (by rfl) (tg := 22) (by rfl) (fun h2 => ?_) (fun h2 => ?_)
    · have h2 : (decide ((μ.1 0 17) = 0)) = false := decide_eq_false (cm_ne.mp h2)
      refine z_rcs hc hH 1 (pc' := 23) (lv' := [(0, .ref 0), (1, .int (nI s)), (2, .int (nB dr))]) (st' := [.long 0]) (μ' := μ) (by rfl) ?_
      exact hr 0 23 _ _ _ (some (.long 0)) (by decide +kernel) (z_rx_ok hH (by rfl)) (⟨rfl, (by simp only [h1, h2, lb_f, Int64.or_zero, Int32.add_zero, nB_t, nB_f, Bool.not_true, Bool.not_false, Bool.and_true, Bool.true_and, Bool.false_and, Bool.and_false, Bool.or_true, Bool.true_or, Bool.false_or, Bool.or_false, cond_true, cond_false])⟩)
    · have h2 : (decide ((μ.1 0 17) = 0)) = true := decide_eq_true (cn_ne.mp h2)
      refine z_rcs hc hH 2 (pc' := 13) (lv' := [(0, .ref 0), (1, .int (nI s)), (2, .int (nB dr))]) (st' := [.int (nI s), .ref 0]) (μ' := μ) (by rfl) ?_
      refine zq_call hc (z_cx_ok hH (by rfl)) (gc_at4 d' (by omega) μ s hs4) (by decide +kernel) (fun r9 μ9 hq => ?_)
      obtain ⟨hμ9, rfl⟩ := hq
      rw [hμ9]
      clear hμ9 μ9
      show Z 0 16 [(0, .ref 0), (1, .int (nI s)), (2, .int (nB dr))] [.ref (18 + 8 * s)] μ
      refine zq_gfi hc hH (by rfl) (ci := 1) (f := 2) (by rfl) (sj (P := fun i => okf 79 1 2 (18 + 8 * i)) hs4 (by decide +kernel)) (by rfl) ?_
      refine zq_if hc hH (by rfl) (tg := 24) (by rfl) (fun h3 => ?_) (fun h3 => ?_)
      · have h3 : (decide ((μ.1 (18 + 8 * s) 2) ≤ 0)) = true := decide_eq_true (cm_le.mp h3)
        refine z_rcs hc hH 3 (pc' := 27) (lv' := [(0, .ref 0), (1, .int (nI s)), (2, .int (nB dr))]) (st' := [.ref 0, .int (nI s), .long 1]) (μ' := μ) (by rfl) ?_
        refine zq_gfi hc hH (by rfl) (ci := 5) (f := 9) (by rfl) (by decide +kernel) (by rfl) ?_
        have hJ4 : Z 0 40 [(0, .ref 0), (1, .int (nI s)), (2, .int (nB dr))] [.int (bif decide ((nI s) = (μ.1 0 9)) then (42 : Int32) else 43), .long 1] μ := by
          refine z_rcs hc hH 1 (pc' := 41) (lv' := [(0, .ref 0), (1, .int (nI s)), (2, .int (nB dr))]) (st' := [.long (1 <<< ((bif decide ((nI s) = (μ.1 0 9)) then (42 : Int32) else 43).toInt64 &&& 63))]) (μ' := μ) (by rfl) ?_
          exact hr 0 41 _ _ _ (some (.long (1 <<< ((bif decide ((nI s) = (μ.1 0 9)) then (42 : Int32) else 43).toInt64 &&& 63)))) (by decide +kernel) (z_rx_ok hH (by rfl)) (⟨rfl, (by simp only [h1, h2, h3, lb_f, Int64.or_zero, Int32.add_zero, nB_t, nB_f, Bool.not_true, Bool.not_false, Bool.and_true, Bool.true_and, Bool.false_and, Bool.and_false, Bool.or_true, Bool.true_or, Bool.false_or, Bool.or_false, cond_true, cond_false])⟩)
        refine zq_ic hc hH (by rfl) (tg := 38) (by rfl) (fun h5 => ?_) (fun h5 => ?_)
        · have h5 : (decide ((nI s) = (μ.1 0 9))) = false := decide_eq_false (cm_ne.mp h5)
          refine z_rcs hc hH 1 (pc' := 40) (lv' := [(0, .ref 0), (1, .int (nI s)), (2, .int (nB dr))]) (st' := [.int 43, .long 1]) (μ' := μ) (by rfl) ?_
          exact zJ hJ4 rfl (by first | with_reducible rfl | (simp only [h5, lb_f, Int64.or_zero, Int32.add_zero, nB_t, nB_f, Bool.not_true, Bool.not_false, Bool.and_true, Bool.true_and, Bool.false_and, Bool.and_false, Bool.or_true, Bool.true_or, Bool.false_or, Bool.or_false, cond_true, cond_false]; done) | rfl) rfl
        · have h5 : (decide ((nI s) = (μ.1 0 9))) = true := decide_eq_true (cn_ne.mp h5)
          refine z_rcs hc hH 2 (pc' := 40) (lv' := [(0, .ref 0), (1, .int (nI s)), (2, .int (nB dr))]) (st' := [.int 42, .long 1]) (μ' := μ) (by rfl) ?_
          exact zJ hJ4 rfl (by first | with_reducible rfl | (simp only [h5, lb_f, Int64.or_zero, Int32.add_zero, nB_t, nB_f, Bool.not_true, Bool.not_false, Bool.and_true, Bool.true_and, Bool.false_and, Bool.and_false, Bool.or_true, Bool.true_or, Bool.false_or, Bool.or_false, cond_true, cond_false]; done) | rfl) rfl
      · have h3 : (decide ((μ.1 (18 + 8 * s) 2) ≤ 0)) = false := decide_eq_false (cn_le.mp h3)
        refine z_rcs hc hH 1 (pc' := 23) (lv' := [(0, .ref 0), (1, .int (nI s)), (2, .int (nB dr))]) (st' := [.long 0]) (μ' := μ) (by rfl) ?_
        exact hr 0 23 _ _ _ (some (.long 0)) (by decide +kernel) (z_rx_ok hH (by rfl)) (⟨rfl, (by simp only [h1, h2, h3, lb_f, Int64.or_zero, Int32.add_zero, nB_t, nB_f, Bool.not_true, Bool.not_false, Bool.and_true, Bool.true_and, Bool.false_and, Bool.and_false, Bool.or_true, Bool.true_or, Bool.false_or, Bool.or_false, cond_true, cond_false])⟩)
/-! the game: tiles and wall of the class, exactly -/
set_option maxRecDepth 8000
theorem inOf2 {x m : Int32} {n : Nat} (hm : m.toInt = (n : Int)) (h1 : decide (x < 0) = false) (h2 : decide (m ≤ x) = false) : vp_in x n := in_of hm (of_decide_eq_false h1) (of_decide_eq_false h2)
theorem gc_kindAt (d : Nat) (hd : 1 ≤ d) (μ : zM) (x : Int32) : z_C d mi_X4_kindAt [.ref 2, .int x] μ (zR μ (.int (bif decide ((μ.1 2 1) = 0) then (-1 : Int32) else bif decide (x < 0) then (-1 : Int32) else bif decide (136 ≤ x) then (-1 : Int32) else μ.1 3 x.toNatClampNeg))) := by
  refine z_C_in (by decide) (by omega) (fun d' Z ed hc hr => ?_)
  have hH : zH mi_X4_kindAt zt_X4_kindAt 79 4 2 := hh_X4_kindAt
  refine z_rcs hc hH 1 (pc' := 1) (lv' := [(0, .ref 2), (1, .int x)]) (st' := [.ref 2]) (μ' := μ) (by rfl) ?_
  refine zq_gfi hc hH (by rfl) (ci := 3) (f := 1) (by rfl) (by decide +kernel) (by rfl) ?_
  have hJ1 : Z 0 28 [(0, .ref 2), (1, .int x)] [.int (bif decide ((μ.1 2 1) = 0) then (-1 : Int32) else bif decide (x < 0) then (-1 : Int32) else bif decide (136 ≤ x) then (-1 : Int32) else μ.1 3 x.toNatClampNeg)] μ := by
    generalize hyy2 : (bif decide ((μ.1 2 1) = 0) then (-1 : Int32) else bif decide (x < 0) then (-1 : Int32) else bif decide (136 ≤ x) then (-1 : Int32) else μ.1 3 x.toNatClampNeg : Int32) = yy2
    exact hr 0 28 _ _ _ (some (.int yy2)) (by decide +kernel) (z_rx_ok hH (by rfl)) (⟨rfl, (by subst hyy2; rfl)⟩)
  refine zq_if hc hH (by rfl) (tg := 27) (by rfl) (fun h3 => ?_) (fun h3 => ?_)
  · have h3 : (decide ((μ.1 2 1) = 0)) = true := decide_eq_true (cm_eq9.mp h3)
    refine z_rcs hc hH 1 (pc' := 28) (lv' := [(0, .ref 2), (1, .int x)]) (st' := [.int (-1)]) (μ' := μ) (by rfl) ?_
    exact zJ hJ1 rfl (by first | with_reducible rfl | (simp only [h3, lb_f, Int64.or_zero, Int32.add_zero, nB_t, nB_f, Bool.not_true, Bool.not_false, Bool.and_true, Bool.true_and, Bool.false_and, Bool.and_false, Bool.or_true, Bool.true_or, Bool.false_or, Bool.or_false, cond_true, cond_false]; done) | rfl) rfl
  · have h3 : (decide ((μ.1 2 1) = 0)) = false := decide_eq_false (cn_eq.mp h3)
    refine z_rcs hc hH 1 (pc' := 8) (lv' := [(0, .ref 2), (1, .int x)]) (st' := [.int x]) (μ' := μ) (by rfl) ?_
    refine zq_if hc hH (by rfl) (tg := 27) (by rfl) (fun h4 => ?_) (fun h4 => ?_)
    · have h4 : (decide (x < 0)) = true := decide_eq_true (cm_lt.mp h4)
      refine z_rcs hc hH 1 (pc' := 28) (lv' := [(0, .ref 2), (1, .int x)]) (st' := [.int (-1)]) (μ' := μ) (by rfl) ?_
      exact zJ hJ1 rfl (by first | with_reducible rfl | (simp only [h3, h4, lb_f, Int64.or_zero, Int32.add_zero, nB_t, nB_f, Bool.not_true, Bool.not_false, Bool.and_true, Bool.true_and, Bool.false_and, Bool.and_false, Bool.or_true, Bool.true_or, Bool.false_or, Bool.or_false, cond_true, cond_false]; done) | rfl) rfl
    · have h4 : (decide (x < 0)) = false := decide_eq_false (cn_lt.mp h4)
      refine z_rcs hc hH 2 (pc' := 15) (lv' := [(0, .ref 2), (1, .int x)]) (st' := [.int 136, .int x]) (μ' := μ) (by rfl) ?_
      refine zq_ic hc hH (by rfl) (tg := 27) (by rfl) (fun h5 => ?_) (fun h5 => ?_)
      · have h5 : (decide (136 ≤ x)) = true := decide_eq_true (cm_ge.mp h5)
        refine z_rcs hc hH 1 (pc' := 28) (lv' := [(0, .ref 2), (1, .int x)]) (st' := [.int (-1)]) (μ' := μ) (by rfl) ?_
        exact zJ hJ1 rfl (by first | with_reducible rfl | (simp only [h3, h4, h5, lb_f, Int64.or_zero, Int32.add_zero, nB_t, nB_f, Bool.not_true, Bool.not_false, Bool.and_true, Bool.true_and, Bool.false_and, Bool.and_false, Bool.or_true, Bool.true_or, Bool.false_or, Bool.or_false, cond_true, cond_false]; done) | rfl) rfl
      · have h5 : (decide (136 ≤ x)) = false := decide_eq_false (cn_ge.mp h5)
        refine z_rcs hc hH 1 (pc' := 19) (lv' := [(0, .ref 2), (1, .int x)]) (st' := [.ref 2]) (μ' := μ) (by rfl) ?_
        refine zq_gfr hc hH (by rfl) (ci := 3) (f := 0) (q := 3) (by rfl) (by decide +kernel) (by rfl) (by decide +kernel) ?_
        refine z_rcs hc hH 1 (pc' := 23) (lv' := [(0, .ref 2), (1, .int x)]) (st' := [.int x, .ref 3]) (μ' := μ) (by rfl) ?_
        refine zq_iald hc hH (by rfl) 136 (oka_i (by decide +kernel)) (inOf2 (n := 136) rfl h4 h5) ?_
        refine z_rcs hc hH 1 (pc' := 28) (lv' := [(0, .ref 2), (1, .int x)]) (st' := [.int (μ.1 3 x.toNatClampNeg)]) (μ' := μ) (by rfl) ?_
        exact zJ hJ1 rfl (by first | with_reducible rfl | (simp only [h3, h4, h5, lb_f, Int64.or_zero, Int32.add_zero, nB_t, nB_f, Bool.not_true, Bool.not_false, Bool.and_true, Bool.true_and, Bool.false_and, Bool.and_false, Bool.or_true, Bool.true_or, Bool.false_or, Bool.or_false, cond_true, cond_false]; done) | rfl) rfl
theorem gc_kindAtN (d : Nat) (hd : 1 ≤ d) (μ : zM) (p : Nat) (hp : p < 136) (h1 : μ.1 2 1 = 1) : z_C d mi_X4_kindAt [.ref 2, .int (nI p)] μ (zR μ (.int (μ.1 3 p))) := by
  have z := gc_kindAt d hd μ (nI p)
  have e1 : (nI p).toInt = (p : Int) := nI_toInt (by omega)
  have a1 : decide (nI p < 0) = false := decide_eq_false (by rw [Int32.lt_iff_toInt_lt, e1, show (0 : Int32).toInt = 0 from rfl]; omega)
  have a2 : decide ((136 : Int32) ≤ nI p) = false := decide_eq_false (by rw [Int32.le_iff_toInt_le, e1, show (136 : Int32).toInt = 136 from rfl]; omega)
  have a3 : decide ((1 : Int32) = 0) = false := by decide
  have e2 : (nI p).toNatClampNeg = p := nI_clamp (by omega)
  rw [h1, a1, a2, a3, e2] at z
  exact z
theorem gc_isKindN (d : Nat) (hd : 1 ≤ d) (μ : zM) (k : Nat) (hk : k < 34) : z_C d mi_X6_isKind [.int (nI k)] μ (zR μ (.int 1)) := by
  refine z_C_mono (fc_X6_isKind d hd μ (nI k)) (fun r μ' z => ⟨z.1, ?_⟩)
  rcases z.2 with ⟨h, _⟩ | ⟨_, h⟩
  · exact h
  · exact absurd (vp_in_nI hk (by decide)) h
noncomputable def pS (μ : zM) (j k : Nat) (n : Int32) : zM := z_ui (z_ui (z_ui μ (20 + 8 * j) k ((μ.1 (20 + 8 * j) k) + n)) (21 + 8 * j) k ((μ.1 (21 + 8 * j) k) + n)) (19 + 8 * j) 5 ((μ.1 (19 + 8 * j) 5) + n)
theorem gc_put (d : Nat) (hd : 2 ≤ d) (μ : zM) (j : Nat) (hj : j < 4) (k : Nat) (hk : k < 34) (n : Int32) : z_C d mi_X3_put [.ref (19 + 8 * j), .int (nI k), .int n] μ (fun r μ' => r = none ∧ μ' = pS μ j k n) := by
  refine z_C_in (by decide) (by omega) (fun d' Z ed hc hr => ?_)
  have hH : zH mi_X3_put zt_X3_put 79 3 3 := hh_X3_put
  refine z_rcs hc hH 1 (pc' := 1) (lv' := [(0, .ref (19 + 8 * j)), (1, .int (nI k)), (2, .int n)]) (st' := [.int (nI k)]) (μ' := μ) (by rfl) ?_
  refine zq_call hc (z_cx_ok hH (by rfl)) (gc_isKindN d' (by omega) μ k hk) (by decide +kernel) (fun r9 μ9 hq => ?_)
  obtain ⟨hμ9, rfl⟩ := hq
  rw [hμ9]
  clear hμ9 μ9
  show Z 0 4 [(0, .ref (19 + 8 * j)), (1, .int (nI k)), (2, .int n)] [.int 1] μ
  refine z_rcs hc hH 2 (pc' := 8) (lv' := [(0, .ref (19 + 8 * j)), (1, .int (nI k)), (2, .int n)]) (st' := [.ref (19 + 8 * j)]) (μ' := μ) (by rfl) ?_
  refine zq_gfr hc hH (by rfl) (ci := 2) (f := 0) (q := 20 + 8 * j) (by rfl) (sj (P := fun i => okf 79 2 0 (19 + 8 * i)) hj (by decide +kernel)) (by rfl) (sj (P := fun i => Nat.beq (z_gr (19 + 8 * i) 0) (20 + 8 * i)) hj (by decide +kernel)) ?_
  refine z_rcs hc hH 2 (pc' := 13) (lv' := [(0, .ref (19 + 8 * j)), (1, .int (nI k)), (2, .int n)]) (st' := [.int (nI k), .ref (20 + 8 * j), .int (nI k), .ref (20 + 8 * j)]) (μ' := μ) (by rfl) ?_
  refine zq_iald hc hH (by rfl) 34 (oka_i (sj (P := fun i => oka 79 1 34 (20 + 8 * i)) hj (by decide +kernel))) (vp_in_nI (by omega) (by decide)) ?_
  rw [nI_clamp (by omega)]
  refine z_rcs hc hH 2 (pc' := 16) (lv' := [(0, .ref (19 + 8 * j)), (1, .int (nI k)), (2, .int n)]) (st' := [.int ((μ.1 (20 + 8 * j) k) + n), .int (nI k), .ref (20 + 8 * j)]) (μ' := μ) (by rfl) ?_
  refine zq_iast hc hH (by rfl) 34 (oka_i (sj (P := fun i => oka 79 1 34 (20 + 8 * i)) hj (by decide +kernel))).2 (vp_in_nI (by omega) (by decide)) ?_
  rw [nI_clamp (by omega)]
  show Z 0 17 [(0, .ref (19 + 8 * j)), (1, .int (nI k)), (2, .int n)] [] (z_ui μ (20 + 8 * j) k ((μ.1 (20 + 8 * j) k) + n))
  refine z_rcs0 hc hH 1 (pc' := 18) (lv' := [(0, .ref (19 + 8 * j)), (1, .int (nI k)), (2, .int n)]) (st' := [.ref (19 + 8 * j)]) (by rfl) ?_
  refine zq_gfr hc hH (by rfl) (ci := 2) (f := 1) (q := 21 + 8 * j) (by rfl) (sj (P := fun i => okf 79 2 1 (19 + 8 * i)) hj (by decide +kernel)) (by rfl) (sj (P := fun i => Nat.beq (z_gr (19 + 8 * i) 1) (21 + 8 * i)) hj (by decide +kernel)) ?_
  refine z_rcs0 hc hH 2 (pc' := 23) (lv' := [(0, .ref (19 + 8 * j)), (1, .int (nI k)), (2, .int n)]) (st' := [.int (nI k), .ref (21 + 8 * j), .int (nI k), .ref (21 + 8 * j)]) (by rfl) ?_
  refine zq_iald hc hH (by rfl) 34 (oka_i (sj (P := fun i => oka 79 1 34 (21 + 8 * i)) hj (by decide +kernel))) (vp_in_nI (by omega) (by decide)) ?_
  rw [nI_clamp (by omega)]
  refine zV1 (Z := Z) (ui_o (by first | decide | omega)) ?_
  refine z_rcs0 hc hH 2 (pc' := 26) (lv' := [(0, .ref (19 + 8 * j)), (1, .int (nI k)), (2, .int n)]) (st' := [.int ((μ.1 (21 + 8 * j) k) + n), .int (nI k), .ref (21 + 8 * j)]) (by rfl) ?_
  refine zq_iast hc hH (by rfl) 34 (oka_i (sj (P := fun i => oka 79 1 34 (21 + 8 * i)) hj (by decide +kernel))).2 (vp_in_nI (by omega) (by decide)) ?_
  rw [nI_clamp (by omega)]
  show Z 0 27 [(0, .ref (19 + 8 * j)), (1, .int (nI k)), (2, .int n)] [] (z_ui (z_ui μ (20 + 8 * j) k ((μ.1 (20 + 8 * j) k) + n)) (21 + 8 * j) k ((μ.1 (21 + 8 * j) k) + n))
  refine z_rcs0 hc hH 2 (pc' := 29) (lv' := [(0, .ref (19 + 8 * j)), (1, .int (nI k)), (2, .int n)]) (st' := [.ref (19 + 8 * j), .ref (19 + 8 * j)]) (by rfl) ?_
  refine zq_gfi hc hH (by rfl) (ci := 2) (f := 5) (by rfl) (sj (P := fun i => okf 79 2 5 (19 + 8 * i)) hj (by decide +kernel)) (by rfl) ?_
  refine zV1 (Z := Z) (Eq.trans (ui_o (by first | decide | omega)) (ui_o (by first | decide | omega))) ?_
  refine z_rcs0 hc hH 2 (pc' := 34) (lv' := [(0, .ref (19 + 8 * j)), (1, .int (nI k)), (2, .int n)]) (st' := [.int ((μ.1 (19 + 8 * j) 5) + n), .ref (19 + 8 * j)]) (by rfl) ?_
  refine zq_pfi hc hH (by rfl) (ci := 2) (f := 5) (by rfl) (sj (P := fun i => okf 79 2 5 (19 + 8 * i)) hj (by decide +kernel)) (by rfl) ?_
  show Z 0 37 [(0, .ref (19 + 8 * j)), (1, .int (nI k)), (2, .int n)] [] (z_ui (z_ui (z_ui μ (20 + 8 * j) k ((μ.1 (20 + 8 * j) k) + n)) (21 + 8 * j) k ((μ.1 (21 + 8 * j) k) + n)) (19 + 8 * j) 5 ((μ.1 (19 + 8 * j) 5) + n))
  exact hr 0 37 _ _ _ none (by decide +kernel) (by rfl) (⟨rfl, rfl⟩)
theorem gc_take (d : Nat) (hd : 3 ≤ d) (μ : zM) (j : Nat) (hj : j < 4) (k : Nat) (hk : k < 34) (n : Int32) : z_C d mi_X3_take [.ref (19 + 8 * j), .int (nI k), .int n] μ (fun r μ' => r = none ∧ μ' = pS μ j k (-n)) := by
  refine z_C_in (by decide) (by omega) (fun d' Z ed hc hr => ?_)
  have hH : zH mi_X3_take zt_X3_take 79 3 3 := hh_X3_take
  refine z_rcs hc hH 4 (pc' := 4) (lv' := [(0, .ref (19 + 8 * j)), (1, .int (nI k)), (2, .int n)]) (st' := [.int (-n), .int (nI k), .ref (19 + 8 * j)]) (μ' := μ) (by rfl) ?_
  refine zq_call hc (z_clv9 hH (by rfl) (by rfl) (by rfl) (by rfl) (sj (P := fun i => okr 79 2 (19 + 8 * i)) hj (by decide +kernel)) (by rfl) (by rfl)) (gc_put d' (by omega) μ j hj k hk (-n)) (by decide +kernel) (fun r9 μ9 hq => ?_)
  obtain ⟨rfl, rfl⟩ := hq
  show Z 0 7 [(0, .ref (19 + 8 * j)), (1, .int (nI k)), (2, .int n)] [] (pS μ j k (-n))
  exact hr 0 7 _ _ _ none (by decide +kernel) (by rfl) (⟨rfl, rfl⟩)
/-! the game: drawing, throwing, exactly -/
set_option maxRecDepth 8000
theorem pS_o {μ : zM} {j k r k' : Nat} {n : Int32} (h : r ≠ 19 + 8 * j ∧ r ≠ 20 + 8 * j ∧ r ≠ 21 + 8 * j) : (pS μ j k n).1 r k' = μ.1 r k' := by
  unfold pS
  rw [ui_o h.1, ui_o h.2.2, ui_o h.2.1]
theorem pS_j {μ : zM} {j k r k' : Nat} {n : Int32} : (pS μ j k n).2.1 r k' = μ.2.1 r k' := rfl
theorem nI_s1 (n : Nat) : nI n + 1 = nI (n + 1) := by rw [show (1 : Int32) = nI 1 from rfl, nI_add]
theorem nI_p1 (n : Nat) : nI (n + 1) - 1 = nI n := by rw [← nI_s1, Int32.add_sub_cancel]
theorem nI_122 (n : Nat) : 122 + nI n = nI (122 + n) := by rw [show (122 : Int32) = nI 122 from rfl, nI_add]
theorem gc_draw (d : Nat) (hd : 2 ≤ d) (μ : zM) (n : Nat) (hn2 : n < 136) (hn : μ.1 2 2 = nI n) (h1 : μ.1 2 1 = 1) : z_C d mi_X4_draw [.ref 2] μ (fun r μ' => r = some (.int (μ.1 3 n)) ∧ μ' = z_ui μ 2 2 (nI (n + 1))) := by
  refine z_C_in (by decide) (by omega) (fun d' Z ed hc hr => ?_)
  have hH : zH mi_X4_draw zt_X4_draw 79 4 1 := hh_X4_draw
  refine z_rcs hc hH 2 (pc' := 2) (lv' := [(0, .ref 2)]) (st' := [.ref 2, .ref 2]) (μ' := μ) (by rfl) ?_
  refine zq_gfi hc hH (by rfl) (ci := 3) (f := 2) (by rfl) (by decide +kernel) (by rfl) ?_
  rw [hn]
  refine z_rcs hc hH 2 (pc' := 7) (lv' := [(0, .ref 2)]) (st' := [.int ((nI n) + 1), .ref 2]) (μ' := μ) (by rfl) ?_
  rw [nI_s1]
  refine zq_pfi hc hH (by rfl) (ci := 3) (f := 2) (by rfl) (by decide +kernel) (by rfl) ?_
  show Z 0 10 [(0, .ref 2)] [] (z_ui μ 2 2 (nI (n + 1)))
  refine z_rcs0 hc hH 2 (pc' := 12) (lv' := [(0, .ref 2)]) (st' := [.ref 2, .ref 2]) (by rfl) ?_
  refine zq_gfi hc hH (by rfl) (ci := 3) (f := 2) (by rfl) (by decide +kernel) (by rfl) ?_
  rw [ui_s]
  refine z_rcs0 hc hH 2 (pc' := 17) (lv' := [(0, .ref 2)]) (st' := [.int ((nI (n + 1)) - 1), .ref 2]) (by rfl) ?_
  rw [nI_p1]
  refine zq_call hc (z_cx_ok hH (by rfl)) (gc_kindAtN d' (by omega) (z_ui μ 2 2 (nI (n + 1))) n (by omega) (by rw [ui_k (by first | decide | omega)]; exact h1)) (by decide +kernel) (fun r9 μ9 hq => ?_)
  obtain ⟨hμ9, rfl⟩ := hq
  rw [hμ9]
  clear hμ9 μ9
  rw [ui_o (by first | decide | omega)]
  show Z 0 20 [(0, .ref 2)] [.int (μ.1 3 n)] _
  exact hr 0 20 _ _ _ (some (.int (μ.1 3 n))) (by decide +kernel) (z_rx_ok hH (by rfl)) (⟨rfl, rfl⟩)
theorem gc_drawB (d : Nat) (hd : 2 ≤ d) (μ : zM) (n : Nat) (hn2 : n < 14) (hn : μ.1 2 3 = nI n) (h1 : μ.1 2 1 = 1) : z_C d mi_X4_drawBehindFour [.ref 2] μ (fun r μ' => r = some (.int (μ.1 3 (122 + n))) ∧ μ' = z_ui μ 2 3 (nI (n + 1))) := by
  refine z_C_in (by decide) (by omega) (fun d' Z ed hc hr => ?_)
  have hH : zH mi_X4_drawBehindFour zt_X4_drawBehindFour 79 4 1 := hh_X4_drawBehindFour
  refine z_rcs hc hH 2 (pc' := 2) (lv' := [(0, .ref 2)]) (st' := [.ref 2, .ref 2]) (μ' := μ) (by rfl) ?_
  refine zq_gfi hc hH (by rfl) (ci := 3) (f := 3) (by rfl) (by decide +kernel) (by rfl) ?_
  rw [hn]
  refine z_rcs hc hH 2 (pc' := 7) (lv' := [(0, .ref 2)]) (st' := [.int ((nI n) + 1), .ref 2]) (μ' := μ) (by rfl) ?_
  rw [nI_s1]
  refine zq_pfi hc hH (by rfl) (ci := 3) (f := 3) (by rfl) (by decide +kernel) (by rfl) ?_
  show Z 0 10 [(0, .ref 2)] [] (z_ui μ 2 3 (nI (n + 1)))
  refine z_rcs0 hc hH 3 (pc' := 14) (lv' := [(0, .ref 2)]) (st' := [.ref 2, .int 122, .ref 2]) (by rfl) ?_
  refine zq_gfi hc hH (by rfl) (ci := 3) (f := 3) (by rfl) (by decide +kernel) (by rfl) ?_
  rw [ui_s]
  refine z_rcs0 hc hH 1 (pc' := 18) (lv' := [(0, .ref 2)]) (st' := [.int (122 + (nI (n + 1))), .ref 2]) (by rfl) ?_
  rw [nI_122]
  refine z_rcs0 hc hH 2 (pc' := 20) (lv' := [(0, .ref 2)]) (st' := [.int ((nI (122 + (n + 1))) - 1), .ref 2]) (by rfl) ?_
  rw [show nI (122 + (n + 1)) - 1 = nI (122 + n) from nI_p1 (122 + n)]
  refine zq_call hc (z_cx_ok hH (by rfl)) (gc_kindAtN d' (by omega) (z_ui μ 2 3 (nI (n + 1))) (122 + n) (by omega) (by rw [ui_k (by first | decide | omega)]; exact h1)) (by decide +kernel) (fun r9 μ9 hq => ?_)
  obtain ⟨hμ9, rfl⟩ := hq
  rw [hμ9]
  clear hμ9 μ9
  rw [ui_o (by first | decide | omega)]
  show Z 0 23 [(0, .ref 2)] [.int (μ.1 3 (122 + n))] _
  exact hr 0 23 _ _ _ (some (.int (μ.1 3 (122 + n)))) (by decide +kernel) (z_rx_ok hH (by rfl)) (⟨rfl, rfl⟩)
noncomputable def bkH (μ : zM) : zM := z_ui (z_ui (z_ui (z_ui (z_ui μ 0 17 1) 18 7 0) 26 7 0) 34 7 0) 42 7 0
theorem gc_breakHand (d : Nat) (hd : 2 ≤ d) (μ : zM) : z_C d mi_X6_breakHand [.ref 0] μ (fun r μ' => r = none ∧ μ' = bkH μ ) := by
  refine z_C_in (by decide) (by omega) (fun d' Z ed hc hr => ?_)
  have hH : zH mi_X6_breakHand zt_X6_breakHand 79 6 2 := hh_X6_breakHand
  refine z_rcs hc hH 2 (pc' := 2) (lv' := [(0, .ref 0)]) (st' := [.int 1, .ref 0]) (μ' := μ) (by rfl) ?_
  refine zq_pfb hc hH (by rfl) (ci := 5) (f := 17) (by rfl) (by decide +kernel) (by rfl) (by decide) ?_
  show Z 0 5 [(0, .ref 0)] [] (z_ui μ 0 17 1)
  refine z_rcs hc hH 7 (pc' := 14) (lv' := [(1, .int 0), (0, .ref 0)]) (st' := [.int 0, .ref 0]) (μ' := z_ui μ 0 17 1) (by rfl) ?_
  refine zq_call hc (z_cx_ok hH (by rfl)) (gc_at d' (by omega) (z_ui μ 0 17 1) 0 (by decide)) (by decide +kernel) (fun r9 μ9 hq => ?_)
  obtain ⟨hμ9, rfl⟩ := hq
  rw [hμ9]
  clear hμ9 μ9
  show Z 0 17 [(1, .int 0), (0, .ref 0)] [.ref 18] (z_ui μ 0 17 1)
  refine z_rcs hc hH 1 (pc' := 18) (lv' := [(1, .int 0), (0, .ref 0)]) (st' := [.int 0, .ref 18]) (μ' := z_ui μ 0 17 1) (by rfl) ?_
  refine zq_pfb hc hH (by rfl) (ci := 1) (f := 7) (by rfl) (by decide +kernel) (by rfl) (by decide) ?_
  show Z 0 21 [(1, .int 0), (0, .ref 0)] [] (z_ui (z_ui μ 0 17 1) 18 7 0)
  refine z_rcs0 hc hH 7 (pc' := 14) (lv' := [(1, .int 1), (0, .ref 0)]) (st' := [.int 1, .ref 0]) (by rfl) ?_
  refine zq_call hc (z_cx_ok hH (by rfl)) (gc_at d' (by omega) (z_ui (z_ui μ 0 17 1) 18 7 0) 1 (by decide)) (by decide +kernel) (fun r9 μ9 hq => ?_)
  obtain ⟨hμ9, rfl⟩ := hq
  rw [hμ9]
  clear hμ9 μ9
  show Z 0 17 [(1, .int 1), (0, .ref 0)] [.ref 26] _
  refine z_rcs0 hc hH 1 (pc' := 18) (lv' := [(1, .int 1), (0, .ref 0)]) (st' := [.int 0, .ref 26]) (by rfl) ?_
  refine zq_pfb hc hH (by rfl) (ci := 1) (f := 7) (by rfl) (by decide +kernel) (by rfl) (by decide) ?_
  show Z 0 21 [(1, .int 1), (0, .ref 0)] [] (z_ui (z_ui (z_ui μ 0 17 1) 18 7 0) 26 7 0)
  refine z_rcs0 hc hH 7 (pc' := 14) (lv' := [(1, .int 2), (0, .ref 0)]) (st' := [.int 2, .ref 0]) (by rfl) ?_
  refine zq_call hc (z_cx_ok hH (by rfl)) (gc_at d' (by omega) (z_ui (z_ui (z_ui μ 0 17 1) 18 7 0) 26 7 0) 2 (by decide)) (by decide +kernel) (fun r9 μ9 hq => ?_)
  obtain ⟨hμ9, rfl⟩ := hq
  rw [hμ9]
  clear hμ9 μ9
  show Z 0 17 [(1, .int 2), (0, .ref 0)] [.ref 34] _
  refine z_rcs0 hc hH 1 (pc' := 18) (lv' := [(1, .int 2), (0, .ref 0)]) (st' := [.int 0, .ref 34]) (by rfl) ?_
  refine zq_pfb hc hH (by rfl) (ci := 1) (f := 7) (by rfl) (by decide +kernel) (by rfl) (by decide) ?_
  show Z 0 21 [(1, .int 2), (0, .ref 0)] [] (z_ui (z_ui (z_ui (z_ui μ 0 17 1) 18 7 0) 26 7 0) 34 7 0)
  refine z_rcs0 hc hH 7 (pc' := 14) (lv' := [(1, .int 3), (0, .ref 0)]) (st' := [.int 3, .ref 0]) (by rfl) ?_
  refine zq_call hc (z_cx_ok hH (by rfl)) (gc_at d' (by omega) (z_ui (z_ui (z_ui (z_ui μ 0 17 1) 18 7 0) 26 7 0) 34 7 0) 3 (by decide)) (by decide +kernel) (fun r9 μ9 hq => ?_)
  obtain ⟨hμ9, rfl⟩ := hq
  rw [hμ9]
  clear hμ9 μ9
  show Z 0 17 [(1, .int 3), (0, .ref 0)] [.ref 42] _
  refine z_rcs0 hc hH 1 (pc' := 18) (lv' := [(1, .int 3), (0, .ref 0)]) (st' := [.int 0, .ref 42]) (by rfl) ?_
  refine zq_pfb hc hH (by rfl) (ci := 1) (f := 7) (by rfl) (by decide +kernel) (by rfl) (by decide) ?_
  show Z 0 21 [(1, .int 3), (0, .ref 0)] [] (z_ui (z_ui (z_ui (z_ui (z_ui μ 0 17 1) 18 7 0) 26 7 0) 34 7 0) 42 7 0)
  refine z_rcs0 hc hH 5 (pc' := 27) (lv' := [(1, .int 4), (0, .ref 0)]) (st' := []) (by rfl) ?_
  exact hr 0 27 _ _ _ none (by decide +kernel) (by rfl) (⟨rfl, rfl⟩)
noncomputable def dT0 (μ : zM) (t n k : Nat) : zM := (bif decide ((μ.1 (18 + 8 * t) 5) = 0) then z_ui (pS (z_ui (z_ui (z_uj (z_ui (z_ui (z_ui μ 0 8 (nI t)) 0 7 1) 0 16 0) 0 18 0) 2 2 (nI (n + 1))) 0 15 (nI k)) t k 1) (18 + 8 * t) 8 0 else pS (z_ui (z_ui (z_uj (z_ui (z_ui (z_ui μ 0 8 (nI t)) 0 7 1) 0 16 0) 0 18 0) 2 2 (nI (n + 1))) 0 15 (nI k)) t k 1)
theorem gc_drawTile0 (d : Nat) (hd : 4 ≤ d) (μ : zM) (s t n k : Nat) (hs : s < 2147483648) (ht4 : t < 4) (hst : s % 4 = t) (hn2 : n < 136) (hn : μ.1 2 2 = nI n) (h1 : μ.1 2 1 = 1) (hk : k < 34) (hkk : μ.1 3 n = nI k) : z_C d mi_X6_drawTile [.ref 0, .int (nI s), .int 0] μ (fun r μ' => r = none ∧ μ' = dT0 μ t n k) := by
  refine z_C_in (by decide) (by omega) (fun d' Z ed hc hr => ?_)
  have hH : zH mi_X6_drawTile zt_X6_drawTile 79 6 4 := hh_X6_drawTile
  refine z_rcs hc hH 4 (pc' := 4) (lv' := [(0, .ref 0), (1, .int (nI s)), (2, .int 0)]) (st' := [.int ((nI s) &&& 3), .ref 0]) (μ' := μ) (by rfl) ?_
  rw [show nI s &&& 3 = nI t from by rw [and3 hs, hst]]
  refine zq_pfi hc hH (by rfl) (ci := 5) (f := 8) (by rfl) (by decide +kernel) (by rfl) ?_
  show Z 0 7 [(0, .ref 0), (1, .int (nI s)), (2, .int 0)] [] (z_ui μ 0 8 (nI t))
  refine z_rcs hc hH 2 (pc' := 9) (lv' := [(0, .ref 0), (1, .int (nI s)), (2, .int 0)]) (st' := [.int 1, .ref 0]) (μ' := z_ui μ 0 8 (nI t)) (by rfl) ?_
  refine zq_pfi hc hH (by rfl) (ci := 5) (f := 7) (by rfl) (by decide +kernel) (by rfl) ?_
  show Z 0 12 [(0, .ref 0), (1, .int (nI s)), (2, .int 0)] [] (z_ui (z_ui μ 0 8 (nI t)) 0 7 1)
  refine z_rcs0 hc hH 2 (pc' := 14) (lv' := [(0, .ref 0), (1, .int (nI s)), (2, .int 0)]) (st' := [.int 0, .ref 0]) (by rfl) ?_
  refine zq_pfb hc hH (by rfl) (ci := 5) (f := 16) (by rfl) (by decide +kernel) (by rfl) (by decide) ?_
  show Z 0 17 [(0, .ref 0), (1, .int (nI s)), (2, .int 0)] [] (z_ui (z_ui (z_ui μ 0 8 (nI t)) 0 7 1) 0 16 0)
  refine z_rcs0 hc hH 2 (pc' := 19) (lv' := [(0, .ref 0), (1, .int (nI s)), (2, .int 0)]) (st' := [.long 0, .ref 0]) (by rfl) ?_
  refine zq_pfl hc hH (by rfl) (ci := 5) (f := 18) (by rfl) (by decide +kernel) (by rfl) ?_
  show Z 0 22 [(0, .ref 0), (1, .int (nI s)), (2, .int 0)] [] (z_uj (z_ui (z_ui (z_ui μ 0 8 (nI t)) 0 7 1) 0 16 0) 0 18 0)
  refine z_rcs0 hc hH 4 (pc' := 38) (lv' := [(0, .ref 0), (1, .int (nI s)), (2, .int 0)]) (st' := [.ref 0, .ref 0]) (by rfl) ?_
  refine zq_gfr hc hH (by rfl) (ci := 5) (f := 1) (q := 2) (by rfl) (by decide +kernel) (by rfl) (by decide +kernel) ?_
  refine zq_call hc (z_cx_ok hH (by rfl)) (gc_draw d' (by omega) (z_uj (z_ui (z_ui (z_ui μ 0 8 (nI t)) 0 7 1) 0 16 0) 0 18 0) n hn2 (by rw [uj_i, ui_o (by first | decide | omega), ui_o (by first | decide | omega), ui_o (by first | decide | omega)]; exact hn) (by rw [uj_i, ui_o (by first | decide | omega), ui_o (by first | decide | omega), ui_o (by first | decide | omega)]; exact h1)) (by decide +kernel) (fun r9 μ9 hq => ?_)
  obtain ⟨rfl, rfl⟩ := hq
  rw [uj_i, ui_o (by first | decide | omega), ui_o (by first | decide | omega), ui_o (by first | decide | omega)]
  show Z 0 44 [(0, .ref 0), (1, .int (nI s)), (2, .int 0)] [.int (μ.1 3 n), .ref 0] (z_ui (z_uj (z_ui (z_ui (z_ui μ 0 8 (nI t)) 0 7 1) 0 16 0) 0 18 0) 2 2 (nI (n + 1)))
  rw [hkk]
  refine zq_pfi hc hH (by rfl) (ci := 5) (f := 15) (by rfl) (by decide +kernel) (by rfl) ?_
  show Z 0 47 [(0, .ref 0), (1, .int (nI s)), (2, .int 0)] [] (z_ui (z_ui (z_uj (z_ui (z_ui (z_ui μ 0 8 (nI t)) 0 7 1) 0 16 0) 0 18 0) 2 2 (nI (n + 1))) 0 15 (nI k))
  refine z_rcs0 hc hH 2 (pc' := 49) (lv' := [(0, .ref 0), (1, .int (nI s)), (2, .int 0)]) (st' := [.ref 0, .ref 0]) (by rfl) ?_
  refine zq_gfi hc hH (by rfl) (ci := 5) (f := 8) (by rfl) (by decide +kernel) (by rfl) ?_
  refine zV1 (Z := Z) (Eq.trans (ui_k (by first | decide | omega)) (Eq.trans (ui_o (by first | decide | omega)) (Eq.trans uj_i (Eq.trans (ui_k (by first | decide | omega)) (Eq.trans (ui_k (by first | decide | omega)) (ui_s)))))) ?_
  refine zq_call hc (z_cx_ok hH (by rfl)) (gc_at4 d' (by omega) (z_ui (z_ui (z_uj (z_ui (z_ui (z_ui μ 0 8 (nI t)) 0 7 1) 0 16 0) 0 18 0) 2 2 (nI (n + 1))) 0 15 (nI k)) t ht4) (by decide +kernel) (fun r9 μ9 hq => ?_)
  obtain ⟨hμ9, rfl⟩ := hq
  rw [hμ9]
  clear hμ9 μ9
  show Z 0 55 [(0, .ref 0), (1, .int (nI s)), (2, .int 0)] [.ref (18 + 8 * t)] _
  refine z_rcs0 hc hH 2 (pc' := 57) (lv' := [(3, .ref (18 + 8 * t)), (0, .ref 0), (1, .int (nI s)), (2, .int 0)]) (st' := [.ref (18 + 8 * t)]) (by rfl) ?_
  refine zq_gfr hc hH (by rfl) (ci := 1) (f := 0) (q := 19 + 8 * t) (by rfl) (sj (P := fun i => okf 79 1 0 (18 + 8 * i)) ht4 (by decide +kernel)) (by rfl) (sj (P := fun i => Nat.beq (z_gr (18 + 8 * i) 0) (19 + 8 * i)) ht4 (by decide +kernel)) ?_
  refine z_rcs0 hc hH 1 (pc' := 61) (lv' := [(3, .ref (18 + 8 * t)), (0, .ref 0), (1, .int (nI s)), (2, .int 0)]) (st' := [.ref 0, .ref (19 + 8 * t)]) (by rfl) ?_
  refine zq_gfi hc hH (by rfl) (ci := 5) (f := 15) (by rfl) (by decide +kernel) (by rfl) ?_
  rw [ui_s]
  refine z_rcs0 hc hH 1 (pc' := 65) (lv' := [(3, .ref (18 + 8 * t)), (0, .ref 0), (1, .int (nI s)), (2, .int 0)]) (st' := [.int 1, .int (nI k), .ref (19 + 8 * t)]) (by rfl) ?_
  refine zq_call hc (z_clv9 hH (by rfl) (by rfl) (by rfl) (by rfl) (sj (P := fun i => okr 79 2 (19 + 8 * i)) ht4 (by decide +kernel)) (by rfl) (by rfl)) (gc_put d' (by omega) (z_ui (z_ui (z_uj (z_ui (z_ui (z_ui μ 0 8 (nI t)) 0 7 1) 0 16 0) 0 18 0) 2 2 (nI (n + 1))) 0 15 (nI k)) t ht4 k hk 1) (by decide +kernel) (fun r9 μ9 hq => ?_)
  obtain ⟨rfl, rfl⟩ := hq
  show Z 0 68 [(3, .ref (18 + 8 * t)), (0, .ref 0), (1, .int (nI s)), (2, .int 0)] [] (pS (z_ui (z_ui (z_uj (z_ui (z_ui (z_ui μ 0 8 (nI t)) 0 7 1) 0 16 0) 0 18 0) 2 2 (nI (n + 1))) 0 15 (nI k)) t k 1)
  refine z_rcs0 hc hH 1 (pc' := 69) (lv' := [(3, .ref (18 + 8 * t)), (0, .ref 0), (1, .int (nI s)), (2, .int 0)]) (st' := [.ref (18 + 8 * t)]) (by rfl) ?_
  refine zq_gfi hc hH (by rfl) (ci := 1) (f := 5) (by rfl) (sj (P := fun i => okf 79 1 5 (18 + 8 * i)) ht4 (by decide +kernel)) (by rfl) ?_
  rw [pS_o (by omega), ui_o (by first | decide | omega), ui_o (by first | decide | omega), uj_i, ui_o (by first | decide | omega), ui_o (by first | decide | omega), ui_o (by first | decide | omega)]
  refine zq_if hc hH (by rfl) (tg := 80) (by rfl) (fun h1 => ?_) (fun h1 => ?_)
  · have h1 : (decide ((μ.1 (18 + 8 * t) 5) = 0)) = false := decide_eq_false (cm_ne.mp h1)
    exact hr 0 80 _ _ _ none (by decide +kernel) (by rfl) (⟨rfl, (by unfold dT0; simp only [h1, cond_true, cond_false])⟩)
  · have h1 : (decide ((μ.1 (18 + 8 * t) 5) = 0)) = true := decide_eq_true (cn_ne.mp h1)
    refine z_rcs0 hc hH 2 (pc' := 77) (lv' := [(3, .ref (18 + 8 * t)), (0, .ref 0), (1, .int (nI s)), (2, .int 0)]) (st' := [.int 0, .ref (18 + 8 * t)]) (by rfl) ?_
    refine zq_pfb hc hH (by rfl) (ci := 1) (f := 8) (by rfl) (sj (P := fun i => okf 79 1 8 (18 + 8 * i)) ht4 (by decide +kernel)) (by rfl) (by decide) ?_
    show Z 0 80 [(3, .ref (18 + 8 * t)), (0, .ref 0), (1, .int (nI s)), (2, .int 0)] [] (z_ui (pS (z_ui (z_ui (z_uj (z_ui (z_ui (z_ui μ 0 8 (nI t)) 0 7 1) 0 16 0) 0 18 0) 2 2 (nI (n + 1))) 0 15 (nI k)) t k 1) (18 + 8 * t) 8 0)
    exact hr 0 80 _ _ _ none (by decide +kernel) (by rfl) (⟨rfl, (by unfold dT0; simp only [h1, cond_true, cond_false])⟩)
noncomputable def dT1 (μ : zM) (t n k : Nat) : zM := (bif decide ((μ.1 (18 + 8 * t) 5) = 0) then z_ui (pS (z_ui (z_ui (z_uj (z_ui (z_ui (z_ui μ 0 8 (nI t)) 0 7 1) 0 16 1) 0 18 0) 2 3 (nI (n + 1))) 0 15 (nI k)) t k 1) (18 + 8 * t) 8 0 else pS (z_ui (z_ui (z_uj (z_ui (z_ui (z_ui μ 0 8 (nI t)) 0 7 1) 0 16 1) 0 18 0) 2 3 (nI (n + 1))) 0 15 (nI k)) t k 1)
theorem gc_drawTile1 (d : Nat) (hd : 4 ≤ d) (μ : zM) (s t n k : Nat) (hs : s < 2147483648) (ht4 : t < 4) (hst : s % 4 = t) (hn2 : n < 14) (hn : μ.1 2 3 = nI n) (h1 : μ.1 2 1 = 1) (hk : k < 34) (hkk : μ.1 3 (122 + n) = nI k) : z_C d mi_X6_drawTile [.ref 0, .int (nI s), .int 1] μ (fun r μ' => r = none ∧ μ' = dT1 μ t n k) := by
  refine z_C_in (by decide) (by omega) (fun d' Z ed hc hr => ?_)
  have hH : zH mi_X6_drawTile zt_X6_drawTile 79 6 4 := hh_X6_drawTile
  refine z_rcs hc hH 4 (pc' := 4) (lv' := [(0, .ref 0), (1, .int (nI s)), (2, .int 1)]) (st' := [.int ((nI s) &&& 3), .ref 0]) (μ' := μ) (by rfl) ?_
  rw [show nI s &&& 3 = nI t from by rw [and3 hs, hst]]
  refine zq_pfi hc hH (by rfl) (ci := 5) (f := 8) (by rfl) (by decide +kernel) (by rfl) ?_
  show Z 0 7 [(0, .ref 0), (1, .int (nI s)), (2, .int 1)] [] (z_ui μ 0 8 (nI t))
  refine z_rcs hc hH 2 (pc' := 9) (lv' := [(0, .ref 0), (1, .int (nI s)), (2, .int 1)]) (st' := [.int 1, .ref 0]) (μ' := z_ui μ 0 8 (nI t)) (by rfl) ?_
  refine zq_pfi hc hH (by rfl) (ci := 5) (f := 7) (by rfl) (by decide +kernel) (by rfl) ?_
  show Z 0 12 [(0, .ref 0), (1, .int (nI s)), (2, .int 1)] [] (z_ui (z_ui μ 0 8 (nI t)) 0 7 1)
  refine z_rcs0 hc hH 2 (pc' := 14) (lv' := [(0, .ref 0), (1, .int (nI s)), (2, .int 1)]) (st' := [.int 1, .ref 0]) (by rfl) ?_
  refine zq_pfb hc hH (by rfl) (ci := 5) (f := 16) (by rfl) (by decide +kernel) (by rfl) (by decide) ?_
  show Z 0 17 [(0, .ref 0), (1, .int (nI s)), (2, .int 1)] [] (z_ui (z_ui (z_ui μ 0 8 (nI t)) 0 7 1) 0 16 1)
  refine z_rcs0 hc hH 2 (pc' := 19) (lv' := [(0, .ref 0), (1, .int (nI s)), (2, .int 1)]) (st' := [.long 0, .ref 0]) (by rfl) ?_
  refine zq_pfl hc hH (by rfl) (ci := 5) (f := 18) (by rfl) (by decide +kernel) (by rfl) ?_
  show Z 0 22 [(0, .ref 0), (1, .int (nI s)), (2, .int 1)] [] (z_uj (z_ui (z_ui (z_ui μ 0 8 (nI t)) 0 7 1) 0 16 1) 0 18 0)
  refine z_rcs0 hc hH 4 (pc' := 28) (lv' := [(0, .ref 0), (1, .int (nI s)), (2, .int 1)]) (st' := [.ref 0, .ref 0]) (by rfl) ?_
  refine zq_gfr hc hH (by rfl) (ci := 5) (f := 1) (q := 2) (by rfl) (by decide +kernel) (by rfl) (by decide +kernel) ?_
  refine zq_call hc (z_cx_ok hH (by rfl)) (gc_drawB d' (by omega) (z_uj (z_ui (z_ui (z_ui μ 0 8 (nI t)) 0 7 1) 0 16 1) 0 18 0) n hn2 (by rw [uj_i, ui_o (by first | decide | omega), ui_o (by first | decide | omega), ui_o (by first | decide | omega)]; exact hn) (by rw [uj_i, ui_o (by first | decide | omega), ui_o (by first | decide | omega), ui_o (by first | decide | omega)]; exact h1)) (by decide +kernel) (fun r9 μ9 hq => ?_)
  obtain ⟨rfl, rfl⟩ := hq
  rw [uj_i, ui_o (by first | decide | omega), ui_o (by first | decide | omega), ui_o (by first | decide | omega)]
  show Z 0 34 [(0, .ref 0), (1, .int (nI s)), (2, .int 1)] [.int (μ.1 3 (122 + n)), .ref 0] (z_ui (z_uj (z_ui (z_ui (z_ui μ 0 8 (nI t)) 0 7 1) 0 16 1) 0 18 0) 2 3 (nI (n + 1)))
  rw [hkk]
  refine z_rcs0 hc hH 1 (pc' := 44) (lv' := [(0, .ref 0), (1, .int (nI s)), (2, .int 1)]) (st' := [.int (nI k), .ref 0]) (by rfl) ?_
  refine zq_pfi hc hH (by rfl) (ci := 5) (f := 15) (by rfl) (by decide +kernel) (by rfl) ?_
  show Z 0 47 [(0, .ref 0), (1, .int (nI s)), (2, .int 1)] [] (z_ui (z_ui (z_uj (z_ui (z_ui (z_ui μ 0 8 (nI t)) 0 7 1) 0 16 1) 0 18 0) 2 3 (nI (n + 1))) 0 15 (nI k))
  refine z_rcs0 hc hH 2 (pc' := 49) (lv' := [(0, .ref 0), (1, .int (nI s)), (2, .int 1)]) (st' := [.ref 0, .ref 0]) (by rfl) ?_
  refine zq_gfi hc hH (by rfl) (ci := 5) (f := 8) (by rfl) (by decide +kernel) (by rfl) ?_
  refine zV1 (Z := Z) (Eq.trans (ui_k (by first | decide | omega)) (Eq.trans (ui_o (by first | decide | omega)) (Eq.trans uj_i (Eq.trans (ui_k (by first | decide | omega)) (Eq.trans (ui_k (by first | decide | omega)) (ui_s)))))) ?_
  refine zq_call hc (z_cx_ok hH (by rfl)) (gc_at4 d' (by omega) (z_ui (z_ui (z_uj (z_ui (z_ui (z_ui μ 0 8 (nI t)) 0 7 1) 0 16 1) 0 18 0) 2 3 (nI (n + 1))) 0 15 (nI k)) t ht4) (by decide +kernel) (fun r9 μ9 hq => ?_)
  obtain ⟨hμ9, rfl⟩ := hq
  rw [hμ9]
  clear hμ9 μ9
  show Z 0 55 [(0, .ref 0), (1, .int (nI s)), (2, .int 1)] [.ref (18 + 8 * t)] _
  refine z_rcs0 hc hH 2 (pc' := 57) (lv' := [(3, .ref (18 + 8 * t)), (0, .ref 0), (1, .int (nI s)), (2, .int 1)]) (st' := [.ref (18 + 8 * t)]) (by rfl) ?_
  refine zq_gfr hc hH (by rfl) (ci := 1) (f := 0) (q := 19 + 8 * t) (by rfl) (sj (P := fun i => okf 79 1 0 (18 + 8 * i)) ht4 (by decide +kernel)) (by rfl) (sj (P := fun i => Nat.beq (z_gr (18 + 8 * i) 0) (19 + 8 * i)) ht4 (by decide +kernel)) ?_
  refine z_rcs0 hc hH 1 (pc' := 61) (lv' := [(3, .ref (18 + 8 * t)), (0, .ref 0), (1, .int (nI s)), (2, .int 1)]) (st' := [.ref 0, .ref (19 + 8 * t)]) (by rfl) ?_
  refine zq_gfi hc hH (by rfl) (ci := 5) (f := 15) (by rfl) (by decide +kernel) (by rfl) ?_
  rw [ui_s]
  refine z_rcs0 hc hH 1 (pc' := 65) (lv' := [(3, .ref (18 + 8 * t)), (0, .ref 0), (1, .int (nI s)), (2, .int 1)]) (st' := [.int 1, .int (nI k), .ref (19 + 8 * t)]) (by rfl) ?_
  refine zq_call hc (z_clv9 hH (by rfl) (by rfl) (by rfl) (by rfl) (sj (P := fun i => okr 79 2 (19 + 8 * i)) ht4 (by decide +kernel)) (by rfl) (by rfl)) (gc_put d' (by omega) (z_ui (z_ui (z_uj (z_ui (z_ui (z_ui μ 0 8 (nI t)) 0 7 1) 0 16 1) 0 18 0) 2 3 (nI (n + 1))) 0 15 (nI k)) t ht4 k hk 1) (by decide +kernel) (fun r9 μ9 hq => ?_)
  obtain ⟨rfl, rfl⟩ := hq
  show Z 0 68 [(3, .ref (18 + 8 * t)), (0, .ref 0), (1, .int (nI s)), (2, .int 1)] [] (pS (z_ui (z_ui (z_uj (z_ui (z_ui (z_ui μ 0 8 (nI t)) 0 7 1) 0 16 1) 0 18 0) 2 3 (nI (n + 1))) 0 15 (nI k)) t k 1)
  refine z_rcs0 hc hH 1 (pc' := 69) (lv' := [(3, .ref (18 + 8 * t)), (0, .ref 0), (1, .int (nI s)), (2, .int 1)]) (st' := [.ref (18 + 8 * t)]) (by rfl) ?_
  refine zq_gfi hc hH (by rfl) (ci := 1) (f := 5) (by rfl) (sj (P := fun i => okf 79 1 5 (18 + 8 * i)) ht4 (by decide +kernel)) (by rfl) ?_
  rw [pS_o (by omega), ui_o (by first | decide | omega), ui_o (by first | decide | omega), uj_i, ui_o (by first | decide | omega), ui_o (by first | decide | omega), ui_o (by first | decide | omega)]
  refine zq_if hc hH (by rfl) (tg := 80) (by rfl) (fun h1 => ?_) (fun h1 => ?_)
  · have h1 : (decide ((μ.1 (18 + 8 * t) 5) = 0)) = false := decide_eq_false (cm_ne.mp h1)
    exact hr 0 80 _ _ _ none (by decide +kernel) (by rfl) (⟨rfl, (by unfold dT1; simp only [h1, cond_true, cond_false])⟩)
  · have h1 : (decide ((μ.1 (18 + 8 * t) 5) = 0)) = true := decide_eq_true (cn_ne.mp h1)
    refine z_rcs0 hc hH 2 (pc' := 77) (lv' := [(3, .ref (18 + 8 * t)), (0, .ref 0), (1, .int (nI s)), (2, .int 1)]) (st' := [.int 0, .ref (18 + 8 * t)]) (by rfl) ?_
    refine zq_pfb hc hH (by rfl) (ci := 1) (f := 8) (by rfl) (sj (P := fun i => okf 79 1 8 (18 + 8 * i)) ht4 (by decide +kernel)) (by rfl) (by decide) ?_
    show Z 0 80 [(3, .ref (18 + 8 * t)), (0, .ref 0), (1, .int (nI s)), (2, .int 1)] [] (z_ui (pS (z_ui (z_ui (z_uj (z_ui (z_ui (z_ui μ 0 8 (nI t)) 0 7 1) 0 16 1) 0 18 0) 2 3 (nI (n + 1))) 0 15 (nI k)) t k 1) (18 + 8 * t) 8 0)
    exact hr 0 80 _ _ _ none (by decide +kernel) (by rfl) (⟨rfl, (by unfold dT1; simp only [h1, cond_true, cond_false])⟩)
/-! a seat's tiles: what is known of the desk's goes over -/
set_option maxRecDepth 8000
theorem z_tr_lng {f : Nat → Nat} {v : Value} {n : Int64} (h : z_tr f v = .long n) : v = .long n := by
  cases v <;> first | exact h | (exact absurd h (by simp [z_tr]))
theorem map_int {f : Nat → Nat} {r : Option Value} {n : Int32} (h : r.map (z_tr f) = some (.int n)) : r = some (.int n) := by
  cases r with
  | none => exact absurd h (by simp)
  | some v =>
    have h2 : some (z_tr f v) = some (Value.int n) := h
    injection h2 with h2
    exact congrArg some (z_tr_int h2)
theorem map_lng {f : Nat → Nat} {r : Option Value} {n : Int64} (h : r.map (z_tr f) = some (.long n)) : r = some (.long n) := by
  cases r with
  | none => exact absurd h (by simp)
  | some v =>
    have h2 : some (z_tr f v) = some (Value.long n) := h
    injection h2 with h2
    exact congrArg some (z_tr_lng h2)
theorem map_non {f : Nat → Nat} {r : Option Value} (h : r.map (z_tr f) = none) : r = none := by
  cases r with
  | none => rfl
  | some v => exact absurd h (by simp)
theorem at_Ri {j : Nat} (hj : j < 4) {μ : zM} {m d : Nat} (hm : m ∈ JX) {As As' : List Value} (hA : Sg (sgm j) As = As') {n : Int32} (h : z_C d m As (sMm j μ) (zR (sMm j μ) (.int n))) : z_C d m As' μ (zR μ (.int n)) := by
  rw [← hA]
  refine z_C_mono (at_seat hj hm h) (fun r μ' z => ⟨?_, map_int z.2⟩)
  rw [← sM_sM hj μ', z.1, sM_sM hj]
theorem at_Rl {j : Nat} (hj : j < 4) {μ : zM} {m d : Nat} (hm : m ∈ JX) {As As' : List Value} (hA : Sg (sgm j) As = As') {n : Int64} (h : z_C d m As (sMm j μ) (zR (sMm j μ) (.long n))) : z_C d m As' μ (zR μ (.long n)) := by
  rw [← hA]
  refine z_C_mono (at_seat hj hm h) (fun r μ' z => ⟨?_, map_lng z.2⟩)
  rw [← sM_sM hj μ', z.1, sM_sM hj]
theorem at_B {j : Nat} (hj : j < 4) {μ : zM} {m d : Nat} (hm : m ∈ JX) {As As' : List Value} (hA : Sg (sgm j) As = As') {p : Prop} (h : z_C d m As (sMm j μ) (zB (sMm j μ) p)) : z_C d m As' μ (zB μ p) := by
  rw [← hA]
  refine z_C_mono (at_seat hj hm h) (fun r μ' z => ⟨?_, ?_⟩)
  · rw [← sM_sM hj μ', z.1, sM_sM hj]
  · rcases z.2 with ⟨e, h⟩ | ⟨e, h⟩
    · exact Or.inl ⟨map_int e, h⟩
    · exact Or.inr ⟨map_int e, h⟩
theorem at_N {j : Nat} (hj : j < 4) {μ : zM} {m d : Nat} (hm : m ∈ JX) {As As' : List Value} (hA : Sg (sgm j) As = As') {Q : zM → Prop} (h : z_C d m As (sMm j μ) (fun r μ' => r = none ∧ Q μ')) : z_C d m As' μ (fun r μ' => r = none ∧ Q (sMm j μ')) := by
  rw [← hA]
  exact z_C_mono (at_seat hj hm h) (fun r μ' z => ⟨map_non z.1, z.2⟩)
theorem sg9 {j : Nat} (hj : j < 4) {l : List Value} (hl : Sg (sgm j) l = l) : Sg (sgm j) (.ref 9 :: l) = .ref (19 + 8 * j) :: l := by
  show Value.ref (sgm j 9) :: Sg (sgm j) l = _
  rw [(sgm_r j hj).1, hl]
theorem gc_isOpen (d : Nat) (hd : 1 ≤ d) (μ : zM) (j : Nat) (hj : j < 4) (q : Nat) (hq : q ≤ 4) (e4 : μ.1 (19 + 8 * j) 4 = nI q) : z_C d mi_X3_isOpen [.ref (19 + 8 * j)] μ (zR μ (.int (nB (xOr (μ.1 (22 + 8 * j)) q)))) := by
  have z := fx_X3_isOpen d hd (sMm j μ) q hq (by rw [sM9 hj]; exact e4)
  have e : (sMm j μ).1 12 = μ.1 (22 + 8 * j) := by funext k; exact sM12 hj μ k
  rw [e] at z
  exact at_Ri hj (by decide) (sg9 hj rfl) z
theorem gc_waiting (d : Nat) (hd : 7 ≤ d) (μ : zM) (j : Nat) (hj : j < 4) (w : Nat → Nat) (q : Nat) (hw : RW μ (20 + 8 * j) w) (h4 : ∀ k, k < 34 → w k ≤ 4) (hq : q ≤ 4) (e4 : μ.1 (19 + 8 * j) 4 = nI q) (h11 : q = 0 → RW μ (21 + 8 * j) w) : z_C d mi_X3_waiting [.ref (19 + 8 * j)] μ (zR μ (.long (kb (wb (WX (sMm j μ) w q)) 34))) := by
  refine at_Rl hj (by decide) (sg9 hj rfl) (fx_X3_waiting d hd (sMm j μ) w q ?_ h4 hq (by rw [sM9 hj]; exact e4) ?_)
  · intro k hk; rw [sM10 hj]; exact hw k hk
  · intro h0 k hk; rw [sM11 hj]; exact h11 h0 k hk
theorem gc_waitsFor (d : Nat) (hd : 6 ≤ d) (μ : zM) (j : Nat) (hj : j < 4) (w : Nat → Nat) (q c : Nat) (hw : RW μ (20 + 8 * j) w) (h4 : ∀ k, k < 34 → w k ≤ 4) (hq : q ≤ 4) (e4 : μ.1 (19 + 8 * j) 4 = nI q) (h11 : q = 0 → RW μ (21 + 8 * j) w) (hcc : c < 34) : z_C d mi_X3_waitsFor [.ref (19 + 8 * j), .int (nI c)] μ (zB μ (WX (sMm j μ) w q c)) := by
  refine at_B hj (by decide) (sg9 hj rfl) (fx_X3_waitsFor d hd (sMm j μ) w q c ?_ h4 hq (by rw [sM9 hj]; exact e4) ?_ hcc)
  · intro k hk; rw [sM10 hj]; exact hw k hk
  · intro h0 k hk; rw [sM11 hj]; exact h11 h0 k hk
theorem gc_layDown (d : Nat) (hd : 2 ≤ d) (μ : zM) (j : Nat) (hj : j < 4) (s : Int32) (a q : Nat) (ham : a + zl s ≤ 33) (hq3 : q ≤ 3) (e4 : μ.1 (19 + 8 * j) 4 = nI q) : z_C d mi_X3_layDown [.ref (19 + 8 * j), .int s, .int (nI a)] μ (fun r μ' => r = none ∧ zLD (sMm j μ) s a q (sMm j μ')) :=
  at_N hj (by decide) (sg9 hj rfl) (fc_X3_layDown d hd (sMm j μ) s a q ham hq3 (by rw [sM9 hj]; exact e4))
theorem gc_kinds (d : Nat) (hd : 1 ≤ d) (μ : zM) (j : Nat) (hj : j < 4) (w : Nat → Nat) (hw : RW μ (21 + 8 * j) w) : z_C d mi_X3_kinds [.ref (19 + 8 * j)] μ (zR μ (.long (kb (fun k => decide (0 < w k)) 34))) := by
  refine at_Rl hj (by decide) (sg9 hj rfl) (fc_X3_kinds d hd (sMm j μ) w ?_)
  intro k hk; rw [sM11 hj]; exact hw k hk
theorem gc_size (d : Nat) (hd : 1 ≤ d) (μ : zM) (j : Nat) (hj : j < 4) : z_C d mi_X3_size [.ref (19 + 8 * j)] μ (zR μ (.int (μ.1 (19 + 8 * j) 5 + 3 * μ.1 (19 + 8 * j) 4))) := by
  have z := fc_X3_size d hd (sMm j μ)
  rw [sM9 hj, sM9 hj] at z
  exact at_Ri hj (by decide) (sg9 hj rfl) z
theorem a_abs_sg : ∀ j, j < 4 → ∀ r, r < 79 → z_lk a_abs (sgm j r) = z_lk a_abs r := by decide +kernel
theorem a_bd_sg {j : Nat} (hj : j < 4) (r k : Nat) : a_bd (sgm j r) k = a_bd r k := by
  by_cases c : r < 79
  · unfold a_bd a_abd
    rw [(sgm_lo j hj r c).2, a_abs_sg j hj r c]
  · rw [sgm_hi j hj r (by omega)]
theorem a_H_sg {j : Nat} (hj : j < 4) {μ : zM} (h : a_H μ) : a_H (sMm j μ) := by
  intro r k
  have z := h (sgm j r) k
  rw [a_bd_sg hj] at z
  exact z
theorem gc_judge (d : Nat) (hd : 8 ≤ d) (μ : zM) (j : Nat) (hj : j < 4) (w aw : Nat → Nat) (q : Nat) (hq : q ≤ 4) (sL lL : Nat → Nat) (hLb : ∀ i, i < q → sL i ≤ 3 ∧ lL i < 34) (hw4 : ∀ k, k < 34 → w k ≤ 4) (w10 : RW μ (20 + 8 * j) w) (w11 : RW μ (21 + 8 * j) aw) (w110 : q = 0 → ∀ k, k < 34 → aw k = w k) (d4 : μ.1 (19 + 8 * j) 4 = nI q) (d5 : μ.1 (19 + 8 * j) 5 = nI (sn w 34)) (hL : ∀ i, i < q → μ.1 (22 + 8 * j) i = nI (sL i) ∧ μ.1 (23 + 8 * j) i = nI (lL i)) (hH0 : a_H μ) (k wi de : Int32) (dr : Bool) (told : Int64) : z_C d mi_X1_judge [.ref 4, .ref (19 + 8 * j), .int k, .int (nB dr), .long told, .int wi, .int de] μ (fun r μ' => r = none ∧ a_H (sMm j μ') ∧ a_Fz mdJJ (sMm j μ) (sMm j μ') ∧ ((¬ (sn w 34 + 3 * q = 14 ∧ vp_in k 34 ∧ 0 < w k.toNatClampNeg) ∧ bqC (sMm j μ') = (0, 0, 0, 0)) ∨ ((sn w 34 + 3 * q = 14 ∧ vp_in k 34 ∧ 0 < w k.toNatClampNeg) ∧ ∃ κ, KC κ w aw q sL lL k dr told (27 + (wi &&& 3)) (rw9 wi) de ∧ CI (SCl κ w q sL lL 34) 5000 (sMm j μ')))) := by
  refine at_N hj (by decide) (As := [.ref 14, .ref 9, .int k, .int (nB dr), .long told, .int wi, .int de]) ?_ (fb_X1_judge d hd (sMm j μ) w aw q hq sL lL hLb hw4 ?_ ?_ w110 (by rw [sM9 hj]; exact d4) (by rw [sM9 hj]; exact d5) ?_ (a_H_sg hj hH0) k wi de dr told)
  · show [Value.ref (sgm j 14), .ref (sgm j 9), .int k, .int (nB dr), .long told, .int wi, .int de] = _
    rw [(sgm_r j hj).1, (sgm_r j hj).2.2.2.2.2.1]
  · intro k hk; rw [sM10 hj]; exact w10 k hk
  · intro k hk; rw [sM11 hj]; exact w11 k hk
  · intro i hi; rw [sM12 hj, sM13 hj]; exact hL i hi
/-! the game: throwing, letting go -/
set_option maxRecDepth 8000
theorem kn_l0 {n : Nat} (h : n < 2147483648) : decide (nI n < 0) = false := decide_eq_false (by rw [Int32.lt_iff_toInt_lt, nI_toInt h, show (0 : Int32).toInt = 0 from rfl]; omega)
theorem kn_le {n m : Nat} {M : Int32} (hM : M.toInt = (m : Int)) (h : n < 2147483648) (hm : n < m) : decide (M ≤ nI n) = false := decide_eq_false (by rw [Int32.le_iff_toInt_le, nI_toInt h, hM]; omega)
theorem kn_lt {n m : Nat} {M : Int32} (hM : M.toInt = (m : Int)) (h : n < 2147483648) (hm : n < m) : decide (nI n < M) = true := decide_eq_true (by rw [Int32.lt_iff_toInt_lt, nI_toInt h, hM]; omega)
theorem gc_empty (d : Nat) (hd : 1 ≤ d) (μ : zM) (j : Nat) (hj : j < 4) : z_C d mi_X3_empty [.ref (19 + 8 * j)] μ (fun r μ' => r = none ∧ (∀ k, k < 34 → μ'.1 (20 + 8 * j) k = 0 ∧ μ'.1 (21 + 8 * j) k = 0) ∧ μ'.1 (19 + 8 * j) 4 = 0 ∧ μ'.1 (19 + 8 * j) 5 = 0 ∧ (∀ r k, r ≠ 20 + 8 * j → r ≠ 21 + 8 * j → ¬ (r = 19 + 8 * j ∧ (k = 4 ∨ k = 5)) → μ'.1 r k = μ.1 r k) ∧ μ'.2.1 = μ.2.1) := by
  refine z_C_mono (at_N hj (by decide) (sg9 hj rfl) (fc_X3_empty d hd (sMm j μ))) (fun r μ' z => ⟨z.1, ?_⟩)
  obtain ⟨-, h1, h2, h3, h4, h5⟩ := z
  have hs : ∀ r, sgm j (sgm j r) = r := fun r => (RN_sgm j hj).1 r
  have q := sgm_r j hj
  refine ⟨fun k hk => ?_, ?_, ?_, fun r k a1 a2 a3 => ?_, ?_⟩
  · have := h1 k hk; rw [sM10 hj, sM11 hj] at this; exact this
  · rw [sM9 hj] at h2; exact h2
  · rw [sM9 hj] at h3; exact h3
  · have e : (sMm j μ').1 (sgm j r) k = (sMm j μ).1 (sgm j r) k := by
      refine h4 (sgm j r) k (fun e => a1 ?_) (fun e => a2 ?_) (fun e => a3 ⟨?_, e.2⟩)
      · rw [← hs r, e, q.2.1]
      · rw [← hs r, e, q.2.2.1]
      · rw [← hs r, e.1, q.1]
    show μ'.1 r k = μ.1 r k
    have e2 : μ'.1 (sgm j (sgm j r)) k = μ.1 (sgm j (sgm j r)) k := e
    rw [hs r] at e2
    exact e2
  · have e : (sMm j μ').2.1 = (sMm j μ).2.1 := by rw [h5]
    funext r k
    have e2 : (sMm j μ').2.1 (sgm j r) k = (sMm j μ).2.1 (sgm j r) k := by rw [e]
    have e3 : μ'.2.1 (sgm j (sgm j r)) k = μ.2.1 (sgm j (sgm j r)) k := e2
    rw [hs r] at e3
    exact e3
noncomputable def tT (μ : zM) (j k q : Nat) : zM := z_uj (z_ui (z_ui μ (24 + 8 * j) q (nI k)) (18 + 8 * j) 2 (nI (q + 1))) (18 + 8 * j) 3 ((μ.2.1 (18 + 8 * j) 3) ||| (1 <<< ((nI k).toInt64 &&& 63)))
theorem gc_throwTile (d : Nat) (hd : 1 ≤ d) (μ : zM) (j : Nat) (hj : j < 4) (k q : Nat) (hk : k < 34) (hq : q < 86) (e2 : μ.1 (18 + 8 * j) 2 = nI q) : z_C d mi_X2_throwTile [.ref (18 + 8 * j), .int (nI k)] μ (fun r μ' => r = none ∧ μ' = tT μ j k q) := by
  refine z_C_in (by decide) (by omega) (fun d' Z ed hc hr => ?_)
  have hH : zH mi_X2_throwTile zt_X2_throwTile 79 2 2 := hh_X2_throwTile
  refine z_rcs hc hH 1 (pc' := 1) (lv' := [(0, .ref (18 + 8 * j)), (1, .int (nI k))]) (st' := [.ref (18 + 8 * j)]) (μ' := μ) (by rfl) ?_
  refine zq_gfi hc hH (by rfl) (ci := 1) (f := 2) (by rfl) (sj (P := fun i => okf 79 1 2 (18 + 8 * i)) hj (by decide +kernel)) (by rfl) ?_
  rw [e2]
  refine zq_if hc hH (by rfl) (tg := 16) (by rfl) (fun h1 => ?_) (fun h1 => ?_)
  · have h1 : (decide ((nI q) < 0)) = true := decide_eq_true (cm_lt.mp h1)
    exact absurd (Eq.trans (Eq.symm (kn_l0 (by omega))) h1) (by decide)
  · have h1 : (decide ((nI q) < 0)) = false := decide_eq_false (cn_lt.mp h1)
    refine z_rcs hc hH 1 (pc' := 8) (lv' := [(0, .ref (18 + 8 * j)), (1, .int (nI k))]) (st' := [.ref (18 + 8 * j)]) (μ' := μ) (by rfl) ?_
    refine zq_gfi hc hH (by rfl) (ci := 1) (f := 2) (by rfl) (sj (P := fun i => okf 79 1 2 (18 + 8 * i)) hj (by decide +kernel)) (by rfl) ?_
    rw [e2]
    refine z_rcs hc hH 1 (pc' := 13) (lv' := [(0, .ref (18 + 8 * j)), (1, .int (nI k))]) (st' := [.int 86, .int (nI q)]) (μ' := μ) (by rfl) ?_
    refine zq_ic hc hH (by rfl) (tg := 17) (by rfl) (fun h2 => ?_) (fun h2 => ?_)
    · have h2 : (decide ((nI q) < 86)) = true := decide_eq_true (cm_lt.mp h2)
      refine z_rcs hc hH 1 (pc' := 18) (lv' := [(0, .ref (18 + 8 * j)), (1, .int (nI k))]) (st' := [.ref (18 + 8 * j)]) (μ' := μ) (by rfl) ?_
      refine zq_gfr hc hH (by rfl) (ci := 1) (f := 1) (q := 24 + 8 * j) (by rfl) (sj (P := fun i => okf 79 1 1 (18 + 8 * i)) hj (by decide +kernel)) (by rfl) (sj (P := fun i => Nat.beq (z_gr (18 + 8 * i) 1) (24 + 8 * i)) hj (by decide +kernel)) ?_
      refine z_rcs hc hH 1 (pc' := 22) (lv' := [(0, .ref (18 + 8 * j)), (1, .int (nI k))]) (st' := [.ref (18 + 8 * j), .ref (24 + 8 * j)]) (μ' := μ) (by rfl) ?_
      refine zq_gfi hc hH (by rfl) (ci := 1) (f := 2) (by rfl) (sj (P := fun i => okf 79 1 2 (18 + 8 * i)) hj (by decide +kernel)) (by rfl) ?_
      rw [e2]
      refine z_rcs hc hH 1 (pc' := 26) (lv' := [(0, .ref (18 + 8 * j)), (1, .int (nI k))]) (st' := [.int (nI k), .int (nI q), .ref (24 + 8 * j)]) (μ' := μ) (by rfl) ?_
      refine zq_iast hc hH (by rfl) 86 (oka_i (sj (P := fun i => oka 79 1 86 (24 + 8 * i)) hj (by decide +kernel))).2 (vp_in_nI (by omega) (by decide)) ?_
      rw [nI_clamp (by omega)]
      show Z 0 27 [(0, .ref (18 + 8 * j)), (1, .int (nI k))] [] (z_ui μ (24 + 8 * j) q (nI k))
      refine z_rcs0 hc hH 2 (pc' := 29) (lv' := [(0, .ref (18 + 8 * j)), (1, .int (nI k))]) (st' := [.ref (18 + 8 * j), .ref (18 + 8 * j)]) (by rfl) ?_
      refine zq_gfi hc hH (by rfl) (ci := 1) (f := 2) (by rfl) (sj (P := fun i => okf 79 1 2 (18 + 8 * i)) hj (by decide +kernel)) (by rfl) ?_
      refine zV1 (Z := Z) (ui_o (by first | decide | omega)) ?_
      rw [e2]
      refine z_rcs0 hc hH 2 (pc' := 34) (lv' := [(0, .ref (18 + 8 * j)), (1, .int (nI k))]) (st' := [.int ((nI q) + 1), .ref (18 + 8 * j)]) (by rfl) ?_
      rw [nI_s1]
      refine zq_pfi hc hH (by rfl) (ci := 1) (f := 2) (by rfl) (sj (P := fun i => okf 79 1 2 (18 + 8 * i)) hj (by decide +kernel)) (by rfl) ?_
      show Z 0 37 [(0, .ref (18 + 8 * j)), (1, .int (nI k))] [] (z_ui (z_ui μ (24 + 8 * j) q (nI k)) (18 + 8 * j) 2 (nI (q + 1)))
      refine z_rcs0 hc hH 2 (pc' := 39) (lv' := [(0, .ref (18 + 8 * j)), (1, .int (nI k))]) (st' := [.ref (18 + 8 * j), .ref (18 + 8 * j)]) (by rfl) ?_
      refine zq_gfl hc hH (by rfl) (ci := 1) (f := 3) (by rfl) (sj (P := fun i => okf 79 1 3 (18 + 8 * i)) hj (by decide +kernel)) (by rfl) ?_
      rw [ui_j, ui_j]
      refine z_rcs0 hc hH 4 (pc' := 46) (lv' := [(0, .ref (18 + 8 * j)), (1, .int (nI k))]) (st' := [.long ((μ.2.1 (18 + 8 * j) 3) ||| (1 <<< ((nI k).toInt64 &&& 63))), .ref (18 + 8 * j)]) (by rfl) ?_
      refine zq_pfl hc hH (by rfl) (ci := 1) (f := 3) (by rfl) (sj (P := fun i => okf 79 1 3 (18 + 8 * i)) hj (by decide +kernel)) (by rfl) ?_
      show Z 0 49 [(0, .ref (18 + 8 * j)), (1, .int (nI k))] [] (z_uj (z_ui (z_ui μ (24 + 8 * j) q (nI k)) (18 + 8 * j) 2 (nI (q + 1))) (18 + 8 * j) 3 ((μ.2.1 (18 + 8 * j) 3) ||| (1 <<< ((nI k).toInt64 &&& 63))))
      exact hr 0 49 _ _ _ none (by decide +kernel) (by rfl) (⟨rfl, rfl⟩)
    · have h2 : (decide ((nI q) < 86)) = false := decide_eq_false (cn_lt.mp h2)
      exact absurd (Eq.trans (Eq.symm (kn_lt (m := 86) rfl (by omega) (by omega))) h2) (by decide)
theorem gc_mayBet (d : Nat) (hd : 8 ≤ d) (μ : zM) (t : Nat) (ht4 : t < 4) (q : Nat) (hq : q ≤ 4) (e4 : μ.1 (19 + 8 * t) 4 = nI q) (wt : Int64) (hwt : ∀ d, 7 ≤ d → z_C d mi_X3_waiting [.ref (19 + 8 * t)] μ (zR μ (.long wt))) : z_C d mi_X6_mayBet [.ref 0, .ref (18 + 8 * t)] μ (zR μ (.int (nB ((decide ((μ.1 (18 + 8 * t) 5) = 0)) && (!(xOr (μ.1 (22 + 8 * t)) q) && (!(decide ((μ.1 (18 + 8 * t) 4) < 1000)) && (!(decide ((xLf μ) < 4)) && (!(decide ((lg_cmp wt 0) = 0)))))))))) := by
  refine z_C_in (by decide) (by omega) (fun d' Z ed hc hr => ?_)
  have hH : zH mi_X6_mayBet zt_X6_mayBet 79 6 2 := hh_X6_mayBet
  refine z_rcs hc hH 1 (pc' := 1) (lv' := [(0, .ref 0), (1, .ref (18 + 8 * t))]) (st' := [.ref (18 + 8 * t)]) (μ' := μ) (by rfl) ?_
  refine zq_gfi hc hH (by rfl) (ci := 1) (f := 5) (by rfl) (sj (P := fun i => okf 79 1 5 (18 + 8 * i)) ht4 (by decide +kernel)) (by rfl) ?_
  have hJ1 : Z 0 55 [(0, .ref 0), (1, .ref (18 + 8 * t))] [.int (nB ((decide ((μ.1 (18 + 8 * t) 5) = 0)) && (!(xOr (μ.1 (22 + 8 * t)) q) && (!(decide ((μ.1 (18 + 8 * t) 4) < 1000)) && (!(decide ((xLf μ) < 4)) && (!(decide ((lg_cmp wt 0) = 0))))))))] μ := by
    generalize hee2 : ((decide ((μ.1 (18 + 8 * t) 5) = 0)) && (!(xOr (μ.1 (22 + 8 * t)) q) && (!(decide ((μ.1 (18 + 8 * t) 4) < 1000)) && (!(decide ((xLf μ) < 4)) && (!(decide ((lg_cmp wt 0) = 0))))))) = ee2
    exact hr 0 55 _ _ _ (some (.int (nB ee2))) (by decide +kernel) ((fun b : Bool => (by cases b <;> rfl : z_rn mi_X6_mayBet 55 [.int (nB b)] = some (some (.int (nB b))))) ee2) (⟨rfl, (by subst hee2; rfl)⟩)
  refine zq_if hc hH (by rfl) (tg := 54) (by rfl) (fun h3 => ?_) (fun h3 => ?_)
  · have h3 : (decide ((μ.1 (18 + 8 * t) 5) = 0)) = false := decide_eq_false (cm_ne.mp h3)
    refine z_rcs hc hH 1 (pc' := 55) (lv' := [(0, .ref 0), (1, .ref (18 + 8 * t))]) (st' := [.int 0]) (μ' := μ) (by rfl) ?_
    exact zJ hJ1 rfl (by first | with_reducible rfl | (simp only [h3, lb_f, Int64.or_zero, Int32.add_zero, nB_t, nB_f, Bool.not_true, Bool.not_false, Bool.and_true, Bool.true_and, Bool.false_and, Bool.and_false, Bool.or_true, Bool.true_or, Bool.false_or, Bool.or_false, cond_true, cond_false]; done) | rfl) rfl
  · have h3 : (decide ((μ.1 (18 + 8 * t) 5) = 0)) = true := decide_eq_true (cn_ne.mp h3)
    refine z_rcs hc hH 1 (pc' := 8) (lv' := [(0, .ref 0), (1, .ref (18 + 8 * t))]) (st' := [.ref (18 + 8 * t)]) (μ' := μ) (by rfl) ?_
    refine zq_gfr hc hH (by rfl) (ci := 1) (f := 0) (q := 19 + 8 * t) (by rfl) (sj (P := fun i => okf 79 1 0 (18 + 8 * i)) ht4 (by decide +kernel)) (by rfl) (sj (P := fun i => Nat.beq (z_gr (18 + 8 * i) 0) (19 + 8 * i)) ht4 (by decide +kernel)) ?_
    refine zq_call hc (z_clv9 hH (by rfl) (by rfl) (by rfl) (by rfl) (sj (P := fun i => okr 79 2 (19 + 8 * i)) ht4 (by decide +kernel)) (by rfl) (by rfl)) (gc_isOpen d' (by omega) μ t ht4 q hq e4) (by decide +kernel) (fun r9 μ9 hq => ?_)
    obtain ⟨hμ9, rfl⟩ := hq
    rw [hμ9]
    clear hμ9 μ9
    show Z 0 14 [(0, .ref 0), (1, .ref (18 + 8 * t))] [.int (nB (xOr (μ.1 (22 + 8 * t)) q))] μ
    refine zq_if hc hH (by rfl) (tg := 54) (by rfl) (fun h4 => ?_) (fun h4 => ?_)
    · have h4 : (xOr (μ.1 (22 + 8 * t)) q) = true := nB_n.mp (cm_ne.mp h4)
      refine z_rcs hc hH 1 (pc' := 55) (lv' := [(0, .ref 0), (1, .ref (18 + 8 * t))]) (st' := [.int 0]) (μ' := μ) (by rfl) ?_
      exact zJ hJ1 rfl (by first | with_reducible rfl | (simp only [h3, h4, lb_f, Int64.or_zero, Int32.add_zero, nB_t, nB_f, Bool.not_true, Bool.not_false, Bool.and_true, Bool.true_and, Bool.false_and, Bool.and_false, Bool.or_true, Bool.true_or, Bool.false_or, Bool.or_false, cond_true, cond_false]; done) | rfl) rfl
    · have h4 : (xOr (μ.1 (22 + 8 * t)) q) = false := nB_z.mp (cn_ne.mp h4)
      refine z_rcs hc hH 1 (pc' := 18) (lv' := [(0, .ref 0), (1, .ref (18 + 8 * t))]) (st' := [.ref (18 + 8 * t)]) (μ' := μ) (by rfl) ?_
      refine zq_gfi hc hH (by rfl) (ci := 1) (f := 4) (by rfl) (sj (P := fun i => okf 79 1 4 (18 + 8 * i)) ht4 (by decide +kernel)) (by rfl) ?_
      refine z_rcs hc hH 1 (pc' := 24) (lv' := [(0, .ref 0), (1, .ref (18 + 8 * t))]) (st' := [.int 1000, .int (μ.1 (18 + 8 * t) 4)]) (μ' := μ) (by rfl) ?_
      refine zq_ic hc hH (by rfl) (tg := 54) (by rfl) (fun h5 => ?_) (fun h5 => ?_)
      · have h5 : (decide ((μ.1 (18 + 8 * t) 4) < 1000)) = true := decide_eq_true (cm_lt.mp h5)
        refine z_rcs hc hH 1 (pc' := 55) (lv' := [(0, .ref 0), (1, .ref (18 + 8 * t))]) (st' := [.int 0]) (μ' := μ) (by rfl) ?_
        exact zJ hJ1 rfl (by first | with_reducible rfl | (simp only [h3, h4, h5, lb_f, Int64.or_zero, Int32.add_zero, nB_t, nB_f, Bool.not_true, Bool.not_false, Bool.and_true, Bool.true_and, Bool.false_and, Bool.and_false, Bool.or_true, Bool.true_or, Bool.false_or, Bool.or_false, cond_true, cond_false]; done) | rfl) rfl
      · have h5 : (decide ((μ.1 (18 + 8 * t) 4) < 1000)) = false := decide_eq_false (cn_lt.mp h5)
        refine z_rcs hc hH 1 (pc' := 28) (lv' := [(0, .ref 0), (1, .ref (18 + 8 * t))]) (st' := [.ref 0]) (μ' := μ) (by rfl) ?_
        refine zq_gfr hc hH (by rfl) (ci := 5) (f := 1) (q := 2) (by rfl) (by decide +kernel) (by rfl) (by decide +kernel) ?_
        refine zq_call hc (z_cx_ok hH (by rfl)) (gc_left d' (by omega) μ) (by decide +kernel) (fun r9 μ9 hq => ?_)
        obtain ⟨hμ9, rfl⟩ := hq
        rw [hμ9]
        clear hμ9 μ9
        show Z 0 34 [(0, .ref 0), (1, .ref (18 + 8 * t))] [.int (xLf μ)] μ
        refine z_rcs hc hH 1 (pc' := 35) (lv' := [(0, .ref 0), (1, .ref (18 + 8 * t))]) (st' := [.int 4, .int (xLf μ)]) (μ' := μ) (by rfl) ?_
        refine zq_ic hc hH (by rfl) (tg := 54) (by rfl) (fun h6 => ?_) (fun h6 => ?_)
        · have h6 : (decide ((xLf μ) < 4)) = true := decide_eq_true (cm_lt.mp h6)
          refine z_rcs hc hH 1 (pc' := 55) (lv' := [(0, .ref 0), (1, .ref (18 + 8 * t))]) (st' := [.int 0]) (μ' := μ) (by rfl) ?_
          exact zJ hJ1 rfl (by first | with_reducible rfl | (simp only [h3, h4, h5, h6, lb_f, Int64.or_zero, Int32.add_zero, nB_t, nB_f, Bool.not_true, Bool.not_false, Bool.and_true, Bool.true_and, Bool.false_and, Bool.and_false, Bool.or_true, Bool.true_or, Bool.false_or, Bool.or_false, cond_true, cond_false]; done) | rfl) rfl
        · have h6 : (decide ((xLf μ) < 4)) = false := decide_eq_false (cn_lt.mp h6)
          refine z_rcs hc hH 1 (pc' := 39) (lv' := [(0, .ref 0), (1, .ref (18 + 8 * t))]) (st' := [.ref (18 + 8 * t)]) (μ' := μ) (by rfl) ?_
          refine zq_gfr hc hH (by rfl) (ci := 1) (f := 0) (q := 19 + 8 * t) (by rfl) (sj (P := fun i => okf 79 1 0 (18 + 8 * i)) ht4 (by decide +kernel)) (by rfl) (sj (P := fun i => Nat.beq (z_gr (18 + 8 * i) 0) (19 + 8 * i)) ht4 (by decide +kernel)) ?_
          refine zq_call hc (z_clv9 hH (by rfl) (by rfl) (by rfl) (by rfl) (sj (P := fun i => okr 79 2 (19 + 8 * i)) ht4 (by decide +kernel)) (by rfl) (by rfl)) (hwt d' (by omega)) (by decide +kernel) (fun r9 μ9 hq => ?_)
          obtain ⟨hμ9, rfl⟩ := hq
          rw [hμ9]
          clear hμ9 μ9
          show Z 0 45 [(0, .ref 0), (1, .ref (18 + 8 * t))] [.long wt] μ
          refine z_rcs hc hH 2 (pc' := 47) (lv' := [(0, .ref 0), (1, .ref (18 + 8 * t))]) (st' := [.int (lg_cmp wt 0)]) (μ' := μ) (by rfl) ?_
          refine zq_if hc hH (by rfl) (tg := 54) (by rfl) (fun h7 => ?_) (fun h7 => ?_)
          · have h7 : (decide ((lg_cmp wt 0) = 0)) = true := decide_eq_true (cm_eq9.mp h7)
            refine z_rcs hc hH 1 (pc' := 55) (lv' := [(0, .ref 0), (1, .ref (18 + 8 * t))]) (st' := [.int 0]) (μ' := μ) (by rfl) ?_
            exact zJ hJ1 rfl (by first | with_reducible rfl | (simp only [h3, h4, h5, h6, h7, lb_f, Int64.or_zero, Int32.add_zero, nB_t, nB_f, Bool.not_true, Bool.not_false, Bool.and_true, Bool.true_and, Bool.false_and, Bool.and_false, Bool.or_true, Bool.true_or, Bool.false_or, Bool.or_false, cond_true, cond_false]; done) | rfl) rfl
          · have h7 : (decide ((lg_cmp wt 0) = 0)) = false := decide_eq_false (cn_eq.mp h7)
            refine z_rcs hc hH 2 (pc' := 55) (lv' := [(0, .ref 0), (1, .ref (18 + 8 * t))]) (st' := [.int 1]) (μ' := μ) (by rfl) ?_
            exact zJ hJ1 rfl (by first | with_reducible rfl | (simp only [h3, h4, h5, h6, h7, lb_f, Int64.or_zero, Int32.add_zero, nB_t, nB_f, Bool.not_true, Bool.not_false, Bool.and_true, Bool.true_and, Bool.false_and, Bool.and_false, Bool.or_true, Bool.true_or, Bool.false_or, Bool.or_false, cond_true, cond_false]; done) | rfl) rfl
/-! the game: letting go, exactly -/
set_option maxRecDepth 8000
/-- these seats' tiles are as before -/
noncomputable def TE (μ μ' : zM) : Prop := ∀ i, i < 4 → ∀ a, 19 ≤ a → a ≤ 23 → ∀ k, μ'.1 (a + 8 * i) k = μ.1 (a + 8 * i) k
theorem TE_rf (μ : zM) : TE μ μ := fun _ _ _ _ _ _ => rfl
theorem TE_tr {μ μ1 μ2 : zM} (h : TE μ μ1) (h2 : TE μ1 μ2) : TE μ μ2 := fun i hi a h1 h3 k => (h2 i hi a h1 h3 k).trans (h i hi a h1 h3 k)
theorem TE_ui {μ μ1 : zM} (h : TE μ μ1) {r k : Nat} {x : Int32} (hr : ∀ i a, i < 4 → 19 ≤ a → a ≤ 23 → a + 8 * i ≠ r) : TE μ (z_ui μ1 r k x) := fun i hi a h1 h2 k' => (ui_o (hr i a hi h1 h2)).trans (h i hi a h1 h2 k')
theorem TE_uj {μ μ1 : zM} (h : TE μ μ1) {r k : Nat} {x : Int64} : TE μ (z_uj μ1 r k x) := h
/-- a seat lets go -/
noncomputable def lgS (μ : zM) (u : Nat) (c : Bool) : zM := bif c then z_ui μ (18 + 8 * u) 8 1 else μ
theorem lgS_k {μ : zM} {u r k : Nat} {c : Bool} (h : k ≠ 8) : (lgS μ u c).1 r k = μ.1 r k := by
  unfold lgS; cases c
  · rfl
  · exact ui_k h
theorem lgS_o {μ : zM} {u r k : Nat} {c : Bool} (h : r ≠ 18 + 8 * u) : (lgS μ u c).1 r k = μ.1 r k := by
  unfold lgS; cases c
  · rfl
  · exact ui_o h
theorem lgS_j {μ : zM} {u r k : Nat} {c : Bool} : (lgS μ u c).2.1 r k = μ.2.1 r k := by unfold lgS; cases c <;> rfl
theorem TE_lg {μ μ1 : zM} (h : TE μ μ1) {u : Nat} {c : Bool} : TE μ (lgS μ1 u c) := by
  unfold lgS; cases c
  · exact h
  · exact TE_ui h (by intro i a hi h1 h2; omega)
noncomputable def lT (μ : zM) (t u1 u2 u3 : Nat) (c1 c2 c3 : Bool) : zM := (bif decide ((μ.1 (18 + 8 * t) 6) = 0) then lgS (lgS (lgS μ u1 c1) u2 c2) u3 c3 else z_ui (z_ui (z_ui (lgS (lgS (lgS μ u1 c1) u2 c2) u3 c3) (18 + 8 * t) 6 0) (18 + 8 * t) 4 ((μ.1 (18 + 8 * t) 4) - 1000)) 0 12 ((μ.1 0 12) + 1))
theorem gc_letTileGo (d : Nat) (hd : 7 ≤ d) (μ : zM) (t c u1 u2 u3 : Nat) (c1 c2 c3 : Bool) (ht4 : t < 4) (ht : μ.1 0 8 = nI t) (hc34 : c < 34) (hc15 : μ.1 0 15 = nI c) (hu1 : (t + 1) % 4 = u1) (hu14 : u1 < 4) (hw1 : ∀ μ1, TE μ μ1 → ∀ d, 6 ≤ d → z_C d mi_X3_waitsFor [.ref (19 + 8 * u1), .int (nI c)] μ1 (zR μ1 (.int (nB c1)))) (hu2 : (t + 2) % 4 = u2) (hu24 : u2 < 4) (hw2 : ∀ μ1, TE μ μ1 → ∀ d, 6 ≤ d → z_C d mi_X3_waitsFor [.ref (19 + 8 * u2), .int (nI c)] μ1 (zR μ1 (.int (nB c2)))) (hu3 : (t + 3) % 4 = u3) (hu34 : u3 < 4) (hw3 : ∀ μ1, TE μ μ1 → ∀ d, 6 ≤ d → z_C d mi_X3_waitsFor [.ref (19 + 8 * u3), .int (nI c)] μ1 (zR μ1 (.int (nB c3)))) : z_C d mi_X6_letTileGo [.ref 0] μ (fun r μ' => r = none ∧ μ' = lT μ t u1 u2 u3 c1 c2 c3) := by
  refine z_C_in (by decide) (by omega) (fun d' Z ed hc hr => ?_)
  have hH : zH mi_X6_letTileGo zt_X6_letTileGo 79 6 3 := hh_X6_letTileGo
  refine z_rcs hc hH 7 (pc' := 9) (lv' := [(1, .int 1), (0, .ref 0)]) (st' := [.ref 0, .ref 0]) (μ' := μ) (by rfl) ?_
  refine zq_gfi hc hH (by rfl) (ci := 5) (f := 8) (by rfl) (by decide +kernel) (by rfl) ?_
  rw [ht]
  refine z_rcs hc hH 2 (pc' := 14) (lv' := [(1, .int 1), (0, .ref 0)]) (st' := [.int ((nI t) + 1), .ref 0]) (μ' := μ) (by rfl) ?_
  rw [show nI t + 1 = nI (t + 1) from by rw [show (1 : Int32) = nI 1 from rfl, nI_add]]
  refine zq_call hc (z_cx_ok hH (by rfl)) (gc_atm d' (by omega) μ (t + 1) u1 (by omega) hu1) (by decide +kernel) (fun r9 μ9 hq => ?_)
  obtain ⟨hμ9, rfl⟩ := hq
  rw [hμ9]
  clear hμ9 μ9
  show Z 0 17 [(1, .int 1), (0, .ref 0)] [.ref (18 + 8 * u1)] μ
  refine z_rcs hc hH 2 (pc' := 19) (lv' := [(2, .ref (18 + 8 * u1)), (1, .int 1), (0, .ref 0)]) (st' := [.ref (18 + 8 * u1)]) (μ' := μ) (by rfl) ?_
  refine zq_gfr hc hH (by rfl) (ci := 1) (f := 0) (q := 19 + 8 * u1) (by rfl) (sj (P := fun i => okf 79 1 0 (18 + 8 * i)) hu14 (by decide +kernel)) (by rfl) (sj (P := fun i => Nat.beq (z_gr (18 + 8 * i) 0) (19 + 8 * i)) hu14 (by decide +kernel)) ?_
  refine z_rcs hc hH 1 (pc' := 23) (lv' := [(2, .ref (18 + 8 * u1)), (1, .int 1), (0, .ref 0)]) (st' := [.ref 0, .ref (19 + 8 * u1)]) (μ' := μ) (by rfl) ?_
  refine zq_gfi hc hH (by rfl) (ci := 5) (f := 15) (by rfl) (by decide +kernel) (by rfl) ?_
  rw [hc15]
  refine zq_call hc (z_clv9 hH (by rfl) (by rfl) (by rfl) (by rfl) (sj (P := fun i => okr 79 2 (19 + 8 * i)) hu14 (by decide +kernel)) (by rfl) (by rfl)) (hw1 _ (TE_rf _) d' (by omega)) (by decide +kernel) (fun r9 μ9 hq => ?_)
  obtain ⟨hμ9, rfl⟩ := hq
  rw [hμ9]
  clear hμ9 μ9
  show Z 0 29 [(2, .ref (18 + 8 * u1)), (1, .int 1), (0, .ref 0)] [.int (nB c1)] μ
  have hJ1 : Z 0 37 [(2, .ref (18 + 8 * u1)), (1, .int 1), (0, .ref 0)] [] (lgS μ u1 c1) := by
    refine z_rcs hc hH 7 (pc' := 9) (lv' := [(1, .int 2), (2, .ref (18 + 8 * u1)), (0, .ref 0)]) (st' := [.ref 0, .ref 0]) (μ' := lgS μ u1 c1) (by rfl) ?_
    refine zq_gfi hc hH (by rfl) (ci := 5) (f := 8) (by rfl) (by decide +kernel) (by rfl) ?_
    rw [lgS_o (by omega)]
    rw [ht]
    refine z_rcs hc hH 2 (pc' := 14) (lv' := [(1, .int 2), (2, .ref (18 + 8 * u1)), (0, .ref 0)]) (st' := [.int ((nI t) + 2), .ref 0]) (μ' := lgS μ u1 c1) (by rfl) ?_
    rw [show nI t + 2 = nI (t + 2) from by rw [show (2 : Int32) = nI 2 from rfl, nI_add]]
    refine zq_call hc (z_cx_ok hH (by rfl)) (gc_atm d' (by omega) (lgS μ u1 c1) (t + 2) u2 (by omega) hu2) (by decide +kernel) (fun r9 μ9 hq => ?_)
    obtain ⟨hμ9, rfl⟩ := hq
    rw [hμ9]
    clear hμ9 μ9
    show Z 0 17 [(1, .int 2), (2, .ref (18 + 8 * u1)), (0, .ref 0)] [.ref (18 + 8 * u2)] (lgS μ u1 c1)
    refine z_rcs hc hH 2 (pc' := 19) (lv' := [(2, .ref (18 + 8 * u2)), (1, .int 2), (0, .ref 0)]) (st' := [.ref (18 + 8 * u2)]) (μ' := lgS μ u1 c1) (by rfl) ?_
    refine zq_gfr hc hH (by rfl) (ci := 1) (f := 0) (q := 19 + 8 * u2) (by rfl) (sj (P := fun i => okf 79 1 0 (18 + 8 * i)) hu24 (by decide +kernel)) (by rfl) (sj (P := fun i => Nat.beq (z_gr (18 + 8 * i) 0) (19 + 8 * i)) hu24 (by decide +kernel)) ?_
    refine z_rcs hc hH 1 (pc' := 23) (lv' := [(2, .ref (18 + 8 * u2)), (1, .int 2), (0, .ref 0)]) (st' := [.ref 0, .ref (19 + 8 * u2)]) (μ' := lgS μ u1 c1) (by rfl) ?_
    refine zq_gfi hc hH (by rfl) (ci := 5) (f := 15) (by rfl) (by decide +kernel) (by rfl) ?_
    rw [lgS_k (by omega)]
    rw [hc15]
    refine zq_call hc (z_clv9 hH (by rfl) (by rfl) (by rfl) (by rfl) (sj (P := fun i => okr 79 2 (19 + 8 * i)) hu24 (by decide +kernel)) (by rfl) (by rfl)) (hw2 _ (TE_lg (TE_rf _)) d' (by omega)) (by decide +kernel) (fun r9 μ9 hq => ?_)
    obtain ⟨hμ9, rfl⟩ := hq
    rw [hμ9]
    clear hμ9 μ9
    show Z 0 29 [(2, .ref (18 + 8 * u2)), (1, .int 2), (0, .ref 0)] [.int (nB c2)] (lgS μ u1 c1)
    have hJ2 : Z 0 37 [(2, .ref (18 + 8 * u2)), (1, .int 2), (0, .ref 0)] [] (lgS (lgS μ u1 c1) u2 c2) := by
      refine z_rcs0 hc hH 7 (pc' := 9) (lv' := [(1, .int 3), (2, .ref (18 + 8 * u2)), (0, .ref 0)]) (st' := [.ref 0, .ref 0]) (by rfl) ?_
      refine zq_gfi hc hH (by rfl) (ci := 5) (f := 8) (by rfl) (by decide +kernel) (by rfl) ?_
      rw [lgS_o (by omega), lgS_o (by omega)]
      rw [ht]
      refine z_rcs0 hc hH 2 (pc' := 14) (lv' := [(1, .int 3), (2, .ref (18 + 8 * u2)), (0, .ref 0)]) (st' := [.int ((nI t) + 3), .ref 0]) (by rfl) ?_
      rw [show nI t + 3 = nI (t + 3) from by rw [show (3 : Int32) = nI 3 from rfl, nI_add]]
      refine zq_call hc (z_cx_ok hH (by rfl)) (gc_atm d' (by omega) (lgS (lgS μ u1 c1) u2 c2) (t + 3) u3 (by omega) hu3) (by decide +kernel) (fun r9 μ9 hq => ?_)
      obtain ⟨hμ9, rfl⟩ := hq
      rw [hμ9]
      clear hμ9 μ9
      show Z 0 17 [(1, .int 3), (2, .ref (18 + 8 * u2)), (0, .ref 0)] [.ref (18 + 8 * u3)] _
      refine z_rcs0 hc hH 2 (pc' := 19) (lv' := [(2, .ref (18 + 8 * u3)), (1, .int 3), (0, .ref 0)]) (st' := [.ref (18 + 8 * u3)]) (by rfl) ?_
      refine zq_gfr hc hH (by rfl) (ci := 1) (f := 0) (q := 19 + 8 * u3) (by rfl) (sj (P := fun i => okf 79 1 0 (18 + 8 * i)) hu34 (by decide +kernel)) (by rfl) (sj (P := fun i => Nat.beq (z_gr (18 + 8 * i) 0) (19 + 8 * i)) hu34 (by decide +kernel)) ?_
      refine z_rcs0 hc hH 1 (pc' := 23) (lv' := [(2, .ref (18 + 8 * u3)), (1, .int 3), (0, .ref 0)]) (st' := [.ref 0, .ref (19 + 8 * u3)]) (by rfl) ?_
      refine zq_gfi hc hH (by rfl) (ci := 5) (f := 15) (by rfl) (by decide +kernel) (by rfl) ?_
      rw [lgS_k (by omega), lgS_k (by omega)]
      rw [hc15]
      refine zq_call hc (z_clv9 hH (by rfl) (by rfl) (by rfl) (by rfl) (sj (P := fun i => okr 79 2 (19 + 8 * i)) hu34 (by decide +kernel)) (by rfl) (by rfl)) (hw3 _ (TE_lg (TE_lg (TE_rf _))) d' (by omega)) (by decide +kernel) (fun r9 μ9 hq => ?_)
      obtain ⟨hμ9, rfl⟩ := hq
      rw [hμ9]
      clear hμ9 μ9
      show Z 0 29 [(2, .ref (18 + 8 * u3)), (1, .int 3), (0, .ref 0)] [.int (nB c3)] _
      have hJ3 : Z 0 37 [(2, .ref (18 + 8 * u3)), (1, .int 3), (0, .ref 0)] [] (lgS (lgS (lgS μ u1 c1) u2 c2) u3 c3) := by
        refine z_rcs0 hc hH 7 (pc' := 45) (lv' := [(1, .int 4), (2, .ref (18 + 8 * u3)), (0, .ref 0)]) (st' := [.ref 0, .ref 0]) (by rfl) ?_
        refine zq_gfi hc hH (by rfl) (ci := 5) (f := 8) (by rfl) (by decide +kernel) (by rfl) ?_
        rw [lgS_o (by omega), lgS_o (by omega), lgS_o (by omega)]
        rw [ht]
        refine zq_call hc (z_cx_ok hH (by rfl)) (gc_at4 d' (by omega) (lgS (lgS (lgS μ u1 c1) u2 c2) u3 c3) t ht4) (by decide +kernel) (fun r9 μ9 hq => ?_)
        obtain ⟨hμ9, rfl⟩ := hq
        rw [hμ9]
        clear hμ9 μ9
        show Z 0 51 [(1, .int 4), (2, .ref (18 + 8 * u3)), (0, .ref 0)] [.ref (18 + 8 * t)] _
        refine z_rcs0 hc hH 2 (pc' := 53) (lv' := [(1, .ref (18 + 8 * t)), (2, .ref (18 + 8 * u3)), (0, .ref 0)]) (st' := [.ref (18 + 8 * t)]) (by rfl) ?_
        refine zq_gfi hc hH (by rfl) (ci := 1) (f := 6) (by rfl) (sj (P := fun i => okf 79 1 6 (18 + 8 * i)) ht4 (by decide +kernel)) (by rfl) ?_
        rw [lgS_k (by omega), lgS_k (by omega), lgS_k (by omega)]
        refine zq_if hc hH (by rfl) (tg := 86) (by rfl) (fun h4 => ?_) (fun h4 => ?_)
        · have h4 : (decide ((μ.1 (18 + 8 * t) 6) = 0)) = true := decide_eq_true (cm_eq9.mp h4)
          exact hr 0 86 _ _ _ none (by decide +kernel) (by rfl) (⟨rfl, (by unfold lT; simp only [h4, cond_true, cond_false])⟩)
        · have h4 : (decide ((μ.1 (18 + 8 * t) 6) = 0)) = false := decide_eq_false (cn_eq.mp h4)
          refine z_rcs0 hc hH 2 (pc' := 61) (lv' := [(1, .ref (18 + 8 * t)), (2, .ref (18 + 8 * u3)), (0, .ref 0)]) (st' := [.int 0, .ref (18 + 8 * t)]) (by rfl) ?_
          refine zq_pfb hc hH (by rfl) (ci := 1) (f := 6) (by rfl) (sj (P := fun i => okf 79 1 6 (18 + 8 * i)) ht4 (by decide +kernel)) (by rfl) (by decide) ?_
          show Z 0 64 [(1, .ref (18 + 8 * t)), (2, .ref (18 + 8 * u3)), (0, .ref 0)] [] (z_ui (lgS (lgS (lgS μ u1 c1) u2 c2) u3 c3) (18 + 8 * t) 6 0)
          refine z_rcs0 hc hH 2 (pc' := 66) (lv' := [(1, .ref (18 + 8 * t)), (2, .ref (18 + 8 * u3)), (0, .ref 0)]) (st' := [.ref (18 + 8 * t), .ref (18 + 8 * t)]) (by rfl) ?_
          refine zq_gfi hc hH (by rfl) (ci := 1) (f := 4) (by rfl) (sj (P := fun i => okf 79 1 4 (18 + 8 * i)) ht4 (by decide +kernel)) (by rfl) ?_
          rw [ui_k (by first | decide | omega), lgS_k (by omega), lgS_k (by omega), lgS_k (by omega)]
          refine z_rcs0 hc hH 2 (pc' := 73) (lv' := [(1, .ref (18 + 8 * t)), (2, .ref (18 + 8 * u3)), (0, .ref 0)]) (st' := [.int ((μ.1 (18 + 8 * t) 4) - 1000), .ref (18 + 8 * t)]) (by rfl) ?_
          refine zq_pfi hc hH (by rfl) (ci := 1) (f := 4) (by rfl) (sj (P := fun i => okf 79 1 4 (18 + 8 * i)) ht4 (by decide +kernel)) (by rfl) ?_
          show Z 0 76 [(1, .ref (18 + 8 * t)), (2, .ref (18 + 8 * u3)), (0, .ref 0)] [] (z_ui (z_ui (lgS (lgS (lgS μ u1 c1) u2 c2) u3 c3) (18 + 8 * t) 6 0) (18 + 8 * t) 4 ((μ.1 (18 + 8 * t) 4) - 1000))
          refine z_rcs0 hc hH 2 (pc' := 78) (lv' := [(1, .ref (18 + 8 * t)), (2, .ref (18 + 8 * u3)), (0, .ref 0)]) (st' := [.ref 0, .ref 0]) (by rfl) ?_
          refine zq_gfi hc hH (by rfl) (ci := 5) (f := 12) (by rfl) (by decide +kernel) (by rfl) ?_
          rw [ui_o (by first | decide | omega), ui_o (by first | decide | omega), lgS_k (by omega), lgS_k (by omega), lgS_k (by omega)]
          refine z_rcs0 hc hH 2 (pc' := 83) (lv' := [(1, .ref (18 + 8 * t)), (2, .ref (18 + 8 * u3)), (0, .ref 0)]) (st' := [.int ((μ.1 0 12) + 1), .ref 0]) (by rfl) ?_
          refine zq_pfi hc hH (by rfl) (ci := 5) (f := 12) (by rfl) (by decide +kernel) (by rfl) ?_
          show Z 0 86 [(1, .ref (18 + 8 * t)), (2, .ref (18 + 8 * u3)), (0, .ref 0)] [] (z_ui (z_ui (z_ui (lgS (lgS (lgS μ u1 c1) u2 c2) u3 c3) (18 + 8 * t) 6 0) (18 + 8 * t) 4 ((μ.1 (18 + 8 * t) 4) - 1000)) 0 12 ((μ.1 0 12) + 1))
          exact hr 0 86 _ _ _ none (by decide +kernel) (by rfl) (⟨rfl, (by unfold lT; simp only [h4, cond_true, cond_false])⟩)
      refine zq_if hc hH (by rfl) (tg := 37) (by rfl) (fun h5 => ?_) (fun h5 => ?_)
      · have h5 : (c3) = false := nB_z.mp (cm_eq9.mp h5)
        exact zJ hJ3 rfl rfl (by unfold lgS; rw [h5]; rfl)
      · have h5 : (c3) = true := nB_n.mp (cn_eq.mp h5)
        refine z_rcs hc hH 2 (pc' := 34) (lv' := [(2, .ref (18 + 8 * u3)), (1, .int 3), (0, .ref 0)]) (st' := [.int 1, .ref (18 + 8 * u3)]) (μ' := lgS (lgS μ u1 c1) u2 c2) (by rfl) ?_
        refine zq_pfb hc hH (by rfl) (ci := 1) (f := 8) (by rfl) (sj (P := fun i => okf 79 1 8 (18 + 8 * i)) hu34 (by decide +kernel)) (by rfl) (by decide) ?_
        show Z 0 37 [(2, .ref (18 + 8 * u3)), (1, .int 3), (0, .ref 0)] [] (z_ui (lgS (lgS μ u1 c1) u2 c2) (18 + 8 * u3) 8 1)
        exact zJ hJ3 rfl rfl (by unfold lgS; rw [h5]; rfl)
    refine zq_if hc hH (by rfl) (tg := 37) (by rfl) (fun h6 => ?_) (fun h6 => ?_)
    · have h6 : (c2) = false := nB_z.mp (cm_eq9.mp h6)
      exact zJ hJ2 rfl rfl (by unfold lgS; rw [h6]; rfl)
    · have h6 : (c2) = true := nB_n.mp (cn_eq.mp h6)
      refine z_rcs hc hH 2 (pc' := 34) (lv' := [(2, .ref (18 + 8 * u2)), (1, .int 2), (0, .ref 0)]) (st' := [.int 1, .ref (18 + 8 * u2)]) (μ' := lgS μ u1 c1) (by rfl) ?_
      refine zq_pfb hc hH (by rfl) (ci := 1) (f := 8) (by rfl) (sj (P := fun i => okf 79 1 8 (18 + 8 * i)) hu24 (by decide +kernel)) (by rfl) (by decide) ?_
      show Z 0 37 [(2, .ref (18 + 8 * u2)), (1, .int 2), (0, .ref 0)] [] (z_ui (lgS μ u1 c1) (18 + 8 * u2) 8 1)
      exact zJ hJ2 rfl rfl (by unfold lgS; rw [h6]; rfl)
  refine zq_if hc hH (by rfl) (tg := 37) (by rfl) (fun h7 => ?_) (fun h7 => ?_)
  · have h7 : (c1) = false := nB_z.mp (cm_eq9.mp h7)
    exact zJ hJ1 rfl rfl (by unfold lgS; rw [h7]; rfl)
  · have h7 : (c1) = true := nB_n.mp (cn_eq.mp h7)
    refine z_rcs hc hH 2 (pc' := 34) (lv' := [(2, .ref (18 + 8 * u1)), (1, .int 1), (0, .ref 0)]) (st' := [.int 1, .ref (18 + 8 * u1)]) (μ' := μ) (by rfl) ?_
    refine zq_pfb hc hH (by rfl) (ci := 1) (f := 8) (by rfl) (sj (P := fun i => okf 79 1 8 (18 + 8 * i)) hu14 (by decide +kernel)) (by rfl) (by decide) ?_
    show Z 0 37 [(2, .ref (18 + 8 * u1)), (1, .int 1), (0, .ref 0)] [] (z_ui μ (18 + 8 * u1) 8 1)
    exact zJ hJ1 rfl rfl (by unfold lgS; rw [h7]; rfl)
/-! the game: SETS laid down, exactly -/
set_option maxRecDepth 8000
/-- a seat lays a SET down -/
noncomputable def ldS (μ : zM) (j : Nat) (s : Int32) (a q : Nat) : zM := (fun r k => if r = 20 + 8 * j then (if a ≤ k ∧ k < a + (zl s + 1) then μ.1 r k - se s else μ.1 r k) else if r = 19 + 8 * j ∧ k = 5 then μ.1 r k - nI (zl s + 1) * se s else if r = 19 + 8 * j ∧ k = 4 then nI (q + 1) else if r = 22 + 8 * j ∧ k = q then s else if r = 23 + 8 * j ∧ k = q then nI a else μ.1 r k, μ.2)
theorem ldS_o {μ : zM} {j a q r k : Nat} {s : Int32} (h : r ≠ 19 + 8 * j ∧ r ≠ 20 + 8 * j ∧ r ≠ 22 + 8 * j ∧ r ≠ 23 + 8 * j) : (ldS μ j s a q).1 r k = μ.1 r k := by
  show (if r = 20 + 8 * j then _ else if r = 19 + 8 * j ∧ k = 5 then _ else if r = 19 + 8 * j ∧ k = 4 then _ else if r = 22 + 8 * j ∧ k = q then _ else if r = 23 + 8 * j ∧ k = q then _ else μ.1 r k) = μ.1 r k
  rw [if_neg h.2.1, if_neg (fun e => h.1 e.1), if_neg (fun e => h.1 e.1), if_neg (fun e => h.2.2.1 e.1), if_neg (fun e => h.2.2.2 e.1)]
theorem ldS_j {μ : zM} {j a q r k : Nat} {s : Int32} : (ldS μ j s a q).2.1 r k = μ.2.1 r k := rfl
theorem sM_inj {j : Nat} (hj : j < 4) {μ μ' : zM} (h : sMm j μ = sMm j μ') : μ = μ' := by rw [← sM_sM hj μ, h, sM_sM hj]
theorem gc_layE (d : Nat) (hd : 2 ≤ d) (μ : zM) (j : Nat) (hj : j < 4) (s : Int32) (a q : Nat) (ham : a + zl s ≤ 33) (hq3 : q ≤ 3) (e4 : μ.1 (19 + 8 * j) 4 = nI q) : z_C d mi_X3_layDown [.ref (19 + 8 * j), .int s, .int (nI a)] μ (fun r μ' => r = none ∧ μ' = ldS μ j s a q) := by
  refine z_C_mono (gc_layDown d hd μ j hj s a q ham hq3 e4) (fun r μ' z => ⟨z.1, ?_⟩)
  obtain ⟨-, h1, h2, h3, h4, h5, h6, h7⟩ := z
  have hs : ∀ r, sgm j (sgm j r) = r := fun r => (RN_sgm j hj).1 r
  have q9 := sgm_r j hj
  have e7 : μ'.2 = μ.2 := by
    have e : sMm j (μ'.1, μ'.2) = sMm j (μ'.1, μ.2) := by
      show zsg (sgm j) _ = zsg (sgm j) _
      have e1 : (sMm j μ').2 = (sMm j μ).2 := h7
      exact Prod.ext rfl e1
    have e2 := sM_inj hj e
    have e3 := congrArg (fun p : zM => p.2) e2
    exact e3
  refine Prod.ext ?_ e7
  funext r k
  show μ'.1 r k = if r = 20 + 8 * j then _ else if r = 19 + 8 * j ∧ k = 5 then _ else if r = 19 + 8 * j ∧ k = 4 then _ else if r = 22 + 8 * j ∧ k = q then _ else if r = 23 + 8 * j ∧ k = q then _ else μ.1 r k
  by_cases c1 : r = 20 + 8 * j
  · rw [if_pos c1]
    have e := h1 k
    rw [sM10 hj, sM10 hj] at e
    rw [c1]; exact e
  · rw [if_neg c1]
    by_cases c2 : r = 19 + 8 * j ∧ k = 5
    · rw [if_pos c2, c2.1, c2.2]
      rw [sM9 hj, sM9 hj] at h2
      exact h2
    · rw [if_neg c2]
      by_cases c3 : r = 19 + 8 * j ∧ k = 4
      · rw [if_pos c3, c3.1, c3.2]
        rw [sM9 hj] at h3
        exact h3
      · rw [if_neg c3]
        by_cases c4 : r = 22 + 8 * j
        · have e := h4 k
          rw [sM12 hj, sM12 hj] at e
          rw [c4, e]
          by_cases c : k = q
          · rw [if_pos c, if_pos ⟨rfl, c⟩]
          · rw [if_neg c, if_neg (fun e => c e.2), if_neg (fun e => c e.2)]
        · rw [if_neg (fun e => c4 e.1)]
          by_cases c5 : r = 23 + 8 * j
          · have e := h5 k
            rw [sM13 hj, sM13 hj] at e
            rw [c5, e]
            by_cases c : k = q
            · rw [if_pos c, if_pos ⟨rfl, c⟩]
            · rw [if_neg c, if_neg (fun e => c e.2)]
          · rw [if_neg (fun e => c5 e.1)]
            have e : (sMm j μ').1 (sgm j r) k = (sMm j μ).1 (sgm j r) k := by
              refine h6 (sgm j r) k (fun e => c1 ?_) (fun e => c4 ?_) (fun e => c5 ?_) (fun e => ?_)
              · rw [← hs r, e, q9.2.1]
              · rw [← hs r, e, q9.2.2.2.1]
              · rw [← hs r, e, q9.2.2.2.2.1]
              · have e9 : r = 19 + 8 * j := by rw [← hs r, e.1, q9.1]
                rcases e.2 with c | c
                · exact c3 ⟨e9, c⟩
                · exact c2 ⟨e9, c⟩
            have e2 : μ'.1 (sgm j (sgm j r)) k = μ.1 (sgm j (sgm j r)) k := e
            rw [hs r] at e2
            exact e2
theorem pS_g {μ : zM} {j k r k' : Nat} {n : Int32} (h : (r ≠ 19 + 8 * j ∨ k' ≠ 5) ∧ r ≠ 20 + 8 * j ∧ r ≠ 21 + 8 * j) : (pS μ j k n).1 r k' = μ.1 r k' := by
  unfold pS
  rcases h.1 with c | c
  · rw [ui_o c, ui_o h.2.2, ui_o h.2.1]
  · rw [ui_k c, ui_o h.2.2, ui_o h.2.1]
theorem bkH_o {μ : zM} {r k : Nat} (h : k ≠ 7 ∧ k ≠ 17) : (bkH μ).1 r k = μ.1 r k := by
  unfold bkH
  rw [ui_k h.1, ui_k h.1, ui_k h.1, ui_k h.1, ui_k h.2]
theorem bkH_r {μ : zM} {r k : Nat} (h : r ≠ 0 ∧ r ≠ 18 ∧ r ≠ 26 ∧ r ≠ 34 ∧ r ≠ 42) : (bkH μ).1 r k = μ.1 r k := by
  unfold bkH
  rw [ui_o h.2.2.2.2, ui_o h.2.2.2.1, ui_o h.2.2.1, ui_o h.2.1, ui_o h.1]
theorem bkH_j {μ : zM} {r k : Nat} : (bkH μ).2.1 r k = μ.2.1 r k := rfl
theorem lT_o {μ : zM} {t u1 u2 u3 r k : Nat} {c1 c2 c3 : Bool} (h : k ≠ 8 ∧ k ≠ 6 ∧ k ≠ 4 ∧ k ≠ 12) : (lT μ t u1 u2 u3 c1 c2 c3).1 r k = μ.1 r k := by
  unfold lT
  cases decide (μ.1 (18 + 8 * t) 6 = 0)
  · rw [cond_false, ui_k h.2.2.2, ui_k h.2.2.1, ui_k h.2.1, lgS_k h.1, lgS_k h.1, lgS_k h.1]
  · rw [cond_true, lgS_k h.1, lgS_k h.1, lgS_k h.1]
theorem lT_r {μ : zM} {t u1 u2 u3 r k : Nat} {c1 c2 c3 : Bool} (h : r ≠ 0 ∧ r ≠ 18 + 8 * t ∧ r ≠ 18 + 8 * u1 ∧ r ≠ 18 + 8 * u2 ∧ r ≠ 18 + 8 * u3) : (lT μ t u1 u2 u3 c1 c2 c3).1 r k = μ.1 r k := by
  unfold lT
  cases decide (μ.1 (18 + 8 * t) 6 = 0)
  · rw [cond_false, ui_o h.1, ui_o h.2.1, ui_o h.2.1, lgS_o h.2.2.2.2, lgS_o h.2.2.2.1, lgS_o h.2.2.1]
  · rw [cond_true, lgS_o h.2.2.2.2, lgS_o h.2.2.2.1, lgS_o h.2.2.1]
theorem lT_j {μ : zM} {t u1 u2 u3 r k : Nat} {c1 c2 c3 : Bool} : (lT μ t u1 u2 u3 c1 c2 c3).2.1 r k = μ.2.1 r k := by
  unfold lT
  cases decide (μ.1 (18 + 8 * t) 6 = 0)
  · show (lgS _ _ _).2.1 r k = _
    rw [lgS_j, lgS_j, lgS_j]
  · rw [cond_true, lgS_j, lgS_j, lgS_j]
noncomputable def tkS (μ : zM) (s a q : Nat) (so : Int32) (t c u1 u2 u3 : Nat) (c1 c2 c3 : Bool) : zM := z_ui (z_ui (z_ui (ldS (pS (bkH (lT μ t u1 u2 u3 c1 c2 c3) ) s c 1) s so a q) 0 8 (nI s)) 0 7 1) 0 15 (-1)
theorem gc_takeSet (d : Nat) (hd : 8 ≤ d) (μ : zM) (s a q : Nat) (so : Int32) (hs4 : s < 4) (ham : a + zl so ≤ 33) (hq3 : q ≤ 3) (e4 : μ.1 (19 + 8 * s) 4 = nI q) (t c u1 u2 u3 : Nat) (c1 c2 c3 : Bool) (ht4 : t < 4) (ht : μ.1 0 8 = nI t) (hc34 : c < 34) (hc15 : μ.1 0 15 = nI c) (hu1 : (t + 1) % 4 = u1) (hu14 : u1 < 4) (hw1 : ∀ μ1, TE μ μ1 → ∀ d, 6 ≤ d → z_C d mi_X3_waitsFor [.ref (19 + 8 * u1), .int (nI c)] μ1 (zR μ1 (.int (nB c1)))) (hu2 : (t + 2) % 4 = u2) (hu24 : u2 < 4) (hw2 : ∀ μ1, TE μ μ1 → ∀ d, 6 ≤ d → z_C d mi_X3_waitsFor [.ref (19 + 8 * u2), .int (nI c)] μ1 (zR μ1 (.int (nB c2)))) (hu3 : (t + 3) % 4 = u3) (hu34 : u3 < 4) (hw3 : ∀ μ1, TE μ μ1 → ∀ d, 6 ≤ d → z_C d mi_X3_waitsFor [.ref (19 + 8 * u3), .int (nI c)] μ1 (zR μ1 (.int (nB c3)))) : z_C d mi_X6_takeSet [.ref 0, .int (nI s), .int so, .int (nI a)] μ (fun r μ' => r = none ∧ μ' = tkS μ s a q so t c u1 u2 u3 c1 c2 c3) := by
  refine z_C_in (by decide) (by omega) (fun d' Z ed hc hr => ?_)
  have hH : zH mi_X6_takeSet zt_X6_takeSet 79 6 5 := hh_X6_takeSet
  refine z_rcs hc hH 1 (pc' := 1) (lv' := [(0, .ref 0), (1, .int (nI s)), (2, .int so), (3, .int (nI a))]) (st' := [.ref 0]) (μ' := μ) (by rfl) ?_
  refine zq_call hc (z_cx_ok hH (by rfl)) (gc_letTileGo d' (by omega) μ t c u1 u2 u3 c1 c2 c3 ht4 ht hc34 hc15 hu1 hu14 hw1 hu2 hu24 hw2 hu3 hu34 hw3) (by decide +kernel) (fun r9 μ9 hq => ?_)
  obtain ⟨rfl, rfl⟩ := hq
  show Z 0 4 [(0, .ref 0), (1, .int (nI s)), (2, .int so), (3, .int (nI a))] [] (lT μ t u1 u2 u3 c1 c2 c3)
  refine z_rcs0 hc hH 1 (pc' := 5) (lv' := [(0, .ref 0), (1, .int (nI s)), (2, .int so), (3, .int (nI a))]) (st' := [.ref 0]) (by rfl) ?_
  refine zq_call hc (z_cx_ok hH (by rfl)) (gc_breakHand d' (by omega) (lT μ t u1 u2 u3 c1 c2 c3)) (by decide +kernel) (fun r9 μ9 hq => ?_)
  obtain ⟨rfl, rfl⟩ := hq
  show Z 0 8 [(0, .ref 0), (1, .int (nI s)), (2, .int so), (3, .int (nI a))] [] (bkH (lT μ t u1 u2 u3 c1 c2 c3) )
  refine z_rcs0 hc hH 2 (pc' := 10) (lv' := [(0, .ref 0), (1, .int (nI s)), (2, .int so), (3, .int (nI a))]) (st' := [.int (nI s), .ref 0]) (by rfl) ?_
  refine zq_call hc (z_cx_ok hH (by rfl)) (gc_at4 d' (by omega) (bkH (lT μ t u1 u2 u3 c1 c2 c3) ) s hs4) (by decide +kernel) (fun r9 μ9 hq => ?_)
  obtain ⟨hμ9, rfl⟩ := hq
  rw [hμ9]
  clear hμ9 μ9
  show Z 0 13 [(0, .ref 0), (1, .int (nI s)), (2, .int so), (3, .int (nI a))] [.ref (18 + 8 * s)] _
  refine zq_gfr hc hH (by rfl) (ci := 1) (f := 0) (q := 19 + 8 * s) (by rfl) (sj (P := fun i => okf 79 1 0 (18 + 8 * i)) hs4 (by decide +kernel)) (by rfl) (sj (P := fun i => Nat.beq (z_gr (18 + 8 * i) 0) (19 + 8 * i)) hs4 (by decide +kernel)) ?_
  refine z_rcs0 hc hH 3 (pc' := 21) (lv' := [(4, .ref (19 + 8 * s)), (0, .ref 0), (1, .int (nI s)), (2, .int so), (3, .int (nI a))]) (st' := [.ref 0, .ref (19 + 8 * s)]) (by rfl) ?_
  refine zq_gfi hc hH (by rfl) (ci := 5) (f := 15) (by rfl) (by decide +kernel) (by rfl) ?_
  rw [bkH_o (by omega), lT_o (by omega)]
  rw [hc15]
  refine z_rcs0 hc hH 1 (pc' := 25) (lv' := [(4, .ref (19 + 8 * s)), (0, .ref 0), (1, .int (nI s)), (2, .int so), (3, .int (nI a))]) (st' := [.int 1, .int (nI c), .ref (19 + 8 * s)]) (by rfl) ?_
  refine zq_call hc (z_clv9 hH (by rfl) (by rfl) (by rfl) (by rfl) (sj (P := fun i => okr 79 2 (19 + 8 * i)) hs4 (by decide +kernel)) (by rfl) (by rfl)) (gc_put d' (by omega) (bkH (lT μ t u1 u2 u3 c1 c2 c3) ) s hs4 c hc34 1) (by decide +kernel) (fun r9 μ9 hq => ?_)
  obtain ⟨rfl, rfl⟩ := hq
  show Z 0 28 [(4, .ref (19 + 8 * s)), (0, .ref 0), (1, .int (nI s)), (2, .int so), (3, .int (nI a))] [] (pS (bkH (lT μ t u1 u2 u3 c1 c2 c3) ) s c 1)
  refine z_rcs0 hc hH 3 (pc' := 32) (lv' := [(4, .ref (19 + 8 * s)), (0, .ref 0), (1, .int (nI s)), (2, .int so), (3, .int (nI a))]) (st' := [.int (nI a), .int so, .ref (19 + 8 * s)]) (by rfl) ?_
  refine zq_call hc (z_clv9 hH (by rfl) (by rfl) (by rfl) (by rfl) (sj (P := fun i => okr 79 2 (19 + 8 * i)) hs4 (by decide +kernel)) (by rfl) (by rfl)) (gc_layE d' (by omega) (pS (bkH (lT μ t u1 u2 u3 c1 c2 c3) ) s c 1) s hs4 so a q ham hq3 (by rw [pS_g (by omega), bkH_o (by omega), lT_r (by omega)]; exact e4)) (by decide +kernel) (fun r9 μ9 hq => ?_)
  obtain ⟨rfl, rfl⟩ := hq
  show Z 0 35 [(4, .ref (19 + 8 * s)), (0, .ref 0), (1, .int (nI s)), (2, .int so), (3, .int (nI a))] [] (ldS (pS (bkH (lT μ t u1 u2 u3 c1 c2 c3) ) s c 1) s so a q)
  refine z_rcs0 hc hH 4 (pc' := 39) (lv' := [(4, .ref (19 + 8 * s)), (0, .ref 0), (1, .int (nI s)), (2, .int so), (3, .int (nI a))]) (st' := [.int ((nI s) &&& 3), .ref 0]) (by rfl) ?_
  rw [show nI s &&& 3 = nI s from by rw [and3 (by omega), Nat.mod_eq_of_lt hs4]]
  refine zq_pfi hc hH (by rfl) (ci := 5) (f := 8) (by rfl) (by decide +kernel) (by rfl) ?_
  show Z 0 42 [(4, .ref (19 + 8 * s)), (0, .ref 0), (1, .int (nI s)), (2, .int so), (3, .int (nI a))] [] (z_ui (ldS (pS (bkH (lT μ t u1 u2 u3 c1 c2 c3) ) s c 1) s so a q) 0 8 (nI s))
  refine z_rcs0 hc hH 2 (pc' := 44) (lv' := [(4, .ref (19 + 8 * s)), (0, .ref 0), (1, .int (nI s)), (2, .int so), (3, .int (nI a))]) (st' := [.int 1, .ref 0]) (by rfl) ?_
  refine zq_pfi hc hH (by rfl) (ci := 5) (f := 7) (by rfl) (by decide +kernel) (by rfl) ?_
  show Z 0 47 [(4, .ref (19 + 8 * s)), (0, .ref 0), (1, .int (nI s)), (2, .int so), (3, .int (nI a))] [] (z_ui (z_ui (ldS (pS (bkH (lT μ t u1 u2 u3 c1 c2 c3) ) s c 1) s so a q) 0 8 (nI s)) 0 7 1)
  refine z_rcs0 hc hH 2 (pc' := 49) (lv' := [(4, .ref (19 + 8 * s)), (0, .ref 0), (1, .int (nI s)), (2, .int so), (3, .int (nI a))]) (st' := [.int (-1), .ref 0]) (by rfl) ?_
  refine zq_pfi hc hH (by rfl) (ci := 5) (f := 15) (by rfl) (by decide +kernel) (by rfl) ?_
  show Z 0 52 [(4, .ref (19 + 8 * s)), (0, .ref 0), (1, .int (nI s)), (2, .int so), (3, .int (nI a))] [] (z_ui (z_ui (z_ui (ldS (pS (bkH (lT μ t u1 u2 u3 c1 c2 c3) ) s c 1) s so a q) 0 8 (nI s)) 0 7 1) 0 15 (-1))
  exact hr 0 52 _ _ _ none (by decide +kernel) (by rfl) (⟨rfl, rfl⟩)
theorem gc_makeFour (d : Nat) (hd : 5 ≤ d) (μ : zM) (s t n k : Nat) (hs : s < 2147483648) (ht4 : t < 4) (hst : s % 4 = t) (hn2 : n < 14) (hn : μ.1 2 3 = nI n) (h1 : μ.1 2 1 = 1) (hk : k < 34) (hkk : μ.1 3 (122 + n) = nI k) : z_C d mi_X6_makeFour [.ref 0, .int (nI s)] μ (fun r μ' => r = none ∧ μ' = dT1 (bkH μ ) t n k) := by
  refine z_C_in (by decide) (by omega) (fun d' Z ed hc hr => ?_)
  have hH : zH mi_X6_makeFour zt_X6_makeFour 79 6 2 := hh_X6_makeFour
  refine z_rcs hc hH 1 (pc' := 1) (lv' := [(0, .ref 0), (1, .int (nI s))]) (st' := [.ref 0]) (μ' := μ) (by rfl) ?_
  refine zq_call hc (z_cx_ok hH (by rfl)) (gc_breakHand d' (by omega) μ) (by decide +kernel) (fun r9 μ9 hq => ?_)
  obtain ⟨rfl, rfl⟩ := hq
  show Z 0 4 [(0, .ref 0), (1, .int (nI s))] [] (bkH μ )
  refine z_rcs hc hH 3 (pc' := 7) (lv' := [(0, .ref 0), (1, .int (nI s))]) (st' := [.int 1, .int (nI s), .ref 0]) (μ' := bkH μ ) (by rfl) ?_
  refine zq_call hc (z_cx_ok hH (by rfl)) (gc_drawTile1 d' (by omega) (bkH μ ) s t n k hs ht4 hst hn2 (by rw [bkH_o (by omega)]; exact hn) (by rw [bkH_o (by omega)]; exact h1) hk (by rw [bkH_r (by omega)]; exact hkk)) (by decide +kernel) (fun r9 μ9 hq => ?_)
  obtain ⟨rfl, rfl⟩ := hq
  show Z 0 10 [(0, .ref 0), (1, .int (nI s))] [] (dT1 (bkH μ ) t n k)
  exact hr 0 10 _ _ _ none (by decide +kernel) (by rfl) (⟨rfl, rfl⟩)
noncomputable def aTm (μ : zM) (j k : Nat) : zM := (bif decide ((fr μ (20 + 8 * j) (nI k)) = 0) then μ else (bif decide ((μ.1 (19 + 8 * j) 4) ≤ (0 : Int32)) then μ else (bif decide ((μ.1 (22 + 8 * j) 0) = 1) then (bif decide ((μ.1 (23 + 8 * j) 0) = (nI k)) then z_ui (z_ui (z_ui μ (22 + 8 * j) 0 2) (20 + 8 * j) k ((μ.1 (20 + 8 * j) k) - 1)) (19 + 8 * j) 5 ((μ.1 (19 + 8 * j) 5) - 1) else (bif decide ((μ.1 (19 + 8 * j) 4) ≤ (1 : Int32)) then μ else (bif decide ((μ.1 (22 + 8 * j) 1) = 1) then (bif decide ((μ.1 (23 + 8 * j) 1) = (nI k)) then z_ui (z_ui (z_ui μ (22 + 8 * j) 1 2) (20 + 8 * j) k ((μ.1 (20 + 8 * j) k) - 1)) (19 + 8 * j) 5 ((μ.1 (19 + 8 * j) 5) - 1) else (bif decide ((μ.1 (19 + 8 * j) 4) ≤ (2 : Int32)) then μ else (bif decide ((μ.1 (22 + 8 * j) 2) = 1) then (bif decide ((μ.1 (23 + 8 * j) 2) = (nI k)) then z_ui (z_ui (z_ui μ (22 + 8 * j) 2 2) (20 + 8 * j) k ((μ.1 (20 + 8 * j) k) - 1)) (19 + 8 * j) 5 ((μ.1 (19 + 8 * j) 5) - 1) else (bif decide ((μ.1 (19 + 8 * j) 4) ≤ (3 : Int32)) then μ else (bif decide ((μ.1 (22 + 8 * j) 3) = 1) then (bif decide ((μ.1 (23 + 8 * j) 3) = (nI k)) then z_ui (z_ui (z_ui μ (22 + 8 * j) 3 2) (20 + 8 * j) k ((μ.1 (20 + 8 * j) k) - 1)) (19 + 8 * j) 5 ((μ.1 (19 + 8 * j) 5) - 1) else μ) else μ))) else (bif decide ((μ.1 (19 + 8 * j) 4) ≤ (3 : Int32)) then μ else (bif decide ((μ.1 (22 + 8 * j) 3) = 1) then (bif decide ((μ.1 (23 + 8 * j) 3) = (nI k)) then z_ui (z_ui (z_ui μ (22 + 8 * j) 3 2) (20 + 8 * j) k ((μ.1 (20 + 8 * j) k) - 1)) (19 + 8 * j) 5 ((μ.1 (19 + 8 * j) 5) - 1) else μ) else μ))))) else (bif decide ((μ.1 (19 + 8 * j) 4) ≤ (2 : Int32)) then μ else (bif decide ((μ.1 (22 + 8 * j) 2) = 1) then (bif decide ((μ.1 (23 + 8 * j) 2) = (nI k)) then z_ui (z_ui (z_ui μ (22 + 8 * j) 2 2) (20 + 8 * j) k ((μ.1 (20 + 8 * j) k) - 1)) (19 + 8 * j) 5 ((μ.1 (19 + 8 * j) 5) - 1) else (bif decide ((μ.1 (19 + 8 * j) 4) ≤ (3 : Int32)) then μ else (bif decide ((μ.1 (22 + 8 * j) 3) = 1) then (bif decide ((μ.1 (23 + 8 * j) 3) = (nI k)) then z_ui (z_ui (z_ui μ (22 + 8 * j) 3 2) (20 + 8 * j) k ((μ.1 (20 + 8 * j) k) - 1)) (19 + 8 * j) 5 ((μ.1 (19 + 8 * j) 5) - 1) else μ) else μ))) else (bif decide ((μ.1 (19 + 8 * j) 4) ≤ (3 : Int32)) then μ else (bif decide ((μ.1 (22 + 8 * j) 3) = 1) then (bif decide ((μ.1 (23 + 8 * j) 3) = (nI k)) then z_ui (z_ui (z_ui μ (22 + 8 * j) 3 2) (20 + 8 * j) k ((μ.1 (20 + 8 * j) k) - 1)) (19 + 8 * j) 5 ((μ.1 (19 + 8 * j) 5) - 1) else μ) else μ))))))) else (bif decide ((μ.1 (19 + 8 * j) 4) ≤ (1 : Int32)) then μ else (bif decide ((μ.1 (22 + 8 * j) 1) = 1) then (bif decide ((μ.1 (23 + 8 * j) 1) = (nI k)) then z_ui (z_ui (z_ui μ (22 + 8 * j) 1 2) (20 + 8 * j) k ((μ.1 (20 + 8 * j) k) - 1)) (19 + 8 * j) 5 ((μ.1 (19 + 8 * j) 5) - 1) else (bif decide ((μ.1 (19 + 8 * j) 4) ≤ (2 : Int32)) then μ else (bif decide ((μ.1 (22 + 8 * j) 2) = 1) then (bif decide ((μ.1 (23 + 8 * j) 2) = (nI k)) then z_ui (z_ui (z_ui μ (22 + 8 * j) 2 2) (20 + 8 * j) k ((μ.1 (20 + 8 * j) k) - 1)) (19 + 8 * j) 5 ((μ.1 (19 + 8 * j) 5) - 1) else (bif decide ((μ.1 (19 + 8 * j) 4) ≤ (3 : Int32)) then μ else (bif decide ((μ.1 (22 + 8 * j) 3) = 1) then (bif decide ((μ.1 (23 + 8 * j) 3) = (nI k)) then z_ui (z_ui (z_ui μ (22 + 8 * j) 3 2) (20 + 8 * j) k ((μ.1 (20 + 8 * j) k) - 1)) (19 + 8 * j) 5 ((μ.1 (19 + 8 * j) 5) - 1) else μ) else μ))) else (bif decide ((μ.1 (19 + 8 * j) 4) ≤ (3 : Int32)) then μ else (bif decide ((μ.1 (22 + 8 * j) 3) = 1) then (bif decide ((μ.1 (23 + 8 * j) 3) = (nI k)) then z_ui (z_ui (z_ui μ (22 + 8 * j) 3 2) (20 + 8 * j) k ((μ.1 (20 + 8 * j) k) - 1)) (19 + 8 * j) 5 ((μ.1 (19 + 8 * j) 5) - 1) else μ) else μ))))) else (bif decide ((μ.1 (19 + 8 * j) 4) ≤ (2 : Int32)) then μ else (bif decide ((μ.1 (22 + 8 * j) 2) = 1) then (bif decide ((μ.1 (23 + 8 * j) 2) = (nI k)) then z_ui (z_ui (z_ui μ (22 + 8 * j) 2 2) (20 + 8 * j) k ((μ.1 (20 + 8 * j) k) - 1)) (19 + 8 * j) 5 ((μ.1 (19 + 8 * j) 5) - 1) else (bif decide ((μ.1 (19 + 8 * j) 4) ≤ (3 : Int32)) then μ else (bif decide ((μ.1 (22 + 8 * j) 3) = 1) then (bif decide ((μ.1 (23 + 8 * j) 3) = (nI k)) then z_ui (z_ui (z_ui μ (22 + 8 * j) 3 2) (20 + 8 * j) k ((μ.1 (20 + 8 * j) k) - 1)) (19 + 8 * j) 5 ((μ.1 (19 + 8 * j) 5) - 1) else μ) else μ))) else (bif decide ((μ.1 (19 + 8 * j) 4) ≤ (3 : Int32)) then μ else (bif decide ((μ.1 (22 + 8 * j) 3) = 1) then (bif decide ((μ.1 (23 + 8 * j) 3) = (nI k)) then z_ui (z_ui (z_ui μ (22 + 8 * j) 3 2) (20 + 8 * j) k ((μ.1 (20 + 8 * j) k) - 1)) (19 + 8 * j) 5 ((μ.1 (19 + 8 * j) 5) - 1) else μ) else μ)))))))))
theorem gc_addToThree (d : Nat) (hd : 3 ≤ d) (μ : zM) (j : Nat) (hj : j < 4) (k : Nat) (hk : k < 34) : z_C d mi_X3_addToThree [.ref (19 + 8 * j), .int (nI k)] μ (fun r μ' => r = some ((bif decide ((fr μ (20 + 8 * j) (nI k)) = 0) then .int 0 else (bif decide ((μ.1 (19 + 8 * j) 4) ≤ (0 : Int32)) then .int 0 else (bif decide ((μ.1 (22 + 8 * j) 0) = 1) then (bif decide ((μ.1 (23 + 8 * j) 0) = (nI k)) then .int 1 else (bif decide ((μ.1 (19 + 8 * j) 4) ≤ (1 : Int32)) then .int 0 else (bif decide ((μ.1 (22 + 8 * j) 1) = 1) then (bif decide ((μ.1 (23 + 8 * j) 1) = (nI k)) then .int 1 else (bif decide ((μ.1 (19 + 8 * j) 4) ≤ (2 : Int32)) then .int 0 else (bif decide ((μ.1 (22 + 8 * j) 2) = 1) then (bif decide ((μ.1 (23 + 8 * j) 2) = (nI k)) then .int 1 else (bif decide ((μ.1 (19 + 8 * j) 4) ≤ (3 : Int32)) then .int 0 else (bif decide ((μ.1 (22 + 8 * j) 3) = 1) then (bif decide ((μ.1 (23 + 8 * j) 3) = (nI k)) then .int 1 else .int 0) else .int 0))) else (bif decide ((μ.1 (19 + 8 * j) 4) ≤ (3 : Int32)) then .int 0 else (bif decide ((μ.1 (22 + 8 * j) 3) = 1) then (bif decide ((μ.1 (23 + 8 * j) 3) = (nI k)) then .int 1 else .int 0) else .int 0))))) else (bif decide ((μ.1 (19 + 8 * j) 4) ≤ (2 : Int32)) then .int 0 else (bif decide ((μ.1 (22 + 8 * j) 2) = 1) then (bif decide ((μ.1 (23 + 8 * j) 2) = (nI k)) then .int 1 else (bif decide ((μ.1 (19 + 8 * j) 4) ≤ (3 : Int32)) then .int 0 else (bif decide ((μ.1 (22 + 8 * j) 3) = 1) then (bif decide ((μ.1 (23 + 8 * j) 3) = (nI k)) then .int 1 else .int 0) else .int 0))) else (bif decide ((μ.1 (19 + 8 * j) 4) ≤ (3 : Int32)) then .int 0 else (bif decide ((μ.1 (22 + 8 * j) 3) = 1) then (bif decide ((μ.1 (23 + 8 * j) 3) = (nI k)) then .int 1 else .int 0) else .int 0))))))) else (bif decide ((μ.1 (19 + 8 * j) 4) ≤ (1 : Int32)) then .int 0 else (bif decide ((μ.1 (22 + 8 * j) 1) = 1) then (bif decide ((μ.1 (23 + 8 * j) 1) = (nI k)) then .int 1 else (bif decide ((μ.1 (19 + 8 * j) 4) ≤ (2 : Int32)) then .int 0 else (bif decide ((μ.1 (22 + 8 * j) 2) = 1) then (bif decide ((μ.1 (23 + 8 * j) 2) = (nI k)) then .int 1 else (bif decide ((μ.1 (19 + 8 * j) 4) ≤ (3 : Int32)) then .int 0 else (bif decide ((μ.1 (22 + 8 * j) 3) = 1) then (bif decide ((μ.1 (23 + 8 * j) 3) = (nI k)) then .int 1 else .int 0) else .int 0))) else (bif decide ((μ.1 (19 + 8 * j) 4) ≤ (3 : Int32)) then .int 0 else (bif decide ((μ.1 (22 + 8 * j) 3) = 1) then (bif decide ((μ.1 (23 + 8 * j) 3) = (nI k)) then .int 1 else .int 0) else .int 0))))) else (bif decide ((μ.1 (19 + 8 * j) 4) ≤ (2 : Int32)) then .int 0 else (bif decide ((μ.1 (22 + 8 * j) 2) = 1) then (bif decide ((μ.1 (23 + 8 * j) 2) = (nI k)) then .int 1 else (bif decide ((μ.1 (19 + 8 * j) 4) ≤ (3 : Int32)) then .int 0 else (bif decide ((μ.1 (22 + 8 * j) 3) = 1) then (bif decide ((μ.1 (23 + 8 * j) 3) = (nI k)) then .int 1 else .int 0) else .int 0))) else (bif decide ((μ.1 (19 + 8 * j) 4) ≤ (3 : Int32)) then .int 0 else (bif decide ((μ.1 (22 + 8 * j) 3) = 1) then (bif decide ((μ.1 (23 + 8 * j) 3) = (nI k)) then .int 1 else .int 0) else .int 0)))))))))) ∧ μ' = aTm μ j k) := by
  refine z_C_in (by decide) (by omega) (fun d' Z ed hc hr => ?_)
  have hH : zH mi_X3_addToThree zt_X3_addToThree 79 3 3 := hh_X3_addToThree
  refine z_rcs hc hH 2 (pc' := 2) (lv' := [(0, .ref (19 + 8 * j)), (1, .int (nI k))]) (st' := [.int (nI k), .ref (19 + 8 * j)]) (μ' := μ) (by rfl) ?_
  refine zq_call hc (z_clv9 hH (by rfl) (by rfl) (by rfl) (by rfl) (sj (P := fun i => okr 79 2 (19 + 8 * i)) hj (by decide +kernel)) (by rfl) (by rfl)) (gc_free d' (by omega) μ j hj (nI k)) (by decide +kernel) (fun r9 μ9 hq => ?_)
  obtain ⟨hμ9, rfl⟩ := hq
  rw [hμ9]
  clear hμ9 μ9
  show Z 0 5 [(0, .ref (19 + 8 * j)), (1, .int (nI k))] [.int (fr μ (20 + 8 * j) (nI k))] μ
  refine zq_if hc hH (by rfl) (tg := 10) (by rfl) (fun h1 => ?_) (fun h1 => ?_)
  · have h1 : (decide ((fr μ (20 + 8 * j) (nI k)) = 0)) = false := decide_eq_false (cm_ne.mp h1)
    refine z_rcs hc hH 4 (pc' := 14) (lv' := [(2, .int 0), (0, .ref (19 + 8 * j)), (1, .int (nI k))]) (st' := [.ref (19 + 8 * j), .int 0]) (μ' := μ) (by rfl) ?_
    refine zq_gfi hc hH (by rfl) (ci := 2) (f := 4) (by rfl) (sj (P := fun i => okf 79 2 4 (19 + 8 * i)) hj (by decide +kernel)) (by rfl) ?_
    refine zq_ic hc hH (by rfl) (tg := 80) (by rfl) (fun h2 => ?_) (fun h2 => ?_)
    · have h2 : (decide ((μ.1 (19 + 8 * j) 4) ≤ (0 : Int32))) = true := decide_eq_true (cm_ge.mp h2)
      refine z_rcs hc hH 1 (pc' := 81) (lv' := [(2, .int 0), (0, .ref (19 + 8 * j)), (1, .int (nI k))]) (st' := [.int 0]) (μ' := μ) (by rfl) ?_
      exact hr 0 81 _ _ _ (some (.int 0)) (by decide +kernel) (z_rx_ok hH (by rfl)) (⟨(by first | with_reducible rfl | (simp only [h1, h2, cond_true, cond_false]; done) | rfl), (by unfold aTm; simp only [h1, h2, cond_true, cond_false])⟩)
    · have h2 : (decide ((μ.1 (19 + 8 * j) 4) ≤ (0 : Int32))) = false := decide_eq_false (cn_ge.mp h2)
      refine z_rcs hc hH 4 (pc' := 26) (lv' := [(2, .int 0), (0, .ref (19 + 8 * j)), (1, .int (nI k))]) (st' := [.ref (19 + 8 * j)]) (μ' := μ) (by rfl) ?_
      refine zq_gfr hc hH (by rfl) (ci := 2) (f := 2) (q := 22 + 8 * j) (by rfl) (sj (P := fun i => okf 79 2 2 (19 + 8 * i)) hj (by decide +kernel)) (by rfl) (sj (P := fun i => Nat.beq (z_gr (19 + 8 * i) 2) (22 + 8 * i)) hj (by decide +kernel)) ?_
      refine z_rcs hc hH 1 (pc' := 30) (lv' := [(2, .int 0), (0, .ref (19 + 8 * j)), (1, .int (nI k))]) (st' := [.int 0, .ref (22 + 8 * j)]) (μ' := μ) (by rfl) ?_
      refine zq_iald hc hH (by rfl) 4 (oka_i (sj (P := fun i => oka 79 1 4 (22 + 8 * i)) hj (by decide +kernel))) (show vp_in (nI 0) 4 from vp_in_nI (by decide) (by decide)) ?_
      rw [show (0 : Int32).toNatClampNeg = 0 from rfl]
      refine z_rcs hc hH 1 (pc' := 32) (lv' := [(2, .int 0), (0, .ref (19 + 8 * j)), (1, .int (nI k))]) (st' := [.int 1, .int (μ.1 (22 + 8 * j) 0)]) (μ' := μ) (by rfl) ?_
      refine zq_ic hc hH (by rfl) (tg := 74) (by rfl) (fun h3 => ?_) (fun h3 => ?_)
      · have h3 : (decide ((μ.1 (22 + 8 * j) 0) = 1)) = false := decide_eq_false (cm_ne.mp h3)
        refine z_rcs hc hH 4 (pc' := 14) (lv' := [(2, .int 1), (0, .ref (19 + 8 * j)), (1, .int (nI k))]) (st' := [.ref (19 + 8 * j), .int 1]) (μ' := μ) (by rfl) ?_
        refine zq_gfi hc hH (by rfl) (ci := 2) (f := 4) (by rfl) (sj (P := fun i => okf 79 2 4 (19 + 8 * i)) hj (by decide +kernel)) (by rfl) ?_
        refine zq_ic hc hH (by rfl) (tg := 80) (by rfl) (fun h4 => ?_) (fun h4 => ?_)
        · have h4 : (decide ((μ.1 (19 + 8 * j) 4) ≤ (1 : Int32))) = true := decide_eq_true (cm_ge.mp h4)
          refine z_rcs hc hH 1 (pc' := 81) (lv' := [(2, .int 1), (0, .ref (19 + 8 * j)), (1, .int (nI k))]) (st' := [.int 0]) (μ' := μ) (by rfl) ?_
          exact hr 0 81 _ _ _ (some (.int 0)) (by decide +kernel) (z_rx_ok hH (by rfl)) (⟨(by first | with_reducible rfl | (simp only [h1, h2, h3, h4, cond_true, cond_false]; done) | rfl), (by unfold aTm; simp only [h1, h2, h3, h4, cond_true, cond_false])⟩)
        · have h4 : (decide ((μ.1 (19 + 8 * j) 4) ≤ (1 : Int32))) = false := decide_eq_false (cn_ge.mp h4)
          refine z_rcs hc hH 4 (pc' := 26) (lv' := [(2, .int 1), (0, .ref (19 + 8 * j)), (1, .int (nI k))]) (st' := [.ref (19 + 8 * j)]) (μ' := μ) (by rfl) ?_
          refine zq_gfr hc hH (by rfl) (ci := 2) (f := 2) (q := 22 + 8 * j) (by rfl) (sj (P := fun i => okf 79 2 2 (19 + 8 * i)) hj (by decide +kernel)) (by rfl) (sj (P := fun i => Nat.beq (z_gr (19 + 8 * i) 2) (22 + 8 * i)) hj (by decide +kernel)) ?_
          refine z_rcs hc hH 1 (pc' := 30) (lv' := [(2, .int 1), (0, .ref (19 + 8 * j)), (1, .int (nI k))]) (st' := [.int 1, .ref (22 + 8 * j)]) (μ' := μ) (by rfl) ?_
          refine zq_iald hc hH (by rfl) 4 (oka_i (sj (P := fun i => oka 79 1 4 (22 + 8 * i)) hj (by decide +kernel))) (show vp_in (nI 1) 4 from vp_in_nI (by decide) (by decide)) ?_
          rw [show (1 : Int32).toNatClampNeg = 1 from rfl]
          refine z_rcs hc hH 1 (pc' := 32) (lv' := [(2, .int 1), (0, .ref (19 + 8 * j)), (1, .int (nI k))]) (st' := [.int 1, .int (μ.1 (22 + 8 * j) 1)]) (μ' := μ) (by rfl) ?_
          refine zq_ic hc hH (by rfl) (tg := 74) (by rfl) (fun h5 => ?_) (fun h5 => ?_)
          · have h5 : (decide ((μ.1 (22 + 8 * j) 1) = 1)) = false := decide_eq_false (cm_ne.mp h5)
            refine z_rcs hc hH 4 (pc' := 14) (lv' := [(2, .int 2), (0, .ref (19 + 8 * j)), (1, .int (nI k))]) (st' := [.ref (19 + 8 * j), .int 2]) (μ' := μ) (by rfl) ?_
            refine zq_gfi hc hH (by rfl) (ci := 2) (f := 4) (by rfl) (sj (P := fun i => okf 79 2 4 (19 + 8 * i)) hj (by decide +kernel)) (by rfl) ?_
            refine zq_ic hc hH (by rfl) (tg := 80) (by rfl) (fun h6 => ?_) (fun h6 => ?_)
            · have h6 : (decide ((μ.1 (19 + 8 * j) 4) ≤ (2 : Int32))) = true := decide_eq_true (cm_ge.mp h6)
              refine z_rcs hc hH 1 (pc' := 81) (lv' := [(2, .int 2), (0, .ref (19 + 8 * j)), (1, .int (nI k))]) (st' := [.int 0]) (μ' := μ) (by rfl) ?_
              exact hr 0 81 _ _ _ (some (.int 0)) (by decide +kernel) (z_rx_ok hH (by rfl)) (⟨(by first | with_reducible rfl | (simp only [h1, h2, h3, h4, h5, h6, cond_true, cond_false]; done) | rfl), (by unfold aTm; simp only [h1, h2, h3, h4, h5, h6, cond_true, cond_false])⟩)
            · have h6 : (decide ((μ.1 (19 + 8 * j) 4) ≤ (2 : Int32))) = false := decide_eq_false (cn_ge.mp h6)
              refine z_rcs hc hH 4 (pc' := 26) (lv' := [(2, .int 2), (0, .ref (19 + 8 * j)), (1, .int (nI k))]) (st' := [.ref (19 + 8 * j)]) (μ' := μ) (by rfl) ?_
              refine zq_gfr hc hH (by rfl) (ci := 2) (f := 2) (q := 22 + 8 * j) (by rfl) (sj (P := fun i => okf 79 2 2 (19 + 8 * i)) hj (by decide +kernel)) (by rfl) (sj (P := fun i => Nat.beq (z_gr (19 + 8 * i) 2) (22 + 8 * i)) hj (by decide +kernel)) ?_
              refine z_rcs hc hH 1 (pc' := 30) (lv' := [(2, .int 2), (0, .ref (19 + 8 * j)), (1, .int (nI k))]) (st' := [.int 2, .ref (22 + 8 * j)]) (μ' := μ) (by rfl) ?_
              refine zq_iald hc hH (by rfl) 4 (oka_i (sj (P := fun i => oka 79 1 4 (22 + 8 * i)) hj (by decide +kernel))) (show vp_in (nI 2) 4 from vp_in_nI (by decide) (by decide)) ?_
              rw [show (2 : Int32).toNatClampNeg = 2 from rfl]
              refine z_rcs hc hH 1 (pc' := 32) (lv' := [(2, .int 2), (0, .ref (19 + 8 * j)), (1, .int (nI k))]) (st' := [.int 1, .int (μ.1 (22 + 8 * j) 2)]) (μ' := μ) (by rfl) ?_
              refine zq_ic hc hH (by rfl) (tg := 74) (by rfl) (fun h7 => ?_) (fun h7 => ?_)
              · have h7 : (decide ((μ.1 (22 + 8 * j) 2) = 1)) = false := decide_eq_false (cm_ne.mp h7)
                refine z_rcs hc hH 4 (pc' := 14) (lv' := [(2, .int 3), (0, .ref (19 + 8 * j)), (1, .int (nI k))]) (st' := [.ref (19 + 8 * j), .int 3]) (μ' := μ) (by rfl) ?_
                refine zq_gfi hc hH (by rfl) (ci := 2) (f := 4) (by rfl) (sj (P := fun i => okf 79 2 4 (19 + 8 * i)) hj (by decide +kernel)) (by rfl) ?_
                refine zq_ic hc hH (by rfl) (tg := 80) (by rfl) (fun h8 => ?_) (fun h8 => ?_)
                · have h8 : (decide ((μ.1 (19 + 8 * j) 4) ≤ (3 : Int32))) = true := decide_eq_true (cm_ge.mp h8)
                  refine z_rcs hc hH 1 (pc' := 81) (lv' := [(2, .int 3), (0, .ref (19 + 8 * j)), (1, .int (nI k))]) (st' := [.int 0]) (μ' := μ) (by rfl) ?_
                  exact hr 0 81 _ _ _ (some (.int 0)) (by decide +kernel) (z_rx_ok hH (by rfl)) (⟨(by first | with_reducible rfl | (simp only [h1, h2, h3, h4, h5, h6, h7, h8, cond_true, cond_false]; done) | rfl), (by unfold aTm; simp only [h1, h2, h3, h4, h5, h6, h7, h8, cond_true, cond_false])⟩)
                · have h8 : (decide ((μ.1 (19 + 8 * j) 4) ≤ (3 : Int32))) = false := decide_eq_false (cn_ge.mp h8)
                  refine z_rcs hc hH 4 (pc' := 26) (lv' := [(2, .int 3), (0, .ref (19 + 8 * j)), (1, .int (nI k))]) (st' := [.ref (19 + 8 * j)]) (μ' := μ) (by rfl) ?_
                  refine zq_gfr hc hH (by rfl) (ci := 2) (f := 2) (q := 22 + 8 * j) (by rfl) (sj (P := fun i => okf 79 2 2 (19 + 8 * i)) hj (by decide +kernel)) (by rfl) (sj (P := fun i => Nat.beq (z_gr (19 + 8 * i) 2) (22 + 8 * i)) hj (by decide +kernel)) ?_
                  refine z_rcs hc hH 1 (pc' := 30) (lv' := [(2, .int 3), (0, .ref (19 + 8 * j)), (1, .int (nI k))]) (st' := [.int 3, .ref (22 + 8 * j)]) (μ' := μ) (by rfl) ?_
                  refine zq_iald hc hH (by rfl) 4 (oka_i (sj (P := fun i => oka 79 1 4 (22 + 8 * i)) hj (by decide +kernel))) (show vp_in (nI 3) 4 from vp_in_nI (by decide) (by decide)) ?_
                  rw [show (3 : Int32).toNatClampNeg = 3 from rfl]
                  refine z_rcs hc hH 1 (pc' := 32) (lv' := [(2, .int 3), (0, .ref (19 + 8 * j)), (1, .int (nI k))]) (st' := [.int 1, .int (μ.1 (22 + 8 * j) 3)]) (μ' := μ) (by rfl) ?_
                  refine zq_ic hc hH (by rfl) (tg := 74) (by rfl) (fun h9 => ?_) (fun h9 => ?_)
                  · have h9 : (decide ((μ.1 (22 + 8 * j) 3) = 1)) = false := decide_eq_false (cm_ne.mp h9)
                    refine z_rcs hc hH 4 (pc' := 14) (lv' := [(2, .int 4), (0, .ref (19 + 8 * j)), (1, .int (nI k))]) (st' := [.ref (19 + 8 * j), .int 4]) (μ' := μ) (by rfl) ?_
                    refine zq_gfi hc hH (by rfl) (ci := 2) (f := 4) (by rfl) (sj (P := fun i => okf 79 2 4 (19 + 8 * i)) hj (by decide +kernel)) (by rfl) ?_
                    refine zq_ic hc hH (by rfl) (tg := 80) (by rfl) (fun h10 => ?_) (fun h10 => ?_)
                    · have h10 : (decide ((μ.1 (19 + 8 * j) 4) ≤ (4 : Int32))) = true := decide_eq_true (cm_ge.mp h10)
                      refine z_rcs hc hH 1 (pc' := 81) (lv' := [(2, .int 4), (0, .ref (19 + 8 * j)), (1, .int (nI k))]) (st' := [.int 0]) (μ' := μ) (by rfl) ?_
                      exact hr 0 81 _ _ _ (some (.int 0)) (by decide +kernel) (z_rx_ok hH (by rfl)) (⟨(by first | with_reducible rfl | (simp only [h1, h2, h3, h4, h5, h6, h7, h8, h9, h10, cond_true, cond_false]; done) | rfl), (by unfold aTm; simp only [h1, h2, h3, h4, h5, h6, h7, h8, h9, h10, cond_true, cond_false])⟩)
                    · have h10 : (decide ((μ.1 (19 + 8 * j) 4) ≤ (4 : Int32))) = false := decide_eq_false (cn_ge.mp h10)
                      refine z_rcs hc hH 4 (pc' := 81) (lv' := [(2, .int 4), (0, .ref (19 + 8 * j)), (1, .int (nI k))]) (st' := [.int 0]) (μ' := μ) (by rfl) ?_
                      exact hr 0 81 _ _ _ (some (.int 0)) (by decide +kernel) (z_rx_ok hH (by rfl)) (⟨(by first | with_reducible rfl | (simp only [h1, h2, h3, h4, h5, h6, h7, h8, h9, h10, cond_true, cond_false]; done) | rfl), (by unfold aTm; simp only [h1, h2, h3, h4, h5, h6, h7, h8, h9, h10, cond_true, cond_false])⟩)
                  · have h9 : (decide ((μ.1 (22 + 8 * j) 3) = 1)) = true := decide_eq_true (cn_ne.mp h9)
                    refine z_rcs hc hH 1 (pc' := 36) (lv' := [(2, .int 3), (0, .ref (19 + 8 * j)), (1, .int (nI k))]) (st' := [.ref (19 + 8 * j)]) (μ' := μ) (by rfl) ?_
                    refine zq_gfr hc hH (by rfl) (ci := 2) (f := 3) (q := 23 + 8 * j) (by rfl) (sj (P := fun i => okf 79 2 3 (19 + 8 * i)) hj (by decide +kernel)) (by rfl) (sj (P := fun i => Nat.beq (z_gr (19 + 8 * i) 3) (23 + 8 * i)) hj (by decide +kernel)) ?_
                    refine z_rcs hc hH 1 (pc' := 40) (lv' := [(2, .int 3), (0, .ref (19 + 8 * j)), (1, .int (nI k))]) (st' := [.int 3, .ref (23 + 8 * j)]) (μ' := μ) (by rfl) ?_
                    refine zq_iald hc hH (by rfl) 4 (oka_i (sj (P := fun i => oka 79 1 4 (23 + 8 * i)) hj (by decide +kernel))) (show vp_in (nI 3) 4 from vp_in_nI (by decide) (by decide)) ?_
                    rw [show (3 : Int32).toNatClampNeg = 3 from rfl]
                    refine z_rcs hc hH 1 (pc' := 42) (lv' := [(2, .int 3), (0, .ref (19 + 8 * j)), (1, .int (nI k))]) (st' := [.int (nI k), .int (μ.1 (23 + 8 * j) 3)]) (μ' := μ) (by rfl) ?_
                    refine zq_ic hc hH (by rfl) (tg := 74) (by rfl) (fun h11 => ?_) (fun h11 => ?_)
                    · have h11 : (decide ((μ.1 (23 + 8 * j) 3) = (nI k))) = false := decide_eq_false (cm_ne.mp h11)
                      refine z_rcs hc hH 4 (pc' := 14) (lv' := [(2, .int 4), (0, .ref (19 + 8 * j)), (1, .int (nI k))]) (st' := [.ref (19 + 8 * j), .int 4]) (μ' := μ) (by rfl) ?_
                      refine zq_gfi hc hH (by rfl) (ci := 2) (f := 4) (by rfl) (sj (P := fun i => okf 79 2 4 (19 + 8 * i)) hj (by decide +kernel)) (by rfl) ?_
                      refine zq_ic hc hH (by rfl) (tg := 80) (by rfl) (fun h12 => ?_) (fun h12 => ?_)
                      · have h12 : (decide ((μ.1 (19 + 8 * j) 4) ≤ (4 : Int32))) = true := decide_eq_true (cm_ge.mp h12)
                        refine z_rcs hc hH 1 (pc' := 81) (lv' := [(2, .int 4), (0, .ref (19 + 8 * j)), (1, .int (nI k))]) (st' := [.int 0]) (μ' := μ) (by rfl) ?_
                        exact hr 0 81 _ _ _ (some (.int 0)) (by decide +kernel) (z_rx_ok hH (by rfl)) (⟨(by first | with_reducible rfl | (simp only [h1, h2, h3, h4, h5, h6, h7, h8, h9, h11, h12, cond_true, cond_false]; done) | rfl), (by unfold aTm; simp only [h1, h2, h3, h4, h5, h6, h7, h8, h9, h11, h12, cond_true, cond_false])⟩)
                      · have h12 : (decide ((μ.1 (19 + 8 * j) 4) ≤ (4 : Int32))) = false := decide_eq_false (cn_ge.mp h12)
                        refine z_rcs hc hH 4 (pc' := 81) (lv' := [(2, .int 4), (0, .ref (19 + 8 * j)), (1, .int (nI k))]) (st' := [.int 0]) (μ' := μ) (by rfl) ?_
                        exact hr 0 81 _ _ _ (some (.int 0)) (by decide +kernel) (z_rx_ok hH (by rfl)) (⟨(by first | with_reducible rfl | (simp only [h1, h2, h3, h4, h5, h6, h7, h8, h9, h11, h12, cond_true, cond_false]; done) | rfl), (by unfold aTm; simp only [h1, h2, h3, h4, h5, h6, h7, h8, h9, h11, h12, cond_true, cond_false])⟩)
                    · have h11 : (decide ((μ.1 (23 + 8 * j) 3) = (nI k))) = true := decide_eq_true (cn_ne.mp h11)
                      refine z_rcs hc hH 1 (pc' := 46) (lv' := [(2, .int 3), (0, .ref (19 + 8 * j)), (1, .int (nI k))]) (st' := [.ref (19 + 8 * j)]) (μ' := μ) (by rfl) ?_
                      refine zq_gfr hc hH (by rfl) (ci := 2) (f := 2) (q := 22 + 8 * j) (by rfl) (sj (P := fun i => okf 79 2 2 (19 + 8 * i)) hj (by decide +kernel)) (by rfl) (sj (P := fun i => Nat.beq (z_gr (19 + 8 * i) 2) (22 + 8 * i)) hj (by decide +kernel)) ?_
                      refine z_rcs hc hH 2 (pc' := 51) (lv' := [(2, .int 3), (0, .ref (19 + 8 * j)), (1, .int (nI k))]) (st' := [.int 2, .int 3, .ref (22 + 8 * j)]) (μ' := μ) (by rfl) ?_
                      refine zq_iast hc hH (by rfl) 4 (oka_i (sj (P := fun i => oka 79 1 4 (22 + 8 * i)) hj (by decide +kernel))).2 (show vp_in (nI 3) 4 from vp_in_nI (by decide) (by decide)) ?_
                      rw [show (3 : Int32).toNatClampNeg = 3 from rfl]
                      show Z 0 52 [(2, .int 3), (0, .ref (19 + 8 * j)), (1, .int (nI k))] [] (z_ui μ (22 + 8 * j) 3 2)
                      refine z_rcs0 hc hH 1 (pc' := 53) (lv' := [(2, .int 3), (0, .ref (19 + 8 * j)), (1, .int (nI k))]) (st' := [.ref (19 + 8 * j)]) (by rfl) ?_
                      refine zq_gfr hc hH (by rfl) (ci := 2) (f := 0) (q := 20 + 8 * j) (by rfl) (sj (P := fun i => okf 79 2 0 (19 + 8 * i)) hj (by decide +kernel)) (by rfl) (sj (P := fun i => Nat.beq (z_gr (19 + 8 * i) 0) (20 + 8 * i)) hj (by decide +kernel)) ?_
                      refine z_rcs0 hc hH 2 (pc' := 58) (lv' := [(2, .int 3), (0, .ref (19 + 8 * j)), (1, .int (nI k))]) (st' := [.int (nI k), .ref (20 + 8 * j), .int (nI k), .ref (20 + 8 * j)]) (by rfl) ?_
                      refine zq_iald hc hH (by rfl) 34 (oka_i (sj (P := fun i => oka 79 1 34 (20 + 8 * i)) hj (by decide +kernel))) (vp_in_nI (by omega) (by decide)) ?_
                      rw [nI_clamp (by omega)]
                      refine zV1 (Z := Z) (ui_o (by first | decide | omega)) ?_
                      refine z_rcs0 hc hH 2 (pc' := 61) (lv' := [(2, .int 3), (0, .ref (19 + 8 * j)), (1, .int (nI k))]) (st' := [.int ((μ.1 (20 + 8 * j) k) - 1), .int (nI k), .ref (20 + 8 * j)]) (by rfl) ?_
                      refine zq_iast hc hH (by rfl) 34 (oka_i (sj (P := fun i => oka 79 1 34 (20 + 8 * i)) hj (by decide +kernel))).2 (vp_in_nI (by omega) (by decide)) ?_
                      rw [nI_clamp (by omega)]
                      show Z 0 62 [(2, .int 3), (0, .ref (19 + 8 * j)), (1, .int (nI k))] [] (z_ui (z_ui μ (22 + 8 * j) 3 2) (20 + 8 * j) k ((μ.1 (20 + 8 * j) k) - 1))
                      refine z_rcs0 hc hH 2 (pc' := 64) (lv' := [(2, .int 3), (0, .ref (19 + 8 * j)), (1, .int (nI k))]) (st' := [.ref (19 + 8 * j), .ref (19 + 8 * j)]) (by rfl) ?_
                      refine zq_gfi hc hH (by rfl) (ci := 2) (f := 5) (by rfl) (sj (P := fun i => okf 79 2 5 (19 + 8 * i)) hj (by decide +kernel)) (by rfl) ?_
                      refine zV1 (Z := Z) (Eq.trans (ui_o (by first | decide | omega)) (ui_o (by first | decide | omega))) ?_
                      refine z_rcs0 hc hH 2 (pc' := 69) (lv' := [(2, .int 3), (0, .ref (19 + 8 * j)), (1, .int (nI k))]) (st' := [.int ((μ.1 (19 + 8 * j) 5) - 1), .ref (19 + 8 * j)]) (by rfl) ?_
                      refine zq_pfi hc hH (by rfl) (ci := 2) (f := 5) (by rfl) (sj (P := fun i => okf 79 2 5 (19 + 8 * i)) hj (by decide +kernel)) (by rfl) ?_
                      show Z 0 72 [(2, .int 3), (0, .ref (19 + 8 * j)), (1, .int (nI k))] [] (z_ui (z_ui (z_ui μ (22 + 8 * j) 3 2) (20 + 8 * j) k ((μ.1 (20 + 8 * j) k) - 1)) (19 + 8 * j) 5 ((μ.1 (19 + 8 * j) 5) - 1))
                      refine z_rcs0 hc hH 1 (pc' := 73) (lv' := [(2, .int 3), (0, .ref (19 + 8 * j)), (1, .int (nI k))]) (st' := [.int 1]) (by rfl) ?_
                      exact hr 0 73 _ _ _ (some (.int 1)) (by decide +kernel) (z_rx_ok hH (by rfl)) (⟨(by first | with_reducible rfl | (simp only [h1, h2, h3, h4, h5, h6, h7, h8, h9, h11, cond_true, cond_false]; done) | rfl), (by unfold aTm; simp only [h1, h2, h3, h4, h5, h6, h7, h8, h9, h11, cond_true, cond_false])⟩)
              · have h7 : (decide ((μ.1 (22 + 8 * j) 2) = 1)) = true := decide_eq_true (cn_ne.mp h7)
                refine z_rcs hc hH 1 (pc' := 36) (lv' := [(2, .int 2), (0, .ref (19 + 8 * j)), (1, .int (nI k))]) (st' := [.ref (19 + 8 * j)]) (μ' := μ) (by rfl) ?_
                refine zq_gfr hc hH (by rfl) (ci := 2) (f := 3) (q := 23 + 8 * j) (by rfl) (sj (P := fun i => okf 79 2 3 (19 + 8 * i)) hj (by decide +kernel)) (by rfl) (sj (P := fun i => Nat.beq (z_gr (19 + 8 * i) 3) (23 + 8 * i)) hj (by decide +kernel)) ?_
                refine z_rcs hc hH 1 (pc' := 40) (lv' := [(2, .int 2), (0, .ref (19 + 8 * j)), (1, .int (nI k))]) (st' := [.int 2, .ref (23 + 8 * j)]) (μ' := μ) (by rfl) ?_
                refine zq_iald hc hH (by rfl) 4 (oka_i (sj (P := fun i => oka 79 1 4 (23 + 8 * i)) hj (by decide +kernel))) (show vp_in (nI 2) 4 from vp_in_nI (by decide) (by decide)) ?_
                rw [show (2 : Int32).toNatClampNeg = 2 from rfl]
                refine z_rcs hc hH 1 (pc' := 42) (lv' := [(2, .int 2), (0, .ref (19 + 8 * j)), (1, .int (nI k))]) (st' := [.int (nI k), .int (μ.1 (23 + 8 * j) 2)]) (μ' := μ) (by rfl) ?_
                refine zq_ic hc hH (by rfl) (tg := 74) (by rfl) (fun h13 => ?_) (fun h13 => ?_)
                · have h13 : (decide ((μ.1 (23 + 8 * j) 2) = (nI k))) = false := decide_eq_false (cm_ne.mp h13)
                  refine z_rcs hc hH 4 (pc' := 14) (lv' := [(2, .int 3), (0, .ref (19 + 8 * j)), (1, .int (nI k))]) (st' := [.ref (19 + 8 * j), .int 3]) (μ' := μ) (by rfl) ?_
                  refine zq_gfi hc hH (by rfl) (ci := 2) (f := 4) (by rfl) (sj (P := fun i => okf 79 2 4 (19 + 8 * i)) hj (by decide +kernel)) (by rfl) ?_
                  refine zq_ic hc hH (by rfl) (tg := 80) (by rfl) (fun h14 => ?_) (fun h14 => ?_)
                  · have h14 : (decide ((μ.1 (19 + 8 * j) 4) ≤ (3 : Int32))) = true := decide_eq_true (cm_ge.mp h14)
                    refine z_rcs hc hH 1 (pc' := 81) (lv' := [(2, .int 3), (0, .ref (19 + 8 * j)), (1, .int (nI k))]) (st' := [.int 0]) (μ' := μ) (by rfl) ?_
                    exact hr 0 81 _ _ _ (some (.int 0)) (by decide +kernel) (z_rx_ok hH (by rfl)) (⟨(by first | with_reducible rfl | (simp only [h1, h2, h3, h4, h5, h6, h7, h13, h14, cond_true, cond_false]; done) | rfl), (by unfold aTm; simp only [h1, h2, h3, h4, h5, h6, h7, h13, h14, cond_true, cond_false])⟩)
                  · have h14 : (decide ((μ.1 (19 + 8 * j) 4) ≤ (3 : Int32))) = false := decide_eq_false (cn_ge.mp h14)
                    refine z_rcs hc hH 4 (pc' := 26) (lv' := [(2, .int 3), (0, .ref (19 + 8 * j)), (1, .int (nI k))]) (st' := [.ref (19 + 8 * j)]) (μ' := μ) (by rfl) ?_
                    refine zq_gfr hc hH (by rfl) (ci := 2) (f := 2) (q := 22 + 8 * j) (by rfl) (sj (P := fun i => okf 79 2 2 (19 + 8 * i)) hj (by decide +kernel)) (by rfl) (sj (P := fun i => Nat.beq (z_gr (19 + 8 * i) 2) (22 + 8 * i)) hj (by decide +kernel)) ?_
                    refine z_rcs hc hH 1 (pc' := 30) (lv' := [(2, .int 3), (0, .ref (19 + 8 * j)), (1, .int (nI k))]) (st' := [.int 3, .ref (22 + 8 * j)]) (μ' := μ) (by rfl) ?_
                    refine zq_iald hc hH (by rfl) 4 (oka_i (sj (P := fun i => oka 79 1 4 (22 + 8 * i)) hj (by decide +kernel))) (show vp_in (nI 3) 4 from vp_in_nI (by decide) (by decide)) ?_
                    rw [show (3 : Int32).toNatClampNeg = 3 from rfl]
                    refine z_rcs hc hH 1 (pc' := 32) (lv' := [(2, .int 3), (0, .ref (19 + 8 * j)), (1, .int (nI k))]) (st' := [.int 1, .int (μ.1 (22 + 8 * j) 3)]) (μ' := μ) (by rfl) ?_
                    refine zq_ic hc hH (by rfl) (tg := 74) (by rfl) (fun h15 => ?_) (fun h15 => ?_)
                    · have h15 : (decide ((μ.1 (22 + 8 * j) 3) = 1)) = false := decide_eq_false (cm_ne.mp h15)
                      refine z_rcs hc hH 4 (pc' := 14) (lv' := [(2, .int 4), (0, .ref (19 + 8 * j)), (1, .int (nI k))]) (st' := [.ref (19 + 8 * j), .int 4]) (μ' := μ) (by rfl) ?_
                      refine zq_gfi hc hH (by rfl) (ci := 2) (f := 4) (by rfl) (sj (P := fun i => okf 79 2 4 (19 + 8 * i)) hj (by decide +kernel)) (by rfl) ?_
                      refine zq_ic hc hH (by rfl) (tg := 80) (by rfl) (fun h16 => ?_) (fun h16 => ?_)
                      · have h16 : (decide ((μ.1 (19 + 8 * j) 4) ≤ (4 : Int32))) = true := decide_eq_true (cm_ge.mp h16)
                        refine z_rcs hc hH 1 (pc' := 81) (lv' := [(2, .int 4), (0, .ref (19 + 8 * j)), (1, .int (nI k))]) (st' := [.int 0]) (μ' := μ) (by rfl) ?_
                        exact hr 0 81 _ _ _ (some (.int 0)) (by decide +kernel) (z_rx_ok hH (by rfl)) (⟨(by first | with_reducible rfl | (simp only [h1, h2, h3, h4, h5, h6, h7, h13, h14, h15, h16, cond_true, cond_false]; done) | rfl), (by unfold aTm; simp only [h1, h2, h3, h4, h5, h6, h7, h13, h14, h15, h16, cond_true, cond_false])⟩)
                      · have h16 : (decide ((μ.1 (19 + 8 * j) 4) ≤ (4 : Int32))) = false := decide_eq_false (cn_ge.mp h16)
                        refine z_rcs hc hH 4 (pc' := 81) (lv' := [(2, .int 4), (0, .ref (19 + 8 * j)), (1, .int (nI k))]) (st' := [.int 0]) (μ' := μ) (by rfl) ?_
                        exact hr 0 81 _ _ _ (some (.int 0)) (by decide +kernel) (z_rx_ok hH (by rfl)) (⟨(by first | with_reducible rfl | (simp only [h1, h2, h3, h4, h5, h6, h7, h13, h14, h15, h16, cond_true, cond_false]; done) | rfl), (by unfold aTm; simp only [h1, h2, h3, h4, h5, h6, h7, h13, h14, h15, h16, cond_true, cond_false])⟩)
                    · have h15 : (decide ((μ.1 (22 + 8 * j) 3) = 1)) = true := decide_eq_true (cn_ne.mp h15)
                      refine z_rcs hc hH 1 (pc' := 36) (lv' := [(2, .int 3), (0, .ref (19 + 8 * j)), (1, .int (nI k))]) (st' := [.ref (19 + 8 * j)]) (μ' := μ) (by rfl) ?_
                      refine zq_gfr hc hH (by rfl) (ci := 2) (f := 3) (q := 23 + 8 * j) (by rfl) (sj (P := fun i => okf 79 2 3 (19 + 8 * i)) hj (by decide +kernel)) (by rfl) (sj (P := fun i => Nat.beq (z_gr (19 + 8 * i) 3) (23 + 8 * i)) hj (by decide +kernel)) ?_
                      refine z_rcs hc hH 1 (pc' := 40) (lv' := [(2, .int 3), (0, .ref (19 + 8 * j)), (1, .int (nI k))]) (st' := [.int 3, .ref (23 + 8 * j)]) (μ' := μ) (by rfl) ?_
                      refine zq_iald hc hH (by rfl) 4 (oka_i (sj (P := fun i => oka 79 1 4 (23 + 8 * i)) hj (by decide +kernel))) (show vp_in (nI 3) 4 from vp_in_nI (by decide) (by decide)) ?_
                      rw [show (3 : Int32).toNatClampNeg = 3 from rfl]
                      refine z_rcs hc hH 1 (pc' := 42) (lv' := [(2, .int 3), (0, .ref (19 + 8 * j)), (1, .int (nI k))]) (st' := [.int (nI k), .int (μ.1 (23 + 8 * j) 3)]) (μ' := μ) (by rfl) ?_
                      refine zq_ic hc hH (by rfl) (tg := 74) (by rfl) (fun h17 => ?_) (fun h17 => ?_)
                      · have h17 : (decide ((μ.1 (23 + 8 * j) 3) = (nI k))) = false := decide_eq_false (cm_ne.mp h17)
                        refine z_rcs hc hH 4 (pc' := 14) (lv' := [(2, .int 4), (0, .ref (19 + 8 * j)), (1, .int (nI k))]) (st' := [.ref (19 + 8 * j), .int 4]) (μ' := μ) (by rfl) ?_
                        refine zq_gfi hc hH (by rfl) (ci := 2) (f := 4) (by rfl) (sj (P := fun i => okf 79 2 4 (19 + 8 * i)) hj (by decide +kernel)) (by rfl) ?_
                        refine zq_ic hc hH (by rfl) (tg := 80) (by rfl) (fun h18 => ?_) (fun h18 => ?_)
                        · have h18 : (decide ((μ.1 (19 + 8 * j) 4) ≤ (4 : Int32))) = true := decide_eq_true (cm_ge.mp h18)
                          refine z_rcs hc hH 1 (pc' := 81) (lv' := [(2, .int 4), (0, .ref (19 + 8 * j)), (1, .int (nI k))]) (st' := [.int 0]) (μ' := μ) (by rfl) ?_
                          exact hr 0 81 _ _ _ (some (.int 0)) (by decide +kernel) (z_rx_ok hH (by rfl)) (⟨(by first | with_reducible rfl | (simp only [h1, h2, h3, h4, h5, h6, h7, h13, h14, h15, h17, h18, cond_true, cond_false]; done) | rfl), (by unfold aTm; simp only [h1, h2, h3, h4, h5, h6, h7, h13, h14, h15, h17, h18, cond_true, cond_false])⟩)
                        · have h18 : (decide ((μ.1 (19 + 8 * j) 4) ≤ (4 : Int32))) = false := decide_eq_false (cn_ge.mp h18)
                          refine z_rcs hc hH 4 (pc' := 81) (lv' := [(2, .int 4), (0, .ref (19 + 8 * j)), (1, .int (nI k))]) (st' := [.int 0]) (μ' := μ) (by rfl) ?_
                          exact hr 0 81 _ _ _ (some (.int 0)) (by decide +kernel) (z_rx_ok hH (by rfl)) (⟨(by first | with_reducible rfl | (simp only [h1, h2, h3, h4, h5, h6, h7, h13, h14, h15, h17, h18, cond_true, cond_false]; done) | rfl), (by unfold aTm; simp only [h1, h2, h3, h4, h5, h6, h7, h13, h14, h15, h17, h18, cond_true, cond_false])⟩)
                      · have h17 : (decide ((μ.1 (23 + 8 * j) 3) = (nI k))) = true := decide_eq_true (cn_ne.mp h17)
                        refine z_rcs hc hH 1 (pc' := 46) (lv' := [(2, .int 3), (0, .ref (19 + 8 * j)), (1, .int (nI k))]) (st' := [.ref (19 + 8 * j)]) (μ' := μ) (by rfl) ?_
                        refine zq_gfr hc hH (by rfl) (ci := 2) (f := 2) (q := 22 + 8 * j) (by rfl) (sj (P := fun i => okf 79 2 2 (19 + 8 * i)) hj (by decide +kernel)) (by rfl) (sj (P := fun i => Nat.beq (z_gr (19 + 8 * i) 2) (22 + 8 * i)) hj (by decide +kernel)) ?_
                        refine z_rcs hc hH 2 (pc' := 51) (lv' := [(2, .int 3), (0, .ref (19 + 8 * j)), (1, .int (nI k))]) (st' := [.int 2, .int 3, .ref (22 + 8 * j)]) (μ' := μ) (by rfl) ?_
                        refine zq_iast hc hH (by rfl) 4 (oka_i (sj (P := fun i => oka 79 1 4 (22 + 8 * i)) hj (by decide +kernel))).2 (show vp_in (nI 3) 4 from vp_in_nI (by decide) (by decide)) ?_
                        rw [show (3 : Int32).toNatClampNeg = 3 from rfl]
                        show Z 0 52 [(2, .int 3), (0, .ref (19 + 8 * j)), (1, .int (nI k))] [] (z_ui μ (22 + 8 * j) 3 2)
                        refine z_rcs0 hc hH 1 (pc' := 53) (lv' := [(2, .int 3), (0, .ref (19 + 8 * j)), (1, .int (nI k))]) (st' := [.ref (19 + 8 * j)]) (by rfl) ?_
                        refine zq_gfr hc hH (by rfl) (ci := 2) (f := 0) (q := 20 + 8 * j) (by rfl) (sj (P := fun i => okf 79 2 0 (19 + 8 * i)) hj (by decide +kernel)) (by rfl) (sj (P := fun i => Nat.beq (z_gr (19 + 8 * i) 0) (20 + 8 * i)) hj (by decide +kernel)) ?_
                        refine z_rcs0 hc hH 2 (pc' := 58) (lv' := [(2, .int 3), (0, .ref (19 + 8 * j)), (1, .int (nI k))]) (st' := [.int (nI k), .ref (20 + 8 * j), .int (nI k), .ref (20 + 8 * j)]) (by rfl) ?_
                        refine zq_iald hc hH (by rfl) 34 (oka_i (sj (P := fun i => oka 79 1 34 (20 + 8 * i)) hj (by decide +kernel))) (vp_in_nI (by omega) (by decide)) ?_
                        rw [nI_clamp (by omega)]
                        refine zV1 (Z := Z) (ui_o (by first | decide | omega)) ?_
                        refine z_rcs0 hc hH 2 (pc' := 61) (lv' := [(2, .int 3), (0, .ref (19 + 8 * j)), (1, .int (nI k))]) (st' := [.int ((μ.1 (20 + 8 * j) k) - 1), .int (nI k), .ref (20 + 8 * j)]) (by rfl) ?_
                        refine zq_iast hc hH (by rfl) 34 (oka_i (sj (P := fun i => oka 79 1 34 (20 + 8 * i)) hj (by decide +kernel))).2 (vp_in_nI (by omega) (by decide)) ?_
                        rw [nI_clamp (by omega)]
                        show Z 0 62 [(2, .int 3), (0, .ref (19 + 8 * j)), (1, .int (nI k))] [] (z_ui (z_ui μ (22 + 8 * j) 3 2) (20 + 8 * j) k ((μ.1 (20 + 8 * j) k) - 1))
                        refine z_rcs0 hc hH 2 (pc' := 64) (lv' := [(2, .int 3), (0, .ref (19 + 8 * j)), (1, .int (nI k))]) (st' := [.ref (19 + 8 * j), .ref (19 + 8 * j)]) (by rfl) ?_
                        refine zq_gfi hc hH (by rfl) (ci := 2) (f := 5) (by rfl) (sj (P := fun i => okf 79 2 5 (19 + 8 * i)) hj (by decide +kernel)) (by rfl) ?_
                        refine zV1 (Z := Z) (Eq.trans (ui_o (by first | decide | omega)) (ui_o (by first | decide | omega))) ?_
                        refine z_rcs0 hc hH 2 (pc' := 69) (lv' := [(2, .int 3), (0, .ref (19 + 8 * j)), (1, .int (nI k))]) (st' := [.int ((μ.1 (19 + 8 * j) 5) - 1), .ref (19 + 8 * j)]) (by rfl) ?_
                        refine zq_pfi hc hH (by rfl) (ci := 2) (f := 5) (by rfl) (sj (P := fun i => okf 79 2 5 (19 + 8 * i)) hj (by decide +kernel)) (by rfl) ?_
                        show Z 0 72 [(2, .int 3), (0, .ref (19 + 8 * j)), (1, .int (nI k))] [] (z_ui (z_ui (z_ui μ (22 + 8 * j) 3 2) (20 + 8 * j) k ((μ.1 (20 + 8 * j) k) - 1)) (19 + 8 * j) 5 ((μ.1 (19 + 8 * j) 5) - 1))
                        refine z_rcs0 hc hH 1 (pc' := 73) (lv' := [(2, .int 3), (0, .ref (19 + 8 * j)), (1, .int (nI k))]) (st' := [.int 1]) (by rfl) ?_
                        exact hr 0 73 _ _ _ (some (.int 1)) (by decide +kernel) (z_rx_ok hH (by rfl)) (⟨(by first | with_reducible rfl | (simp only [h1, h2, h3, h4, h5, h6, h7, h13, h14, h15, h17, cond_true, cond_false]; done) | rfl), (by unfold aTm; simp only [h1, h2, h3, h4, h5, h6, h7, h13, h14, h15, h17, cond_true, cond_false])⟩)
                · have h13 : (decide ((μ.1 (23 + 8 * j) 2) = (nI k))) = true := decide_eq_true (cn_ne.mp h13)
                  refine z_rcs hc hH 1 (pc' := 46) (lv' := [(2, .int 2), (0, .ref (19 + 8 * j)), (1, .int (nI k))]) (st' := [.ref (19 + 8 * j)]) (μ' := μ) (by rfl) ?_
                  refine zq_gfr hc hH (by rfl) (ci := 2) (f := 2) (q := 22 + 8 * j) (by rfl) (sj (P := fun i => okf 79 2 2 (19 + 8 * i)) hj (by decide +kernel)) (by rfl) (sj (P := fun i => Nat.beq (z_gr (19 + 8 * i) 2) (22 + 8 * i)) hj (by decide +kernel)) ?_
                  refine z_rcs hc hH 2 (pc' := 51) (lv' := [(2, .int 2), (0, .ref (19 + 8 * j)), (1, .int (nI k))]) (st' := [.int 2, .int 2, .ref (22 + 8 * j)]) (μ' := μ) (by rfl) ?_
                  refine zq_iast hc hH (by rfl) 4 (oka_i (sj (P := fun i => oka 79 1 4 (22 + 8 * i)) hj (by decide +kernel))).2 (show vp_in (nI 2) 4 from vp_in_nI (by decide) (by decide)) ?_
                  rw [show (2 : Int32).toNatClampNeg = 2 from rfl]
                  show Z 0 52 [(2, .int 2), (0, .ref (19 + 8 * j)), (1, .int (nI k))] [] (z_ui μ (22 + 8 * j) 2 2)
                  refine z_rcs0 hc hH 1 (pc' := 53) (lv' := [(2, .int 2), (0, .ref (19 + 8 * j)), (1, .int (nI k))]) (st' := [.ref (19 + 8 * j)]) (by rfl) ?_
                  refine zq_gfr hc hH (by rfl) (ci := 2) (f := 0) (q := 20 + 8 * j) (by rfl) (sj (P := fun i => okf 79 2 0 (19 + 8 * i)) hj (by decide +kernel)) (by rfl) (sj (P := fun i => Nat.beq (z_gr (19 + 8 * i) 0) (20 + 8 * i)) hj (by decide +kernel)) ?_
                  refine z_rcs0 hc hH 2 (pc' := 58) (lv' := [(2, .int 2), (0, .ref (19 + 8 * j)), (1, .int (nI k))]) (st' := [.int (nI k), .ref (20 + 8 * j), .int (nI k), .ref (20 + 8 * j)]) (by rfl) ?_
                  refine zq_iald hc hH (by rfl) 34 (oka_i (sj (P := fun i => oka 79 1 34 (20 + 8 * i)) hj (by decide +kernel))) (vp_in_nI (by omega) (by decide)) ?_
                  rw [nI_clamp (by omega)]
                  refine zV1 (Z := Z) (ui_o (by first | decide | omega)) ?_
                  refine z_rcs0 hc hH 2 (pc' := 61) (lv' := [(2, .int 2), (0, .ref (19 + 8 * j)), (1, .int (nI k))]) (st' := [.int ((μ.1 (20 + 8 * j) k) - 1), .int (nI k), .ref (20 + 8 * j)]) (by rfl) ?_
                  refine zq_iast hc hH (by rfl) 34 (oka_i (sj (P := fun i => oka 79 1 34 (20 + 8 * i)) hj (by decide +kernel))).2 (vp_in_nI (by omega) (by decide)) ?_
                  rw [nI_clamp (by omega)]
                  show Z 0 62 [(2, .int 2), (0, .ref (19 + 8 * j)), (1, .int (nI k))] [] (z_ui (z_ui μ (22 + 8 * j) 2 2) (20 + 8 * j) k ((μ.1 (20 + 8 * j) k) - 1))
                  refine z_rcs0 hc hH 2 (pc' := 64) (lv' := [(2, .int 2), (0, .ref (19 + 8 * j)), (1, .int (nI k))]) (st' := [.ref (19 + 8 * j), .ref (19 + 8 * j)]) (by rfl) ?_
                  refine zq_gfi hc hH (by rfl) (ci := 2) (f := 5) (by rfl) (sj (P := fun i => okf 79 2 5 (19 + 8 * i)) hj (by decide +kernel)) (by rfl) ?_
                  refine zV1 (Z := Z) (Eq.trans (ui_o (by first | decide | omega)) (ui_o (by first | decide | omega))) ?_
                  refine z_rcs0 hc hH 2 (pc' := 69) (lv' := [(2, .int 2), (0, .ref (19 + 8 * j)), (1, .int (nI k))]) (st' := [.int ((μ.1 (19 + 8 * j) 5) - 1), .ref (19 + 8 * j)]) (by rfl) ?_
                  refine zq_pfi hc hH (by rfl) (ci := 2) (f := 5) (by rfl) (sj (P := fun i => okf 79 2 5 (19 + 8 * i)) hj (by decide +kernel)) (by rfl) ?_
                  show Z 0 72 [(2, .int 2), (0, .ref (19 + 8 * j)), (1, .int (nI k))] [] (z_ui (z_ui (z_ui μ (22 + 8 * j) 2 2) (20 + 8 * j) k ((μ.1 (20 + 8 * j) k) - 1)) (19 + 8 * j) 5 ((μ.1 (19 + 8 * j) 5) - 1))
                  refine z_rcs0 hc hH 1 (pc' := 73) (lv' := [(2, .int 2), (0, .ref (19 + 8 * j)), (1, .int (nI k))]) (st' := [.int 1]) (by rfl) ?_
                  exact hr 0 73 _ _ _ (some (.int 1)) (by decide +kernel) (z_rx_ok hH (by rfl)) (⟨(by first | with_reducible rfl | (simp only [h1, h2, h3, h4, h5, h6, h7, h13, cond_true, cond_false]; done) | rfl), (by unfold aTm; simp only [h1, h2, h3, h4, h5, h6, h7, h13, cond_true, cond_false])⟩)
          · have h5 : (decide ((μ.1 (22 + 8 * j) 1) = 1)) = true := decide_eq_true (cn_ne.mp h5)
            refine z_rcs hc hH 1 (pc' := 36) (lv' := [(2, .int 1), (0, .ref (19 + 8 * j)), (1, .int (nI k))]) (st' := [.ref (19 + 8 * j)]) (μ' := μ) (by rfl) ?_
            refine zq_gfr hc hH (by rfl) (ci := 2) (f := 3) (q := 23 + 8 * j) (by rfl) (sj (P := fun i => okf 79 2 3 (19 + 8 * i)) hj (by decide +kernel)) (by rfl) (sj (P := fun i => Nat.beq (z_gr (19 + 8 * i) 3) (23 + 8 * i)) hj (by decide +kernel)) ?_
            refine z_rcs hc hH 1 (pc' := 40) (lv' := [(2, .int 1), (0, .ref (19 + 8 * j)), (1, .int (nI k))]) (st' := [.int 1, .ref (23 + 8 * j)]) (μ' := μ) (by rfl) ?_
            refine zq_iald hc hH (by rfl) 4 (oka_i (sj (P := fun i => oka 79 1 4 (23 + 8 * i)) hj (by decide +kernel))) (show vp_in (nI 1) 4 from vp_in_nI (by decide) (by decide)) ?_
            rw [show (1 : Int32).toNatClampNeg = 1 from rfl]
            refine z_rcs hc hH 1 (pc' := 42) (lv' := [(2, .int 1), (0, .ref (19 + 8 * j)), (1, .int (nI k))]) (st' := [.int (nI k), .int (μ.1 (23 + 8 * j) 1)]) (μ' := μ) (by rfl) ?_
            refine zq_ic hc hH (by rfl) (tg := 74) (by rfl) (fun h19 => ?_) (fun h19 => ?_)
            · have h19 : (decide ((μ.1 (23 + 8 * j) 1) = (nI k))) = false := decide_eq_false (cm_ne.mp h19)
              refine z_rcs hc hH 4 (pc' := 14) (lv' := [(2, .int 2), (0, .ref (19 + 8 * j)), (1, .int (nI k))]) (st' := [.ref (19 + 8 * j), .int 2]) (μ' := μ) (by rfl) ?_
              refine zq_gfi hc hH (by rfl) (ci := 2) (f := 4) (by rfl) (sj (P := fun i => okf 79 2 4 (19 + 8 * i)) hj (by decide +kernel)) (by rfl) ?_
              refine zq_ic hc hH (by rfl) (tg := 80) (by rfl) (fun h20 => ?_) (fun h20 => ?_)
              · have h20 : (decide ((μ.1 (19 + 8 * j) 4) ≤ (2 : Int32))) = true := decide_eq_true (cm_ge.mp h20)
                refine z_rcs hc hH 1 (pc' := 81) (lv' := [(2, .int 2), (0, .ref (19 + 8 * j)), (1, .int (nI k))]) (st' := [.int 0]) (μ' := μ) (by rfl) ?_
                exact hr 0 81 _ _ _ (some (.int 0)) (by decide +kernel) (z_rx_ok hH (by rfl)) (⟨(by first | with_reducible rfl | (simp only [h1, h2, h3, h4, h5, h19, h20, cond_true, cond_false]; done) | rfl), (by unfold aTm; simp only [h1, h2, h3, h4, h5, h19, h20, cond_true, cond_false])⟩)
              · have h20 : (decide ((μ.1 (19 + 8 * j) 4) ≤ (2 : Int32))) = false := decide_eq_false (cn_ge.mp h20)
                refine z_rcs hc hH 4 (pc' := 26) (lv' := [(2, .int 2), (0, .ref (19 + 8 * j)), (1, .int (nI k))]) (st' := [.ref (19 + 8 * j)]) (μ' := μ) (by rfl) ?_
                refine zq_gfr hc hH (by rfl) (ci := 2) (f := 2) (q := 22 + 8 * j) (by rfl) (sj (P := fun i => okf 79 2 2 (19 + 8 * i)) hj (by decide +kernel)) (by rfl) (sj (P := fun i => Nat.beq (z_gr (19 + 8 * i) 2) (22 + 8 * i)) hj (by decide +kernel)) ?_
                refine z_rcs hc hH 1 (pc' := 30) (lv' := [(2, .int 2), (0, .ref (19 + 8 * j)), (1, .int (nI k))]) (st' := [.int 2, .ref (22 + 8 * j)]) (μ' := μ) (by rfl) ?_
                refine zq_iald hc hH (by rfl) 4 (oka_i (sj (P := fun i => oka 79 1 4 (22 + 8 * i)) hj (by decide +kernel))) (show vp_in (nI 2) 4 from vp_in_nI (by decide) (by decide)) ?_
                rw [show (2 : Int32).toNatClampNeg = 2 from rfl]
                refine z_rcs hc hH 1 (pc' := 32) (lv' := [(2, .int 2), (0, .ref (19 + 8 * j)), (1, .int (nI k))]) (st' := [.int 1, .int (μ.1 (22 + 8 * j) 2)]) (μ' := μ) (by rfl) ?_
                refine zq_ic hc hH (by rfl) (tg := 74) (by rfl) (fun h21 => ?_) (fun h21 => ?_)
                · have h21 : (decide ((μ.1 (22 + 8 * j) 2) = 1)) = false := decide_eq_false (cm_ne.mp h21)
                  refine z_rcs hc hH 4 (pc' := 14) (lv' := [(2, .int 3), (0, .ref (19 + 8 * j)), (1, .int (nI k))]) (st' := [.ref (19 + 8 * j), .int 3]) (μ' := μ) (by rfl) ?_
                  refine zq_gfi hc hH (by rfl) (ci := 2) (f := 4) (by rfl) (sj (P := fun i => okf 79 2 4 (19 + 8 * i)) hj (by decide +kernel)) (by rfl) ?_
                  refine zq_ic hc hH (by rfl) (tg := 80) (by rfl) (fun h22 => ?_) (fun h22 => ?_)
                  · have h22 : (decide ((μ.1 (19 + 8 * j) 4) ≤ (3 : Int32))) = true := decide_eq_true (cm_ge.mp h22)
                    refine z_rcs hc hH 1 (pc' := 81) (lv' := [(2, .int 3), (0, .ref (19 + 8 * j)), (1, .int (nI k))]) (st' := [.int 0]) (μ' := μ) (by rfl) ?_
                    exact hr 0 81 _ _ _ (some (.int 0)) (by decide +kernel) (z_rx_ok hH (by rfl)) (⟨(by first | with_reducible rfl | (simp only [h1, h2, h3, h4, h5, h19, h20, h21, h22, cond_true, cond_false]; done) | rfl), (by unfold aTm; simp only [h1, h2, h3, h4, h5, h19, h20, h21, h22, cond_true, cond_false])⟩)
                  · have h22 : (decide ((μ.1 (19 + 8 * j) 4) ≤ (3 : Int32))) = false := decide_eq_false (cn_ge.mp h22)
                    refine z_rcs hc hH 4 (pc' := 26) (lv' := [(2, .int 3), (0, .ref (19 + 8 * j)), (1, .int (nI k))]) (st' := [.ref (19 + 8 * j)]) (μ' := μ) (by rfl) ?_
                    refine zq_gfr hc hH (by rfl) (ci := 2) (f := 2) (q := 22 + 8 * j) (by rfl) (sj (P := fun i => okf 79 2 2 (19 + 8 * i)) hj (by decide +kernel)) (by rfl) (sj (P := fun i => Nat.beq (z_gr (19 + 8 * i) 2) (22 + 8 * i)) hj (by decide +kernel)) ?_
                    refine z_rcs hc hH 1 (pc' := 30) (lv' := [(2, .int 3), (0, .ref (19 + 8 * j)), (1, .int (nI k))]) (st' := [.int 3, .ref (22 + 8 * j)]) (μ' := μ) (by rfl) ?_
                    refine zq_iald hc hH (by rfl) 4 (oka_i (sj (P := fun i => oka 79 1 4 (22 + 8 * i)) hj (by decide +kernel))) (show vp_in (nI 3) 4 from vp_in_nI (by decide) (by decide)) ?_
                    rw [show (3 : Int32).toNatClampNeg = 3 from rfl]
                    refine z_rcs hc hH 1 (pc' := 32) (lv' := [(2, .int 3), (0, .ref (19 + 8 * j)), (1, .int (nI k))]) (st' := [.int 1, .int (μ.1 (22 + 8 * j) 3)]) (μ' := μ) (by rfl) ?_
                    refine zq_ic hc hH (by rfl) (tg := 74) (by rfl) (fun h23 => ?_) (fun h23 => ?_)
                    · have h23 : (decide ((μ.1 (22 + 8 * j) 3) = 1)) = false := decide_eq_false (cm_ne.mp h23)
                      refine z_rcs hc hH 4 (pc' := 14) (lv' := [(2, .int 4), (0, .ref (19 + 8 * j)), (1, .int (nI k))]) (st' := [.ref (19 + 8 * j), .int 4]) (μ' := μ) (by rfl) ?_
                      refine zq_gfi hc hH (by rfl) (ci := 2) (f := 4) (by rfl) (sj (P := fun i => okf 79 2 4 (19 + 8 * i)) hj (by decide +kernel)) (by rfl) ?_
                      refine zq_ic hc hH (by rfl) (tg := 80) (by rfl) (fun h24 => ?_) (fun h24 => ?_)
                      · have h24 : (decide ((μ.1 (19 + 8 * j) 4) ≤ (4 : Int32))) = true := decide_eq_true (cm_ge.mp h24)
                        refine z_rcs hc hH 1 (pc' := 81) (lv' := [(2, .int 4), (0, .ref (19 + 8 * j)), (1, .int (nI k))]) (st' := [.int 0]) (μ' := μ) (by rfl) ?_
                        exact hr 0 81 _ _ _ (some (.int 0)) (by decide +kernel) (z_rx_ok hH (by rfl)) (⟨(by first | with_reducible rfl | (simp only [h1, h2, h3, h4, h5, h19, h20, h21, h22, h23, h24, cond_true, cond_false]; done) | rfl), (by unfold aTm; simp only [h1, h2, h3, h4, h5, h19, h20, h21, h22, h23, h24, cond_true, cond_false])⟩)
                      · have h24 : (decide ((μ.1 (19 + 8 * j) 4) ≤ (4 : Int32))) = false := decide_eq_false (cn_ge.mp h24)
                        refine z_rcs hc hH 4 (pc' := 81) (lv' := [(2, .int 4), (0, .ref (19 + 8 * j)), (1, .int (nI k))]) (st' := [.int 0]) (μ' := μ) (by rfl) ?_
                        exact hr 0 81 _ _ _ (some (.int 0)) (by decide +kernel) (z_rx_ok hH (by rfl)) (⟨(by first | with_reducible rfl | (simp only [h1, h2, h3, h4, h5, h19, h20, h21, h22, h23, h24, cond_true, cond_false]; done) | rfl), (by unfold aTm; simp only [h1, h2, h3, h4, h5, h19, h20, h21, h22, h23, h24, cond_true, cond_false])⟩)
                    · have h23 : (decide ((μ.1 (22 + 8 * j) 3) = 1)) = true := decide_eq_true (cn_ne.mp h23)
                      refine z_rcs hc hH 1 (pc' := 36) (lv' := [(2, .int 3), (0, .ref (19 + 8 * j)), (1, .int (nI k))]) (st' := [.ref (19 + 8 * j)]) (μ' := μ) (by rfl) ?_
                      refine zq_gfr hc hH (by rfl) (ci := 2) (f := 3) (q := 23 + 8 * j) (by rfl) (sj (P := fun i => okf 79 2 3 (19 + 8 * i)) hj (by decide +kernel)) (by rfl) (sj (P := fun i => Nat.beq (z_gr (19 + 8 * i) 3) (23 + 8 * i)) hj (by decide +kernel)) ?_
                      refine z_rcs hc hH 1 (pc' := 40) (lv' := [(2, .int 3), (0, .ref (19 + 8 * j)), (1, .int (nI k))]) (st' := [.int 3, .ref (23 + 8 * j)]) (μ' := μ) (by rfl) ?_
                      refine zq_iald hc hH (by rfl) 4 (oka_i (sj (P := fun i => oka 79 1 4 (23 + 8 * i)) hj (by decide +kernel))) (show vp_in (nI 3) 4 from vp_in_nI (by decide) (by decide)) ?_
                      rw [show (3 : Int32).toNatClampNeg = 3 from rfl]
                      refine z_rcs hc hH 1 (pc' := 42) (lv' := [(2, .int 3), (0, .ref (19 + 8 * j)), (1, .int (nI k))]) (st' := [.int (nI k), .int (μ.1 (23 + 8 * j) 3)]) (μ' := μ) (by rfl) ?_
                      refine zq_ic hc hH (by rfl) (tg := 74) (by rfl) (fun h25 => ?_) (fun h25 => ?_)
                      · have h25 : (decide ((μ.1 (23 + 8 * j) 3) = (nI k))) = false := decide_eq_false (cm_ne.mp h25)
                        refine z_rcs hc hH 4 (pc' := 14) (lv' := [(2, .int 4), (0, .ref (19 + 8 * j)), (1, .int (nI k))]) (st' := [.ref (19 + 8 * j), .int 4]) (μ' := μ) (by rfl) ?_
                        refine zq_gfi hc hH (by rfl) (ci := 2) (f := 4) (by rfl) (sj (P := fun i => okf 79 2 4 (19 + 8 * i)) hj (by decide +kernel)) (by rfl) ?_
                        refine zq_ic hc hH (by rfl) (tg := 80) (by rfl) (fun h26 => ?_) (fun h26 => ?_)
                        · have h26 : (decide ((μ.1 (19 + 8 * j) 4) ≤ (4 : Int32))) = true := decide_eq_true (cm_ge.mp h26)
                          refine z_rcs hc hH 1 (pc' := 81) (lv' := [(2, .int 4), (0, .ref (19 + 8 * j)), (1, .int (nI k))]) (st' := [.int 0]) (μ' := μ) (by rfl) ?_
                          exact hr 0 81 _ _ _ (some (.int 0)) (by decide +kernel) (z_rx_ok hH (by rfl)) (⟨(by first | with_reducible rfl | (simp only [h1, h2, h3, h4, h5, h19, h20, h21, h22, h23, h25, h26, cond_true, cond_false]; done) | rfl), (by unfold aTm; simp only [h1, h2, h3, h4, h5, h19, h20, h21, h22, h23, h25, h26, cond_true, cond_false])⟩)
                        · have h26 : (decide ((μ.1 (19 + 8 * j) 4) ≤ (4 : Int32))) = false := decide_eq_false (cn_ge.mp h26)
                          refine z_rcs hc hH 4 (pc' := 81) (lv' := [(2, .int 4), (0, .ref (19 + 8 * j)), (1, .int (nI k))]) (st' := [.int 0]) (μ' := μ) (by rfl) ?_
                          exact hr 0 81 _ _ _ (some (.int 0)) (by decide +kernel) (z_rx_ok hH (by rfl)) (⟨(by first | with_reducible rfl | (simp only [h1, h2, h3, h4, h5, h19, h20, h21, h22, h23, h25, h26, cond_true, cond_false]; done) | rfl), (by unfold aTm; simp only [h1, h2, h3, h4, h5, h19, h20, h21, h22, h23, h25, h26, cond_true, cond_false])⟩)
                      · have h25 : (decide ((μ.1 (23 + 8 * j) 3) = (nI k))) = true := decide_eq_true (cn_ne.mp h25)
                        refine z_rcs hc hH 1 (pc' := 46) (lv' := [(2, .int 3), (0, .ref (19 + 8 * j)), (1, .int (nI k))]) (st' := [.ref (19 + 8 * j)]) (μ' := μ) (by rfl) ?_
                        refine zq_gfr hc hH (by rfl) (ci := 2) (f := 2) (q := 22 + 8 * j) (by rfl) (sj (P := fun i => okf 79 2 2 (19 + 8 * i)) hj (by decide +kernel)) (by rfl) (sj (P := fun i => Nat.beq (z_gr (19 + 8 * i) 2) (22 + 8 * i)) hj (by decide +kernel)) ?_
                        refine z_rcs hc hH 2 (pc' := 51) (lv' := [(2, .int 3), (0, .ref (19 + 8 * j)), (1, .int (nI k))]) (st' := [.int 2, .int 3, .ref (22 + 8 * j)]) (μ' := μ) (by rfl) ?_
                        refine zq_iast hc hH (by rfl) 4 (oka_i (sj (P := fun i => oka 79 1 4 (22 + 8 * i)) hj (by decide +kernel))).2 (show vp_in (nI 3) 4 from vp_in_nI (by decide) (by decide)) ?_
                        rw [show (3 : Int32).toNatClampNeg = 3 from rfl]
                        show Z 0 52 [(2, .int 3), (0, .ref (19 + 8 * j)), (1, .int (nI k))] [] (z_ui μ (22 + 8 * j) 3 2)
                        refine z_rcs0 hc hH 1 (pc' := 53) (lv' := [(2, .int 3), (0, .ref (19 + 8 * j)), (1, .int (nI k))]) (st' := [.ref (19 + 8 * j)]) (by rfl) ?_
                        refine zq_gfr hc hH (by rfl) (ci := 2) (f := 0) (q := 20 + 8 * j) (by rfl) (sj (P := fun i => okf 79 2 0 (19 + 8 * i)) hj (by decide +kernel)) (by rfl) (sj (P := fun i => Nat.beq (z_gr (19 + 8 * i) 0) (20 + 8 * i)) hj (by decide +kernel)) ?_
                        refine z_rcs0 hc hH 2 (pc' := 58) (lv' := [(2, .int 3), (0, .ref (19 + 8 * j)), (1, .int (nI k))]) (st' := [.int (nI k), .ref (20 + 8 * j), .int (nI k), .ref (20 + 8 * j)]) (by rfl) ?_
                        refine zq_iald hc hH (by rfl) 34 (oka_i (sj (P := fun i => oka 79 1 34 (20 + 8 * i)) hj (by decide +kernel))) (vp_in_nI (by omega) (by decide)) ?_
                        rw [nI_clamp (by omega)]
                        refine zV1 (Z := Z) (ui_o (by first | decide | omega)) ?_
                        refine z_rcs0 hc hH 2 (pc' := 61) (lv' := [(2, .int 3), (0, .ref (19 + 8 * j)), (1, .int (nI k))]) (st' := [.int ((μ.1 (20 + 8 * j) k) - 1), .int (nI k), .ref (20 + 8 * j)]) (by rfl) ?_
                        refine zq_iast hc hH (by rfl) 34 (oka_i (sj (P := fun i => oka 79 1 34 (20 + 8 * i)) hj (by decide +kernel))).2 (vp_in_nI (by omega) (by decide)) ?_
                        rw [nI_clamp (by omega)]
                        show Z 0 62 [(2, .int 3), (0, .ref (19 + 8 * j)), (1, .int (nI k))] [] (z_ui (z_ui μ (22 + 8 * j) 3 2) (20 + 8 * j) k ((μ.1 (20 + 8 * j) k) - 1))
                        refine z_rcs0 hc hH 2 (pc' := 64) (lv' := [(2, .int 3), (0, .ref (19 + 8 * j)), (1, .int (nI k))]) (st' := [.ref (19 + 8 * j), .ref (19 + 8 * j)]) (by rfl) ?_
                        refine zq_gfi hc hH (by rfl) (ci := 2) (f := 5) (by rfl) (sj (P := fun i => okf 79 2 5 (19 + 8 * i)) hj (by decide +kernel)) (by rfl) ?_
                        refine zV1 (Z := Z) (Eq.trans (ui_o (by first | decide | omega)) (ui_o (by first | decide | omega))) ?_
                        refine z_rcs0 hc hH 2 (pc' := 69) (lv' := [(2, .int 3), (0, .ref (19 + 8 * j)), (1, .int (nI k))]) (st' := [.int ((μ.1 (19 + 8 * j) 5) - 1), .ref (19 + 8 * j)]) (by rfl) ?_
                        refine zq_pfi hc hH (by rfl) (ci := 2) (f := 5) (by rfl) (sj (P := fun i => okf 79 2 5 (19 + 8 * i)) hj (by decide +kernel)) (by rfl) ?_
                        show Z 0 72 [(2, .int 3), (0, .ref (19 + 8 * j)), (1, .int (nI k))] [] (z_ui (z_ui (z_ui μ (22 + 8 * j) 3 2) (20 + 8 * j) k ((μ.1 (20 + 8 * j) k) - 1)) (19 + 8 * j) 5 ((μ.1 (19 + 8 * j) 5) - 1))
                        refine z_rcs0 hc hH 1 (pc' := 73) (lv' := [(2, .int 3), (0, .ref (19 + 8 * j)), (1, .int (nI k))]) (st' := [.int 1]) (by rfl) ?_
                        exact hr 0 73 _ _ _ (some (.int 1)) (by decide +kernel) (z_rx_ok hH (by rfl)) (⟨(by first | with_reducible rfl | (simp only [h1, h2, h3, h4, h5, h19, h20, h21, h22, h23, h25, cond_true, cond_false]; done) | rfl), (by unfold aTm; simp only [h1, h2, h3, h4, h5, h19, h20, h21, h22, h23, h25, cond_true, cond_false])⟩)
                · have h21 : (decide ((μ.1 (22 + 8 * j) 2) = 1)) = true := decide_eq_true (cn_ne.mp h21)
                  refine z_rcs hc hH 1 (pc' := 36) (lv' := [(2, .int 2), (0, .ref (19 + 8 * j)), (1, .int (nI k))]) (st' := [.ref (19 + 8 * j)]) (μ' := μ) (by rfl) ?_
                  refine zq_gfr hc hH (by rfl) (ci := 2) (f := 3) (q := 23 + 8 * j) (by rfl) (sj (P := fun i => okf 79 2 3 (19 + 8 * i)) hj (by decide +kernel)) (by rfl) (sj (P := fun i => Nat.beq (z_gr (19 + 8 * i) 3) (23 + 8 * i)) hj (by decide +kernel)) ?_
                  refine z_rcs hc hH 1 (pc' := 40) (lv' := [(2, .int 2), (0, .ref (19 + 8 * j)), (1, .int (nI k))]) (st' := [.int 2, .ref (23 + 8 * j)]) (μ' := μ) (by rfl) ?_
                  refine zq_iald hc hH (by rfl) 4 (oka_i (sj (P := fun i => oka 79 1 4 (23 + 8 * i)) hj (by decide +kernel))) (show vp_in (nI 2) 4 from vp_in_nI (by decide) (by decide)) ?_
                  rw [show (2 : Int32).toNatClampNeg = 2 from rfl]
                  refine z_rcs hc hH 1 (pc' := 42) (lv' := [(2, .int 2), (0, .ref (19 + 8 * j)), (1, .int (nI k))]) (st' := [.int (nI k), .int (μ.1 (23 + 8 * j) 2)]) (μ' := μ) (by rfl) ?_
                  refine zq_ic hc hH (by rfl) (tg := 74) (by rfl) (fun h27 => ?_) (fun h27 => ?_)
                  · have h27 : (decide ((μ.1 (23 + 8 * j) 2) = (nI k))) = false := decide_eq_false (cm_ne.mp h27)
                    refine z_rcs hc hH 4 (pc' := 14) (lv' := [(2, .int 3), (0, .ref (19 + 8 * j)), (1, .int (nI k))]) (st' := [.ref (19 + 8 * j), .int 3]) (μ' := μ) (by rfl) ?_
                    refine zq_gfi hc hH (by rfl) (ci := 2) (f := 4) (by rfl) (sj (P := fun i => okf 79 2 4 (19 + 8 * i)) hj (by decide +kernel)) (by rfl) ?_
                    refine zq_ic hc hH (by rfl) (tg := 80) (by rfl) (fun h28 => ?_) (fun h28 => ?_)
                    · have h28 : (decide ((μ.1 (19 + 8 * j) 4) ≤ (3 : Int32))) = true := decide_eq_true (cm_ge.mp h28)
                      refine z_rcs hc hH 1 (pc' := 81) (lv' := [(2, .int 3), (0, .ref (19 + 8 * j)), (1, .int (nI k))]) (st' := [.int 0]) (μ' := μ) (by rfl) ?_
                      exact hr 0 81 _ _ _ (some (.int 0)) (by decide +kernel) (z_rx_ok hH (by rfl)) (⟨(by first | with_reducible rfl | (simp only [h1, h2, h3, h4, h5, h19, h20, h21, h27, h28, cond_true, cond_false]; done) | rfl), (by unfold aTm; simp only [h1, h2, h3, h4, h5, h19, h20, h21, h27, h28, cond_true, cond_false])⟩)
                    · have h28 : (decide ((μ.1 (19 + 8 * j) 4) ≤ (3 : Int32))) = false := decide_eq_false (cn_ge.mp h28)
                      refine z_rcs hc hH 4 (pc' := 26) (lv' := [(2, .int 3), (0, .ref (19 + 8 * j)), (1, .int (nI k))]) (st' := [.ref (19 + 8 * j)]) (μ' := μ) (by rfl) ?_
                      refine zq_gfr hc hH (by rfl) (ci := 2) (f := 2) (q := 22 + 8 * j) (by rfl) (sj (P := fun i => okf 79 2 2 (19 + 8 * i)) hj (by decide +kernel)) (by rfl) (sj (P := fun i => Nat.beq (z_gr (19 + 8 * i) 2) (22 + 8 * i)) hj (by decide +kernel)) ?_
                      refine z_rcs hc hH 1 (pc' := 30) (lv' := [(2, .int 3), (0, .ref (19 + 8 * j)), (1, .int (nI k))]) (st' := [.int 3, .ref (22 + 8 * j)]) (μ' := μ) (by rfl) ?_
                      refine zq_iald hc hH (by rfl) 4 (oka_i (sj (P := fun i => oka 79 1 4 (22 + 8 * i)) hj (by decide +kernel))) (show vp_in (nI 3) 4 from vp_in_nI (by decide) (by decide)) ?_
                      rw [show (3 : Int32).toNatClampNeg = 3 from rfl]
                      refine z_rcs hc hH 1 (pc' := 32) (lv' := [(2, .int 3), (0, .ref (19 + 8 * j)), (1, .int (nI k))]) (st' := [.int 1, .int (μ.1 (22 + 8 * j) 3)]) (μ' := μ) (by rfl) ?_
                      refine zq_ic hc hH (by rfl) (tg := 74) (by rfl) (fun h29 => ?_) (fun h29 => ?_)
                      · have h29 : (decide ((μ.1 (22 + 8 * j) 3) = 1)) = false := decide_eq_false (cm_ne.mp h29)
                        refine z_rcs hc hH 4 (pc' := 14) (lv' := [(2, .int 4), (0, .ref (19 + 8 * j)), (1, .int (nI k))]) (st' := [.ref (19 + 8 * j), .int 4]) (μ' := μ) (by rfl) ?_
                        refine zq_gfi hc hH (by rfl) (ci := 2) (f := 4) (by rfl) (sj (P := fun i => okf 79 2 4 (19 + 8 * i)) hj (by decide +kernel)) (by rfl) ?_
                        refine zq_ic hc hH (by rfl) (tg := 80) (by rfl) (fun h30 => ?_) (fun h30 => ?_)
                        · have h30 : (decide ((μ.1 (19 + 8 * j) 4) ≤ (4 : Int32))) = true := decide_eq_true (cm_ge.mp h30)
                          refine z_rcs hc hH 1 (pc' := 81) (lv' := [(2, .int 4), (0, .ref (19 + 8 * j)), (1, .int (nI k))]) (st' := [.int 0]) (μ' := μ) (by rfl) ?_
                          exact hr 0 81 _ _ _ (some (.int 0)) (by decide +kernel) (z_rx_ok hH (by rfl)) (⟨(by first | with_reducible rfl | (simp only [h1, h2, h3, h4, h5, h19, h20, h21, h27, h28, h29, h30, cond_true, cond_false]; done) | rfl), (by unfold aTm; simp only [h1, h2, h3, h4, h5, h19, h20, h21, h27, h28, h29, h30, cond_true, cond_false])⟩)
                        · have h30 : (decide ((μ.1 (19 + 8 * j) 4) ≤ (4 : Int32))) = false := decide_eq_false (cn_ge.mp h30)
                          refine z_rcs hc hH 4 (pc' := 81) (lv' := [(2, .int 4), (0, .ref (19 + 8 * j)), (1, .int (nI k))]) (st' := [.int 0]) (μ' := μ) (by rfl) ?_
                          exact hr 0 81 _ _ _ (some (.int 0)) (by decide +kernel) (z_rx_ok hH (by rfl)) (⟨(by first | with_reducible rfl | (simp only [h1, h2, h3, h4, h5, h19, h20, h21, h27, h28, h29, h30, cond_true, cond_false]; done) | rfl), (by unfold aTm; simp only [h1, h2, h3, h4, h5, h19, h20, h21, h27, h28, h29, h30, cond_true, cond_false])⟩)
                      · have h29 : (decide ((μ.1 (22 + 8 * j) 3) = 1)) = true := decide_eq_true (cn_ne.mp h29)
                        refine z_rcs hc hH 1 (pc' := 36) (lv' := [(2, .int 3), (0, .ref (19 + 8 * j)), (1, .int (nI k))]) (st' := [.ref (19 + 8 * j)]) (μ' := μ) (by rfl) ?_
                        refine zq_gfr hc hH (by rfl) (ci := 2) (f := 3) (q := 23 + 8 * j) (by rfl) (sj (P := fun i => okf 79 2 3 (19 + 8 * i)) hj (by decide +kernel)) (by rfl) (sj (P := fun i => Nat.beq (z_gr (19 + 8 * i) 3) (23 + 8 * i)) hj (by decide +kernel)) ?_
                        refine z_rcs hc hH 1 (pc' := 40) (lv' := [(2, .int 3), (0, .ref (19 + 8 * j)), (1, .int (nI k))]) (st' := [.int 3, .ref (23 + 8 * j)]) (μ' := μ) (by rfl) ?_
                        refine zq_iald hc hH (by rfl) 4 (oka_i (sj (P := fun i => oka 79 1 4 (23 + 8 * i)) hj (by decide +kernel))) (show vp_in (nI 3) 4 from vp_in_nI (by decide) (by decide)) ?_
                        rw [show (3 : Int32).toNatClampNeg = 3 from rfl]
                        refine z_rcs hc hH 1 (pc' := 42) (lv' := [(2, .int 3), (0, .ref (19 + 8 * j)), (1, .int (nI k))]) (st' := [.int (nI k), .int (μ.1 (23 + 8 * j) 3)]) (μ' := μ) (by rfl) ?_
                        refine zq_ic hc hH (by rfl) (tg := 74) (by rfl) (fun h31 => ?_) (fun h31 => ?_)
                        · have h31 : (decide ((μ.1 (23 + 8 * j) 3) = (nI k))) = false := decide_eq_false (cm_ne.mp h31)
                          refine z_rcs hc hH 4 (pc' := 14) (lv' := [(2, .int 4), (0, .ref (19 + 8 * j)), (1, .int (nI k))]) (st' := [.ref (19 + 8 * j), .int 4]) (μ' := μ) (by rfl) ?_
                          refine zq_gfi hc hH (by rfl) (ci := 2) (f := 4) (by rfl) (sj (P := fun i => okf 79 2 4 (19 + 8 * i)) hj (by decide +kernel)) (by rfl) ?_
                          refine zq_ic hc hH (by rfl) (tg := 80) (by rfl) (fun h32 => ?_) (fun h32 => ?_)
                          · have h32 : (decide ((μ.1 (19 + 8 * j) 4) ≤ (4 : Int32))) = true := decide_eq_true (cm_ge.mp h32)
                            refine z_rcs hc hH 1 (pc' := 81) (lv' := [(2, .int 4), (0, .ref (19 + 8 * j)), (1, .int (nI k))]) (st' := [.int 0]) (μ' := μ) (by rfl) ?_
                            exact hr 0 81 _ _ _ (some (.int 0)) (by decide +kernel) (z_rx_ok hH (by rfl)) (⟨(by first | with_reducible rfl | (simp only [h1, h2, h3, h4, h5, h19, h20, h21, h27, h28, h29, h31, h32, cond_true, cond_false]; done) | rfl), (by unfold aTm; simp only [h1, h2, h3, h4, h5, h19, h20, h21, h27, h28, h29, h31, h32, cond_true, cond_false])⟩)
                          · have h32 : (decide ((μ.1 (19 + 8 * j) 4) ≤ (4 : Int32))) = false := decide_eq_false (cn_ge.mp h32)
                            refine z_rcs hc hH 4 (pc' := 81) (lv' := [(2, .int 4), (0, .ref (19 + 8 * j)), (1, .int (nI k))]) (st' := [.int 0]) (μ' := μ) (by rfl) ?_
                            exact hr 0 81 _ _ _ (some (.int 0)) (by decide +kernel) (z_rx_ok hH (by rfl)) (⟨(by first | with_reducible rfl | (simp only [h1, h2, h3, h4, h5, h19, h20, h21, h27, h28, h29, h31, h32, cond_true, cond_false]; done) | rfl), (by unfold aTm; simp only [h1, h2, h3, h4, h5, h19, h20, h21, h27, h28, h29, h31, h32, cond_true, cond_false])⟩)
                        · have h31 : (decide ((μ.1 (23 + 8 * j) 3) = (nI k))) = true := decide_eq_true (cn_ne.mp h31)
                          refine z_rcs hc hH 1 (pc' := 46) (lv' := [(2, .int 3), (0, .ref (19 + 8 * j)), (1, .int (nI k))]) (st' := [.ref (19 + 8 * j)]) (μ' := μ) (by rfl) ?_
                          refine zq_gfr hc hH (by rfl) (ci := 2) (f := 2) (q := 22 + 8 * j) (by rfl) (sj (P := fun i => okf 79 2 2 (19 + 8 * i)) hj (by decide +kernel)) (by rfl) (sj (P := fun i => Nat.beq (z_gr (19 + 8 * i) 2) (22 + 8 * i)) hj (by decide +kernel)) ?_
                          refine z_rcs hc hH 2 (pc' := 51) (lv' := [(2, .int 3), (0, .ref (19 + 8 * j)), (1, .int (nI k))]) (st' := [.int 2, .int 3, .ref (22 + 8 * j)]) (μ' := μ) (by rfl) ?_
                          refine zq_iast hc hH (by rfl) 4 (oka_i (sj (P := fun i => oka 79 1 4 (22 + 8 * i)) hj (by decide +kernel))).2 (show vp_in (nI 3) 4 from vp_in_nI (by decide) (by decide)) ?_
                          rw [show (3 : Int32).toNatClampNeg = 3 from rfl]
                          show Z 0 52 [(2, .int 3), (0, .ref (19 + 8 * j)), (1, .int (nI k))] [] (z_ui μ (22 + 8 * j) 3 2)
                          refine z_rcs0 hc hH 1 (pc' := 53) (lv' := [(2, .int 3), (0, .ref (19 + 8 * j)), (1, .int (nI k))]) (st' := [.ref (19 + 8 * j)]) (by rfl) ?_
                          refine zq_gfr hc hH (by rfl) (ci := 2) (f := 0) (q := 20 + 8 * j) (by rfl) (sj (P := fun i => okf 79 2 0 (19 + 8 * i)) hj (by decide +kernel)) (by rfl) (sj (P := fun i => Nat.beq (z_gr (19 + 8 * i) 0) (20 + 8 * i)) hj (by decide +kernel)) ?_
                          refine z_rcs0 hc hH 2 (pc' := 58) (lv' := [(2, .int 3), (0, .ref (19 + 8 * j)), (1, .int (nI k))]) (st' := [.int (nI k), .ref (20 + 8 * j), .int (nI k), .ref (20 + 8 * j)]) (by rfl) ?_
                          refine zq_iald hc hH (by rfl) 34 (oka_i (sj (P := fun i => oka 79 1 34 (20 + 8 * i)) hj (by decide +kernel))) (vp_in_nI (by omega) (by decide)) ?_
                          rw [nI_clamp (by omega)]
                          refine zV1 (Z := Z) (ui_o (by first | decide | omega)) ?_
                          refine z_rcs0 hc hH 2 (pc' := 61) (lv' := [(2, .int 3), (0, .ref (19 + 8 * j)), (1, .int (nI k))]) (st' := [.int ((μ.1 (20 + 8 * j) k) - 1), .int (nI k), .ref (20 + 8 * j)]) (by rfl) ?_
                          refine zq_iast hc hH (by rfl) 34 (oka_i (sj (P := fun i => oka 79 1 34 (20 + 8 * i)) hj (by decide +kernel))).2 (vp_in_nI (by omega) (by decide)) ?_
                          rw [nI_clamp (by omega)]
                          show Z 0 62 [(2, .int 3), (0, .ref (19 + 8 * j)), (1, .int (nI k))] [] (z_ui (z_ui μ (22 + 8 * j) 3 2) (20 + 8 * j) k ((μ.1 (20 + 8 * j) k) - 1))
                          refine z_rcs0 hc hH 2 (pc' := 64) (lv' := [(2, .int 3), (0, .ref (19 + 8 * j)), (1, .int (nI k))]) (st' := [.ref (19 + 8 * j), .ref (19 + 8 * j)]) (by rfl) ?_
                          refine zq_gfi hc hH (by rfl) (ci := 2) (f := 5) (by rfl) (sj (P := fun i => okf 79 2 5 (19 + 8 * i)) hj (by decide +kernel)) (by rfl) ?_
                          refine zV1 (Z := Z) (Eq.trans (ui_o (by first | decide | omega)) (ui_o (by first | decide | omega))) ?_
                          refine z_rcs0 hc hH 2 (pc' := 69) (lv' := [(2, .int 3), (0, .ref (19 + 8 * j)), (1, .int (nI k))]) (st' := [.int ((μ.1 (19 + 8 * j) 5) - 1), .ref (19 + 8 * j)]) (by rfl) ?_
                          refine zq_pfi hc hH (by rfl) (ci := 2) (f := 5) (by rfl) (sj (P := fun i => okf 79 2 5 (19 + 8 * i)) hj (by decide +kernel)) (by rfl) ?_
                          show Z 0 72 [(2, .int 3), (0, .ref (19 + 8 * j)), (1, .int (nI k))] [] (z_ui (z_ui (z_ui μ (22 + 8 * j) 3 2) (20 + 8 * j) k ((μ.1 (20 + 8 * j) k) - 1)) (19 + 8 * j) 5 ((μ.1 (19 + 8 * j) 5) - 1))
                          refine z_rcs0 hc hH 1 (pc' := 73) (lv' := [(2, .int 3), (0, .ref (19 + 8 * j)), (1, .int (nI k))]) (st' := [.int 1]) (by rfl) ?_
                          exact hr 0 73 _ _ _ (some (.int 1)) (by decide +kernel) (z_rx_ok hH (by rfl)) (⟨(by first | with_reducible rfl | (simp only [h1, h2, h3, h4, h5, h19, h20, h21, h27, h28, h29, h31, cond_true, cond_false]; done) | rfl), (by unfold aTm; simp only [h1, h2, h3, h4, h5, h19, h20, h21, h27, h28, h29, h31, cond_true, cond_false])⟩)
                  · have h27 : (decide ((μ.1 (23 + 8 * j) 2) = (nI k))) = true := decide_eq_true (cn_ne.mp h27)
                    refine z_rcs hc hH 1 (pc' := 46) (lv' := [(2, .int 2), (0, .ref (19 + 8 * j)), (1, .int (nI k))]) (st' := [.ref (19 + 8 * j)]) (μ' := μ) (by rfl) ?_
                    refine zq_gfr hc hH (by rfl) (ci := 2) (f := 2) (q := 22 + 8 * j) (by rfl) (sj (P := fun i => okf 79 2 2 (19 + 8 * i)) hj (by decide +kernel)) (by rfl) (sj (P := fun i => Nat.beq (z_gr (19 + 8 * i) 2) (22 + 8 * i)) hj (by decide +kernel)) ?_
                    refine z_rcs hc hH 2 (pc' := 51) (lv' := [(2, .int 2), (0, .ref (19 + 8 * j)), (1, .int (nI k))]) (st' := [.int 2, .int 2, .ref (22 + 8 * j)]) (μ' := μ) (by rfl) ?_
                    refine zq_iast hc hH (by rfl) 4 (oka_i (sj (P := fun i => oka 79 1 4 (22 + 8 * i)) hj (by decide +kernel))).2 (show vp_in (nI 2) 4 from vp_in_nI (by decide) (by decide)) ?_
                    rw [show (2 : Int32).toNatClampNeg = 2 from rfl]
                    show Z 0 52 [(2, .int 2), (0, .ref (19 + 8 * j)), (1, .int (nI k))] [] (z_ui μ (22 + 8 * j) 2 2)
                    refine z_rcs0 hc hH 1 (pc' := 53) (lv' := [(2, .int 2), (0, .ref (19 + 8 * j)), (1, .int (nI k))]) (st' := [.ref (19 + 8 * j)]) (by rfl) ?_
                    refine zq_gfr hc hH (by rfl) (ci := 2) (f := 0) (q := 20 + 8 * j) (by rfl) (sj (P := fun i => okf 79 2 0 (19 + 8 * i)) hj (by decide +kernel)) (by rfl) (sj (P := fun i => Nat.beq (z_gr (19 + 8 * i) 0) (20 + 8 * i)) hj (by decide +kernel)) ?_
                    refine z_rcs0 hc hH 2 (pc' := 58) (lv' := [(2, .int 2), (0, .ref (19 + 8 * j)), (1, .int (nI k))]) (st' := [.int (nI k), .ref (20 + 8 * j), .int (nI k), .ref (20 + 8 * j)]) (by rfl) ?_
                    refine zq_iald hc hH (by rfl) 34 (oka_i (sj (P := fun i => oka 79 1 34 (20 + 8 * i)) hj (by decide +kernel))) (vp_in_nI (by omega) (by decide)) ?_
                    rw [nI_clamp (by omega)]
                    refine zV1 (Z := Z) (ui_o (by first | decide | omega)) ?_
                    refine z_rcs0 hc hH 2 (pc' := 61) (lv' := [(2, .int 2), (0, .ref (19 + 8 * j)), (1, .int (nI k))]) (st' := [.int ((μ.1 (20 + 8 * j) k) - 1), .int (nI k), .ref (20 + 8 * j)]) (by rfl) ?_
                    refine zq_iast hc hH (by rfl) 34 (oka_i (sj (P := fun i => oka 79 1 34 (20 + 8 * i)) hj (by decide +kernel))).2 (vp_in_nI (by omega) (by decide)) ?_
                    rw [nI_clamp (by omega)]
                    show Z 0 62 [(2, .int 2), (0, .ref (19 + 8 * j)), (1, .int (nI k))] [] (z_ui (z_ui μ (22 + 8 * j) 2 2) (20 + 8 * j) k ((μ.1 (20 + 8 * j) k) - 1))
                    refine z_rcs0 hc hH 2 (pc' := 64) (lv' := [(2, .int 2), (0, .ref (19 + 8 * j)), (1, .int (nI k))]) (st' := [.ref (19 + 8 * j), .ref (19 + 8 * j)]) (by rfl) ?_
                    refine zq_gfi hc hH (by rfl) (ci := 2) (f := 5) (by rfl) (sj (P := fun i => okf 79 2 5 (19 + 8 * i)) hj (by decide +kernel)) (by rfl) ?_
                    refine zV1 (Z := Z) (Eq.trans (ui_o (by first | decide | omega)) (ui_o (by first | decide | omega))) ?_
                    refine z_rcs0 hc hH 2 (pc' := 69) (lv' := [(2, .int 2), (0, .ref (19 + 8 * j)), (1, .int (nI k))]) (st' := [.int ((μ.1 (19 + 8 * j) 5) - 1), .ref (19 + 8 * j)]) (by rfl) ?_
                    refine zq_pfi hc hH (by rfl) (ci := 2) (f := 5) (by rfl) (sj (P := fun i => okf 79 2 5 (19 + 8 * i)) hj (by decide +kernel)) (by rfl) ?_
                    show Z 0 72 [(2, .int 2), (0, .ref (19 + 8 * j)), (1, .int (nI k))] [] (z_ui (z_ui (z_ui μ (22 + 8 * j) 2 2) (20 + 8 * j) k ((μ.1 (20 + 8 * j) k) - 1)) (19 + 8 * j) 5 ((μ.1 (19 + 8 * j) 5) - 1))
                    refine z_rcs0 hc hH 1 (pc' := 73) (lv' := [(2, .int 2), (0, .ref (19 + 8 * j)), (1, .int (nI k))]) (st' := [.int 1]) (by rfl) ?_
                    exact hr 0 73 _ _ _ (some (.int 1)) (by decide +kernel) (z_rx_ok hH (by rfl)) (⟨(by first | with_reducible rfl | (simp only [h1, h2, h3, h4, h5, h19, h20, h21, h27, cond_true, cond_false]; done) | rfl), (by unfold aTm; simp only [h1, h2, h3, h4, h5, h19, h20, h21, h27, cond_true, cond_false])⟩)
            · have h19 : (decide ((μ.1 (23 + 8 * j) 1) = (nI k))) = true := decide_eq_true (cn_ne.mp h19)
              refine z_rcs hc hH 1 (pc' := 46) (lv' := [(2, .int 1), (0, .ref (19 + 8 * j)), (1, .int (nI k))]) (st' := [.ref (19 + 8 * j)]) (μ' := μ) (by rfl) ?_
              refine zq_gfr hc hH (by rfl) (ci := 2) (f := 2) (q := 22 + 8 * j) (by rfl) (sj (P := fun i => okf 79 2 2 (19 + 8 * i)) hj (by decide +kernel)) (by rfl) (sj (P := fun i => Nat.beq (z_gr (19 + 8 * i) 2) (22 + 8 * i)) hj (by decide +kernel)) ?_
              refine z_rcs hc hH 2 (pc' := 51) (lv' := [(2, .int 1), (0, .ref (19 + 8 * j)), (1, .int (nI k))]) (st' := [.int 2, .int 1, .ref (22 + 8 * j)]) (μ' := μ) (by rfl) ?_
              refine zq_iast hc hH (by rfl) 4 (oka_i (sj (P := fun i => oka 79 1 4 (22 + 8 * i)) hj (by decide +kernel))).2 (show vp_in (nI 1) 4 from vp_in_nI (by decide) (by decide)) ?_
              rw [show (1 : Int32).toNatClampNeg = 1 from rfl]
              show Z 0 52 [(2, .int 1), (0, .ref (19 + 8 * j)), (1, .int (nI k))] [] (z_ui μ (22 + 8 * j) 1 2)
              refine z_rcs0 hc hH 1 (pc' := 53) (lv' := [(2, .int 1), (0, .ref (19 + 8 * j)), (1, .int (nI k))]) (st' := [.ref (19 + 8 * j)]) (by rfl) ?_
              refine zq_gfr hc hH (by rfl) (ci := 2) (f := 0) (q := 20 + 8 * j) (by rfl) (sj (P := fun i => okf 79 2 0 (19 + 8 * i)) hj (by decide +kernel)) (by rfl) (sj (P := fun i => Nat.beq (z_gr (19 + 8 * i) 0) (20 + 8 * i)) hj (by decide +kernel)) ?_
              refine z_rcs0 hc hH 2 (pc' := 58) (lv' := [(2, .int 1), (0, .ref (19 + 8 * j)), (1, .int (nI k))]) (st' := [.int (nI k), .ref (20 + 8 * j), .int (nI k), .ref (20 + 8 * j)]) (by rfl) ?_
              refine zq_iald hc hH (by rfl) 34 (oka_i (sj (P := fun i => oka 79 1 34 (20 + 8 * i)) hj (by decide +kernel))) (vp_in_nI (by omega) (by decide)) ?_
              rw [nI_clamp (by omega)]
              refine zV1 (Z := Z) (ui_o (by first | decide | omega)) ?_
              refine z_rcs0 hc hH 2 (pc' := 61) (lv' := [(2, .int 1), (0, .ref (19 + 8 * j)), (1, .int (nI k))]) (st' := [.int ((μ.1 (20 + 8 * j) k) - 1), .int (nI k), .ref (20 + 8 * j)]) (by rfl) ?_
              refine zq_iast hc hH (by rfl) 34 (oka_i (sj (P := fun i => oka 79 1 34 (20 + 8 * i)) hj (by decide +kernel))).2 (vp_in_nI (by omega) (by decide)) ?_
              rw [nI_clamp (by omega)]
              show Z 0 62 [(2, .int 1), (0, .ref (19 + 8 * j)), (1, .int (nI k))] [] (z_ui (z_ui μ (22 + 8 * j) 1 2) (20 + 8 * j) k ((μ.1 (20 + 8 * j) k) - 1))
              refine z_rcs0 hc hH 2 (pc' := 64) (lv' := [(2, .int 1), (0, .ref (19 + 8 * j)), (1, .int (nI k))]) (st' := [.ref (19 + 8 * j), .ref (19 + 8 * j)]) (by rfl) ?_
              refine zq_gfi hc hH (by rfl) (ci := 2) (f := 5) (by rfl) (sj (P := fun i => okf 79 2 5 (19 + 8 * i)) hj (by decide +kernel)) (by rfl) ?_
              refine zV1 (Z := Z) (Eq.trans (ui_o (by first | decide | omega)) (ui_o (by first | decide | omega))) ?_
              refine z_rcs0 hc hH 2 (pc' := 69) (lv' := [(2, .int 1), (0, .ref (19 + 8 * j)), (1, .int (nI k))]) (st' := [.int ((μ.1 (19 + 8 * j) 5) - 1), .ref (19 + 8 * j)]) (by rfl) ?_
              refine zq_pfi hc hH (by rfl) (ci := 2) (f := 5) (by rfl) (sj (P := fun i => okf 79 2 5 (19 + 8 * i)) hj (by decide +kernel)) (by rfl) ?_
              show Z 0 72 [(2, .int 1), (0, .ref (19 + 8 * j)), (1, .int (nI k))] [] (z_ui (z_ui (z_ui μ (22 + 8 * j) 1 2) (20 + 8 * j) k ((μ.1 (20 + 8 * j) k) - 1)) (19 + 8 * j) 5 ((μ.1 (19 + 8 * j) 5) - 1))
              refine z_rcs0 hc hH 1 (pc' := 73) (lv' := [(2, .int 1), (0, .ref (19 + 8 * j)), (1, .int (nI k))]) (st' := [.int 1]) (by rfl) ?_
              exact hr 0 73 _ _ _ (some (.int 1)) (by decide +kernel) (z_rx_ok hH (by rfl)) (⟨(by first | with_reducible rfl | (simp only [h1, h2, h3, h4, h5, h19, cond_true, cond_false]; done) | rfl), (by unfold aTm; simp only [h1, h2, h3, h4, h5, h19, cond_true, cond_false])⟩)
      · have h3 : (decide ((μ.1 (22 + 8 * j) 0) = 1)) = true := decide_eq_true (cn_ne.mp h3)
        refine z_rcs hc hH 1 (pc' := 36) (lv' := [(2, .int 0), (0, .ref (19 + 8 * j)), (1, .int (nI k))]) (st' := [.ref (19 + 8 * j)]) (μ' := μ) (by rfl) ?_
        refine zq_gfr hc hH (by rfl) (ci := 2) (f := 3) (q := 23 + 8 * j) (by rfl) (sj (P := fun i => okf 79 2 3 (19 + 8 * i)) hj (by decide +kernel)) (by rfl) (sj (P := fun i => Nat.beq (z_gr (19 + 8 * i) 3) (23 + 8 * i)) hj (by decide +kernel)) ?_
        refine z_rcs hc hH 1 (pc' := 40) (lv' := [(2, .int 0), (0, .ref (19 + 8 * j)), (1, .int (nI k))]) (st' := [.int 0, .ref (23 + 8 * j)]) (μ' := μ) (by rfl) ?_
        refine zq_iald hc hH (by rfl) 4 (oka_i (sj (P := fun i => oka 79 1 4 (23 + 8 * i)) hj (by decide +kernel))) (show vp_in (nI 0) 4 from vp_in_nI (by decide) (by decide)) ?_
        rw [show (0 : Int32).toNatClampNeg = 0 from rfl]
        refine z_rcs hc hH 1 (pc' := 42) (lv' := [(2, .int 0), (0, .ref (19 + 8 * j)), (1, .int (nI k))]) (st' := [.int (nI k), .int (μ.1 (23 + 8 * j) 0)]) (μ' := μ) (by rfl) ?_
        refine zq_ic hc hH (by rfl) (tg := 74) (by rfl) (fun h33 => ?_) (fun h33 => ?_)
        · have h33 : (decide ((μ.1 (23 + 8 * j) 0) = (nI k))) = false := decide_eq_false (cm_ne.mp h33)
          refine z_rcs hc hH 4 (pc' := 14) (lv' := [(2, .int 1), (0, .ref (19 + 8 * j)), (1, .int (nI k))]) (st' := [.ref (19 + 8 * j), .int 1]) (μ' := μ) (by rfl) ?_
          refine zq_gfi hc hH (by rfl) (ci := 2) (f := 4) (by rfl) (sj (P := fun i => okf 79 2 4 (19 + 8 * i)) hj (by decide +kernel)) (by rfl) ?_
          refine zq_ic hc hH (by rfl) (tg := 80) (by rfl) (fun h34 => ?_) (fun h34 => ?_)
          · have h34 : (decide ((μ.1 (19 + 8 * j) 4) ≤ (1 : Int32))) = true := decide_eq_true (cm_ge.mp h34)
            refine z_rcs hc hH 1 (pc' := 81) (lv' := [(2, .int 1), (0, .ref (19 + 8 * j)), (1, .int (nI k))]) (st' := [.int 0]) (μ' := μ) (by rfl) ?_
            exact hr 0 81 _ _ _ (some (.int 0)) (by decide +kernel) (z_rx_ok hH (by rfl)) (⟨(by first | with_reducible rfl | (simp only [h1, h2, h3, h33, h34, cond_true, cond_false]; done) | rfl), (by unfold aTm; simp only [h1, h2, h3, h33, h34, cond_true, cond_false])⟩)
          · have h34 : (decide ((μ.1 (19 + 8 * j) 4) ≤ (1 : Int32))) = false := decide_eq_false (cn_ge.mp h34)
            refine z_rcs hc hH 4 (pc' := 26) (lv' := [(2, .int 1), (0, .ref (19 + 8 * j)), (1, .int (nI k))]) (st' := [.ref (19 + 8 * j)]) (μ' := μ) (by rfl) ?_
            refine zq_gfr hc hH (by rfl) (ci := 2) (f := 2) (q := 22 + 8 * j) (by rfl) (sj (P := fun i => okf 79 2 2 (19 + 8 * i)) hj (by decide +kernel)) (by rfl) (sj (P := fun i => Nat.beq (z_gr (19 + 8 * i) 2) (22 + 8 * i)) hj (by decide +kernel)) ?_
            refine z_rcs hc hH 1 (pc' := 30) (lv' := [(2, .int 1), (0, .ref (19 + 8 * j)), (1, .int (nI k))]) (st' := [.int 1, .ref (22 + 8 * j)]) (μ' := μ) (by rfl) ?_
            refine zq_iald hc hH (by rfl) 4 (oka_i (sj (P := fun i => oka 79 1 4 (22 + 8 * i)) hj (by decide +kernel))) (show vp_in (nI 1) 4 from vp_in_nI (by decide) (by decide)) ?_
            rw [show (1 : Int32).toNatClampNeg = 1 from rfl]
            refine z_rcs hc hH 1 (pc' := 32) (lv' := [(2, .int 1), (0, .ref (19 + 8 * j)), (1, .int (nI k))]) (st' := [.int 1, .int (μ.1 (22 + 8 * j) 1)]) (μ' := μ) (by rfl) ?_
            refine zq_ic hc hH (by rfl) (tg := 74) (by rfl) (fun h35 => ?_) (fun h35 => ?_)
            · have h35 : (decide ((μ.1 (22 + 8 * j) 1) = 1)) = false := decide_eq_false (cm_ne.mp h35)
              refine z_rcs hc hH 4 (pc' := 14) (lv' := [(2, .int 2), (0, .ref (19 + 8 * j)), (1, .int (nI k))]) (st' := [.ref (19 + 8 * j), .int 2]) (μ' := μ) (by rfl) ?_
              refine zq_gfi hc hH (by rfl) (ci := 2) (f := 4) (by rfl) (sj (P := fun i => okf 79 2 4 (19 + 8 * i)) hj (by decide +kernel)) (by rfl) ?_
              refine zq_ic hc hH (by rfl) (tg := 80) (by rfl) (fun h36 => ?_) (fun h36 => ?_)
              · have h36 : (decide ((μ.1 (19 + 8 * j) 4) ≤ (2 : Int32))) = true := decide_eq_true (cm_ge.mp h36)
                refine z_rcs hc hH 1 (pc' := 81) (lv' := [(2, .int 2), (0, .ref (19 + 8 * j)), (1, .int (nI k))]) (st' := [.int 0]) (μ' := μ) (by rfl) ?_
                exact hr 0 81 _ _ _ (some (.int 0)) (by decide +kernel) (z_rx_ok hH (by rfl)) (⟨(by first | with_reducible rfl | (simp only [h1, h2, h3, h33, h34, h35, h36, cond_true, cond_false]; done) | rfl), (by unfold aTm; simp only [h1, h2, h3, h33, h34, h35, h36, cond_true, cond_false])⟩)
              · have h36 : (decide ((μ.1 (19 + 8 * j) 4) ≤ (2 : Int32))) = false := decide_eq_false (cn_ge.mp h36)
                refine z_rcs hc hH 4 (pc' := 26) (lv' := [(2, .int 2), (0, .ref (19 + 8 * j)), (1, .int (nI k))]) (st' := [.ref (19 + 8 * j)]) (μ' := μ) (by rfl) ?_
                refine zq_gfr hc hH (by rfl) (ci := 2) (f := 2) (q := 22 + 8 * j) (by rfl) (sj (P := fun i => okf 79 2 2 (19 + 8 * i)) hj (by decide +kernel)) (by rfl) (sj (P := fun i => Nat.beq (z_gr (19 + 8 * i) 2) (22 + 8 * i)) hj (by decide +kernel)) ?_
                refine z_rcs hc hH 1 (pc' := 30) (lv' := [(2, .int 2), (0, .ref (19 + 8 * j)), (1, .int (nI k))]) (st' := [.int 2, .ref (22 + 8 * j)]) (μ' := μ) (by rfl) ?_
                refine zq_iald hc hH (by rfl) 4 (oka_i (sj (P := fun i => oka 79 1 4 (22 + 8 * i)) hj (by decide +kernel))) (show vp_in (nI 2) 4 from vp_in_nI (by decide) (by decide)) ?_
                rw [show (2 : Int32).toNatClampNeg = 2 from rfl]
                refine z_rcs hc hH 1 (pc' := 32) (lv' := [(2, .int 2), (0, .ref (19 + 8 * j)), (1, .int (nI k))]) (st' := [.int 1, .int (μ.1 (22 + 8 * j) 2)]) (μ' := μ) (by rfl) ?_
                refine zq_ic hc hH (by rfl) (tg := 74) (by rfl) (fun h37 => ?_) (fun h37 => ?_)
                · have h37 : (decide ((μ.1 (22 + 8 * j) 2) = 1)) = false := decide_eq_false (cm_ne.mp h37)
                  refine z_rcs hc hH 4 (pc' := 14) (lv' := [(2, .int 3), (0, .ref (19 + 8 * j)), (1, .int (nI k))]) (st' := [.ref (19 + 8 * j), .int 3]) (μ' := μ) (by rfl) ?_
                  refine zq_gfi hc hH (by rfl) (ci := 2) (f := 4) (by rfl) (sj (P := fun i => okf 79 2 4 (19 + 8 * i)) hj (by decide +kernel)) (by rfl) ?_
                  refine zq_ic hc hH (by rfl) (tg := 80) (by rfl) (fun h38 => ?_) (fun h38 => ?_)
                  · have h38 : (decide ((μ.1 (19 + 8 * j) 4) ≤ (3 : Int32))) = true := decide_eq_true (cm_ge.mp h38)
                    refine z_rcs hc hH 1 (pc' := 81) (lv' := [(2, .int 3), (0, .ref (19 + 8 * j)), (1, .int (nI k))]) (st' := [.int 0]) (μ' := μ) (by rfl) ?_
                    exact hr 0 81 _ _ _ (some (.int 0)) (by decide +kernel) (z_rx_ok hH (by rfl)) (⟨(by first | with_reducible rfl | (simp only [h1, h2, h3, h33, h34, h35, h36, h37, h38, cond_true, cond_false]; done) | rfl), (by unfold aTm; simp only [h1, h2, h3, h33, h34, h35, h36, h37, h38, cond_true, cond_false])⟩)
                  · have h38 : (decide ((μ.1 (19 + 8 * j) 4) ≤ (3 : Int32))) = false := decide_eq_false (cn_ge.mp h38)
                    refine z_rcs hc hH 4 (pc' := 26) (lv' := [(2, .int 3), (0, .ref (19 + 8 * j)), (1, .int (nI k))]) (st' := [.ref (19 + 8 * j)]) (μ' := μ) (by rfl) ?_
                    refine zq_gfr hc hH (by rfl) (ci := 2) (f := 2) (q := 22 + 8 * j) (by rfl) (sj (P := fun i => okf 79 2 2 (19 + 8 * i)) hj (by decide +kernel)) (by rfl) (sj (P := fun i => Nat.beq (z_gr (19 + 8 * i) 2) (22 + 8 * i)) hj (by decide +kernel)) ?_
                    refine z_rcs hc hH 1 (pc' := 30) (lv' := [(2, .int 3), (0, .ref (19 + 8 * j)), (1, .int (nI k))]) (st' := [.int 3, .ref (22 + 8 * j)]) (μ' := μ) (by rfl) ?_
                    refine zq_iald hc hH (by rfl) 4 (oka_i (sj (P := fun i => oka 79 1 4 (22 + 8 * i)) hj (by decide +kernel))) (show vp_in (nI 3) 4 from vp_in_nI (by decide) (by decide)) ?_
                    rw [show (3 : Int32).toNatClampNeg = 3 from rfl]
                    refine z_rcs hc hH 1 (pc' := 32) (lv' := [(2, .int 3), (0, .ref (19 + 8 * j)), (1, .int (nI k))]) (st' := [.int 1, .int (μ.1 (22 + 8 * j) 3)]) (μ' := μ) (by rfl) ?_
                    refine zq_ic hc hH (by rfl) (tg := 74) (by rfl) (fun h39 => ?_) (fun h39 => ?_)
                    · have h39 : (decide ((μ.1 (22 + 8 * j) 3) = 1)) = false := decide_eq_false (cm_ne.mp h39)
                      refine z_rcs hc hH 4 (pc' := 14) (lv' := [(2, .int 4), (0, .ref (19 + 8 * j)), (1, .int (nI k))]) (st' := [.ref (19 + 8 * j), .int 4]) (μ' := μ) (by rfl) ?_
                      refine zq_gfi hc hH (by rfl) (ci := 2) (f := 4) (by rfl) (sj (P := fun i => okf 79 2 4 (19 + 8 * i)) hj (by decide +kernel)) (by rfl) ?_
                      refine zq_ic hc hH (by rfl) (tg := 80) (by rfl) (fun h40 => ?_) (fun h40 => ?_)
                      · have h40 : (decide ((μ.1 (19 + 8 * j) 4) ≤ (4 : Int32))) = true := decide_eq_true (cm_ge.mp h40)
                        refine z_rcs hc hH 1 (pc' := 81) (lv' := [(2, .int 4), (0, .ref (19 + 8 * j)), (1, .int (nI k))]) (st' := [.int 0]) (μ' := μ) (by rfl) ?_
                        exact hr 0 81 _ _ _ (some (.int 0)) (by decide +kernel) (z_rx_ok hH (by rfl)) (⟨(by first | with_reducible rfl | (simp only [h1, h2, h3, h33, h34, h35, h36, h37, h38, h39, h40, cond_true, cond_false]; done) | rfl), (by unfold aTm; simp only [h1, h2, h3, h33, h34, h35, h36, h37, h38, h39, h40, cond_true, cond_false])⟩)
                      · have h40 : (decide ((μ.1 (19 + 8 * j) 4) ≤ (4 : Int32))) = false := decide_eq_false (cn_ge.mp h40)
                        refine z_rcs hc hH 4 (pc' := 81) (lv' := [(2, .int 4), (0, .ref (19 + 8 * j)), (1, .int (nI k))]) (st' := [.int 0]) (μ' := μ) (by rfl) ?_
                        exact hr 0 81 _ _ _ (some (.int 0)) (by decide +kernel) (z_rx_ok hH (by rfl)) (⟨(by first | with_reducible rfl | (simp only [h1, h2, h3, h33, h34, h35, h36, h37, h38, h39, h40, cond_true, cond_false]; done) | rfl), (by unfold aTm; simp only [h1, h2, h3, h33, h34, h35, h36, h37, h38, h39, h40, cond_true, cond_false])⟩)
                    · have h39 : (decide ((μ.1 (22 + 8 * j) 3) = 1)) = true := decide_eq_true (cn_ne.mp h39)
                      refine z_rcs hc hH 1 (pc' := 36) (lv' := [(2, .int 3), (0, .ref (19 + 8 * j)), (1, .int (nI k))]) (st' := [.ref (19 + 8 * j)]) (μ' := μ) (by rfl) ?_
                      refine zq_gfr hc hH (by rfl) (ci := 2) (f := 3) (q := 23 + 8 * j) (by rfl) (sj (P := fun i => okf 79 2 3 (19 + 8 * i)) hj (by decide +kernel)) (by rfl) (sj (P := fun i => Nat.beq (z_gr (19 + 8 * i) 3) (23 + 8 * i)) hj (by decide +kernel)) ?_
                      refine z_rcs hc hH 1 (pc' := 40) (lv' := [(2, .int 3), (0, .ref (19 + 8 * j)), (1, .int (nI k))]) (st' := [.int 3, .ref (23 + 8 * j)]) (μ' := μ) (by rfl) ?_
                      refine zq_iald hc hH (by rfl) 4 (oka_i (sj (P := fun i => oka 79 1 4 (23 + 8 * i)) hj (by decide +kernel))) (show vp_in (nI 3) 4 from vp_in_nI (by decide) (by decide)) ?_
                      rw [show (3 : Int32).toNatClampNeg = 3 from rfl]
                      refine z_rcs hc hH 1 (pc' := 42) (lv' := [(2, .int 3), (0, .ref (19 + 8 * j)), (1, .int (nI k))]) (st' := [.int (nI k), .int (μ.1 (23 + 8 * j) 3)]) (μ' := μ) (by rfl) ?_
                      refine zq_ic hc hH (by rfl) (tg := 74) (by rfl) (fun h41 => ?_) (fun h41 => ?_)
                      · have h41 : (decide ((μ.1 (23 + 8 * j) 3) = (nI k))) = false := decide_eq_false (cm_ne.mp h41)
                        refine z_rcs hc hH 4 (pc' := 14) (lv' := [(2, .int 4), (0, .ref (19 + 8 * j)), (1, .int (nI k))]) (st' := [.ref (19 + 8 * j), .int 4]) (μ' := μ) (by rfl) ?_
                        refine zq_gfi hc hH (by rfl) (ci := 2) (f := 4) (by rfl) (sj (P := fun i => okf 79 2 4 (19 + 8 * i)) hj (by decide +kernel)) (by rfl) ?_
                        refine zq_ic hc hH (by rfl) (tg := 80) (by rfl) (fun h42 => ?_) (fun h42 => ?_)
                        · have h42 : (decide ((μ.1 (19 + 8 * j) 4) ≤ (4 : Int32))) = true := decide_eq_true (cm_ge.mp h42)
                          refine z_rcs hc hH 1 (pc' := 81) (lv' := [(2, .int 4), (0, .ref (19 + 8 * j)), (1, .int (nI k))]) (st' := [.int 0]) (μ' := μ) (by rfl) ?_
                          exact hr 0 81 _ _ _ (some (.int 0)) (by decide +kernel) (z_rx_ok hH (by rfl)) (⟨(by first | with_reducible rfl | (simp only [h1, h2, h3, h33, h34, h35, h36, h37, h38, h39, h41, h42, cond_true, cond_false]; done) | rfl), (by unfold aTm; simp only [h1, h2, h3, h33, h34, h35, h36, h37, h38, h39, h41, h42, cond_true, cond_false])⟩)
                        · have h42 : (decide ((μ.1 (19 + 8 * j) 4) ≤ (4 : Int32))) = false := decide_eq_false (cn_ge.mp h42)
                          refine z_rcs hc hH 4 (pc' := 81) (lv' := [(2, .int 4), (0, .ref (19 + 8 * j)), (1, .int (nI k))]) (st' := [.int 0]) (μ' := μ) (by rfl) ?_
                          exact hr 0 81 _ _ _ (some (.int 0)) (by decide +kernel) (z_rx_ok hH (by rfl)) (⟨(by first | with_reducible rfl | (simp only [h1, h2, h3, h33, h34, h35, h36, h37, h38, h39, h41, h42, cond_true, cond_false]; done) | rfl), (by unfold aTm; simp only [h1, h2, h3, h33, h34, h35, h36, h37, h38, h39, h41, h42, cond_true, cond_false])⟩)
                      · have h41 : (decide ((μ.1 (23 + 8 * j) 3) = (nI k))) = true := decide_eq_true (cn_ne.mp h41)
                        refine z_rcs hc hH 1 (pc' := 46) (lv' := [(2, .int 3), (0, .ref (19 + 8 * j)), (1, .int (nI k))]) (st' := [.ref (19 + 8 * j)]) (μ' := μ) (by rfl) ?_
                        refine zq_gfr hc hH (by rfl) (ci := 2) (f := 2) (q := 22 + 8 * j) (by rfl) (sj (P := fun i => okf 79 2 2 (19 + 8 * i)) hj (by decide +kernel)) (by rfl) (sj (P := fun i => Nat.beq (z_gr (19 + 8 * i) 2) (22 + 8 * i)) hj (by decide +kernel)) ?_
                        refine z_rcs hc hH 2 (pc' := 51) (lv' := [(2, .int 3), (0, .ref (19 + 8 * j)), (1, .int (nI k))]) (st' := [.int 2, .int 3, .ref (22 + 8 * j)]) (μ' := μ) (by rfl) ?_
                        refine zq_iast hc hH (by rfl) 4 (oka_i (sj (P := fun i => oka 79 1 4 (22 + 8 * i)) hj (by decide +kernel))).2 (show vp_in (nI 3) 4 from vp_in_nI (by decide) (by decide)) ?_
                        rw [show (3 : Int32).toNatClampNeg = 3 from rfl]
                        show Z 0 52 [(2, .int 3), (0, .ref (19 + 8 * j)), (1, .int (nI k))] [] (z_ui μ (22 + 8 * j) 3 2)
                        refine z_rcs0 hc hH 1 (pc' := 53) (lv' := [(2, .int 3), (0, .ref (19 + 8 * j)), (1, .int (nI k))]) (st' := [.ref (19 + 8 * j)]) (by rfl) ?_
                        refine zq_gfr hc hH (by rfl) (ci := 2) (f := 0) (q := 20 + 8 * j) (by rfl) (sj (P := fun i => okf 79 2 0 (19 + 8 * i)) hj (by decide +kernel)) (by rfl) (sj (P := fun i => Nat.beq (z_gr (19 + 8 * i) 0) (20 + 8 * i)) hj (by decide +kernel)) ?_
                        refine z_rcs0 hc hH 2 (pc' := 58) (lv' := [(2, .int 3), (0, .ref (19 + 8 * j)), (1, .int (nI k))]) (st' := [.int (nI k), .ref (20 + 8 * j), .int (nI k), .ref (20 + 8 * j)]) (by rfl) ?_
                        refine zq_iald hc hH (by rfl) 34 (oka_i (sj (P := fun i => oka 79 1 34 (20 + 8 * i)) hj (by decide +kernel))) (vp_in_nI (by omega) (by decide)) ?_
                        rw [nI_clamp (by omega)]
                        refine zV1 (Z := Z) (ui_o (by first | decide | omega)) ?_
                        refine z_rcs0 hc hH 2 (pc' := 61) (lv' := [(2, .int 3), (0, .ref (19 + 8 * j)), (1, .int (nI k))]) (st' := [.int ((μ.1 (20 + 8 * j) k) - 1), .int (nI k), .ref (20 + 8 * j)]) (by rfl) ?_
                        refine zq_iast hc hH (by rfl) 34 (oka_i (sj (P := fun i => oka 79 1 34 (20 + 8 * i)) hj (by decide +kernel))).2 (vp_in_nI (by omega) (by decide)) ?_
                        rw [nI_clamp (by omega)]
                        show Z 0 62 [(2, .int 3), (0, .ref (19 + 8 * j)), (1, .int (nI k))] [] (z_ui (z_ui μ (22 + 8 * j) 3 2) (20 + 8 * j) k ((μ.1 (20 + 8 * j) k) - 1))
                        refine z_rcs0 hc hH 2 (pc' := 64) (lv' := [(2, .int 3), (0, .ref (19 + 8 * j)), (1, .int (nI k))]) (st' := [.ref (19 + 8 * j), .ref (19 + 8 * j)]) (by rfl) ?_
                        refine zq_gfi hc hH (by rfl) (ci := 2) (f := 5) (by rfl) (sj (P := fun i => okf 79 2 5 (19 + 8 * i)) hj (by decide +kernel)) (by rfl) ?_
                        refine zV1 (Z := Z) (Eq.trans (ui_o (by first | decide | omega)) (ui_o (by first | decide | omega))) ?_
                        refine z_rcs0 hc hH 2 (pc' := 69) (lv' := [(2, .int 3), (0, .ref (19 + 8 * j)), (1, .int (nI k))]) (st' := [.int ((μ.1 (19 + 8 * j) 5) - 1), .ref (19 + 8 * j)]) (by rfl) ?_
                        refine zq_pfi hc hH (by rfl) (ci := 2) (f := 5) (by rfl) (sj (P := fun i => okf 79 2 5 (19 + 8 * i)) hj (by decide +kernel)) (by rfl) ?_
                        show Z 0 72 [(2, .int 3), (0, .ref (19 + 8 * j)), (1, .int (nI k))] [] (z_ui (z_ui (z_ui μ (22 + 8 * j) 3 2) (20 + 8 * j) k ((μ.1 (20 + 8 * j) k) - 1)) (19 + 8 * j) 5 ((μ.1 (19 + 8 * j) 5) - 1))
                        refine z_rcs0 hc hH 1 (pc' := 73) (lv' := [(2, .int 3), (0, .ref (19 + 8 * j)), (1, .int (nI k))]) (st' := [.int 1]) (by rfl) ?_
                        exact hr 0 73 _ _ _ (some (.int 1)) (by decide +kernel) (z_rx_ok hH (by rfl)) (⟨(by first | with_reducible rfl | (simp only [h1, h2, h3, h33, h34, h35, h36, h37, h38, h39, h41, cond_true, cond_false]; done) | rfl), (by unfold aTm; simp only [h1, h2, h3, h33, h34, h35, h36, h37, h38, h39, h41, cond_true, cond_false])⟩)
                · have h37 : (decide ((μ.1 (22 + 8 * j) 2) = 1)) = true := decide_eq_true (cn_ne.mp h37)
                  refine z_rcs hc hH 1 (pc' := 36) (lv' := [(2, .int 2), (0, .ref (19 + 8 * j)), (1, .int (nI k))]) (st' := [.ref (19 + 8 * j)]) (μ' := μ) (by rfl) ?_
                  refine zq_gfr hc hH (by rfl) (ci := 2) (f := 3) (q := 23 + 8 * j) (by rfl) (sj (P := fun i => okf 79 2 3 (19 + 8 * i)) hj (by decide +kernel)) (by rfl) (sj (P := fun i => Nat.beq (z_gr (19 + 8 * i) 3) (23 + 8 * i)) hj (by decide +kernel)) ?_
                  refine z_rcs hc hH 1 (pc' := 40) (lv' := [(2, .int 2), (0, .ref (19 + 8 * j)), (1, .int (nI k))]) (st' := [.int 2, .ref (23 + 8 * j)]) (μ' := μ) (by rfl) ?_
                  refine zq_iald hc hH (by rfl) 4 (oka_i (sj (P := fun i => oka 79 1 4 (23 + 8 * i)) hj (by decide +kernel))) (show vp_in (nI 2) 4 from vp_in_nI (by decide) (by decide)) ?_
                  rw [show (2 : Int32).toNatClampNeg = 2 from rfl]
                  refine z_rcs hc hH 1 (pc' := 42) (lv' := [(2, .int 2), (0, .ref (19 + 8 * j)), (1, .int (nI k))]) (st' := [.int (nI k), .int (μ.1 (23 + 8 * j) 2)]) (μ' := μ) (by rfl) ?_
                  refine zq_ic hc hH (by rfl) (tg := 74) (by rfl) (fun h43 => ?_) (fun h43 => ?_)
                  · have h43 : (decide ((μ.1 (23 + 8 * j) 2) = (nI k))) = false := decide_eq_false (cm_ne.mp h43)
                    refine z_rcs hc hH 4 (pc' := 14) (lv' := [(2, .int 3), (0, .ref (19 + 8 * j)), (1, .int (nI k))]) (st' := [.ref (19 + 8 * j), .int 3]) (μ' := μ) (by rfl) ?_
                    refine zq_gfi hc hH (by rfl) (ci := 2) (f := 4) (by rfl) (sj (P := fun i => okf 79 2 4 (19 + 8 * i)) hj (by decide +kernel)) (by rfl) ?_
                    refine zq_ic hc hH (by rfl) (tg := 80) (by rfl) (fun h44 => ?_) (fun h44 => ?_)
                    · have h44 : (decide ((μ.1 (19 + 8 * j) 4) ≤ (3 : Int32))) = true := decide_eq_true (cm_ge.mp h44)
                      refine z_rcs hc hH 1 (pc' := 81) (lv' := [(2, .int 3), (0, .ref (19 + 8 * j)), (1, .int (nI k))]) (st' := [.int 0]) (μ' := μ) (by rfl) ?_
                      exact hr 0 81 _ _ _ (some (.int 0)) (by decide +kernel) (z_rx_ok hH (by rfl)) (⟨(by first | with_reducible rfl | (simp only [h1, h2, h3, h33, h34, h35, h36, h37, h43, h44, cond_true, cond_false]; done) | rfl), (by unfold aTm; simp only [h1, h2, h3, h33, h34, h35, h36, h37, h43, h44, cond_true, cond_false])⟩)
                    · have h44 : (decide ((μ.1 (19 + 8 * j) 4) ≤ (3 : Int32))) = false := decide_eq_false (cn_ge.mp h44)
                      refine z_rcs hc hH 4 (pc' := 26) (lv' := [(2, .int 3), (0, .ref (19 + 8 * j)), (1, .int (nI k))]) (st' := [.ref (19 + 8 * j)]) (μ' := μ) (by rfl) ?_
                      refine zq_gfr hc hH (by rfl) (ci := 2) (f := 2) (q := 22 + 8 * j) (by rfl) (sj (P := fun i => okf 79 2 2 (19 + 8 * i)) hj (by decide +kernel)) (by rfl) (sj (P := fun i => Nat.beq (z_gr (19 + 8 * i) 2) (22 + 8 * i)) hj (by decide +kernel)) ?_
                      refine z_rcs hc hH 1 (pc' := 30) (lv' := [(2, .int 3), (0, .ref (19 + 8 * j)), (1, .int (nI k))]) (st' := [.int 3, .ref (22 + 8 * j)]) (μ' := μ) (by rfl) ?_
                      refine zq_iald hc hH (by rfl) 4 (oka_i (sj (P := fun i => oka 79 1 4 (22 + 8 * i)) hj (by decide +kernel))) (show vp_in (nI 3) 4 from vp_in_nI (by decide) (by decide)) ?_
                      rw [show (3 : Int32).toNatClampNeg = 3 from rfl]
                      refine z_rcs hc hH 1 (pc' := 32) (lv' := [(2, .int 3), (0, .ref (19 + 8 * j)), (1, .int (nI k))]) (st' := [.int 1, .int (μ.1 (22 + 8 * j) 3)]) (μ' := μ) (by rfl) ?_
                      refine zq_ic hc hH (by rfl) (tg := 74) (by rfl) (fun h45 => ?_) (fun h45 => ?_)
                      · have h45 : (decide ((μ.1 (22 + 8 * j) 3) = 1)) = false := decide_eq_false (cm_ne.mp h45)
                        refine z_rcs hc hH 4 (pc' := 14) (lv' := [(2, .int 4), (0, .ref (19 + 8 * j)), (1, .int (nI k))]) (st' := [.ref (19 + 8 * j), .int 4]) (μ' := μ) (by rfl) ?_
                        refine zq_gfi hc hH (by rfl) (ci := 2) (f := 4) (by rfl) (sj (P := fun i => okf 79 2 4 (19 + 8 * i)) hj (by decide +kernel)) (by rfl) ?_
                        refine zq_ic hc hH (by rfl) (tg := 80) (by rfl) (fun h46 => ?_) (fun h46 => ?_)
                        · have h46 : (decide ((μ.1 (19 + 8 * j) 4) ≤ (4 : Int32))) = true := decide_eq_true (cm_ge.mp h46)
                          refine z_rcs hc hH 1 (pc' := 81) (lv' := [(2, .int 4), (0, .ref (19 + 8 * j)), (1, .int (nI k))]) (st' := [.int 0]) (μ' := μ) (by rfl) ?_
                          exact hr 0 81 _ _ _ (some (.int 0)) (by decide +kernel) (z_rx_ok hH (by rfl)) (⟨(by first | with_reducible rfl | (simp only [h1, h2, h3, h33, h34, h35, h36, h37, h43, h44, h45, h46, cond_true, cond_false]; done) | rfl), (by unfold aTm; simp only [h1, h2, h3, h33, h34, h35, h36, h37, h43, h44, h45, h46, cond_true, cond_false])⟩)
                        · have h46 : (decide ((μ.1 (19 + 8 * j) 4) ≤ (4 : Int32))) = false := decide_eq_false (cn_ge.mp h46)
                          refine z_rcs hc hH 4 (pc' := 81) (lv' := [(2, .int 4), (0, .ref (19 + 8 * j)), (1, .int (nI k))]) (st' := [.int 0]) (μ' := μ) (by rfl) ?_
                          exact hr 0 81 _ _ _ (some (.int 0)) (by decide +kernel) (z_rx_ok hH (by rfl)) (⟨(by first | with_reducible rfl | (simp only [h1, h2, h3, h33, h34, h35, h36, h37, h43, h44, h45, h46, cond_true, cond_false]; done) | rfl), (by unfold aTm; simp only [h1, h2, h3, h33, h34, h35, h36, h37, h43, h44, h45, h46, cond_true, cond_false])⟩)
                      · have h45 : (decide ((μ.1 (22 + 8 * j) 3) = 1)) = true := decide_eq_true (cn_ne.mp h45)
                        refine z_rcs hc hH 1 (pc' := 36) (lv' := [(2, .int 3), (0, .ref (19 + 8 * j)), (1, .int (nI k))]) (st' := [.ref (19 + 8 * j)]) (μ' := μ) (by rfl) ?_
                        refine zq_gfr hc hH (by rfl) (ci := 2) (f := 3) (q := 23 + 8 * j) (by rfl) (sj (P := fun i => okf 79 2 3 (19 + 8 * i)) hj (by decide +kernel)) (by rfl) (sj (P := fun i => Nat.beq (z_gr (19 + 8 * i) 3) (23 + 8 * i)) hj (by decide +kernel)) ?_
                        refine z_rcs hc hH 1 (pc' := 40) (lv' := [(2, .int 3), (0, .ref (19 + 8 * j)), (1, .int (nI k))]) (st' := [.int 3, .ref (23 + 8 * j)]) (μ' := μ) (by rfl) ?_
                        refine zq_iald hc hH (by rfl) 4 (oka_i (sj (P := fun i => oka 79 1 4 (23 + 8 * i)) hj (by decide +kernel))) (show vp_in (nI 3) 4 from vp_in_nI (by decide) (by decide)) ?_
                        rw [show (3 : Int32).toNatClampNeg = 3 from rfl]
                        refine z_rcs hc hH 1 (pc' := 42) (lv' := [(2, .int 3), (0, .ref (19 + 8 * j)), (1, .int (nI k))]) (st' := [.int (nI k), .int (μ.1 (23 + 8 * j) 3)]) (μ' := μ) (by rfl) ?_
                        refine zq_ic hc hH (by rfl) (tg := 74) (by rfl) (fun h47 => ?_) (fun h47 => ?_)
                        · have h47 : (decide ((μ.1 (23 + 8 * j) 3) = (nI k))) = false := decide_eq_false (cm_ne.mp h47)
                          refine z_rcs hc hH 4 (pc' := 14) (lv' := [(2, .int 4), (0, .ref (19 + 8 * j)), (1, .int (nI k))]) (st' := [.ref (19 + 8 * j), .int 4]) (μ' := μ) (by rfl) ?_
                          refine zq_gfi hc hH (by rfl) (ci := 2) (f := 4) (by rfl) (sj (P := fun i => okf 79 2 4 (19 + 8 * i)) hj (by decide +kernel)) (by rfl) ?_
                          refine zq_ic hc hH (by rfl) (tg := 80) (by rfl) (fun h48 => ?_) (fun h48 => ?_)
                          · have h48 : (decide ((μ.1 (19 + 8 * j) 4) ≤ (4 : Int32))) = true := decide_eq_true (cm_ge.mp h48)
                            refine z_rcs hc hH 1 (pc' := 81) (lv' := [(2, .int 4), (0, .ref (19 + 8 * j)), (1, .int (nI k))]) (st' := [.int 0]) (μ' := μ) (by rfl) ?_
                            exact hr 0 81 _ _ _ (some (.int 0)) (by decide +kernel) (z_rx_ok hH (by rfl)) (⟨(by first | with_reducible rfl | (simp only [h1, h2, h3, h33, h34, h35, h36, h37, h43, h44, h45, h47, h48, cond_true, cond_false]; done) | rfl), (by unfold aTm; simp only [h1, h2, h3, h33, h34, h35, h36, h37, h43, h44, h45, h47, h48, cond_true, cond_false])⟩)
                          · have h48 : (decide ((μ.1 (19 + 8 * j) 4) ≤ (4 : Int32))) = false := decide_eq_false (cn_ge.mp h48)
                            refine z_rcs hc hH 4 (pc' := 81) (lv' := [(2, .int 4), (0, .ref (19 + 8 * j)), (1, .int (nI k))]) (st' := [.int 0]) (μ' := μ) (by rfl) ?_
                            exact hr 0 81 _ _ _ (some (.int 0)) (by decide +kernel) (z_rx_ok hH (by rfl)) (⟨(by first | with_reducible rfl | (simp only [h1, h2, h3, h33, h34, h35, h36, h37, h43, h44, h45, h47, h48, cond_true, cond_false]; done) | rfl), (by unfold aTm; simp only [h1, h2, h3, h33, h34, h35, h36, h37, h43, h44, h45, h47, h48, cond_true, cond_false])⟩)
                        · have h47 : (decide ((μ.1 (23 + 8 * j) 3) = (nI k))) = true := decide_eq_true (cn_ne.mp h47)
                          refine z_rcs hc hH 1 (pc' := 46) (lv' := [(2, .int 3), (0, .ref (19 + 8 * j)), (1, .int (nI k))]) (st' := [.ref (19 + 8 * j)]) (μ' := μ) (by rfl) ?_
                          refine zq_gfr hc hH (by rfl) (ci := 2) (f := 2) (q := 22 + 8 * j) (by rfl) (sj (P := fun i => okf 79 2 2 (19 + 8 * i)) hj (by decide +kernel)) (by rfl) (sj (P := fun i => Nat.beq (z_gr (19 + 8 * i) 2) (22 + 8 * i)) hj (by decide +kernel)) ?_
                          refine z_rcs hc hH 2 (pc' := 51) (lv' := [(2, .int 3), (0, .ref (19 + 8 * j)), (1, .int (nI k))]) (st' := [.int 2, .int 3, .ref (22 + 8 * j)]) (μ' := μ) (by rfl) ?_
                          refine zq_iast hc hH (by rfl) 4 (oka_i (sj (P := fun i => oka 79 1 4 (22 + 8 * i)) hj (by decide +kernel))).2 (show vp_in (nI 3) 4 from vp_in_nI (by decide) (by decide)) ?_
                          rw [show (3 : Int32).toNatClampNeg = 3 from rfl]
                          show Z 0 52 [(2, .int 3), (0, .ref (19 + 8 * j)), (1, .int (nI k))] [] (z_ui μ (22 + 8 * j) 3 2)
                          refine z_rcs0 hc hH 1 (pc' := 53) (lv' := [(2, .int 3), (0, .ref (19 + 8 * j)), (1, .int (nI k))]) (st' := [.ref (19 + 8 * j)]) (by rfl) ?_
                          refine zq_gfr hc hH (by rfl) (ci := 2) (f := 0) (q := 20 + 8 * j) (by rfl) (sj (P := fun i => okf 79 2 0 (19 + 8 * i)) hj (by decide +kernel)) (by rfl) (sj (P := fun i => Nat.beq (z_gr (19 + 8 * i) 0) (20 + 8 * i)) hj (by decide +kernel)) ?_
                          refine z_rcs0 hc hH 2 (pc' := 58) (lv' := [(2, .int 3), (0, .ref (19 + 8 * j)), (1, .int (nI k))]) (st' := [.int (nI k), .ref (20 + 8 * j), .int (nI k), .ref (20 + 8 * j)]) (by rfl) ?_
                          refine zq_iald hc hH (by rfl) 34 (oka_i (sj (P := fun i => oka 79 1 34 (20 + 8 * i)) hj (by decide +kernel))) (vp_in_nI (by omega) (by decide)) ?_
                          rw [nI_clamp (by omega)]
                          refine zV1 (Z := Z) (ui_o (by first | decide | omega)) ?_
                          refine z_rcs0 hc hH 2 (pc' := 61) (lv' := [(2, .int 3), (0, .ref (19 + 8 * j)), (1, .int (nI k))]) (st' := [.int ((μ.1 (20 + 8 * j) k) - 1), .int (nI k), .ref (20 + 8 * j)]) (by rfl) ?_
                          refine zq_iast hc hH (by rfl) 34 (oka_i (sj (P := fun i => oka 79 1 34 (20 + 8 * i)) hj (by decide +kernel))).2 (vp_in_nI (by omega) (by decide)) ?_
                          rw [nI_clamp (by omega)]
                          show Z 0 62 [(2, .int 3), (0, .ref (19 + 8 * j)), (1, .int (nI k))] [] (z_ui (z_ui μ (22 + 8 * j) 3 2) (20 + 8 * j) k ((μ.1 (20 + 8 * j) k) - 1))
                          refine z_rcs0 hc hH 2 (pc' := 64) (lv' := [(2, .int 3), (0, .ref (19 + 8 * j)), (1, .int (nI k))]) (st' := [.ref (19 + 8 * j), .ref (19 + 8 * j)]) (by rfl) ?_
                          refine zq_gfi hc hH (by rfl) (ci := 2) (f := 5) (by rfl) (sj (P := fun i => okf 79 2 5 (19 + 8 * i)) hj (by decide +kernel)) (by rfl) ?_
                          refine zV1 (Z := Z) (Eq.trans (ui_o (by first | decide | omega)) (ui_o (by first | decide | omega))) ?_
                          refine z_rcs0 hc hH 2 (pc' := 69) (lv' := [(2, .int 3), (0, .ref (19 + 8 * j)), (1, .int (nI k))]) (st' := [.int ((μ.1 (19 + 8 * j) 5) - 1), .ref (19 + 8 * j)]) (by rfl) ?_
                          refine zq_pfi hc hH (by rfl) (ci := 2) (f := 5) (by rfl) (sj (P := fun i => okf 79 2 5 (19 + 8 * i)) hj (by decide +kernel)) (by rfl) ?_
                          show Z 0 72 [(2, .int 3), (0, .ref (19 + 8 * j)), (1, .int (nI k))] [] (z_ui (z_ui (z_ui μ (22 + 8 * j) 3 2) (20 + 8 * j) k ((μ.1 (20 + 8 * j) k) - 1)) (19 + 8 * j) 5 ((μ.1 (19 + 8 * j) 5) - 1))
                          refine z_rcs0 hc hH 1 (pc' := 73) (lv' := [(2, .int 3), (0, .ref (19 + 8 * j)), (1, .int (nI k))]) (st' := [.int 1]) (by rfl) ?_
                          exact hr 0 73 _ _ _ (some (.int 1)) (by decide +kernel) (z_rx_ok hH (by rfl)) (⟨(by first | with_reducible rfl | (simp only [h1, h2, h3, h33, h34, h35, h36, h37, h43, h44, h45, h47, cond_true, cond_false]; done) | rfl), (by unfold aTm; simp only [h1, h2, h3, h33, h34, h35, h36, h37, h43, h44, h45, h47, cond_true, cond_false])⟩)
                  · have h43 : (decide ((μ.1 (23 + 8 * j) 2) = (nI k))) = true := decide_eq_true (cn_ne.mp h43)
                    refine z_rcs hc hH 1 (pc' := 46) (lv' := [(2, .int 2), (0, .ref (19 + 8 * j)), (1, .int (nI k))]) (st' := [.ref (19 + 8 * j)]) (μ' := μ) (by rfl) ?_
                    refine zq_gfr hc hH (by rfl) (ci := 2) (f := 2) (q := 22 + 8 * j) (by rfl) (sj (P := fun i => okf 79 2 2 (19 + 8 * i)) hj (by decide +kernel)) (by rfl) (sj (P := fun i => Nat.beq (z_gr (19 + 8 * i) 2) (22 + 8 * i)) hj (by decide +kernel)) ?_
                    refine z_rcs hc hH 2 (pc' := 51) (lv' := [(2, .int 2), (0, .ref (19 + 8 * j)), (1, .int (nI k))]) (st' := [.int 2, .int 2, .ref (22 + 8 * j)]) (μ' := μ) (by rfl) ?_
                    refine zq_iast hc hH (by rfl) 4 (oka_i (sj (P := fun i => oka 79 1 4 (22 + 8 * i)) hj (by decide +kernel))).2 (show vp_in (nI 2) 4 from vp_in_nI (by decide) (by decide)) ?_
                    rw [show (2 : Int32).toNatClampNeg = 2 from rfl]
                    show Z 0 52 [(2, .int 2), (0, .ref (19 + 8 * j)), (1, .int (nI k))] [] (z_ui μ (22 + 8 * j) 2 2)
                    refine z_rcs0 hc hH 1 (pc' := 53) (lv' := [(2, .int 2), (0, .ref (19 + 8 * j)), (1, .int (nI k))]) (st' := [.ref (19 + 8 * j)]) (by rfl) ?_
                    refine zq_gfr hc hH (by rfl) (ci := 2) (f := 0) (q := 20 + 8 * j) (by rfl) (sj (P := fun i => okf 79 2 0 (19 + 8 * i)) hj (by decide +kernel)) (by rfl) (sj (P := fun i => Nat.beq (z_gr (19 + 8 * i) 0) (20 + 8 * i)) hj (by decide +kernel)) ?_
                    refine z_rcs0 hc hH 2 (pc' := 58) (lv' := [(2, .int 2), (0, .ref (19 + 8 * j)), (1, .int (nI k))]) (st' := [.int (nI k), .ref (20 + 8 * j), .int (nI k), .ref (20 + 8 * j)]) (by rfl) ?_
                    refine zq_iald hc hH (by rfl) 34 (oka_i (sj (P := fun i => oka 79 1 34 (20 + 8 * i)) hj (by decide +kernel))) (vp_in_nI (by omega) (by decide)) ?_
                    rw [nI_clamp (by omega)]
                    refine zV1 (Z := Z) (ui_o (by first | decide | omega)) ?_
                    refine z_rcs0 hc hH 2 (pc' := 61) (lv' := [(2, .int 2), (0, .ref (19 + 8 * j)), (1, .int (nI k))]) (st' := [.int ((μ.1 (20 + 8 * j) k) - 1), .int (nI k), .ref (20 + 8 * j)]) (by rfl) ?_
                    refine zq_iast hc hH (by rfl) 34 (oka_i (sj (P := fun i => oka 79 1 34 (20 + 8 * i)) hj (by decide +kernel))).2 (vp_in_nI (by omega) (by decide)) ?_
                    rw [nI_clamp (by omega)]
                    show Z 0 62 [(2, .int 2), (0, .ref (19 + 8 * j)), (1, .int (nI k))] [] (z_ui (z_ui μ (22 + 8 * j) 2 2) (20 + 8 * j) k ((μ.1 (20 + 8 * j) k) - 1))
                    refine z_rcs0 hc hH 2 (pc' := 64) (lv' := [(2, .int 2), (0, .ref (19 + 8 * j)), (1, .int (nI k))]) (st' := [.ref (19 + 8 * j), .ref (19 + 8 * j)]) (by rfl) ?_
                    refine zq_gfi hc hH (by rfl) (ci := 2) (f := 5) (by rfl) (sj (P := fun i => okf 79 2 5 (19 + 8 * i)) hj (by decide +kernel)) (by rfl) ?_
                    refine zV1 (Z := Z) (Eq.trans (ui_o (by first | decide | omega)) (ui_o (by first | decide | omega))) ?_
                    refine z_rcs0 hc hH 2 (pc' := 69) (lv' := [(2, .int 2), (0, .ref (19 + 8 * j)), (1, .int (nI k))]) (st' := [.int ((μ.1 (19 + 8 * j) 5) - 1), .ref (19 + 8 * j)]) (by rfl) ?_
                    refine zq_pfi hc hH (by rfl) (ci := 2) (f := 5) (by rfl) (sj (P := fun i => okf 79 2 5 (19 + 8 * i)) hj (by decide +kernel)) (by rfl) ?_
                    show Z 0 72 [(2, .int 2), (0, .ref (19 + 8 * j)), (1, .int (nI k))] [] (z_ui (z_ui (z_ui μ (22 + 8 * j) 2 2) (20 + 8 * j) k ((μ.1 (20 + 8 * j) k) - 1)) (19 + 8 * j) 5 ((μ.1 (19 + 8 * j) 5) - 1))
                    refine z_rcs0 hc hH 1 (pc' := 73) (lv' := [(2, .int 2), (0, .ref (19 + 8 * j)), (1, .int (nI k))]) (st' := [.int 1]) (by rfl) ?_
                    exact hr 0 73 _ _ _ (some (.int 1)) (by decide +kernel) (z_rx_ok hH (by rfl)) (⟨(by first | with_reducible rfl | (simp only [h1, h2, h3, h33, h34, h35, h36, h37, h43, cond_true, cond_false]; done) | rfl), (by unfold aTm; simp only [h1, h2, h3, h33, h34, h35, h36, h37, h43, cond_true, cond_false])⟩)
            · have h35 : (decide ((μ.1 (22 + 8 * j) 1) = 1)) = true := decide_eq_true (cn_ne.mp h35)
              refine z_rcs hc hH 1 (pc' := 36) (lv' := [(2, .int 1), (0, .ref (19 + 8 * j)), (1, .int (nI k))]) (st' := [.ref (19 + 8 * j)]) (μ' := μ) (by rfl) ?_
              refine zq_gfr hc hH (by rfl) (ci := 2) (f := 3) (q := 23 + 8 * j) (by rfl) (sj (P := fun i => okf 79 2 3 (19 + 8 * i)) hj (by decide +kernel)) (by rfl) (sj (P := fun i => Nat.beq (z_gr (19 + 8 * i) 3) (23 + 8 * i)) hj (by decide +kernel)) ?_
              refine z_rcs hc hH 1 (pc' := 40) (lv' := [(2, .int 1), (0, .ref (19 + 8 * j)), (1, .int (nI k))]) (st' := [.int 1, .ref (23 + 8 * j)]) (μ' := μ) (by rfl) ?_
              refine zq_iald hc hH (by rfl) 4 (oka_i (sj (P := fun i => oka 79 1 4 (23 + 8 * i)) hj (by decide +kernel))) (show vp_in (nI 1) 4 from vp_in_nI (by decide) (by decide)) ?_
              rw [show (1 : Int32).toNatClampNeg = 1 from rfl]
              refine z_rcs hc hH 1 (pc' := 42) (lv' := [(2, .int 1), (0, .ref (19 + 8 * j)), (1, .int (nI k))]) (st' := [.int (nI k), .int (μ.1 (23 + 8 * j) 1)]) (μ' := μ) (by rfl) ?_
              refine zq_ic hc hH (by rfl) (tg := 74) (by rfl) (fun h49 => ?_) (fun h49 => ?_)
              · have h49 : (decide ((μ.1 (23 + 8 * j) 1) = (nI k))) = false := decide_eq_false (cm_ne.mp h49)
                refine z_rcs hc hH 4 (pc' := 14) (lv' := [(2, .int 2), (0, .ref (19 + 8 * j)), (1, .int (nI k))]) (st' := [.ref (19 + 8 * j), .int 2]) (μ' := μ) (by rfl) ?_
                refine zq_gfi hc hH (by rfl) (ci := 2) (f := 4) (by rfl) (sj (P := fun i => okf 79 2 4 (19 + 8 * i)) hj (by decide +kernel)) (by rfl) ?_
                refine zq_ic hc hH (by rfl) (tg := 80) (by rfl) (fun h50 => ?_) (fun h50 => ?_)
                · have h50 : (decide ((μ.1 (19 + 8 * j) 4) ≤ (2 : Int32))) = true := decide_eq_true (cm_ge.mp h50)
                  refine z_rcs hc hH 1 (pc' := 81) (lv' := [(2, .int 2), (0, .ref (19 + 8 * j)), (1, .int (nI k))]) (st' := [.int 0]) (μ' := μ) (by rfl) ?_
                  exact hr 0 81 _ _ _ (some (.int 0)) (by decide +kernel) (z_rx_ok hH (by rfl)) (⟨(by first | with_reducible rfl | (simp only [h1, h2, h3, h33, h34, h35, h49, h50, cond_true, cond_false]; done) | rfl), (by unfold aTm; simp only [h1, h2, h3, h33, h34, h35, h49, h50, cond_true, cond_false])⟩)
                · have h50 : (decide ((μ.1 (19 + 8 * j) 4) ≤ (2 : Int32))) = false := decide_eq_false (cn_ge.mp h50)
                  refine z_rcs hc hH 4 (pc' := 26) (lv' := [(2, .int 2), (0, .ref (19 + 8 * j)), (1, .int (nI k))]) (st' := [.ref (19 + 8 * j)]) (μ' := μ) (by rfl) ?_
                  refine zq_gfr hc hH (by rfl) (ci := 2) (f := 2) (q := 22 + 8 * j) (by rfl) (sj (P := fun i => okf 79 2 2 (19 + 8 * i)) hj (by decide +kernel)) (by rfl) (sj (P := fun i => Nat.beq (z_gr (19 + 8 * i) 2) (22 + 8 * i)) hj (by decide +kernel)) ?_
                  refine z_rcs hc hH 1 (pc' := 30) (lv' := [(2, .int 2), (0, .ref (19 + 8 * j)), (1, .int (nI k))]) (st' := [.int 2, .ref (22 + 8 * j)]) (μ' := μ) (by rfl) ?_
                  refine zq_iald hc hH (by rfl) 4 (oka_i (sj (P := fun i => oka 79 1 4 (22 + 8 * i)) hj (by decide +kernel))) (show vp_in (nI 2) 4 from vp_in_nI (by decide) (by decide)) ?_
                  rw [show (2 : Int32).toNatClampNeg = 2 from rfl]
                  refine z_rcs hc hH 1 (pc' := 32) (lv' := [(2, .int 2), (0, .ref (19 + 8 * j)), (1, .int (nI k))]) (st' := [.int 1, .int (μ.1 (22 + 8 * j) 2)]) (μ' := μ) (by rfl) ?_
                  refine zq_ic hc hH (by rfl) (tg := 74) (by rfl) (fun h51 => ?_) (fun h51 => ?_)
                  · have h51 : (decide ((μ.1 (22 + 8 * j) 2) = 1)) = false := decide_eq_false (cm_ne.mp h51)
                    refine z_rcs hc hH 4 (pc' := 14) (lv' := [(2, .int 3), (0, .ref (19 + 8 * j)), (1, .int (nI k))]) (st' := [.ref (19 + 8 * j), .int 3]) (μ' := μ) (by rfl) ?_
                    refine zq_gfi hc hH (by rfl) (ci := 2) (f := 4) (by rfl) (sj (P := fun i => okf 79 2 4 (19 + 8 * i)) hj (by decide +kernel)) (by rfl) ?_
                    refine zq_ic hc hH (by rfl) (tg := 80) (by rfl) (fun h52 => ?_) (fun h52 => ?_)
                    · have h52 : (decide ((μ.1 (19 + 8 * j) 4) ≤ (3 : Int32))) = true := decide_eq_true (cm_ge.mp h52)
                      refine z_rcs hc hH 1 (pc' := 81) (lv' := [(2, .int 3), (0, .ref (19 + 8 * j)), (1, .int (nI k))]) (st' := [.int 0]) (μ' := μ) (by rfl) ?_
                      exact hr 0 81 _ _ _ (some (.int 0)) (by decide +kernel) (z_rx_ok hH (by rfl)) (⟨(by first | with_reducible rfl | (simp only [h1, h2, h3, h33, h34, h35, h49, h50, h51, h52, cond_true, cond_false]; done) | rfl), (by unfold aTm; simp only [h1, h2, h3, h33, h34, h35, h49, h50, h51, h52, cond_true, cond_false])⟩)
                    · have h52 : (decide ((μ.1 (19 + 8 * j) 4) ≤ (3 : Int32))) = false := decide_eq_false (cn_ge.mp h52)
                      refine z_rcs hc hH 4 (pc' := 26) (lv' := [(2, .int 3), (0, .ref (19 + 8 * j)), (1, .int (nI k))]) (st' := [.ref (19 + 8 * j)]) (μ' := μ) (by rfl) ?_
                      refine zq_gfr hc hH (by rfl) (ci := 2) (f := 2) (q := 22 + 8 * j) (by rfl) (sj (P := fun i => okf 79 2 2 (19 + 8 * i)) hj (by decide +kernel)) (by rfl) (sj (P := fun i => Nat.beq (z_gr (19 + 8 * i) 2) (22 + 8 * i)) hj (by decide +kernel)) ?_
                      refine z_rcs hc hH 1 (pc' := 30) (lv' := [(2, .int 3), (0, .ref (19 + 8 * j)), (1, .int (nI k))]) (st' := [.int 3, .ref (22 + 8 * j)]) (μ' := μ) (by rfl) ?_
                      refine zq_iald hc hH (by rfl) 4 (oka_i (sj (P := fun i => oka 79 1 4 (22 + 8 * i)) hj (by decide +kernel))) (show vp_in (nI 3) 4 from vp_in_nI (by decide) (by decide)) ?_
                      rw [show (3 : Int32).toNatClampNeg = 3 from rfl]
                      refine z_rcs hc hH 1 (pc' := 32) (lv' := [(2, .int 3), (0, .ref (19 + 8 * j)), (1, .int (nI k))]) (st' := [.int 1, .int (μ.1 (22 + 8 * j) 3)]) (μ' := μ) (by rfl) ?_
                      refine zq_ic hc hH (by rfl) (tg := 74) (by rfl) (fun h53 => ?_) (fun h53 => ?_)
                      · have h53 : (decide ((μ.1 (22 + 8 * j) 3) = 1)) = false := decide_eq_false (cm_ne.mp h53)
                        refine z_rcs hc hH 4 (pc' := 14) (lv' := [(2, .int 4), (0, .ref (19 + 8 * j)), (1, .int (nI k))]) (st' := [.ref (19 + 8 * j), .int 4]) (μ' := μ) (by rfl) ?_
                        refine zq_gfi hc hH (by rfl) (ci := 2) (f := 4) (by rfl) (sj (P := fun i => okf 79 2 4 (19 + 8 * i)) hj (by decide +kernel)) (by rfl) ?_
                        refine zq_ic hc hH (by rfl) (tg := 80) (by rfl) (fun h54 => ?_) (fun h54 => ?_)
                        · have h54 : (decide ((μ.1 (19 + 8 * j) 4) ≤ (4 : Int32))) = true := decide_eq_true (cm_ge.mp h54)
                          refine z_rcs hc hH 1 (pc' := 81) (lv' := [(2, .int 4), (0, .ref (19 + 8 * j)), (1, .int (nI k))]) (st' := [.int 0]) (μ' := μ) (by rfl) ?_
                          exact hr 0 81 _ _ _ (some (.int 0)) (by decide +kernel) (z_rx_ok hH (by rfl)) (⟨(by first | with_reducible rfl | (simp only [h1, h2, h3, h33, h34, h35, h49, h50, h51, h52, h53, h54, cond_true, cond_false]; done) | rfl), (by unfold aTm; simp only [h1, h2, h3, h33, h34, h35, h49, h50, h51, h52, h53, h54, cond_true, cond_false])⟩)
                        · have h54 : (decide ((μ.1 (19 + 8 * j) 4) ≤ (4 : Int32))) = false := decide_eq_false (cn_ge.mp h54)
                          refine z_rcs hc hH 4 (pc' := 81) (lv' := [(2, .int 4), (0, .ref (19 + 8 * j)), (1, .int (nI k))]) (st' := [.int 0]) (μ' := μ) (by rfl) ?_
                          exact hr 0 81 _ _ _ (some (.int 0)) (by decide +kernel) (z_rx_ok hH (by rfl)) (⟨(by first | with_reducible rfl | (simp only [h1, h2, h3, h33, h34, h35, h49, h50, h51, h52, h53, h54, cond_true, cond_false]; done) | rfl), (by unfold aTm; simp only [h1, h2, h3, h33, h34, h35, h49, h50, h51, h52, h53, h54, cond_true, cond_false])⟩)
                      · have h53 : (decide ((μ.1 (22 + 8 * j) 3) = 1)) = true := decide_eq_true (cn_ne.mp h53)
                        refine z_rcs hc hH 1 (pc' := 36) (lv' := [(2, .int 3), (0, .ref (19 + 8 * j)), (1, .int (nI k))]) (st' := [.ref (19 + 8 * j)]) (μ' := μ) (by rfl) ?_
                        refine zq_gfr hc hH (by rfl) (ci := 2) (f := 3) (q := 23 + 8 * j) (by rfl) (sj (P := fun i => okf 79 2 3 (19 + 8 * i)) hj (by decide +kernel)) (by rfl) (sj (P := fun i => Nat.beq (z_gr (19 + 8 * i) 3) (23 + 8 * i)) hj (by decide +kernel)) ?_
                        refine z_rcs hc hH 1 (pc' := 40) (lv' := [(2, .int 3), (0, .ref (19 + 8 * j)), (1, .int (nI k))]) (st' := [.int 3, .ref (23 + 8 * j)]) (μ' := μ) (by rfl) ?_
                        refine zq_iald hc hH (by rfl) 4 (oka_i (sj (P := fun i => oka 79 1 4 (23 + 8 * i)) hj (by decide +kernel))) (show vp_in (nI 3) 4 from vp_in_nI (by decide) (by decide)) ?_
                        rw [show (3 : Int32).toNatClampNeg = 3 from rfl]
                        refine z_rcs hc hH 1 (pc' := 42) (lv' := [(2, .int 3), (0, .ref (19 + 8 * j)), (1, .int (nI k))]) (st' := [.int (nI k), .int (μ.1 (23 + 8 * j) 3)]) (μ' := μ) (by rfl) ?_
                        refine zq_ic hc hH (by rfl) (tg := 74) (by rfl) (fun h55 => ?_) (fun h55 => ?_)
                        · have h55 : (decide ((μ.1 (23 + 8 * j) 3) = (nI k))) = false := decide_eq_false (cm_ne.mp h55)
                          refine z_rcs hc hH 4 (pc' := 14) (lv' := [(2, .int 4), (0, .ref (19 + 8 * j)), (1, .int (nI k))]) (st' := [.ref (19 + 8 * j), .int 4]) (μ' := μ) (by rfl) ?_
                          refine zq_gfi hc hH (by rfl) (ci := 2) (f := 4) (by rfl) (sj (P := fun i => okf 79 2 4 (19 + 8 * i)) hj (by decide +kernel)) (by rfl) ?_
                          refine zq_ic hc hH (by rfl) (tg := 80) (by rfl) (fun h56 => ?_) (fun h56 => ?_)
                          · have h56 : (decide ((μ.1 (19 + 8 * j) 4) ≤ (4 : Int32))) = true := decide_eq_true (cm_ge.mp h56)
                            refine z_rcs hc hH 1 (pc' := 81) (lv' := [(2, .int 4), (0, .ref (19 + 8 * j)), (1, .int (nI k))]) (st' := [.int 0]) (μ' := μ) (by rfl) ?_
                            exact hr 0 81 _ _ _ (some (.int 0)) (by decide +kernel) (z_rx_ok hH (by rfl)) (⟨(by first | with_reducible rfl | (simp only [h1, h2, h3, h33, h34, h35, h49, h50, h51, h52, h53, h55, h56, cond_true, cond_false]; done) | rfl), (by unfold aTm; simp only [h1, h2, h3, h33, h34, h35, h49, h50, h51, h52, h53, h55, h56, cond_true, cond_false])⟩)
                          · have h56 : (decide ((μ.1 (19 + 8 * j) 4) ≤ (4 : Int32))) = false := decide_eq_false (cn_ge.mp h56)
                            refine z_rcs hc hH 4 (pc' := 81) (lv' := [(2, .int 4), (0, .ref (19 + 8 * j)), (1, .int (nI k))]) (st' := [.int 0]) (μ' := μ) (by rfl) ?_
                            exact hr 0 81 _ _ _ (some (.int 0)) (by decide +kernel) (z_rx_ok hH (by rfl)) (⟨(by first | with_reducible rfl | (simp only [h1, h2, h3, h33, h34, h35, h49, h50, h51, h52, h53, h55, h56, cond_true, cond_false]; done) | rfl), (by unfold aTm; simp only [h1, h2, h3, h33, h34, h35, h49, h50, h51, h52, h53, h55, h56, cond_true, cond_false])⟩)
                        · have h55 : (decide ((μ.1 (23 + 8 * j) 3) = (nI k))) = true := decide_eq_true (cn_ne.mp h55)
                          refine z_rcs hc hH 1 (pc' := 46) (lv' := [(2, .int 3), (0, .ref (19 + 8 * j)), (1, .int (nI k))]) (st' := [.ref (19 + 8 * j)]) (μ' := μ) (by rfl) ?_
                          refine zq_gfr hc hH (by rfl) (ci := 2) (f := 2) (q := 22 + 8 * j) (by rfl) (sj (P := fun i => okf 79 2 2 (19 + 8 * i)) hj (by decide +kernel)) (by rfl) (sj (P := fun i => Nat.beq (z_gr (19 + 8 * i) 2) (22 + 8 * i)) hj (by decide +kernel)) ?_
                          refine z_rcs hc hH 2 (pc' := 51) (lv' := [(2, .int 3), (0, .ref (19 + 8 * j)), (1, .int (nI k))]) (st' := [.int 2, .int 3, .ref (22 + 8 * j)]) (μ' := μ) (by rfl) ?_
                          refine zq_iast hc hH (by rfl) 4 (oka_i (sj (P := fun i => oka 79 1 4 (22 + 8 * i)) hj (by decide +kernel))).2 (show vp_in (nI 3) 4 from vp_in_nI (by decide) (by decide)) ?_
                          rw [show (3 : Int32).toNatClampNeg = 3 from rfl]
                          show Z 0 52 [(2, .int 3), (0, .ref (19 + 8 * j)), (1, .int (nI k))] [] (z_ui μ (22 + 8 * j) 3 2)
                          refine z_rcs0 hc hH 1 (pc' := 53) (lv' := [(2, .int 3), (0, .ref (19 + 8 * j)), (1, .int (nI k))]) (st' := [.ref (19 + 8 * j)]) (by rfl) ?_
                          refine zq_gfr hc hH (by rfl) (ci := 2) (f := 0) (q := 20 + 8 * j) (by rfl) (sj (P := fun i => okf 79 2 0 (19 + 8 * i)) hj (by decide +kernel)) (by rfl) (sj (P := fun i => Nat.beq (z_gr (19 + 8 * i) 0) (20 + 8 * i)) hj (by decide +kernel)) ?_
                          refine z_rcs0 hc hH 2 (pc' := 58) (lv' := [(2, .int 3), (0, .ref (19 + 8 * j)), (1, .int (nI k))]) (st' := [.int (nI k), .ref (20 + 8 * j), .int (nI k), .ref (20 + 8 * j)]) (by rfl) ?_
                          refine zq_iald hc hH (by rfl) 34 (oka_i (sj (P := fun i => oka 79 1 34 (20 + 8 * i)) hj (by decide +kernel))) (vp_in_nI (by omega) (by decide)) ?_
                          rw [nI_clamp (by omega)]
                          refine zV1 (Z := Z) (ui_o (by first | decide | omega)) ?_
                          refine z_rcs0 hc hH 2 (pc' := 61) (lv' := [(2, .int 3), (0, .ref (19 + 8 * j)), (1, .int (nI k))]) (st' := [.int ((μ.1 (20 + 8 * j) k) - 1), .int (nI k), .ref (20 + 8 * j)]) (by rfl) ?_
                          refine zq_iast hc hH (by rfl) 34 (oka_i (sj (P := fun i => oka 79 1 34 (20 + 8 * i)) hj (by decide +kernel))).2 (vp_in_nI (by omega) (by decide)) ?_
                          rw [nI_clamp (by omega)]
                          show Z 0 62 [(2, .int 3), (0, .ref (19 + 8 * j)), (1, .int (nI k))] [] (z_ui (z_ui μ (22 + 8 * j) 3 2) (20 + 8 * j) k ((μ.1 (20 + 8 * j) k) - 1))
                          refine z_rcs0 hc hH 2 (pc' := 64) (lv' := [(2, .int 3), (0, .ref (19 + 8 * j)), (1, .int (nI k))]) (st' := [.ref (19 + 8 * j), .ref (19 + 8 * j)]) (by rfl) ?_
                          refine zq_gfi hc hH (by rfl) (ci := 2) (f := 5) (by rfl) (sj (P := fun i => okf 79 2 5 (19 + 8 * i)) hj (by decide +kernel)) (by rfl) ?_
                          refine zV1 (Z := Z) (Eq.trans (ui_o (by first | decide | omega)) (ui_o (by first | decide | omega))) ?_
                          refine z_rcs0 hc hH 2 (pc' := 69) (lv' := [(2, .int 3), (0, .ref (19 + 8 * j)), (1, .int (nI k))]) (st' := [.int ((μ.1 (19 + 8 * j) 5) - 1), .ref (19 + 8 * j)]) (by rfl) ?_
                          refine zq_pfi hc hH (by rfl) (ci := 2) (f := 5) (by rfl) (sj (P := fun i => okf 79 2 5 (19 + 8 * i)) hj (by decide +kernel)) (by rfl) ?_
                          show Z 0 72 [(2, .int 3), (0, .ref (19 + 8 * j)), (1, .int (nI k))] [] (z_ui (z_ui (z_ui μ (22 + 8 * j) 3 2) (20 + 8 * j) k ((μ.1 (20 + 8 * j) k) - 1)) (19 + 8 * j) 5 ((μ.1 (19 + 8 * j) 5) - 1))
                          refine z_rcs0 hc hH 1 (pc' := 73) (lv' := [(2, .int 3), (0, .ref (19 + 8 * j)), (1, .int (nI k))]) (st' := [.int 1]) (by rfl) ?_
                          exact hr 0 73 _ _ _ (some (.int 1)) (by decide +kernel) (z_rx_ok hH (by rfl)) (⟨(by first | with_reducible rfl | (simp only [h1, h2, h3, h33, h34, h35, h49, h50, h51, h52, h53, h55, cond_true, cond_false]; done) | rfl), (by unfold aTm; simp only [h1, h2, h3, h33, h34, h35, h49, h50, h51, h52, h53, h55, cond_true, cond_false])⟩)
                  · have h51 : (decide ((μ.1 (22 + 8 * j) 2) = 1)) = true := decide_eq_true (cn_ne.mp h51)
                    refine z_rcs hc hH 1 (pc' := 36) (lv' := [(2, .int 2), (0, .ref (19 + 8 * j)), (1, .int (nI k))]) (st' := [.ref (19 + 8 * j)]) (μ' := μ) (by rfl) ?_
                    refine zq_gfr hc hH (by rfl) (ci := 2) (f := 3) (q := 23 + 8 * j) (by rfl) (sj (P := fun i => okf 79 2 3 (19 + 8 * i)) hj (by decide +kernel)) (by rfl) (sj (P := fun i => Nat.beq (z_gr (19 + 8 * i) 3) (23 + 8 * i)) hj (by decide +kernel)) ?_
                    refine z_rcs hc hH 1 (pc' := 40) (lv' := [(2, .int 2), (0, .ref (19 + 8 * j)), (1, .int (nI k))]) (st' := [.int 2, .ref (23 + 8 * j)]) (μ' := μ) (by rfl) ?_
                    refine zq_iald hc hH (by rfl) 4 (oka_i (sj (P := fun i => oka 79 1 4 (23 + 8 * i)) hj (by decide +kernel))) (show vp_in (nI 2) 4 from vp_in_nI (by decide) (by decide)) ?_
                    rw [show (2 : Int32).toNatClampNeg = 2 from rfl]
                    refine z_rcs hc hH 1 (pc' := 42) (lv' := [(2, .int 2), (0, .ref (19 + 8 * j)), (1, .int (nI k))]) (st' := [.int (nI k), .int (μ.1 (23 + 8 * j) 2)]) (μ' := μ) (by rfl) ?_
                    refine zq_ic hc hH (by rfl) (tg := 74) (by rfl) (fun h57 => ?_) (fun h57 => ?_)
                    · have h57 : (decide ((μ.1 (23 + 8 * j) 2) = (nI k))) = false := decide_eq_false (cm_ne.mp h57)
                      refine z_rcs hc hH 4 (pc' := 14) (lv' := [(2, .int 3), (0, .ref (19 + 8 * j)), (1, .int (nI k))]) (st' := [.ref (19 + 8 * j), .int 3]) (μ' := μ) (by rfl) ?_
                      refine zq_gfi hc hH (by rfl) (ci := 2) (f := 4) (by rfl) (sj (P := fun i => okf 79 2 4 (19 + 8 * i)) hj (by decide +kernel)) (by rfl) ?_
                      refine zq_ic hc hH (by rfl) (tg := 80) (by rfl) (fun h58 => ?_) (fun h58 => ?_)
                      · have h58 : (decide ((μ.1 (19 + 8 * j) 4) ≤ (3 : Int32))) = true := decide_eq_true (cm_ge.mp h58)
                        refine z_rcs hc hH 1 (pc' := 81) (lv' := [(2, .int 3), (0, .ref (19 + 8 * j)), (1, .int (nI k))]) (st' := [.int 0]) (μ' := μ) (by rfl) ?_
                        exact hr 0 81 _ _ _ (some (.int 0)) (by decide +kernel) (z_rx_ok hH (by rfl)) (⟨(by first | with_reducible rfl | (simp only [h1, h2, h3, h33, h34, h35, h49, h50, h51, h57, h58, cond_true, cond_false]; done) | rfl), (by unfold aTm; simp only [h1, h2, h3, h33, h34, h35, h49, h50, h51, h57, h58, cond_true, cond_false])⟩)
                      · have h58 : (decide ((μ.1 (19 + 8 * j) 4) ≤ (3 : Int32))) = false := decide_eq_false (cn_ge.mp h58)
                        refine z_rcs hc hH 4 (pc' := 26) (lv' := [(2, .int 3), (0, .ref (19 + 8 * j)), (1, .int (nI k))]) (st' := [.ref (19 + 8 * j)]) (μ' := μ) (by rfl) ?_
                        refine zq_gfr hc hH (by rfl) (ci := 2) (f := 2) (q := 22 + 8 * j) (by rfl) (sj (P := fun i => okf 79 2 2 (19 + 8 * i)) hj (by decide +kernel)) (by rfl) (sj (P := fun i => Nat.beq (z_gr (19 + 8 * i) 2) (22 + 8 * i)) hj (by decide +kernel)) ?_
                        refine z_rcs hc hH 1 (pc' := 30) (lv' := [(2, .int 3), (0, .ref (19 + 8 * j)), (1, .int (nI k))]) (st' := [.int 3, .ref (22 + 8 * j)]) (μ' := μ) (by rfl) ?_
                        refine zq_iald hc hH (by rfl) 4 (oka_i (sj (P := fun i => oka 79 1 4 (22 + 8 * i)) hj (by decide +kernel))) (show vp_in (nI 3) 4 from vp_in_nI (by decide) (by decide)) ?_
                        rw [show (3 : Int32).toNatClampNeg = 3 from rfl]
                        refine z_rcs hc hH 1 (pc' := 32) (lv' := [(2, .int 3), (0, .ref (19 + 8 * j)), (1, .int (nI k))]) (st' := [.int 1, .int (μ.1 (22 + 8 * j) 3)]) (μ' := μ) (by rfl) ?_
                        refine zq_ic hc hH (by rfl) (tg := 74) (by rfl) (fun h59 => ?_) (fun h59 => ?_)
                        · have h59 : (decide ((μ.1 (22 + 8 * j) 3) = 1)) = false := decide_eq_false (cm_ne.mp h59)
                          refine z_rcs hc hH 4 (pc' := 14) (lv' := [(2, .int 4), (0, .ref (19 + 8 * j)), (1, .int (nI k))]) (st' := [.ref (19 + 8 * j), .int 4]) (μ' := μ) (by rfl) ?_
                          refine zq_gfi hc hH (by rfl) (ci := 2) (f := 4) (by rfl) (sj (P := fun i => okf 79 2 4 (19 + 8 * i)) hj (by decide +kernel)) (by rfl) ?_
                          refine zq_ic hc hH (by rfl) (tg := 80) (by rfl) (fun h60 => ?_) (fun h60 => ?_)
                          · have h60 : (decide ((μ.1 (19 + 8 * j) 4) ≤ (4 : Int32))) = true := decide_eq_true (cm_ge.mp h60)
                            refine z_rcs hc hH 1 (pc' := 81) (lv' := [(2, .int 4), (0, .ref (19 + 8 * j)), (1, .int (nI k))]) (st' := [.int 0]) (μ' := μ) (by rfl) ?_
                            exact hr 0 81 _ _ _ (some (.int 0)) (by decide +kernel) (z_rx_ok hH (by rfl)) (⟨(by first | with_reducible rfl | (simp only [h1, h2, h3, h33, h34, h35, h49, h50, h51, h57, h58, h59, h60, cond_true, cond_false]; done) | rfl), (by unfold aTm; simp only [h1, h2, h3, h33, h34, h35, h49, h50, h51, h57, h58, h59, h60, cond_true, cond_false])⟩)
                          · have h60 : (decide ((μ.1 (19 + 8 * j) 4) ≤ (4 : Int32))) = false := decide_eq_false (cn_ge.mp h60)
                            refine z_rcs hc hH 4 (pc' := 81) (lv' := [(2, .int 4), (0, .ref (19 + 8 * j)), (1, .int (nI k))]) (st' := [.int 0]) (μ' := μ) (by rfl) ?_
                            exact hr 0 81 _ _ _ (some (.int 0)) (by decide +kernel) (z_rx_ok hH (by rfl)) (⟨(by first | with_reducible rfl | (simp only [h1, h2, h3, h33, h34, h35, h49, h50, h51, h57, h58, h59, h60, cond_true, cond_false]; done) | rfl), (by unfold aTm; simp only [h1, h2, h3, h33, h34, h35, h49, h50, h51, h57, h58, h59, h60, cond_true, cond_false])⟩)
                        · have h59 : (decide ((μ.1 (22 + 8 * j) 3) = 1)) = true := decide_eq_true (cn_ne.mp h59)
                          refine z_rcs hc hH 1 (pc' := 36) (lv' := [(2, .int 3), (0, .ref (19 + 8 * j)), (1, .int (nI k))]) (st' := [.ref (19 + 8 * j)]) (μ' := μ) (by rfl) ?_
                          refine zq_gfr hc hH (by rfl) (ci := 2) (f := 3) (q := 23 + 8 * j) (by rfl) (sj (P := fun i => okf 79 2 3 (19 + 8 * i)) hj (by decide +kernel)) (by rfl) (sj (P := fun i => Nat.beq (z_gr (19 + 8 * i) 3) (23 + 8 * i)) hj (by decide +kernel)) ?_
                          refine z_rcs hc hH 1 (pc' := 40) (lv' := [(2, .int 3), (0, .ref (19 + 8 * j)), (1, .int (nI k))]) (st' := [.int 3, .ref (23 + 8 * j)]) (μ' := μ) (by rfl) ?_
                          refine zq_iald hc hH (by rfl) 4 (oka_i (sj (P := fun i => oka 79 1 4 (23 + 8 * i)) hj (by decide +kernel))) (show vp_in (nI 3) 4 from vp_in_nI (by decide) (by decide)) ?_
                          rw [show (3 : Int32).toNatClampNeg = 3 from rfl]
                          refine z_rcs hc hH 1 (pc' := 42) (lv' := [(2, .int 3), (0, .ref (19 + 8 * j)), (1, .int (nI k))]) (st' := [.int (nI k), .int (μ.1 (23 + 8 * j) 3)]) (μ' := μ) (by rfl) ?_
                          refine zq_ic hc hH (by rfl) (tg := 74) (by rfl) (fun h61 => ?_) (fun h61 => ?_)
                          · have h61 : (decide ((μ.1 (23 + 8 * j) 3) = (nI k))) = false := decide_eq_false (cm_ne.mp h61)
                            refine z_rcs hc hH 4 (pc' := 14) (lv' := [(2, .int 4), (0, .ref (19 + 8 * j)), (1, .int (nI k))]) (st' := [.ref (19 + 8 * j), .int 4]) (μ' := μ) (by rfl) ?_
                            refine zq_gfi hc hH (by rfl) (ci := 2) (f := 4) (by rfl) (sj (P := fun i => okf 79 2 4 (19 + 8 * i)) hj (by decide +kernel)) (by rfl) ?_
                            refine zq_ic hc hH (by rfl) (tg := 80) (by rfl) (fun h62 => ?_) (fun h62 => ?_)
                            · have h62 : (decide ((μ.1 (19 + 8 * j) 4) ≤ (4 : Int32))) = true := decide_eq_true (cm_ge.mp h62)
                              refine z_rcs hc hH 1 (pc' := 81) (lv' := [(2, .int 4), (0, .ref (19 + 8 * j)), (1, .int (nI k))]) (st' := [.int 0]) (μ' := μ) (by rfl) ?_
                              exact hr 0 81 _ _ _ (some (.int 0)) (by decide +kernel) (z_rx_ok hH (by rfl)) (⟨(by first | with_reducible rfl | (simp only [h1, h2, h3, h33, h34, h35, h49, h50, h51, h57, h58, h59, h61, h62, cond_true, cond_false]; done) | rfl), (by unfold aTm; simp only [h1, h2, h3, h33, h34, h35, h49, h50, h51, h57, h58, h59, h61, h62, cond_true, cond_false])⟩)
                            · have h62 : (decide ((μ.1 (19 + 8 * j) 4) ≤ (4 : Int32))) = false := decide_eq_false (cn_ge.mp h62)
                              refine z_rcs hc hH 4 (pc' := 81) (lv' := [(2, .int 4), (0, .ref (19 + 8 * j)), (1, .int (nI k))]) (st' := [.int 0]) (μ' := μ) (by rfl) ?_
                              exact hr 0 81 _ _ _ (some (.int 0)) (by decide +kernel) (z_rx_ok hH (by rfl)) (⟨(by first | with_reducible rfl | (simp only [h1, h2, h3, h33, h34, h35, h49, h50, h51, h57, h58, h59, h61, h62, cond_true, cond_false]; done) | rfl), (by unfold aTm; simp only [h1, h2, h3, h33, h34, h35, h49, h50, h51, h57, h58, h59, h61, h62, cond_true, cond_false])⟩)
                          · have h61 : (decide ((μ.1 (23 + 8 * j) 3) = (nI k))) = true := decide_eq_true (cn_ne.mp h61)
                            refine z_rcs hc hH 1 (pc' := 46) (lv' := [(2, .int 3), (0, .ref (19 + 8 * j)), (1, .int (nI k))]) (st' := [.ref (19 + 8 * j)]) (μ' := μ) (by rfl) ?_
                            refine zq_gfr hc hH (by rfl) (ci := 2) (f := 2) (q := 22 + 8 * j) (by rfl) (sj (P := fun i => okf 79 2 2 (19 + 8 * i)) hj (by decide +kernel)) (by rfl) (sj (P := fun i => Nat.beq (z_gr (19 + 8 * i) 2) (22 + 8 * i)) hj (by decide +kernel)) ?_
                            refine z_rcs hc hH 2 (pc' := 51) (lv' := [(2, .int 3), (0, .ref (19 + 8 * j)), (1, .int (nI k))]) (st' := [.int 2, .int 3, .ref (22 + 8 * j)]) (μ' := μ) (by rfl) ?_
                            refine zq_iast hc hH (by rfl) 4 (oka_i (sj (P := fun i => oka 79 1 4 (22 + 8 * i)) hj (by decide +kernel))).2 (show vp_in (nI 3) 4 from vp_in_nI (by decide) (by decide)) ?_
                            rw [show (3 : Int32).toNatClampNeg = 3 from rfl]
                            show Z 0 52 [(2, .int 3), (0, .ref (19 + 8 * j)), (1, .int (nI k))] [] (z_ui μ (22 + 8 * j) 3 2)
                            refine z_rcs0 hc hH 1 (pc' := 53) (lv' := [(2, .int 3), (0, .ref (19 + 8 * j)), (1, .int (nI k))]) (st' := [.ref (19 + 8 * j)]) (by rfl) ?_
                            refine zq_gfr hc hH (by rfl) (ci := 2) (f := 0) (q := 20 + 8 * j) (by rfl) (sj (P := fun i => okf 79 2 0 (19 + 8 * i)) hj (by decide +kernel)) (by rfl) (sj (P := fun i => Nat.beq (z_gr (19 + 8 * i) 0) (20 + 8 * i)) hj (by decide +kernel)) ?_
                            refine z_rcs0 hc hH 2 (pc' := 58) (lv' := [(2, .int 3), (0, .ref (19 + 8 * j)), (1, .int (nI k))]) (st' := [.int (nI k), .ref (20 + 8 * j), .int (nI k), .ref (20 + 8 * j)]) (by rfl) ?_
                            refine zq_iald hc hH (by rfl) 34 (oka_i (sj (P := fun i => oka 79 1 34 (20 + 8 * i)) hj (by decide +kernel))) (vp_in_nI (by omega) (by decide)) ?_
                            rw [nI_clamp (by omega)]
                            refine zV1 (Z := Z) (ui_o (by first | decide | omega)) ?_
                            refine z_rcs0 hc hH 2 (pc' := 61) (lv' := [(2, .int 3), (0, .ref (19 + 8 * j)), (1, .int (nI k))]) (st' := [.int ((μ.1 (20 + 8 * j) k) - 1), .int (nI k), .ref (20 + 8 * j)]) (by rfl) ?_
                            refine zq_iast hc hH (by rfl) 34 (oka_i (sj (P := fun i => oka 79 1 34 (20 + 8 * i)) hj (by decide +kernel))).2 (vp_in_nI (by omega) (by decide)) ?_
                            rw [nI_clamp (by omega)]
                            show Z 0 62 [(2, .int 3), (0, .ref (19 + 8 * j)), (1, .int (nI k))] [] (z_ui (z_ui μ (22 + 8 * j) 3 2) (20 + 8 * j) k ((μ.1 (20 + 8 * j) k) - 1))
                            refine z_rcs0 hc hH 2 (pc' := 64) (lv' := [(2, .int 3), (0, .ref (19 + 8 * j)), (1, .int (nI k))]) (st' := [.ref (19 + 8 * j), .ref (19 + 8 * j)]) (by rfl) ?_
                            refine zq_gfi hc hH (by rfl) (ci := 2) (f := 5) (by rfl) (sj (P := fun i => okf 79 2 5 (19 + 8 * i)) hj (by decide +kernel)) (by rfl) ?_
                            refine zV1 (Z := Z) (Eq.trans (ui_o (by first | decide | omega)) (ui_o (by first | decide | omega))) ?_
                            refine z_rcs0 hc hH 2 (pc' := 69) (lv' := [(2, .int 3), (0, .ref (19 + 8 * j)), (1, .int (nI k))]) (st' := [.int ((μ.1 (19 + 8 * j) 5) - 1), .ref (19 + 8 * j)]) (by rfl) ?_
                            refine zq_pfi hc hH (by rfl) (ci := 2) (f := 5) (by rfl) (sj (P := fun i => okf 79 2 5 (19 + 8 * i)) hj (by decide +kernel)) (by rfl) ?_
                            show Z 0 72 [(2, .int 3), (0, .ref (19 + 8 * j)), (1, .int (nI k))] [] (z_ui (z_ui (z_ui μ (22 + 8 * j) 3 2) (20 + 8 * j) k ((μ.1 (20 + 8 * j) k) - 1)) (19 + 8 * j) 5 ((μ.1 (19 + 8 * j) 5) - 1))
                            refine z_rcs0 hc hH 1 (pc' := 73) (lv' := [(2, .int 3), (0, .ref (19 + 8 * j)), (1, .int (nI k))]) (st' := [.int 1]) (by rfl) ?_
                            exact hr 0 73 _ _ _ (some (.int 1)) (by decide +kernel) (z_rx_ok hH (by rfl)) (⟨(by first | with_reducible rfl | (simp only [h1, h2, h3, h33, h34, h35, h49, h50, h51, h57, h58, h59, h61, cond_true, cond_false]; done) | rfl), (by unfold aTm; simp only [h1, h2, h3, h33, h34, h35, h49, h50, h51, h57, h58, h59, h61, cond_true, cond_false])⟩)
                    · have h57 : (decide ((μ.1 (23 + 8 * j) 2) = (nI k))) = true := decide_eq_true (cn_ne.mp h57)
                      refine z_rcs hc hH 1 (pc' := 46) (lv' := [(2, .int 2), (0, .ref (19 + 8 * j)), (1, .int (nI k))]) (st' := [.ref (19 + 8 * j)]) (μ' := μ) (by rfl) ?_
                      refine zq_gfr hc hH (by rfl) (ci := 2) (f := 2) (q := 22 + 8 * j) (by rfl) (sj (P := fun i => okf 79 2 2 (19 + 8 * i)) hj (by decide +kernel)) (by rfl) (sj (P := fun i => Nat.beq (z_gr (19 + 8 * i) 2) (22 + 8 * i)) hj (by decide +kernel)) ?_
                      refine z_rcs hc hH 2 (pc' := 51) (lv' := [(2, .int 2), (0, .ref (19 + 8 * j)), (1, .int (nI k))]) (st' := [.int 2, .int 2, .ref (22 + 8 * j)]) (μ' := μ) (by rfl) ?_
                      refine zq_iast hc hH (by rfl) 4 (oka_i (sj (P := fun i => oka 79 1 4 (22 + 8 * i)) hj (by decide +kernel))).2 (show vp_in (nI 2) 4 from vp_in_nI (by decide) (by decide)) ?_
                      rw [show (2 : Int32).toNatClampNeg = 2 from rfl]
                      show Z 0 52 [(2, .int 2), (0, .ref (19 + 8 * j)), (1, .int (nI k))] [] (z_ui μ (22 + 8 * j) 2 2)
                      refine z_rcs0 hc hH 1 (pc' := 53) (lv' := [(2, .int 2), (0, .ref (19 + 8 * j)), (1, .int (nI k))]) (st' := [.ref (19 + 8 * j)]) (by rfl) ?_
                      refine zq_gfr hc hH (by rfl) (ci := 2) (f := 0) (q := 20 + 8 * j) (by rfl) (sj (P := fun i => okf 79 2 0 (19 + 8 * i)) hj (by decide +kernel)) (by rfl) (sj (P := fun i => Nat.beq (z_gr (19 + 8 * i) 0) (20 + 8 * i)) hj (by decide +kernel)) ?_
                      refine z_rcs0 hc hH 2 (pc' := 58) (lv' := [(2, .int 2), (0, .ref (19 + 8 * j)), (1, .int (nI k))]) (st' := [.int (nI k), .ref (20 + 8 * j), .int (nI k), .ref (20 + 8 * j)]) (by rfl) ?_
                      refine zq_iald hc hH (by rfl) 34 (oka_i (sj (P := fun i => oka 79 1 34 (20 + 8 * i)) hj (by decide +kernel))) (vp_in_nI (by omega) (by decide)) ?_
                      rw [nI_clamp (by omega)]
                      refine zV1 (Z := Z) (ui_o (by first | decide | omega)) ?_
                      refine z_rcs0 hc hH 2 (pc' := 61) (lv' := [(2, .int 2), (0, .ref (19 + 8 * j)), (1, .int (nI k))]) (st' := [.int ((μ.1 (20 + 8 * j) k) - 1), .int (nI k), .ref (20 + 8 * j)]) (by rfl) ?_
                      refine zq_iast hc hH (by rfl) 34 (oka_i (sj (P := fun i => oka 79 1 34 (20 + 8 * i)) hj (by decide +kernel))).2 (vp_in_nI (by omega) (by decide)) ?_
                      rw [nI_clamp (by omega)]
                      show Z 0 62 [(2, .int 2), (0, .ref (19 + 8 * j)), (1, .int (nI k))] [] (z_ui (z_ui μ (22 + 8 * j) 2 2) (20 + 8 * j) k ((μ.1 (20 + 8 * j) k) - 1))
                      refine z_rcs0 hc hH 2 (pc' := 64) (lv' := [(2, .int 2), (0, .ref (19 + 8 * j)), (1, .int (nI k))]) (st' := [.ref (19 + 8 * j), .ref (19 + 8 * j)]) (by rfl) ?_
                      refine zq_gfi hc hH (by rfl) (ci := 2) (f := 5) (by rfl) (sj (P := fun i => okf 79 2 5 (19 + 8 * i)) hj (by decide +kernel)) (by rfl) ?_
                      refine zV1 (Z := Z) (Eq.trans (ui_o (by first | decide | omega)) (ui_o (by first | decide | omega))) ?_
                      refine z_rcs0 hc hH 2 (pc' := 69) (lv' := [(2, .int 2), (0, .ref (19 + 8 * j)), (1, .int (nI k))]) (st' := [.int ((μ.1 (19 + 8 * j) 5) - 1), .ref (19 + 8 * j)]) (by rfl) ?_
                      refine zq_pfi hc hH (by rfl) (ci := 2) (f := 5) (by rfl) (sj (P := fun i => okf 79 2 5 (19 + 8 * i)) hj (by decide +kernel)) (by rfl) ?_
                      show Z 0 72 [(2, .int 2), (0, .ref (19 + 8 * j)), (1, .int (nI k))] [] (z_ui (z_ui (z_ui μ (22 + 8 * j) 2 2) (20 + 8 * j) k ((μ.1 (20 + 8 * j) k) - 1)) (19 + 8 * j) 5 ((μ.1 (19 + 8 * j) 5) - 1))
                      refine z_rcs0 hc hH 1 (pc' := 73) (lv' := [(2, .int 2), (0, .ref (19 + 8 * j)), (1, .int (nI k))]) (st' := [.int 1]) (by rfl) ?_
                      exact hr 0 73 _ _ _ (some (.int 1)) (by decide +kernel) (z_rx_ok hH (by rfl)) (⟨(by first | with_reducible rfl | (simp only [h1, h2, h3, h33, h34, h35, h49, h50, h51, h57, cond_true, cond_false]; done) | rfl), (by unfold aTm; simp only [h1, h2, h3, h33, h34, h35, h49, h50, h51, h57, cond_true, cond_false])⟩)
              · have h49 : (decide ((μ.1 (23 + 8 * j) 1) = (nI k))) = true := decide_eq_true (cn_ne.mp h49)
                refine z_rcs hc hH 1 (pc' := 46) (lv' := [(2, .int 1), (0, .ref (19 + 8 * j)), (1, .int (nI k))]) (st' := [.ref (19 + 8 * j)]) (μ' := μ) (by rfl) ?_
                refine zq_gfr hc hH (by rfl) (ci := 2) (f := 2) (q := 22 + 8 * j) (by rfl) (sj (P := fun i => okf 79 2 2 (19 + 8 * i)) hj (by decide +kernel)) (by rfl) (sj (P := fun i => Nat.beq (z_gr (19 + 8 * i) 2) (22 + 8 * i)) hj (by decide +kernel)) ?_
                refine z_rcs hc hH 2 (pc' := 51) (lv' := [(2, .int 1), (0, .ref (19 + 8 * j)), (1, .int (nI k))]) (st' := [.int 2, .int 1, .ref (22 + 8 * j)]) (μ' := μ) (by rfl) ?_
                refine zq_iast hc hH (by rfl) 4 (oka_i (sj (P := fun i => oka 79 1 4 (22 + 8 * i)) hj (by decide +kernel))).2 (show vp_in (nI 1) 4 from vp_in_nI (by decide) (by decide)) ?_
                rw [show (1 : Int32).toNatClampNeg = 1 from rfl]
                show Z 0 52 [(2, .int 1), (0, .ref (19 + 8 * j)), (1, .int (nI k))] [] (z_ui μ (22 + 8 * j) 1 2)
                refine z_rcs0 hc hH 1 (pc' := 53) (lv' := [(2, .int 1), (0, .ref (19 + 8 * j)), (1, .int (nI k))]) (st' := [.ref (19 + 8 * j)]) (by rfl) ?_
                refine zq_gfr hc hH (by rfl) (ci := 2) (f := 0) (q := 20 + 8 * j) (by rfl) (sj (P := fun i => okf 79 2 0 (19 + 8 * i)) hj (by decide +kernel)) (by rfl) (sj (P := fun i => Nat.beq (z_gr (19 + 8 * i) 0) (20 + 8 * i)) hj (by decide +kernel)) ?_
                refine z_rcs0 hc hH 2 (pc' := 58) (lv' := [(2, .int 1), (0, .ref (19 + 8 * j)), (1, .int (nI k))]) (st' := [.int (nI k), .ref (20 + 8 * j), .int (nI k), .ref (20 + 8 * j)]) (by rfl) ?_
                refine zq_iald hc hH (by rfl) 34 (oka_i (sj (P := fun i => oka 79 1 34 (20 + 8 * i)) hj (by decide +kernel))) (vp_in_nI (by omega) (by decide)) ?_
                rw [nI_clamp (by omega)]
                refine zV1 (Z := Z) (ui_o (by first | decide | omega)) ?_
                refine z_rcs0 hc hH 2 (pc' := 61) (lv' := [(2, .int 1), (0, .ref (19 + 8 * j)), (1, .int (nI k))]) (st' := [.int ((μ.1 (20 + 8 * j) k) - 1), .int (nI k), .ref (20 + 8 * j)]) (by rfl) ?_
                refine zq_iast hc hH (by rfl) 34 (oka_i (sj (P := fun i => oka 79 1 34 (20 + 8 * i)) hj (by decide +kernel))).2 (vp_in_nI (by omega) (by decide)) ?_
                rw [nI_clamp (by omega)]
                show Z 0 62 [(2, .int 1), (0, .ref (19 + 8 * j)), (1, .int (nI k))] [] (z_ui (z_ui μ (22 + 8 * j) 1 2) (20 + 8 * j) k ((μ.1 (20 + 8 * j) k) - 1))
                refine z_rcs0 hc hH 2 (pc' := 64) (lv' := [(2, .int 1), (0, .ref (19 + 8 * j)), (1, .int (nI k))]) (st' := [.ref (19 + 8 * j), .ref (19 + 8 * j)]) (by rfl) ?_
                refine zq_gfi hc hH (by rfl) (ci := 2) (f := 5) (by rfl) (sj (P := fun i => okf 79 2 5 (19 + 8 * i)) hj (by decide +kernel)) (by rfl) ?_
                refine zV1 (Z := Z) (Eq.trans (ui_o (by first | decide | omega)) (ui_o (by first | decide | omega))) ?_
                refine z_rcs0 hc hH 2 (pc' := 69) (lv' := [(2, .int 1), (0, .ref (19 + 8 * j)), (1, .int (nI k))]) (st' := [.int ((μ.1 (19 + 8 * j) 5) - 1), .ref (19 + 8 * j)]) (by rfl) ?_
                refine zq_pfi hc hH (by rfl) (ci := 2) (f := 5) (by rfl) (sj (P := fun i => okf 79 2 5 (19 + 8 * i)) hj (by decide +kernel)) (by rfl) ?_
                show Z 0 72 [(2, .int 1), (0, .ref (19 + 8 * j)), (1, .int (nI k))] [] (z_ui (z_ui (z_ui μ (22 + 8 * j) 1 2) (20 + 8 * j) k ((μ.1 (20 + 8 * j) k) - 1)) (19 + 8 * j) 5 ((μ.1 (19 + 8 * j) 5) - 1))
                refine z_rcs0 hc hH 1 (pc' := 73) (lv' := [(2, .int 1), (0, .ref (19 + 8 * j)), (1, .int (nI k))]) (st' := [.int 1]) (by rfl) ?_
                exact hr 0 73 _ _ _ (some (.int 1)) (by decide +kernel) (z_rx_ok hH (by rfl)) (⟨(by first | with_reducible rfl | (simp only [h1, h2, h3, h33, h34, h35, h49, cond_true, cond_false]; done) | rfl), (by unfold aTm; simp only [h1, h2, h3, h33, h34, h35, h49, cond_true, cond_false])⟩)
        · have h33 : (decide ((μ.1 (23 + 8 * j) 0) = (nI k))) = true := decide_eq_true (cn_ne.mp h33)
          refine z_rcs hc hH 1 (pc' := 46) (lv' := [(2, .int 0), (0, .ref (19 + 8 * j)), (1, .int (nI k))]) (st' := [.ref (19 + 8 * j)]) (μ' := μ) (by rfl) ?_
          refine zq_gfr hc hH (by rfl) (ci := 2) (f := 2) (q := 22 + 8 * j) (by rfl) (sj (P := fun i => okf 79 2 2 (19 + 8 * i)) hj (by decide +kernel)) (by rfl) (sj (P := fun i => Nat.beq (z_gr (19 + 8 * i) 2) (22 + 8 * i)) hj (by decide +kernel)) ?_
          refine z_rcs hc hH 2 (pc' := 51) (lv' := [(2, .int 0), (0, .ref (19 + 8 * j)), (1, .int (nI k))]) (st' := [.int 2, .int 0, .ref (22 + 8 * j)]) (μ' := μ) (by rfl) ?_
          refine zq_iast hc hH (by rfl) 4 (oka_i (sj (P := fun i => oka 79 1 4 (22 + 8 * i)) hj (by decide +kernel))).2 (show vp_in (nI 0) 4 from vp_in_nI (by decide) (by decide)) ?_
          rw [show (0 : Int32).toNatClampNeg = 0 from rfl]
          show Z 0 52 [(2, .int 0), (0, .ref (19 + 8 * j)), (1, .int (nI k))] [] (z_ui μ (22 + 8 * j) 0 2)
          refine z_rcs0 hc hH 1 (pc' := 53) (lv' := [(2, .int 0), (0, .ref (19 + 8 * j)), (1, .int (nI k))]) (st' := [.ref (19 + 8 * j)]) (by rfl) ?_
          refine zq_gfr hc hH (by rfl) (ci := 2) (f := 0) (q := 20 + 8 * j) (by rfl) (sj (P := fun i => okf 79 2 0 (19 + 8 * i)) hj (by decide +kernel)) (by rfl) (sj (P := fun i => Nat.beq (z_gr (19 + 8 * i) 0) (20 + 8 * i)) hj (by decide +kernel)) ?_
          refine z_rcs0 hc hH 2 (pc' := 58) (lv' := [(2, .int 0), (0, .ref (19 + 8 * j)), (1, .int (nI k))]) (st' := [.int (nI k), .ref (20 + 8 * j), .int (nI k), .ref (20 + 8 * j)]) (by rfl) ?_
          refine zq_iald hc hH (by rfl) 34 (oka_i (sj (P := fun i => oka 79 1 34 (20 + 8 * i)) hj (by decide +kernel))) (vp_in_nI (by omega) (by decide)) ?_
          rw [nI_clamp (by omega)]
          refine zV1 (Z := Z) (ui_o (by first | decide | omega)) ?_
          refine z_rcs0 hc hH 2 (pc' := 61) (lv' := [(2, .int 0), (0, .ref (19 + 8 * j)), (1, .int (nI k))]) (st' := [.int ((μ.1 (20 + 8 * j) k) - 1), .int (nI k), .ref (20 + 8 * j)]) (by rfl) ?_
          refine zq_iast hc hH (by rfl) 34 (oka_i (sj (P := fun i => oka 79 1 34 (20 + 8 * i)) hj (by decide +kernel))).2 (vp_in_nI (by omega) (by decide)) ?_
          rw [nI_clamp (by omega)]
          show Z 0 62 [(2, .int 0), (0, .ref (19 + 8 * j)), (1, .int (nI k))] [] (z_ui (z_ui μ (22 + 8 * j) 0 2) (20 + 8 * j) k ((μ.1 (20 + 8 * j) k) - 1))
          refine z_rcs0 hc hH 2 (pc' := 64) (lv' := [(2, .int 0), (0, .ref (19 + 8 * j)), (1, .int (nI k))]) (st' := [.ref (19 + 8 * j), .ref (19 + 8 * j)]) (by rfl) ?_
          refine zq_gfi hc hH (by rfl) (ci := 2) (f := 5) (by rfl) (sj (P := fun i => okf 79 2 5 (19 + 8 * i)) hj (by decide +kernel)) (by rfl) ?_
          refine zV1 (Z := Z) (Eq.trans (ui_o (by first | decide | omega)) (ui_o (by first | decide | omega))) ?_
          refine z_rcs0 hc hH 2 (pc' := 69) (lv' := [(2, .int 0), (0, .ref (19 + 8 * j)), (1, .int (nI k))]) (st' := [.int ((μ.1 (19 + 8 * j) 5) - 1), .ref (19 + 8 * j)]) (by rfl) ?_
          refine zq_pfi hc hH (by rfl) (ci := 2) (f := 5) (by rfl) (sj (P := fun i => okf 79 2 5 (19 + 8 * i)) hj (by decide +kernel)) (by rfl) ?_
          show Z 0 72 [(2, .int 0), (0, .ref (19 + 8 * j)), (1, .int (nI k))] [] (z_ui (z_ui (z_ui μ (22 + 8 * j) 0 2) (20 + 8 * j) k ((μ.1 (20 + 8 * j) k) - 1)) (19 + 8 * j) 5 ((μ.1 (19 + 8 * j) 5) - 1))
          refine z_rcs0 hc hH 1 (pc' := 73) (lv' := [(2, .int 0), (0, .ref (19 + 8 * j)), (1, .int (nI k))]) (st' := [.int 1]) (by rfl) ?_
          exact hr 0 73 _ _ _ (some (.int 1)) (by decide +kernel) (z_rx_ok hH (by rfl)) (⟨(by first | with_reducible rfl | (simp only [h1, h2, h3, h33, cond_true, cond_false]; done) | rfl), (by unfold aTm; simp only [h1, h2, h3, h33, cond_true, cond_false])⟩)
  · have h1 : (decide ((fr μ (20 + 8 * j) (nI k)) = 0)) = true := decide_eq_true (cn_ne.mp h1)
    refine z_rcs hc hH 1 (pc' := 9) (lv' := [(0, .ref (19 + 8 * j)), (1, .int (nI k))]) (st' := [.int 0]) (μ' := μ) (by rfl) ?_
    exact hr 0 9 _ _ _ (some (.int 0)) (by decide +kernel) (z_rx_ok hH (by rfl)) (⟨(by first | with_reducible rfl | (simp only [h1, cond_true, cond_false]; done) | rfl), (by unfold aTm; simp only [h1, cond_true, cond_false])⟩)
/-! the game: dear tiles, records, the end of a hand -/
set_option maxRecDepth 8000
theorem gc_all (d : Nat) (hd : 2 ≤ d) (μ : zM) (j : Nat) (hj : j < 4) (k : Int32) : z_C d mi_X3_all [.ref (19 + 8 * j), .int k] μ (zR μ (.int (fr μ (21 + 8 * j) k))) := by
  refine z_C_mono (sM_pure hj μ (by decide) (sg9 hj rfl) (fc_X3_all d hd (sMm j μ) k)) (fun r μ' z => ⟨z.1, ?_⟩)
  rcases z.2 with ⟨h1, h2⟩ | ⟨h1, h2⟩
  · rw [sM11 hj] at h2
    rw [map_int h2]; unfold fr; rw [z_in_iff.mpr h1]; rfl
  · rw [map_int h2]; unfold fr
    have e : z_in k 34 = false := by cases e : z_in k 34 with | false => rfl | true => exact absurd (z_in_iff.mp e) h1
    rw [e]; rfl
noncomputable abbrev bhd (x : Int32) : Int32 := bif decide (27 ≤ x) then bif decide (x = 30) then (27 : Int32) else bif decide (x = 33) then (31 : Int32) else x + 1 else bif decide ((x - x / 9 * 9) = 8) then x - 8 else x + 1
theorem gc_signsN (d : Nat) (hd : 1 ≤ d) (μ : zM) (f : Nat) (h1 : μ.1 2 1 = 1) (hf : μ.1 2 3 = nI f) : z_C d mi_X4_signs [.ref 2] μ (zR μ (.int (nI (1 + f)))) := by
  have z := gc_signs d hd μ
  rw [h1, hf, show decide ((1 : Int32) = 0) = false from by decide, cond_false, show (1 : Int32) + nI f = nI (1 + f) from by rw [show (1 : Int32) = nI 1 from rfl, nI_add]] at z
  exact z
theorem kn_gt {n m : Nat} {M : Int32} (hM : M.toInt = (m : Int)) (h : n < 2147483648) (hm : m < n) : decide (nI n ≤ M) = false := decide_eq_false (by rw [Int32.le_iff_toInt_le, nI_toInt h, hM]; omega)
theorem kn_ge {n m : Nat} {M : Int32} (hM : M.toInt = (m : Int)) (h : n < 2147483648) (hm : n ≤ m) : decide (nI n ≤ M) = true := decide_eq_true (by rw [Int32.le_iff_toInt_le, nI_toInt h, hM]; omega)
theorem gc_dearTiles (d : Nat) (hd : 3 ≤ d) (μ : zM) (j : Nat) (hj : j < 4) (hd9 : Bool) (f : Nat) (hf4 : f ≤ 4) (hS1 : μ.1 2 1 = 1) (hf : μ.1 2 3 = nI f) : z_C d mi_X4_dearTiles [.ref 2, .ref (19 + 8 * j), .int (nB hd9)] μ (zR μ (.int (bif decide ((nI (1 + f)) ≤ (1 : Int32)) then (0 + (fr μ (21 + 8 * j) (bhd (μ.1 3 126)))) + (bif hd9 then fr μ (21 + 8 * j) (bhd (μ.1 3 127)) else (0 : Int32)) else bif decide ((nI (1 + f)) ≤ (2 : Int32)) then (((0 + (fr μ (21 + 8 * j) (bhd (μ.1 3 126)))) + (bif hd9 then fr μ (21 + 8 * j) (bhd (μ.1 3 127)) else (0 : Int32))) + (fr μ (21 + 8 * j) (bhd (μ.1 3 128)))) + (bif hd9 then fr μ (21 + 8 * j) (bhd (μ.1 3 129)) else (0 : Int32)) else bif decide ((nI (1 + f)) ≤ (3 : Int32)) then (((((0 + (fr μ (21 + 8 * j) (bhd (μ.1 3 126)))) + (bif hd9 then fr μ (21 + 8 * j) (bhd (μ.1 3 127)) else (0 : Int32))) + (fr μ (21 + 8 * j) (bhd (μ.1 3 128)))) + (bif hd9 then fr μ (21 + 8 * j) (bhd (μ.1 3 129)) else (0 : Int32))) + (fr μ (21 + 8 * j) (bhd (μ.1 3 130)))) + (bif hd9 then fr μ (21 + 8 * j) (bhd (μ.1 3 131)) else (0 : Int32)) else bif decide ((nI (1 + f)) ≤ (4 : Int32)) then (((((((0 + (fr μ (21 + 8 * j) (bhd (μ.1 3 126)))) + (bif hd9 then fr μ (21 + 8 * j) (bhd (μ.1 3 127)) else (0 : Int32))) + (fr μ (21 + 8 * j) (bhd (μ.1 3 128)))) + (bif hd9 then fr μ (21 + 8 * j) (bhd (μ.1 3 129)) else (0 : Int32))) + (fr μ (21 + 8 * j) (bhd (μ.1 3 130)))) + (bif hd9 then fr μ (21 + 8 * j) (bhd (μ.1 3 131)) else (0 : Int32))) + (fr μ (21 + 8 * j) (bhd (μ.1 3 132)))) + (bif hd9 then fr μ (21 + 8 * j) (bhd (μ.1 3 133)) else (0 : Int32)) else (((((((((0 + (fr μ (21 + 8 * j) (bhd (μ.1 3 126)))) + (bif hd9 then fr μ (21 + 8 * j) (bhd (μ.1 3 127)) else (0 : Int32))) + (fr μ (21 + 8 * j) (bhd (μ.1 3 128)))) + (bif hd9 then fr μ (21 + 8 * j) (bhd (μ.1 3 129)) else (0 : Int32))) + (fr μ (21 + 8 * j) (bhd (μ.1 3 130)))) + (bif hd9 then fr μ (21 + 8 * j) (bhd (μ.1 3 131)) else (0 : Int32))) + (fr μ (21 + 8 * j) (bhd (μ.1 3 132)))) + (bif hd9 then fr μ (21 + 8 * j) (bhd (μ.1 3 133)) else (0 : Int32))) + (fr μ (21 + 8 * j) (bhd (μ.1 3 134)))) + (bif hd9 then fr μ (21 + 8 * j) (bhd (μ.1 3 135)) else (0 : Int32))))) := by
  refine z_C_in (by decide) (by omega) (fun d' Z ed hc hr => ?_)
  have hH : zH mi_X4_dearTiles zt_X4_dearTiles 79 4 6 := hh_X4_dearTiles
  refine z_rcs hc hH 6 (pc' := 8) (lv' := [(4, .int 0), (3, .int 0), (0, .ref 2), (1, .ref (19 + 8 * j)), (2, .int (nB hd9))]) (st' := [.ref 2, .int 0]) (μ' := μ) (by rfl) ?_
  refine zq_call hc (z_cx_ok hH (by rfl)) (gc_signsN d' (by omega) μ f hS1 hf) (by decide +kernel) (fun r9 μ9 hq => ?_)
  obtain ⟨hμ9, rfl⟩ := hq
  rw [hμ9]
  clear hμ9 μ9
  show Z 0 11 [(4, .int 0), (3, .int 0), (0, .ref 2), (1, .ref (19 + 8 * j)), (2, .int (nB hd9))] [.int (nI (1 + f)), .int 0] μ
  refine zq_ic hc hH (by rfl) (tg := 67) (by rfl) (fun h1 => ?_) (fun h1 => ?_)
  · have h1 : (decide ((nI (1 + f)) ≤ (0 : Int32))) = true := decide_eq_true (cm_ge.mp h1)
    exact absurd (Eq.trans (Eq.symm (kn_gt (m := 0) rfl (by omega) (by omega))) h1) (by decide)
  · have h1 : (decide ((nI (1 + f)) ≤ (0 : Int32))) = false := decide_eq_false (cn_ge.mp h1)
    refine z_rcs hc hH 10 (pc' := 28) (lv' := [(5, .int 126), (4, .int 0), (3, .int 0), (0, .ref 2), (1, .ref (19 + 8 * j)), (2, .int (nB hd9))]) (st' := [.int 126, .ref 2, .ref (19 + 8 * j), .int 0]) (μ' := μ) (by rfl) ?_
    refine zq_call hc (z_cx_ok hH (by rfl)) (gc_kindAtN d' (by omega) μ 126 (by decide) hS1) (by decide +kernel) (fun r9 μ9 hq => ?_)
    obtain ⟨hμ9, rfl⟩ := hq
    rw [hμ9]
    clear hμ9 μ9
    show Z 0 31 [(5, .int 126), (4, .int 0), (3, .int 0), (0, .ref 2), (1, .ref (19 + 8 * j)), (2, .int (nB hd9))] [.int (μ.1 3 126), .ref (19 + 8 * j), .int 0] μ
    refine zq_call hc (z_cx_ok hH (by rfl)) (gc_behind d' (by omega) μ (μ.1 3 126)) (by decide +kernel) (fun r9 μ9 hq => ?_)
    obtain ⟨hμ9, rfl⟩ := hq
    rw [hμ9]
    clear hμ9 μ9
    show Z 0 34 [(5, .int 126), (4, .int 0), (3, .int 0), (0, .ref 2), (1, .ref (19 + 8 * j)), (2, .int (nB hd9))] [.int (bhd (μ.1 3 126)), .ref (19 + 8 * j), .int 0] μ
    refine zq_call hc (z_clv9 hH (by rfl) (by rfl) (by rfl) (by rfl) (sj (P := fun i => okr 79 2 (19 + 8 * i)) hj (by decide +kernel)) (by rfl) (by rfl)) (gc_all d' (by omega) μ j hj (bhd (μ.1 3 126))) (by decide +kernel) (fun r9 μ9 hq => ?_)
    obtain ⟨hμ9, rfl⟩ := hq
    rw [hμ9]
    clear hμ9 μ9
    show Z 0 37 [(5, .int 126), (4, .int 0), (3, .int 0), (0, .ref 2), (1, .ref (19 + 8 * j)), (2, .int (nB hd9))] [.int (fr μ (21 + 8 * j) (bhd (μ.1 3 126))), .int 0] μ
    refine z_rcs hc hH 3 (pc' := 40) (lv' := [(3, .int (0 + (fr μ (21 + 8 * j) (bhd (μ.1 3 126))))), (5, .int 126), (4, .int 0), (0, .ref 2), (1, .ref (19 + 8 * j)), (2, .int (nB hd9))]) (st' := [.int (nB hd9)]) (μ' := μ) (by rfl) ?_
    have hJ2 : Z 0 61 [(3, .int ((0 + (fr μ (21 + 8 * j) (bhd (μ.1 3 126)))) + (bif hd9 then fr μ (21 + 8 * j) (bhd (μ.1 3 127)) else (0 : Int32)))), (5, .int 126), (4, .int 0), (0, .ref 2), (1, .ref (19 + 8 * j)), (2, .int (nB hd9))] [] μ := by
      generalize hyy3 : ((0 + (fr μ (21 + 8 * j) (bhd (μ.1 3 126)))) + (bif hd9 then fr μ (21 + 8 * j) (bhd (μ.1 3 127)) else (0 : Int32)) : Int32) = yy3
      refine z_rcs hc hH 4 (pc' := 8) (lv' := [(4, .int 1), (3, .int yy3), (5, .int 126), (0, .ref 2), (1, .ref (19 + 8 * j)), (2, .int (nB hd9))]) (st' := [.ref 2, .int 1]) (μ' := μ) (by rfl) ?_
      refine zq_call hc (z_cx_ok hH (by rfl)) (gc_signsN d' (by omega) μ f hS1 hf) (by decide +kernel) (fun r9 μ9 hq => ?_)
      obtain ⟨hμ9, rfl⟩ := hq
      rw [hμ9]
      clear hμ9 μ9
      show Z 0 11 [(4, .int 1), (3, .int yy3), (5, .int 126), (0, .ref 2), (1, .ref (19 + 8 * j)), (2, .int (nB hd9))] [.int (nI (1 + f)), .int 1] μ
      have hJ4 : Z 0 67 [(4, .int (bif decide ((nI (1 + f)) ≤ (1 : Int32)) then (1 : Int32) else bif decide ((nI (1 + f)) ≤ (2 : Int32)) then (2 : Int32) else bif decide ((nI (1 + f)) ≤ (3 : Int32)) then (3 : Int32) else bif decide ((nI (1 + f)) ≤ (4 : Int32)) then (4 : Int32) else 5)), (3, .int (bif decide ((nI (1 + f)) ≤ (1 : Int32)) then yy3 else bif decide ((nI (1 + f)) ≤ (2 : Int32)) then (yy3 + (fr μ (21 + 8 * j) (bhd (μ.1 3 128)))) + (bif hd9 then fr μ (21 + 8 * j) (bhd (μ.1 3 129)) else (0 : Int32)) else bif decide ((nI (1 + f)) ≤ (3 : Int32)) then (((yy3 + (fr μ (21 + 8 * j) (bhd (μ.1 3 128)))) + (bif hd9 then fr μ (21 + 8 * j) (bhd (μ.1 3 129)) else (0 : Int32))) + (fr μ (21 + 8 * j) (bhd (μ.1 3 130)))) + (bif hd9 then fr μ (21 + 8 * j) (bhd (μ.1 3 131)) else (0 : Int32)) else bif decide ((nI (1 + f)) ≤ (4 : Int32)) then (((((yy3 + (fr μ (21 + 8 * j) (bhd (μ.1 3 128)))) + (bif hd9 then fr μ (21 + 8 * j) (bhd (μ.1 3 129)) else (0 : Int32))) + (fr μ (21 + 8 * j) (bhd (μ.1 3 130)))) + (bif hd9 then fr μ (21 + 8 * j) (bhd (μ.1 3 131)) else (0 : Int32))) + (fr μ (21 + 8 * j) (bhd (μ.1 3 132)))) + (bif hd9 then fr μ (21 + 8 * j) (bhd (μ.1 3 133)) else (0 : Int32)) else (((((((yy3 + (fr μ (21 + 8 * j) (bhd (μ.1 3 128)))) + (bif hd9 then fr μ (21 + 8 * j) (bhd (μ.1 3 129)) else (0 : Int32))) + (fr μ (21 + 8 * j) (bhd (μ.1 3 130)))) + (bif hd9 then fr μ (21 + 8 * j) (bhd (μ.1 3 131)) else (0 : Int32))) + (fr μ (21 + 8 * j) (bhd (μ.1 3 132)))) + (bif hd9 then fr μ (21 + 8 * j) (bhd (μ.1 3 133)) else (0 : Int32))) + (fr μ (21 + 8 * j) (bhd (μ.1 3 134)))) + (bif hd9 then fr μ (21 + 8 * j) (bhd (μ.1 3 135)) else (0 : Int32)))), (5, .int (bif decide ((nI (1 + f)) ≤ (1 : Int32)) then (126 : Int32) else bif decide ((nI (1 + f)) ≤ (2 : Int32)) then (128 : Int32) else bif decide ((nI (1 + f)) ≤ (3 : Int32)) then (130 : Int32) else bif decide ((nI (1 + f)) ≤ (4 : Int32)) then (132 : Int32) else 134)), (0, .ref 2), (1, .ref (19 + 8 * j)), (2, .int (nB hd9))] [] μ := by
        generalize hyy5 : (bif decide ((nI (1 + f)) ≤ (1 : Int32)) then (1 : Int32) else bif decide ((nI (1 + f)) ≤ (2 : Int32)) then (2 : Int32) else bif decide ((nI (1 + f)) ≤ (3 : Int32)) then (3 : Int32) else bif decide ((nI (1 + f)) ≤ (4 : Int32)) then (4 : Int32) else 5 : Int32) = yy5
        generalize hyy6 : (bif decide ((nI (1 + f)) ≤ (1 : Int32)) then yy3 else bif decide ((nI (1 + f)) ≤ (2 : Int32)) then (yy3 + (fr μ (21 + 8 * j) (bhd (μ.1 3 128)))) + (bif hd9 then fr μ (21 + 8 * j) (bhd (μ.1 3 129)) else (0 : Int32)) else bif decide ((nI (1 + f)) ≤ (3 : Int32)) then (((yy3 + (fr μ (21 + 8 * j) (bhd (μ.1 3 128)))) + (bif hd9 then fr μ (21 + 8 * j) (bhd (μ.1 3 129)) else (0 : Int32))) + (fr μ (21 + 8 * j) (bhd (μ.1 3 130)))) + (bif hd9 then fr μ (21 + 8 * j) (bhd (μ.1 3 131)) else (0 : Int32)) else bif decide ((nI (1 + f)) ≤ (4 : Int32)) then (((((yy3 + (fr μ (21 + 8 * j) (bhd (μ.1 3 128)))) + (bif hd9 then fr μ (21 + 8 * j) (bhd (μ.1 3 129)) else (0 : Int32))) + (fr μ (21 + 8 * j) (bhd (μ.1 3 130)))) + (bif hd9 then fr μ (21 + 8 * j) (bhd (μ.1 3 131)) else (0 : Int32))) + (fr μ (21 + 8 * j) (bhd (μ.1 3 132)))) + (bif hd9 then fr μ (21 + 8 * j) (bhd (μ.1 3 133)) else (0 : Int32)) else (((((((yy3 + (fr μ (21 + 8 * j) (bhd (μ.1 3 128)))) + (bif hd9 then fr μ (21 + 8 * j) (bhd (μ.1 3 129)) else (0 : Int32))) + (fr μ (21 + 8 * j) (bhd (μ.1 3 130)))) + (bif hd9 then fr μ (21 + 8 * j) (bhd (μ.1 3 131)) else (0 : Int32))) + (fr μ (21 + 8 * j) (bhd (μ.1 3 132)))) + (bif hd9 then fr μ (21 + 8 * j) (bhd (μ.1 3 133)) else (0 : Int32))) + (fr μ (21 + 8 * j) (bhd (μ.1 3 134)))) + (bif hd9 then fr μ (21 + 8 * j) (bhd (μ.1 3 135)) else (0 : Int32)) : Int32) = yy6
        generalize hyy7 : (bif decide ((nI (1 + f)) ≤ (1 : Int32)) then (126 : Int32) else bif decide ((nI (1 + f)) ≤ (2 : Int32)) then (128 : Int32) else bif decide ((nI (1 + f)) ≤ (3 : Int32)) then (130 : Int32) else bif decide ((nI (1 + f)) ≤ (4 : Int32)) then (132 : Int32) else 134 : Int32) = yy7
        refine z_rcs hc hH 1 (pc' := 68) (lv' := [(4, .int yy5), (3, .int yy6), (5, .int yy7), (0, .ref 2), (1, .ref (19 + 8 * j)), (2, .int (nB hd9))]) (st' := [.int yy6]) (μ' := μ) (by rfl) ?_
        exact hr 0 68 _ _ _ (some (.int yy6)) (by decide +kernel) (z_rx_ok hH (by rfl)) (⟨rfl, (by subst hyy7; subst hyy6; subst hyy5; subst hyy3; rfl)⟩)
      refine zq_ic hc hH (by rfl) (tg := 67) (by rfl) (fun h8 => ?_) (fun h8 => ?_)
      · have h8 : (decide ((nI (1 + f)) ≤ (1 : Int32))) = true := decide_eq_true (cm_ge.mp h8)
        exact zJ hJ4 (by first | with_reducible rfl | (simp only [h8, lb_f, Int64.or_zero, Int32.add_zero, nB_t, nB_f, Bool.not_true, Bool.not_false, Bool.and_true, Bool.true_and, Bool.false_and, Bool.and_false, Bool.or_true, Bool.true_or, Bool.false_or, Bool.or_false, cond_true, cond_false]; done) | rfl) rfl rfl
      · have h8 : (decide ((nI (1 + f)) ≤ (1 : Int32))) = false := decide_eq_false (cn_ge.mp h8)
        refine z_rcs hc hH 10 (pc' := 28) (lv' := [(5, .int 128), (4, .int 1), (3, .int yy3), (0, .ref 2), (1, .ref (19 + 8 * j)), (2, .int (nB hd9))]) (st' := [.int 128, .ref 2, .ref (19 + 8 * j), .int yy3]) (μ' := μ) (by rfl) ?_
        refine zq_call hc (z_cx_ok hH (by rfl)) (gc_kindAtN d' (by omega) μ 128 (by decide) hS1) (by decide +kernel) (fun r9 μ9 hq => ?_)
        obtain ⟨hμ9, rfl⟩ := hq
        rw [hμ9]
        clear hμ9 μ9
        show Z 0 31 [(5, .int 128), (4, .int 1), (3, .int yy3), (0, .ref 2), (1, .ref (19 + 8 * j)), (2, .int (nB hd9))] [.int (μ.1 3 128), .ref (19 + 8 * j), .int yy3] μ
        refine zq_call hc (z_cx_ok hH (by rfl)) (gc_behind d' (by omega) μ (μ.1 3 128)) (by decide +kernel) (fun r9 μ9 hq => ?_)
        obtain ⟨hμ9, rfl⟩ := hq
        rw [hμ9]
        clear hμ9 μ9
        show Z 0 34 [(5, .int 128), (4, .int 1), (3, .int yy3), (0, .ref 2), (1, .ref (19 + 8 * j)), (2, .int (nB hd9))] [.int (bhd (μ.1 3 128)), .ref (19 + 8 * j), .int yy3] μ
        refine zq_call hc (z_clv9 hH (by rfl) (by rfl) (by rfl) (by rfl) (sj (P := fun i => okr 79 2 (19 + 8 * i)) hj (by decide +kernel)) (by rfl) (by rfl)) (gc_all d' (by omega) μ j hj (bhd (μ.1 3 128))) (by decide +kernel) (fun r9 μ9 hq => ?_)
        obtain ⟨hμ9, rfl⟩ := hq
        rw [hμ9]
        clear hμ9 μ9
        show Z 0 37 [(5, .int 128), (4, .int 1), (3, .int yy3), (0, .ref 2), (1, .ref (19 + 8 * j)), (2, .int (nB hd9))] [.int (fr μ (21 + 8 * j) (bhd (μ.1 3 128))), .int yy3] μ
        refine z_rcs hc hH 3 (pc' := 40) (lv' := [(3, .int (yy3 + (fr μ (21 + 8 * j) (bhd (μ.1 3 128))))), (5, .int 128), (4, .int 1), (0, .ref 2), (1, .ref (19 + 8 * j)), (2, .int (nB hd9))]) (st' := [.int (nB hd9)]) (μ' := μ) (by rfl) ?_
        have hJ9 : Z 0 61 [(3, .int ((yy3 + (fr μ (21 + 8 * j) (bhd (μ.1 3 128)))) + (bif hd9 then fr μ (21 + 8 * j) (bhd (μ.1 3 129)) else (0 : Int32)))), (5, .int 128), (4, .int 1), (0, .ref 2), (1, .ref (19 + 8 * j)), (2, .int (nB hd9))] [] μ := by
          generalize hyy10 : ((yy3 + (fr μ (21 + 8 * j) (bhd (μ.1 3 128)))) + (bif hd9 then fr μ (21 + 8 * j) (bhd (μ.1 3 129)) else (0 : Int32)) : Int32) = yy10
          refine z_rcs hc hH 4 (pc' := 8) (lv' := [(4, .int 2), (3, .int yy10), (5, .int 128), (0, .ref 2), (1, .ref (19 + 8 * j)), (2, .int (nB hd9))]) (st' := [.ref 2, .int 2]) (μ' := μ) (by rfl) ?_
          refine zq_call hc (z_cx_ok hH (by rfl)) (gc_signsN d' (by omega) μ f hS1 hf) (by decide +kernel) (fun r9 μ9 hq => ?_)
          obtain ⟨hμ9, rfl⟩ := hq
          rw [hμ9]
          clear hμ9 μ9
          show Z 0 11 [(4, .int 2), (3, .int yy10), (5, .int 128), (0, .ref 2), (1, .ref (19 + 8 * j)), (2, .int (nB hd9))] [.int (nI (1 + f)), .int 2] μ
          refine zq_ic hc hH (by rfl) (tg := 67) (by rfl) (fun h11 => ?_) (fun h11 => ?_)
          · have h11 : (decide ((nI (1 + f)) ≤ (2 : Int32))) = true := decide_eq_true (cm_ge.mp h11)
            subst hyy10
            exact zJ hJ4 (by first | with_reducible rfl | (simp only [h8, h11, lb_f, Int64.or_zero, Int32.add_zero, nB_t, nB_f, Bool.not_true, Bool.not_false, Bool.and_true, Bool.true_and, Bool.false_and, Bool.and_false, Bool.or_true, Bool.true_or, Bool.false_or, Bool.or_false, cond_true, cond_false]; done) | rfl) rfl rfl
          · have h11 : (decide ((nI (1 + f)) ≤ (2 : Int32))) = false := decide_eq_false (cn_ge.mp h11)
            refine z_rcs hc hH 10 (pc' := 28) (lv' := [(5, .int 130), (4, .int 2), (3, .int yy10), (0, .ref 2), (1, .ref (19 + 8 * j)), (2, .int (nB hd9))]) (st' := [.int 130, .ref 2, .ref (19 + 8 * j), .int yy10]) (μ' := μ) (by rfl) ?_
            refine zq_call hc (z_cx_ok hH (by rfl)) (gc_kindAtN d' (by omega) μ 130 (by decide) hS1) (by decide +kernel) (fun r9 μ9 hq => ?_)
            obtain ⟨hμ9, rfl⟩ := hq
            rw [hμ9]
            clear hμ9 μ9
            show Z 0 31 [(5, .int 130), (4, .int 2), (3, .int yy10), (0, .ref 2), (1, .ref (19 + 8 * j)), (2, .int (nB hd9))] [.int (μ.1 3 130), .ref (19 + 8 * j), .int yy10] μ
            refine zq_call hc (z_cx_ok hH (by rfl)) (gc_behind d' (by omega) μ (μ.1 3 130)) (by decide +kernel) (fun r9 μ9 hq => ?_)
            obtain ⟨hμ9, rfl⟩ := hq
            rw [hμ9]
            clear hμ9 μ9
            show Z 0 34 [(5, .int 130), (4, .int 2), (3, .int yy10), (0, .ref 2), (1, .ref (19 + 8 * j)), (2, .int (nB hd9))] [.int (bhd (μ.1 3 130)), .ref (19 + 8 * j), .int yy10] μ
            refine zq_call hc (z_clv9 hH (by rfl) (by rfl) (by rfl) (by rfl) (sj (P := fun i => okr 79 2 (19 + 8 * i)) hj (by decide +kernel)) (by rfl) (by rfl)) (gc_all d' (by omega) μ j hj (bhd (μ.1 3 130))) (by decide +kernel) (fun r9 μ9 hq => ?_)
            obtain ⟨hμ9, rfl⟩ := hq
            rw [hμ9]
            clear hμ9 μ9
            show Z 0 37 [(5, .int 130), (4, .int 2), (3, .int yy10), (0, .ref 2), (1, .ref (19 + 8 * j)), (2, .int (nB hd9))] [.int (fr μ (21 + 8 * j) (bhd (μ.1 3 130))), .int yy10] μ
            refine z_rcs hc hH 3 (pc' := 40) (lv' := [(3, .int (yy10 + (fr μ (21 + 8 * j) (bhd (μ.1 3 130))))), (5, .int 130), (4, .int 2), (0, .ref 2), (1, .ref (19 + 8 * j)), (2, .int (nB hd9))]) (st' := [.int (nB hd9)]) (μ' := μ) (by rfl) ?_
            have hJ12 : Z 0 61 [(3, .int ((yy10 + (fr μ (21 + 8 * j) (bhd (μ.1 3 130)))) + (bif hd9 then fr μ (21 + 8 * j) (bhd (μ.1 3 131)) else (0 : Int32)))), (5, .int 130), (4, .int 2), (0, .ref 2), (1, .ref (19 + 8 * j)), (2, .int (nB hd9))] [] μ := by
              generalize hyy13 : ((yy10 + (fr μ (21 + 8 * j) (bhd (μ.1 3 130)))) + (bif hd9 then fr μ (21 + 8 * j) (bhd (μ.1 3 131)) else (0 : Int32)) : Int32) = yy13
              refine z_rcs hc hH 4 (pc' := 8) (lv' := [(4, .int 3), (3, .int yy13), (5, .int 130), (0, .ref 2), (1, .ref (19 + 8 * j)), (2, .int (nB hd9))]) (st' := [.ref 2, .int 3]) (μ' := μ) (by rfl) ?_
              refine zq_call hc (z_cx_ok hH (by rfl)) (gc_signsN d' (by omega) μ f hS1 hf) (by decide +kernel) (fun r9 μ9 hq => ?_)
              obtain ⟨hμ9, rfl⟩ := hq
              rw [hμ9]
              clear hμ9 μ9
              show Z 0 11 [(4, .int 3), (3, .int yy13), (5, .int 130), (0, .ref 2), (1, .ref (19 + 8 * j)), (2, .int (nB hd9))] [.int (nI (1 + f)), .int 3] μ
              refine zq_ic hc hH (by rfl) (tg := 67) (by rfl) (fun h14 => ?_) (fun h14 => ?_)
              · have h14 : (decide ((nI (1 + f)) ≤ (3 : Int32))) = true := decide_eq_true (cm_ge.mp h14)
                subst hyy13
                subst hyy10
                exact zJ hJ4 (by first | with_reducible rfl | (simp only [h8, h11, h14, lb_f, Int64.or_zero, Int32.add_zero, nB_t, nB_f, Bool.not_true, Bool.not_false, Bool.and_true, Bool.true_and, Bool.false_and, Bool.and_false, Bool.or_true, Bool.true_or, Bool.false_or, Bool.or_false, cond_true, cond_false]; done) | rfl) rfl rfl
              · have h14 : (decide ((nI (1 + f)) ≤ (3 : Int32))) = false := decide_eq_false (cn_ge.mp h14)
                refine z_rcs hc hH 10 (pc' := 28) (lv' := [(5, .int 132), (4, .int 3), (3, .int yy13), (0, .ref 2), (1, .ref (19 + 8 * j)), (2, .int (nB hd9))]) (st' := [.int 132, .ref 2, .ref (19 + 8 * j), .int yy13]) (μ' := μ) (by rfl) ?_
                refine zq_call hc (z_cx_ok hH (by rfl)) (gc_kindAtN d' (by omega) μ 132 (by decide) hS1) (by decide +kernel) (fun r9 μ9 hq => ?_)
                obtain ⟨hμ9, rfl⟩ := hq
                rw [hμ9]
                clear hμ9 μ9
                show Z 0 31 [(5, .int 132), (4, .int 3), (3, .int yy13), (0, .ref 2), (1, .ref (19 + 8 * j)), (2, .int (nB hd9))] [.int (μ.1 3 132), .ref (19 + 8 * j), .int yy13] μ
                refine zq_call hc (z_cx_ok hH (by rfl)) (gc_behind d' (by omega) μ (μ.1 3 132)) (by decide +kernel) (fun r9 μ9 hq => ?_)
                obtain ⟨hμ9, rfl⟩ := hq
                rw [hμ9]
                clear hμ9 μ9
                show Z 0 34 [(5, .int 132), (4, .int 3), (3, .int yy13), (0, .ref 2), (1, .ref (19 + 8 * j)), (2, .int (nB hd9))] [.int (bhd (μ.1 3 132)), .ref (19 + 8 * j), .int yy13] μ
                refine zq_call hc (z_clv9 hH (by rfl) (by rfl) (by rfl) (by rfl) (sj (P := fun i => okr 79 2 (19 + 8 * i)) hj (by decide +kernel)) (by rfl) (by rfl)) (gc_all d' (by omega) μ j hj (bhd (μ.1 3 132))) (by decide +kernel) (fun r9 μ9 hq => ?_)
                obtain ⟨hμ9, rfl⟩ := hq
                rw [hμ9]
                clear hμ9 μ9
                show Z 0 37 [(5, .int 132), (4, .int 3), (3, .int yy13), (0, .ref 2), (1, .ref (19 + 8 * j)), (2, .int (nB hd9))] [.int (fr μ (21 + 8 * j) (bhd (μ.1 3 132))), .int yy13] μ
                refine z_rcs hc hH 3 (pc' := 40) (lv' := [(3, .int (yy13 + (fr μ (21 + 8 * j) (bhd (μ.1 3 132))))), (5, .int 132), (4, .int 3), (0, .ref 2), (1, .ref (19 + 8 * j)), (2, .int (nB hd9))]) (st' := [.int (nB hd9)]) (μ' := μ) (by rfl) ?_
                have hJ15 : Z 0 61 [(3, .int ((yy13 + (fr μ (21 + 8 * j) (bhd (μ.1 3 132)))) + (bif hd9 then fr μ (21 + 8 * j) (bhd (μ.1 3 133)) else (0 : Int32)))), (5, .int 132), (4, .int 3), (0, .ref 2), (1, .ref (19 + 8 * j)), (2, .int (nB hd9))] [] μ := by
                  generalize hyy16 : ((yy13 + (fr μ (21 + 8 * j) (bhd (μ.1 3 132)))) + (bif hd9 then fr μ (21 + 8 * j) (bhd (μ.1 3 133)) else (0 : Int32)) : Int32) = yy16
                  refine z_rcs hc hH 4 (pc' := 8) (lv' := [(4, .int 4), (3, .int yy16), (5, .int 132), (0, .ref 2), (1, .ref (19 + 8 * j)), (2, .int (nB hd9))]) (st' := [.ref 2, .int 4]) (μ' := μ) (by rfl) ?_
                  refine zq_call hc (z_cx_ok hH (by rfl)) (gc_signsN d' (by omega) μ f hS1 hf) (by decide +kernel) (fun r9 μ9 hq => ?_)
                  obtain ⟨hμ9, rfl⟩ := hq
                  rw [hμ9]
                  clear hμ9 μ9
                  show Z 0 11 [(4, .int 4), (3, .int yy16), (5, .int 132), (0, .ref 2), (1, .ref (19 + 8 * j)), (2, .int (nB hd9))] [.int (nI (1 + f)), .int 4] μ
                  refine zq_ic hc hH (by rfl) (tg := 67) (by rfl) (fun h17 => ?_) (fun h17 => ?_)
                  · have h17 : (decide ((nI (1 + f)) ≤ (4 : Int32))) = true := decide_eq_true (cm_ge.mp h17)
                    subst hyy16
                    subst hyy13
                    subst hyy10
                    exact zJ hJ4 (by first | with_reducible rfl | (simp only [h8, h11, h14, h17, lb_f, Int64.or_zero, Int32.add_zero, nB_t, nB_f, Bool.not_true, Bool.not_false, Bool.and_true, Bool.true_and, Bool.false_and, Bool.and_false, Bool.or_true, Bool.true_or, Bool.false_or, Bool.or_false, cond_true, cond_false]; done) | rfl) rfl rfl
                  · have h17 : (decide ((nI (1 + f)) ≤ (4 : Int32))) = false := decide_eq_false (cn_ge.mp h17)
                    refine z_rcs hc hH 10 (pc' := 28) (lv' := [(5, .int 134), (4, .int 4), (3, .int yy16), (0, .ref 2), (1, .ref (19 + 8 * j)), (2, .int (nB hd9))]) (st' := [.int 134, .ref 2, .ref (19 + 8 * j), .int yy16]) (μ' := μ) (by rfl) ?_
                    refine zq_call hc (z_cx_ok hH (by rfl)) (gc_kindAtN d' (by omega) μ 134 (by decide) hS1) (by decide +kernel) (fun r9 μ9 hq => ?_)
                    obtain ⟨hμ9, rfl⟩ := hq
                    rw [hμ9]
                    clear hμ9 μ9
                    show Z 0 31 [(5, .int 134), (4, .int 4), (3, .int yy16), (0, .ref 2), (1, .ref (19 + 8 * j)), (2, .int (nB hd9))] [.int (μ.1 3 134), .ref (19 + 8 * j), .int yy16] μ
                    refine zq_call hc (z_cx_ok hH (by rfl)) (gc_behind d' (by omega) μ (μ.1 3 134)) (by decide +kernel) (fun r9 μ9 hq => ?_)
                    obtain ⟨hμ9, rfl⟩ := hq
                    rw [hμ9]
                    clear hμ9 μ9
                    show Z 0 34 [(5, .int 134), (4, .int 4), (3, .int yy16), (0, .ref 2), (1, .ref (19 + 8 * j)), (2, .int (nB hd9))] [.int (bhd (μ.1 3 134)), .ref (19 + 8 * j), .int yy16] μ
                    refine zq_call hc (z_clv9 hH (by rfl) (by rfl) (by rfl) (by rfl) (sj (P := fun i => okr 79 2 (19 + 8 * i)) hj (by decide +kernel)) (by rfl) (by rfl)) (gc_all d' (by omega) μ j hj (bhd (μ.1 3 134))) (by decide +kernel) (fun r9 μ9 hq => ?_)
                    obtain ⟨hμ9, rfl⟩ := hq
                    rw [hμ9]
                    clear hμ9 μ9
                    show Z 0 37 [(5, .int 134), (4, .int 4), (3, .int yy16), (0, .ref 2), (1, .ref (19 + 8 * j)), (2, .int (nB hd9))] [.int (fr μ (21 + 8 * j) (bhd (μ.1 3 134))), .int yy16] μ
                    refine z_rcs hc hH 3 (pc' := 40) (lv' := [(3, .int (yy16 + (fr μ (21 + 8 * j) (bhd (μ.1 3 134))))), (5, .int 134), (4, .int 4), (0, .ref 2), (1, .ref (19 + 8 * j)), (2, .int (nB hd9))]) (st' := [.int (nB hd9)]) (μ' := μ) (by rfl) ?_
                    have hJ18 : Z 0 61 [(3, .int ((yy16 + (fr μ (21 + 8 * j) (bhd (μ.1 3 134)))) + (bif hd9 then fr μ (21 + 8 * j) (bhd (μ.1 3 135)) else (0 : Int32)))), (5, .int 134), (4, .int 4), (0, .ref 2), (1, .ref (19 + 8 * j)), (2, .int (nB hd9))] [] μ := by
                      generalize hyy19 : ((yy16 + (fr μ (21 + 8 * j) (bhd (μ.1 3 134)))) + (bif hd9 then fr μ (21 + 8 * j) (bhd (μ.1 3 135)) else (0 : Int32)) : Int32) = yy19
                      refine z_rcs hc hH 4 (pc' := 8) (lv' := [(4, .int 5), (3, .int yy19), (5, .int 134), (0, .ref 2), (1, .ref (19 + 8 * j)), (2, .int (nB hd9))]) (st' := [.ref 2, .int 5]) (μ' := μ) (by rfl) ?_
                      refine zq_call hc (z_cx_ok hH (by rfl)) (gc_signsN d' (by omega) μ f hS1 hf) (by decide +kernel) (fun r9 μ9 hq => ?_)
                      obtain ⟨hμ9, rfl⟩ := hq
                      rw [hμ9]
                      clear hμ9 μ9
                      show Z 0 11 [(4, .int 5), (3, .int yy19), (5, .int 134), (0, .ref 2), (1, .ref (19 + 8 * j)), (2, .int (nB hd9))] [.int (nI (1 + f)), .int 5] μ
                      refine zq_ic hc hH (by rfl) (tg := 67) (by rfl) (fun h20 => ?_) (fun h20 => ?_)
                      · have h20 : (decide ((nI (1 + f)) ≤ (5 : Int32))) = true := decide_eq_true (cm_ge.mp h20)
                        subst hyy19
                        subst hyy16
                        subst hyy13
                        subst hyy10
                        exact zJ hJ4 (by first | with_reducible rfl | (simp only [h8, h11, h14, h17, lb_f, Int64.or_zero, Int32.add_zero, nB_t, nB_f, Bool.not_true, Bool.not_false, Bool.and_true, Bool.true_and, Bool.false_and, Bool.and_false, Bool.or_true, Bool.true_or, Bool.false_or, Bool.or_false, cond_true, cond_false]; done) | rfl) rfl rfl
                      · have h20 : (decide ((nI (1 + f)) ≤ (5 : Int32))) = false := decide_eq_false (cn_ge.mp h20)
                        exact absurd (Eq.trans (Eq.symm (kn_ge (m := 5) rfl (by omega) (by omega))) h20) (by decide)
                    refine zq_if hc hH (by rfl) (tg := 61) (by rfl) (fun h21 => ?_) (fun h21 => ?_)
                    · have h21 : (hd9) = false := nB_z.mp (cm_eq9.mp h21)
                      exact zJ hJ18 (by first | with_reducible rfl | (simp only [h21, lb_f, Int64.or_zero, Int32.add_zero, nB_t, nB_f, Bool.not_true, Bool.not_false, Bool.and_true, Bool.true_and, Bool.false_and, Bool.and_false, Bool.or_true, Bool.true_or, Bool.false_or, Bool.or_false, cond_true, cond_false]; done) | rfl) rfl rfl
                    · have h21 : (hd9) = true := nB_n.mp (cn_eq.mp h21)
                      refine z_rcs hc hH 6 (pc' := 50) (lv' := [(3, .int (yy16 + (fr μ (21 + 8 * j) (bhd (μ.1 3 134))))), (5, .int 134), (4, .int 4), (0, .ref 2), (1, .ref (19 + 8 * j)), (2, .int (nB hd9))]) (st' := [.int 135, .ref 2, .ref (19 + 8 * j), .int (yy16 + (fr μ (21 + 8 * j) (bhd (μ.1 3 134))))]) (μ' := μ) (by rfl) ?_
                      refine zq_call hc (z_cx_ok hH (by rfl)) (gc_kindAtN d' (by omega) μ 135 (by decide) hS1) (by decide +kernel) (fun r9 μ9 hq => ?_)
                      obtain ⟨hμ9, rfl⟩ := hq
                      rw [hμ9]
                      clear hμ9 μ9
                      show Z 0 53 [(3, .int (yy16 + (fr μ (21 + 8 * j) (bhd (μ.1 3 134))))), (5, .int 134), (4, .int 4), (0, .ref 2), (1, .ref (19 + 8 * j)), (2, .int (nB hd9))] [.int (μ.1 3 135), .ref (19 + 8 * j), .int (yy16 + (fr μ (21 + 8 * j) (bhd (μ.1 3 134))))] μ
                      refine zq_call hc (z_cx_ok hH (by rfl)) (gc_behind d' (by omega) μ (μ.1 3 135)) (by decide +kernel) (fun r9 μ9 hq => ?_)
                      obtain ⟨hμ9, rfl⟩ := hq
                      rw [hμ9]
                      clear hμ9 μ9
                      show Z 0 56 [(3, .int (yy16 + (fr μ (21 + 8 * j) (bhd (μ.1 3 134))))), (5, .int 134), (4, .int 4), (0, .ref 2), (1, .ref (19 + 8 * j)), (2, .int (nB hd9))] [.int (bhd (μ.1 3 135)), .ref (19 + 8 * j), .int (yy16 + (fr μ (21 + 8 * j) (bhd (μ.1 3 134))))] μ
                      refine zq_call hc (z_clv9 hH (by rfl) (by rfl) (by rfl) (by rfl) (sj (P := fun i => okr 79 2 (19 + 8 * i)) hj (by decide +kernel)) (by rfl) (by rfl)) (gc_all d' (by omega) μ j hj (bhd (μ.1 3 135))) (by decide +kernel) (fun r9 μ9 hq => ?_)
                      obtain ⟨hμ9, rfl⟩ := hq
                      rw [hμ9]
                      clear hμ9 μ9
                      show Z 0 59 [(3, .int (yy16 + (fr μ (21 + 8 * j) (bhd (μ.1 3 134))))), (5, .int 134), (4, .int 4), (0, .ref 2), (1, .ref (19 + 8 * j)), (2, .int (nB hd9))] [.int (fr μ (21 + 8 * j) (bhd (μ.1 3 135))), .int (yy16 + (fr μ (21 + 8 * j) (bhd (μ.1 3 134))))] μ
                      refine z_rcs hc hH 2 (pc' := 61) (lv' := [(3, .int ((yy16 + (fr μ (21 + 8 * j) (bhd (μ.1 3 134)))) + (fr μ (21 + 8 * j) (bhd (μ.1 3 135))))), (5, .int 134), (4, .int 4), (0, .ref 2), (1, .ref (19 + 8 * j)), (2, .int (nB hd9))]) (st' := []) (μ' := μ) (by rfl) ?_
                      exact zJ hJ18 (by first | with_reducible rfl | (simp only [h21, lb_f, Int64.or_zero, Int32.add_zero, nB_t, nB_f, Bool.not_true, Bool.not_false, Bool.and_true, Bool.true_and, Bool.false_and, Bool.and_false, Bool.or_true, Bool.true_or, Bool.false_or, Bool.or_false, cond_true, cond_false]; done) | rfl) rfl rfl
                refine zq_if hc hH (by rfl) (tg := 61) (by rfl) (fun h22 => ?_) (fun h22 => ?_)
                · have h22 : (hd9) = false := nB_z.mp (cm_eq9.mp h22)
                  exact zJ hJ15 (by first | with_reducible rfl | (simp only [h22, lb_f, Int64.or_zero, Int32.add_zero, nB_t, nB_f, Bool.not_true, Bool.not_false, Bool.and_true, Bool.true_and, Bool.false_and, Bool.and_false, Bool.or_true, Bool.true_or, Bool.false_or, Bool.or_false, cond_true, cond_false]; done) | rfl) rfl rfl
                · have h22 : (hd9) = true := nB_n.mp (cn_eq.mp h22)
                  refine z_rcs hc hH 6 (pc' := 50) (lv' := [(3, .int (yy13 + (fr μ (21 + 8 * j) (bhd (μ.1 3 132))))), (5, .int 132), (4, .int 3), (0, .ref 2), (1, .ref (19 + 8 * j)), (2, .int (nB hd9))]) (st' := [.int 133, .ref 2, .ref (19 + 8 * j), .int (yy13 + (fr μ (21 + 8 * j) (bhd (μ.1 3 132))))]) (μ' := μ) (by rfl) ?_
                  refine zq_call hc (z_cx_ok hH (by rfl)) (gc_kindAtN d' (by omega) μ 133 (by decide) hS1) (by decide +kernel) (fun r9 μ9 hq => ?_)
                  obtain ⟨hμ9, rfl⟩ := hq
                  rw [hμ9]
                  clear hμ9 μ9
                  show Z 0 53 [(3, .int (yy13 + (fr μ (21 + 8 * j) (bhd (μ.1 3 132))))), (5, .int 132), (4, .int 3), (0, .ref 2), (1, .ref (19 + 8 * j)), (2, .int (nB hd9))] [.int (μ.1 3 133), .ref (19 + 8 * j), .int (yy13 + (fr μ (21 + 8 * j) (bhd (μ.1 3 132))))] μ
                  refine zq_call hc (z_cx_ok hH (by rfl)) (gc_behind d' (by omega) μ (μ.1 3 133)) (by decide +kernel) (fun r9 μ9 hq => ?_)
                  obtain ⟨hμ9, rfl⟩ := hq
                  rw [hμ9]
                  clear hμ9 μ9
                  show Z 0 56 [(3, .int (yy13 + (fr μ (21 + 8 * j) (bhd (μ.1 3 132))))), (5, .int 132), (4, .int 3), (0, .ref 2), (1, .ref (19 + 8 * j)), (2, .int (nB hd9))] [.int (bhd (μ.1 3 133)), .ref (19 + 8 * j), .int (yy13 + (fr μ (21 + 8 * j) (bhd (μ.1 3 132))))] μ
                  refine zq_call hc (z_clv9 hH (by rfl) (by rfl) (by rfl) (by rfl) (sj (P := fun i => okr 79 2 (19 + 8 * i)) hj (by decide +kernel)) (by rfl) (by rfl)) (gc_all d' (by omega) μ j hj (bhd (μ.1 3 133))) (by decide +kernel) (fun r9 μ9 hq => ?_)
                  obtain ⟨hμ9, rfl⟩ := hq
                  rw [hμ9]
                  clear hμ9 μ9
                  show Z 0 59 [(3, .int (yy13 + (fr μ (21 + 8 * j) (bhd (μ.1 3 132))))), (5, .int 132), (4, .int 3), (0, .ref 2), (1, .ref (19 + 8 * j)), (2, .int (nB hd9))] [.int (fr μ (21 + 8 * j) (bhd (μ.1 3 133))), .int (yy13 + (fr μ (21 + 8 * j) (bhd (μ.1 3 132))))] μ
                  refine z_rcs hc hH 2 (pc' := 61) (lv' := [(3, .int ((yy13 + (fr μ (21 + 8 * j) (bhd (μ.1 3 132)))) + (fr μ (21 + 8 * j) (bhd (μ.1 3 133))))), (5, .int 132), (4, .int 3), (0, .ref 2), (1, .ref (19 + 8 * j)), (2, .int (nB hd9))]) (st' := []) (μ' := μ) (by rfl) ?_
                  exact zJ hJ15 (by first | with_reducible rfl | (simp only [h22, lb_f, Int64.or_zero, Int32.add_zero, nB_t, nB_f, Bool.not_true, Bool.not_false, Bool.and_true, Bool.true_and, Bool.false_and, Bool.and_false, Bool.or_true, Bool.true_or, Bool.false_or, Bool.or_false, cond_true, cond_false]; done) | rfl) rfl rfl
            refine zq_if hc hH (by rfl) (tg := 61) (by rfl) (fun h23 => ?_) (fun h23 => ?_)
            · have h23 : (hd9) = false := nB_z.mp (cm_eq9.mp h23)
              exact zJ hJ12 (by first | with_reducible rfl | (simp only [h23, lb_f, Int64.or_zero, Int32.add_zero, nB_t, nB_f, Bool.not_true, Bool.not_false, Bool.and_true, Bool.true_and, Bool.false_and, Bool.and_false, Bool.or_true, Bool.true_or, Bool.false_or, Bool.or_false, cond_true, cond_false]; done) | rfl) rfl rfl
            · have h23 : (hd9) = true := nB_n.mp (cn_eq.mp h23)
              refine z_rcs hc hH 6 (pc' := 50) (lv' := [(3, .int (yy10 + (fr μ (21 + 8 * j) (bhd (μ.1 3 130))))), (5, .int 130), (4, .int 2), (0, .ref 2), (1, .ref (19 + 8 * j)), (2, .int (nB hd9))]) (st' := [.int 131, .ref 2, .ref (19 + 8 * j), .int (yy10 + (fr μ (21 + 8 * j) (bhd (μ.1 3 130))))]) (μ' := μ) (by rfl) ?_
              refine zq_call hc (z_cx_ok hH (by rfl)) (gc_kindAtN d' (by omega) μ 131 (by decide) hS1) (by decide +kernel) (fun r9 μ9 hq => ?_)
              obtain ⟨hμ9, rfl⟩ := hq
              rw [hμ9]
              clear hμ9 μ9
              show Z 0 53 [(3, .int (yy10 + (fr μ (21 + 8 * j) (bhd (μ.1 3 130))))), (5, .int 130), (4, .int 2), (0, .ref 2), (1, .ref (19 + 8 * j)), (2, .int (nB hd9))] [.int (μ.1 3 131), .ref (19 + 8 * j), .int (yy10 + (fr μ (21 + 8 * j) (bhd (μ.1 3 130))))] μ
              refine zq_call hc (z_cx_ok hH (by rfl)) (gc_behind d' (by omega) μ (μ.1 3 131)) (by decide +kernel) (fun r9 μ9 hq => ?_)
              obtain ⟨hμ9, rfl⟩ := hq
              rw [hμ9]
              clear hμ9 μ9
              show Z 0 56 [(3, .int (yy10 + (fr μ (21 + 8 * j) (bhd (μ.1 3 130))))), (5, .int 130), (4, .int 2), (0, .ref 2), (1, .ref (19 + 8 * j)), (2, .int (nB hd9))] [.int (bhd (μ.1 3 131)), .ref (19 + 8 * j), .int (yy10 + (fr μ (21 + 8 * j) (bhd (μ.1 3 130))))] μ
              refine zq_call hc (z_clv9 hH (by rfl) (by rfl) (by rfl) (by rfl) (sj (P := fun i => okr 79 2 (19 + 8 * i)) hj (by decide +kernel)) (by rfl) (by rfl)) (gc_all d' (by omega) μ j hj (bhd (μ.1 3 131))) (by decide +kernel) (fun r9 μ9 hq => ?_)
              obtain ⟨hμ9, rfl⟩ := hq
              rw [hμ9]
              clear hμ9 μ9
              show Z 0 59 [(3, .int (yy10 + (fr μ (21 + 8 * j) (bhd (μ.1 3 130))))), (5, .int 130), (4, .int 2), (0, .ref 2), (1, .ref (19 + 8 * j)), (2, .int (nB hd9))] [.int (fr μ (21 + 8 * j) (bhd (μ.1 3 131))), .int (yy10 + (fr μ (21 + 8 * j) (bhd (μ.1 3 130))))] μ
              refine z_rcs hc hH 2 (pc' := 61) (lv' := [(3, .int ((yy10 + (fr μ (21 + 8 * j) (bhd (μ.1 3 130)))) + (fr μ (21 + 8 * j) (bhd (μ.1 3 131))))), (5, .int 130), (4, .int 2), (0, .ref 2), (1, .ref (19 + 8 * j)), (2, .int (nB hd9))]) (st' := []) (μ' := μ) (by rfl) ?_
              exact zJ hJ12 (by first | with_reducible rfl | (simp only [h23, lb_f, Int64.or_zero, Int32.add_zero, nB_t, nB_f, Bool.not_true, Bool.not_false, Bool.and_true, Bool.true_and, Bool.false_and, Bool.and_false, Bool.or_true, Bool.true_or, Bool.false_or, Bool.or_false, cond_true, cond_false]; done) | rfl) rfl rfl
        refine zq_if hc hH (by rfl) (tg := 61) (by rfl) (fun h24 => ?_) (fun h24 => ?_)
        · have h24 : (hd9) = false := nB_z.mp (cm_eq9.mp h24)
          exact zJ hJ9 (by first | with_reducible rfl | (simp only [h24, lb_f, Int64.or_zero, Int32.add_zero, nB_t, nB_f, Bool.not_true, Bool.not_false, Bool.and_true, Bool.true_and, Bool.false_and, Bool.and_false, Bool.or_true, Bool.true_or, Bool.false_or, Bool.or_false, cond_true, cond_false]; done) | rfl) rfl rfl
        · have h24 : (hd9) = true := nB_n.mp (cn_eq.mp h24)
          refine z_rcs hc hH 6 (pc' := 50) (lv' := [(3, .int (yy3 + (fr μ (21 + 8 * j) (bhd (μ.1 3 128))))), (5, .int 128), (4, .int 1), (0, .ref 2), (1, .ref (19 + 8 * j)), (2, .int (nB hd9))]) (st' := [.int 129, .ref 2, .ref (19 + 8 * j), .int (yy3 + (fr μ (21 + 8 * j) (bhd (μ.1 3 128))))]) (μ' := μ) (by rfl) ?_
          refine zq_call hc (z_cx_ok hH (by rfl)) (gc_kindAtN d' (by omega) μ 129 (by decide) hS1) (by decide +kernel) (fun r9 μ9 hq => ?_)
          obtain ⟨hμ9, rfl⟩ := hq
          rw [hμ9]
          clear hμ9 μ9
          show Z 0 53 [(3, .int (yy3 + (fr μ (21 + 8 * j) (bhd (μ.1 3 128))))), (5, .int 128), (4, .int 1), (0, .ref 2), (1, .ref (19 + 8 * j)), (2, .int (nB hd9))] [.int (μ.1 3 129), .ref (19 + 8 * j), .int (yy3 + (fr μ (21 + 8 * j) (bhd (μ.1 3 128))))] μ
          refine zq_call hc (z_cx_ok hH (by rfl)) (gc_behind d' (by omega) μ (μ.1 3 129)) (by decide +kernel) (fun r9 μ9 hq => ?_)
          obtain ⟨hμ9, rfl⟩ := hq
          rw [hμ9]
          clear hμ9 μ9
          show Z 0 56 [(3, .int (yy3 + (fr μ (21 + 8 * j) (bhd (μ.1 3 128))))), (5, .int 128), (4, .int 1), (0, .ref 2), (1, .ref (19 + 8 * j)), (2, .int (nB hd9))] [.int (bhd (μ.1 3 129)), .ref (19 + 8 * j), .int (yy3 + (fr μ (21 + 8 * j) (bhd (μ.1 3 128))))] μ
          refine zq_call hc (z_clv9 hH (by rfl) (by rfl) (by rfl) (by rfl) (sj (P := fun i => okr 79 2 (19 + 8 * i)) hj (by decide +kernel)) (by rfl) (by rfl)) (gc_all d' (by omega) μ j hj (bhd (μ.1 3 129))) (by decide +kernel) (fun r9 μ9 hq => ?_)
          obtain ⟨hμ9, rfl⟩ := hq
          rw [hμ9]
          clear hμ9 μ9
          show Z 0 59 [(3, .int (yy3 + (fr μ (21 + 8 * j) (bhd (μ.1 3 128))))), (5, .int 128), (4, .int 1), (0, .ref 2), (1, .ref (19 + 8 * j)), (2, .int (nB hd9))] [.int (fr μ (21 + 8 * j) (bhd (μ.1 3 129))), .int (yy3 + (fr μ (21 + 8 * j) (bhd (μ.1 3 128))))] μ
          refine z_rcs hc hH 2 (pc' := 61) (lv' := [(3, .int ((yy3 + (fr μ (21 + 8 * j) (bhd (μ.1 3 128)))) + (fr μ (21 + 8 * j) (bhd (μ.1 3 129))))), (5, .int 128), (4, .int 1), (0, .ref 2), (1, .ref (19 + 8 * j)), (2, .int (nB hd9))]) (st' := []) (μ' := μ) (by rfl) ?_
          exact zJ hJ9 (by first | with_reducible rfl | (simp only [h24, lb_f, Int64.or_zero, Int32.add_zero, nB_t, nB_f, Bool.not_true, Bool.not_false, Bool.and_true, Bool.true_and, Bool.false_and, Bool.and_false, Bool.or_true, Bool.true_or, Bool.false_or, Bool.or_false, cond_true, cond_false]; done) | rfl) rfl rfl
    refine zq_if hc hH (by rfl) (tg := 61) (by rfl) (fun h25 => ?_) (fun h25 => ?_)
    · have h25 : (hd9) = false := nB_z.mp (cm_eq9.mp h25)
      exact zJ hJ2 (by first | with_reducible rfl | (simp only [h25, lb_f, Int64.or_zero, Int32.add_zero, nB_t, nB_f, Bool.not_true, Bool.not_false, Bool.and_true, Bool.true_and, Bool.false_and, Bool.and_false, Bool.or_true, Bool.true_or, Bool.false_or, Bool.or_false, cond_true, cond_false]; done) | rfl) rfl rfl
    · have h25 : (hd9) = true := nB_n.mp (cn_eq.mp h25)
      refine z_rcs hc hH 6 (pc' := 50) (lv' := [(3, .int (0 + (fr μ (21 + 8 * j) (bhd (μ.1 3 126))))), (5, .int 126), (4, .int 0), (0, .ref 2), (1, .ref (19 + 8 * j)), (2, .int (nB hd9))]) (st' := [.int 127, .ref 2, .ref (19 + 8 * j), .int (0 + (fr μ (21 + 8 * j) (bhd (μ.1 3 126))))]) (μ' := μ) (by rfl) ?_
      refine zq_call hc (z_cx_ok hH (by rfl)) (gc_kindAtN d' (by omega) μ 127 (by decide) hS1) (by decide +kernel) (fun r9 μ9 hq => ?_)
      obtain ⟨hμ9, rfl⟩ := hq
      rw [hμ9]
      clear hμ9 μ9
      show Z 0 53 [(3, .int (0 + (fr μ (21 + 8 * j) (bhd (μ.1 3 126))))), (5, .int 126), (4, .int 0), (0, .ref 2), (1, .ref (19 + 8 * j)), (2, .int (nB hd9))] [.int (μ.1 3 127), .ref (19 + 8 * j), .int (0 + (fr μ (21 + 8 * j) (bhd (μ.1 3 126))))] μ
      refine zq_call hc (z_cx_ok hH (by rfl)) (gc_behind d' (by omega) μ (μ.1 3 127)) (by decide +kernel) (fun r9 μ9 hq => ?_)
      obtain ⟨hμ9, rfl⟩ := hq
      rw [hμ9]
      clear hμ9 μ9
      show Z 0 56 [(3, .int (0 + (fr μ (21 + 8 * j) (bhd (μ.1 3 126))))), (5, .int 126), (4, .int 0), (0, .ref 2), (1, .ref (19 + 8 * j)), (2, .int (nB hd9))] [.int (bhd (μ.1 3 127)), .ref (19 + 8 * j), .int (0 + (fr μ (21 + 8 * j) (bhd (μ.1 3 126))))] μ
      refine zq_call hc (z_clv9 hH (by rfl) (by rfl) (by rfl) (by rfl) (sj (P := fun i => okr 79 2 (19 + 8 * i)) hj (by decide +kernel)) (by rfl) (by rfl)) (gc_all d' (by omega) μ j hj (bhd (μ.1 3 127))) (by decide +kernel) (fun r9 μ9 hq => ?_)
      obtain ⟨hμ9, rfl⟩ := hq
      rw [hμ9]
      clear hμ9 μ9
      show Z 0 59 [(3, .int (0 + (fr μ (21 + 8 * j) (bhd (μ.1 3 126))))), (5, .int 126), (4, .int 0), (0, .ref 2), (1, .ref (19 + 8 * j)), (2, .int (nB hd9))] [.int (fr μ (21 + 8 * j) (bhd (μ.1 3 127))), .int (0 + (fr μ (21 + 8 * j) (bhd (μ.1 3 126))))] μ
      refine z_rcs hc hH 2 (pc' := 61) (lv' := [(3, .int ((0 + (fr μ (21 + 8 * j) (bhd (μ.1 3 126)))) + (fr μ (21 + 8 * j) (bhd (μ.1 3 127))))), (5, .int 126), (4, .int 0), (0, .ref 2), (1, .ref (19 + 8 * j)), (2, .int (nB hd9))]) (st' := []) (μ' := μ) (by rfl) ?_
      exact zJ hJ2 (by first | with_reducible rfl | (simp only [h25, lb_f, Int64.or_zero, Int32.add_zero, nB_t, nB_f, Bool.not_true, Bool.not_false, Bool.and_true, Bool.true_and, Bool.false_and, Bool.and_false, Bool.or_true, Bool.true_or, Bool.false_or, Bool.or_false, cond_true, cond_false]; done) | rfl) rfl rfl
noncomputable def rcW (μ : zM) (wc : Nat) (s pa go : Int32) : zM := z_ui (z_ui (z_uj (z_ui (z_ui (z_ui (z_ui (z_ui (z_ui μ 0 6 (nI (wc + 1))) (25 + 8 * wc) 0 s) (25 + 8 * wc) 1 pa) (25 + 8 * wc) 2 (μ.1 4 0)) (25 + 8 * wc) 3 (μ.1 4 1)) (25 + 8 * wc) 4 (μ.1 4 2)) (25 + 8 * wc) 7 (μ.2.1 4 3)) (25 + 8 * wc) 5 go) (25 + 8 * wc) 6 (μ.1 0 15)
theorem gc_recordWin (d : Nat) (hd : 1 ≤ d) (μ : zM) (wc : Nat) (hwc4 : wc < 4) (hwc : μ.1 0 6 = nI wc) (s pa go : Int32) : z_C d mi_X6_recordWin [.ref 0, .int s, .int pa, .int go] μ (fun r μ' => r = none ∧ μ' = rcW μ wc s pa go) := by
  refine z_C_in (by decide) (by omega) (fun d' Z ed hc hr => ?_)
  have hH : zH mi_X6_recordWin zt_X6_recordWin 79 6 5 := hh_X6_recordWin
  refine z_rcs hc hH 1 (pc' := 1) (lv' := [(0, .ref 0), (1, .int s), (2, .int pa), (3, .int go)]) (st' := [.ref 0]) (μ' := μ) (by rfl) ?_
  refine zq_gfi hc hH (by rfl) (ci := 5) (f := 6) (by rfl) (by decide +kernel) (by rfl) ?_
  rw [hwc]
  refine zq_if hc hH (by rfl) (tg := 15) (by rfl) (fun h1 => ?_) (fun h1 => ?_)
  · have h1 : (decide ((nI wc) < 0)) = true := decide_eq_true (cm_lt.mp h1)
    exact absurd (Eq.trans (Eq.symm (kn_l0 (by omega))) h1) (by decide)
  · have h1 : (decide ((nI wc) < 0)) = false := decide_eq_false (cn_lt.mp h1)
    refine z_rcs hc hH 1 (pc' := 8) (lv' := [(0, .ref 0), (1, .int s), (2, .int pa), (3, .int go)]) (st' := [.ref 0]) (μ' := μ) (by rfl) ?_
    refine zq_gfi hc hH (by rfl) (ci := 5) (f := 6) (by rfl) (by decide +kernel) (by rfl) ?_
    rw [hwc]
    refine z_rcs hc hH 1 (pc' := 12) (lv' := [(0, .ref 0), (1, .int s), (2, .int pa), (3, .int go)]) (st' := [.int 4, .int (nI wc)]) (μ' := μ) (by rfl) ?_
    refine zq_ic hc hH (by rfl) (tg := 16) (by rfl) (fun h2 => ?_) (fun h2 => ?_)
    · have h2 : (decide ((nI wc) < 4)) = true := decide_eq_true (cm_lt.mp h2)
      refine z_rcs hc hH 1 (pc' := 17) (lv' := [(0, .ref 0), (1, .int s), (2, .int pa), (3, .int go)]) (st' := [.ref 0]) (μ' := μ) (by rfl) ?_
      refine zq_gfr hc hH (by rfl) (ci := 5) (f := 3) (q := 8) (by rfl) (by decide +kernel) (by rfl) (by decide +kernel) ?_
      refine z_rcs hc hH 1 (pc' := 21) (lv' := [(0, .ref 0), (1, .int s), (2, .int pa), (3, .int go)]) (st' := [.ref 0, .ref 8]) (μ' := μ) (by rfl) ?_
      refine zq_gfi hc hH (by rfl) (ci := 5) (f := 6) (by rfl) (by decide +kernel) (by rfl) ?_
      rw [hwc]
      refine zq_aald hc hH (by rfl) (i := wc) (q := 25 + 8 * wc) hwc4 (by decide +kernel) (sj (P := fun i => Nat.beq (z_gr 8 i) (25 + 8 * i)) hwc4 (by decide +kernel)) ?_
      refine z_rcs hc hH 3 (pc' := 29) (lv' := [(4, .ref (25 + 8 * wc)), (0, .ref 0), (1, .int s), (2, .int pa), (3, .int go)]) (st' := [.ref 0, .ref 0]) (μ' := μ) (by rfl) ?_
      refine zq_gfi hc hH (by rfl) (ci := 5) (f := 6) (by rfl) (by decide +kernel) (by rfl) ?_
      rw [hwc]
      refine z_rcs hc hH 2 (pc' := 34) (lv' := [(4, .ref (25 + 8 * wc)), (0, .ref 0), (1, .int s), (2, .int pa), (3, .int go)]) (st' := [.int ((nI wc) + 1), .ref 0]) (μ' := μ) (by rfl) ?_
      rw [nI_s1]
      refine zq_pfi hc hH (by rfl) (ci := 5) (f := 6) (by rfl) (by decide +kernel) (by rfl) ?_
      show Z 0 37 [(4, .ref (25 + 8 * wc)), (0, .ref 0), (1, .int s), (2, .int pa), (3, .int go)] [] (z_ui μ 0 6 (nI (wc + 1)))
      refine z_rcs0 hc hH 2 (pc' := 40) (lv' := [(4, .ref (25 + 8 * wc)), (0, .ref 0), (1, .int s), (2, .int pa), (3, .int go)]) (st' := [.int s, .ref (25 + 8 * wc)]) (by rfl) ?_
      refine zq_pfi hc hH (by rfl) (ci := 4) (f := 0) (by rfl) (sj (P := fun i => okf 79 4 0 (25 + 8 * i)) hwc4 (by decide +kernel)) (by rfl) ?_
      show Z 0 43 [(4, .ref (25 + 8 * wc)), (0, .ref 0), (1, .int s), (2, .int pa), (3, .int go)] [] (z_ui (z_ui μ 0 6 (nI (wc + 1))) (25 + 8 * wc) 0 s)
      refine z_rcs0 hc hH 2 (pc' := 46) (lv' := [(4, .ref (25 + 8 * wc)), (0, .ref 0), (1, .int s), (2, .int pa), (3, .int go)]) (st' := [.int pa, .ref (25 + 8 * wc)]) (by rfl) ?_
      refine zq_pfi hc hH (by rfl) (ci := 4) (f := 1) (by rfl) (sj (P := fun i => okf 79 4 1 (25 + 8 * i)) hwc4 (by decide +kernel)) (by rfl) ?_
      show Z 0 49 [(4, .ref (25 + 8 * wc)), (0, .ref 0), (1, .int s), (2, .int pa), (3, .int go)] [] (z_ui (z_ui (z_ui μ 0 6 (nI (wc + 1))) (25 + 8 * wc) 0 s) (25 + 8 * wc) 1 pa)
      refine z_rcs0 hc hH 2 (pc' := 52) (lv' := [(4, .ref (25 + 8 * wc)), (0, .ref 0), (1, .int s), (2, .int pa), (3, .int go)]) (st' := [.ref 0, .ref (25 + 8 * wc)]) (by rfl) ?_
      refine zq_gfr hc hH (by rfl) (ci := 5) (f := 2) (q := 4) (by rfl) (by decide +kernel) (by rfl) (by decide +kernel) ?_
      refine zq_gfi hc hH (by rfl) (ci := 0) (f := 0) (by rfl) (by decide +kernel) (by rfl) ?_
      refine zV1 (Z := Z) (Eq.trans (ui_o (by first | decide | omega)) (Eq.trans (ui_o (by first | decide | omega)) (ui_o (by first | decide | omega)))) ?_
      refine zq_pfi hc hH (by rfl) (ci := 4) (f := 2) (by rfl) (sj (P := fun i => okf 79 4 2 (25 + 8 * i)) hwc4 (by decide +kernel)) (by rfl) ?_
      show Z 0 61 [(4, .ref (25 + 8 * wc)), (0, .ref 0), (1, .int s), (2, .int pa), (3, .int go)] [] (z_ui (z_ui (z_ui (z_ui μ 0 6 (nI (wc + 1))) (25 + 8 * wc) 0 s) (25 + 8 * wc) 1 pa) (25 + 8 * wc) 2 (μ.1 4 0))
      refine z_rcs0 hc hH 2 (pc' := 64) (lv' := [(4, .ref (25 + 8 * wc)), (0, .ref 0), (1, .int s), (2, .int pa), (3, .int go)]) (st' := [.ref 0, .ref (25 + 8 * wc)]) (by rfl) ?_
      refine zq_gfr hc hH (by rfl) (ci := 5) (f := 2) (q := 4) (by rfl) (by decide +kernel) (by rfl) (by decide +kernel) ?_
      refine zq_gfi hc hH (by rfl) (ci := 0) (f := 1) (by rfl) (by decide +kernel) (by rfl) ?_
      refine zV1 (Z := Z) (Eq.trans (ui_o (by first | decide | omega)) (Eq.trans (ui_o (by first | decide | omega)) (Eq.trans (ui_o (by first | decide | omega)) (ui_o (by first | decide | omega))))) ?_
      refine zq_pfi hc hH (by rfl) (ci := 4) (f := 3) (by rfl) (sj (P := fun i => okf 79 4 3 (25 + 8 * i)) hwc4 (by decide +kernel)) (by rfl) ?_
      show Z 0 73 [(4, .ref (25 + 8 * wc)), (0, .ref 0), (1, .int s), (2, .int pa), (3, .int go)] [] (z_ui (z_ui (z_ui (z_ui (z_ui μ 0 6 (nI (wc + 1))) (25 + 8 * wc) 0 s) (25 + 8 * wc) 1 pa) (25 + 8 * wc) 2 (μ.1 4 0)) (25 + 8 * wc) 3 (μ.1 4 1))
      refine z_rcs0 hc hH 2 (pc' := 76) (lv' := [(4, .ref (25 + 8 * wc)), (0, .ref 0), (1, .int s), (2, .int pa), (3, .int go)]) (st' := [.ref 0, .ref (25 + 8 * wc)]) (by rfl) ?_
      refine zq_gfr hc hH (by rfl) (ci := 5) (f := 2) (q := 4) (by rfl) (by decide +kernel) (by rfl) (by decide +kernel) ?_
      refine zq_gfi hc hH (by rfl) (ci := 0) (f := 2) (by rfl) (by decide +kernel) (by rfl) ?_
      refine zV1 (Z := Z) (Eq.trans (ui_o (by first | decide | omega)) (Eq.trans (ui_o (by first | decide | omega)) (Eq.trans (ui_o (by first | decide | omega)) (Eq.trans (ui_o (by first | decide | omega)) (ui_o (by first | decide | omega)))))) ?_
      refine zq_pfi hc hH (by rfl) (ci := 4) (f := 4) (by rfl) (sj (P := fun i => okf 79 4 4 (25 + 8 * i)) hwc4 (by decide +kernel)) (by rfl) ?_
      show Z 0 85 [(4, .ref (25 + 8 * wc)), (0, .ref 0), (1, .int s), (2, .int pa), (3, .int go)] [] (z_ui (z_ui (z_ui (z_ui (z_ui (z_ui μ 0 6 (nI (wc + 1))) (25 + 8 * wc) 0 s) (25 + 8 * wc) 1 pa) (25 + 8 * wc) 2 (μ.1 4 0)) (25 + 8 * wc) 3 (μ.1 4 1)) (25 + 8 * wc) 4 (μ.1 4 2))
      refine z_rcs0 hc hH 2 (pc' := 88) (lv' := [(4, .ref (25 + 8 * wc)), (0, .ref 0), (1, .int s), (2, .int pa), (3, .int go)]) (st' := [.ref 0, .ref (25 + 8 * wc)]) (by rfl) ?_
      refine zq_gfr hc hH (by rfl) (ci := 5) (f := 2) (q := 4) (by rfl) (by decide +kernel) (by rfl) (by decide +kernel) ?_
      refine zq_gfl hc hH (by rfl) (ci := 0) (f := 3) (by rfl) (by decide +kernel) (by rfl) ?_
      rw [ui_j, ui_j, ui_j, ui_j, ui_j, ui_j]
      refine zq_pfl hc hH (by rfl) (ci := 4) (f := 7) (by rfl) (sj (P := fun i => okf 79 4 7 (25 + 8 * i)) hwc4 (by decide +kernel)) (by rfl) ?_
      show Z 0 97 [(4, .ref (25 + 8 * wc)), (0, .ref 0), (1, .int s), (2, .int pa), (3, .int go)] [] (z_uj (z_ui (z_ui (z_ui (z_ui (z_ui (z_ui μ 0 6 (nI (wc + 1))) (25 + 8 * wc) 0 s) (25 + 8 * wc) 1 pa) (25 + 8 * wc) 2 (μ.1 4 0)) (25 + 8 * wc) 3 (μ.1 4 1)) (25 + 8 * wc) 4 (μ.1 4 2)) (25 + 8 * wc) 7 (μ.2.1 4 3))
      refine z_rcs0 hc hH 2 (pc' := 100) (lv' := [(4, .ref (25 + 8 * wc)), (0, .ref 0), (1, .int s), (2, .int pa), (3, .int go)]) (st' := [.int go, .ref (25 + 8 * wc)]) (by rfl) ?_
      refine zq_pfi hc hH (by rfl) (ci := 4) (f := 5) (by rfl) (sj (P := fun i => okf 79 4 5 (25 + 8 * i)) hwc4 (by decide +kernel)) (by rfl) ?_
      show Z 0 103 [(4, .ref (25 + 8 * wc)), (0, .ref 0), (1, .int s), (2, .int pa), (3, .int go)] [] (z_ui (z_uj (z_ui (z_ui (z_ui (z_ui (z_ui (z_ui μ 0 6 (nI (wc + 1))) (25 + 8 * wc) 0 s) (25 + 8 * wc) 1 pa) (25 + 8 * wc) 2 (μ.1 4 0)) (25 + 8 * wc) 3 (μ.1 4 1)) (25 + 8 * wc) 4 (μ.1 4 2)) (25 + 8 * wc) 7 (μ.2.1 4 3)) (25 + 8 * wc) 5 go)
      refine z_rcs0 hc hH 2 (pc' := 106) (lv' := [(4, .ref (25 + 8 * wc)), (0, .ref 0), (1, .int s), (2, .int pa), (3, .int go)]) (st' := [.ref 0, .ref (25 + 8 * wc)]) (by rfl) ?_
      refine zq_gfi hc hH (by rfl) (ci := 5) (f := 15) (by rfl) (by decide +kernel) (by rfl) ?_
      refine zV1 (Z := Z) (Eq.trans (ui_o (by first | decide | omega)) (Eq.trans uj_i (Eq.trans (ui_o (by first | decide | omega)) (Eq.trans (ui_o (by first | decide | omega)) (Eq.trans (ui_o (by first | decide | omega)) (Eq.trans (ui_o (by first | decide | omega)) (Eq.trans (ui_o (by first | decide | omega)) (ui_k (by first | decide | omega))))))))) ?_
      refine zq_pfi hc hH (by rfl) (ci := 4) (f := 6) (by rfl) (sj (P := fun i => okf 79 4 6 (25 + 8 * i)) hwc4 (by decide +kernel)) (by rfl) ?_
      show Z 0 112 [(4, .ref (25 + 8 * wc)), (0, .ref 0), (1, .int s), (2, .int pa), (3, .int go)] [] (z_ui (z_ui (z_uj (z_ui (z_ui (z_ui (z_ui (z_ui (z_ui μ 0 6 (nI (wc + 1))) (25 + 8 * wc) 0 s) (25 + 8 * wc) 1 pa) (25 + 8 * wc) 2 (μ.1 4 0)) (25 + 8 * wc) 3 (μ.1 4 1)) (25 + 8 * wc) 4 (μ.1 4 2)) (25 + 8 * wc) 7 (μ.2.1 4 3)) (25 + 8 * wc) 5 go) (25 + 8 * wc) 6 (μ.1 0 15))
      exact hr 0 112 _ _ _ none (by decide +kernel) (by rfl) (⟨rfl, rfl⟩)
    · have h2 : (decide ((nI wc) < 4)) = false := decide_eq_false (cn_lt.mp h2)
      exact absurd (Eq.trans (Eq.symm (kn_lt (m := 4) rfl (by omega) (by omega))) h2) (by decide)
theorem gc_someoneIsBroke (d : Nat) (hd : 2 ≤ d) (μ : zM) : z_C d mi_X6_someoneIsBroke [.ref 0] μ (zR μ (.int (nB (!(decide (0 ≤ (μ.1 18 4))) || (!(decide (0 ≤ (μ.1 26 4))) || (!(decide (0 ≤ (μ.1 34 4))) || (!(decide (0 ≤ (μ.1 42 4)))))))))) := by
  refine z_C_in (by decide) (by omega) (fun d' Z ed hc hr => ?_)
  have hH : zH mi_X6_someoneIsBroke zt_X6_someoneIsBroke 79 6 2 := hh_X6_someoneIsBroke
  refine z_rcs hc hH 7 (pc' := 9) (lv' := [(1, .int 0), (0, .ref 0)]) (st' := [.int 0, .ref 0]) (μ' := μ) (by rfl) ?_
  refine zq_call hc (z_cx_ok hH (by rfl)) (gc_at d' (by omega) μ 0 (by decide)) (by decide +kernel) (fun r9 μ9 hq => ?_)
  obtain ⟨hμ9, rfl⟩ := hq
  rw [hμ9]
  clear hμ9 μ9
  show Z 0 12 [(1, .int 0), (0, .ref 0)] [.ref 18] μ
  refine zq_gfi hc hH (by rfl) (ci := 1) (f := 4) (by rfl) (by decide +kernel) (by rfl) ?_
  refine zq_if hc hH (by rfl) (tg := 20) (by rfl) (fun h1 => ?_) (fun h1 => ?_)
  · have h1 : (decide (0 ≤ (μ.1 18 4))) = true := decide_eq_true (cm_ge.mp h1)
    refine z_rcs hc hH 7 (pc' := 9) (lv' := [(1, .int 1), (0, .ref 0)]) (st' := [.int 1, .ref 0]) (μ' := μ) (by rfl) ?_
    refine zq_call hc (z_cx_ok hH (by rfl)) (gc_at d' (by omega) μ 1 (by decide)) (by decide +kernel) (fun r9 μ9 hq => ?_)
    obtain ⟨hμ9, rfl⟩ := hq
    rw [hμ9]
    clear hμ9 μ9
    show Z 0 12 [(1, .int 1), (0, .ref 0)] [.ref 26] μ
    refine zq_gfi hc hH (by rfl) (ci := 1) (f := 4) (by rfl) (by decide +kernel) (by rfl) ?_
    refine zq_if hc hH (by rfl) (tg := 20) (by rfl) (fun h2 => ?_) (fun h2 => ?_)
    · have h2 : (decide (0 ≤ (μ.1 26 4))) = true := decide_eq_true (cm_ge.mp h2)
      refine z_rcs hc hH 7 (pc' := 9) (lv' := [(1, .int 2), (0, .ref 0)]) (st' := [.int 2, .ref 0]) (μ' := μ) (by rfl) ?_
      refine zq_call hc (z_cx_ok hH (by rfl)) (gc_at d' (by omega) μ 2 (by decide)) (by decide +kernel) (fun r9 μ9 hq => ?_)
      obtain ⟨hμ9, rfl⟩ := hq
      rw [hμ9]
      clear hμ9 μ9
      show Z 0 12 [(1, .int 2), (0, .ref 0)] [.ref 34] μ
      refine zq_gfi hc hH (by rfl) (ci := 1) (f := 4) (by rfl) (by decide +kernel) (by rfl) ?_
      refine zq_if hc hH (by rfl) (tg := 20) (by rfl) (fun h3 => ?_) (fun h3 => ?_)
      · have h3 : (decide (0 ≤ (μ.1 34 4))) = true := decide_eq_true (cm_ge.mp h3)
        refine z_rcs hc hH 7 (pc' := 9) (lv' := [(1, .int 3), (0, .ref 0)]) (st' := [.int 3, .ref 0]) (μ' := μ) (by rfl) ?_
        refine zq_call hc (z_cx_ok hH (by rfl)) (gc_at d' (by omega) μ 3 (by decide)) (by decide +kernel) (fun r9 μ9 hq => ?_)
        obtain ⟨hμ9, rfl⟩ := hq
        rw [hμ9]
        clear hμ9 μ9
        show Z 0 12 [(1, .int 3), (0, .ref 0)] [.ref 42] μ
        refine zq_gfi hc hH (by rfl) (ci := 1) (f := 4) (by rfl) (by decide +kernel) (by rfl) ?_
        refine zq_if hc hH (by rfl) (tg := 20) (by rfl) (fun h4 => ?_) (fun h4 => ?_)
        · have h4 : (decide (0 ≤ (μ.1 42 4))) = true := decide_eq_true (cm_ge.mp h4)
          refine z_rcs hc hH 6 (pc' := 27) (lv' := [(1, .int 4), (0, .ref 0)]) (st' := [.int 0]) (μ' := μ) (by rfl) ?_
          exact hr 0 27 _ _ _ (some (.int 0)) (by decide +kernel) (z_rx_ok hH (by rfl)) (⟨rfl, (by simp only [h1, h2, h3, h4, lb_f, Int64.or_zero, Int32.add_zero, nB_t, nB_f, Bool.not_true, Bool.not_false, Bool.and_true, Bool.true_and, Bool.false_and, Bool.and_false, Bool.or_true, Bool.true_or, Bool.false_or, Bool.or_false, cond_true, cond_false])⟩)
        · have h4 : (decide (0 ≤ (μ.1 42 4))) = false := decide_eq_false (cn_ge.mp h4)
          refine z_rcs hc hH 1 (pc' := 19) (lv' := [(1, .int 3), (0, .ref 0)]) (st' := [.int 1]) (μ' := μ) (by rfl) ?_
          exact hr 0 19 _ _ _ (some (.int 1)) (by decide +kernel) (z_rx_ok hH (by rfl)) (⟨rfl, (by simp only [h1, h2, h3, h4, lb_f, Int64.or_zero, Int32.add_zero, nB_t, nB_f, Bool.not_true, Bool.not_false, Bool.and_true, Bool.true_and, Bool.false_and, Bool.and_false, Bool.or_true, Bool.true_or, Bool.false_or, Bool.or_false, cond_true, cond_false])⟩)
      · have h3 : (decide (0 ≤ (μ.1 34 4))) = false := decide_eq_false (cn_ge.mp h3)
        refine z_rcs hc hH 1 (pc' := 19) (lv' := [(1, .int 2), (0, .ref 0)]) (st' := [.int 1]) (μ' := μ) (by rfl) ?_
        exact hr 0 19 _ _ _ (some (.int 1)) (by decide +kernel) (z_rx_ok hH (by rfl)) (⟨rfl, (by simp only [h1, h2, h3, lb_f, Int64.or_zero, Int32.add_zero, nB_t, nB_f, Bool.not_true, Bool.not_false, Bool.and_true, Bool.true_and, Bool.false_and, Bool.and_false, Bool.or_true, Bool.true_or, Bool.false_or, Bool.or_false, cond_true, cond_false])⟩)
    · have h2 : (decide (0 ≤ (μ.1 26 4))) = false := decide_eq_false (cn_ge.mp h2)
      refine z_rcs hc hH 1 (pc' := 19) (lv' := [(1, .int 1), (0, .ref 0)]) (st' := [.int 1]) (μ' := μ) (by rfl) ?_
      exact hr 0 19 _ _ _ (some (.int 1)) (by decide +kernel) (z_rx_ok hH (by rfl)) (⟨rfl, (by simp only [h1, h2, lb_f, Int64.or_zero, Int32.add_zero, nB_t, nB_f, Bool.not_true, Bool.not_false, Bool.and_true, Bool.true_and, Bool.false_and, Bool.and_false, Bool.or_true, Bool.true_or, Bool.false_or, Bool.or_false, cond_true, cond_false])⟩)
  · have h1 : (decide (0 ≤ (μ.1 18 4))) = false := decide_eq_false (cn_ge.mp h1)
    refine z_rcs hc hH 1 (pc' := 19) (lv' := [(1, .int 0), (0, .ref 0)]) (st' := [.int 1]) (μ' := μ) (by rfl) ?_
    exact hr 0 19 _ _ _ (some (.int 1)) (by decide +kernel) (z_rx_ok hH (by rfl)) (⟨rfl, (by simp only [h1, lb_f, Int64.or_zero, Int32.add_zero, nB_t, nB_f, Bool.not_true, Bool.not_false, Bool.and_true, Bool.true_and, Bool.false_and, Bool.and_false, Bool.or_true, Bool.true_or, Bool.false_or, Bool.or_false, cond_true, cond_false])⟩)
theorem gc_richest (d : Nat) (hd : 2 ≤ d) (μ : zM) : z_C d mi_X6_richest [.ref 0] μ (fun r μ' => r = some ((bif decide ((μ.1 26 4) ≤ (μ.1 18 4)) then (bif decide ((μ.1 34 4) ≤ (μ.1 18 4)) then (bif decide ((μ.1 42 4) ≤ (μ.1 18 4)) then .int 0 else .int 3) else (bif decide ((μ.1 42 4) ≤ (μ.1 34 4)) then .int 2 else .int 3)) else (bif decide ((μ.1 34 4) ≤ (μ.1 26 4)) then (bif decide ((μ.1 42 4) ≤ (μ.1 26 4)) then .int 1 else .int 3) else (bif decide ((μ.1 42 4) ≤ (μ.1 34 4)) then .int 2 else .int 3)))) ∧ μ' = μ) := by
  refine z_C_in (by decide) (by omega) (fun d' Z ed hc hr => ?_)
  have hH : zH mi_X6_richest zt_X6_richest 79 6 3 := hh_X6_richest
  refine z_rcs hc hH 9 (pc' := 11) (lv' := [(2, .int 1), (1, .int 0), (0, .ref 0)]) (st' := [.int 1, .ref 0]) (μ' := μ) (by rfl) ?_
  refine zq_call hc (z_cx_ok hH (by rfl)) (gc_at d' (by omega) μ 1 (by decide)) (by decide +kernel) (fun r9 μ9 hq => ?_)
  obtain ⟨hμ9, rfl⟩ := hq
  rw [hμ9]
  clear hμ9 μ9
  show Z 0 14 [(2, .int 1), (1, .int 0), (0, .ref 0)] [.ref 26] μ
  refine zq_gfi hc hH (by rfl) (ci := 1) (f := 4) (by rfl) (by decide +kernel) (by rfl) ?_
  refine z_rcs hc hH 2 (pc' := 19) (lv' := [(2, .int 1), (1, .int 0), (0, .ref 0)]) (st' := [.int 0, .ref 0, .int (μ.1 26 4)]) (μ' := μ) (by rfl) ?_
  refine zq_call hc (z_cx_ok hH (by rfl)) (gc_at d' (by omega) μ 0 (by decide)) (by decide +kernel) (fun r9 μ9 hq => ?_)
  obtain ⟨hμ9, rfl⟩ := hq
  rw [hμ9]
  clear hμ9 μ9
  show Z 0 22 [(2, .int 1), (1, .int 0), (0, .ref 0)] [.ref 18, .int (μ.1 26 4)] μ
  refine zq_gfi hc hH (by rfl) (ci := 1) (f := 4) (by rfl) (by decide +kernel) (by rfl) ?_
  refine zq_ic hc hH (by rfl) (tg := 30) (by rfl) (fun h1 => ?_) (fun h1 => ?_)
  · have h1 : (decide ((μ.1 26 4) ≤ (μ.1 18 4))) = true := decide_eq_true (cm_le.mp h1)
    refine z_rcs hc hH 7 (pc' := 11) (lv' := [(2, .int 2), (1, .int 0), (0, .ref 0)]) (st' := [.int 2, .ref 0]) (μ' := μ) (by rfl) ?_
    refine zq_call hc (z_cx_ok hH (by rfl)) (gc_at d' (by omega) μ 2 (by decide)) (by decide +kernel) (fun r9 μ9 hq => ?_)
    obtain ⟨hμ9, rfl⟩ := hq
    rw [hμ9]
    clear hμ9 μ9
    show Z 0 14 [(2, .int 2), (1, .int 0), (0, .ref 0)] [.ref 34] μ
    refine zq_gfi hc hH (by rfl) (ci := 1) (f := 4) (by rfl) (by decide +kernel) (by rfl) ?_
    refine z_rcs hc hH 2 (pc' := 19) (lv' := [(2, .int 2), (1, .int 0), (0, .ref 0)]) (st' := [.int 0, .ref 0, .int (μ.1 34 4)]) (μ' := μ) (by rfl) ?_
    refine zq_call hc (z_cx_ok hH (by rfl)) (gc_at d' (by omega) μ 0 (by decide)) (by decide +kernel) (fun r9 μ9 hq => ?_)
    obtain ⟨hμ9, rfl⟩ := hq
    rw [hμ9]
    clear hμ9 μ9
    show Z 0 22 [(2, .int 2), (1, .int 0), (0, .ref 0)] [.ref 18, .int (μ.1 34 4)] μ
    refine zq_gfi hc hH (by rfl) (ci := 1) (f := 4) (by rfl) (by decide +kernel) (by rfl) ?_
    refine zq_ic hc hH (by rfl) (tg := 30) (by rfl) (fun h2 => ?_) (fun h2 => ?_)
    · have h2 : (decide ((μ.1 34 4) ≤ (μ.1 18 4))) = true := decide_eq_true (cm_le.mp h2)
      refine z_rcs hc hH 7 (pc' := 11) (lv' := [(2, .int 3), (1, .int 0), (0, .ref 0)]) (st' := [.int 3, .ref 0]) (μ' := μ) (by rfl) ?_
      refine zq_call hc (z_cx_ok hH (by rfl)) (gc_at d' (by omega) μ 3 (by decide)) (by decide +kernel) (fun r9 μ9 hq => ?_)
      obtain ⟨hμ9, rfl⟩ := hq
      rw [hμ9]
      clear hμ9 μ9
      show Z 0 14 [(2, .int 3), (1, .int 0), (0, .ref 0)] [.ref 42] μ
      refine zq_gfi hc hH (by rfl) (ci := 1) (f := 4) (by rfl) (by decide +kernel) (by rfl) ?_
      refine z_rcs hc hH 2 (pc' := 19) (lv' := [(2, .int 3), (1, .int 0), (0, .ref 0)]) (st' := [.int 0, .ref 0, .int (μ.1 42 4)]) (μ' := μ) (by rfl) ?_
      refine zq_call hc (z_cx_ok hH (by rfl)) (gc_at d' (by omega) μ 0 (by decide)) (by decide +kernel) (fun r9 μ9 hq => ?_)
      obtain ⟨hμ9, rfl⟩ := hq
      rw [hμ9]
      clear hμ9 μ9
      show Z 0 22 [(2, .int 3), (1, .int 0), (0, .ref 0)] [.ref 18, .int (μ.1 42 4)] μ
      refine zq_gfi hc hH (by rfl) (ci := 1) (f := 4) (by rfl) (by decide +kernel) (by rfl) ?_
      refine zq_ic hc hH (by rfl) (tg := 30) (by rfl) (fun h3 => ?_) (fun h3 => ?_)
      · have h3 : (decide ((μ.1 42 4) ≤ (μ.1 18 4))) = true := decide_eq_true (cm_le.mp h3)
        refine z_rcs hc hH 6 (pc' := 37) (lv' := [(2, .int 4), (1, .int 0), (0, .ref 0)]) (st' := [.int 0]) (μ' := μ) (by rfl) ?_
        exact hr 0 37 _ _ _ (some (.int 0)) (by decide +kernel) (z_rx_ok hH (by rfl)) (⟨(by first | with_reducible rfl | (simp only [h1, h2, h3, cond_true, cond_false]; done) | rfl), (by simp only [h1, h2, h3, cond_true, cond_false])⟩)
      · have h3 : (decide ((μ.1 42 4) ≤ (μ.1 18 4))) = false := decide_eq_false (cn_le.mp h3)
        refine z_rcs hc hH 8 (pc' := 37) (lv' := [(2, .int 4), (1, .int 3), (0, .ref 0)]) (st' := [.int 3]) (μ' := μ) (by rfl) ?_
        exact hr 0 37 _ _ _ (some (.int 3)) (by decide +kernel) (z_rx_ok hH (by rfl)) (⟨(by first | with_reducible rfl | (simp only [h1, h2, h3, cond_true, cond_false]; done) | rfl), (by simp only [h1, h2, h3, cond_true, cond_false])⟩)
    · have h2 : (decide ((μ.1 34 4) ≤ (μ.1 18 4))) = false := decide_eq_false (cn_le.mp h2)
      refine z_rcs hc hH 9 (pc' := 11) (lv' := [(2, .int 3), (1, .int 2), (0, .ref 0)]) (st' := [.int 3, .ref 0]) (μ' := μ) (by rfl) ?_
      refine zq_call hc (z_cx_ok hH (by rfl)) (gc_at d' (by omega) μ 3 (by decide)) (by decide +kernel) (fun r9 μ9 hq => ?_)
      obtain ⟨hμ9, rfl⟩ := hq
      rw [hμ9]
      clear hμ9 μ9
      show Z 0 14 [(2, .int 3), (1, .int 2), (0, .ref 0)] [.ref 42] μ
      refine zq_gfi hc hH (by rfl) (ci := 1) (f := 4) (by rfl) (by decide +kernel) (by rfl) ?_
      refine z_rcs hc hH 2 (pc' := 19) (lv' := [(2, .int 3), (1, .int 2), (0, .ref 0)]) (st' := [.int 2, .ref 0, .int (μ.1 42 4)]) (μ' := μ) (by rfl) ?_
      refine zq_call hc (z_cx_ok hH (by rfl)) (gc_at d' (by omega) μ 2 (by decide)) (by decide +kernel) (fun r9 μ9 hq => ?_)
      obtain ⟨hμ9, rfl⟩ := hq
      rw [hμ9]
      clear hμ9 μ9
      show Z 0 22 [(2, .int 3), (1, .int 2), (0, .ref 0)] [.ref 34, .int (μ.1 42 4)] μ
      refine zq_gfi hc hH (by rfl) (ci := 1) (f := 4) (by rfl) (by decide +kernel) (by rfl) ?_
      refine zq_ic hc hH (by rfl) (tg := 30) (by rfl) (fun h4 => ?_) (fun h4 => ?_)
      · have h4 : (decide ((μ.1 42 4) ≤ (μ.1 34 4))) = true := decide_eq_true (cm_le.mp h4)
        refine z_rcs hc hH 6 (pc' := 37) (lv' := [(2, .int 4), (1, .int 2), (0, .ref 0)]) (st' := [.int 2]) (μ' := μ) (by rfl) ?_
        exact hr 0 37 _ _ _ (some (.int 2)) (by decide +kernel) (z_rx_ok hH (by rfl)) (⟨(by first | with_reducible rfl | (simp only [h1, h2, h4, cond_true, cond_false]; done) | rfl), (by simp only [h1, h2, h4, cond_true, cond_false])⟩)
      · have h4 : (decide ((μ.1 42 4) ≤ (μ.1 34 4))) = false := decide_eq_false (cn_le.mp h4)
        refine z_rcs hc hH 8 (pc' := 37) (lv' := [(2, .int 4), (1, .int 3), (0, .ref 0)]) (st' := [.int 3]) (μ' := μ) (by rfl) ?_
        exact hr 0 37 _ _ _ (some (.int 3)) (by decide +kernel) (z_rx_ok hH (by rfl)) (⟨(by first | with_reducible rfl | (simp only [h1, h2, h4, cond_true, cond_false]; done) | rfl), (by simp only [h1, h2, h4, cond_true, cond_false])⟩)
  · have h1 : (decide ((μ.1 26 4) ≤ (μ.1 18 4))) = false := decide_eq_false (cn_le.mp h1)
    refine z_rcs hc hH 9 (pc' := 11) (lv' := [(2, .int 2), (1, .int 1), (0, .ref 0)]) (st' := [.int 2, .ref 0]) (μ' := μ) (by rfl) ?_
    refine zq_call hc (z_cx_ok hH (by rfl)) (gc_at d' (by omega) μ 2 (by decide)) (by decide +kernel) (fun r9 μ9 hq => ?_)
    obtain ⟨hμ9, rfl⟩ := hq
    rw [hμ9]
    clear hμ9 μ9
    show Z 0 14 [(2, .int 2), (1, .int 1), (0, .ref 0)] [.ref 34] μ
    refine zq_gfi hc hH (by rfl) (ci := 1) (f := 4) (by rfl) (by decide +kernel) (by rfl) ?_
    refine z_rcs hc hH 2 (pc' := 19) (lv' := [(2, .int 2), (1, .int 1), (0, .ref 0)]) (st' := [.int 1, .ref 0, .int (μ.1 34 4)]) (μ' := μ) (by rfl) ?_
    refine zq_call hc (z_cx_ok hH (by rfl)) (gc_at d' (by omega) μ 1 (by decide)) (by decide +kernel) (fun r9 μ9 hq => ?_)
    obtain ⟨hμ9, rfl⟩ := hq
    rw [hμ9]
    clear hμ9 μ9
    show Z 0 22 [(2, .int 2), (1, .int 1), (0, .ref 0)] [.ref 26, .int (μ.1 34 4)] μ
    refine zq_gfi hc hH (by rfl) (ci := 1) (f := 4) (by rfl) (by decide +kernel) (by rfl) ?_
    refine zq_ic hc hH (by rfl) (tg := 30) (by rfl) (fun h5 => ?_) (fun h5 => ?_)
    · have h5 : (decide ((μ.1 34 4) ≤ (μ.1 26 4))) = true := decide_eq_true (cm_le.mp h5)
      refine z_rcs hc hH 7 (pc' := 11) (lv' := [(2, .int 3), (1, .int 1), (0, .ref 0)]) (st' := [.int 3, .ref 0]) (μ' := μ) (by rfl) ?_
      refine zq_call hc (z_cx_ok hH (by rfl)) (gc_at d' (by omega) μ 3 (by decide)) (by decide +kernel) (fun r9 μ9 hq => ?_)
      obtain ⟨hμ9, rfl⟩ := hq
      rw [hμ9]
      clear hμ9 μ9
      show Z 0 14 [(2, .int 3), (1, .int 1), (0, .ref 0)] [.ref 42] μ
      refine zq_gfi hc hH (by rfl) (ci := 1) (f := 4) (by rfl) (by decide +kernel) (by rfl) ?_
      refine z_rcs hc hH 2 (pc' := 19) (lv' := [(2, .int 3), (1, .int 1), (0, .ref 0)]) (st' := [.int 1, .ref 0, .int (μ.1 42 4)]) (μ' := μ) (by rfl) ?_
      refine zq_call hc (z_cx_ok hH (by rfl)) (gc_at d' (by omega) μ 1 (by decide)) (by decide +kernel) (fun r9 μ9 hq => ?_)
      obtain ⟨hμ9, rfl⟩ := hq
      rw [hμ9]
      clear hμ9 μ9
      show Z 0 22 [(2, .int 3), (1, .int 1), (0, .ref 0)] [.ref 26, .int (μ.1 42 4)] μ
      refine zq_gfi hc hH (by rfl) (ci := 1) (f := 4) (by rfl) (by decide +kernel) (by rfl) ?_
      refine zq_ic hc hH (by rfl) (tg := 30) (by rfl) (fun h6 => ?_) (fun h6 => ?_)
      · have h6 : (decide ((μ.1 42 4) ≤ (μ.1 26 4))) = true := decide_eq_true (cm_le.mp h6)
        refine z_rcs hc hH 6 (pc' := 37) (lv' := [(2, .int 4), (1, .int 1), (0, .ref 0)]) (st' := [.int 1]) (μ' := μ) (by rfl) ?_
        exact hr 0 37 _ _ _ (some (.int 1)) (by decide +kernel) (z_rx_ok hH (by rfl)) (⟨(by first | with_reducible rfl | (simp only [h1, h5, h6, cond_true, cond_false]; done) | rfl), (by simp only [h1, h5, h6, cond_true, cond_false])⟩)
      · have h6 : (decide ((μ.1 42 4) ≤ (μ.1 26 4))) = false := decide_eq_false (cn_le.mp h6)
        refine z_rcs hc hH 8 (pc' := 37) (lv' := [(2, .int 4), (1, .int 3), (0, .ref 0)]) (st' := [.int 3]) (μ' := μ) (by rfl) ?_
        exact hr 0 37 _ _ _ (some (.int 3)) (by decide +kernel) (z_rx_ok hH (by rfl)) (⟨(by first | with_reducible rfl | (simp only [h1, h5, h6, cond_true, cond_false]; done) | rfl), (by simp only [h1, h5, h6, cond_true, cond_false])⟩)
    · have h5 : (decide ((μ.1 34 4) ≤ (μ.1 26 4))) = false := decide_eq_false (cn_le.mp h5)
      refine z_rcs hc hH 9 (pc' := 11) (lv' := [(2, .int 3), (1, .int 2), (0, .ref 0)]) (st' := [.int 3, .ref 0]) (μ' := μ) (by rfl) ?_
      refine zq_call hc (z_cx_ok hH (by rfl)) (gc_at d' (by omega) μ 3 (by decide)) (by decide +kernel) (fun r9 μ9 hq => ?_)
      obtain ⟨hμ9, rfl⟩ := hq
      rw [hμ9]
      clear hμ9 μ9
      show Z 0 14 [(2, .int 3), (1, .int 2), (0, .ref 0)] [.ref 42] μ
      refine zq_gfi hc hH (by rfl) (ci := 1) (f := 4) (by rfl) (by decide +kernel) (by rfl) ?_
      refine z_rcs hc hH 2 (pc' := 19) (lv' := [(2, .int 3), (1, .int 2), (0, .ref 0)]) (st' := [.int 2, .ref 0, .int (μ.1 42 4)]) (μ' := μ) (by rfl) ?_
      refine zq_call hc (z_cx_ok hH (by rfl)) (gc_at d' (by omega) μ 2 (by decide)) (by decide +kernel) (fun r9 μ9 hq => ?_)
      obtain ⟨hμ9, rfl⟩ := hq
      rw [hμ9]
      clear hμ9 μ9
      show Z 0 22 [(2, .int 3), (1, .int 2), (0, .ref 0)] [.ref 34, .int (μ.1 42 4)] μ
      refine zq_gfi hc hH (by rfl) (ci := 1) (f := 4) (by rfl) (by decide +kernel) (by rfl) ?_
      refine zq_ic hc hH (by rfl) (tg := 30) (by rfl) (fun h7 => ?_) (fun h7 => ?_)
      · have h7 : (decide ((μ.1 42 4) ≤ (μ.1 34 4))) = true := decide_eq_true (cm_le.mp h7)
        refine z_rcs hc hH 6 (pc' := 37) (lv' := [(2, .int 4), (1, .int 2), (0, .ref 0)]) (st' := [.int 2]) (μ' := μ) (by rfl) ?_
        exact hr 0 37 _ _ _ (some (.int 2)) (by decide +kernel) (z_rx_ok hH (by rfl)) (⟨(by first | with_reducible rfl | (simp only [h1, h5, h7, cond_true, cond_false]; done) | rfl), (by simp only [h1, h5, h7, cond_true, cond_false])⟩)
      · have h7 : (decide ((μ.1 42 4) ≤ (μ.1 34 4))) = false := decide_eq_false (cn_le.mp h7)
        refine z_rcs hc hH 8 (pc' := 37) (lv' := [(2, .int 4), (1, .int 3), (0, .ref 0)]) (st' := [.int 3]) (μ' := μ) (by rfl) ?_
        exact hr 0 37 _ _ _ (some (.int 3)) (by decide +kernel) (z_rx_ok hH (by rfl)) (⟨(by first | with_reducible rfl | (simp only [h1, h5, h7, cond_true, cond_false]; done) | rfl), (by simp only [h1, h5, h7, cond_true, cond_false])⟩)
noncomputable def rcB (p0 p1 p2 p3 : Int32) : Nat := bif decide (p1 ≤ p0) then (bif decide (p2 ≤ p0) then (bif decide (p3 ≤ p0) then 0 else 3) else (bif decide (p3 ≤ p2) then 2 else 3)) else (bif decide (p2 ≤ p1) then (bif decide (p3 ≤ p1) then 1 else 3) else (bif decide (p3 ≤ p2) then 2 else 3))
theorem rcB_lt (p0 p1 p2 p3 : Int32) : rcB p0 p1 p2 p3 < 4 := by
  unfold rcB
  cases decide (p1 ≤ p0) <;> cases decide (p2 ≤ p0) <;> cases decide (p3 ≤ p0) <;> cases decide (p2 ≤ p1) <;> cases decide (p3 ≤ p1) <;> cases decide (p3 ≤ p2) <;> decide
noncomputable abbrev rcM (μ : zM) : Nat := rcB (μ.1 18 4) (μ.1 26 4) (μ.1 34 4) (μ.1 42 4)
theorem gc_rich (d : Nat) (hd : 2 ≤ d) (μ : zM) (b : Nat) (hb : rcM μ = b) : z_C d mi_X6_richest [.ref 0] μ (zR μ (.int (nI b))) := by
  refine z_C_mono (gc_richest d hd μ) (fun r μ' z => ⟨z.2, ?_⟩)
  rw [z.1, ← hb]
  show _ = some (Value.int (nI (rcB _ _ _ _)))
  unfold rcB
  cases decide (μ.1 26 4 ≤ μ.1 18 4) <;> cases decide (μ.1 34 4 ≤ μ.1 18 4) <;> cases decide (μ.1 42 4 ≤ μ.1 18 4) <;> cases decide (μ.1 34 4 ≤ μ.1 26 4) <;> cases decide (μ.1 42 4 ≤ μ.1 26 4) <;> cases decide (μ.1 42 4 ≤ μ.1 34 4) <;> rfl
noncomputable abbrev xBk (μ : zM) : Bool := !(decide (0 ≤ (μ.1 18 4))) || (!(decide (0 ≤ (μ.1 26 4))) || (!(decide (0 ≤ (μ.1 34 4))) || (!(decide (0 ≤ (μ.1 42 4))))))
theorem gc_brk (d : Nat) (hd : 2 ≤ d) (μ : zM) (b : Bool) (h : xBk μ = b) : z_C d mi_X6_someoneIsBroke [.ref 0] μ (zR μ (.int (nB b))) := by
  rw [← h]; exact gc_someoneIsBroke d hd μ
noncomputable def eH0 (μ : zM) (ow bk : Bool) (dl e b : Nat) : zM := (bif decide ((nI e) = 0) then (bif bk then z_ui (z_ui (z_ui (z_ui (z_ui μ 0 7 0) 0 14 ((μ.1 0 14) + 1)) 0 13 1) (18 + 8 * b) 4 ((μ.1 (18 + 8 * b) 4) + ((μ.1 0 12) * 1000))) 0 12 0 else (bif decide (((μ.1 0 10) + 1) ≤ 1) then (bif ow then z_ui (z_ui (z_ui (z_ui (z_ui μ 0 7 0) 0 14 ((μ.1 0 14) + 1)) 0 9 (nI e)) 0 10 ((μ.1 0 10) + 1)) 0 11 0 else z_ui (z_ui (z_ui (z_ui (z_ui μ 0 7 0) 0 14 ((μ.1 0 14) + 1)) 0 9 (nI e)) 0 10 ((μ.1 0 10) + 1)) 0 11 ((μ.1 0 11) + 1)) else z_ui (z_ui (z_ui (z_ui (z_ui μ 0 7 0) 0 14 ((μ.1 0 14) + 1)) 0 13 1) (18 + 8 * b) 4 ((μ.1 (18 + 8 * b) 4) + ((μ.1 0 12) * 1000))) 0 12 0)) else (bif bk then z_ui (z_ui (z_ui (z_ui (z_ui μ 0 7 0) 0 14 ((μ.1 0 14) + 1)) 0 13 1) (18 + 8 * b) 4 ((μ.1 (18 + 8 * b) 4) + ((μ.1 0 12) * 1000))) 0 12 0 else (bif decide ((μ.1 0 10) ≤ 1) then (bif ow then z_ui (z_ui (z_ui (z_ui (z_ui μ 0 7 0) 0 14 ((μ.1 0 14) + 1)) 0 9 (nI e)) 0 10 (μ.1 0 10)) 0 11 0 else z_ui (z_ui (z_ui (z_ui (z_ui μ 0 7 0) 0 14 ((μ.1 0 14) + 1)) 0 9 (nI e)) 0 10 (μ.1 0 10)) 0 11 ((μ.1 0 11) + 1)) else z_ui (z_ui (z_ui (z_ui (z_ui μ 0 7 0) 0 14 ((μ.1 0 14) + 1)) 0 13 1) (18 + 8 * b) 4 ((μ.1 (18 + 8 * b) 4) + ((μ.1 0 12) * 1000))) 0 12 0)))
theorem gc_endHand0 (d : Nat) (hd : 3 ≤ d) (μ : zM) (ow bk : Bool) (dl e b : Nat) (hbk : xBk μ = bk) (hdl : μ.1 0 9 = nI dl) (hdl4 : dl < 4) (he : (dl + 1) % 4 = e) (hb4 : b < 4) (hb : rcM μ = b) : z_C d mi_X6_endHand [.ref 0, .int 0, .int (nB ow)] μ (fun r μ' => r = none ∧ μ' = eH0 μ ow bk dl e b) := by
  refine z_C_in (by decide) (by omega) (fun d' Z ed hc hr => ?_)
  have hH : zH mi_X6_endHand zt_X6_endHand 79 6 5 := hh_X6_endHand
  refine z_rcs hc hH 2 (pc' := 2) (lv' := [(0, .ref 0), (1, .int 0), (2, .int (nB ow))]) (st' := [.int 0, .ref 0]) (μ' := μ) (by rfl) ?_
  refine zq_pfi hc hH (by rfl) (ci := 5) (f := 7) (by rfl) (by decide +kernel) (by rfl) ?_
  show Z 0 5 [(0, .ref 0), (1, .int 0), (2, .int (nB ow))] [] (z_ui μ 0 7 0)
  refine z_rcs hc hH 2 (pc' := 7) (lv' := [(0, .ref 0), (1, .int 0), (2, .int (nB ow))]) (st' := [.ref 0, .ref 0]) (μ' := z_ui μ 0 7 0) (by rfl) ?_
  refine zq_gfi hc hH (by rfl) (ci := 5) (f := 14) (by rfl) (by decide +kernel) (by rfl) ?_
  refine zV1 (Z := Z) (ui_k (by first | decide | omega)) ?_
  refine z_rcs hc hH 2 (pc' := 12) (lv' := [(0, .ref 0), (1, .int 0), (2, .int (nB ow))]) (st' := [.int ((μ.1 0 14) + 1), .ref 0]) (μ' := z_ui μ 0 7 0) (by rfl) ?_
  refine zq_pfi hc hH (by rfl) (ci := 5) (f := 14) (by rfl) (by decide +kernel) (by rfl) ?_
  show Z 0 15 [(0, .ref 0), (1, .int 0), (2, .int (nB ow))] [] (z_ui (z_ui μ 0 7 0) 0 14 ((μ.1 0 14) + 1))
  refine z_rcs0 hc hH 3 (pc' := 27) (lv' := [(0, .ref 0), (1, .int 0), (2, .int (nB ow))]) (st' := [.ref 0]) (by rfl) ?_
  refine zq_gfi hc hH (by rfl) (ci := 5) (f := 9) (by rfl) (by decide +kernel) (by rfl) ?_
  refine zV1 (Z := Z) (Eq.trans (ui_k (by first | decide | omega)) (ui_k (by first | decide | omega))) ?_
  rw [hdl]
  refine z_rcs0 hc hH 2 (pc' := 32) (lv' := [(0, .ref 0), (1, .int 0), (2, .int (nB ow))]) (st' := [.int ((nI dl) + 1)]) (by rfl) ?_
  rw [nI_s1]
  refine z_rcs0 hc hH 2 (pc' := 34) (lv' := [(0, .ref 0), (1, .int 0), (2, .int (nB ow))]) (st' := [.int ((nI (dl + 1)) &&& 3)]) (by rfl) ?_
  rw [show nI (dl + 1) &&& 3 = nI e from by rw [and3 (by omega), he]]
  refine z_rcs0 hc hH 4 (pc' := 40) (lv' := [(3, .int (nI e)), (0, .ref 0), (1, .int 0), (2, .int (nB ow))]) (st' := [.int (nI e)]) (by rfl) ?_
  refine zq_if hc hH (by rfl) (tg := 52) (by rfl) (fun h1 => ?_) (fun h1 => ?_)
  · have h1 : (decide ((nI e) = 0)) = false := decide_eq_false (cm_ne.mp h1)
    refine z_rcs0 hc hH 1 (pc' := 53) (lv' := [(3, .int (nI e)), (0, .ref 0), (1, .int 0), (2, .int (nB ow))]) (st' := [.ref 0]) (by rfl) ?_
    refine zq_gfi hc hH (by rfl) (ci := 5) (f := 10) (by rfl) (by decide +kernel) (by rfl) ?_
    refine zV1 (Z := Z) (Eq.trans (ui_k (by first | decide | omega)) (ui_k (by first | decide | omega))) ?_
    refine z_rcs0 hc hH 2 (pc' := 59) (lv' := [(4, .int (μ.1 0 10)), (3, .int (nI e)), (0, .ref 0), (1, .int 0), (2, .int (nB ow))]) (st' := [.ref 0]) (by rfl) ?_
    refine zq_call hc (z_cx_ok hH (by rfl)) (gc_brk d' (by omega) (z_ui (z_ui μ 0 7 0) 0 14 ((μ.1 0 14) + 1)) bk hbk) (by decide +kernel) (fun r9 μ9 hq => ?_)
    obtain ⟨hμ9, rfl⟩ := hq
    rw [hμ9]
    clear hμ9 μ9
    show Z 0 62 [(4, .int (μ.1 0 10)), (3, .int (nI e)), (0, .ref 0), (1, .int 0), (2, .int (nB ow))] [.int (nB bk)] _
    refine zq_if hc hH (by rfl) (tg := 71) (by rfl) (fun h2 => ?_) (fun h2 => ?_)
    · have h2 : (bk) = true := nB_n.mp (cm_ne.mp h2)
      refine z_rcs0 hc hH 2 (pc' := 73) (lv' := [(4, .int (μ.1 0 10)), (3, .int (nI e)), (0, .ref 0), (1, .int 0), (2, .int (nB ow))]) (st' := [.int 1, .ref 0]) (by rfl) ?_
      refine zq_pfb hc hH (by rfl) (ci := 5) (f := 13) (by rfl) (by decide +kernel) (by rfl) (by decide) ?_
      show Z 0 76 [(4, .int (μ.1 0 10)), (3, .int (nI e)), (0, .ref 0), (1, .int 0), (2, .int (nB ow))] [] (z_ui (z_ui (z_ui μ 0 7 0) 0 14 ((μ.1 0 14) + 1)) 0 13 1)
      refine z_rcs0 hc hH 2 (pc' := 78) (lv' := [(4, .int (μ.1 0 10)), (3, .int (nI e)), (0, .ref 0), (1, .int 0), (2, .int (nB ow))]) (st' := [.ref 0, .ref 0]) (by rfl) ?_
      refine zq_call hc (z_cx_ok hH (by rfl)) (gc_rich d' (by omega) (z_ui (z_ui (z_ui μ 0 7 0) 0 14 ((μ.1 0 14) + 1)) 0 13 1) b hb) (by decide +kernel) (fun r9 μ9 hq => ?_)
      obtain ⟨hμ9, rfl⟩ := hq
      rw [hμ9]
      clear hμ9 μ9
      show Z 0 81 [(4, .int (μ.1 0 10)), (3, .int (nI e)), (0, .ref 0), (1, .int 0), (2, .int (nB ow))] [.int (nI b), .ref 0] _
      refine zq_call hc (z_cx_ok hH (by rfl)) (gc_at4 d' (by omega) (z_ui (z_ui (z_ui μ 0 7 0) 0 14 ((μ.1 0 14) + 1)) 0 13 1) b hb4) (by decide +kernel) (fun r9 μ9 hq => ?_)
      obtain ⟨hμ9, rfl⟩ := hq
      rw [hμ9]
      clear hμ9 μ9
      show Z 0 84 [(4, .int (μ.1 0 10)), (3, .int (nI e)), (0, .ref 0), (1, .int 0), (2, .int (nB ow))] [.ref (18 + 8 * b)] _
      refine z_rcs0 hc hH 1 (pc' := 85) (lv' := [(4, .int (μ.1 0 10)), (3, .int (nI e)), (0, .ref 0), (1, .int 0), (2, .int (nB ow))]) (st' := [.ref (18 + 8 * b), .ref (18 + 8 * b)]) (by rfl) ?_
      refine zq_gfi hc hH (by rfl) (ci := 1) (f := 4) (by rfl) (sj (P := fun i => okf 79 1 4 (18 + 8 * i)) hb4 (by decide +kernel)) (by rfl) ?_
      refine zV1 (Z := Z) (Eq.trans (ui_o (by first | decide | omega)) (Eq.trans (ui_o (by first | decide | omega)) (ui_o (by first | decide | omega)))) ?_
      refine z_rcs0 hc hH 1 (pc' := 89) (lv' := [(4, .int (μ.1 0 10)), (3, .int (nI e)), (0, .ref 0), (1, .int 0), (2, .int (nB ow))]) (st' := [.ref 0, .int (μ.1 (18 + 8 * b) 4), .ref (18 + 8 * b)]) (by rfl) ?_
      refine zq_gfi hc hH (by rfl) (ci := 5) (f := 12) (by rfl) (by decide +kernel) (by rfl) ?_
      refine zV1 (Z := Z) (Eq.trans (ui_k (by first | decide | omega)) (Eq.trans (ui_k (by first | decide | omega)) (ui_k (by first | decide | omega)))) ?_
      refine z_rcs0 hc hH 3 (pc' := 97) (lv' := [(4, .int (μ.1 0 10)), (3, .int (nI e)), (0, .ref 0), (1, .int 0), (2, .int (nB ow))]) (st' := [.int ((μ.1 (18 + 8 * b) 4) + ((μ.1 0 12) * 1000)), .ref (18 + 8 * b)]) (by rfl) ?_
      refine zq_pfi hc hH (by rfl) (ci := 1) (f := 4) (by rfl) (sj (P := fun i => okf 79 1 4 (18 + 8 * i)) hb4 (by decide +kernel)) (by rfl) ?_
      show Z 0 100 [(4, .int (μ.1 0 10)), (3, .int (nI e)), (0, .ref 0), (1, .int 0), (2, .int (nB ow))] [] (z_ui (z_ui (z_ui (z_ui μ 0 7 0) 0 14 ((μ.1 0 14) + 1)) 0 13 1) (18 + 8 * b) 4 ((μ.1 (18 + 8 * b) 4) + ((μ.1 0 12) * 1000)))
      refine z_rcs0 hc hH 2 (pc' := 102) (lv' := [(4, .int (μ.1 0 10)), (3, .int (nI e)), (0, .ref 0), (1, .int 0), (2, .int (nB ow))]) (st' := [.int 0, .ref 0]) (by rfl) ?_
      refine zq_pfi hc hH (by rfl) (ci := 5) (f := 12) (by rfl) (by decide +kernel) (by rfl) ?_
      show Z 0 105 [(4, .int (μ.1 0 10)), (3, .int (nI e)), (0, .ref 0), (1, .int 0), (2, .int (nB ow))] [] (z_ui (z_ui (z_ui (z_ui (z_ui μ 0 7 0) 0 14 ((μ.1 0 14) + 1)) 0 13 1) (18 + 8 * b) 4 ((μ.1 (18 + 8 * b) 4) + ((μ.1 0 12) * 1000))) 0 12 0)
      exact hr 0 105 _ _ _ none (by decide +kernel) (by rfl) (⟨rfl, (by unfold eH0; simp only [h1, h2, cond_true, cond_false])⟩)
    · have h2 : (bk) = false := nB_z.mp (cn_ne.mp h2)
      refine z_rcs hc hH 2 (pc' := 68) (lv' := [(4, .int (μ.1 0 10)), (3, .int (nI e)), (0, .ref 0), (1, .int 0), (2, .int (nB ow))]) (st' := [.int 1, .int (μ.1 0 10)]) (μ' := z_ui (z_ui μ 0 7 0) 0 14 ((μ.1 0 14) + 1)) (by rfl) ?_
      refine zq_ic hc hH (by rfl) (tg := 106) (by rfl) (fun h3 => ?_) (fun h3 => ?_)
      · have h3 : (decide ((μ.1 0 10) ≤ 1)) = true := decide_eq_true (cm_le.mp h3)
        refine z_rcs0 hc hH 2 (pc' := 108) (lv' := [(4, .int (μ.1 0 10)), (3, .int (nI e)), (0, .ref 0), (1, .int 0), (2, .int (nB ow))]) (st' := [.int (nI e), .ref 0]) (by rfl) ?_
        refine zq_pfi hc hH (by rfl) (ci := 5) (f := 9) (by rfl) (by decide +kernel) (by rfl) ?_
        show Z 0 111 [(4, .int (μ.1 0 10)), (3, .int (nI e)), (0, .ref 0), (1, .int 0), (2, .int (nB ow))] [] (z_ui (z_ui (z_ui μ 0 7 0) 0 14 ((μ.1 0 14) + 1)) 0 9 (nI e))
        refine z_rcs0 hc hH 2 (pc' := 114) (lv' := [(4, .int (μ.1 0 10)), (3, .int (nI e)), (0, .ref 0), (1, .int 0), (2, .int (nB ow))]) (st' := [.int (μ.1 0 10), .ref 0]) (by rfl) ?_
        refine zq_pfi hc hH (by rfl) (ci := 5) (f := 10) (by rfl) (by decide +kernel) (by rfl) ?_
        show Z 0 117 [(4, .int (μ.1 0 10)), (3, .int (nI e)), (0, .ref 0), (1, .int 0), (2, .int (nB ow))] [] (z_ui (z_ui (z_ui (z_ui μ 0 7 0) 0 14 ((μ.1 0 14) + 1)) 0 9 (nI e)) 0 10 (μ.1 0 10))
        refine z_rcs0 hc hH 2 (pc' := 119) (lv' := [(4, .int (μ.1 0 10)), (3, .int (nI e)), (0, .ref 0), (1, .int 0), (2, .int (nB ow))]) (st' := [.int (nB ow), .ref 0]) (by rfl) ?_
        refine zq_if hc hH (by rfl) (tg := 126) (by rfl) (fun h4 => ?_) (fun h4 => ?_)
        · have h4 : (ow) = false := nB_z.mp (cm_eq9.mp h4)
          refine z_rcs0 hc hH 1 (pc' := 127) (lv' := [(4, .int (μ.1 0 10)), (3, .int (nI e)), (0, .ref 0), (1, .int 0), (2, .int (nB ow))]) (st' := [.ref 0, .ref 0]) (by rfl) ?_
          refine zq_gfi hc hH (by rfl) (ci := 5) (f := 11) (by rfl) (by decide +kernel) (by rfl) ?_
          refine zV1 (Z := Z) (Eq.trans (ui_k (by first | decide | omega)) (Eq.trans (ui_k (by first | decide | omega)) (Eq.trans (ui_k (by first | decide | omega)) (ui_k (by first | decide | omega))))) ?_
          refine z_rcs0 hc hH 2 (pc' := 132) (lv' := [(4, .int (μ.1 0 10)), (3, .int (nI e)), (0, .ref 0), (1, .int 0), (2, .int (nB ow))]) (st' := [.int ((μ.1 0 11) + 1), .ref 0]) (by rfl) ?_
          refine zq_pfi hc hH (by rfl) (ci := 5) (f := 11) (by rfl) (by decide +kernel) (by rfl) ?_
          show Z 0 135 [(4, .int (μ.1 0 10)), (3, .int (nI e)), (0, .ref 0), (1, .int 0), (2, .int (nB ow))] [] (z_ui (z_ui (z_ui (z_ui (z_ui μ 0 7 0) 0 14 ((μ.1 0 14) + 1)) 0 9 (nI e)) 0 10 (μ.1 0 10)) 0 11 ((μ.1 0 11) + 1))
          exact hr 0 135 _ _ _ none (by decide +kernel) (by rfl) (⟨rfl, (by unfold eH0; simp only [h1, h2, h3, h4, cond_true, cond_false])⟩)
        · have h4 : (ow) = true := nB_n.mp (cn_eq.mp h4)
          refine z_rcs hc hH 2 (pc' := 132) (lv' := [(4, .int (μ.1 0 10)), (3, .int (nI e)), (0, .ref 0), (1, .int 0), (2, .int (nB ow))]) (st' := [.int 0, .ref 0]) (μ' := z_ui (z_ui (z_ui (z_ui μ 0 7 0) 0 14 ((μ.1 0 14) + 1)) 0 9 (nI e)) 0 10 (μ.1 0 10)) (by rfl) ?_
          refine zq_pfi hc hH (by rfl) (ci := 5) (f := 11) (by rfl) (by decide +kernel) (by rfl) ?_
          show Z 0 135 [(4, .int (μ.1 0 10)), (3, .int (nI e)), (0, .ref 0), (1, .int 0), (2, .int (nB ow))] [] (z_ui (z_ui (z_ui (z_ui (z_ui μ 0 7 0) 0 14 ((μ.1 0 14) + 1)) 0 9 (nI e)) 0 10 (μ.1 0 10)) 0 11 0)
          exact hr 0 135 _ _ _ none (by decide +kernel) (by rfl) (⟨rfl, (by unfold eH0; simp only [h1, h2, h3, h4, cond_true, cond_false])⟩)
      · have h3 : (decide ((μ.1 0 10) ≤ 1)) = false := decide_eq_false (cn_le.mp h3)
        refine z_rcs hc hH 2 (pc' := 73) (lv' := [(4, .int (μ.1 0 10)), (3, .int (nI e)), (0, .ref 0), (1, .int 0), (2, .int (nB ow))]) (st' := [.int 1, .ref 0]) (μ' := z_ui (z_ui μ 0 7 0) 0 14 ((μ.1 0 14) + 1)) (by rfl) ?_
        refine zq_pfb hc hH (by rfl) (ci := 5) (f := 13) (by rfl) (by decide +kernel) (by rfl) (by decide) ?_
        show Z 0 76 [(4, .int (μ.1 0 10)), (3, .int (nI e)), (0, .ref 0), (1, .int 0), (2, .int (nB ow))] [] (z_ui (z_ui (z_ui μ 0 7 0) 0 14 ((μ.1 0 14) + 1)) 0 13 1)
        refine z_rcs0 hc hH 2 (pc' := 78) (lv' := [(4, .int (μ.1 0 10)), (3, .int (nI e)), (0, .ref 0), (1, .int 0), (2, .int (nB ow))]) (st' := [.ref 0, .ref 0]) (by rfl) ?_
        refine zq_call hc (z_cx_ok hH (by rfl)) (gc_rich d' (by omega) (z_ui (z_ui (z_ui μ 0 7 0) 0 14 ((μ.1 0 14) + 1)) 0 13 1) b hb) (by decide +kernel) (fun r9 μ9 hq => ?_)
        obtain ⟨hμ9, rfl⟩ := hq
        rw [hμ9]
        clear hμ9 μ9
        show Z 0 81 [(4, .int (μ.1 0 10)), (3, .int (nI e)), (0, .ref 0), (1, .int 0), (2, .int (nB ow))] [.int (nI b), .ref 0] _
        refine zq_call hc (z_cx_ok hH (by rfl)) (gc_at4 d' (by omega) (z_ui (z_ui (z_ui μ 0 7 0) 0 14 ((μ.1 0 14) + 1)) 0 13 1) b hb4) (by decide +kernel) (fun r9 μ9 hq => ?_)
        obtain ⟨hμ9, rfl⟩ := hq
        rw [hμ9]
        clear hμ9 μ9
        show Z 0 84 [(4, .int (μ.1 0 10)), (3, .int (nI e)), (0, .ref 0), (1, .int 0), (2, .int (nB ow))] [.ref (18 + 8 * b)] _
        refine z_rcs0 hc hH 1 (pc' := 85) (lv' := [(4, .int (μ.1 0 10)), (3, .int (nI e)), (0, .ref 0), (1, .int 0), (2, .int (nB ow))]) (st' := [.ref (18 + 8 * b), .ref (18 + 8 * b)]) (by rfl) ?_
        refine zq_gfi hc hH (by rfl) (ci := 1) (f := 4) (by rfl) (sj (P := fun i => okf 79 1 4 (18 + 8 * i)) hb4 (by decide +kernel)) (by rfl) ?_
        refine zV1 (Z := Z) (Eq.trans (ui_o (by first | decide | omega)) (Eq.trans (ui_o (by first | decide | omega)) (ui_o (by first | decide | omega)))) ?_
        refine z_rcs0 hc hH 1 (pc' := 89) (lv' := [(4, .int (μ.1 0 10)), (3, .int (nI e)), (0, .ref 0), (1, .int 0), (2, .int (nB ow))]) (st' := [.ref 0, .int (μ.1 (18 + 8 * b) 4), .ref (18 + 8 * b)]) (by rfl) ?_
        refine zq_gfi hc hH (by rfl) (ci := 5) (f := 12) (by rfl) (by decide +kernel) (by rfl) ?_
        refine zV1 (Z := Z) (Eq.trans (ui_k (by first | decide | omega)) (Eq.trans (ui_k (by first | decide | omega)) (ui_k (by first | decide | omega)))) ?_
        refine z_rcs0 hc hH 3 (pc' := 97) (lv' := [(4, .int (μ.1 0 10)), (3, .int (nI e)), (0, .ref 0), (1, .int 0), (2, .int (nB ow))]) (st' := [.int ((μ.1 (18 + 8 * b) 4) + ((μ.1 0 12) * 1000)), .ref (18 + 8 * b)]) (by rfl) ?_
        refine zq_pfi hc hH (by rfl) (ci := 1) (f := 4) (by rfl) (sj (P := fun i => okf 79 1 4 (18 + 8 * i)) hb4 (by decide +kernel)) (by rfl) ?_
        show Z 0 100 [(4, .int (μ.1 0 10)), (3, .int (nI e)), (0, .ref 0), (1, .int 0), (2, .int (nB ow))] [] (z_ui (z_ui (z_ui (z_ui μ 0 7 0) 0 14 ((μ.1 0 14) + 1)) 0 13 1) (18 + 8 * b) 4 ((μ.1 (18 + 8 * b) 4) + ((μ.1 0 12) * 1000)))
        refine z_rcs0 hc hH 2 (pc' := 102) (lv' := [(4, .int (μ.1 0 10)), (3, .int (nI e)), (0, .ref 0), (1, .int 0), (2, .int (nB ow))]) (st' := [.int 0, .ref 0]) (by rfl) ?_
        refine zq_pfi hc hH (by rfl) (ci := 5) (f := 12) (by rfl) (by decide +kernel) (by rfl) ?_
        show Z 0 105 [(4, .int (μ.1 0 10)), (3, .int (nI e)), (0, .ref 0), (1, .int 0), (2, .int (nB ow))] [] (z_ui (z_ui (z_ui (z_ui (z_ui μ 0 7 0) 0 14 ((μ.1 0 14) + 1)) 0 13 1) (18 + 8 * b) 4 ((μ.1 (18 + 8 * b) 4) + ((μ.1 0 12) * 1000))) 0 12 0)
        exact hr 0 105 _ _ _ none (by decide +kernel) (by rfl) (⟨rfl, (by unfold eH0; simp only [h1, h2, h3, cond_true, cond_false])⟩)
  · have h1 : (decide ((nI e) = 0)) = true := decide_eq_true (cn_ne.mp h1)
    refine z_rcs hc hH 1 (pc' := 44) (lv' := [(3, .int (nI e)), (0, .ref 0), (1, .int 0), (2, .int (nB ow))]) (st' := [.ref 0]) (μ' := z_ui (z_ui μ 0 7 0) 0 14 ((μ.1 0 14) + 1)) (by rfl) ?_
    refine zq_gfi hc hH (by rfl) (ci := 5) (f := 10) (by rfl) (by decide +kernel) (by rfl) ?_
    refine zV1 (Z := Z) (Eq.trans (ui_k (by first | decide | omega)) (ui_k (by first | decide | omega))) ?_
    refine z_rcs0 hc hH 5 (pc' := 59) (lv' := [(4, .int ((μ.1 0 10) + 1)), (3, .int (nI e)), (0, .ref 0), (1, .int 0), (2, .int (nB ow))]) (st' := [.ref 0]) (by rfl) ?_
    refine zq_call hc (z_cx_ok hH (by rfl)) (gc_brk d' (by omega) (z_ui (z_ui μ 0 7 0) 0 14 ((μ.1 0 14) + 1)) bk hbk) (by decide +kernel) (fun r9 μ9 hq => ?_)
    obtain ⟨hμ9, rfl⟩ := hq
    rw [hμ9]
    clear hμ9 μ9
    show Z 0 62 [(4, .int ((μ.1 0 10) + 1)), (3, .int (nI e)), (0, .ref 0), (1, .int 0), (2, .int (nB ow))] [.int (nB bk)] _
    refine zq_if hc hH (by rfl) (tg := 71) (by rfl) (fun h5 => ?_) (fun h5 => ?_)
    · have h5 : (bk) = true := nB_n.mp (cm_ne.mp h5)
      refine z_rcs0 hc hH 2 (pc' := 73) (lv' := [(4, .int ((μ.1 0 10) + 1)), (3, .int (nI e)), (0, .ref 0), (1, .int 0), (2, .int (nB ow))]) (st' := [.int 1, .ref 0]) (by rfl) ?_
      refine zq_pfb hc hH (by rfl) (ci := 5) (f := 13) (by rfl) (by decide +kernel) (by rfl) (by decide) ?_
      show Z 0 76 [(4, .int ((μ.1 0 10) + 1)), (3, .int (nI e)), (0, .ref 0), (1, .int 0), (2, .int (nB ow))] [] (z_ui (z_ui (z_ui μ 0 7 0) 0 14 ((μ.1 0 14) + 1)) 0 13 1)
      refine z_rcs0 hc hH 2 (pc' := 78) (lv' := [(4, .int ((μ.1 0 10) + 1)), (3, .int (nI e)), (0, .ref 0), (1, .int 0), (2, .int (nB ow))]) (st' := [.ref 0, .ref 0]) (by rfl) ?_
      refine zq_call hc (z_cx_ok hH (by rfl)) (gc_rich d' (by omega) (z_ui (z_ui (z_ui μ 0 7 0) 0 14 ((μ.1 0 14) + 1)) 0 13 1) b hb) (by decide +kernel) (fun r9 μ9 hq => ?_)
      obtain ⟨hμ9, rfl⟩ := hq
      rw [hμ9]
      clear hμ9 μ9
      show Z 0 81 [(4, .int ((μ.1 0 10) + 1)), (3, .int (nI e)), (0, .ref 0), (1, .int 0), (2, .int (nB ow))] [.int (nI b), .ref 0] _
      refine zq_call hc (z_cx_ok hH (by rfl)) (gc_at4 d' (by omega) (z_ui (z_ui (z_ui μ 0 7 0) 0 14 ((μ.1 0 14) + 1)) 0 13 1) b hb4) (by decide +kernel) (fun r9 μ9 hq => ?_)
      obtain ⟨hμ9, rfl⟩ := hq
      rw [hμ9]
      clear hμ9 μ9
      show Z 0 84 [(4, .int ((μ.1 0 10) + 1)), (3, .int (nI e)), (0, .ref 0), (1, .int 0), (2, .int (nB ow))] [.ref (18 + 8 * b)] _
      refine z_rcs0 hc hH 1 (pc' := 85) (lv' := [(4, .int ((μ.1 0 10) + 1)), (3, .int (nI e)), (0, .ref 0), (1, .int 0), (2, .int (nB ow))]) (st' := [.ref (18 + 8 * b), .ref (18 + 8 * b)]) (by rfl) ?_
      refine zq_gfi hc hH (by rfl) (ci := 1) (f := 4) (by rfl) (sj (P := fun i => okf 79 1 4 (18 + 8 * i)) hb4 (by decide +kernel)) (by rfl) ?_
      refine zV1 (Z := Z) (Eq.trans (ui_o (by first | decide | omega)) (Eq.trans (ui_o (by first | decide | omega)) (ui_o (by first | decide | omega)))) ?_
      refine z_rcs0 hc hH 1 (pc' := 89) (lv' := [(4, .int ((μ.1 0 10) + 1)), (3, .int (nI e)), (0, .ref 0), (1, .int 0), (2, .int (nB ow))]) (st' := [.ref 0, .int (μ.1 (18 + 8 * b) 4), .ref (18 + 8 * b)]) (by rfl) ?_
      refine zq_gfi hc hH (by rfl) (ci := 5) (f := 12) (by rfl) (by decide +kernel) (by rfl) ?_
      refine zV1 (Z := Z) (Eq.trans (ui_k (by first | decide | omega)) (Eq.trans (ui_k (by first | decide | omega)) (ui_k (by first | decide | omega)))) ?_
      refine z_rcs0 hc hH 3 (pc' := 97) (lv' := [(4, .int ((μ.1 0 10) + 1)), (3, .int (nI e)), (0, .ref 0), (1, .int 0), (2, .int (nB ow))]) (st' := [.int ((μ.1 (18 + 8 * b) 4) + ((μ.1 0 12) * 1000)), .ref (18 + 8 * b)]) (by rfl) ?_
      refine zq_pfi hc hH (by rfl) (ci := 1) (f := 4) (by rfl) (sj (P := fun i => okf 79 1 4 (18 + 8 * i)) hb4 (by decide +kernel)) (by rfl) ?_
      show Z 0 100 [(4, .int ((μ.1 0 10) + 1)), (3, .int (nI e)), (0, .ref 0), (1, .int 0), (2, .int (nB ow))] [] (z_ui (z_ui (z_ui (z_ui μ 0 7 0) 0 14 ((μ.1 0 14) + 1)) 0 13 1) (18 + 8 * b) 4 ((μ.1 (18 + 8 * b) 4) + ((μ.1 0 12) * 1000)))
      refine z_rcs0 hc hH 2 (pc' := 102) (lv' := [(4, .int ((μ.1 0 10) + 1)), (3, .int (nI e)), (0, .ref 0), (1, .int 0), (2, .int (nB ow))]) (st' := [.int 0, .ref 0]) (by rfl) ?_
      refine zq_pfi hc hH (by rfl) (ci := 5) (f := 12) (by rfl) (by decide +kernel) (by rfl) ?_
      show Z 0 105 [(4, .int ((μ.1 0 10) + 1)), (3, .int (nI e)), (0, .ref 0), (1, .int 0), (2, .int (nB ow))] [] (z_ui (z_ui (z_ui (z_ui (z_ui μ 0 7 0) 0 14 ((μ.1 0 14) + 1)) 0 13 1) (18 + 8 * b) 4 ((μ.1 (18 + 8 * b) 4) + ((μ.1 0 12) * 1000))) 0 12 0)
      exact hr 0 105 _ _ _ none (by decide +kernel) (by rfl) (⟨rfl, (by unfold eH0; simp only [h1, h5, cond_true, cond_false])⟩)
    · have h5 : (bk) = false := nB_z.mp (cn_ne.mp h5)
      refine z_rcs hc hH 2 (pc' := 68) (lv' := [(4, .int ((μ.1 0 10) + 1)), (3, .int (nI e)), (0, .ref 0), (1, .int 0), (2, .int (nB ow))]) (st' := [.int 1, .int ((μ.1 0 10) + 1)]) (μ' := z_ui (z_ui μ 0 7 0) 0 14 ((μ.1 0 14) + 1)) (by rfl) ?_
      refine zq_ic hc hH (by rfl) (tg := 106) (by rfl) (fun h6 => ?_) (fun h6 => ?_)
      · have h6 : (decide (((μ.1 0 10) + 1) ≤ 1)) = true := decide_eq_true (cm_le.mp h6)
        refine z_rcs0 hc hH 2 (pc' := 108) (lv' := [(4, .int ((μ.1 0 10) + 1)), (3, .int (nI e)), (0, .ref 0), (1, .int 0), (2, .int (nB ow))]) (st' := [.int (nI e), .ref 0]) (by rfl) ?_
        refine zq_pfi hc hH (by rfl) (ci := 5) (f := 9) (by rfl) (by decide +kernel) (by rfl) ?_
        show Z 0 111 [(4, .int ((μ.1 0 10) + 1)), (3, .int (nI e)), (0, .ref 0), (1, .int 0), (2, .int (nB ow))] [] (z_ui (z_ui (z_ui μ 0 7 0) 0 14 ((μ.1 0 14) + 1)) 0 9 (nI e))
        refine z_rcs0 hc hH 2 (pc' := 114) (lv' := [(4, .int ((μ.1 0 10) + 1)), (3, .int (nI e)), (0, .ref 0), (1, .int 0), (2, .int (nB ow))]) (st' := [.int ((μ.1 0 10) + 1), .ref 0]) (by rfl) ?_
        refine zq_pfi hc hH (by rfl) (ci := 5) (f := 10) (by rfl) (by decide +kernel) (by rfl) ?_
        show Z 0 117 [(4, .int ((μ.1 0 10) + 1)), (3, .int (nI e)), (0, .ref 0), (1, .int 0), (2, .int (nB ow))] [] (z_ui (z_ui (z_ui (z_ui μ 0 7 0) 0 14 ((μ.1 0 14) + 1)) 0 9 (nI e)) 0 10 ((μ.1 0 10) + 1))
        refine z_rcs0 hc hH 2 (pc' := 119) (lv' := [(4, .int ((μ.1 0 10) + 1)), (3, .int (nI e)), (0, .ref 0), (1, .int 0), (2, .int (nB ow))]) (st' := [.int (nB ow), .ref 0]) (by rfl) ?_
        refine zq_if hc hH (by rfl) (tg := 126) (by rfl) (fun h7 => ?_) (fun h7 => ?_)
        · have h7 : (ow) = false := nB_z.mp (cm_eq9.mp h7)
          refine z_rcs0 hc hH 1 (pc' := 127) (lv' := [(4, .int ((μ.1 0 10) + 1)), (3, .int (nI e)), (0, .ref 0), (1, .int 0), (2, .int (nB ow))]) (st' := [.ref 0, .ref 0]) (by rfl) ?_
          refine zq_gfi hc hH (by rfl) (ci := 5) (f := 11) (by rfl) (by decide +kernel) (by rfl) ?_
          refine zV1 (Z := Z) (Eq.trans (ui_k (by first | decide | omega)) (Eq.trans (ui_k (by first | decide | omega)) (Eq.trans (ui_k (by first | decide | omega)) (ui_k (by first | decide | omega))))) ?_
          refine z_rcs0 hc hH 2 (pc' := 132) (lv' := [(4, .int ((μ.1 0 10) + 1)), (3, .int (nI e)), (0, .ref 0), (1, .int 0), (2, .int (nB ow))]) (st' := [.int ((μ.1 0 11) + 1), .ref 0]) (by rfl) ?_
          refine zq_pfi hc hH (by rfl) (ci := 5) (f := 11) (by rfl) (by decide +kernel) (by rfl) ?_
          show Z 0 135 [(4, .int ((μ.1 0 10) + 1)), (3, .int (nI e)), (0, .ref 0), (1, .int 0), (2, .int (nB ow))] [] (z_ui (z_ui (z_ui (z_ui (z_ui μ 0 7 0) 0 14 ((μ.1 0 14) + 1)) 0 9 (nI e)) 0 10 ((μ.1 0 10) + 1)) 0 11 ((μ.1 0 11) + 1))
          exact hr 0 135 _ _ _ none (by decide +kernel) (by rfl) (⟨rfl, (by unfold eH0; simp only [h1, h5, h6, h7, cond_true, cond_false])⟩)
        · have h7 : (ow) = true := nB_n.mp (cn_eq.mp h7)
          refine z_rcs hc hH 2 (pc' := 132) (lv' := [(4, .int ((μ.1 0 10) + 1)), (3, .int (nI e)), (0, .ref 0), (1, .int 0), (2, .int (nB ow))]) (st' := [.int 0, .ref 0]) (μ' := z_ui (z_ui (z_ui (z_ui μ 0 7 0) 0 14 ((μ.1 0 14) + 1)) 0 9 (nI e)) 0 10 ((μ.1 0 10) + 1)) (by rfl) ?_
          refine zq_pfi hc hH (by rfl) (ci := 5) (f := 11) (by rfl) (by decide +kernel) (by rfl) ?_
          show Z 0 135 [(4, .int ((μ.1 0 10) + 1)), (3, .int (nI e)), (0, .ref 0), (1, .int 0), (2, .int (nB ow))] [] (z_ui (z_ui (z_ui (z_ui (z_ui μ 0 7 0) 0 14 ((μ.1 0 14) + 1)) 0 9 (nI e)) 0 10 ((μ.1 0 10) + 1)) 0 11 0)
          exact hr 0 135 _ _ _ none (by decide +kernel) (by rfl) (⟨rfl, (by unfold eH0; simp only [h1, h5, h6, h7, cond_true, cond_false])⟩)
      · have h6 : (decide (((μ.1 0 10) + 1) ≤ 1)) = false := decide_eq_false (cn_le.mp h6)
        refine z_rcs hc hH 2 (pc' := 73) (lv' := [(4, .int ((μ.1 0 10) + 1)), (3, .int (nI e)), (0, .ref 0), (1, .int 0), (2, .int (nB ow))]) (st' := [.int 1, .ref 0]) (μ' := z_ui (z_ui μ 0 7 0) 0 14 ((μ.1 0 14) + 1)) (by rfl) ?_
        refine zq_pfb hc hH (by rfl) (ci := 5) (f := 13) (by rfl) (by decide +kernel) (by rfl) (by decide) ?_
        show Z 0 76 [(4, .int ((μ.1 0 10) + 1)), (3, .int (nI e)), (0, .ref 0), (1, .int 0), (2, .int (nB ow))] [] (z_ui (z_ui (z_ui μ 0 7 0) 0 14 ((μ.1 0 14) + 1)) 0 13 1)
        refine z_rcs0 hc hH 2 (pc' := 78) (lv' := [(4, .int ((μ.1 0 10) + 1)), (3, .int (nI e)), (0, .ref 0), (1, .int 0), (2, .int (nB ow))]) (st' := [.ref 0, .ref 0]) (by rfl) ?_
        refine zq_call hc (z_cx_ok hH (by rfl)) (gc_rich d' (by omega) (z_ui (z_ui (z_ui μ 0 7 0) 0 14 ((μ.1 0 14) + 1)) 0 13 1) b hb) (by decide +kernel) (fun r9 μ9 hq => ?_)
        obtain ⟨hμ9, rfl⟩ := hq
        rw [hμ9]
        clear hμ9 μ9
        show Z 0 81 [(4, .int ((μ.1 0 10) + 1)), (3, .int (nI e)), (0, .ref 0), (1, .int 0), (2, .int (nB ow))] [.int (nI b), .ref 0] _
        refine zq_call hc (z_cx_ok hH (by rfl)) (gc_at4 d' (by omega) (z_ui (z_ui (z_ui μ 0 7 0) 0 14 ((μ.1 0 14) + 1)) 0 13 1) b hb4) (by decide +kernel) (fun r9 μ9 hq => ?_)
        obtain ⟨hμ9, rfl⟩ := hq
        rw [hμ9]
        clear hμ9 μ9
        show Z 0 84 [(4, .int ((μ.1 0 10) + 1)), (3, .int (nI e)), (0, .ref 0), (1, .int 0), (2, .int (nB ow))] [.ref (18 + 8 * b)] _
        refine z_rcs0 hc hH 1 (pc' := 85) (lv' := [(4, .int ((μ.1 0 10) + 1)), (3, .int (nI e)), (0, .ref 0), (1, .int 0), (2, .int (nB ow))]) (st' := [.ref (18 + 8 * b), .ref (18 + 8 * b)]) (by rfl) ?_
        refine zq_gfi hc hH (by rfl) (ci := 1) (f := 4) (by rfl) (sj (P := fun i => okf 79 1 4 (18 + 8 * i)) hb4 (by decide +kernel)) (by rfl) ?_
        refine zV1 (Z := Z) (Eq.trans (ui_o (by first | decide | omega)) (Eq.trans (ui_o (by first | decide | omega)) (ui_o (by first | decide | omega)))) ?_
        refine z_rcs0 hc hH 1 (pc' := 89) (lv' := [(4, .int ((μ.1 0 10) + 1)), (3, .int (nI e)), (0, .ref 0), (1, .int 0), (2, .int (nB ow))]) (st' := [.ref 0, .int (μ.1 (18 + 8 * b) 4), .ref (18 + 8 * b)]) (by rfl) ?_
        refine zq_gfi hc hH (by rfl) (ci := 5) (f := 12) (by rfl) (by decide +kernel) (by rfl) ?_
        refine zV1 (Z := Z) (Eq.trans (ui_k (by first | decide | omega)) (Eq.trans (ui_k (by first | decide | omega)) (ui_k (by first | decide | omega)))) ?_
        refine z_rcs0 hc hH 3 (pc' := 97) (lv' := [(4, .int ((μ.1 0 10) + 1)), (3, .int (nI e)), (0, .ref 0), (1, .int 0), (2, .int (nB ow))]) (st' := [.int ((μ.1 (18 + 8 * b) 4) + ((μ.1 0 12) * 1000)), .ref (18 + 8 * b)]) (by rfl) ?_
        refine zq_pfi hc hH (by rfl) (ci := 1) (f := 4) (by rfl) (sj (P := fun i => okf 79 1 4 (18 + 8 * i)) hb4 (by decide +kernel)) (by rfl) ?_
        show Z 0 100 [(4, .int ((μ.1 0 10) + 1)), (3, .int (nI e)), (0, .ref 0), (1, .int 0), (2, .int (nB ow))] [] (z_ui (z_ui (z_ui (z_ui μ 0 7 0) 0 14 ((μ.1 0 14) + 1)) 0 13 1) (18 + 8 * b) 4 ((μ.1 (18 + 8 * b) 4) + ((μ.1 0 12) * 1000)))
        refine z_rcs0 hc hH 2 (pc' := 102) (lv' := [(4, .int ((μ.1 0 10) + 1)), (3, .int (nI e)), (0, .ref 0), (1, .int 0), (2, .int (nB ow))]) (st' := [.int 0, .ref 0]) (by rfl) ?_
        refine zq_pfi hc hH (by rfl) (ci := 5) (f := 12) (by rfl) (by decide +kernel) (by rfl) ?_
        show Z 0 105 [(4, .int ((μ.1 0 10) + 1)), (3, .int (nI e)), (0, .ref 0), (1, .int 0), (2, .int (nB ow))] [] (z_ui (z_ui (z_ui (z_ui (z_ui μ 0 7 0) 0 14 ((μ.1 0 14) + 1)) 0 13 1) (18 + 8 * b) 4 ((μ.1 (18 + 8 * b) 4) + ((μ.1 0 12) * 1000))) 0 12 0)
        exact hr 0 105 _ _ _ none (by decide +kernel) (by rfl) (⟨rfl, (by unfold eH0; simp only [h1, h5, h6, cond_true, cond_false])⟩)
noncomputable def eH1 (μ : zM) (ow bk : Bool) (dl e b : Nat) : zM := (bif bk then z_ui (z_ui (z_ui (z_ui (z_ui μ 0 7 0) 0 14 ((μ.1 0 14) + 1)) 0 13 1) (18 + 8 * b) 4 ((μ.1 (18 + 8 * b) 4) + ((μ.1 0 12) * 1000))) 0 12 0 else (bif decide ((μ.1 0 10) ≤ 1) then (bif ow then z_ui (z_ui (z_ui (z_ui (z_ui μ 0 7 0) 0 14 ((μ.1 0 14) + 1)) 0 9 (nI dl)) 0 10 (μ.1 0 10)) 0 11 0 else z_ui (z_ui (z_ui (z_ui (z_ui μ 0 7 0) 0 14 ((μ.1 0 14) + 1)) 0 9 (nI dl)) 0 10 (μ.1 0 10)) 0 11 ((μ.1 0 11) + 1)) else z_ui (z_ui (z_ui (z_ui (z_ui μ 0 7 0) 0 14 ((μ.1 0 14) + 1)) 0 13 1) (18 + 8 * b) 4 ((μ.1 (18 + 8 * b) 4) + ((μ.1 0 12) * 1000))) 0 12 0))
theorem gc_endHand1 (d : Nat) (hd : 3 ≤ d) (μ : zM) (ow bk : Bool) (dl e b : Nat) (hbk : xBk μ = bk) (hdl : μ.1 0 9 = nI dl) (hdl4 : dl < 4) (he : (dl + 1) % 4 = e) (hb4 : b < 4) (hb : rcM μ = b) : z_C d mi_X6_endHand [.ref 0, .int 1, .int (nB ow)] μ (fun r μ' => r = none ∧ μ' = eH1 μ ow bk dl e b) := by
  refine z_C_in (by decide) (by omega) (fun d' Z ed hc hr => ?_)
  have hH : zH mi_X6_endHand zt_X6_endHand 79 6 5 := hh_X6_endHand
  refine z_rcs hc hH 2 (pc' := 2) (lv' := [(0, .ref 0), (1, .int 1), (2, .int (nB ow))]) (st' := [.int 0, .ref 0]) (μ' := μ) (by rfl) ?_
  refine zq_pfi hc hH (by rfl) (ci := 5) (f := 7) (by rfl) (by decide +kernel) (by rfl) ?_
  show Z 0 5 [(0, .ref 0), (1, .int 1), (2, .int (nB ow))] [] (z_ui μ 0 7 0)
  refine z_rcs hc hH 2 (pc' := 7) (lv' := [(0, .ref 0), (1, .int 1), (2, .int (nB ow))]) (st' := [.ref 0, .ref 0]) (μ' := z_ui μ 0 7 0) (by rfl) ?_
  refine zq_gfi hc hH (by rfl) (ci := 5) (f := 14) (by rfl) (by decide +kernel) (by rfl) ?_
  refine zV1 (Z := Z) (ui_k (by first | decide | omega)) ?_
  refine z_rcs hc hH 2 (pc' := 12) (lv' := [(0, .ref 0), (1, .int 1), (2, .int (nB ow))]) (st' := [.int ((μ.1 0 14) + 1), .ref 0]) (μ' := z_ui μ 0 7 0) (by rfl) ?_
  refine zq_pfi hc hH (by rfl) (ci := 5) (f := 14) (by rfl) (by decide +kernel) (by rfl) ?_
  show Z 0 15 [(0, .ref 0), (1, .int 1), (2, .int (nB ow))] [] (z_ui (z_ui μ 0 7 0) 0 14 ((μ.1 0 14) + 1))
  refine z_rcs0 hc hH 3 (pc' := 20) (lv' := [(0, .ref 0), (1, .int 1), (2, .int (nB ow))]) (st' := [.ref 0]) (by rfl) ?_
  refine zq_gfi hc hH (by rfl) (ci := 5) (f := 9) (by rfl) (by decide +kernel) (by rfl) ?_
  refine zV1 (Z := Z) (Eq.trans (ui_k (by first | decide | omega)) (ui_k (by first | decide | omega))) ?_
  rw [hdl]
  refine z_rcs0 hc hH 5 (pc' := 53) (lv' := [(3, .int (nI dl)), (0, .ref 0), (1, .int 1), (2, .int (nB ow))]) (st' := [.ref 0]) (by rfl) ?_
  refine zq_gfi hc hH (by rfl) (ci := 5) (f := 10) (by rfl) (by decide +kernel) (by rfl) ?_
  refine zV1 (Z := Z) (Eq.trans (ui_k (by first | decide | omega)) (ui_k (by first | decide | omega))) ?_
  refine z_rcs0 hc hH 2 (pc' := 59) (lv' := [(4, .int (μ.1 0 10)), (3, .int (nI dl)), (0, .ref 0), (1, .int 1), (2, .int (nB ow))]) (st' := [.ref 0]) (by rfl) ?_
  refine zq_call hc (z_cx_ok hH (by rfl)) (gc_brk d' (by omega) (z_ui (z_ui μ 0 7 0) 0 14 ((μ.1 0 14) + 1)) bk hbk) (by decide +kernel) (fun r9 μ9 hq => ?_)
  obtain ⟨hμ9, rfl⟩ := hq
  rw [hμ9]
  clear hμ9 μ9
  show Z 0 62 [(4, .int (μ.1 0 10)), (3, .int (nI dl)), (0, .ref 0), (1, .int 1), (2, .int (nB ow))] [.int (nB bk)] _
  refine zq_if hc hH (by rfl) (tg := 71) (by rfl) (fun h1 => ?_) (fun h1 => ?_)
  · have h1 : (bk) = true := nB_n.mp (cm_ne.mp h1)
    refine z_rcs0 hc hH 2 (pc' := 73) (lv' := [(4, .int (μ.1 0 10)), (3, .int (nI dl)), (0, .ref 0), (1, .int 1), (2, .int (nB ow))]) (st' := [.int 1, .ref 0]) (by rfl) ?_
    refine zq_pfb hc hH (by rfl) (ci := 5) (f := 13) (by rfl) (by decide +kernel) (by rfl) (by decide) ?_
    show Z 0 76 [(4, .int (μ.1 0 10)), (3, .int (nI dl)), (0, .ref 0), (1, .int 1), (2, .int (nB ow))] [] (z_ui (z_ui (z_ui μ 0 7 0) 0 14 ((μ.1 0 14) + 1)) 0 13 1)
    refine z_rcs0 hc hH 2 (pc' := 78) (lv' := [(4, .int (μ.1 0 10)), (3, .int (nI dl)), (0, .ref 0), (1, .int 1), (2, .int (nB ow))]) (st' := [.ref 0, .ref 0]) (by rfl) ?_
    refine zq_call hc (z_cx_ok hH (by rfl)) (gc_rich d' (by omega) (z_ui (z_ui (z_ui μ 0 7 0) 0 14 ((μ.1 0 14) + 1)) 0 13 1) b hb) (by decide +kernel) (fun r9 μ9 hq => ?_)
    obtain ⟨hμ9, rfl⟩ := hq
    rw [hμ9]
    clear hμ9 μ9
    show Z 0 81 [(4, .int (μ.1 0 10)), (3, .int (nI dl)), (0, .ref 0), (1, .int 1), (2, .int (nB ow))] [.int (nI b), .ref 0] _
    refine zq_call hc (z_cx_ok hH (by rfl)) (gc_at4 d' (by omega) (z_ui (z_ui (z_ui μ 0 7 0) 0 14 ((μ.1 0 14) + 1)) 0 13 1) b hb4) (by decide +kernel) (fun r9 μ9 hq => ?_)
    obtain ⟨hμ9, rfl⟩ := hq
    rw [hμ9]
    clear hμ9 μ9
    show Z 0 84 [(4, .int (μ.1 0 10)), (3, .int (nI dl)), (0, .ref 0), (1, .int 1), (2, .int (nB ow))] [.ref (18 + 8 * b)] _
    refine z_rcs0 hc hH 1 (pc' := 85) (lv' := [(4, .int (μ.1 0 10)), (3, .int (nI dl)), (0, .ref 0), (1, .int 1), (2, .int (nB ow))]) (st' := [.ref (18 + 8 * b), .ref (18 + 8 * b)]) (by rfl) ?_
    refine zq_gfi hc hH (by rfl) (ci := 1) (f := 4) (by rfl) (sj (P := fun i => okf 79 1 4 (18 + 8 * i)) hb4 (by decide +kernel)) (by rfl) ?_
    refine zV1 (Z := Z) (Eq.trans (ui_o (by first | decide | omega)) (Eq.trans (ui_o (by first | decide | omega)) (ui_o (by first | decide | omega)))) ?_
    refine z_rcs0 hc hH 1 (pc' := 89) (lv' := [(4, .int (μ.1 0 10)), (3, .int (nI dl)), (0, .ref 0), (1, .int 1), (2, .int (nB ow))]) (st' := [.ref 0, .int (μ.1 (18 + 8 * b) 4), .ref (18 + 8 * b)]) (by rfl) ?_
    refine zq_gfi hc hH (by rfl) (ci := 5) (f := 12) (by rfl) (by decide +kernel) (by rfl) ?_
    refine zV1 (Z := Z) (Eq.trans (ui_k (by first | decide | omega)) (Eq.trans (ui_k (by first | decide | omega)) (ui_k (by first | decide | omega)))) ?_
    refine z_rcs0 hc hH 3 (pc' := 97) (lv' := [(4, .int (μ.1 0 10)), (3, .int (nI dl)), (0, .ref 0), (1, .int 1), (2, .int (nB ow))]) (st' := [.int ((μ.1 (18 + 8 * b) 4) + ((μ.1 0 12) * 1000)), .ref (18 + 8 * b)]) (by rfl) ?_
    refine zq_pfi hc hH (by rfl) (ci := 1) (f := 4) (by rfl) (sj (P := fun i => okf 79 1 4 (18 + 8 * i)) hb4 (by decide +kernel)) (by rfl) ?_
    show Z 0 100 [(4, .int (μ.1 0 10)), (3, .int (nI dl)), (0, .ref 0), (1, .int 1), (2, .int (nB ow))] [] (z_ui (z_ui (z_ui (z_ui μ 0 7 0) 0 14 ((μ.1 0 14) + 1)) 0 13 1) (18 + 8 * b) 4 ((μ.1 (18 + 8 * b) 4) + ((μ.1 0 12) * 1000)))
    refine z_rcs0 hc hH 2 (pc' := 102) (lv' := [(4, .int (μ.1 0 10)), (3, .int (nI dl)), (0, .ref 0), (1, .int 1), (2, .int (nB ow))]) (st' := [.int 0, .ref 0]) (by rfl) ?_
    refine zq_pfi hc hH (by rfl) (ci := 5) (f := 12) (by rfl) (by decide +kernel) (by rfl) ?_
    show Z 0 105 [(4, .int (μ.1 0 10)), (3, .int (nI dl)), (0, .ref 0), (1, .int 1), (2, .int (nB ow))] [] (z_ui (z_ui (z_ui (z_ui (z_ui μ 0 7 0) 0 14 ((μ.1 0 14) + 1)) 0 13 1) (18 + 8 * b) 4 ((μ.1 (18 + 8 * b) 4) + ((μ.1 0 12) * 1000))) 0 12 0)
    exact hr 0 105 _ _ _ none (by decide +kernel) (by rfl) (⟨rfl, (by unfold eH1; simp only [h1, cond_true, cond_false])⟩)
  · have h1 : (bk) = false := nB_z.mp (cn_ne.mp h1)
    refine z_rcs hc hH 2 (pc' := 68) (lv' := [(4, .int (μ.1 0 10)), (3, .int (nI dl)), (0, .ref 0), (1, .int 1), (2, .int (nB ow))]) (st' := [.int 1, .int (μ.1 0 10)]) (μ' := z_ui (z_ui μ 0 7 0) 0 14 ((μ.1 0 14) + 1)) (by rfl) ?_
    refine zq_ic hc hH (by rfl) (tg := 106) (by rfl) (fun h2 => ?_) (fun h2 => ?_)
    · have h2 : (decide ((μ.1 0 10) ≤ 1)) = true := decide_eq_true (cm_le.mp h2)
      refine z_rcs0 hc hH 2 (pc' := 108) (lv' := [(4, .int (μ.1 0 10)), (3, .int (nI dl)), (0, .ref 0), (1, .int 1), (2, .int (nB ow))]) (st' := [.int (nI dl), .ref 0]) (by rfl) ?_
      refine zq_pfi hc hH (by rfl) (ci := 5) (f := 9) (by rfl) (by decide +kernel) (by rfl) ?_
      show Z 0 111 [(4, .int (μ.1 0 10)), (3, .int (nI dl)), (0, .ref 0), (1, .int 1), (2, .int (nB ow))] [] (z_ui (z_ui (z_ui μ 0 7 0) 0 14 ((μ.1 0 14) + 1)) 0 9 (nI dl))
      refine z_rcs0 hc hH 2 (pc' := 114) (lv' := [(4, .int (μ.1 0 10)), (3, .int (nI dl)), (0, .ref 0), (1, .int 1), (2, .int (nB ow))]) (st' := [.int (μ.1 0 10), .ref 0]) (by rfl) ?_
      refine zq_pfi hc hH (by rfl) (ci := 5) (f := 10) (by rfl) (by decide +kernel) (by rfl) ?_
      show Z 0 117 [(4, .int (μ.1 0 10)), (3, .int (nI dl)), (0, .ref 0), (1, .int 1), (2, .int (nB ow))] [] (z_ui (z_ui (z_ui (z_ui μ 0 7 0) 0 14 ((μ.1 0 14) + 1)) 0 9 (nI dl)) 0 10 (μ.1 0 10))
      refine z_rcs0 hc hH 2 (pc' := 119) (lv' := [(4, .int (μ.1 0 10)), (3, .int (nI dl)), (0, .ref 0), (1, .int 1), (2, .int (nB ow))]) (st' := [.int (nB ow), .ref 0]) (by rfl) ?_
      refine zq_if hc hH (by rfl) (tg := 126) (by rfl) (fun h3 => ?_) (fun h3 => ?_)
      · have h3 : (ow) = false := nB_z.mp (cm_eq9.mp h3)
        refine z_rcs0 hc hH 1 (pc' := 127) (lv' := [(4, .int (μ.1 0 10)), (3, .int (nI dl)), (0, .ref 0), (1, .int 1), (2, .int (nB ow))]) (st' := [.ref 0, .ref 0]) (by rfl) ?_
        refine zq_gfi hc hH (by rfl) (ci := 5) (f := 11) (by rfl) (by decide +kernel) (by rfl) ?_
        refine zV1 (Z := Z) (Eq.trans (ui_k (by first | decide | omega)) (Eq.trans (ui_k (by first | decide | omega)) (Eq.trans (ui_k (by first | decide | omega)) (ui_k (by first | decide | omega))))) ?_
        refine z_rcs0 hc hH 2 (pc' := 132) (lv' := [(4, .int (μ.1 0 10)), (3, .int (nI dl)), (0, .ref 0), (1, .int 1), (2, .int (nB ow))]) (st' := [.int ((μ.1 0 11) + 1), .ref 0]) (by rfl) ?_
        refine zq_pfi hc hH (by rfl) (ci := 5) (f := 11) (by rfl) (by decide +kernel) (by rfl) ?_
        show Z 0 135 [(4, .int (μ.1 0 10)), (3, .int (nI dl)), (0, .ref 0), (1, .int 1), (2, .int (nB ow))] [] (z_ui (z_ui (z_ui (z_ui (z_ui μ 0 7 0) 0 14 ((μ.1 0 14) + 1)) 0 9 (nI dl)) 0 10 (μ.1 0 10)) 0 11 ((μ.1 0 11) + 1))
        exact hr 0 135 _ _ _ none (by decide +kernel) (by rfl) (⟨rfl, (by unfold eH1; simp only [h1, h2, h3, cond_true, cond_false])⟩)
      · have h3 : (ow) = true := nB_n.mp (cn_eq.mp h3)
        refine z_rcs hc hH 2 (pc' := 132) (lv' := [(4, .int (μ.1 0 10)), (3, .int (nI dl)), (0, .ref 0), (1, .int 1), (2, .int (nB ow))]) (st' := [.int 0, .ref 0]) (μ' := z_ui (z_ui (z_ui (z_ui μ 0 7 0) 0 14 ((μ.1 0 14) + 1)) 0 9 (nI dl)) 0 10 (μ.1 0 10)) (by rfl) ?_
        refine zq_pfi hc hH (by rfl) (ci := 5) (f := 11) (by rfl) (by decide +kernel) (by rfl) ?_
        show Z 0 135 [(4, .int (μ.1 0 10)), (3, .int (nI dl)), (0, .ref 0), (1, .int 1), (2, .int (nB ow))] [] (z_ui (z_ui (z_ui (z_ui (z_ui μ 0 7 0) 0 14 ((μ.1 0 14) + 1)) 0 9 (nI dl)) 0 10 (μ.1 0 10)) 0 11 0)
        exact hr 0 135 _ _ _ none (by decide +kernel) (by rfl) (⟨rfl, (by unfold eH1; simp only [h1, h2, h3, cond_true, cond_false])⟩)
    · have h2 : (decide ((μ.1 0 10) ≤ 1)) = false := decide_eq_false (cn_le.mp h2)
      refine z_rcs hc hH 2 (pc' := 73) (lv' := [(4, .int (μ.1 0 10)), (3, .int (nI dl)), (0, .ref 0), (1, .int 1), (2, .int (nB ow))]) (st' := [.int 1, .ref 0]) (μ' := z_ui (z_ui μ 0 7 0) 0 14 ((μ.1 0 14) + 1)) (by rfl) ?_
      refine zq_pfb hc hH (by rfl) (ci := 5) (f := 13) (by rfl) (by decide +kernel) (by rfl) (by decide) ?_
      show Z 0 76 [(4, .int (μ.1 0 10)), (3, .int (nI dl)), (0, .ref 0), (1, .int 1), (2, .int (nB ow))] [] (z_ui (z_ui (z_ui μ 0 7 0) 0 14 ((μ.1 0 14) + 1)) 0 13 1)
      refine z_rcs0 hc hH 2 (pc' := 78) (lv' := [(4, .int (μ.1 0 10)), (3, .int (nI dl)), (0, .ref 0), (1, .int 1), (2, .int (nB ow))]) (st' := [.ref 0, .ref 0]) (by rfl) ?_
      refine zq_call hc (z_cx_ok hH (by rfl)) (gc_rich d' (by omega) (z_ui (z_ui (z_ui μ 0 7 0) 0 14 ((μ.1 0 14) + 1)) 0 13 1) b hb) (by decide +kernel) (fun r9 μ9 hq => ?_)
      obtain ⟨hμ9, rfl⟩ := hq
      rw [hμ9]
      clear hμ9 μ9
      show Z 0 81 [(4, .int (μ.1 0 10)), (3, .int (nI dl)), (0, .ref 0), (1, .int 1), (2, .int (nB ow))] [.int (nI b), .ref 0] _
      refine zq_call hc (z_cx_ok hH (by rfl)) (gc_at4 d' (by omega) (z_ui (z_ui (z_ui μ 0 7 0) 0 14 ((μ.1 0 14) + 1)) 0 13 1) b hb4) (by decide +kernel) (fun r9 μ9 hq => ?_)
      obtain ⟨hμ9, rfl⟩ := hq
      rw [hμ9]
      clear hμ9 μ9
      show Z 0 84 [(4, .int (μ.1 0 10)), (3, .int (nI dl)), (0, .ref 0), (1, .int 1), (2, .int (nB ow))] [.ref (18 + 8 * b)] _
      refine z_rcs0 hc hH 1 (pc' := 85) (lv' := [(4, .int (μ.1 0 10)), (3, .int (nI dl)), (0, .ref 0), (1, .int 1), (2, .int (nB ow))]) (st' := [.ref (18 + 8 * b), .ref (18 + 8 * b)]) (by rfl) ?_
      refine zq_gfi hc hH (by rfl) (ci := 1) (f := 4) (by rfl) (sj (P := fun i => okf 79 1 4 (18 + 8 * i)) hb4 (by decide +kernel)) (by rfl) ?_
      refine zV1 (Z := Z) (Eq.trans (ui_o (by first | decide | omega)) (Eq.trans (ui_o (by first | decide | omega)) (ui_o (by first | decide | omega)))) ?_
      refine z_rcs0 hc hH 1 (pc' := 89) (lv' := [(4, .int (μ.1 0 10)), (3, .int (nI dl)), (0, .ref 0), (1, .int 1), (2, .int (nB ow))]) (st' := [.ref 0, .int (μ.1 (18 + 8 * b) 4), .ref (18 + 8 * b)]) (by rfl) ?_
      refine zq_gfi hc hH (by rfl) (ci := 5) (f := 12) (by rfl) (by decide +kernel) (by rfl) ?_
      refine zV1 (Z := Z) (Eq.trans (ui_k (by first | decide | omega)) (Eq.trans (ui_k (by first | decide | omega)) (ui_k (by first | decide | omega)))) ?_
      refine z_rcs0 hc hH 3 (pc' := 97) (lv' := [(4, .int (μ.1 0 10)), (3, .int (nI dl)), (0, .ref 0), (1, .int 1), (2, .int (nB ow))]) (st' := [.int ((μ.1 (18 + 8 * b) 4) + ((μ.1 0 12) * 1000)), .ref (18 + 8 * b)]) (by rfl) ?_
      refine zq_pfi hc hH (by rfl) (ci := 1) (f := 4) (by rfl) (sj (P := fun i => okf 79 1 4 (18 + 8 * i)) hb4 (by decide +kernel)) (by rfl) ?_
      show Z 0 100 [(4, .int (μ.1 0 10)), (3, .int (nI dl)), (0, .ref 0), (1, .int 1), (2, .int (nB ow))] [] (z_ui (z_ui (z_ui (z_ui μ 0 7 0) 0 14 ((μ.1 0 14) + 1)) 0 13 1) (18 + 8 * b) 4 ((μ.1 (18 + 8 * b) 4) + ((μ.1 0 12) * 1000)))
      refine z_rcs0 hc hH 2 (pc' := 102) (lv' := [(4, .int (μ.1 0 10)), (3, .int (nI dl)), (0, .ref 0), (1, .int 1), (2, .int (nB ow))]) (st' := [.int 0, .ref 0]) (by rfl) ?_
      refine zq_pfi hc hH (by rfl) (ci := 5) (f := 12) (by rfl) (by decide +kernel) (by rfl) ?_
      show Z 0 105 [(4, .int (μ.1 0 10)), (3, .int (nI dl)), (0, .ref 0), (1, .int 1), (2, .int (nB ow))] [] (z_ui (z_ui (z_ui (z_ui (z_ui μ 0 7 0) 0 14 ((μ.1 0 14) + 1)) 0 13 1) (18 + 8 * b) 4 ((μ.1 (18 + 8 * b) 4) + ((μ.1 0 12) * 1000))) 0 12 0)
      exact hr 0 105 _ _ _ none (by decide +kernel) (by rfl) (⟨rfl, (by unfold eH1; simp only [h1, h2, cond_true, cond_false])⟩)
/-! the game: discard, hide, four, three of the class, exactly -/
set_option maxRecDepth 8000
theorem gc_discard (d : Nat) (hd : 10 ≤ d) (μ : zM) (t : Nat) (ht4 : t < 4) (ht : μ.1 0 8 = nI t) (k q : Nat) (hk : k < 34) (hq : q < 86) (e2 : μ.1 (18 + 8 * t) 2 = nI q) (bt : Bool) (mt : Bool) (hmt : ∀ d, 3 ≤ d → z_C d mi_X6_mayThrow [.ref 0, .int (nI k)] μ (zR μ (.int (nB mt)))) (mb : Bool) (hmb : ∀ d, 8 ≤ d → z_C d mi_X6_mayBet [.ref 0, .ref (18 + 8 * t)] (pS μ t k (-1)) (zR (pS μ t k (-1)) (.int (nB mb)))) : z_C d mi_X6_discard [.ref 0, .int (nI k), .int (nB bt)] μ (fun r μ' => r = some ((bif decide ((μ.1 0 7) = 1) then (bif mt then (bif bt then (bif mb then .int 1 else .int 0) else .int 1) else .int 0) else .int 0)) ∧ μ' = (bif decide ((μ.1 0 7) = 1) then (bif mt then (bif bt then (bif mb then z_ui (z_uj (z_ui (tT (z_ui (z_ui (z_ui (pS μ t k (-1)) (18 + 8 * t) 5 (bif decide ((μ.1 (18 + 8 * t) 2) = 0) then bif decide ((μ.1 0 17) = 0) then (2 : Int32) else 1 else 1)) (18 + 8 * t) 6 (nB bt)) (18 + 8 * t) 7 (nB bt)) t k q) 0 15 (nI k)) 0 18 0) 0 7 2 else pS (pS μ t k (-1)) t k 1) else z_ui (z_uj (z_ui (tT (z_ui (z_ui (pS μ t k (-1)) (18 + 8 * t) 6 (nB bt)) (18 + 8 * t) 7 (nB bt)) t k q) 0 15 (nI k)) 0 18 0) 0 7 2) else μ) else μ)) := by
  refine z_C_in (by decide) (by omega) (fun d' Z ed hc hr => ?_)
  have hH : zH mi_X6_discard zt_X6_discard 79 6 4 := hh_X6_discard
  refine z_rcs hc hH 1 (pc' := 1) (lv' := [(0, .ref 0), (1, .int (nI k)), (2, .int (nB bt))]) (st' := [.ref 0]) (μ' := μ) (by rfl) ?_
  refine zq_gfi hc hH (by rfl) (ci := 5) (f := 7) (by rfl) (by decide +kernel) (by rfl) ?_
  refine z_rcs hc hH 1 (pc' := 5) (lv' := [(0, .ref 0), (1, .int (nI k)), (2, .int (nB bt))]) (st' := [.int 1, .int (μ.1 0 7)]) (μ' := μ) (by rfl) ?_
  refine zq_ic hc hH (by rfl) (tg := 16) (by rfl) (fun h1 => ?_) (fun h1 => ?_)
  · have h1 : (decide ((μ.1 0 7) = 1)) = false := decide_eq_false (cm_ne.mp h1)
    refine z_rcs hc hH 1 (pc' := 17) (lv' := [(0, .ref 0), (1, .int (nI k)), (2, .int (nB bt))]) (st' := [.int 0]) (μ' := μ) (by rfl) ?_
    exact hr 0 17 _ _ _ (some (.int 0)) (by decide +kernel) (z_rx_ok hH (by rfl)) (⟨(by first | with_reducible rfl | (simp only [h1, cond_true, cond_false]; done) | rfl), (by simp only [h1, cond_true, cond_false])⟩)
  · have h1 : (decide ((μ.1 0 7) = 1)) = true := decide_eq_true (cn_ne.mp h1)
    refine z_rcs hc hH 2 (pc' := 10) (lv' := [(0, .ref 0), (1, .int (nI k)), (2, .int (nB bt))]) (st' := [.int (nI k), .ref 0]) (μ' := μ) (by rfl) ?_
    refine zq_call hc (z_cx_ok hH (by rfl)) (hmt d' (by omega)) (by decide +kernel) (fun r9 μ9 hq => ?_)
    obtain ⟨hμ9, rfl⟩ := hq
    rw [hμ9]
    clear hμ9 μ9
    show Z 0 13 [(0, .ref 0), (1, .int (nI k)), (2, .int (nB bt))] [.int (nB mt)] μ
    refine zq_if hc hH (by rfl) (tg := 18) (by rfl) (fun h2 => ?_) (fun h2 => ?_)
    · have h2 : (mt) = true := nB_n.mp (cm_ne.mp h2)
      refine z_rcs hc hH 2 (pc' := 20) (lv' := [(0, .ref 0), (1, .int (nI k)), (2, .int (nB bt))]) (st' := [.ref 0, .ref 0]) (μ' := μ) (by rfl) ?_
      refine zq_gfi hc hH (by rfl) (ci := 5) (f := 8) (by rfl) (by decide +kernel) (by rfl) ?_
      rw [ht]
      refine zq_call hc (z_cx_ok hH (by rfl)) (gc_at4 d' (by omega) μ t ht4) (by decide +kernel) (fun r9 μ9 hq => ?_)
      obtain ⟨hμ9, rfl⟩ := hq
      rw [hμ9]
      clear hμ9 μ9
      show Z 0 26 [(0, .ref 0), (1, .int (nI k)), (2, .int (nB bt))] [.ref (18 + 8 * t)] μ
      refine z_rcs hc hH 2 (pc' := 28) (lv' := [(3, .ref (18 + 8 * t)), (0, .ref 0), (1, .int (nI k)), (2, .int (nB bt))]) (st' := [.ref (18 + 8 * t)]) (μ' := μ) (by rfl) ?_
      refine zq_gfr hc hH (by rfl) (ci := 1) (f := 0) (q := 19 + 8 * t) (by rfl) (sj (P := fun i => okf 79 1 0 (18 + 8 * i)) ht4 (by decide +kernel)) (by rfl) (sj (P := fun i => Nat.beq (z_gr (18 + 8 * i) 0) (19 + 8 * i)) ht4 (by decide +kernel)) ?_
      refine z_rcs hc hH 2 (pc' := 33) (lv' := [(3, .ref (18 + 8 * t)), (0, .ref 0), (1, .int (nI k)), (2, .int (nB bt))]) (st' := [.int 1, .int (nI k), .ref (19 + 8 * t)]) (μ' := μ) (by rfl) ?_
      refine zq_call hc (z_clv9 hH (by rfl) (by rfl) (by rfl) (by rfl) (sj (P := fun i => okr 79 2 (19 + 8 * i)) ht4 (by decide +kernel)) (by rfl) (by rfl)) (gc_take d' (by omega) μ t ht4 k hk 1) (by decide +kernel) (fun r9 μ9 hq => ?_)
      obtain ⟨rfl, rfl⟩ := hq
      show Z 0 36 [(3, .ref (18 + 8 * t)), (0, .ref 0), (1, .int (nI k)), (2, .int (nB bt))] [] (pS μ t k (-1))
      refine z_rcs hc hH 1 (pc' := 37) (lv' := [(3, .ref (18 + 8 * t)), (0, .ref 0), (1, .int (nI k)), (2, .int (nB bt))]) (st' := [.int (nB bt)]) (μ' := pS μ t k (-1)) (by rfl) ?_
      refine zq_if hc hH (by rfl) (tg := 59) (by rfl) (fun h3 => ?_) (fun h3 => ?_)
      · have h3 : (bt) = false := nB_z.mp (cm_eq9.mp h3)
        refine z_rcs hc hH 1 (pc' := 60) (lv' := [(3, .ref (18 + 8 * t)), (0, .ref 0), (1, .int (nI k)), (2, .int (nB bt))]) (st' := [.int (nB bt)]) (μ' := pS μ t k (-1)) (by rfl) ?_
        refine zq_if hc hH (by rfl) (tg := 86) (by rfl) (fun h4 => ?_) (fun h4 => ?_)
        · have h4 : (bt) = false := nB_z.mp (cm_eq9.mp h4)
          refine z_rcs hc hH 2 (pc' := 88) (lv' := [(3, .ref (18 + 8 * t)), (0, .ref 0), (1, .int (nI k)), (2, .int (nB bt))]) (st' := [.int (nB bt), .ref (18 + 8 * t)]) (μ' := pS μ t k (-1)) (by rfl) ?_
          refine zq_pfb hc hH (by rfl) (ci := 1) (f := 6) (by rfl) (sj (P := fun i => okf 79 1 6 (18 + 8 * i)) ht4 (by decide +kernel)) (by rfl) ((fun b : Bool => (by cases b <;> rfl : z_b01 (nB b) = true)) bt) ?_
          show Z 0 91 [(3, .ref (18 + 8 * t)), (0, .ref 0), (1, .int (nI k)), (2, .int (nB bt))] [] (z_ui (pS μ t k (-1)) (18 + 8 * t) 6 (nB bt))
          refine z_rcs0 hc hH 2 (pc' := 93) (lv' := [(3, .ref (18 + 8 * t)), (0, .ref 0), (1, .int (nI k)), (2, .int (nB bt))]) (st' := [.int (nB bt), .ref (18 + 8 * t)]) (by rfl) ?_
          refine zq_pfb hc hH (by rfl) (ci := 1) (f := 7) (by rfl) (sj (P := fun i => okf 79 1 7 (18 + 8 * i)) ht4 (by decide +kernel)) (by rfl) ((fun b : Bool => (by cases b <;> rfl : z_b01 (nB b) = true)) bt) ?_
          show Z 0 96 [(3, .ref (18 + 8 * t)), (0, .ref 0), (1, .int (nI k)), (2, .int (nB bt))] [] (z_ui (z_ui (pS μ t k (-1)) (18 + 8 * t) 6 (nB bt)) (18 + 8 * t) 7 (nB bt))
          refine z_rcs0 hc hH 2 (pc' := 98) (lv' := [(3, .ref (18 + 8 * t)), (0, .ref 0), (1, .int (nI k)), (2, .int (nB bt))]) (st' := [.int (nI k), .ref (18 + 8 * t)]) (by rfl) ?_
          refine zq_call hc (z_clv9 hH (by rfl) (by rfl) (by rfl) (by rfl) (sj (P := fun i => okr 79 1 (18 + 8 * i)) ht4 (by decide +kernel)) (by rfl) (by rfl)) (gc_throwTile d' (by omega) (z_ui (z_ui (pS μ t k (-1)) (18 + 8 * t) 6 (nB bt)) (18 + 8 * t) 7 (nB bt)) t ht4 k q hk hq (by rw [ui_k (by first | decide | omega), ui_k (by first | decide | omega), pS_g (by omega)]; exact e2)) (by decide +kernel) (fun r9 μ9 hq => ?_)
          obtain ⟨rfl, rfl⟩ := hq
          show Z 0 101 [(3, .ref (18 + 8 * t)), (0, .ref 0), (1, .int (nI k)), (2, .int (nB bt))] [] (tT (z_ui (z_ui (pS μ t k (-1)) (18 + 8 * t) 6 (nB bt)) (18 + 8 * t) 7 (nB bt)) t k q)
          refine z_rcs0 hc hH 2 (pc' := 103) (lv' := [(3, .ref (18 + 8 * t)), (0, .ref 0), (1, .int (nI k)), (2, .int (nB bt))]) (st' := [.int (nI k), .ref 0]) (by rfl) ?_
          refine zq_pfi hc hH (by rfl) (ci := 5) (f := 15) (by rfl) (by decide +kernel) (by rfl) ?_
          show Z 0 106 [(3, .ref (18 + 8 * t)), (0, .ref 0), (1, .int (nI k)), (2, .int (nB bt))] [] (z_ui (tT (z_ui (z_ui (pS μ t k (-1)) (18 + 8 * t) 6 (nB bt)) (18 + 8 * t) 7 (nB bt)) t k q) 0 15 (nI k))
          refine z_rcs0 hc hH 2 (pc' := 108) (lv' := [(3, .ref (18 + 8 * t)), (0, .ref 0), (1, .int (nI k)), (2, .int (nB bt))]) (st' := [.long 0, .ref 0]) (by rfl) ?_
          refine zq_pfl hc hH (by rfl) (ci := 5) (f := 18) (by rfl) (by decide +kernel) (by rfl) ?_
          show Z 0 111 [(3, .ref (18 + 8 * t)), (0, .ref 0), (1, .int (nI k)), (2, .int (nB bt))] [] (z_uj (z_ui (tT (z_ui (z_ui (pS μ t k (-1)) (18 + 8 * t) 6 (nB bt)) (18 + 8 * t) 7 (nB bt)) t k q) 0 15 (nI k)) 0 18 0)
          refine z_rcs0 hc hH 2 (pc' := 113) (lv' := [(3, .ref (18 + 8 * t)), (0, .ref 0), (1, .int (nI k)), (2, .int (nB bt))]) (st' := [.int 2, .ref 0]) (by rfl) ?_
          refine zq_pfi hc hH (by rfl) (ci := 5) (f := 7) (by rfl) (by decide +kernel) (by rfl) ?_
          show Z 0 116 [(3, .ref (18 + 8 * t)), (0, .ref 0), (1, .int (nI k)), (2, .int (nB bt))] [] (z_ui (z_uj (z_ui (tT (z_ui (z_ui (pS μ t k (-1)) (18 + 8 * t) 6 (nB bt)) (18 + 8 * t) 7 (nB bt)) t k q) 0 15 (nI k)) 0 18 0) 0 7 2)
          refine z_rcs0 hc hH 1 (pc' := 117) (lv' := [(3, .ref (18 + 8 * t)), (0, .ref 0), (1, .int (nI k)), (2, .int (nB bt))]) (st' := [.int 1]) (by rfl) ?_
          exact hr 0 117 _ _ _ (some (.int 1)) (by decide +kernel) (z_rx_ok hH (by rfl)) (⟨(by first | with_reducible rfl | (simp only [h1, h2, h3, cond_true, cond_false]; done) | rfl), (by simp only [h1, h2, h3, cond_true, cond_false])⟩)
        · have h4 : (bt) = true := nB_n.mp (cn_eq.mp h4)
          exact absurd (Eq.trans (Eq.symm (h3)) h4) (by decide)
      · have h3 : (bt) = true := nB_n.mp (cn_eq.mp h3)
        refine z_rcs hc hH 2 (pc' := 42) (lv' := [(3, .ref (18 + 8 * t)), (0, .ref 0), (1, .int (nI k)), (2, .int (nB bt))]) (st' := [.ref (18 + 8 * t), .ref 0]) (μ' := pS μ t k (-1)) (by rfl) ?_
        refine zq_call hc (z_cx_ok hH (by rfl)) (hmb d' (by omega)) (by decide +kernel) (fun r9 μ9 hq => ?_)
        obtain ⟨hμ9, rfl⟩ := hq
        rw [hμ9]
        clear hμ9 μ9
        show Z 0 45 [(3, .ref (18 + 8 * t)), (0, .ref 0), (1, .int (nI k)), (2, .int (nB bt))] [.int (nB mb)] (pS μ t k (-1))
        refine zq_if hc hH (by rfl) (tg := 59) (by rfl) (fun h5 => ?_) (fun h5 => ?_)
        · have h5 : (mb) = true := nB_n.mp (cm_ne.mp h5)
          refine z_rcs hc hH 1 (pc' := 60) (lv' := [(3, .ref (18 + 8 * t)), (0, .ref 0), (1, .int (nI k)), (2, .int (nB bt))]) (st' := [.int (nB bt)]) (μ' := pS μ t k (-1)) (by rfl) ?_
          refine zq_if hc hH (by rfl) (tg := 86) (by rfl) (fun h6 => ?_) (fun h6 => ?_)
          · have h6 : (bt) = false := nB_z.mp (cm_eq9.mp h6)
            exact absurd (Eq.trans (Eq.symm (h3)) h6) (by decide)
          · have h6 : (bt) = true := nB_n.mp (cn_eq.mp h6)
            refine z_rcs hc hH 2 (pc' := 65) (lv' := [(3, .ref (18 + 8 * t)), (0, .ref 0), (1, .int (nI k)), (2, .int (nB bt))]) (st' := [.ref (18 + 8 * t), .ref (18 + 8 * t)]) (μ' := pS μ t k (-1)) (by rfl) ?_
            refine zq_gfi hc hH (by rfl) (ci := 1) (f := 2) (by rfl) (sj (P := fun i => okf 79 1 2 (18 + 8 * i)) ht4 (by decide +kernel)) (by rfl) ?_
            rw [pS_g (by omega)]
            have hJ7 : Z 0 83 [(3, .ref (18 + 8 * t)), (0, .ref 0), (1, .int (nI k)), (2, .int (nB bt))] [.int (bif decide ((μ.1 (18 + 8 * t) 2) = 0) then bif decide ((μ.1 0 17) = 0) then (2 : Int32) else 1 else 1), .ref (18 + 8 * t)] (pS μ t k (-1)) := by
              refine zq_pfi hc hH (by rfl) (ci := 1) (f := 5) (by rfl) (sj (P := fun i => okf 79 1 5 (18 + 8 * i)) ht4 (by decide +kernel)) (by rfl) ?_
              show Z 0 86 [(3, .ref (18 + 8 * t)), (0, .ref 0), (1, .int (nI k)), (2, .int (nB bt))] [] (z_ui (pS μ t k (-1)) (18 + 8 * t) 5 (bif decide ((μ.1 (18 + 8 * t) 2) = 0) then bif decide ((μ.1 0 17) = 0) then (2 : Int32) else 1 else 1))
              refine z_rcs0 hc hH 2 (pc' := 88) (lv' := [(3, .ref (18 + 8 * t)), (0, .ref 0), (1, .int (nI k)), (2, .int (nB bt))]) (st' := [.int (nB bt), .ref (18 + 8 * t)]) (by rfl) ?_
              refine zq_pfb hc hH (by rfl) (ci := 1) (f := 6) (by rfl) (sj (P := fun i => okf 79 1 6 (18 + 8 * i)) ht4 (by decide +kernel)) (by rfl) ((fun b : Bool => (by cases b <;> rfl : z_b01 (nB b) = true)) bt) ?_
              show Z 0 91 [(3, .ref (18 + 8 * t)), (0, .ref 0), (1, .int (nI k)), (2, .int (nB bt))] [] (z_ui (z_ui (pS μ t k (-1)) (18 + 8 * t) 5 (bif decide ((μ.1 (18 + 8 * t) 2) = 0) then bif decide ((μ.1 0 17) = 0) then (2 : Int32) else 1 else 1)) (18 + 8 * t) 6 (nB bt))
              refine z_rcs0 hc hH 2 (pc' := 93) (lv' := [(3, .ref (18 + 8 * t)), (0, .ref 0), (1, .int (nI k)), (2, .int (nB bt))]) (st' := [.int (nB bt), .ref (18 + 8 * t)]) (by rfl) ?_
              refine zq_pfb hc hH (by rfl) (ci := 1) (f := 7) (by rfl) (sj (P := fun i => okf 79 1 7 (18 + 8 * i)) ht4 (by decide +kernel)) (by rfl) ((fun b : Bool => (by cases b <;> rfl : z_b01 (nB b) = true)) bt) ?_
              show Z 0 96 [(3, .ref (18 + 8 * t)), (0, .ref 0), (1, .int (nI k)), (2, .int (nB bt))] [] (z_ui (z_ui (z_ui (pS μ t k (-1)) (18 + 8 * t) 5 (bif decide ((μ.1 (18 + 8 * t) 2) = 0) then bif decide ((μ.1 0 17) = 0) then (2 : Int32) else 1 else 1)) (18 + 8 * t) 6 (nB bt)) (18 + 8 * t) 7 (nB bt))
              refine z_rcs0 hc hH 2 (pc' := 98) (lv' := [(3, .ref (18 + 8 * t)), (0, .ref 0), (1, .int (nI k)), (2, .int (nB bt))]) (st' := [.int (nI k), .ref (18 + 8 * t)]) (by rfl) ?_
              refine zq_call hc (z_clv9 hH (by rfl) (by rfl) (by rfl) (by rfl) (sj (P := fun i => okr 79 1 (18 + 8 * i)) ht4 (by decide +kernel)) (by rfl) (by rfl)) (gc_throwTile d' (by omega) (z_ui (z_ui (z_ui (pS μ t k (-1)) (18 + 8 * t) 5 (bif decide ((μ.1 (18 + 8 * t) 2) = 0) then bif decide ((μ.1 0 17) = 0) then (2 : Int32) else 1 else 1)) (18 + 8 * t) 6 (nB bt)) (18 + 8 * t) 7 (nB bt)) t ht4 k q hk hq (by rw [ui_k (by first | decide | omega), ui_k (by first | decide | omega), ui_k (by first | decide | omega), pS_g (by omega)]; exact e2)) (by decide +kernel) (fun r9 μ9 hq => ?_)
              obtain ⟨rfl, rfl⟩ := hq
              show Z 0 101 [(3, .ref (18 + 8 * t)), (0, .ref 0), (1, .int (nI k)), (2, .int (nB bt))] [] (tT (z_ui (z_ui (z_ui (pS μ t k (-1)) (18 + 8 * t) 5 (bif decide ((μ.1 (18 + 8 * t) 2) = 0) then bif decide ((μ.1 0 17) = 0) then (2 : Int32) else 1 else 1)) (18 + 8 * t) 6 (nB bt)) (18 + 8 * t) 7 (nB bt)) t k q)
              refine z_rcs0 hc hH 2 (pc' := 103) (lv' := [(3, .ref (18 + 8 * t)), (0, .ref 0), (1, .int (nI k)), (2, .int (nB bt))]) (st' := [.int (nI k), .ref 0]) (by rfl) ?_
              refine zq_pfi hc hH (by rfl) (ci := 5) (f := 15) (by rfl) (by decide +kernel) (by rfl) ?_
              show Z 0 106 [(3, .ref (18 + 8 * t)), (0, .ref 0), (1, .int (nI k)), (2, .int (nB bt))] [] (z_ui (tT (z_ui (z_ui (z_ui (pS μ t k (-1)) (18 + 8 * t) 5 (bif decide ((μ.1 (18 + 8 * t) 2) = 0) then bif decide ((μ.1 0 17) = 0) then (2 : Int32) else 1 else 1)) (18 + 8 * t) 6 (nB bt)) (18 + 8 * t) 7 (nB bt)) t k q) 0 15 (nI k))
              refine z_rcs0 hc hH 2 (pc' := 108) (lv' := [(3, .ref (18 + 8 * t)), (0, .ref 0), (1, .int (nI k)), (2, .int (nB bt))]) (st' := [.long 0, .ref 0]) (by rfl) ?_
              refine zq_pfl hc hH (by rfl) (ci := 5) (f := 18) (by rfl) (by decide +kernel) (by rfl) ?_
              show Z 0 111 [(3, .ref (18 + 8 * t)), (0, .ref 0), (1, .int (nI k)), (2, .int (nB bt))] [] (z_uj (z_ui (tT (z_ui (z_ui (z_ui (pS μ t k (-1)) (18 + 8 * t) 5 (bif decide ((μ.1 (18 + 8 * t) 2) = 0) then bif decide ((μ.1 0 17) = 0) then (2 : Int32) else 1 else 1)) (18 + 8 * t) 6 (nB bt)) (18 + 8 * t) 7 (nB bt)) t k q) 0 15 (nI k)) 0 18 0)
              refine z_rcs0 hc hH 2 (pc' := 113) (lv' := [(3, .ref (18 + 8 * t)), (0, .ref 0), (1, .int (nI k)), (2, .int (nB bt))]) (st' := [.int 2, .ref 0]) (by rfl) ?_
              refine zq_pfi hc hH (by rfl) (ci := 5) (f := 7) (by rfl) (by decide +kernel) (by rfl) ?_
              show Z 0 116 [(3, .ref (18 + 8 * t)), (0, .ref 0), (1, .int (nI k)), (2, .int (nB bt))] [] (z_ui (z_uj (z_ui (tT (z_ui (z_ui (z_ui (pS μ t k (-1)) (18 + 8 * t) 5 (bif decide ((μ.1 (18 + 8 * t) 2) = 0) then bif decide ((μ.1 0 17) = 0) then (2 : Int32) else 1 else 1)) (18 + 8 * t) 6 (nB bt)) (18 + 8 * t) 7 (nB bt)) t k q) 0 15 (nI k)) 0 18 0) 0 7 2)
              refine z_rcs0 hc hH 1 (pc' := 117) (lv' := [(3, .ref (18 + 8 * t)), (0, .ref 0), (1, .int (nI k)), (2, .int (nB bt))]) (st' := [.int 1]) (by rfl) ?_
              exact hr 0 117 _ _ _ (some (.int 1)) (by decide +kernel) (z_rx_ok hH (by rfl)) (⟨(by first | with_reducible rfl | (simp only [h1, h2, h3, h5, cond_true, cond_false]; done) | rfl), (by simp only [h1, h2, h3, h5, cond_true, cond_false])⟩)
            refine zq_if hc hH (by rfl) (tg := 82) (by rfl) (fun h8 => ?_) (fun h8 => ?_)
            · have h8 : (decide ((μ.1 (18 + 8 * t) 2) = 0)) = false := decide_eq_false (cm_ne.mp h8)
              refine z_rcs hc hH 1 (pc' := 83) (lv' := [(3, .ref (18 + 8 * t)), (0, .ref 0), (1, .int (nI k)), (2, .int (nB bt))]) (st' := [.int 1, .ref (18 + 8 * t)]) (μ' := pS μ t k (-1)) (by rfl) ?_
              exact zJ hJ7 rfl (by first | with_reducible rfl | (simp only [h8, lb_f, Int64.or_zero, Int32.add_zero, nB_t, nB_f, Bool.not_true, Bool.not_false, Bool.and_true, Bool.true_and, Bool.false_and, Bool.and_false, Bool.or_true, Bool.true_or, Bool.false_or, Bool.or_false, cond_true, cond_false]; done) | rfl) rfl
            · have h8 : (decide ((μ.1 (18 + 8 * t) 2) = 0)) = true := decide_eq_true (cn_ne.mp h8)
              refine z_rcs hc hH 1 (pc' := 72) (lv' := [(3, .ref (18 + 8 * t)), (0, .ref 0), (1, .int (nI k)), (2, .int (nB bt))]) (st' := [.ref 0, .ref (18 + 8 * t)]) (μ' := pS μ t k (-1)) (by rfl) ?_
              refine zq_gfi hc hH (by rfl) (ci := 5) (f := 17) (by rfl) (by decide +kernel) (by rfl) ?_
              rw [pS_g (by omega)]
              refine zq_if hc hH (by rfl) (tg := 82) (by rfl) (fun h9 => ?_) (fun h9 => ?_)
              · have h9 : (decide ((μ.1 0 17) = 0)) = false := decide_eq_false (cm_ne.mp h9)
                refine z_rcs hc hH 1 (pc' := 83) (lv' := [(3, .ref (18 + 8 * t)), (0, .ref 0), (1, .int (nI k)), (2, .int (nB bt))]) (st' := [.int 1, .ref (18 + 8 * t)]) (μ' := pS μ t k (-1)) (by rfl) ?_
                exact zJ hJ7 rfl (by first | with_reducible rfl | (simp only [h8, h9, lb_f, Int64.or_zero, Int32.add_zero, nB_t, nB_f, Bool.not_true, Bool.not_false, Bool.and_true, Bool.true_and, Bool.false_and, Bool.and_false, Bool.or_true, Bool.true_or, Bool.false_or, Bool.or_false, cond_true, cond_false]; done) | rfl) rfl
              · have h9 : (decide ((μ.1 0 17) = 0)) = true := decide_eq_true (cn_ne.mp h9)
                refine z_rcs hc hH 2 (pc' := 83) (lv' := [(3, .ref (18 + 8 * t)), (0, .ref 0), (1, .int (nI k)), (2, .int (nB bt))]) (st' := [.int 2, .ref (18 + 8 * t)]) (μ' := pS μ t k (-1)) (by rfl) ?_
                exact zJ hJ7 rfl (by first | with_reducible rfl | (simp only [h8, h9, lb_f, Int64.or_zero, Int32.add_zero, nB_t, nB_f, Bool.not_true, Bool.not_false, Bool.and_true, Bool.true_and, Bool.false_and, Bool.and_false, Bool.or_true, Bool.true_or, Bool.false_or, Bool.or_false, cond_true, cond_false]; done) | rfl) rfl
        · have h5 : (mb) = false := nB_z.mp (cn_ne.mp h5)
          refine z_rcs hc hH 1 (pc' := 49) (lv' := [(3, .ref (18 + 8 * t)), (0, .ref 0), (1, .int (nI k)), (2, .int (nB bt))]) (st' := [.ref (18 + 8 * t)]) (μ' := pS μ t k (-1)) (by rfl) ?_
          refine zq_gfr hc hH (by rfl) (ci := 1) (f := 0) (q := 19 + 8 * t) (by rfl) (sj (P := fun i => okf 79 1 0 (18 + 8 * i)) ht4 (by decide +kernel)) (by rfl) (sj (P := fun i => Nat.beq (z_gr (18 + 8 * i) 0) (19 + 8 * i)) ht4 (by decide +kernel)) ?_
          refine z_rcs hc hH 2 (pc' := 54) (lv' := [(3, .ref (18 + 8 * t)), (0, .ref 0), (1, .int (nI k)), (2, .int (nB bt))]) (st' := [.int 1, .int (nI k), .ref (19 + 8 * t)]) (μ' := pS μ t k (-1)) (by rfl) ?_
          refine zq_call hc (z_clv9 hH (by rfl) (by rfl) (by rfl) (by rfl) (sj (P := fun i => okr 79 2 (19 + 8 * i)) ht4 (by decide +kernel)) (by rfl) (by rfl)) (gc_put d' (by omega) (pS μ t k (-1)) t ht4 k hk 1) (by decide +kernel) (fun r9 μ9 hq => ?_)
          obtain ⟨rfl, rfl⟩ := hq
          show Z 0 57 [(3, .ref (18 + 8 * t)), (0, .ref 0), (1, .int (nI k)), (2, .int (nB bt))] [] (pS (pS μ t k (-1)) t k 1)
          refine z_rcs0 hc hH 1 (pc' := 58) (lv' := [(3, .ref (18 + 8 * t)), (0, .ref 0), (1, .int (nI k)), (2, .int (nB bt))]) (st' := [.int 0]) (by rfl) ?_
          exact hr 0 58 _ _ _ (some (.int 0)) (by decide +kernel) (z_rx_ok hH (by rfl)) (⟨(by first | with_reducible rfl | (simp only [h1, h2, h3, h5, cond_true, cond_false]; done) | rfl), (by simp only [h1, h2, h3, h5, cond_true, cond_false])⟩)
    · have h2 : (mt) = false := nB_z.mp (cn_ne.mp h2)
      refine z_rcs hc hH 1 (pc' := 17) (lv' := [(0, .ref 0), (1, .int (nI k)), (2, .int (nB bt))]) (st' := [.int 0]) (μ' := μ) (by rfl) ?_
      exact hr 0 17 _ _ _ (some (.int 0)) (by decide +kernel) (z_rx_ok hH (by rfl)) (⟨(by first | with_reducible rfl | (simp only [h1, h2, cond_true, cond_false]; done) | rfl), (by simp only [h1, h2, cond_true, cond_false])⟩)
theorem gc_hide (d : Nat) (hd : 7 ≤ d) (μ : zM) (t : Nat) (ht4 : t < 4) (ht : μ.1 0 8 = nI t) (k q : Nat) (hk : k < 34) (ham : k + zl 3 ≤ 33) (hq3 : q ≤ 3) (e4 : μ.1 (19 + 8 * t) 4 = nI q) (n k2 : Nat) (hn2 : n < 14) (hn : μ.1 2 3 = nI n) (hS1 : μ.1 2 1 = 1) (hk2 : k2 < 34) (hkk : μ.1 3 (122 + n) = nI k2) (mm : Bool) (hmm : ∀ d, 3 ≤ d → z_C d mi_X6_mayMakeFour [.ref 0] μ (zR μ (.int (nB mm)))) : z_C d mi_X6_hide [.ref 0, .int (nI k)] μ (fun r μ' => r = some ((bif mm then (bif decide (4 ≤ (fr μ (20 + 8 * t) (nI k))) then .int 1 else .int 0) else .int 0)) ∧ μ' = (bif mm then (bif decide (4 ≤ (fr μ (20 + 8 * t) (nI k))) then dT1 (bkH (ldS μ t 3 k q) ) t n k2 else μ) else μ)) := by
  refine z_C_in (by decide) (by omega) (fun d' Z ed hc hr => ?_)
  have hH : zH mi_X6_hide zt_X6_hide 79 6 2 := hh_X6_hide
  refine z_rcs hc hH 1 (pc' := 1) (lv' := [(0, .ref 0), (1, .int (nI k))]) (st' := [.ref 0]) (μ' := μ) (by rfl) ?_
  refine zq_call hc (z_cx_ok hH (by rfl)) (hmm d' (by omega)) (by decide +kernel) (fun r9 μ9 hq => ?_)
  obtain ⟨hμ9, rfl⟩ := hq
  rw [hμ9]
  clear hμ9 μ9
  show Z 0 4 [(0, .ref 0), (1, .int (nI k))] [.int (nB mm)] μ
  refine zq_if hc hH (by rfl) (tg := 26) (by rfl) (fun h1 => ?_) (fun h1 => ?_)
  · have h1 : (mm) = false := nB_z.mp (cm_eq9.mp h1)
    refine z_rcs hc hH 1 (pc' := 27) (lv' := [(0, .ref 0), (1, .int (nI k))]) (st' := [.int 0]) (μ' := μ) (by rfl) ?_
    exact hr 0 27 _ _ _ (some (.int 0)) (by decide +kernel) (z_rx_ok hH (by rfl)) (⟨(by first | with_reducible rfl | (simp only [h1, cond_true, cond_false]; done) | rfl), (by simp only [h1, cond_true, cond_false])⟩)
  · have h1 : (mm) = true := nB_n.mp (cn_eq.mp h1)
    refine z_rcs hc hH 2 (pc' := 9) (lv' := [(0, .ref 0), (1, .int (nI k))]) (st' := [.ref 0, .ref 0]) (μ' := μ) (by rfl) ?_
    refine zq_gfi hc hH (by rfl) (ci := 5) (f := 8) (by rfl) (by decide +kernel) (by rfl) ?_
    rw [ht]
    refine zq_call hc (z_cx_ok hH (by rfl)) (gc_at4 d' (by omega) μ t ht4) (by decide +kernel) (fun r9 μ9 hq => ?_)
    obtain ⟨hμ9, rfl⟩ := hq
    rw [hμ9]
    clear hμ9 μ9
    show Z 0 15 [(0, .ref 0), (1, .int (nI k))] [.ref (18 + 8 * t)] μ
    refine zq_gfr hc hH (by rfl) (ci := 1) (f := 0) (q := 19 + 8 * t) (by rfl) (sj (P := fun i => okf 79 1 0 (18 + 8 * i)) ht4 (by decide +kernel)) (by rfl) (sj (P := fun i => Nat.beq (z_gr (18 + 8 * i) 0) (19 + 8 * i)) ht4 (by decide +kernel)) ?_
    refine z_rcs hc hH 1 (pc' := 19) (lv' := [(0, .ref 0), (1, .int (nI k))]) (st' := [.int (nI k), .ref (19 + 8 * t)]) (μ' := μ) (by rfl) ?_
    refine zq_call hc (z_clv9 hH (by rfl) (by rfl) (by rfl) (by rfl) (sj (P := fun i => okr 79 2 (19 + 8 * i)) ht4 (by decide +kernel)) (by rfl) (by rfl)) (gc_free d' (by omega) μ t ht4 (nI k)) (by decide +kernel) (fun r9 μ9 hq => ?_)
    obtain ⟨hμ9, rfl⟩ := hq
    rw [hμ9]
    clear hμ9 μ9
    show Z 0 22 [(0, .ref 0), (1, .int (nI k))] [.int (fr μ (20 + 8 * t) (nI k))] μ
    refine z_rcs hc hH 1 (pc' := 23) (lv' := [(0, .ref 0), (1, .int (nI k))]) (st' := [.int 4, .int (fr μ (20 + 8 * t) (nI k))]) (μ' := μ) (by rfl) ?_
    refine zq_ic hc hH (by rfl) (tg := 28) (by rfl) (fun h2 => ?_) (fun h2 => ?_)
    · have h2 : (decide (4 ≤ (fr μ (20 + 8 * t) (nI k)))) = true := decide_eq_true (cm_ge.mp h2)
      refine z_rcs hc hH 2 (pc' := 30) (lv' := [(0, .ref 0), (1, .int (nI k))]) (st' := [.ref 0, .ref 0]) (μ' := μ) (by rfl) ?_
      refine zq_gfi hc hH (by rfl) (ci := 5) (f := 8) (by rfl) (by decide +kernel) (by rfl) ?_
      rw [ht]
      refine zq_call hc (z_cx_ok hH (by rfl)) (gc_at4 d' (by omega) μ t ht4) (by decide +kernel) (fun r9 μ9 hq => ?_)
      obtain ⟨hμ9, rfl⟩ := hq
      rw [hμ9]
      clear hμ9 μ9
      show Z 0 36 [(0, .ref 0), (1, .int (nI k))] [.ref (18 + 8 * t)] μ
      refine zq_gfr hc hH (by rfl) (ci := 1) (f := 0) (q := 19 + 8 * t) (by rfl) (sj (P := fun i => okf 79 1 0 (18 + 8 * i)) ht4 (by decide +kernel)) (by rfl) (sj (P := fun i => Nat.beq (z_gr (18 + 8 * i) 0) (19 + 8 * i)) ht4 (by decide +kernel)) ?_
      refine z_rcs hc hH 2 (pc' := 41) (lv' := [(0, .ref 0), (1, .int (nI k))]) (st' := [.int (nI k), .int 3, .ref (19 + 8 * t)]) (μ' := μ) (by rfl) ?_
      refine zq_call hc (z_clv9 hH (by rfl) (by rfl) (by rfl) (by rfl) (sj (P := fun i => okr 79 2 (19 + 8 * i)) ht4 (by decide +kernel)) (by rfl) (by rfl)) (gc_layE d' (by omega) μ t ht4 3 k q ham hq3 e4) (by decide +kernel) (fun r9 μ9 hq => ?_)
      obtain ⟨rfl, rfl⟩ := hq
      show Z 0 44 [(0, .ref 0), (1, .int (nI k))] [] (ldS μ t 3 k q)
      refine z_rcs hc hH 2 (pc' := 46) (lv' := [(0, .ref 0), (1, .int (nI k))]) (st' := [.ref 0, .ref 0]) (μ' := ldS μ t 3 k q) (by rfl) ?_
      refine zq_gfi hc hH (by rfl) (ci := 5) (f := 8) (by rfl) (by decide +kernel) (by rfl) ?_
      rw [ldS_o (by omega)]
      rw [ht]
      refine zq_call hc (z_cx_ok hH (by rfl)) (gc_makeFour d' (by omega) (ldS μ t 3 k q) t t n k2 (by omega) ht4 (Nat.mod_eq_of_lt ht4) hn2 (by rw [ldS_o (by omega)]; exact hn) (by rw [ldS_o (by omega)]; exact hS1) hk2 (by rw [ldS_o (by omega)]; exact hkk)) (by decide +kernel) (fun r9 μ9 hq => ?_)
      obtain ⟨rfl, rfl⟩ := hq
      show Z 0 52 [(0, .ref 0), (1, .int (nI k))] [] (dT1 (bkH (ldS μ t 3 k q) ) t n k2)
      refine z_rcs0 hc hH 1 (pc' := 53) (lv' := [(0, .ref 0), (1, .int (nI k))]) (st' := [.int 1]) (by rfl) ?_
      exact hr 0 53 _ _ _ (some (.int 1)) (by decide +kernel) (z_rx_ok hH (by rfl)) (⟨(by first | with_reducible rfl | (simp only [h1, h2, cond_true, cond_false]; done) | rfl), (by simp only [h1, h2, cond_true, cond_false])⟩)
    · have h2 : (decide (4 ≤ (fr μ (20 + 8 * t) (nI k)))) = false := decide_eq_false (cn_ge.mp h2)
      refine z_rcs hc hH 1 (pc' := 27) (lv' := [(0, .ref 0), (1, .int (nI k))]) (st' := [.int 0]) (μ' := μ) (by rfl) ?_
      exact hr 0 27 _ _ _ (some (.int 0)) (by decide +kernel) (z_rx_ok hH (by rfl)) (⟨(by first | with_reducible rfl | (simp only [h1, h2, cond_true, cond_false]; done) | rfl), (by simp only [h1, h2, cond_true, cond_false])⟩)
theorem tkS_o {μ : zM} {s a q t c u1 u2 u3 r k : Nat} {so : Int32} {c1 c2 c3 : Bool} (h : r = 2 ∨ r = 3) : (tkS μ s a q so t c u1 u2 u3 c1 c2 c3).1 r k = μ.1 r k := by
  unfold tkS
  rw [ui_o (by first | decide | omega), ui_o (by first | decide | omega), ui_o (by first | decide | omega), ldS_o (by omega), pS_g (by omega), bkH_r (by omega), lT_r (by omega)]
theorem gc_four (d : Nat) (hd : 11 ≤ d) (μ : zM) (s q : Nat) (hs4 : s < 4) (hq3 : q ≤ 3) (e4 : μ.1 (19 + 8 * s) 4 = nI q)  (n k2 : Nat) (hn2 : n < 14) (hn : μ.1 2 3 = nI n) (hS1 : μ.1 2 1 = 1) (hk2 : k2 < 34) (hkk : μ.1 3 (122 + n) = nI k2) (t c u1 u2 u3 : Nat) (c1 c2 c3 : Bool) (ht4 : t < 4) (ht : μ.1 0 8 = nI t) (hc34 : c < 34) (hc15 : μ.1 0 15 = nI c) (hu1 : (t + 1) % 4 = u1) (hu14 : u1 < 4) (hw1 : ∀ μ1, TE μ μ1 → ∀ d, 6 ≤ d → z_C d mi_X3_waitsFor [.ref (19 + 8 * u1), .int (nI c)] μ1 (zR μ1 (.int (nB c1)))) (hu2 : (t + 2) % 4 = u2) (hu24 : u2 < 4) (hw2 : ∀ μ1, TE μ μ1 → ∀ d, 6 ≤ d → z_C d mi_X3_waitsFor [.ref (19 + 8 * u2), .int (nI c)] μ1 (zR μ1 (.int (nB c2)))) (hu3 : (t + 3) % 4 = u3) (hu34 : u3 < 4) (hw3 : ∀ μ1, TE μ μ1 → ∀ d, 6 ≤ d → z_C d mi_X3_waitsFor [.ref (19 + 8 * u3), .int (nI c)] μ1 (zR μ1 (.int (nB c3)))) (ham : c + zl 2 ≤ 33) (mc : Bool) (hmc : ∀ d, 3 ≤ d → z_C d mi_X6_mayClaimSet [.ref 0, .int (nI s)] μ (zR μ (.int (nB mc)))) : z_C d mi_X6_four [.ref 0, .int (nI s)] μ (fun r μ' => r = some ((bif mc then (bif decide ((fr μ (20 + 8 * s) (nI c)) < 3) then .int 0 else (bif decide ((μ.1 2 3) < 4) then .int 1 else .int 0)) else .int 0)) ∧ μ' = (bif mc then (bif decide ((fr μ (20 + 8 * s) (nI c)) < 3) then μ else (bif decide ((μ.1 2 3) < 4) then dT1 (bkH (tkS μ s c q 2 t c u1 u2 u3 c1 c2 c3) ) s n k2 else μ)) else μ)) := by
  refine z_C_in (by decide) (by omega) (fun d' Z ed hc hr => ?_)
  have hH : zH mi_X6_four zt_X6_four 79 6 2 := hh_X6_four
  refine z_rcs hc hH 2 (pc' := 2) (lv' := [(0, .ref 0), (1, .int (nI s))]) (st' := [.int (nI s), .ref 0]) (μ' := μ) (by rfl) ?_
  refine zq_call hc (z_cx_ok hH (by rfl)) (hmc d' (by omega)) (by decide +kernel) (fun r9 μ9 hq => ?_)
  obtain ⟨hμ9, rfl⟩ := hq
  rw [hμ9]
  clear hμ9 μ9
  show Z 0 5 [(0, .ref 0), (1, .int (nI s))] [.int (nB mc)] μ
  refine zq_if hc hH (by rfl) (tg := 38) (by rfl) (fun h1 => ?_) (fun h1 => ?_)
  · have h1 : (mc) = false := nB_z.mp (cm_eq9.mp h1)
    refine z_rcs hc hH 1 (pc' := 39) (lv' := [(0, .ref 0), (1, .int (nI s))]) (st' := [.int 0]) (μ' := μ) (by rfl) ?_
    exact hr 0 39 _ _ _ (some (.int 0)) (by decide +kernel) (z_rx_ok hH (by rfl)) (⟨(by first | with_reducible rfl | (simp only [h1, cond_true, cond_false]; done) | rfl), (by simp only [h1, cond_true, cond_false])⟩)
  · have h1 : (mc) = true := nB_n.mp (cn_eq.mp h1)
    refine z_rcs hc hH 2 (pc' := 10) (lv' := [(0, .ref 0), (1, .int (nI s))]) (st' := [.int (nI s), .ref 0]) (μ' := μ) (by rfl) ?_
    refine zq_call hc (z_cx_ok hH (by rfl)) (gc_at4 d' (by omega) μ s hs4) (by decide +kernel) (fun r9 μ9 hq => ?_)
    obtain ⟨hμ9, rfl⟩ := hq
    rw [hμ9]
    clear hμ9 μ9
    show Z 0 13 [(0, .ref 0), (1, .int (nI s))] [.ref (18 + 8 * s)] μ
    refine zq_gfr hc hH (by rfl) (ci := 1) (f := 0) (q := 19 + 8 * s) (by rfl) (sj (P := fun i => okf 79 1 0 (18 + 8 * i)) hs4 (by decide +kernel)) (by rfl) (sj (P := fun i => Nat.beq (z_gr (18 + 8 * i) 0) (19 + 8 * i)) hs4 (by decide +kernel)) ?_
    refine z_rcs hc hH 1 (pc' := 17) (lv' := [(0, .ref 0), (1, .int (nI s))]) (st' := [.ref 0, .ref (19 + 8 * s)]) (μ' := μ) (by rfl) ?_
    refine zq_gfi hc hH (by rfl) (ci := 5) (f := 15) (by rfl) (by decide +kernel) (by rfl) ?_
    rw [hc15]
    refine zq_call hc (z_clv9 hH (by rfl) (by rfl) (by rfl) (by rfl) (sj (P := fun i => okr 79 2 (19 + 8 * i)) hs4 (by decide +kernel)) (by rfl) (by rfl)) (gc_free d' (by omega) μ s hs4 (nI c)) (by decide +kernel) (fun r9 μ9 hq => ?_)
    obtain ⟨hμ9, rfl⟩ := hq
    rw [hμ9]
    clear hμ9 μ9
    show Z 0 23 [(0, .ref 0), (1, .int (nI s))] [.int (fr μ (20 + 8 * s) (nI c))] μ
    refine z_rcs hc hH 1 (pc' := 24) (lv' := [(0, .ref 0), (1, .int (nI s))]) (st' := [.int 3, .int (fr μ (20 + 8 * s) (nI c))]) (μ' := μ) (by rfl) ?_
    refine zq_ic hc hH (by rfl) (tg := 38) (by rfl) (fun h2 => ?_) (fun h2 => ?_)
    · have h2 : (decide ((fr μ (20 + 8 * s) (nI c)) < 3)) = true := decide_eq_true (cm_lt.mp h2)
      refine z_rcs hc hH 1 (pc' := 39) (lv' := [(0, .ref 0), (1, .int (nI s))]) (st' := [.int 0]) (μ' := μ) (by rfl) ?_
      exact hr 0 39 _ _ _ (some (.int 0)) (by decide +kernel) (z_rx_ok hH (by rfl)) (⟨(by first | with_reducible rfl | (simp only [h1, h2, cond_true, cond_false]; done) | rfl), (by simp only [h1, h2, cond_true, cond_false])⟩)
    · have h2 : (decide ((fr μ (20 + 8 * s) (nI c)) < 3)) = false := decide_eq_false (cn_lt.mp h2)
      refine z_rcs hc hH 1 (pc' := 28) (lv' := [(0, .ref 0), (1, .int (nI s))]) (st' := [.ref 0]) (μ' := μ) (by rfl) ?_
      refine zq_gfr hc hH (by rfl) (ci := 5) (f := 1) (q := 2) (by rfl) (by decide +kernel) (by rfl) (by decide +kernel) ?_
      refine zq_gfi hc hH (by rfl) (ci := 3) (f := 3) (by rfl) (by decide +kernel) (by rfl) ?_
      refine z_rcs hc hH 1 (pc' := 35) (lv' := [(0, .ref 0), (1, .int (nI s))]) (st' := [.int 4, .int (μ.1 2 3)]) (μ' := μ) (by rfl) ?_
      refine zq_ic hc hH (by rfl) (tg := 40) (by rfl) (fun h3 => ?_) (fun h3 => ?_)
      · have h3 : (decide ((μ.1 2 3) < 4)) = true := decide_eq_true (cm_lt.mp h3)
        refine z_rcs hc hH 4 (pc' := 44) (lv' := [(0, .ref 0), (1, .int (nI s))]) (st' := [.ref 0, .int 2, .int (nI s), .ref 0]) (μ' := μ) (by rfl) ?_
        refine zq_gfi hc hH (by rfl) (ci := 5) (f := 15) (by rfl) (by decide +kernel) (by rfl) ?_
        rw [hc15]
        refine zq_call hc (z_cx_ok hH (by rfl)) (gc_takeSet d' (by omega) μ s c q 2 hs4 ham hq3 e4 t c u1 u2 u3 c1 c2 c3 ht4 ht hc34 hc15 hu1 hu14 hw1 hu2 hu24 hw2 hu3 hu34 hw3) (by decide +kernel) (fun r9 μ9 hq => ?_)
        obtain ⟨rfl, rfl⟩ := hq
        show Z 0 50 [(0, .ref 0), (1, .int (nI s))] [] (tkS μ s c q 2 t c u1 u2 u3 c1 c2 c3)
        refine z_rcs0 hc hH 2 (pc' := 52) (lv' := [(0, .ref 0), (1, .int (nI s))]) (st' := [.int (nI s), .ref 0]) (by rfl) ?_
        refine zq_call hc (z_cx_ok hH (by rfl)) (gc_makeFour d' (by omega) (tkS μ s c q 2 t c u1 u2 u3 c1 c2 c3) s s n k2 (by omega) hs4 (Nat.mod_eq_of_lt hs4) hn2 (by rw [tkS_o (by omega)]; exact hn) (by rw [tkS_o (by omega)]; exact hS1) hk2 (by rw [tkS_o (by omega)]; exact hkk)) (by decide +kernel) (fun r9 μ9 hq => ?_)
        obtain ⟨rfl, rfl⟩ := hq
        show Z 0 55 [(0, .ref 0), (1, .int (nI s))] [] (dT1 (bkH (tkS μ s c q 2 t c u1 u2 u3 c1 c2 c3) ) s n k2)
        refine z_rcs0 hc hH 1 (pc' := 56) (lv' := [(0, .ref 0), (1, .int (nI s))]) (st' := [.int 1]) (by rfl) ?_
        exact hr 0 56 _ _ _ (some (.int 1)) (by decide +kernel) (z_rx_ok hH (by rfl)) (⟨(by first | with_reducible rfl | (simp only [h1, h2, h3, cond_true, cond_false]; done) | rfl), (by simp only [h1, h2, h3, cond_true, cond_false])⟩)
      · have h3 : (decide ((μ.1 2 3) < 4)) = false := decide_eq_false (cn_lt.mp h3)
        refine z_rcs hc hH 1 (pc' := 39) (lv' := [(0, .ref 0), (1, .int (nI s))]) (st' := [.int 0]) (μ' := μ) (by rfl) ?_
        exact hr 0 39 _ _ _ (some (.int 0)) (by decide +kernel) (z_rx_ok hH (by rfl)) (⟨(by first | with_reducible rfl | (simp only [h1, h2, h3, cond_true, cond_false]; done) | rfl), (by simp only [h1, h2, h3, cond_true, cond_false])⟩)
theorem gc_three (d : Nat) (hd : 11 ≤ d) (μ : zM) (s q : Nat) (hs4 : s < 4) (hq3 : q ≤ 3) (e4 : μ.1 (19 + 8 * s) 4 = nI q) (t c u1 u2 u3 : Nat) (c1 c2 c3 : Bool) (ht4 : t < 4) (ht : μ.1 0 8 = nI t) (hc34 : c < 34) (hc15 : μ.1 0 15 = nI c) (hu1 : (t + 1) % 4 = u1) (hu14 : u1 < 4) (hw1 : ∀ μ1, TE μ μ1 → ∀ d, 6 ≤ d → z_C d mi_X3_waitsFor [.ref (19 + 8 * u1), .int (nI c)] μ1 (zR μ1 (.int (nB c1)))) (hu2 : (t + 2) % 4 = u2) (hu24 : u2 < 4) (hw2 : ∀ μ1, TE μ μ1 → ∀ d, 6 ≤ d → z_C d mi_X3_waitsFor [.ref (19 + 8 * u2), .int (nI c)] μ1 (zR μ1 (.int (nB c2)))) (hu3 : (t + 3) % 4 = u3) (hu34 : u3 < 4) (hw3 : ∀ μ1, TE μ μ1 → ∀ d, 6 ≤ d → z_C d mi_X3_waitsFor [.ref (19 + 8 * u3), .int (nI c)] μ1 (zR μ1 (.int (nB c3)))) (ham : c + zl 1 ≤ 33) (mc : Bool) (hmc : ∀ d, 3 ≤ d → z_C d mi_X6_mayClaimSet [.ref 0, .int (nI s)] μ (zR μ (.int (nB mc)))) (ko : Bool) (hko : ∀ d, 3 ≤ d → z_C d mi_X6_keepsOther [.ref (19 + 8 * s), .long 0, .long (1 <<< ((nI c).toInt64 &&& 63))] μ (zR μ (.int (nB ko)))) : z_C d mi_X6_three [.ref 0, .int (nI s)] μ (fun r μ' => r = some ((bif mc then (bif decide (2 ≤ (fr μ (20 + 8 * s) (nI c))) then (bif ko then .int 1 else .int 0) else .int 0) else .int 0)) ∧ μ' = (bif mc then (bif decide (2 ≤ (fr μ (20 + 8 * s) (nI c))) then (bif ko then z_uj (tkS μ s c q 1 t c u1 u2 u3 c1 c2 c3) 0 18 (1 <<< ((nI c).toInt64 &&& 63)) else μ) else μ) else μ)) := by
  refine z_C_in (by decide) (by omega) (fun d' Z ed hc hr => ?_)
  have hH : zH mi_X6_three zt_X6_three 79 6 4 := hh_X6_three
  refine z_rcs hc hH 2 (pc' := 2) (lv' := [(0, .ref 0), (1, .int (nI s))]) (st' := [.int (nI s), .ref 0]) (μ' := μ) (by rfl) ?_
  refine zq_call hc (z_cx_ok hH (by rfl)) (hmc d' (by omega)) (by decide +kernel) (fun r9 μ9 hq => ?_)
  obtain ⟨hμ9, rfl⟩ := hq
  rw [hμ9]
  clear hμ9 μ9
  show Z 0 5 [(0, .ref 0), (1, .int (nI s))] [.int (nB mc)] μ
  refine zq_if hc hH (by rfl) (tg := 27) (by rfl) (fun h1 => ?_) (fun h1 => ?_)
  · have h1 : (mc) = false := nB_z.mp (cm_eq9.mp h1)
    refine z_rcs hc hH 1 (pc' := 28) (lv' := [(0, .ref 0), (1, .int (nI s))]) (st' := [.int 0]) (μ' := μ) (by rfl) ?_
    exact hr 0 28 _ _ _ (some (.int 0)) (by decide +kernel) (z_rx_ok hH (by rfl)) (⟨(by first | with_reducible rfl | (simp only [h1, cond_true, cond_false]; done) | rfl), (by simp only [h1, cond_true, cond_false])⟩)
  · have h1 : (mc) = true := nB_n.mp (cn_eq.mp h1)
    refine z_rcs hc hH 2 (pc' := 10) (lv' := [(0, .ref 0), (1, .int (nI s))]) (st' := [.int (nI s), .ref 0]) (μ' := μ) (by rfl) ?_
    refine zq_call hc (z_cx_ok hH (by rfl)) (gc_at4 d' (by omega) μ s hs4) (by decide +kernel) (fun r9 μ9 hq => ?_)
    obtain ⟨hμ9, rfl⟩ := hq
    rw [hμ9]
    clear hμ9 μ9
    show Z 0 13 [(0, .ref 0), (1, .int (nI s))] [.ref (18 + 8 * s)] μ
    refine zq_gfr hc hH (by rfl) (ci := 1) (f := 0) (q := 19 + 8 * s) (by rfl) (sj (P := fun i => okf 79 1 0 (18 + 8 * i)) hs4 (by decide +kernel)) (by rfl) (sj (P := fun i => Nat.beq (z_gr (18 + 8 * i) 0) (19 + 8 * i)) hs4 (by decide +kernel)) ?_
    refine z_rcs hc hH 1 (pc' := 17) (lv' := [(0, .ref 0), (1, .int (nI s))]) (st' := [.ref 0, .ref (19 + 8 * s)]) (μ' := μ) (by rfl) ?_
    refine zq_gfi hc hH (by rfl) (ci := 5) (f := 15) (by rfl) (by decide +kernel) (by rfl) ?_
    rw [hc15]
    refine zq_call hc (z_clv9 hH (by rfl) (by rfl) (by rfl) (by rfl) (sj (P := fun i => okr 79 2 (19 + 8 * i)) hs4 (by decide +kernel)) (by rfl) (by rfl)) (gc_free d' (by omega) μ s hs4 (nI c)) (by decide +kernel) (fun r9 μ9 hq => ?_)
    obtain ⟨hμ9, rfl⟩ := hq
    rw [hμ9]
    clear hμ9 μ9
    show Z 0 23 [(0, .ref 0), (1, .int (nI s))] [.int (fr μ (20 + 8 * s) (nI c))] μ
    refine z_rcs hc hH 1 (pc' := 24) (lv' := [(0, .ref 0), (1, .int (nI s))]) (st' := [.int 2, .int (fr μ (20 + 8 * s) (nI c))]) (μ' := μ) (by rfl) ?_
    refine zq_ic hc hH (by rfl) (tg := 29) (by rfl) (fun h2 => ?_) (fun h2 => ?_)
    · have h2 : (decide (2 ≤ (fr μ (20 + 8 * s) (nI c)))) = true := decide_eq_true (cm_ge.mp h2)
      refine z_rcs hc hH 2 (pc' := 31) (lv' := [(0, .ref 0), (1, .int (nI s))]) (st' := [.ref 0, .long 1]) (μ' := μ) (by rfl) ?_
      refine zq_gfi hc hH (by rfl) (ci := 5) (f := 15) (by rfl) (by decide +kernel) (by rfl) ?_
      rw [hc15]
      refine z_rcs hc hH 4 (pc' := 38) (lv' := [(2, .long (1 <<< ((nI c).toInt64 &&& 63))), (0, .ref 0), (1, .int (nI s))]) (st' := [.int (nI s), .ref 0]) (μ' := μ) (by rfl) ?_
      refine zq_call hc (z_cx_ok hH (by rfl)) (gc_at4 d' (by omega) μ s hs4) (by decide +kernel) (fun r9 μ9 hq => ?_)
      obtain ⟨hμ9, rfl⟩ := hq
      rw [hμ9]
      clear hμ9 μ9
      show Z 0 41 [(2, .long (1 <<< ((nI c).toInt64 &&& 63))), (0, .ref 0), (1, .int (nI s))] [.ref (18 + 8 * s)] μ
      refine zq_gfr hc hH (by rfl) (ci := 1) (f := 0) (q := 19 + 8 * s) (by rfl) (sj (P := fun i => okf 79 1 0 (18 + 8 * i)) hs4 (by decide +kernel)) (by rfl) (sj (P := fun i => Nat.beq (z_gr (18 + 8 * i) 0) (19 + 8 * i)) hs4 (by decide +kernel)) ?_
      refine z_rcs hc hH 2 (pc' := 46) (lv' := [(2, .long (1 <<< ((nI c).toInt64 &&& 63))), (0, .ref 0), (1, .int (nI s))]) (st' := [.long (1 <<< ((nI c).toInt64 &&& 63)), .long 0, .ref (19 + 8 * s)]) (μ' := μ) (by rfl) ?_
      refine zq_call hc (z_cx_ok hH (by rfl)) (hko d' (by omega)) (by decide +kernel) (fun r9 μ9 hq => ?_)
      obtain ⟨hμ9, rfl⟩ := hq
      rw [hμ9]
      clear hμ9 μ9
      show Z 0 49 [(2, .long (1 <<< ((nI c).toInt64 &&& 63))), (0, .ref 0), (1, .int (nI s))] [.int (nB ko)] μ
      refine zq_if hc hH (by rfl) (tg := 54) (by rfl) (fun h3 => ?_) (fun h3 => ?_)
      · have h3 : (ko) = true := nB_n.mp (cm_ne.mp h3)
        refine z_rcs hc hH 4 (pc' := 58) (lv' := [(2, .long (1 <<< ((nI c).toInt64 &&& 63))), (0, .ref 0), (1, .int (nI s))]) (st' := [.ref 0, .int 1, .int (nI s), .ref 0]) (μ' := μ) (by rfl) ?_
        refine zq_gfi hc hH (by rfl) (ci := 5) (f := 15) (by rfl) (by decide +kernel) (by rfl) ?_
        rw [hc15]
        refine zq_call hc (z_cx_ok hH (by rfl)) (gc_takeSet d' (by omega) μ s c q 1 hs4 ham hq3 e4 t c u1 u2 u3 c1 c2 c3 ht4 ht hc34 hc15 hu1 hu14 hw1 hu2 hu24 hw2 hu3 hu34 hw3) (by decide +kernel) (fun r9 μ9 hq => ?_)
        obtain ⟨rfl, rfl⟩ := hq
        show Z 0 64 [(2, .long (1 <<< ((nI c).toInt64 &&& 63))), (0, .ref 0), (1, .int (nI s))] [] (tkS μ s c q 1 t c u1 u2 u3 c1 c2 c3)
        refine z_rcs0 hc hH 2 (pc' := 66) (lv' := [(2, .long (1 <<< ((nI c).toInt64 &&& 63))), (0, .ref 0), (1, .int (nI s))]) (st' := [.long (1 <<< ((nI c).toInt64 &&& 63)), .ref 0]) (by rfl) ?_
        refine zq_pfl hc hH (by rfl) (ci := 5) (f := 18) (by rfl) (by decide +kernel) (by rfl) ?_
        show Z 0 69 [(2, .long (1 <<< ((nI c).toInt64 &&& 63))), (0, .ref 0), (1, .int (nI s))] [] (z_uj (tkS μ s c q 1 t c u1 u2 u3 c1 c2 c3) 0 18 (1 <<< ((nI c).toInt64 &&& 63)))
        refine z_rcs0 hc hH 1 (pc' := 70) (lv' := [(2, .long (1 <<< ((nI c).toInt64 &&& 63))), (0, .ref 0), (1, .int (nI s))]) (st' := [.int 1]) (by rfl) ?_
        exact hr 0 70 _ _ _ (some (.int 1)) (by decide +kernel) (z_rx_ok hH (by rfl)) (⟨(by first | with_reducible rfl | (simp only [h1, h2, h3, cond_true, cond_false]; done) | rfl), (by simp only [h1, h2, h3, cond_true, cond_false])⟩)
      · have h3 : (ko) = false := nB_z.mp (cn_ne.mp h3)
        refine z_rcs hc hH 1 (pc' := 53) (lv' := [(2, .long (1 <<< ((nI c).toInt64 &&& 63))), (0, .ref 0), (1, .int (nI s))]) (st' := [.int 0]) (μ' := μ) (by rfl) ?_
        exact hr 0 53 _ _ _ (some (.int 0)) (by decide +kernel) (z_rx_ok hH (by rfl)) (⟨(by first | with_reducible rfl | (simp only [h1, h2, h3, cond_true, cond_false]; done) | rfl), (by simp only [h1, h2, h3, cond_true, cond_false])⟩)
    · have h2 : (decide (2 ≤ (fr μ (20 + 8 * s) (nI c)))) = false := decide_eq_false (cn_ge.mp h2)
      refine z_rcs hc hH 1 (pc' := 28) (lv' := [(0, .ref 0), (1, .int (nI s))]) (st' := [.int 0]) (μ' := μ) (by rfl) ?_
      exact hr 0 28 _ _ _ (some (.int 0)) (by decide +kernel) (z_rx_ok hH (by rfl)) (⟨(by first | with_reducible rfl | (simp only [h1, h2, cond_true, cond_false]; done) | rfl), (by simp only [h1, h2, cond_true, cond_false])⟩)
/-! the game: a hand is weighed -/
set_option maxRecDepth 8000
theorem gc_wind (d : Nat) (hd : 1 ≤ d) (μ : zM) (x y : Int32) (h : (x - μ.1 0 9) &&& 3 = y) : z_C d mi_X6_windOf [.ref 0, .int x] μ (zR μ (.int y)) := by
  rw [← h]; exact gc_windOf d hd μ x
theorem gc_weigh0 (d : Nat) (hd : 10 ≤ d) (μ : zM) (s c : Nat) (hs4 : s < 4) (hc34 : c < 34) (hc15 : μ.1 0 15 = nI c) (to1 to2 : Int64) (de wd : Int32) (hwd : (nI s - μ.1 0 9) &&& 3 = wd) (hto : ∀ d, 3 ≤ d → z_C d mi_X6_toldForms [.ref 0, .ref (18 + 8 * s), .int 0] (pS μ s c 1) (zR (pS μ s c 1) (.long to1))) (hfd : ∀ d, 3 ≤ d → z_C d mi_X6_firstDraw [.ref 0, .int (nI s), .int 0] (pS μ s c 1) (zR (pS μ s c 1) (.long to2))) (hde : ∀ d, 3 ≤ d → z_C d mi_X4_dearTiles [.ref 2, .ref (19 + 8 * s), .int (nB (!decide (μ.1 (18 + 8 * s) 5 = 0)))] (pS μ s c 1) (zR (pS μ s c 1) (.int de))) (J : zM → Prop) (hJ15 : ∀ m, J m → m.1 0 15 = nI c) (hjd : ∀ d, 8 ≤ d → z_C d mi_X1_judge [.ref 4, .ref (19 + 8 * s), .int (nI c), .int 0, .long (to1 ||| to2), .int (wd ||| (μ.1 0 10 <<< (2 &&& 31))), .int de] (pS μ s c 1) (fun r μ' => r = none ∧ J μ')) : z_C d mi_X6_weighHand [.ref 0, .int (nI s), .int 0] μ (fun r μ' => ∃ μj, J μj ∧ μ' = pS μj s c (-1) ∧ r = some (.int (μj.1 4 0))) := by
  refine z_C_in (by decide) (by omega) (fun d' Z ed hc hr => ?_)
  have hH : zH mi_X6_weighHand zt_X6_weighHand 79 6 7 := hh_X6_weighHand
  refine z_rcs hc hH 2 (pc' := 2) (lv' := [(0, .ref 0), (1, .int (nI s)), (2, .int 0)]) (st' := [.int (nI s), .ref 0]) (μ' := μ) (by rfl) ?_
  refine zq_call hc (z_cx_ok hH (by rfl)) (gc_at4 d' (by omega) μ s hs4) (by decide +kernel) (fun r9 μ9 hq => ?_)
  obtain ⟨hμ9, rfl⟩ := hq
  rw [hμ9]
  clear hμ9 μ9
  show Z 0 5 [(0, .ref 0), (1, .int (nI s)), (2, .int 0)] [.ref (18 + 8 * s)] μ
  refine z_rcs hc hH 4 (pc' := 11) (lv' := [(3, .ref (18 + 8 * s)), (0, .ref 0), (1, .int (nI s)), (2, .int 0)]) (st' := [.ref (18 + 8 * s)]) (μ' := μ) (by rfl) ?_
  refine zq_gfr hc hH (by rfl) (ci := 1) (f := 0) (q := 19 + 8 * s) (by rfl) (sj (P := fun i => okf 79 1 0 (18 + 8 * i)) hs4 (by decide +kernel)) (by rfl) (sj (P := fun i => Nat.beq (z_gr (18 + 8 * i) 0) (19 + 8 * i)) hs4 (by decide +kernel)) ?_
  refine z_rcs hc hH 1 (pc' := 15) (lv' := [(3, .ref (18 + 8 * s)), (0, .ref 0), (1, .int (nI s)), (2, .int 0)]) (st' := [.ref 0, .ref (19 + 8 * s)]) (μ' := μ) (by rfl) ?_
  refine zq_gfi hc hH (by rfl) (ci := 5) (f := 15) (by rfl) (by decide +kernel) (by rfl) ?_
  rw [hc15]
  refine z_rcs hc hH 1 (pc' := 19) (lv' := [(3, .ref (18 + 8 * s)), (0, .ref 0), (1, .int (nI s)), (2, .int 0)]) (st' := [.int 1, .int (nI c), .ref (19 + 8 * s)]) (μ' := μ) (by rfl) ?_
  refine zq_call hc (z_clv9 hH (by rfl) (by rfl) (by rfl) (by rfl) (sj (P := fun i => okr 79 2 (19 + 8 * i)) hs4 (by decide +kernel)) (by rfl) (by rfl)) (gc_put d' (by omega) μ s hs4 c hc34 1) (by decide +kernel) (fun r9 μ9 hq => ?_)
  obtain ⟨rfl, rfl⟩ := hq
  show Z 0 22 [(3, .ref (18 + 8 * s)), (0, .ref 0), (1, .int (nI s)), (2, .int 0)] [] (pS μ s c 1)
  refine z_rcs hc hH 3 (pc' := 25) (lv' := [(3, .ref (18 + 8 * s)), (0, .ref 0), (1, .int (nI s)), (2, .int 0)]) (st' := [.int 0, .ref (18 + 8 * s), .ref 0]) (μ' := pS μ s c 1) (by rfl) ?_
  refine zq_call hc (z_cx_ok hH (by rfl)) (hto d' (by omega)) (by decide +kernel) (fun r9 μ9 hq => ?_)
  obtain ⟨hμ9, rfl⟩ := hq
  rw [hμ9]
  clear hμ9 μ9
  show Z 0 28 [(3, .ref (18 + 8 * s)), (0, .ref 0), (1, .int (nI s)), (2, .int 0)] [.long to1] (pS μ s c 1)
  refine z_rcs hc hH 3 (pc' := 31) (lv' := [(3, .ref (18 + 8 * s)), (0, .ref 0), (1, .int (nI s)), (2, .int 0)]) (st' := [.int 0, .int (nI s), .ref 0, .long to1]) (μ' := pS μ s c 1) (by rfl) ?_
  refine zq_call hc (z_cx_ok hH (by rfl)) (hfd d' (by omega)) (by decide +kernel) (fun r9 μ9 hq => ?_)
  obtain ⟨hμ9, rfl⟩ := hq
  rw [hμ9]
  clear hμ9 μ9
  show Z 0 34 [(3, .ref (18 + 8 * s)), (0, .ref 0), (1, .int (nI s)), (2, .int 0)] [.long to2, .long to1] (pS μ s c 1)
  refine z_rcs hc hH 3 (pc' := 38) (lv' := [(4, .long (to1 ||| to2)), (3, .ref (18 + 8 * s)), (0, .ref 0), (1, .int (nI s)), (2, .int 0)]) (st' := [.ref 0]) (μ' := pS μ s c 1) (by rfl) ?_
  refine zq_gfr hc hH (by rfl) (ci := 5) (f := 1) (q := 2) (by rfl) (by decide +kernel) (by rfl) (by decide +kernel) ?_
  refine z_rcs hc hH 1 (pc' := 42) (lv' := [(4, .long (to1 ||| to2)), (3, .ref (18 + 8 * s)), (0, .ref 0), (1, .int (nI s)), (2, .int 0)]) (st' := [.ref (18 + 8 * s), .ref 2]) (μ' := pS μ s c 1) (by rfl) ?_
  refine zq_gfr hc hH (by rfl) (ci := 1) (f := 0) (q := 19 + 8 * s) (by rfl) (sj (P := fun i => okf 79 1 0 (18 + 8 * i)) hs4 (by decide +kernel)) (by rfl) (sj (P := fun i => Nat.beq (z_gr (18 + 8 * i) 0) (19 + 8 * i)) hs4 (by decide +kernel)) ?_
  refine z_rcs hc hH 1 (pc' := 46) (lv' := [(4, .long (to1 ||| to2)), (3, .ref (18 + 8 * s)), (0, .ref 0), (1, .int (nI s)), (2, .int 0)]) (st' := [.ref (18 + 8 * s), .ref (19 + 8 * s), .ref 2]) (μ' := pS μ s c 1) (by rfl) ?_
  refine zq_gfi hc hH (by rfl) (ci := 1) (f := 5) (by rfl) (sj (P := fun i => okf 79 1 5 (18 + 8 * i)) hs4 (by decide +kernel)) (by rfl) ?_
  rw [pS_g (by omega)]
  have hJ1 : Z 0 57 [(4, .long (to1 ||| to2)), (3, .ref (18 + 8 * s)), (0, .ref 0), (1, .int (nI s)), (2, .int 0)] [.int (nB (!(decide ((μ.1 (18 + 8 * s) 5) = 0)))), .ref (19 + 8 * s), .ref 2] (pS μ s c 1) := by
    refine zq_call hc (z_cx_ok hH (by rfl)) (hde d' (by omega)) (by decide +kernel) (fun r9 μ9 hq => ?_)
    obtain ⟨hμ9, rfl⟩ := hq
    rw [hμ9]
    clear hμ9 μ9
    show Z 0 60 [(4, .long (to1 ||| to2)), (3, .ref (18 + 8 * s)), (0, .ref 0), (1, .int (nI s)), (2, .int 0)] [.int de] (pS μ s c 1)
    refine z_rcs hc hH 2 (pc' := 63) (lv' := [(6, .int de), (4, .long (to1 ||| to2)), (3, .ref (18 + 8 * s)), (0, .ref 0), (1, .int (nI s)), (2, .int 0)]) (st' := [.ref 0]) (μ' := pS μ s c 1) (by rfl) ?_
    refine zq_gfr hc hH (by rfl) (ci := 5) (f := 2) (q := 4) (by rfl) (by decide +kernel) (by rfl) (by decide +kernel) ?_
    refine z_rcs hc hH 1 (pc' := 67) (lv' := [(6, .int de), (4, .long (to1 ||| to2)), (3, .ref (18 + 8 * s)), (0, .ref 0), (1, .int (nI s)), (2, .int 0)]) (st' := [.ref (18 + 8 * s), .ref 4]) (μ' := pS μ s c 1) (by rfl) ?_
    refine zq_gfr hc hH (by rfl) (ci := 1) (f := 0) (q := 19 + 8 * s) (by rfl) (sj (P := fun i => okf 79 1 0 (18 + 8 * i)) hs4 (by decide +kernel)) (by rfl) (sj (P := fun i => Nat.beq (z_gr (18 + 8 * i) 0) (19 + 8 * i)) hs4 (by decide +kernel)) ?_
    refine z_rcs hc hH 1 (pc' := 71) (lv' := [(6, .int de), (4, .long (to1 ||| to2)), (3, .ref (18 + 8 * s)), (0, .ref 0), (1, .int (nI s)), (2, .int 0)]) (st' := [.ref 0, .ref (19 + 8 * s), .ref 4]) (μ' := pS μ s c 1) (by rfl) ?_
    refine zq_gfi hc hH (by rfl) (ci := 5) (f := 15) (by rfl) (by decide +kernel) (by rfl) ?_
    rw [pS_g (by omega)]
    rw [hc15]
    refine z_rcs hc hH 4 (pc' := 79) (lv' := [(6, .int de), (4, .long (to1 ||| to2)), (3, .ref (18 + 8 * s)), (0, .ref 0), (1, .int (nI s)), (2, .int 0)]) (st' := [.int (nI s), .ref 0, .long (to1 ||| to2), .int 0, .int (nI c), .ref (19 + 8 * s), .ref 4]) (μ' := pS μ s c 1) (by rfl) ?_
    refine zq_call hc (z_cx_ok hH (by rfl)) (gc_wind d' (by omega) (pS μ s c 1) (nI s) wd (by rw [pS_g (by omega)]; exact hwd)) (by decide +kernel) (fun r9 μ9 hq => ?_)
    obtain ⟨hμ9, rfl⟩ := hq
    rw [hμ9]
    clear hμ9 μ9
    show Z 0 82 [(6, .int de), (4, .long (to1 ||| to2)), (3, .ref (18 + 8 * s)), (0, .ref 0), (1, .int (nI s)), (2, .int 0)] [.int wd, .long (to1 ||| to2), .int 0, .int (nI c), .ref (19 + 8 * s), .ref 4] (pS μ s c 1)
    refine z_rcs hc hH 1 (pc' := 83) (lv' := [(6, .int de), (4, .long (to1 ||| to2)), (3, .ref (18 + 8 * s)), (0, .ref 0), (1, .int (nI s)), (2, .int 0)]) (st' := [.ref 0, .int wd, .long (to1 ||| to2), .int 0, .int (nI c), .ref (19 + 8 * s), .ref 4]) (μ' := pS μ s c 1) (by rfl) ?_
    refine zq_gfi hc hH (by rfl) (ci := 5) (f := 10) (by rfl) (by decide +kernel) (by rfl) ?_
    rw [pS_g (by omega)]
    refine z_rcs hc hH 4 (pc' := 91) (lv' := [(6, .int de), (4, .long (to1 ||| to2)), (3, .ref (18 + 8 * s)), (0, .ref 0), (1, .int (nI s)), (2, .int 0)]) (st' := [.int de, .int (wd ||| ((μ.1 0 10) <<< (2 &&& 31))), .long (to1 ||| to2), .int 0, .int (nI c), .ref (19 + 8 * s), .ref 4]) (μ' := pS μ s c 1) (by rfl) ?_
    refine zq_call hc (z_cx_ok hH (by rfl)) (hjd d' (by omega)) (by decide +kernel) (fun r9 μj hq => ?_)
    obtain ⟨rfl, hJ⟩ := hq
    show Z 0 94 [(6, .int de), (4, .long (to1 ||| to2)), (3, .ref (18 + 8 * s)), (0, .ref 0), (1, .int (nI s)), (2, .int 0)] [] μj
    refine z_rcs hc hH 3 (pc' := 99) (lv' := [(6, .int de), (4, .long (to1 ||| to2)), (3, .ref (18 + 8 * s)), (0, .ref 0), (1, .int (nI s)), (2, .int 0)]) (st' := [.ref (18 + 8 * s)]) (μ' := μj) (by rfl) ?_
    refine zq_gfr hc hH (by rfl) (ci := 1) (f := 0) (q := 19 + 8 * s) (by rfl) (sj (P := fun i => okf 79 1 0 (18 + 8 * i)) hs4 (by decide +kernel)) (by rfl) (sj (P := fun i => Nat.beq (z_gr (18 + 8 * i) 0) (19 + 8 * i)) hs4 (by decide +kernel)) ?_
    refine z_rcs hc hH 1 (pc' := 103) (lv' := [(6, .int de), (4, .long (to1 ||| to2)), (3, .ref (18 + 8 * s)), (0, .ref 0), (1, .int (nI s)), (2, .int 0)]) (st' := [.ref 0, .ref (19 + 8 * s)]) (μ' := μj) (by rfl) ?_
    refine zq_gfi hc hH (by rfl) (ci := 5) (f := 15) (by rfl) (by decide +kernel) (by rfl) ?_
    rw [hJ15 _ hJ]
    refine z_rcs hc hH 1 (pc' := 107) (lv' := [(6, .int de), (4, .long (to1 ||| to2)), (3, .ref (18 + 8 * s)), (0, .ref 0), (1, .int (nI s)), (2, .int 0)]) (st' := [.int 1, .int (nI c), .ref (19 + 8 * s)]) (μ' := μj) (by rfl) ?_
    refine zq_call hc (z_clv9 hH (by rfl) (by rfl) (by rfl) (by rfl) (sj (P := fun i => okr 79 2 (19 + 8 * i)) hs4 (by decide +kernel)) (by rfl) (by rfl)) (gc_take d' (by omega) μj s hs4 c hc34 1) (by decide +kernel) (fun r9 μ9 hq => ?_)
    obtain ⟨rfl, rfl⟩ := hq
    show Z 0 110 [(6, .int de), (4, .long (to1 ||| to2)), (3, .ref (18 + 8 * s)), (0, .ref 0), (1, .int (nI s)), (2, .int 0)] [] (pS μj s c (-1))
    refine z_rcs hc hH 1 (pc' := 111) (lv' := [(6, .int de), (4, .long (to1 ||| to2)), (3, .ref (18 + 8 * s)), (0, .ref 0), (1, .int (nI s)), (2, .int 0)]) (st' := [.ref 0]) (μ' := pS μj s c (-1)) (by rfl) ?_
    refine zq_gfr hc hH (by rfl) (ci := 5) (f := 2) (q := 4) (by rfl) (by decide +kernel) (by rfl) (by decide +kernel) ?_
    refine zq_gfi hc hH (by rfl) (ci := 0) (f := 0) (by rfl) (by decide +kernel) (by rfl) ?_
    rw [pS_g (by omega)]
    exact hr 0 117 _ _ _ (some (.int (μj.1 4 0))) (by decide +kernel) (z_rx_ok hH (by rfl)) (⟨μj, hJ, rfl, rfl⟩)
  refine zq_if hc hH (by rfl) (tg := 56) (by rfl) (fun h2 => ?_) (fun h2 => ?_)
  · have h2 : (decide ((μ.1 (18 + 8 * s) 5) = 0)) = true := decide_eq_true (cm_eq9.mp h2)
    refine z_rcs hc hH 1 (pc' := 57) (lv' := [(4, .long (to1 ||| to2)), (3, .ref (18 + 8 * s)), (0, .ref 0), (1, .int (nI s)), (2, .int 0)]) (st' := [.int 0, .ref (19 + 8 * s), .ref 2]) (μ' := pS μ s c 1) (by rfl) ?_
    exact zJ hJ1 rfl (by first | with_reducible rfl | (simp only [h2, lb_f, Int64.or_zero, Int32.add_zero, nB_t, nB_f, Bool.not_true, Bool.not_false, Bool.and_true, Bool.true_and, Bool.false_and, Bool.and_false, Bool.or_true, Bool.true_or, Bool.false_or, Bool.or_false, cond_true, cond_false]; done) | rfl) rfl
  · have h2 : (decide ((μ.1 (18 + 8 * s) 5) = 0)) = false := decide_eq_false (cn_eq.mp h2)
    refine z_rcs hc hH 2 (pc' := 57) (lv' := [(4, .long (to1 ||| to2)), (3, .ref (18 + 8 * s)), (0, .ref 0), (1, .int (nI s)), (2, .int 0)]) (st' := [.int 1, .ref (19 + 8 * s), .ref 2]) (μ' := pS μ s c 1) (by rfl) ?_
    exact zJ hJ1 rfl (by first | with_reducible rfl | (simp only [h2, lb_f, Int64.or_zero, Int32.add_zero, nB_t, nB_f, Bool.not_true, Bool.not_false, Bool.and_true, Bool.true_and, Bool.false_and, Bool.and_false, Bool.or_true, Bool.true_or, Bool.false_or, Bool.or_false, cond_true, cond_false]; done) | rfl) rfl
theorem gc_weigh1 (d : Nat) (hd : 10 ≤ d) (μ : zM) (s c : Nat) (hs4 : s < 4) (hc34 : c < 34) (hc15 : μ.1 0 15 = nI c) (to1 to2 : Int64) (de wd : Int32) (hwd : (nI s - μ.1 0 9) &&& 3 = wd) (hto : ∀ d, 3 ≤ d → z_C d mi_X6_toldForms [.ref 0, .ref (18 + 8 * s), .int 1] (μ) (zR (μ) (.long to1))) (hfd : ∀ d, 3 ≤ d → z_C d mi_X6_firstDraw [.ref 0, .int (nI s), .int 1] (μ) (zR (μ) (.long to2))) (hde : ∀ d, 3 ≤ d → z_C d mi_X4_dearTiles [.ref 2, .ref (19 + 8 * s), .int (nB (!decide (μ.1 (18 + 8 * s) 5 = 0)))] (μ) (zR (μ) (.int de))) (J : zM → Prop) (hJ15 : ∀ m, J m → m.1 0 15 = nI c) (hjd : ∀ d, 8 ≤ d → z_C d mi_X1_judge [.ref 4, .ref (19 + 8 * s), .int (nI c), .int 1, .long (to1 ||| to2), .int (wd ||| (μ.1 0 10 <<< (2 &&& 31))), .int de] (μ) (fun r μ' => r = none ∧ J μ')) : z_C d mi_X6_weighHand [.ref 0, .int (nI s), .int 1] μ (fun r μ' => ∃ μj, J μj ∧ μ' = μj ∧ r = some (.int (μj.1 4 0))) := by
  refine z_C_in (by decide) (by omega) (fun d' Z ed hc hr => ?_)
  have hH : zH mi_X6_weighHand zt_X6_weighHand 79 6 7 := hh_X6_weighHand
  refine z_rcs hc hH 2 (pc' := 2) (lv' := [(0, .ref 0), (1, .int (nI s)), (2, .int 1)]) (st' := [.int (nI s), .ref 0]) (μ' := μ) (by rfl) ?_
  refine zq_call hc (z_cx_ok hH (by rfl)) (gc_at4 d' (by omega) μ s hs4) (by decide +kernel) (fun r9 μ9 hq => ?_)
  obtain ⟨hμ9, rfl⟩ := hq
  rw [hμ9]
  clear hμ9 μ9
  show Z 0 5 [(0, .ref 0), (1, .int (nI s)), (2, .int 1)] [.ref (18 + 8 * s)] μ
  refine z_rcs hc hH 6 (pc' := 25) (lv' := [(3, .ref (18 + 8 * s)), (0, .ref 0), (1, .int (nI s)), (2, .int 1)]) (st' := [.int 1, .ref (18 + 8 * s), .ref 0]) (μ' := μ) (by rfl) ?_
  refine zq_call hc (z_cx_ok hH (by rfl)) (hto d' (by omega)) (by decide +kernel) (fun r9 μ9 hq => ?_)
  obtain ⟨hμ9, rfl⟩ := hq
  rw [hμ9]
  clear hμ9 μ9
  show Z 0 28 [(3, .ref (18 + 8 * s)), (0, .ref 0), (1, .int (nI s)), (2, .int 1)] [.long to1] μ
  refine z_rcs hc hH 3 (pc' := 31) (lv' := [(3, .ref (18 + 8 * s)), (0, .ref 0), (1, .int (nI s)), (2, .int 1)]) (st' := [.int 1, .int (nI s), .ref 0, .long to1]) (μ' := μ) (by rfl) ?_
  refine zq_call hc (z_cx_ok hH (by rfl)) (hfd d' (by omega)) (by decide +kernel) (fun r9 μ9 hq => ?_)
  obtain ⟨hμ9, rfl⟩ := hq
  rw [hμ9]
  clear hμ9 μ9
  show Z 0 34 [(3, .ref (18 + 8 * s)), (0, .ref 0), (1, .int (nI s)), (2, .int 1)] [.long to2, .long to1] μ
  refine z_rcs hc hH 3 (pc' := 38) (lv' := [(4, .long (to1 ||| to2)), (3, .ref (18 + 8 * s)), (0, .ref 0), (1, .int (nI s)), (2, .int 1)]) (st' := [.ref 0]) (μ' := μ) (by rfl) ?_
  refine zq_gfr hc hH (by rfl) (ci := 5) (f := 1) (q := 2) (by rfl) (by decide +kernel) (by rfl) (by decide +kernel) ?_
  refine z_rcs hc hH 1 (pc' := 42) (lv' := [(4, .long (to1 ||| to2)), (3, .ref (18 + 8 * s)), (0, .ref 0), (1, .int (nI s)), (2, .int 1)]) (st' := [.ref (18 + 8 * s), .ref 2]) (μ' := μ) (by rfl) ?_
  refine zq_gfr hc hH (by rfl) (ci := 1) (f := 0) (q := 19 + 8 * s) (by rfl) (sj (P := fun i => okf 79 1 0 (18 + 8 * i)) hs4 (by decide +kernel)) (by rfl) (sj (P := fun i => Nat.beq (z_gr (18 + 8 * i) 0) (19 + 8 * i)) hs4 (by decide +kernel)) ?_
  refine z_rcs hc hH 1 (pc' := 46) (lv' := [(4, .long (to1 ||| to2)), (3, .ref (18 + 8 * s)), (0, .ref 0), (1, .int (nI s)), (2, .int 1)]) (st' := [.ref (18 + 8 * s), .ref (19 + 8 * s), .ref 2]) (μ' := μ) (by rfl) ?_
  refine zq_gfi hc hH (by rfl) (ci := 1) (f := 5) (by rfl) (sj (P := fun i => okf 79 1 5 (18 + 8 * i)) hs4 (by decide +kernel)) (by rfl) ?_
  have hJ1 : Z 0 57 [(4, .long (to1 ||| to2)), (3, .ref (18 + 8 * s)), (0, .ref 0), (1, .int (nI s)), (2, .int 1)] [.int (nB (!(decide ((μ.1 (18 + 8 * s) 5) = 0)))), .ref (19 + 8 * s), .ref 2] μ := by
    refine zq_call hc (z_cx_ok hH (by rfl)) (hde d' (by omega)) (by decide +kernel) (fun r9 μ9 hq => ?_)
    obtain ⟨hμ9, rfl⟩ := hq
    rw [hμ9]
    clear hμ9 μ9
    show Z 0 60 [(4, .long (to1 ||| to2)), (3, .ref (18 + 8 * s)), (0, .ref 0), (1, .int (nI s)), (2, .int 1)] [.int de] μ
    refine z_rcs hc hH 2 (pc' := 63) (lv' := [(6, .int de), (4, .long (to1 ||| to2)), (3, .ref (18 + 8 * s)), (0, .ref 0), (1, .int (nI s)), (2, .int 1)]) (st' := [.ref 0]) (μ' := μ) (by rfl) ?_
    refine zq_gfr hc hH (by rfl) (ci := 5) (f := 2) (q := 4) (by rfl) (by decide +kernel) (by rfl) (by decide +kernel) ?_
    refine z_rcs hc hH 1 (pc' := 67) (lv' := [(6, .int de), (4, .long (to1 ||| to2)), (3, .ref (18 + 8 * s)), (0, .ref 0), (1, .int (nI s)), (2, .int 1)]) (st' := [.ref (18 + 8 * s), .ref 4]) (μ' := μ) (by rfl) ?_
    refine zq_gfr hc hH (by rfl) (ci := 1) (f := 0) (q := 19 + 8 * s) (by rfl) (sj (P := fun i => okf 79 1 0 (18 + 8 * i)) hs4 (by decide +kernel)) (by rfl) (sj (P := fun i => Nat.beq (z_gr (18 + 8 * i) 0) (19 + 8 * i)) hs4 (by decide +kernel)) ?_
    refine z_rcs hc hH 1 (pc' := 71) (lv' := [(6, .int de), (4, .long (to1 ||| to2)), (3, .ref (18 + 8 * s)), (0, .ref 0), (1, .int (nI s)), (2, .int 1)]) (st' := [.ref 0, .ref (19 + 8 * s), .ref 4]) (μ' := μ) (by rfl) ?_
    refine zq_gfi hc hH (by rfl) (ci := 5) (f := 15) (by rfl) (by decide +kernel) (by rfl) ?_
    rw [hc15]
    refine z_rcs hc hH 4 (pc' := 79) (lv' := [(6, .int de), (4, .long (to1 ||| to2)), (3, .ref (18 + 8 * s)), (0, .ref 0), (1, .int (nI s)), (2, .int 1)]) (st' := [.int (nI s), .ref 0, .long (to1 ||| to2), .int 1, .int (nI c), .ref (19 + 8 * s), .ref 4]) (μ' := μ) (by rfl) ?_
    refine zq_call hc (z_cx_ok hH (by rfl)) (gc_wind d' (by omega) μ (nI s) wd hwd) (by decide +kernel) (fun r9 μ9 hq => ?_)
    obtain ⟨hμ9, rfl⟩ := hq
    rw [hμ9]
    clear hμ9 μ9
    show Z 0 82 [(6, .int de), (4, .long (to1 ||| to2)), (3, .ref (18 + 8 * s)), (0, .ref 0), (1, .int (nI s)), (2, .int 1)] [.int wd, .long (to1 ||| to2), .int 1, .int (nI c), .ref (19 + 8 * s), .ref 4] μ
    refine z_rcs hc hH 1 (pc' := 83) (lv' := [(6, .int de), (4, .long (to1 ||| to2)), (3, .ref (18 + 8 * s)), (0, .ref 0), (1, .int (nI s)), (2, .int 1)]) (st' := [.ref 0, .int wd, .long (to1 ||| to2), .int 1, .int (nI c), .ref (19 + 8 * s), .ref 4]) (μ' := μ) (by rfl) ?_
    refine zq_gfi hc hH (by rfl) (ci := 5) (f := 10) (by rfl) (by decide +kernel) (by rfl) ?_
    refine z_rcs hc hH 4 (pc' := 91) (lv' := [(6, .int de), (4, .long (to1 ||| to2)), (3, .ref (18 + 8 * s)), (0, .ref 0), (1, .int (nI s)), (2, .int 1)]) (st' := [.int de, .int (wd ||| ((μ.1 0 10) <<< (2 &&& 31))), .long (to1 ||| to2), .int 1, .int (nI c), .ref (19 + 8 * s), .ref 4]) (μ' := μ) (by rfl) ?_
    refine zq_call hc (z_cx_ok hH (by rfl)) (hjd d' (by omega)) (by decide +kernel) (fun r9 μj hq => ?_)
    obtain ⟨rfl, hJ⟩ := hq
    show Z 0 94 [(6, .int de), (4, .long (to1 ||| to2)), (3, .ref (18 + 8 * s)), (0, .ref 0), (1, .int (nI s)), (2, .int 1)] [] μj
    refine z_rcs hc hH 3 (pc' := 111) (lv' := [(6, .int de), (4, .long (to1 ||| to2)), (3, .ref (18 + 8 * s)), (0, .ref 0), (1, .int (nI s)), (2, .int 1)]) (st' := [.ref 0]) (μ' := μj) (by rfl) ?_
    refine zq_gfr hc hH (by rfl) (ci := 5) (f := 2) (q := 4) (by rfl) (by decide +kernel) (by rfl) (by decide +kernel) ?_
    refine zq_gfi hc hH (by rfl) (ci := 0) (f := 0) (by rfl) (by decide +kernel) (by rfl) ?_
    exact hr 0 117 _ _ _ (some (.int (μj.1 4 0))) (by decide +kernel) (z_rx_ok hH (by rfl)) (⟨μj, hJ, rfl, rfl⟩)
  refine zq_if hc hH (by rfl) (tg := 56) (by rfl) (fun h2 => ?_) (fun h2 => ?_)
  · have h2 : (decide ((μ.1 (18 + 8 * s) 5) = 0)) = true := decide_eq_true (cm_eq9.mp h2)
    refine z_rcs hc hH 1 (pc' := 57) (lv' := [(4, .long (to1 ||| to2)), (3, .ref (18 + 8 * s)), (0, .ref 0), (1, .int (nI s)), (2, .int 1)]) (st' := [.int 0, .ref (19 + 8 * s), .ref 2]) (μ' := μ) (by rfl) ?_
    exact zJ hJ1 rfl (by first | with_reducible rfl | (simp only [h2, lb_f, Int64.or_zero, Int32.add_zero, nB_t, nB_f, Bool.not_true, Bool.not_false, Bool.and_true, Bool.true_and, Bool.false_and, Bool.and_false, Bool.or_true, Bool.true_or, Bool.false_or, Bool.or_false, cond_true, cond_false]; done) | rfl) rfl
  · have h2 : (decide ((μ.1 (18 + 8 * s) 5) = 0)) = false := decide_eq_false (cn_eq.mp h2)
    refine z_rcs hc hH 2 (pc' := 57) (lv' := [(4, .long (to1 ||| to2)), (3, .ref (18 + 8 * s)), (0, .ref 0), (1, .int (nI s)), (2, .int 1)]) (st' := [.int 1, .ref (19 + 8 * s), .ref 2]) (μ' := μ) (by rfl) ?_
    exact zJ hJ1 rfl (by first | with_reducible rfl | (simp only [h2, lb_f, Int64.or_zero, Int32.add_zero, nB_t, nB_f, Bool.not_true, Bool.not_false, Bool.and_true, Bool.true_and, Bool.false_and, Bool.and_false, Bool.or_true, Bool.true_or, Bool.false_or, Bool.or_false, cond_true, cond_false]; done) | rfl) rfl
/-! the game: claim, nine of the class -/
set_option maxRecDepth 8000
theorem sI_n {s : Nat} (h : s < 4) : sI (nI s) = true := by
  have a : decide (nI s < 0) = false := kn_l0 (by omega)
  have b : decide ((4 : Int32) ≤ nI s) = false := kn_le (m := 4) rfl (by omega) h
  unfold sI; rw [a, b]; rfl
noncomputable abbrev clC (μ : zM) (s t c : Nat) (wt : Int64) : Bool := (decide (μ.1 0 7 = 2) || decide (μ.1 0 7 = 3)) && (!decide (nI s = nI t) && (decide (μ.1 (18 + 8 * s) 9 = 0) && (decide (μ.1 (18 + 8 * s) 8 = 0) && (xHd wt (nI c) && decide (lg_cmp (wt &&& μ.2.1 (18 + 8 * s) 3) 0 = 0)))))
theorem gc_claim (d : Nat) (hd : 11 ≤ d) (μ : zM) (s t c : Nat) (hs4 : s < 4) (ht4 : t < 4) (ht : μ.1 0 8 = nI t) (hc34 : c < 34) (hc15 : μ.1 0 15 = nI c) (wt : Int64) (hwt : ∀ d, 7 ≤ d → z_C d mi_X3_waiting [.ref (19 + 8 * s)] μ (zR μ (.long wt))) (J : zM → Prop) (hwg : ∀ d, 10 ≤ d → z_C d mi_X6_weighHand [.ref 0, .int (nI s), .int 0] μ (fun r μ' => ∃ μj, J μj ∧ μ' = pS μj s c (-1) ∧ r = some (.int (μj.1 4 0)))) : z_C d mi_X6_claim [.ref 0, .int (nI s)] μ (fun r μ' => (clC μ s t c wt = false ∧ r = some (.int 0) ∧ μ' = μ) ∨ (clC μ s t c wt = true ∧ ∃ μj, J μj ∧ ((decide (μj.1 4 0 = 0) = true ∧ r = some (.int 0) ∧ μ' = pS μj s c (-1)) ∨ (decide (μj.1 4 0 = 0) = false ∧ r = some (.int 1) ∧ μ' = z_ui (pS μj s c (-1)) (18 + 8 * s) 9 1)))) := by
  refine z_C_in (by decide) (by omega) (fun d' Z ed hc hr => ?_)
  have hH : zH mi_X6_claim zt_X6_claim 79 6 5 := hh_X6_claim
  refine z_rcs hc hH 1 (pc' := 1) (lv' := [(0, .ref 0), (1, .int (nI s))]) (st' := [.ref 0]) (μ' := μ) (by rfl) ?_
  refine zq_gfi hc hH (by rfl) (ci := 5) (f := 7) (by rfl) (by decide +kernel) (by rfl) ?_
  refine z_rcs hc hH 1 (pc' := 5) (lv' := [(0, .ref 0), (1, .int (nI s))]) (st' := [.int 2, .int (μ.1 0 7)]) (μ' := μ) (by rfl) ?_
  refine zq_ic hc hH (by rfl) (tg := 16) (by rfl) (fun h1 => ?_) (fun h1 => ?_)
  · have h1 : (decide ((μ.1 0 7) = 2)) = true := decide_eq_true (cm_eq9.mp h1)
    refine z_rcs hc hH 1 (pc' := 17) (lv' := [(0, .ref 0), (1, .int (nI s))]) (st' := [.int (nI s)]) (μ' := μ) (by rfl) ?_
    refine zq_call hc (z_cx_ok hH (by rfl)) (gc_isSeat d' (by omega) μ (nI s)) (by decide +kernel) (fun r9 μ9 hq => ?_)
    obtain ⟨hμ9, rfl⟩ := hq
    rw [hμ9]
    clear hμ9 μ9
    show Z 0 20 [(0, .ref 0), (1, .int (nI s))] [.int (nB (sI (nI s)))] μ
    refine zq_if hc hH (by rfl) (tg := 31) (by rfl) (fun h2 => ?_) (fun h2 => ?_)
    · have h2 : (sI (nI s)) = false := nB_z.mp (cm_eq9.mp h2)
      exact absurd (Eq.trans (Eq.symm (sI_n hs4)) h2) (by decide)
    · have h2 : (sI (nI s)) = true := nB_n.mp (cn_eq.mp h2)
      refine z_rcs hc hH 2 (pc' := 25) (lv' := [(0, .ref 0), (1, .int (nI s))]) (st' := [.ref 0, .int (nI s)]) (μ' := μ) (by rfl) ?_
      refine zq_gfi hc hH (by rfl) (ci := 5) (f := 8) (by rfl) (by decide +kernel) (by rfl) ?_
      rw [ht]
      refine zq_ic hc hH (by rfl) (tg := 33) (by rfl) (fun h3 => ?_) (fun h3 => ?_)
      · have h3 : (decide ((nI s) = (nI t))) = false := decide_eq_false (cm_ne.mp h3)
        refine z_rcs hc hH 2 (pc' := 35) (lv' := [(0, .ref 0), (1, .int (nI s))]) (st' := [.int (nI s), .ref 0]) (μ' := μ) (by rfl) ?_
        refine zq_call hc (z_cx_ok hH (by rfl)) (gc_at4 d' (by omega) μ s hs4) (by decide +kernel) (fun r9 μ9 hq => ?_)
        obtain ⟨hμ9, rfl⟩ := hq
        rw [hμ9]
        clear hμ9 μ9
        show Z 0 38 [(0, .ref 0), (1, .int (nI s))] [.ref (18 + 8 * s)] μ
        refine z_rcs hc hH 2 (pc' := 40) (lv' := [(2, .ref (18 + 8 * s)), (0, .ref 0), (1, .int (nI s))]) (st' := [.ref (18 + 8 * s)]) (μ' := μ) (by rfl) ?_
        refine zq_gfi hc hH (by rfl) (ci := 1) (f := 9) (by rfl) (sj (P := fun i => okf 79 1 9 (18 + 8 * i)) hs4 (by decide +kernel)) (by rfl) ?_
        refine zq_if hc hH (by rfl) (tg := 53) (by rfl) (fun h4 => ?_) (fun h4 => ?_)
        · have h4 : (decide ((μ.1 (18 + 8 * s) 9) = 0)) = false := decide_eq_false (cm_ne.mp h4)
          refine z_rcs hc hH 1 (pc' := 54) (lv' := [(2, .ref (18 + 8 * s)), (0, .ref 0), (1, .int (nI s))]) (st' := [.int 0]) (μ' := μ) (by rfl) ?_
          exact hr 0 54 _ _ _ (some (.int 0)) (by decide +kernel) (z_rx_ok hH (by rfl)) (Or.inl ⟨by simp only [clC, h1, h3, h4, Bool.true_or, Bool.or_true, Bool.false_or, Bool.or_false, Bool.true_and, Bool.and_true, Bool.false_and, Bool.and_false, Bool.not_true, Bool.not_false], rfl, rfl⟩)
        · have h4 : (decide ((μ.1 (18 + 8 * s) 9) = 0)) = true := decide_eq_true (cn_ne.mp h4)
          refine z_rcs hc hH 1 (pc' := 47) (lv' := [(2, .ref (18 + 8 * s)), (0, .ref 0), (1, .int (nI s))]) (st' := [.ref (18 + 8 * s)]) (μ' := μ) (by rfl) ?_
          refine zq_gfi hc hH (by rfl) (ci := 1) (f := 8) (by rfl) (sj (P := fun i => okf 79 1 8 (18 + 8 * i)) hs4 (by decide +kernel)) (by rfl) ?_
          refine zq_if hc hH (by rfl) (tg := 55) (by rfl) (fun h5 => ?_) (fun h5 => ?_)
          · have h5 : (decide ((μ.1 (18 + 8 * s) 8) = 0)) = true := decide_eq_true (cm_eq9.mp h5)
            refine z_rcs hc hH 1 (pc' := 56) (lv' := [(2, .ref (18 + 8 * s)), (0, .ref 0), (1, .int (nI s))]) (st' := [.ref (18 + 8 * s)]) (μ' := μ) (by rfl) ?_
            refine zq_gfr hc hH (by rfl) (ci := 1) (f := 0) (q := 19 + 8 * s) (by rfl) (sj (P := fun i => okf 79 1 0 (18 + 8 * i)) hs4 (by decide +kernel)) (by rfl) (sj (P := fun i => Nat.beq (z_gr (18 + 8 * i) 0) (19 + 8 * i)) hs4 (by decide +kernel)) ?_
            refine zq_call hc (z_clv9 hH (by rfl) (by rfl) (by rfl) (by rfl) (sj (P := fun i => okr 79 2 (19 + 8 * i)) hs4 (by decide +kernel)) (by rfl) (by rfl)) (hwt d' (by omega)) (by decide +kernel) (fun r9 μ9 hq => ?_)
            obtain ⟨hμ9, rfl⟩ := hq
            rw [hμ9]
            clear hμ9 μ9
            show Z 0 62 [(2, .ref (18 + 8 * s)), (0, .ref 0), (1, .int (nI s))] [.long wt] μ
            refine z_rcs hc hH 3 (pc' := 65) (lv' := [(3, .long wt), (2, .ref (18 + 8 * s)), (0, .ref 0), (1, .int (nI s))]) (st' := [.ref 0, .long wt]) (μ' := μ) (by rfl) ?_
            refine zq_gfi hc hH (by rfl) (ci := 5) (f := 15) (by rfl) (by decide +kernel) (by rfl) ?_
            rw [hc15]
            refine zq_call hc (z_cx_ok hH (by rfl)) (fb_X6_holds d' (by omega) μ wt (nI c)) (by decide +kernel) (fun r9 μ9 hq => ?_)
            obtain ⟨hμ9, rfl⟩ := hq
            rw [hμ9]
            clear hμ9 μ9
            show Z 0 71 [(3, .long wt), (2, .ref (18 + 8 * s)), (0, .ref 0), (1, .int (nI s))] [.int (nB (xHd wt (nI c)))] μ
            refine zq_if hc hH (by rfl) (tg := 85) (by rfl) (fun h6 => ?_) (fun h6 => ?_)
            · have h6 : (xHd wt (nI c)) = false := nB_z.mp (cm_eq9.mp h6)
              refine z_rcs hc hH 1 (pc' := 86) (lv' := [(3, .long wt), (2, .ref (18 + 8 * s)), (0, .ref 0), (1, .int (nI s))]) (st' := [.int 0]) (μ' := μ) (by rfl) ?_
              exact hr 0 86 _ _ _ (some (.int 0)) (by decide +kernel) (z_rx_ok hH (by rfl)) (Or.inl ⟨by simp only [clC, h1, h3, h4, h5, h6, Bool.true_or, Bool.or_true, Bool.false_or, Bool.or_false, Bool.true_and, Bool.and_true, Bool.false_and, Bool.and_false, Bool.not_true, Bool.not_false], rfl, rfl⟩)
            · have h6 : (xHd wt (nI c)) = true := nB_n.mp (cn_eq.mp h6)
              refine z_rcs hc hH 2 (pc' := 76) (lv' := [(3, .long wt), (2, .ref (18 + 8 * s)), (0, .ref 0), (1, .int (nI s))]) (st' := [.ref (18 + 8 * s), .long wt]) (μ' := μ) (by rfl) ?_
              refine zq_gfl hc hH (by rfl) (ci := 1) (f := 3) (by rfl) (sj (P := fun i => okf 79 1 3 (18 + 8 * i)) hs4 (by decide +kernel)) (by rfl) ?_
              refine z_rcs hc hH 3 (pc' := 82) (lv' := [(3, .long wt), (2, .ref (18 + 8 * s)), (0, .ref 0), (1, .int (nI s))]) (st' := [.int (lg_cmp (wt &&& (μ.2.1 (18 + 8 * s) 3)) 0)]) (μ' := μ) (by rfl) ?_
              refine zq_if hc hH (by rfl) (tg := 87) (by rfl) (fun h7 => ?_) (fun h7 => ?_)
              · have h7 : (decide ((lg_cmp (wt &&& (μ.2.1 (18 + 8 * s) 3)) 0) = 0)) = true := decide_eq_true (cm_eq9.mp h7)
                refine z_rcs hc hH 3 (pc' := 90) (lv' := [(3, .long wt), (2, .ref (18 + 8 * s)), (0, .ref 0), (1, .int (nI s))]) (st' := [.int 0, .int (nI s), .ref 0]) (μ' := μ) (by rfl) ?_
                refine zq_call hc (z_cx_ok hH (by rfl)) (hwg d' (by omega)) (by decide +kernel) (fun r9 μ9 hq => ?_)
                obtain ⟨μj, hJ, rfl, rfl⟩ := hq
                show Z 0 93 [(3, .long wt), (2, .ref (18 + 8 * s)), (0, .ref 0), (1, .int (nI s))] [.int (μj.1 4 0)] (pS μj s c (-1))
                refine zq_if hc hH (by rfl) (tg := 98) (by rfl) (fun h8 => ?_) (fun h8 => ?_)
                · have h8 : (decide ((μj.1 4 0) = 0)) = false := decide_eq_false (cm_ne.mp h8)
                  refine z_rcs hc hH 2 (pc' := 100) (lv' := [(3, .long wt), (2, .ref (18 + 8 * s)), (0, .ref 0), (1, .int (nI s))]) (st' := [.int 1, .ref (18 + 8 * s)]) (μ' := pS μj s c (-1)) (by rfl) ?_
                  refine zq_pfb hc hH (by rfl) (ci := 1) (f := 9) (by rfl) (sj (P := fun i => okf 79 1 9 (18 + 8 * i)) hs4 (by decide +kernel)) (by rfl) (by decide) ?_
                  show Z 0 103 [(3, .long wt), (2, .ref (18 + 8 * s)), (0, .ref 0), (1, .int (nI s))] [] (z_ui (pS μj s c (-1)) (18 + 8 * s) 9 1)
                  refine z_rcs0 hc hH 1 (pc' := 104) (lv' := [(3, .long wt), (2, .ref (18 + 8 * s)), (0, .ref 0), (1, .int (nI s))]) (st' := [.int 1]) (by rfl) ?_
                  exact hr 0 104 _ _ _ (some (.int 1)) (by decide +kernel) (z_rx_ok hH (by rfl)) (Or.inr ⟨by simp only [clC, h1, h3, h4, h5, h6, h7, Bool.true_or, Bool.or_true, Bool.false_or, Bool.or_false, Bool.true_and, Bool.and_true, Bool.false_and, Bool.and_false, Bool.not_true, Bool.not_false], μj, hJ, Or.inr ⟨h8, rfl, rfl⟩⟩)
                · have h8 : (decide ((μj.1 4 0) = 0)) = true := decide_eq_true (cn_ne.mp h8)
                  refine z_rcs hc hH 1 (pc' := 97) (lv' := [(3, .long wt), (2, .ref (18 + 8 * s)), (0, .ref 0), (1, .int (nI s))]) (st' := [.int 0]) (μ' := pS μj s c (-1)) (by rfl) ?_
                  exact hr 0 97 _ _ _ (some (.int 0)) (by decide +kernel) (z_rx_ok hH (by rfl)) (Or.inr ⟨by simp only [clC, h1, h3, h4, h5, h6, h7, Bool.true_or, Bool.or_true, Bool.false_or, Bool.or_false, Bool.true_and, Bool.and_true, Bool.false_and, Bool.and_false, Bool.not_true, Bool.not_false], μj, hJ, Or.inl ⟨h8, rfl, rfl⟩⟩)
              · have h7 : (decide ((lg_cmp (wt &&& (μ.2.1 (18 + 8 * s) 3)) 0) = 0)) = false := decide_eq_false (cn_eq.mp h7)
                refine z_rcs hc hH 1 (pc' := 86) (lv' := [(3, .long wt), (2, .ref (18 + 8 * s)), (0, .ref 0), (1, .int (nI s))]) (st' := [.int 0]) (μ' := μ) (by rfl) ?_
                exact hr 0 86 _ _ _ (some (.int 0)) (by decide +kernel) (z_rx_ok hH (by rfl)) (Or.inl ⟨by simp only [clC, h1, h3, h4, h5, h6, h7, Bool.true_or, Bool.or_true, Bool.false_or, Bool.or_false, Bool.true_and, Bool.and_true, Bool.false_and, Bool.and_false, Bool.not_true, Bool.not_false], rfl, rfl⟩)
          · have h5 : (decide ((μ.1 (18 + 8 * s) 8) = 0)) = false := decide_eq_false (cn_eq.mp h5)
            refine z_rcs hc hH 1 (pc' := 54) (lv' := [(2, .ref (18 + 8 * s)), (0, .ref 0), (1, .int (nI s))]) (st' := [.int 0]) (μ' := μ) (by rfl) ?_
            exact hr 0 54 _ _ _ (some (.int 0)) (by decide +kernel) (z_rx_ok hH (by rfl)) (Or.inl ⟨by simp only [clC, h1, h3, h4, h5, Bool.true_or, Bool.or_true, Bool.false_or, Bool.or_false, Bool.true_and, Bool.and_true, Bool.false_and, Bool.and_false, Bool.not_true, Bool.not_false], rfl, rfl⟩)
      · have h3 : (decide ((nI s) = (nI t))) = true := decide_eq_true (cn_ne.mp h3)
        refine z_rcs hc hH 1 (pc' := 32) (lv' := [(0, .ref 0), (1, .int (nI s))]) (st' := [.int 0]) (μ' := μ) (by rfl) ?_
        exact hr 0 32 _ _ _ (some (.int 0)) (by decide +kernel) (z_rx_ok hH (by rfl)) (Or.inl ⟨by simp only [clC, h1, h3, Bool.true_or, Bool.or_true, Bool.false_or, Bool.or_false, Bool.true_and, Bool.and_true, Bool.false_and, Bool.and_false, Bool.not_true, Bool.not_false], rfl, rfl⟩)
  · have h1 : (decide ((μ.1 0 7) = 2)) = false := decide_eq_false (cn_eq.mp h1)
    refine z_rcs hc hH 1 (pc' := 9) (lv' := [(0, .ref 0), (1, .int (nI s))]) (st' := [.ref 0]) (μ' := μ) (by rfl) ?_
    refine zq_gfi hc hH (by rfl) (ci := 5) (f := 7) (by rfl) (by decide +kernel) (by rfl) ?_
    refine z_rcs hc hH 1 (pc' := 13) (lv' := [(0, .ref 0), (1, .int (nI s))]) (st' := [.int 3, .int (μ.1 0 7)]) (μ' := μ) (by rfl) ?_
    refine zq_ic hc hH (by rfl) (tg := 31) (by rfl) (fun h9 => ?_) (fun h9 => ?_)
    · have h9 : (decide ((μ.1 0 7) = 3)) = false := decide_eq_false (cm_ne.mp h9)
      refine z_rcs hc hH 1 (pc' := 32) (lv' := [(0, .ref 0), (1, .int (nI s))]) (st' := [.int 0]) (μ' := μ) (by rfl) ?_
      exact hr 0 32 _ _ _ (some (.int 0)) (by decide +kernel) (z_rx_ok hH (by rfl)) (Or.inl ⟨by simp only [clC, h1, h9, Bool.true_or, Bool.or_true, Bool.false_or, Bool.or_false, Bool.true_and, Bool.and_true, Bool.false_and, Bool.and_false, Bool.not_true, Bool.not_false], rfl, rfl⟩)
    · have h9 : (decide ((μ.1 0 7) = 3)) = true := decide_eq_true (cn_ne.mp h9)
      refine z_rcs hc hH 1 (pc' := 17) (lv' := [(0, .ref 0), (1, .int (nI s))]) (st' := [.int (nI s)]) (μ' := μ) (by rfl) ?_
      refine zq_call hc (z_cx_ok hH (by rfl)) (gc_isSeat d' (by omega) μ (nI s)) (by decide +kernel) (fun r9 μ9 hq => ?_)
      obtain ⟨hμ9, rfl⟩ := hq
      rw [hμ9]
      clear hμ9 μ9
      show Z 0 20 [(0, .ref 0), (1, .int (nI s))] [.int (nB (sI (nI s)))] μ
      refine zq_if hc hH (by rfl) (tg := 31) (by rfl) (fun h10 => ?_) (fun h10 => ?_)
      · have h10 : (sI (nI s)) = false := nB_z.mp (cm_eq9.mp h10)
        exact absurd (Eq.trans (Eq.symm (sI_n hs4)) h10) (by decide)
      · have h10 : (sI (nI s)) = true := nB_n.mp (cn_eq.mp h10)
        refine z_rcs hc hH 2 (pc' := 25) (lv' := [(0, .ref 0), (1, .int (nI s))]) (st' := [.ref 0, .int (nI s)]) (μ' := μ) (by rfl) ?_
        refine zq_gfi hc hH (by rfl) (ci := 5) (f := 8) (by rfl) (by decide +kernel) (by rfl) ?_
        rw [ht]
        refine zq_ic hc hH (by rfl) (tg := 33) (by rfl) (fun h11 => ?_) (fun h11 => ?_)
        · have h11 : (decide ((nI s) = (nI t))) = false := decide_eq_false (cm_ne.mp h11)
          refine z_rcs hc hH 2 (pc' := 35) (lv' := [(0, .ref 0), (1, .int (nI s))]) (st' := [.int (nI s), .ref 0]) (μ' := μ) (by rfl) ?_
          refine zq_call hc (z_cx_ok hH (by rfl)) (gc_at4 d' (by omega) μ s hs4) (by decide +kernel) (fun r9 μ9 hq => ?_)
          obtain ⟨hμ9, rfl⟩ := hq
          rw [hμ9]
          clear hμ9 μ9
          show Z 0 38 [(0, .ref 0), (1, .int (nI s))] [.ref (18 + 8 * s)] μ
          refine z_rcs hc hH 2 (pc' := 40) (lv' := [(2, .ref (18 + 8 * s)), (0, .ref 0), (1, .int (nI s))]) (st' := [.ref (18 + 8 * s)]) (μ' := μ) (by rfl) ?_
          refine zq_gfi hc hH (by rfl) (ci := 1) (f := 9) (by rfl) (sj (P := fun i => okf 79 1 9 (18 + 8 * i)) hs4 (by decide +kernel)) (by rfl) ?_
          refine zq_if hc hH (by rfl) (tg := 53) (by rfl) (fun h12 => ?_) (fun h12 => ?_)
          · have h12 : (decide ((μ.1 (18 + 8 * s) 9) = 0)) = false := decide_eq_false (cm_ne.mp h12)
            refine z_rcs hc hH 1 (pc' := 54) (lv' := [(2, .ref (18 + 8 * s)), (0, .ref 0), (1, .int (nI s))]) (st' := [.int 0]) (μ' := μ) (by rfl) ?_
            exact hr 0 54 _ _ _ (some (.int 0)) (by decide +kernel) (z_rx_ok hH (by rfl)) (Or.inl ⟨by simp only [clC, h1, h9, h11, h12, Bool.true_or, Bool.or_true, Bool.false_or, Bool.or_false, Bool.true_and, Bool.and_true, Bool.false_and, Bool.and_false, Bool.not_true, Bool.not_false], rfl, rfl⟩)
          · have h12 : (decide ((μ.1 (18 + 8 * s) 9) = 0)) = true := decide_eq_true (cn_ne.mp h12)
            refine z_rcs hc hH 1 (pc' := 47) (lv' := [(2, .ref (18 + 8 * s)), (0, .ref 0), (1, .int (nI s))]) (st' := [.ref (18 + 8 * s)]) (μ' := μ) (by rfl) ?_
            refine zq_gfi hc hH (by rfl) (ci := 1) (f := 8) (by rfl) (sj (P := fun i => okf 79 1 8 (18 + 8 * i)) hs4 (by decide +kernel)) (by rfl) ?_
            refine zq_if hc hH (by rfl) (tg := 55) (by rfl) (fun h13 => ?_) (fun h13 => ?_)
            · have h13 : (decide ((μ.1 (18 + 8 * s) 8) = 0)) = true := decide_eq_true (cm_eq9.mp h13)
              refine z_rcs hc hH 1 (pc' := 56) (lv' := [(2, .ref (18 + 8 * s)), (0, .ref 0), (1, .int (nI s))]) (st' := [.ref (18 + 8 * s)]) (μ' := μ) (by rfl) ?_
              refine zq_gfr hc hH (by rfl) (ci := 1) (f := 0) (q := 19 + 8 * s) (by rfl) (sj (P := fun i => okf 79 1 0 (18 + 8 * i)) hs4 (by decide +kernel)) (by rfl) (sj (P := fun i => Nat.beq (z_gr (18 + 8 * i) 0) (19 + 8 * i)) hs4 (by decide +kernel)) ?_
              refine zq_call hc (z_clv9 hH (by rfl) (by rfl) (by rfl) (by rfl) (sj (P := fun i => okr 79 2 (19 + 8 * i)) hs4 (by decide +kernel)) (by rfl) (by rfl)) (hwt d' (by omega)) (by decide +kernel) (fun r9 μ9 hq => ?_)
              obtain ⟨hμ9, rfl⟩ := hq
              rw [hμ9]
              clear hμ9 μ9
              show Z 0 62 [(2, .ref (18 + 8 * s)), (0, .ref 0), (1, .int (nI s))] [.long wt] μ
              refine z_rcs hc hH 3 (pc' := 65) (lv' := [(3, .long wt), (2, .ref (18 + 8 * s)), (0, .ref 0), (1, .int (nI s))]) (st' := [.ref 0, .long wt]) (μ' := μ) (by rfl) ?_
              refine zq_gfi hc hH (by rfl) (ci := 5) (f := 15) (by rfl) (by decide +kernel) (by rfl) ?_
              rw [hc15]
              refine zq_call hc (z_cx_ok hH (by rfl)) (fb_X6_holds d' (by omega) μ wt (nI c)) (by decide +kernel) (fun r9 μ9 hq => ?_)
              obtain ⟨hμ9, rfl⟩ := hq
              rw [hμ9]
              clear hμ9 μ9
              show Z 0 71 [(3, .long wt), (2, .ref (18 + 8 * s)), (0, .ref 0), (1, .int (nI s))] [.int (nB (xHd wt (nI c)))] μ
              refine zq_if hc hH (by rfl) (tg := 85) (by rfl) (fun h14 => ?_) (fun h14 => ?_)
              · have h14 : (xHd wt (nI c)) = false := nB_z.mp (cm_eq9.mp h14)
                refine z_rcs hc hH 1 (pc' := 86) (lv' := [(3, .long wt), (2, .ref (18 + 8 * s)), (0, .ref 0), (1, .int (nI s))]) (st' := [.int 0]) (μ' := μ) (by rfl) ?_
                exact hr 0 86 _ _ _ (some (.int 0)) (by decide +kernel) (z_rx_ok hH (by rfl)) (Or.inl ⟨by simp only [clC, h1, h9, h11, h12, h13, h14, Bool.true_or, Bool.or_true, Bool.false_or, Bool.or_false, Bool.true_and, Bool.and_true, Bool.false_and, Bool.and_false, Bool.not_true, Bool.not_false], rfl, rfl⟩)
              · have h14 : (xHd wt (nI c)) = true := nB_n.mp (cn_eq.mp h14)
                refine z_rcs hc hH 2 (pc' := 76) (lv' := [(3, .long wt), (2, .ref (18 + 8 * s)), (0, .ref 0), (1, .int (nI s))]) (st' := [.ref (18 + 8 * s), .long wt]) (μ' := μ) (by rfl) ?_
                refine zq_gfl hc hH (by rfl) (ci := 1) (f := 3) (by rfl) (sj (P := fun i => okf 79 1 3 (18 + 8 * i)) hs4 (by decide +kernel)) (by rfl) ?_
                refine z_rcs hc hH 3 (pc' := 82) (lv' := [(3, .long wt), (2, .ref (18 + 8 * s)), (0, .ref 0), (1, .int (nI s))]) (st' := [.int (lg_cmp (wt &&& (μ.2.1 (18 + 8 * s) 3)) 0)]) (μ' := μ) (by rfl) ?_
                refine zq_if hc hH (by rfl) (tg := 87) (by rfl) (fun h15 => ?_) (fun h15 => ?_)
                · have h15 : (decide ((lg_cmp (wt &&& (μ.2.1 (18 + 8 * s) 3)) 0) = 0)) = true := decide_eq_true (cm_eq9.mp h15)
                  refine z_rcs hc hH 3 (pc' := 90) (lv' := [(3, .long wt), (2, .ref (18 + 8 * s)), (0, .ref 0), (1, .int (nI s))]) (st' := [.int 0, .int (nI s), .ref 0]) (μ' := μ) (by rfl) ?_
                  refine zq_call hc (z_cx_ok hH (by rfl)) (hwg d' (by omega)) (by decide +kernel) (fun r9 μ9 hq => ?_)
                  obtain ⟨μj, hJ, rfl, rfl⟩ := hq
                  show Z 0 93 [(3, .long wt), (2, .ref (18 + 8 * s)), (0, .ref 0), (1, .int (nI s))] [.int (μj.1 4 0)] (pS μj s c (-1))
                  refine zq_if hc hH (by rfl) (tg := 98) (by rfl) (fun h16 => ?_) (fun h16 => ?_)
                  · have h16 : (decide ((μj.1 4 0) = 0)) = false := decide_eq_false (cm_ne.mp h16)
                    refine z_rcs hc hH 2 (pc' := 100) (lv' := [(3, .long wt), (2, .ref (18 + 8 * s)), (0, .ref 0), (1, .int (nI s))]) (st' := [.int 1, .ref (18 + 8 * s)]) (μ' := pS μj s c (-1)) (by rfl) ?_
                    refine zq_pfb hc hH (by rfl) (ci := 1) (f := 9) (by rfl) (sj (P := fun i => okf 79 1 9 (18 + 8 * i)) hs4 (by decide +kernel)) (by rfl) (by decide) ?_
                    show Z 0 103 [(3, .long wt), (2, .ref (18 + 8 * s)), (0, .ref 0), (1, .int (nI s))] [] (z_ui (pS μj s c (-1)) (18 + 8 * s) 9 1)
                    refine z_rcs0 hc hH 1 (pc' := 104) (lv' := [(3, .long wt), (2, .ref (18 + 8 * s)), (0, .ref 0), (1, .int (nI s))]) (st' := [.int 1]) (by rfl) ?_
                    exact hr 0 104 _ _ _ (some (.int 1)) (by decide +kernel) (z_rx_ok hH (by rfl)) (Or.inr ⟨by simp only [clC, h1, h9, h11, h12, h13, h14, h15, Bool.true_or, Bool.or_true, Bool.false_or, Bool.or_false, Bool.true_and, Bool.and_true, Bool.false_and, Bool.and_false, Bool.not_true, Bool.not_false], μj, hJ, Or.inr ⟨h16, rfl, rfl⟩⟩)
                  · have h16 : (decide ((μj.1 4 0) = 0)) = true := decide_eq_true (cn_ne.mp h16)
                    refine z_rcs hc hH 1 (pc' := 97) (lv' := [(3, .long wt), (2, .ref (18 + 8 * s)), (0, .ref 0), (1, .int (nI s))]) (st' := [.int 0]) (μ' := pS μj s c (-1)) (by rfl) ?_
                    exact hr 0 97 _ _ _ (some (.int 0)) (by decide +kernel) (z_rx_ok hH (by rfl)) (Or.inr ⟨by simp only [clC, h1, h9, h11, h12, h13, h14, h15, Bool.true_or, Bool.or_true, Bool.false_or, Bool.or_false, Bool.true_and, Bool.and_true, Bool.false_and, Bool.and_false, Bool.not_true, Bool.not_false], μj, hJ, Or.inl ⟨h16, rfl, rfl⟩⟩)
                · have h15 : (decide ((lg_cmp (wt &&& (μ.2.1 (18 + 8 * s) 3)) 0) = 0)) = false := decide_eq_false (cn_eq.mp h15)
                  refine z_rcs hc hH 1 (pc' := 86) (lv' := [(3, .long wt), (2, .ref (18 + 8 * s)), (0, .ref 0), (1, .int (nI s))]) (st' := [.int 0]) (μ' := μ) (by rfl) ?_
                  exact hr 0 86 _ _ _ (some (.int 0)) (by decide +kernel) (z_rx_ok hH (by rfl)) (Or.inl ⟨by simp only [clC, h1, h9, h11, h12, h13, h14, h15, Bool.true_or, Bool.or_true, Bool.false_or, Bool.or_false, Bool.true_and, Bool.and_true, Bool.false_and, Bool.and_false, Bool.not_true, Bool.not_false], rfl, rfl⟩)
            · have h13 : (decide ((μ.1 (18 + 8 * s) 8) = 0)) = false := decide_eq_false (cn_eq.mp h13)
              refine z_rcs hc hH 1 (pc' := 54) (lv' := [(2, .ref (18 + 8 * s)), (0, .ref 0), (1, .int (nI s))]) (st' := [.int 0]) (μ' := μ) (by rfl) ?_
              exact hr 0 54 _ _ _ (some (.int 0)) (by decide +kernel) (z_rx_ok hH (by rfl)) (Or.inl ⟨by simp only [clC, h1, h9, h11, h12, h13, Bool.true_or, Bool.or_true, Bool.false_or, Bool.or_false, Bool.true_and, Bool.and_true, Bool.false_and, Bool.and_false, Bool.not_true, Bool.not_false], rfl, rfl⟩)
        · have h11 : (decide ((nI s) = (nI t))) = true := decide_eq_true (cn_ne.mp h11)
          refine z_rcs hc hH 1 (pc' := 32) (lv' := [(0, .ref 0), (1, .int (nI s))]) (st' := [.int 0]) (μ' := μ) (by rfl) ?_
          exact hr 0 32 _ _ _ (some (.int 0)) (by decide +kernel) (z_rx_ok hH (by rfl)) (Or.inl ⟨by simp only [clC, h1, h9, h11, Bool.true_or, Bool.or_true, Bool.false_or, Bool.or_false, Bool.true_and, Bool.and_true, Bool.false_and, Bool.and_false, Bool.not_true, Bool.not_false], rfl, rfl⟩)
