/-! what the checker's states say; its steps on stack and locals -/
def a_bi (b : aB) (x : Int32) : Prop := b.1 ≤ x.toInt ∧ x.toInt ≤ b.2
def a_bj (b : aB) (x : Int64) : Prop := b.1 ≤ x.toInt ∧ x.toInt ≤ b.2
def a_ok (q : aI) (v : Value) : Prop := match q.1 with
  | 0 => ∃ x : Int32, v = .int x ∧ a_bi q.2.1 x
  | 1 => ∃ x : Int64, v = .long x ∧ a_bj q.2.1 x
  | _ => ∃ r, r ∈ q.2.2.1 ∧ v = .ref r
def a_num (v : Value) : Int := match v with
  | .int x => x.toInt
  | _ => 0
def a_Tr (T : List aI) (ρ : List Value) : Prop := T.length = ρ.length ∧ ∀ (n : Nat) (q : aI), T[n]? = some q → ∃ v, ρ[n]? = some v ∧ a_ok q v ∧ ∃ w, ρ[q.2.2.2.1]? = some w ∧ a_num v = a_num w + q.2.2.2.2
def a_Sr (ρ : List Value) (sa : List Nat) (st : List Value) : Prop := sa.map (fun s => ρ[s]?) = st.map some
def a_Lr (ρ : List Value) (la : List (Nat × Nat)) (lv : zL) : Prop := ∀ i s, z_lk la i = some s → ∃ v, ρ[s]? = some v ∧ z_lk lv i = some v
theorem a_fit_ok {b : aB} {x : Int32} (h : -2147483648 ≤ b.1 → b.2 ≤ 2147483647 → a_bi b x) : a_bi (a_fit b) x := by
  unfold a_fit
  cases hq : (decide (-2147483648 ≤ b.1) && decide (b.2 ≤ 2147483647)) with
  | false => exact bI_top x
  | true =>
    rw [Bool.and_eq_true, decide_eq_true_iff, decide_eq_true_iff] at hq
    exact h hq.1 hq.2
theorem a_eq_ok {b : aB} {x : Int32} {c : Int} (h : a_eq b c = true) (hx : a_bi b x) : x.toInt = c := by
  unfold a_eq at h
  rw [Bool.and_eq_true, decide_eq_true_iff, decide_eq_true_iff] at h
  have h1 := hx.1
  have h2 := hx.2
  omega
theorem a_add_ok {a b : aB} {x y : Int32} (hx : a_bi a x) (hy : a_bi b y) : a_bi (a_add a b) (x + y) := a_fit_ok (fun h1 h2 => bI_add rfl hx hy ⟨h1, Int.le_refl _, Int.le_refl _, h2⟩)
theorem a_sub_ok {a b : aB} {x y : Int32} (hx : a_bi a x) (hy : a_bi b y) : a_bi (a_sub a b) (x - y) := a_fit_ok (fun h1 h2 => bI_sub rfl hx hy ⟨h1, Int.le_refl _, Int.le_refl _, h2⟩)
theorem a_neg_ok {a : aB} {x : Int32} (hx : a_bi a x) : a_bi (a_neg a) (-x) := a_fit_ok (fun h1 h2 => bI_neg rfl hx ⟨h1, Int.le_refl _, Int.le_refl _, h2⟩)
theorem a_mul_ok {a b : aB} {x y : Int32} (hx : a_bi a x) (hy : a_bi b y) : a_bi (a_mul a b) (x * y) := by
  unfold a_mul a_cst
  cases hq : (decide (b.1 = b.2) && decide (0 ≤ b.1)) with
  | true =>
    rw [Bool.and_eq_true, decide_eq_true_iff, decide_eq_true_iff] at hq
    have hy' : bI b.1 b.1 y := ⟨hy.1, by have := hy.2; omega⟩
    exact a_fit_ok (fun h1 h2 => bI_mulr rfl hx hy' ⟨hq.2, h1, Int.le_refl _, Int.le_refl _, h2⟩)
  | false =>
    cases hq2 : (decide (a.1 = a.2) && decide (0 ≤ a.1)) with
    | true =>
      rw [Bool.and_eq_true, decide_eq_true_iff, decide_eq_true_iff] at hq2
      have hx' : bI a.1 a.1 x := ⟨hx.1, by have := hx.2; omega⟩
      exact a_fit_ok (fun h1 h2 => bI_mull rfl hy hx' ⟨hq2.2, h1, Int.le_refl _, Int.le_refl _, h2⟩)
    | false => exact bI_top _
theorem a_i32 {x : Int32} {n : Int} (m : Int32) (hm : m.toInt = n) (h : x.toInt = n) : x = m := Int32.toInt_inj.mp (h.trans hm.symm)
theorem a_and_ok {a b : aB} {x y : Int32} (_ : a_bi a x) (hy : a_bi b y) : a_bi (a_and a b) (x &&& y) := by
  unfold a_and
  cases h1 : a_eq b 3 with
  | true =>
    have := a_i32 3 rfl (a_eq_ok h1 hy)
    exact bI_mask (k := 2) (g := 3) rfl (by rw [this]; rfl) (by decide)
  | false =>
    cases h2 : a_eq b 63 with
    | true =>
      have := a_i32 63 rfl (a_eq_ok h2 hy)
      exact bI_mask (k := 6) (g := 63) rfl (by rw [this]; rfl) (by decide)
    | false =>
      cases h3 : a_eq b 31 with
      | true =>
        have := a_i32 31 rfl (a_eq_ok h3 hy)
        exact bI_mask (k := 5) (g := 31) rfl (by rw [this]; rfl) (by decide)
      | false => exact bI_top _
theorem a_div_ok {a b : aB} {x y : Int32} (hx : a_bi a x) (hy : a_bi b y) : a_bi (a_div a b) (x / y) := by
  unfold a_div a_cst
  cases hq : (decide (b.1 = b.2) && (decide (0 < b.1) && decide (0 ≤ a.1))) with
  | true =>
    rw [Bool.and_eq_true, Bool.and_eq_true, decide_eq_true_iff, decide_eq_true_iff, decide_eq_true_iff] at hq
    have hy' : bI b.1 b.1 y := ⟨hy.1, by have := hy.2; omega⟩
    exact bI_divn rfl hx hy' ⟨hq.2.2, hq.2.1, Int.le_refl _, Int.le_refl _⟩
  | false => exact bI_top _
theorem a_rem_eq {x y : Int32} (hx : 0 ≤ x.toInt) (hy : 0 < y.toInt) : (x - x / y * y).toInt = x.toInt % y.toInt := by
  have hb := bI_top x
  have e1 := lg_idiv_nonneg (x := x) (y := y) (by omega) (by omega)
  have q1 := Int.emod_nonneg x.toInt (show y.toInt ≠ 0 by omega)
  have q3 := Int.mul_ediv_add_emod x.toInt y.toInt
  have q4 : x.toInt / y.toInt * y.toInt = y.toInt * (x.toInt / y.toInt) := Int.mul_comm _ _
  have q5 : 0 ≤ x.toInt / y.toInt * y.toInt := Int.mul_nonneg (Int.ediv_nonneg hx (by omega)) (by omega)
  obtain ⟨hb1, hb2⟩ := hb
  have e2 : (x / y * y).toInt = x.toInt / y.toInt * y.toInt := by
    rw [Jvm.Kit.i32_mul (by rw [e1]; omega) (by rw [e1]; omega), e1]
  have e3 := Jvm.Kit.i32_sub (x := x) (y := x / y * y) (by rw [e2]; omega) (by rw [e2]; omega)
  rw [e3, e2]
  omega
theorem a_rem_ok {a b : aB} {x y : Int32} (hx : a_bi a x) (hy : a_bi b y) : a_bi (a_rem a b) (x - x / y * y) := by
  unfold a_rem a_cst
  cases hq : (decide (b.1 = b.2) && (decide (0 < b.1) && decide (0 ≤ a.1))) with
  | true =>
    rw [Bool.and_eq_true, Bool.and_eq_true, decide_eq_true_iff, decide_eq_true_iff, decide_eq_true_iff] at hq
    obtain ⟨x1, x2⟩ := hx
    obtain ⟨y1, y2⟩ := hy
    have hy0 : y.toInt = b.1 := by omega
    have e := a_rem_eq (x := x) (y := y) (by omega) (by omega)
    rw [hy0] at e
    have q1 := Int.emod_nonneg x.toInt (show b.1 ≠ 0 by omega)
    have q2 := Int.emod_lt_of_pos x.toInt (show 0 < b.1 by omega)
    cases hc : decide (a.1 = a.2) with
    | true =>
      have hc := of_decide_eq_true hc
      have hx0 : x.toInt = a.1 := by omega
      rw [hx0] at e
      exact ⟨by show a.1 % b.1 ≤ _; omega, by show _ ≤ a.1 % b.1; omega⟩
    | false => exact ⟨by show (0 : Int) ≤ _; omega, by show _ ≤ b.1 - 1; omega⟩
  | false => exact bI_top _
theorem a_shl_ok {a b : aB} {x y : Int32} (hx : a_bi a x) (hy : a_bi b y) : a_bi (a_shl a b) (x <<< (y &&& 31)) := by
  unfold a_shl
  cases hq : (a_eq a 1 && (decide (0 ≤ b.1) && decide (b.2 ≤ 4))) with
  | true =>
    rw [Bool.and_eq_true, Bool.and_eq_true, decide_eq_true_iff, decide_eq_true_iff] at hq
    have hx1 := a_i32 1 rfl (a_eq_ok hq.1 hx)
    have h1 := hy.1
    have h2 := hy.2
    subst hx1
    have h3 : y.toInt = 0 ∨ y.toInt = 1 ∨ y.toInt = 2 ∨ y.toInt = 3 ∨ y.toInt = 4 := by omega
    rcases h3 with h | h | h | h | h
    · rw [a_i32 0 rfl h]; exact ⟨by decide, by decide⟩
    · rw [a_i32 1 rfl h]; exact ⟨by decide, by decide⟩
    · rw [a_i32 2 rfl h]; exact ⟨by decide, by decide⟩
    · rw [a_i32 3 rfl h]; exact ⟨by decide, by decide⟩
    · rw [a_i32 4 rfl h]; exact ⟨by decide, by decide⟩
  | false => exact bI_top _
theorem a_nz_ok {b : aB} {y : Int32} (h : a_nz b = true) (hy : a_bi b y) : (y == 0) = false := by
  unfold a_nz at h
  rw [Bool.or_eq_true, decide_eq_true_iff, decide_eq_true_iff] at h
  rw [beq_eq_false_iff_ne]
  exact bI_ne hy h
theorem a_nzj_ok {b : aB} {y : Int64} (h : a_nz b = true) (hy : a_bj b y) : (y == 0) = false := by
  unfold a_nz at h
  rw [Bool.or_eq_true, decide_eq_true_iff, decide_eq_true_iff] at h
  rw [beq_eq_false_iff_ne]
  exact bL_ne hy h
theorem a_topj (x : Int64) : a_bj aTJ x := by
  have h1 := Int64.le_toInt x
  have h2 := Int64.toInt_lt x
  exact ⟨by show (-9223372036854775808 : Int) ≤ _; omega, by show _ ≤ (9223372036854775807 : Int); omega⟩
theorem a_lus_ok {a b : aB} {x : Int64} {y : Int32} (hy : a_bi b y) : a_bj (a_lus a b) (x.toUInt64 >>> (y.toInt64.toUInt64 &&& Int64.toUInt64 63)).toInt64 := by
  unfold a_lus
  cases hq : a_eq b 33 with
  | true =>
    have := a_i32 33 rfl (a_eq_ok hq hy)
    subst this
    exact bL_s33 (s := ((33 : Int32).toInt64.toUInt64 &&& Int64.toUInt64 63)) (by decide) rfl
  | false => exact a_topj _
theorem a_lrm_ok {a b : aB} {x y : Int64} (hx : a_bj a x) (hy : a_bj b y) : a_bj (a_lrm a b) (x - x / y * y) := by
  unfold a_lrm
  cases hq : (decide (0 ≤ a.1) && decide (0 < b.1)) with
  | true =>
    rw [Bool.and_eq_true, decide_eq_true_iff, decide_eq_true_iff] at hq
    exact bL_remn rfl hx hy ⟨hq.1, hq.2, Int.le_refl _⟩
  | false => exact a_topj _
/-! pushing a value -/
theorem a_at_app {ρ : List Value} {w v : Value} {s : Nat} (h : ρ[s]? = some v) : (ρ ++ [w])[s]? = some v := by
  rw [List.getElem?_append_left (List.getElem?_eq_some_iff.mp h).1]
  exact h
theorem a_Sr_app {ρ : List Value} {w : Value} {sa : List Nat} {st : List Value} (h : a_Sr ρ sa st) : a_Sr (ρ ++ [w]) sa st := by
  unfold a_Sr at h ⊢
  induction sa generalizing st with
  | nil => cases st with
    | nil => rfl
    | cons v r => cases h
  | cons s r ih => cases st with
    | nil => cases h
    | cons v t =>
      simp only [List.map_cons, List.cons.injEq] at h ⊢
      exact ⟨a_at_app h.1, ih h.2⟩
theorem a_Lr_app {ρ : List Value} {w : Value} {la : List (Nat × Nat)} {lv : zL} (h : a_Lr ρ la lv) : a_Lr (ρ ++ [w]) la lv := fun i s hs => by
  obtain ⟨v, h1, h2⟩ := h i s hs
  exact ⟨v, a_at_app h1, h2⟩
theorem a_Tr_app {T : List aI} {ρ : List Value} {q : aI} {w : Value} (h : a_Tr T ρ) (hq : a_ok q w) (hr : ∃ u, (ρ ++ [w])[q.2.2.2.1]? = some u ∧ a_num w = a_num u + q.2.2.2.2) : a_Tr (T ++ [q]) (ρ ++ [w]) := by
  refine ⟨by rw [List.length_append, List.length_append, h.1]; rfl, fun n q' hn => ?_⟩
  rcases Nat.lt_or_ge n T.length with hl | hl
  · rw [List.getElem?_append_left hl] at hn
    obtain ⟨v, h1, h2, u, h3, h4⟩ := h.2 n q' hn
    exact ⟨v, a_at_app h1, h2, u, a_at_app h3, h4⟩
  · rw [List.getElem?_append_right hl] at hn
    have hn0 : n - T.length = 0 := by
      rcases Nat.eq_zero_or_pos (n - T.length) with e | e
      · exact e
      · rw [List.getElem?_eq_none (by show 1 ≤ _; omega)] at hn
        cases hn
    rw [hn0] at hn
    cases hn
    have hnn : n = ρ.length := by rw [← h.1]; omega
    exact ⟨w, by rw [hnn, List.getElem?_append_right (Nat.le_refl _), Nat.sub_self]; rfl, hq, hr⟩
theorem a_last {T : List aI} {ρ : List Value} {w : Value} (h : a_Tr T ρ) : (ρ ++ [w])[T.length]? = some w := by
  rw [h.1, List.getElem?_append_right (Nat.le_refl _), Nat.sub_self]
  rfl
theorem a_new {T : List aI} {ρ : List Value} {kd : Nat} {b : aB} {R : List Nat} {w : Value} (h : a_Tr T ρ) (hq : a_ok (kd, b, R, (T.length, 0)) w) : a_Tr (T ++ [(kd, b, R, (T.length, 0))]) (ρ ++ [w]) := a_Tr_app h hq ⟨w, a_last h, (Int.add_zero _).symm⟩
theorem a_Sr_push {T : List aI} {ρ : List Value} {w : Value} {sa : List Nat} {st : List Value} (h : a_Tr T ρ) (hs : a_Sr ρ sa st) : a_Sr (ρ ++ [w]) (T.length :: sa) (w :: st) := by
  have := a_Sr_app (w := w) hs
  unfold a_Sr at this ⊢
  rw [List.map_cons, List.map_cons, this, a_last h]
theorem a_int_ok {T : List aI} {ρ : List Value} {n : Nat} {b : aB} (h : a_Tr T ρ) (hn : a_int T n = some b) : ∃ x, ρ[n]? = some (.int x) ∧ a_bi b x := by
  unfold a_int at hn
  split at hn
  · rename_i hq
    cases hn
    obtain ⟨v, h1, ⟨x, rfl, h2⟩, -⟩ := h.2 n _ hq
    exact ⟨x, h1, h2⟩
  · cases hn
theorem a_lng_ok {T : List aI} {ρ : List Value} {n : Nat} {b : aB} (h : a_Tr T ρ) (hn : a_lng T n = some b) : ∃ x, ρ[n]? = some (.long x) ∧ a_bj b x := by
  unfold a_lng at hn
  split at hn
  · rename_i hq
    cases hn
    obtain ⟨v, h1, ⟨x, rfl, h2⟩, -⟩ := h.2 n _ hq
    exact ⟨x, h1, h2⟩
  · cases hn
theorem a_ref_ok {T : List aI} {ρ : List Value} {n : Nat} {R : List Nat} (h : a_Tr T ρ) (hn : a_ref T n = some R) : ∃ r, r ∈ R ∧ ρ[n]? = some (.ref r) := by
  unfold a_ref at hn
  split at hn
  · rename_i hq
    cases hn
    obtain ⟨v, h1, ⟨r, h2, rfl⟩, -⟩ := h.2 n _ hq
    exact ⟨r, h2, h1⟩
  · cases hn
theorem a_Sr_cons {ρ : List Value} {s : Nat} {sa : List Nat} {st : List Value} (h : a_Sr ρ (s :: sa) st) : ∃ v r, st = v :: r ∧ ρ[s]? = some v ∧ a_Sr ρ sa r := by
  unfold a_Sr at h
  cases st with
  | nil => cases h
  | cons v r =>
    simp only [List.map_cons, List.cons.injEq] at h
    exact ⟨v, r, rfl, h.1, h.2⟩
theorem a_Sr_mk {ρ : List Value} {s : Nat} {sa : List Nat} {st : List Value} {v : Value} (h1 : ρ[s]? = some v) (h : a_Sr ρ sa st) : a_Sr ρ (s :: sa) (v :: st) := by
  unfold a_Sr at h ⊢
  rw [List.map_cons, List.map_cons, h, h1]
/-- a value of the stack that is known -/
theorem a_top {ρ : List Value} {s : Nat} {sa : List Nat} {st : List Value} {v : Value} (h : a_Sr ρ (s :: sa) st) (hv : ρ[s]? = some v) : ∃ r, st = v :: r ∧ a_Sr ρ sa r := by
  obtain ⟨w, r, h1, h2, h3⟩ := a_Sr_cons h
  rw [hv] at h2
  cases h2
  exact ⟨r, h1, h3⟩
/-- the state behind a step on the stack: the values are the old ones and perhaps one more -/
def a_stk (T' : List aI) (sa' : List Nat) (ρ : List Value) (st' : List Value) : Prop := ∃ ρ', (ρ' = ρ ∨ ∃ w, ρ' = ρ ++ [w]) ∧ a_Tr T' ρ' ∧ a_Sr ρ' sa' st'
theorem a_stk_pi {T : List aI} {ρ : List Value} {sa : List Nat} {st : List Value} {b : aB} {x : Int32} (h : a_Tr T ρ) (hs : a_Sr ρ sa st) (hx : a_bi b x) : a_stk (a_pi T sa b).1 (a_pi T sa b).2 ρ (.int x :: st) := ⟨ρ ++ [.int x], Or.inr ⟨_, rfl⟩, a_new h ⟨x, rfl, hx⟩, a_Sr_push h hs⟩
theorem a_stk_pj {T : List aI} {ρ : List Value} {sa : List Nat} {st : List Value} {b : aB} {x : Int64} (h : a_Tr T ρ) (hs : a_Sr ρ sa st) (hx : a_bj b x) : a_stk (a_pj T sa b).1 (a_pj T sa b).2 ρ (.long x :: st) := ⟨ρ ++ [.long x], Or.inr ⟨_, rfl⟩, a_new h ⟨x, rfl, hx⟩, a_Sr_push h hs⟩
theorem a_ii_ok {f : aB → aB → Option aB} {g : Int32 → Int32 → Value} {k : Int32 → Int32 → Int32} {T T' : List aI} {ρ : List Value} {sa sa' : List Nat} {st : List Value} (h : a_Tr T ρ) (hs : a_Sr ρ sa st) (hf : a_ii f T sa = some (T', sa')) (hg : ∀ x y, g x y = .int (k x y)) (hk : ∀ bx by' b x y, f bx by' = some b → a_bi bx x → a_bi by' y → a_bi b (k x y)) : ∃ st', z_ii g st = some st' ∧ a_stk T' sa' ρ st' := by
  unfold a_ii at hf
  split at hf
  · split at hf
    · rename_i y x r bx by' h1 h2
      obtain ⟨b, h3, h4⟩ := Option.map_eq_some_iff.mp hf
      obtain ⟨vx, e1, e2⟩ := a_int_ok h h1
      obtain ⟨vy, e3, e4⟩ := a_int_ok h h2
      obtain ⟨s1, rfl, hs1⟩ := a_top hs e3
      obtain ⟨s2, rfl, hs2⟩ := a_top hs1 e1
      refine ⟨g vx vy :: s2, rfl, ?_⟩
      rw [hg]
      have := a_stk_pi h hs2 (hk bx by' b vx vy h3 e2 e4)
      rw [h4] at this
      exact this
    · cases hf
  · cases hf
theorem a_ii0_ok {f : aB → aB → aB} {g : Int32 → Int32 → Value} {k : Int32 → Int32 → Int32} {T T' : List aI} {ρ : List Value} {sa sa' : List Nat} {st : List Value} (h : a_Tr T ρ) (hs : a_Sr ρ sa st) (hf : a_ii (fun x y => bif a_nz y then some (f x y) else none) T sa = some (T', sa')) (hg : ∀ x y, g x y = .int (k x y)) (hk : ∀ bx by' x y, a_bi bx x → a_bi by' y → a_bi (f bx by') (k x y)) : ∃ st', z_ii0 g st = some st' ∧ a_stk T' sa' ρ st' := by
  unfold a_ii at hf
  split at hf
  · split at hf
    · rename_i y x r bx by' h1 h2
      obtain ⟨b, h3, h4⟩ := Option.map_eq_some_iff.mp hf
      obtain ⟨h5, h6⟩ := z_bif h3
      obtain ⟨vx, e1, e2⟩ := a_int_ok h h1
      obtain ⟨vy, e3, e4⟩ := a_int_ok h h2
      obtain ⟨s1, rfl, hs1⟩ := a_top hs e3
      obtain ⟨s2, rfl, hs2⟩ := a_top hs1 e1
      refine ⟨g vx vy :: s2, ?_, ?_⟩
      · show (bif vy == 0 then none else some (g vx vy :: s2)) = _
        rw [a_nz_ok h5 e4]
        rfl
      · rw [hg]
        have := a_stk_pi h hs2 (hk bx by' vx vy e2 e4)
        rw [h6, h4] at this
        exact this
    · cases hf
  · cases hf
theorem a_ll_ok {g : Int64 → Int64 → Value} {k : Int64 → Int64 → Int64} {T T' : List aI} {ρ : List Value} {sa sa' : List Nat} {st : List Value} (h : a_Tr T ρ) (hs : a_Sr ρ sa st) (hf : a_ll (fun _ _ => some aTJ) T sa = some (T', sa')) (hg : ∀ x y, g x y = .long (k x y)) : ∃ st', z_ll g st = some st' ∧ a_stk T' sa' ρ st' := by
  unfold a_ll at hf
  split at hf
  · split at hf
    · rename_i y x r bx by' h1 h2
      obtain ⟨b, h3, h4⟩ := Option.map_eq_some_iff.mp hf
      cases h3
      obtain ⟨vx, e1, e2⟩ := a_lng_ok h h1
      obtain ⟨vy, e3, e4⟩ := a_lng_ok h h2
      obtain ⟨s1, rfl, hs1⟩ := a_top hs e3
      obtain ⟨s2, rfl, hs2⟩ := a_top hs1 e1
      refine ⟨g vx vy :: s2, rfl, ?_⟩
      rw [hg]
      have := a_stk_pj h hs2 (a_topj (k vx vy))
      rw [h4] at this
      exact this
    · cases hf
  · cases hf
theorem a_ll0_ok {g : Int64 → Int64 → Value} {k : Int64 → Int64 → Int64} {f : aB → aB → aB} {T T' : List aI} {ρ : List Value} {sa sa' : List Nat} {st : List Value} (h : a_Tr T ρ) (hs : a_Sr ρ sa st) (hf : a_ll (fun x y => bif a_nz y then some (f x y) else none) T sa = some (T', sa')) (hg : ∀ x y, g x y = .long (k x y)) (hk : ∀ bx by' x y, a_bj bx x → a_bj by' y → a_bj (f bx by') (k x y)) : ∃ st', z_ll0 g st = some st' ∧ a_stk T' sa' ρ st' := by
  unfold a_ll at hf
  split at hf
  · split at hf
    · rename_i y x r bx by' h1 h2
      obtain ⟨b, h3, h4⟩ := Option.map_eq_some_iff.mp hf
      obtain ⟨h5, h6⟩ := z_bif h3
      obtain ⟨vx, e1, e2⟩ := a_lng_ok h h1
      obtain ⟨vy, e3, e4⟩ := a_lng_ok h h2
      obtain ⟨s1, rfl, hs1⟩ := a_top hs e3
      obtain ⟨s2, rfl, hs2⟩ := a_top hs1 e1
      refine ⟨g vx vy :: s2, ?_, ?_⟩
      · show (bif vy == 0 then none else some (g vx vy :: s2)) = _
        rw [a_nzj_ok h5 e4]
        rfl
      · rw [hg]
        have := a_stk_pj h hs2 (hk bx by' vx vy e2 e4)
        rw [h6, h4] at this
        exact this
    · cases hf
  · cases hf
theorem a_li_ok {g : Int64 → Int32 → Value} {k : Int64 → Int32 → Int64} {f : aB → aB → aB} {T T' : List aI} {ρ : List Value} {sa sa' : List Nat} {st : List Value} (h : a_Tr T ρ) (hs : a_Sr ρ sa st) (hf : a_li f T sa = some (T', sa')) (hg : ∀ x y, g x y = .long (k x y)) (hk : ∀ bx by' x y, a_bj bx x → a_bi by' y → a_bj (f bx by') (k x y)) : ∃ st', z_li g st = some st' ∧ a_stk T' sa' ρ st' := by
  unfold a_li at hf
  split at hf
  · split at hf
    · rename_i y x r bx by' h1 h2
      obtain ⟨vx, e1, e2⟩ := a_lng_ok h h1
      obtain ⟨vy, e3, e4⟩ := a_int_ok h h2
      obtain ⟨s1, rfl, hs1⟩ := a_top hs e3
      obtain ⟨s2, rfl, hs2⟩ := a_top hs1 e1
      refine ⟨g vx vy :: s2, rfl, ?_⟩
      rw [hg]
      have := a_stk_pj h hs2 (hk bx by' vx vy e2 e4)
      rw [Option.some.inj hf] at this
      exact this
    · cases hf
  · cases hf
theorem a_cat {T : List aI} {ρ : List Value} {n : Nat} {q : aI} {v : Value} (h : a_Tr T ρ) (hq : T[n]? = some q) (h1 : Nat.beq q.1 1 = false) (hv : ρ[n]? = some v) : v.category = 1 := by
  obtain ⟨w, h2, h3, -⟩ := h.2 n q hq
  rw [hv] at h2
  cases h2
  unfold a_ok at h3
  split at h3
  · obtain ⟨x, rfl, -⟩ := h3; rfl
  · rename_i e
    rw [e] at h1
    cases h1
  · obtain ⟨r, -, rfl⟩ := h3; rfl
theorem a_bif0 {α : Type} {b : Bool} {x y : α} (h : (bif b then none else some x) = some y) : b = false ∧ x = y := by
  cases b with
  | true => cases h
  | false =>
    have h : some x = some y := h
    cases h
    exact ⟨rfl, rfl⟩
set_option maxHeartbeats 1000000 in
theorem a_st_ok {ins : Instr} {T T' : List aI} {ρ : List Value} {sa sa' : List Nat} {st : List Value} (h : a_Tr T ρ) (hs : a_Sr ρ sa st) (hf : a_st ins T sa = some (T', sa')) : ∃ st', z_st ins st = some st' ∧ a_stk T' sa' ρ st' := by
  unfold a_st at hf
  split at hf
  · cases hf; exact ⟨_, rfl, a_stk_pi h hs ⟨Int.le_refl _, Int.le_refl _⟩⟩
  · cases hf; exact ⟨_, rfl, a_stk_pi h hs ⟨Int.le_refl _, Int.le_refl _⟩⟩
  · cases hf; exact ⟨_, rfl, a_stk_pi h hs ⟨Int.le_refl _, Int.le_refl _⟩⟩
  · cases hf; exact ⟨_, rfl, a_stk_pj h hs ⟨Int.le_refl _, Int.le_refl _⟩⟩
  · exact a_ii_ok h hs hf (fun _ _ => rfl) (fun bx by' b x y e h1 h2 => by cases e; exact a_add_ok h1 h2)
  · exact a_ii_ok h hs hf (fun _ _ => rfl) (fun bx by' b x y e h1 h2 => by cases e; exact a_sub_ok h1 h2)
  · exact a_ii_ok h hs hf (fun _ _ => rfl) (fun bx by' b x y e h1 h2 => by cases e; exact a_mul_ok h1 h2)
  · exact a_ii_ok h hs hf (fun _ _ => rfl) (fun bx by' b x y e h1 h2 => by cases e; exact a_and_ok h1 h2)
  · exact a_ii_ok h hs hf (fun _ _ => rfl) (fun bx by' b x y e h1 h2 => by cases e; exact bI_top _)
  · exact a_ii0_ok h hs hf (fun _ _ => rfl) (fun bx by' x y h1 h2 => a_div_ok h1 h2)
  · exact a_ii0_ok h hs hf (fun _ _ => rfl) (fun bx by' x y h1 h2 => a_rem_ok h1 h2)
  · exact a_ii_ok h hs hf (fun _ _ => rfl) (fun bx by' b x y e h1 h2 => by cases e; exact a_shl_ok h1 h2)
  · exact a_ii_ok h hs hf (fun _ _ => rfl) (fun bx by' b x y e h1 h2 => by cases e; exact bI_top _)
  · exact a_ii_ok h hs hf (fun _ _ => rfl) (fun bx by' b x y e h1 h2 => by cases e; exact bI_top _)
  · split at hf
    · obtain ⟨b, h1, h2⟩ := Option.map_eq_some_iff.mp hf
      obtain ⟨x, e1, e2⟩ := a_int_ok h h1
      obtain ⟨s1, rfl, hs1⟩ := a_top hs e1
      have := a_stk_pi h hs1 (a_neg_ok e2)
      rw [h2] at this
      exact ⟨_, rfl, this⟩
    · cases hf
  · exact a_ll_ok h hs hf (fun _ _ => rfl)
  · exact a_ll_ok h hs hf (fun _ _ => rfl)
  · exact a_ll_ok h hs hf (fun _ _ => rfl)
  · exact a_ll_ok h hs hf (fun _ _ => rfl)
  · exact a_ll_ok h hs hf (fun _ _ => rfl)
  · exact a_ll_ok h hs hf (fun _ _ => rfl)
  · exact a_ll0_ok h hs hf (fun _ _ => rfl) (fun bx by' x y h1 h2 => a_lrm_ok h1 h2)
  · split at hf
    · split at hf
      · rename_i y x r bx by' h1 h2
        obtain ⟨vx, e1, e2⟩ := a_lng_ok h h1
        obtain ⟨vy, e3, e4⟩ := a_lng_ok h h2
        obtain ⟨s1, rfl, hs1⟩ := a_top hs e3
        obtain ⟨s2, rfl, hs2⟩ := a_top hs1 e1
        have := a_stk_pi (b := (-1, 1)) (x := lg_cmp vx vy) h hs2 (by
          unfold lg_cmp
          split
          · exact ⟨by decide, by decide⟩
          · split
            · exact ⟨by decide, by decide⟩
            · exact ⟨by decide, by decide⟩)
        rw [Option.some.inj hf] at this
        exact ⟨_, rfl, this⟩
      · cases hf
    · cases hf
  · exact a_li_ok h hs hf (fun _ _ => rfl) (fun _ _ _ _ _ _ => a_topj _)
  · exact a_li_ok h hs hf (fun _ _ => rfl) (fun _ _ _ _ _ _ => a_topj _)
  · exact a_li_ok h hs hf (fun _ _ => rfl) (fun _ _ _ _ _ h2 => a_lus_ok h2)
  · split at hf
    · obtain ⟨b, h1, h2⟩ := Option.map_eq_some_iff.mp hf
      obtain ⟨x, e1, e2⟩ := a_int_ok h h1
      obtain ⟨s1, rfl, hs1⟩ := a_top hs e1
      have := a_stk_pj (b := b) (x := x.toInt64) h hs1 (bL_i2l rfl e2)
      rw [h2] at this
      exact ⟨_, rfl, this⟩
    · cases hf
  · split at hf
    · obtain ⟨b, h1, h2⟩ := Option.map_eq_some_iff.mp hf
      obtain ⟨x, e1, e2⟩ := a_lng_ok h h1
      obtain ⟨s1, rfl, hs1⟩ := a_top hs e1
      have := a_stk_pi (b := a_fit b) (x := x.toInt32) h hs1 (a_fit_ok (fun q1 q2 => bI_l2i rfl e2 ⟨q1, q2⟩))
      rw [h2] at this
      exact ⟨_, rfl, this⟩
    · cases hf
  · split at hf
    · split at hf
      · rename_i x r q hq
        obtain ⟨h1, h2⟩ := a_bif0 hf
        cases h2
        obtain ⟨v, s1, rfl, e1, hs1⟩ := a_Sr_cons hs
        refine ⟨v :: v :: s1, ?_, ρ, Or.inl rfl, h, a_Sr_mk e1 hs⟩
        show (bif Nat.beq v.category 1 then some (v :: v :: s1) else none) = _
        rw [a_cat h hq h1 e1]
        rfl
      · cases hf
    · cases hf
  · split at hf
    · split at hf
      · rename_i x y r q q' hq hq'
        obtain ⟨h1, h2⟩ := a_bif0 hf
        cases h2
        rw [Bool.or_eq_false_iff] at h1
        obtain ⟨v, s1, rfl, e1, hs1⟩ := a_Sr_cons hs
        obtain ⟨w, s2, rfl, e2, hs2⟩ := a_Sr_cons hs1
        refine ⟨v :: w :: v :: w :: s2, ?_, ρ, Or.inl rfl, h, a_Sr_mk e1 (a_Sr_mk e2 hs)⟩
        show (bif Nat.beq v.category 1 && Nat.beq w.category 1 then some (v :: w :: v :: w :: s2) else none) = _
        rw [a_cat h hq h1.1 e1, a_cat h hq' h1.2 e2]
        rfl
      · cases hf
    · cases hf
  · split at hf
    · split at hf
      · rename_i x r q hq
        obtain ⟨h1, h2⟩ := a_bif0 hf
        cases h2
        obtain ⟨v, s1, rfl, e1, hs1⟩ := a_Sr_cons hs
        refine ⟨s1, ?_, ρ, Or.inl rfl, h, hs1⟩
        show (bif Nat.beq v.category 1 then some s1 else none) = _
        rw [a_cat h hq h1 e1]
        rfl
      · cases hf
    · cases hf
  · split at hf
    · obtain ⟨b, h1, h2⟩ := Option.map_eq_some_iff.mp hf
      cases h2
      obtain ⟨x, e1, e2⟩ := a_lng_ok h h1
      obtain ⟨s1, rfl, hs1⟩ := a_top hs e1
      exact ⟨s1, rfl, ρ, Or.inl rfl, h, hs1⟩
    · cases hf
  · cases hf
