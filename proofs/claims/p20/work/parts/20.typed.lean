noncomputable def sr (p : Int32) : Prop := ¬ p < 0 ∧ ¬ (27 : Int32) ≤ p ∧ ¬ (7 : Int32) ≤ (p - p / 9 * 9)
/-! typed cells: a system's cells by their numbers, each of the kind that its number tells -/
noncomputable def wZ (a : Nat → Nat) (n : Nat) (e : Nat → va_E) : va_W := (List.range n).map (fun i => (a i, e i))
theorem wZ_at {a : Nat → Nat} {n : Nat} {e : Nat → va_E} {i : Nat} (h : i < n) : (wZ a n e)[i]? = some (a i, e i) := by
  unfold wZ
  rw [List.getElem?_map, List.getElem?_range h]
  rfl
theorem wZ_len {a : Nat → Nat} {n : Nat} {e : Nat → va_E} : (wZ a n e).length = n := by
  unfold wZ
  rw [List.length_map, List.length_range]
theorem wZ_inv {a : Nat → Nat} {n : Nat} {e : Nat → va_E} {i : Nat} {q : Nat × va_E} (h : (wZ a n e)[i]? = some q) : i < n ∧ q = (a i, e i) := by
  have hi : i < n := by
    have := (List.getElem?_eq_some_iff.mp h).1
    rw [wZ_len] at this
    exact this
  rw [wZ_at hi] at h
  exact ⟨hi, (Option.some.inj h).symm⟩
theorem wZ_set {a : Nat → Nat} {n : Nat} {e : Nat → va_E} {i : Nat} {c : va_E} (h : i < n) : (wZ a n e).set i (a i, c) = wZ a n (va_up e i c) := by
  apply List.ext_getElem?
  intro j
  by_cases hj : j < n
  · rw [wZ_at hj]
    by_cases hij : i = j
    · subst hij
      rw [List.getElem?_set_self (by rw [wZ_len]; exact h)]
      simp [va_up]
    · rw [List.getElem?_set_ne hij, wZ_at hj]
      have : ¬ j = i := fun h => hij h.symm
      simp [va_up, this]
  · rw [List.getElem?_eq_none (by rw [List.length_set, wZ_len]; omega), List.getElem?_eq_none (by rw [wZ_len]; omega)]
theorem wZ_D {A : Nat → Prop} {a : Nat → Nat} {n : Nat} {e : Nat → va_E} (e' : Nat → va_E) (h : va_D A (wZ a n e)) : va_D A (wZ a n e') := by
  refine ⟨fun i j p q hp hq he => ?_, fun k q hk => ?_⟩
  · obtain ⟨hi, rfl⟩ := wZ_inv hp
    obtain ⟨hj, rfl⟩ := wZ_inv hq
    exact h.1 i j _ _ (wZ_at hi) (wZ_at hj) he
  · obtain ⟨hk', rfl⟩ := wZ_inv hk
    exact h.2 k (a k, e k) (wZ_at hk')
theorem wZ_F {A : Nat → Prop} {a : Nat → Nat} {n : Nat} {e : Nat → va_E} {H0 H : Heap} {locs : List Loc} (hD : va_D A (wZ a n e)) (hS : va_S A H0 H locs) (hA : ∀ q, H0.size ≤ q → A q) : ∀ q, va_A (wZ a n e) H.size q → A q := by
  intro q h
  rcases h with ⟨k, c, hk⟩ | h
  · exact hD.2 k _ hk
  · exact hA q (Nat.le_trans hS.1 h)
noncomputable abbrev bI (lo hi : Int) (x : Int32) : Prop := lo ≤ x.toInt ∧ x.toInt ≤ hi
noncomputable abbrev bL (lo hi : Int) (x : Int64) : Prop := lo ≤ x.toInt ∧ x.toInt ≤ hi
noncomputable abbrev mnI : Int := -2147483648
noncomputable abbrev mxI : Int := 2147483647
theorem bI_top (x : Int32) : bI (-2147483648) 2147483647 x := by
  have h1 := Int32.le_toInt x
  have h2 := Int32.toInt_lt x
  exact ⟨by omega, by omega⟩
theorem bI_k {x : Int32} {n : Int} (h : x.toInt = n) : bI n n x := ⟨Int.le_of_eq h.symm, Int.le_of_eq h⟩
theorem bL_k {x : Int64} {n : Int} (h : x.toInt = n) : bL n n x := ⟨Int.le_of_eq h.symm, Int.le_of_eq h⟩
theorem bI_w {a b c d : Int} {x : Int32} (h : bI a b x) (hc : c ≤ a ∧ b ≤ d) : bI c d x := ⟨by omega, by omega⟩
theorem bL_w {a b c d : Int} {x : Int64} (h : bL a b x) (hc : c ≤ a ∧ b ≤ d) : bL c d x := ⟨by omega, by omega⟩
theorem bI_add {a b c d f g : Int} {x y v : Int32} (e : v = x + y) (hx : bI a b x) (hy : bI c d y) (h : -2147483648 ≤ f ∧ f ≤ a + c ∧ b + d ≤ g ∧ g ≤ 2147483647) : bI f g v := by
  obtain ⟨h1, h2⟩ := hx
  obtain ⟨h3, h4⟩ := hy
  subst e
  have := Jvm.Kit.i32_add (x := x) (y := y) (by omega) (by omega)
  exact ⟨by omega, by omega⟩
theorem bI_sub {a b c d f g : Int} {x y v : Int32} (e : v = x - y) (hx : bI a b x) (hy : bI c d y) (h : -2147483648 ≤ f ∧ f ≤ a - d ∧ b - c ≤ g ∧ g ≤ 2147483647) : bI f g v := by
  obtain ⟨h1, h2⟩ := hx
  obtain ⟨h3, h4⟩ := hy
  subst e
  have := Jvm.Kit.i32_sub (x := x) (y := y) (by omega) (by omega)
  exact ⟨by omega, by omega⟩
theorem bI_neg {a b f g : Int} {x v : Int32} (e : v = -x) (hx : bI a b x) (h : -2147483648 ≤ f ∧ f ≤ -b ∧ -a ≤ g ∧ g ≤ 2147483647) : bI f g v := by
  obtain ⟨h1, h2⟩ := hx
  subst e
  have := Jvm.Kit.i32_neg (x := x) (by omega)
  exact ⟨by omega, by omega⟩
theorem bI_mulr {a b c f g : Int} {x y v : Int32} (e : v = x * y) (hx : bI a b x) (hy : bI c c y) (h : 0 ≤ c ∧ -2147483648 ≤ f ∧ f ≤ a * c ∧ b * c ≤ g ∧ g ≤ 2147483647) : bI f g v := by
  obtain ⟨h1, h2⟩ := hx
  obtain ⟨h3, h4⟩ := hy
  have hc : y.toInt = c := by omega
  have e1 : a * c ≤ x.toInt * c := Int.mul_le_mul_of_nonneg_right h1 h.1
  have e2 : x.toInt * c ≤ b * c := Int.mul_le_mul_of_nonneg_right h2 h.1
  subst e
  have := Jvm.Kit.i32_mul (x := x) (y := y) (by rw [hc]; omega) (by rw [hc]; omega)
  rw [hc] at this
  exact ⟨by omega, by omega⟩
theorem bI_mull {a b c f g : Int} {x y v : Int32} (e : v = y * x) (hx : bI a b x) (hy : bI c c y) (h : 0 ≤ c ∧ -2147483648 ≤ f ∧ f ≤ a * c ∧ b * c ≤ g ∧ g ≤ 2147483647) : bI f g v := bI_mulr (e.trans (Int32.mul_comm y x)) hx hy h
theorem bI_mask {x m v : Int32} {k : Nat} {g : Int} (e : v = x &&& m) (hm : m.toBitVec.toNat = 2 ^ k - 1) (h : k < 32 ∧ (2 ^ k : Int) - 1 ≤ g) : bI 0 g v := by
  subst e
  have := Jvm.Kit.i32_mask x m h.1 hm
  have h1 : (0 : Int) < 2 ^ k := Int.pow_pos (by decide)
  have h2 := Int.emod_nonneg x.toInt (Int.ne_of_gt h1)
  have h3 := Int.emod_lt_of_pos x.toInt h1
  exact ⟨by omega, by omega⟩
theorem bI_remn {a b c g : Int} {x y v : Int32} (e : v = x - x / y * y) (hx : bI a b x) (hy : bI c c y) (h : 0 ≤ a ∧ 0 < c ∧ c - 1 ≤ g ∧ c ≤ 2147483647) : bI 0 g v := by
  obtain ⟨h1, h2⟩ := hx
  obtain ⟨h3, h4⟩ := hy
  have hc : y.toInt = c := by omega
  have hb := (bI_top x)
  have e1 := lg_idiv_nonneg (x := x) (y := y) (by omega) (by omega)
  rw [hc] at e1
  have q1 := Int.emod_nonneg x.toInt (show c ≠ 0 by omega)
  have q2 := Int.emod_lt_of_pos x.toInt (show 0 < c by omega)
  have q3 := Int.mul_ediv_add_emod x.toInt c
  have q4 : x.toInt / c * c = c * (x.toInt / c) := Int.mul_comm _ _
  have e2 : (x / y * y).toInt = x.toInt / c * c := by
    rw [Jvm.Kit.i32_mul (by rw [e1, hc]; omega) (by rw [e1, hc]; omega), e1, hc]
  subst e
  have e3 := Jvm.Kit.i32_sub (x := x) (y := x / y * y) (by rw [e2]; omega) (by rw [e2]; omega)
  rw [e2] at e3
  exact ⟨by omega, by omega⟩
theorem bI_divn {a b c f g : Int} {x y v : Int32} (e : v = x / y) (hx : bI a b x) (hy : bI c c y) (h : 0 ≤ a ∧ 0 < c ∧ f ≤ a / c ∧ b / c ≤ g) : bI f g v := by
  obtain ⟨h1, h2⟩ := hx
  obtain ⟨h3, h4⟩ := hy
  have hc : y.toInt = c := by omega
  have e1 := lg_idiv_nonneg (x := x) (y := y) (by omega) (by omega)
  rw [hc] at e1
  subst e
  have q1 := Int.ediv_le_ediv (show 0 < c by omega) h1
  have q2 := Int.ediv_le_ediv (show 0 < c by omega) h2
  exact ⟨by omega, by omega⟩
theorem bI_eqv {a b : Int} {x v : Int32} (e : v = x) (hx : bI a b x) : bI a b v := by rw [e]; exact hx
theorem bL_i2l {a b : Int} {x : Int32} {v : Int64} (e : v = x.toInt64) (hx : bI a b x) : bL a b v := by
  have := Jvm.Kit.i64_of_i32 x
  subst e
  exact ⟨by omega, by omega⟩
theorem bI_l2i {a b : Int} {x : Int64} {v : Int32} (e : v = x.toInt32) (hx : bL a b x) (h : -2147483648 ≤ a ∧ b ≤ 2147483647) : bI a b v := by
  obtain ⟨h1, h2⟩ := hx
  have := Jvm.Kit.i32_of_i64 (x := x) (by omega) (by omega)
  subst e
  exact ⟨by omega, by omega⟩
theorem bL_add {a b c d f g : Int} {x y v : Int64} (e : v = x + y) (hx : bL a b x) (hy : bL c d y) (h : -9223372036854775808 ≤ f ∧ f ≤ a + c ∧ b + d ≤ g ∧ g ≤ 9223372036854775807) : bL f g v := by
  obtain ⟨h1, h2⟩ := hx
  obtain ⟨h3, h4⟩ := hy
  subst e
  have := Jvm.Kit.i64_add (x := x) (y := y) (by omega) (by omega)
  exact ⟨by omega, by omega⟩
theorem bL_s33 {x v : Int64} {s : UInt64} (hs : s.toNat = 33) (e : v = (x.toUInt64 >>> s).toInt64) : bL 0 2147483647 v := by
  have h1 : v.toBitVec.toNat = x.toBitVec.toNat / 2 ^ 33 := by
    subst e
    show (x.toUInt64 >>> s).toNat = _
    rw [UInt64.toNat_shiftRight, hs, Nat.shiftRight_eq_div_pow]
    rfl
  have h2 : x.toBitVec.toNat < 2 ^ 64 := x.toBitVec.isLt
  have h3 : v.toInt = ((v.toBitVec.toNat : Nat) : Int) := k2_int (by omega)
  exact ⟨by rw [h3, h1]; omega, by rw [h3, h1]; omega⟩
theorem bL_remn {a b c d g : Int} {x y v : Int64} (e : v = x - x / y * y) (hx : bL a b x) (hy : bL c d y) (h : 0 ≤ a ∧ 0 < c ∧ d - 1 ≤ g) : bL 0 g v := by
  obtain ⟨h1, h2⟩ := hx
  obtain ⟨h3, h4⟩ := hy
  have e1 := Jvm.Kit.i64_rem_nonneg (x := x) (y := y) (by omega)
  have q1 := Int.emod_nonneg x.toInt (show y.toInt ≠ 0 by omega)
  have q2 := Int.emod_lt_of_pos x.toInt (show 0 < y.toInt by omega)
  subst e
  exact ⟨by omega, by omega⟩
theorem bL_ne {a b : Int} {x : Int64} (hx : bL a b x) (h : 0 < a ∨ b < 0) : ¬ x = 0 := by
  intro e
  subst e
  have : (0 : Int64).toInt = 0 := rfl
  obtain ⟨h1, h2⟩ := hx
  omega
theorem bI_ne {a b : Int} {x : Int32} (hx : bI a b x) (h : 0 < a ∨ b < 0) : ¬ x = 0 := by
  intro e
  subst e
  have : (0 : Int32).toInt = 0 := rfl
  obtain ⟨h1, h2⟩ := hx
  omega
theorem inB {a b : Int} {n : Nat} {x : Int32} (hx : bI a b x) (h : 0 ≤ a ∧ b < (n : Int)) : vp_in x n := vp_in_iff.mpr ⟨by omega, by omega⟩
theorem rLTl {a b c d g : Int} {x y : Int32} (h : x < y) (hx : bI a b x) (hy : bI c d y) (hg : d - 1 ≤ g) : bI a g x := by
  have := Int32.lt_iff_toInt_lt.mp h
  exact ⟨hx.1, by omega⟩
theorem rLTr {a b c d f : Int} {x y : Int32} (h : x < y) (hx : bI a b x) (hy : bI c d y) (hg : f ≤ a + 1) : bI f d y := by
  have := Int32.lt_iff_toInt_lt.mp h
  exact ⟨by omega, hy.2⟩
theorem rLEl {a b c d g : Int} {x y : Int32} (h : x ≤ y) (hx : bI a b x) (hy : bI c d y) (hg : d ≤ g) : bI a g x := by
  have := Int32.le_iff_toInt_le.mp h
  exact ⟨hx.1, by omega⟩
theorem rLEr {a b c d f : Int} {x y : Int32} (h : x ≤ y) (hx : bI a b x) (hy : bI c d y) (hg : f ≤ a) : bI f d y := by
  have := Int32.le_iff_toInt_le.mp h
  exact ⟨by omega, hy.2⟩
theorem rEQ {a b c d f g : Int} {x y : Int32} (h : x = y) (hx : bI a b x) (hy : bI c d y) (hg : (f ≤ a ∨ f ≤ c) ∧ (b ≤ g ∨ d ≤ g)) : bI f g x := by
  subst h
  exact ⟨by omega, by omega⟩
theorem rNEl {a b c f : Int} {x y : Int32} (h : ¬ x = y) (hx : bI a b x) (hy : bI c c y) (hg : a = c ∧ f = a + 1) : bI f b x := by
  have h1 : ¬ x.toInt = y.toInt := fun q => h (Int32.toInt_inj.mp q)
  exact ⟨by omega, hx.2⟩
theorem rNEh {a b c g : Int} {x y : Int32} (h : ¬ x = y) (hx : bI a b x) (hy : bI c c y) (hg : b = c ∧ g = b - 1) : bI a g x := by
  have h1 : ¬ x.toInt = y.toInt := fun q => h (Int32.toInt_inj.mp q)
  exact ⟨hx.1, by omega⟩
theorem flIn {r x : Int32} {n : Nat} {g : Int} (h : (r = 1 ∧ vp_in x n) ∨ (r = 0 ∧ ¬ vp_in x n)) (c : ¬ r = 0) (hg : (n : Int) - 1 ≤ g) : bI 0 g x := by
  rcases h with ⟨-, h⟩ | ⟨h, -⟩
  · have := vp_in_iff.mp h
    exact ⟨by omega, by omega⟩
  · exact absurd h c
theorem sr_b {x : Int32} (h : sr x) : bI 0 24 x := by
  obtain ⟨h1, h2, h3⟩ := h
  obtain ⟨j, hj, rfl⟩ := vp_in_of (in_of (M := 27) (n := 27) rfl h1 h2) (by decide)
  have h0 := nI_toInt (n := j) (by omega)
  by_cases hq : j ≤ 24
  · exact ⟨by omega, by omega⟩
  · rcases (show j = 25 ∨ j = 26 by omega) with rfl | rfl <;> exact absurd (by decide) h3
theorem flRun {r x : Int32} {g : Int} (h : (r = 1 ∧ sr x) ∨ (r = 0 ∧ ¬ sr x)) (c : ¬ r = 0) (hg : 24 ≤ g) : bI 0 g x := by
  rcases h with ⟨-, h⟩ | ⟨h, -⟩
  · exact bI_w (sr_b h) ⟨by omega, hg⟩
  · exact absurd h c
theorem fl01 {r : Int32} {P : Prop} (h : (r = 1 ∧ P) ∨ (r = 0 ∧ ¬ P)) : bI 0 1 r := by
  rcases h with ⟨rfl, -⟩ | ⟨rfl, -⟩ <;> exact ⟨by decide, by decide⟩
theorem zn01 {x : Int32} (h : bI 0 1 x) : x = 0 ∨ x = 1 := by
  have h1 : (0 : Int32).toInt = 0 := rfl
  have h2 : (1 : Int32).toInt = 1 := rfl
  rcases (show x.toInt = 0 ∨ x.toInt = 1 by omega) with h | h
  · exact Or.inl (Int32.toInt_inj.mp (h.trans h1.symm))
  · exact Or.inr (Int32.toInt_inj.mp (h.trans h2.symm))
theorem znar {x : Int32} (h : bI 0 1 x) : narrow .boolean (.int x) = .int x := by rcases zn01 h with rfl | rfl <;> rfl
theorem zvnar {x : Int32} (h : bI 0 1 x) : vp_nar .boolean x = x := by rcases zn01 h with rfl | rfl <;> decide
theorem incLT {a b c : Int} {x y v : Int32} (e : v = x + y) (hx : bI a b x) (hy : bI c c y) (h : 0 < c ∧ -2147483648 ≤ a + c ∧ b + c ≤ 2147483647) : x.toInt < v.toInt := by
  have := Jvm.Kit.i32_add (x := x) (y := y) (by omega) (by omega)
  subst e
  omega
theorem decLT {a b c : Int} {x y v : Int32} (e : v = x + y) (hx : bI a b x) (hy : bI c c y) (h : c < 0 ∧ -2147483648 ≤ a + c ∧ b + c ≤ 2147483647) : v.toInt < x.toInt := by
  have := Jvm.Kit.i32_add (x := x) (y := y) (by omega) (by omega)
  subst e
  omega
theorem mS0 (x : Int32) : (2147483647 : Int) < x.toInt + ((4294967296 : Nat) : Int) := by
  have := bI_top x
  omega
theorem mSz {x : Int32} (h : (2147483647 : Int) < x.toInt + ((0 : Nat) : Int)) : False := by
  have := bI_top x
  omega
theorem mSs {x v : Int32} {n : Nat} (h : (2147483647 : Int) < x.toInt + ((n + 1 : Nat) : Int)) (hl : x.toInt < v.toInt) : (2147483647 : Int) < v.toInt + (n : Int) := by omega
theorem mD0 (x : Int32) : x.toInt < ((4294967296 : Nat) : Int) - 2147483648 := by
  have := bI_top x
  omega
theorem mDz {x : Int32} (h : x.toInt < ((0 : Nat) : Int) - 2147483648) : False := by
  have := bI_top x
  omega
theorem mDs {x v : Int32} {n : Nat} (h : x.toInt < ((n + 1 : Nat) : Int) - 2147483648) (hl : v.toInt < x.toInt) : v.toInt < (n : Int) - 2147483648 := by omega
/-! kinds of cells -/
noncomputable def okO (ci N : Nat) (sp : Nat → Value → Prop) (c : va_E) : Prop := ∃ fs : List Value, c = .inr (ci, fs) ∧ fs.length = N ∧ ∀ (k : Nat) (v : Value), fs[k]? = some v → sp k v
noncomputable def vI (lo hi : Int) (v : Value) : Prop := ∃ x : Int32, v = .int x ∧ bI lo hi x
noncomputable def vJ (v : Value) : Prop := ∃ x : Int64, v = .long x
noncomputable def vR (t : Nat) (v : Value) : Prop := v = .ref t
noncomputable def okA (cA : ClassId) (n : Nat) (lo hi : Int) (c : va_E) : Prop := ∃ f : Nat → Int32, c = .inl (cA, n, .inl f) ∧ ∀ j, bI lo hi (f j)
noncomputable def okL (cA : ClassId) (n : Nat) (c : va_E) : Prop := ∃ f : Nat → Int64, c = .inl (cA, n, .inr (.inl f))
noncomputable def okR (cA : ClassId) (n : Nat) (t : Nat → Nat) (c : va_E) : Prop := ∃ f : Nat → Option Nat, c = .inl (cA, n, .inr (.inr (.inr (.inr f)))) ∧ ∀ j, j < n → f j = some (t j)
noncomputable def TI (n : Nat) (Ty : Nat → va_E → Prop) (e : Nat → va_E) : Prop := ∀ i, i < n → Ty i (e i)
theorem TI.up {n : Nat} {Ty : Nat → va_E → Prop} {e : Nat → va_E} (h : TI n Ty e) {i : Nat} {c : va_E} (hc : Ty i c) : TI n Ty (va_up e i c) := by
  intro j hj
  unfold va_up
  split
  · rename_i hij
    rw [hij]
    exact hc
  · exact h j hj
theorem okO.set {ci N : Nat} {sp : Nat → Value → Prop} {fs : List Value} {k : Nat} {v : Value} (h : ∀ (k : Nat) (v : Value), fs[k]? = some v → sp k v) (hl : fs.length = N) (hv : sp k v) : okO ci N sp (.inr (ci, fs.set k v)) := by
  refine ⟨_, rfl, by rw [List.length_set]; exact hl, fun j w hj => ?_⟩
  by_cases hjk : k = j
  · subst hjk
    have hlt := (List.getElem?_eq_some_iff.mp hj).1
    rw [List.length_set] at hlt
    rw [List.getElem?_set_self hlt] at hj
    cases hj
    exact hv
  · rw [List.getElem?_set_ne hjk] at hj
    exact h j w hj
theorem okA.st {lo hi : Int} {f : Nat → Int32} (h : ∀ j, bI lo hi (f j)) {i : Nat} {x : Int32} (hx : bI lo hi x) : ∀ j, bI lo hi (upd f i x j) := by
  intro j
  unfold upd
  split
  · exact hx
  · exact h j
section TYP
variable {p : Program} {l : Launch} {e : Env} {R : Room} {s : State} {m : MethodId} {args : Array Value} {below : List Frame} {meth : Method} {c : Code} {H : Heap} {locs : List Loc} {cells slots : Nat} {Q : State → Prop}
variable {cc : ByteArray} {pc : Nat} {ls : Array Slot} {rest : List Value} {D : va_G} {cl : List vw_C} {A : Nat → Prop} {a : Nat → Nat} {tys : List (ClassId × FieldType)} {H0 : Heap} {n : Nat} {Ty : Nat → va_E → Prop} {E : Nat → va_E} {g : JFrame}
theorem hvar (hP : va_P D cl (wZ a n E) H) (hS : va_S A H0 H locs) (kk : ∀ (H : Heap) (locs : List Loc), va_P D cl (wZ a n E) H → va_S A H0 H locs → W p l e R s m args below meth c H locs cells slots Q g) : W p l e R s m args below meth c H locs cells slots Q g := kk H locs hP hS
theorem wk_in (kk : ∀ Wk : Heap → List Loc → JFrame → Prop, (∀ H locs g, Wk H locs g → W p l e R s m args below meth c H locs cells slots Q g) → (∀ H locs g, W p l e R s m args below meth c H locs cells slots Q g → Wk H locs g) → W p l e R s m args below meth c H locs cells slots Q g) : W p l e R s m args below meth c H locs cells slots Q g := kk (fun H locs g => W p l e R s m args below meth c H locs cells slots Q g) (fun _ _ _ h => h) (fun _ _ _ h => h)
theorem tg_v (hexec : p.tables.exec = Jvm.exec) (hb : c.code = cc) {own ref C : String} {T : u_T} {N ci index : Nat} {Ts : List Cond} {sp : Nat → Value → Prop} (hts : ∀ w ∈ Ts, w.before args s = true) (hin : ∀ w ∈ u_ws C T N, w ∈ Ts) (hown : s.vm.findClass own = some m.cls) (hK : va_K D cl tys s) (hP : va_P D cl (wZ a n E) H) (hI : TI n Ty E) (i : Nat) (hi : i < n) (hT : ∀ c, Ty i c → okO ci N sp c) (hc : cl[ci]? = some (C, T, N)) (k : Nat) (hk : k < N) (hlink : (Cond.fieldLink own index ref (T k).2.1 (T k).2.2.1).before args s = true) (hsame : ∀ x, s.fieldFound? (T k).1 (T k).2.1 (T k).2.2.1 = some x → s.fieldFound? ref (T k).2.1 (T k).2.2.1 = some x) (hdg : decode cc pc = .ok (.getfield index, 3))
    (kk : ∀ v : Value, sp k v → W p l e R s m args below meth c H locs cells slots Q (F0 m (pc + 3) ls (v :: rest))) : W p l e R s m args below meth c H locs cells slots Q (F0 m pc ls (.ref (a i) :: rest)) := by
  obtain ⟨fs, h1, h2, h3⟩ := hT _ (hI i hi)
  have hk' : k < fs.length := by rw [h2]; exact hk
  exact va_get hexec hb hts hin hown hK hP i (by rw [wZ_at hi, h1]) hc k hk hlink hsame (List.getElem?_eq_getElem hk') hdg (kk _ (h3 k _ (List.getElem?_eq_getElem hk')))
theorem tg_i (hexec : p.tables.exec = Jvm.exec) (hb : c.code = cc) {own ref C : String} {T : u_T} {N ci index : Nat} {Ts : List Cond} {sp : Nat → Value → Prop} (hts : ∀ w ∈ Ts, w.before args s = true) (hin : ∀ w ∈ u_ws C T N, w ∈ Ts) (hown : s.vm.findClass own = some m.cls) (hK : va_K D cl tys s) (hP : va_P D cl (wZ a n E) H) (hI : TI n Ty E) (i : Nat) (hi : i < n) (hT : ∀ c, Ty i c → okO ci N sp c) (hc : cl[ci]? = some (C, T, N)) (k : Nat) (hk : k < N) (hlink : (Cond.fieldLink own index ref (T k).2.1 (T k).2.2.1).before args s = true) (hsame : ∀ x, s.fieldFound? (T k).1 (T k).2.1 (T k).2.2.1 = some x → s.fieldFound? ref (T k).2.1 (T k).2.2.1 = some x) {lo hh : Int} (hs : sp k = vI lo hh) (hdg : decode cc pc = .ok (.getfield index, 3))
    (kk : ∀ x : Int32, bI lo hh x → W p l e R s m args below meth c H locs cells slots Q (F0 m (pc + 3) ls (.int x :: rest))) : W p l e R s m args below meth c H locs cells slots Q (F0 m pc ls (.ref (a i) :: rest)) := by
  refine tg_v hexec hb hts hin hown hK hP hI i hi hT hc k hk hlink hsame hdg (fun v hv => ?_)
  rw [hs] at hv
  obtain ⟨x, rfl, hx⟩ := hv
  exact kk x hx
theorem tg_j (hexec : p.tables.exec = Jvm.exec) (hb : c.code = cc) {own ref C : String} {T : u_T} {N ci index : Nat} {Ts : List Cond} {sp : Nat → Value → Prop} (hts : ∀ w ∈ Ts, w.before args s = true) (hin : ∀ w ∈ u_ws C T N, w ∈ Ts) (hown : s.vm.findClass own = some m.cls) (hK : va_K D cl tys s) (hP : va_P D cl (wZ a n E) H) (hI : TI n Ty E) (i : Nat) (hi : i < n) (hT : ∀ c, Ty i c → okO ci N sp c) (hc : cl[ci]? = some (C, T, N)) (k : Nat) (hk : k < N) (hlink : (Cond.fieldLink own index ref (T k).2.1 (T k).2.2.1).before args s = true) (hsame : ∀ x, s.fieldFound? (T k).1 (T k).2.1 (T k).2.2.1 = some x → s.fieldFound? ref (T k).2.1 (T k).2.2.1 = some x) (hs : sp k = vJ) (hdg : decode cc pc = .ok (.getfield index, 3))
    (kk : ∀ x : Int64, W p l e R s m args below meth c H locs cells slots Q (F0 m (pc + 3) ls (.long x :: rest))) : W p l e R s m args below meth c H locs cells slots Q (F0 m pc ls (.ref (a i) :: rest)) := by
  refine tg_v hexec hb hts hin hown hK hP hI i hi hT hc k hk hlink hsame hdg (fun v hv => ?_)
  rw [hs] at hv
  obtain ⟨x, rfl⟩ := hv
  exact kk x
theorem tg_r (hexec : p.tables.exec = Jvm.exec) (hb : c.code = cc) {own ref C : String} {T : u_T} {N ci index : Nat} {Ts : List Cond} {sp : Nat → Value → Prop} (hts : ∀ w ∈ Ts, w.before args s = true) (hin : ∀ w ∈ u_ws C T N, w ∈ Ts) (hown : s.vm.findClass own = some m.cls) (hK : va_K D cl tys s) (hP : va_P D cl (wZ a n E) H) (hI : TI n Ty E) (i : Nat) (hi : i < n) (hT : ∀ c, Ty i c → okO ci N sp c) (hc : cl[ci]? = some (C, T, N)) (k : Nat) (hk : k < N) (hlink : (Cond.fieldLink own index ref (T k).2.1 (T k).2.2.1).before args s = true) (hsame : ∀ x, s.fieldFound? (T k).1 (T k).2.1 (T k).2.2.1 = some x → s.fieldFound? ref (T k).2.1 (T k).2.2.1 = some x) (t : Nat) (hs : ∀ v, sp k v → v = .ref t) (hdg : decode cc pc = .ok (.getfield index, 3))
    (kk : W p l e R s m args below meth c H locs cells slots Q (F0 m (pc + 3) ls (.ref t :: rest))) : W p l e R s m args below meth c H locs cells slots Q (F0 m pc ls (.ref (a i) :: rest)) := by
  refine tg_v hexec hb hts hin hown hK hP hI i hi hT hc k hk hlink hsame hdg (fun v hv => ?_)
  rw [hs v hv]
  exact kk
theorem tp_v (hexec : p.tables.exec = Jvm.exec) (hb : c.code = cc) {own ref C : String} {T : u_T} {N ci index : Nat} {Ts : List Cond} {sp : Nat → Value → Prop} (hts : ∀ w ∈ Ts, w.before args s = true) (hin : ∀ w ∈ u_ws C T N, w ∈ Ts) (ty0 : Nat → FieldType) (hty : ∀ k, k < N → parseFieldDescriptor (T k).2.2.1 = some (ty0 k)) (hnm : ∀ a, a < N → ∀ b, b < N → a ≠ b → (T a).2.1 ≠ (T b).2.1) (hown : s.vm.findClass own = some m.cls) (hK : va_K D cl tys s) (hP : va_P D cl (wZ a n E) H) (hI : TI n Ty E) (hD : ∀ E, va_D A (wZ a n E)) (hS0 : va_S A H0 H locs) (i : Nat) (hi : i < n) (hT : ∀ c, Ty i c → okO ci N sp c) (hT' : ∀ c, okO ci N sp c → Ty i c) (hc : cl[ci]? = some (C, T, N)) (k : Nat) (hk : k < N) (hlink : (Cond.fieldLink own index ref (T k).2.1 (T k).2.2.1).before args s = true) (hsame : ∀ x, s.fieldFound? (T k).1 (T k).2.1 (T k).2.2.1 = some x → s.fieldFound? ref (T k).2.1 (T k).2.2.1 = some x) (hfin : (T k).2.2.2 = false) {ty : FieldType} {v : Value} (hd : parseFieldDescriptor (T k).2.2.1 = some ty) (hn : narrow ty v = v) (hfit : fits ty v = true) (hv : sp k v) (hdg : decode cc pc = .ok (.putfield index, 3))
    (kk : ∀ (H1 : Heap) (locs1 : List Loc) (E1 : Nat → va_E), va_P D cl (wZ a n E1) H1 → TI n Ty E1 → va_S A H0 H1 locs1 → W p l e R s m args below meth c H1 locs1 cells slots Q (F0 m (pc + 3) ls rest)) : W p l e R s m args below meth c H locs cells slots Q (F0 m pc ls (v :: .ref (a i) :: rest)) := by
  obtain ⟨fs, h1, h2, h3⟩ := hT _ (hI i hi)
  have hk' : k < fs.length := by rw [h2]; exact hk
  refine va_put hexec hb hts hin ty0 hty hnm hown hK hP (hD E) hS0 i (by rw [wZ_at hi, h1]) hc k hk hlink hsame hfin hd hn hfit hk' hdg (fun H1 locs1 q1 q2 q3 => ?_)
  rw [wZ_set hi] at q1
  exact kk H1 locs1 _ q1 (hI.up (hT' _ (okO.set h3 h2 hv))) q3
theorem ta_i (hexec : p.tables.exec = Jvm.exec) (hb : c.code = cc) (hK : va_K D cl tys s) (hP : va_P D cl (wZ a n E) H) (hI : TI n Ty E) (i : Nat) (hi : i < n) {cA : ClassId} {N : Nat} {lo hh : Int} (hT : ∀ c, Ty i c → okA cA N lo hh c) (t0 : Nat) (ht : tys[t0]? = some (cA, .int)) {x : Int32} (hin : vp_in x N) (hdg : decode cc pc = .ok (.iaload, 1))
    (kk : ∀ v : Int32, bI lo hh v → W p l e R s m args below meth c H locs cells slots Q (F0 m (pc + 1) ls (.int v :: rest))) : W p l e R s m args below meth c H locs cells slots Q (F0 m pc ls (.int x :: .ref (a i) :: rest)) := by
  obtain ⟨f, h1, h2⟩ := hT _ (hI i hi)
  exact va_iald hexec hb hK hP i t0 (by rw [wZ_at hi, h1]) ht hin hdg (kk _ (h2 _))
theorem ts_i (hexec : p.tables.exec = Jvm.exec) (hb : c.code = cc) (hK : va_K D cl tys s) (hP : va_P D cl (wZ a n E) H) (hI : TI n Ty E) (hD : ∀ E, va_D A (wZ a n E)) (hS : va_S A H0 H locs) (i : Nat) (hi : i < n) {cA : ClassId} {N : Nat} {lo hh : Int} (hT : ∀ c, Ty i c → okA cA N lo hh c) (hT' : ∀ c, okA cA N lo hh c → Ty i c) (t0 : Nat) (ht : tys[t0]? = some (cA, .int)) {x v : Int32} (hin : vp_in x N) (hv : bI lo hh v) (hdg : decode cc pc = .ok (.iastore, 1))
    (kk : ∀ (H1 : Heap) (locs1 : List Loc) (E1 : Nat → va_E), va_P D cl (wZ a n E1) H1 → TI n Ty E1 → va_S A H0 H1 locs1 → W p l e R s m args below meth c H1 locs1 cells slots Q (F0 m (pc + 1) ls rest)) : W p l e R s m args below meth c H locs cells slots Q (F0 m pc ls (.int v :: .int x :: .ref (a i) :: rest)) := by
  obtain ⟨f, h1, h2⟩ := hT _ (hI i hi)
  refine va_iast hexec hb hK hP (hD E) hS i t0 (by rw [wZ_at hi, h1]) ht hin hdg (fun H1 locs1 q1 q2 q3 => ?_)
  rw [wZ_set hi] at q1
  exact kk H1 locs1 _ q1 (hI.up (hT' _ ⟨_, rfl, okA.st h2 hv⟩)) q3
theorem ta_z (hexec : p.tables.exec = Jvm.exec) (hb : c.code = cc) (hK : va_K D cl tys s) (hP : va_P D cl (wZ a n E) H) (hI : TI n Ty E) (i : Nat) (hi : i < n) {cA : ClassId} {N : Nat} {lo hh : Int} (hT : ∀ c, Ty i c → okA cA N lo hh c) (t0 : Nat) (ht : tys[t0]? = some (cA, .boolean)) {x : Int32} (hin : vp_in x N) (hdg : decode cc pc = .ok (.baload, 1))
    (kk : ∀ v : Int32, bI lo hh v → W p l e R s m args below meth c H locs cells slots Q (F0 m (pc + 1) ls (.int v :: rest))) : W p l e R s m args below meth c H locs cells slots Q (F0 m pc ls (.int x :: .ref (a i) :: rest)) := by
  obtain ⟨f, h1, h2⟩ := hT _ (hI i hi)
  exact va_zald hexec hb hK hP i t0 (by rw [wZ_at hi, h1]) ht hin hdg (kk _ (h2 _))
theorem ts_z (hexec : p.tables.exec = Jvm.exec) (hb : c.code = cc) (hK : va_K D cl tys s) (hP : va_P D cl (wZ a n E) H) (hI : TI n Ty E) (hD : ∀ E, va_D A (wZ a n E)) (hS : va_S A H0 H locs) (i : Nat) (hi : i < n) {cA : ClassId} {N : Nat} (hT : ∀ c, Ty i c → okA cA N 0 1 c) (hT' : ∀ c, okA cA N 0 1 c → Ty i c) (t0 : Nat) (ht : tys[t0]? = some (cA, .boolean)) {x v : Int32} (hin : vp_in x N) (hv : bI 0 1 v) (hdg : decode cc pc = .ok (.bastore, 1))
    (kk : ∀ (H1 : Heap) (locs1 : List Loc) (E1 : Nat → va_E), va_P D cl (wZ a n E1) H1 → TI n Ty E1 → va_S A H0 H1 locs1 → W p l e R s m args below meth c H1 locs1 cells slots Q (F0 m (pc + 1) ls rest)) : W p l e R s m args below meth c H locs cells slots Q (F0 m pc ls (.int v :: .int x :: .ref (a i) :: rest)) := by
  obtain ⟨f, h1, h2⟩ := hT _ (hI i hi)
  refine va_zast hexec hb hK hP (hD E) hS i t0 (by rw [wZ_at hi, h1]) ht hin hdg (fun H1 locs1 q1 q2 q3 => ?_)
  rw [wZ_set hi, zvnar hv] at q1
  exact kk H1 locs1 _ q1 (hI.up (hT' _ ⟨_, rfl, okA.st h2 hv⟩)) q3
theorem ta_l (hexec : p.tables.exec = Jvm.exec) (hb : c.code = cc) (hK : va_K D cl tys s) (hP : va_P D cl (wZ a n E) H) (hI : TI n Ty E) (i : Nat) (hi : i < n) {cA : ClassId} {N : Nat} (hT : ∀ c, Ty i c → okL cA N c) (t0 : Nat) (ht : tys[t0]? = some (cA, .long)) {x : Int32} (hin : vp_in x N) (hdg : decode cc pc = .ok (.laload, 1))
    (kk : ∀ v : Int64, W p l e R s m args below meth c H locs cells slots Q (F0 m (pc + 1) ls (.long v :: rest))) : W p l e R s m args below meth c H locs cells slots Q (F0 m pc ls (.int x :: .ref (a i) :: rest)) := by
  obtain ⟨f, h1⟩ := hT _ (hI i hi)
  exact va_lald hexec hb hK hP i t0 (by rw [wZ_at hi, h1]) ht hin hdg (kk _)
theorem ts_l (hexec : p.tables.exec = Jvm.exec) (hb : c.code = cc) (hK : va_K D cl tys s) (hP : va_P D cl (wZ a n E) H) (hI : TI n Ty E) (hD : ∀ E, va_D A (wZ a n E)) (hS : va_S A H0 H locs) (i : Nat) (hi : i < n) {cA : ClassId} {N : Nat} (hT : ∀ c, Ty i c → okL cA N c) (hT' : ∀ c, okL cA N c → Ty i c) (t0 : Nat) (ht : tys[t0]? = some (cA, .long)) {x : Int32} {v : Int64} (hin : vp_in x N) (hdg : decode cc pc = .ok (.lastore, 1))
    (kk : ∀ (H1 : Heap) (locs1 : List Loc) (E1 : Nat → va_E), va_P D cl (wZ a n E1) H1 → TI n Ty E1 → va_S A H0 H1 locs1 → W p l e R s m args below meth c H1 locs1 cells slots Q (F0 m (pc + 1) ls rest)) : W p l e R s m args below meth c H locs cells slots Q (F0 m pc ls (.long v :: .int x :: .ref (a i) :: rest)) := by
  obtain ⟨f, h1⟩ := hT _ (hI i hi)
  refine va_last hexec hb hK hP (hD E) hS i t0 (by rw [wZ_at hi, h1]) ht hin hdg (fun H1 locs1 q1 q2 q3 => ?_)
  rw [wZ_set hi] at q1
  exact kk H1 locs1 _ q1 (hI.up (hT' _ ⟨_, rfl⟩)) q3
theorem ta_r (hexec : p.tables.exec = Jvm.exec) (hb : c.code = cc) (hK : va_K D cl tys s) (hP : va_P D cl (wZ a n E) H) (hI : TI n Ty E) (i : Nat) (hi : i < n) {cA : ClassId} {N : Nat} {t : Nat → Nat} {C : String} (hT : ∀ c, Ty i c → okR cA N t c) (t0 : Nat) (ht : tys[t0]? = some (cA, .object C)) {x : Int32} (hin : vp_in x N) (hdg : decode cc pc = .ok (.aaload, 1))
    (kk : ∀ j : Nat, j < N → W p l e R s m args below meth c H locs cells slots Q (F0 m (pc + 1) ls (.ref (t j) :: rest))) : W p l e R s m args below meth c H locs cells slots Q (F0 m pc ls (.int x :: .ref (a i) :: rest)) := by
  obtain ⟨f, h1, h2⟩ := hT _ (hI i hi)
  refine va_aldq hexec hb hK hP i t0 (by rw [wZ_at hi, h1]) ht hin hdg ?_
  rw [h2 _ (in_lt hin)]
  exact kk _ (in_lt hin)
theorem t_recv {ci : Nat} {q : vw_C} {N : Nat} {sp : Nat → Value → Prop} (hK : va_K D cl tys s) (hP : va_P D cl (wZ a n E) H) (hI : TI n Ty E) (i : Nat) (hi : i < n) (hT : ∀ c, Ty i c → okO ci N sp c) (hc : cl[ci]? = some q) : ∃ cell : Cell, H[a i]? = some cell ∧ cell.vm.isStatics = false ∧ s.vm.findClass q.1 = some cell.cls := by
  obtain ⟨fs, h1, h2, h3⟩ := hT _ (hI i hi)
  exact va_recv hK hP hc (by rw [wZ_at hi, h1])
end TYP
/-! what a typed contract asks and gives; the two tables of the class Forms -/
noncomputable def STb (n : String) (A : Nat → Prop) (U : State) (H : Heap) : Prop := ∃ (t : Nat) (f : Nat → Int32), va_Z RX0 n "[I" (.ref t) A U H ∧ va_T .int t 30 (fun j => .int (f j)) A U H
noncomputable def ST (A : Nat → Prop) (U : State) (H : Heap) : Prop := STb "HAN" A U H ∧ STb "OPEN_HAN" A U H
theorem STb.moved {n : String} {A : Nat → Prop} {u U : State} {H : Heap} (hvm : u.vm.Alike U.vm) (h : STb n A u H) : STb n A U H := by
  obtain ⟨t, f, h1, h2⟩ := h
  exact ⟨t, f, h1.moved hvm, h2.moved hvm⟩
theorem STb.kept {n : String} {A : Nat → Prop} {U : State} {H H1 : Heap} (h : STb n A U H) (hq : ∀ a : Nat, a < H.size → ¬ A a → H1[a]? = H[a]?) : STb n A U H1 := by
  obtain ⟨t, f, h1, h2⟩ := h
  exact ⟨t, f, h1.kept hq, h2.kept hq⟩
theorem STb.narrow {n : String} {A B : Nat → Prop} {U : State} {H : Heap} (h : STb n A U H) (hAB : ∀ q, B q → A q) : STb n B U H := by
  obtain ⟨t, f, h1, h2⟩ := h
  exact ⟨t, f, h1.narrow hAB, h2.narrow hAB⟩
theorem ST.moved {A : Nat → Prop} {u U : State} {H : Heap} (hvm : u.vm.Alike U.vm) (h : ST A u H) : ST A U H := ⟨h.1.moved hvm, h.2.moved hvm⟩
theorem ST.kept {A : Nat → Prop} {U : State} {H H1 : Heap} (h : ST A U H) (hq : ∀ a : Nat, a < H.size → ¬ A a → H1[a]? = H[a]?) : ST A U H1 := ⟨h.1.kept hq, h.2.kept hq⟩
theorem ST.narrow {A B : Nat → Prop} {U : State} {H : Heap} (h : ST A U H) (hAB : ∀ q, B q → A q) : ST B U H := ⟨h.1.narrow hAB, h.2.narrow hAB⟩
noncomputable def tq (G : va_G) (k : Nat → ClassId) (ws : va_W) (sz : Nat) (U : State) : Prop := pq G k ws sz U ∧ ST (va_A ws sz) U U.heap
noncomputable def tw (G : va_G) (a : Nat → Nat) (n : Nat) (Ty : Nat → va_E → Prop) (E : Nat → va_E) (t : State) : Prop := va_P G vwCl (wZ a n E) t.heap ∧ TI n Ty E
theorem tq_bl {av : List Value} {G : va_G} {k : Nat → ClassId} {ws : va_W} {sz : Nat} : FrameBlind (va_Pc av (tq G k ws sz)) := fun a U g mk q => ⟨q.1, (pq_bl (av := av) a U g mk ⟨q.1, q.2.1⟩).2, ST.moved (u := U) (U := U.calling g mk a) (Vm.Alike.refl U.vm) q.2.2⟩
theorem tq_pre {av : List Value} {G : va_G} {k : Nat → ClassId} {A : Nat → Prop} {a : Nat → Nat} {n : Nat} {E : Nat → va_E} {H : Heap} {s : State} {locs : List Loc} (hP : va_P G vwCl (wZ a n E) H) (hD : ∀ E, va_D A (wZ a n E)) (hK : va_K G vwCl (tyF k) s) (hN : NW s) (hST : ST A s s.heap) (hS : va_S A s.heap H locs) (hA : ∀ q, s.heap.size ≤ q → A q) : ∀ U : State, U.heap = H → s.WarmedH U.vm → va_Pc av (tq G k (wZ a n E) H.size) av.toArray U := fun U hU hW => ⟨rfl, (pq_pre (av := av) hP (hD E) hK hN U hU hW).2, by
  rw [hU]
  exact ST.moved hW.alike ((hST.kept hS.2.1).narrow (wZ_F (hD E) hS hA))⟩
