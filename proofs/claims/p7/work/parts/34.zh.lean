/-! the small machine's cells are the large one's: fields and arrays -/
def z_E (a : Nat → Nat) (k : Nat → ClassId) (μ : zM) (r : Nat) : va_E := match (z_sh r).1 with
  | 0 => .inr ((z_sh r).2.1, (List.range (z_sh r).2.2).map (fun j => z_tr a (z_gv μ (z_sh r).2.1 r j)))
  | 1 => .inl (k 0, (z_sh r).2.2, .inl (fun j => μ.1 r j))
  | 2 => .inl (k 1, (z_sh r).2.2, .inr (.inl (fun j => μ.2.1 r j)))
  | 3 => .inl (k 2, (z_sh r).2.2, .inl (fun j => μ.1 r j))
  | _ => .inl (k (z_sh r).2.1, (z_sh r).2.2, .inr (.inr (.inr (.inr (fun j => some (a (z_gr r j)))))))
def z_W (a : Nat → Nat) (k : Nat → ClassId) (n : Nat) (μ : zM) : va_W := wZ a n (z_E a k μ)
theorem z_bf {i j : Nat} (h : i ≠ j) : Nat.beq i j = false := by
  cases hq : Nat.beq i j with
  | false => rfl
  | true => exact absurd (Nat.eq_of_beq_eq_true hq) h
theorem z_bt (i : Nat) : Nat.beq i i = true := Nat.beq_refl i
theorem z_blt {i j : Nat} (h : Nat.blt i j = true) : i < j := Nat.le_of_ble_eq_true h
theorem z_ui_ne {μ : zM} {r k r' : Nat} {x : Int32} (h : r' ≠ r) : (z_ui μ r k x).1 r' = μ.1 r' := by
  funext k'
  show (bif Nat.beq r' r && Nat.beq k' k then x else μ.1 r' k') = _
  rw [z_bf h]
  rfl
theorem z_uj_ne {μ : zM} {r k r' : Nat} {x : Int64} (h : r' ≠ r) : (z_uj μ r k x).2.1 r' = μ.2.1 r' := by
  funext k'
  show (bif Nat.beq r' r && Nat.beq k' k then x else μ.2.1 r' k') = _
  rw [z_bf h]
  rfl
theorem z_ur_ne {μ : zM} {r r' q : Nat} (h : r' ≠ r) : (z_ur μ r q).2.2 r' = μ.2.2 r' := by
  show (bif Nat.beq r' r then q else μ.2.2 r') = _
  rw [z_bf h]
  rfl
theorem z_ui_at (μ : zM) (r k : Nat) (x : Int32) (k' : Nat) : (z_ui μ r k x).1 r k' = if k' = k then x else μ.1 r k' := by
  show (bif Nat.beq r r && Nat.beq k' k then x else μ.1 r k') = _
  rw [z_bt, Bool.true_and]
  by_cases h : k' = k
  · subst h; rw [z_bt, if_pos rfl]; rfl
  · rw [z_bf h, if_neg h]; rfl
theorem z_uj_at (μ : zM) (r k : Nat) (x : Int64) (k' : Nat) : (z_uj μ r k x).2.1 r k' = if k' = k then x else μ.2.1 r k' := by
  show (bif Nat.beq r r && Nat.beq k' k then x else μ.2.1 r k') = _
  rw [z_bt, Bool.true_and]
  by_cases h : k' = k
  · subst h; rw [z_bt, if_pos rfl]; rfl
  · rw [z_bf h, if_neg h]; rfl
theorem z_ur_at (μ : zM) (r q : Nat) : (z_ur μ r q).2.2 r = q := by
  show (bif Nat.beq r r then q else μ.2.2 r) = _
  rw [z_bt]
  rfl
theorem z_E_congr {a : Nat → Nat} {k : Nat → ClassId} {μ μ' : zM} {r : Nat} (h1 : μ.1 r = μ'.1 r) (h2 : μ.2.1 r = μ'.2.1 r) (h3 : μ.2.2 r = μ'.2.2 r) : z_E a k μ r = z_E a k μ' r := by
  unfold z_E z_gv
  rw [h1, h2, h3]
theorem z_E_up {a : Nat → Nat} {k : Nat → ClassId} {μ μ' : zM} {r : Nat} {cell : va_E} (hne : ∀ r', r' ≠ r → μ'.1 r' = μ.1 r' ∧ μ'.2.1 r' = μ.2.1 r' ∧ μ'.2.2 r' = μ.2.2 r') (he : z_E a k μ' r = cell) : va_up (z_E a k μ) r cell = z_E a k μ' := by
  funext r'
  unfold va_up
  by_cases h : r' = r
  · rw [if_pos h, h, he]
  · rw [if_neg h]
    obtain ⟨h1, h2, h3⟩ := hne r' h
    exact (z_E_congr h1 h2 h3).symm
theorem z_rng_set {f : Nat → Value} {N j : Nat} {v : Value} : ((List.range N).map f).set j v = (List.range N).map (fun i => if i = j then v else f i) := by
  apply List.ext_getElem?
  intro i
  rw [List.getElem?_map]
  by_cases hi : i < N
  · rw [List.getElem?_range hi]
    by_cases hij : j = i
    · subst hij
      rw [List.getElem?_set_self (by rw [List.length_map, List.length_range]; exact hi)]
      simp
    · rw [List.getElem?_set_ne hij, List.getElem?_map, List.getElem?_range hi]
      have : ¬ i = j := fun h => hij h.symm
      simp [this]
  · rw [List.getElem?_eq_none (by rw [List.length_set, List.length_map, List.length_range]; omega), List.getElem?_eq_none (by rw [List.length_range]; omega)]
    rfl
theorem z_getD_ge {α : Type} {l : List α} {n : Nat} {d : α} (h : l.length ≤ n) : l.getD n d = d := by
  rw [List.getD_eq_getElem?_getD, List.getElem?_eq_none h]
  rfl
theorem z_sh_eq (r : Nat) : z_sh r = z_shs.getD r (9, 0, 0) := by
  unfold z_sh
  cases h : Nat.beq r 50 with
  | false => rfl
  | true =>
    rw [Nat.eq_of_beq_eq_true h]
    rfl
theorem z_fk_eq (ci i : Nat) : z_fk ci i = (z_fks.getD ci []).getD i 9 := by
  unfold z_fk
  cases h : Nat.beq ci 6 with
  | false => rfl
  | true =>
    rw [Nat.eq_of_beq_eq_true h]
    by_cases hi : i < 72
    · have z : ∀ i : Fin 72, (z_fk6.getD (i.1 / 9) []).getD (i.1 % 9) 9 = (z_fks.getD 6 []).getD i.1 9 := by decide +kernel
      exact z ⟨i, hi⟩
    · have h8 : (z_fks.getD 6 []).length ≤ 72 := by decide +kernel
      have h9 : z_fk6.length ≤ i / 9 := by
        show 8 ≤ i / 9
        omega
      rw [z_getD_ge (l := z_fks.getD 6 []) (n := i) (d := 9) (Nat.le_trans h8 (by omega)), z_getD_ge (l := z_fk6) (n := i / 9) (d := []) h9]
      rfl
theorem z_sh4 {r : Nat} (h : (z_sh r).1 = 4) : (z_sh r).2.1 = 3 ∨ (z_sh r).2.1 = 4 := by
  by_cases hr : r < 80
  · have : ∀ r : Fin 80, (z_sh r.1).1 = 4 → (z_sh r.1).2.1 = 3 ∨ (z_sh r.1).2.1 = 4 := by decide +kernel
    exact this ⟨r, hr⟩ h
  · have : z_sh r = (9, 0, 0) := by
      rw [z_sh_eq]
      exact z_getD_ge (by show 80 ≤ r; omega)
    rw [this] at h
    cases h
theorem z_fk4 {ci i : Nat} (h : z_fk ci i = 4) : ci = 0 ∧ i = 5 := by
  have h9 : ∀ ci : Fin 7, ∀ i : Fin 70, z_fk ci.1 i.1 = 4 → ci.1 = 0 ∧ i.1 = 5 := by decide +kernel
  by_cases h1 : ci < 7
  · by_cases h2 : i < 70
    · exact h9 ⟨ci, h1⟩ ⟨i, h2⟩ h
    · have h8 : ∀ ci : Fin 7, (z_fks.getD ci.1 []).length ≤ 70 := by decide +kernel
      rw [z_fk_eq] at h
      rw [z_getD_ge (Nat.le_trans (h8 ⟨ci, h1⟩) (by omega))] at h
      cases h
  · rw [z_fk_eq] at h
    rw [z_getD_ge (l := z_fks) (by show 7 ≤ ci; omega)] at h
    cases h
theorem z_getD_mem {α : Type} {L : List (List α)} {o : Nat} {q : α} {p : Nat → α → Bool} {n : Nat} (hn : L.length ≤ n) (h : (List.range n).all (fun oc => (L.getD oc []).all (p oc)) = true) (hq : q ∈ L.getD o []) : p o q = true := by
  rw [List.all_eq_true] at h
  by_cases ho : o < n
  · have := h o (List.mem_range.mpr ho)
    rw [List.all_eq_true] at this
    exact this q hq
  · rw [z_getD_ge (by omega)] at hq
    cases hq
theorem z_fld_ok {oc idx ci k : Nat} (h : z_lk (z_flds.getD oc []) idx = some (ci, k)) : ∃ C T N, vwCl[ci]? = some (C, T, N) ∧ k < N ∧ Cond.fieldLink (z_own oc) idx C (T k).2.1 (T k).2.2.1 ∈ TT ∧ z_kok (z_ty ci k) (T k).2.2.2 (z_fk ci k) = true := by
  have h1 := z_getD_mem (n := 10) (by decide) z_flds_ok (z_lk_mem h)
  unfold z_fok at h1
  split at h1
  · rename_i C T N hh h2 h3
    rw [Bool.and_eq_true, Bool.and_eq_true] at h1
    exact ⟨C, T, N, h2, z_blt h1.1, z_tt h1.2.1, h1.2.2⟩
  · cases h1
theorem z_lon_ok {oc idx : Nat} {x : Int64} (h : z_lk (z_lons.getD oc []) idx = some x) : Cond.constantLong (z_own oc) idx x ∈ TT := by
  have h1 := z_getD_mem (n := 10) (by decide) z_lons_ok (z_lk_mem h)
  unfold z_lok at h1
  split at h1
  · exact z_tt h1
  · cases h1
theorem z_sta_ok {oc idx r : Nat} (h : z_lk (z_stas.getD oc []) idx = some r) : Cond.fieldLink (z_own oc) idx RX0 (z_sn r) "[I" ∈ TT ∧ (r = 101 ∨ r = 102) := by
  have h1 := z_getD_mem (n := 10) (by decide) z_stas_ok (z_lk_mem h)
  unfold z_sok at h1
  split at h1
  · rw [Bool.and_eq_true, Bool.or_eq_true] at h1
    exact ⟨z_tt h1.1, h1.2.imp Nat.eq_of_beq_eq_true Nat.eq_of_beq_eq_true⟩
  · cases h1
theorem z_mth_ok {oc idx i : Nat} (h : z_lk (z_mths.getD oc []) idx = some i) : (i = 0 ∧ Cond.methodLink (z_own oc) idx Lib.Math.max.name ∈ TT) ∨ (i = 1 ∧ Cond.methodLink (z_own oc) idx Lib.Math.min.name ∈ TT) := by
  have hm := z_lk_mem h
  have h9 : ∀ o : Fin 10, ∀ q ∈ z_mths.getD o.1 [], (o.1, q) = (1, 215, 0) ∨ (o.1, q) = (7, 241, 1) := by decide +kernel
  by_cases ho : oc < 10
  · rcases h9 ⟨oc, ho⟩ _ hm with q | q
    · cases q
      exact Or.inl ⟨rfl, z_ml_max⟩
    · cases q
      exact Or.inr ⟨rfl, z_ml_min⟩
  · rw [z_getD_ge (by show 10 ≤ oc; omega)] at hm
    cases hm
/-- the class's two tables as they lie in the heap; the script, where there is one -/
def z_RO (a : Nat → Nat) (xs : Nat × (Nat → Int32)) (A : Nat → Prop) (s : State) (H : Heap) : Prop :=
  (va_Z RX0 "HAN" "[I" (.ref (a 101)) A s H ∧ va_Z RX0 "OPEN_HAN" "[I" (.ref (a 102)) A s H) ∧ ∀ r, z_av xs r = true → va_T .int (a r) (z_ro xs r).1 (fun j => .int ((z_ro xs r).2 j)) A s H
theorem z_RO.moved {a : Nat → Nat} {xs : Nat × (Nat → Int32)} {A : Nat → Prop} {u U : State} {H : Heap} (hvm : u.vm.Alike U.vm) (h : z_RO a xs A u H) : z_RO a xs A U H := ⟨⟨h.1.1.moved hvm, h.1.2.moved hvm⟩, fun r h1 => (h.2 r h1).moved hvm⟩
theorem z_RO.kept {a : Nat → Nat} {xs : Nat × (Nat → Int32)} {A : Nat → Prop} {U : State} {H H1 : Heap} (h : z_RO a xs A U H) (hq : ∀ a : Nat, a < H.size → ¬ A a → H1[a]? = H[a]?) : z_RO a xs A U H1 := ⟨⟨h.1.1.kept hq, h.1.2.kept hq⟩, fun r h1 => (h.2 r h1).kept hq⟩
theorem z_RO.narrow {a : Nat → Nat} {xs : Nat × (Nat → Int32)} {A B : Nat → Prop} {U : State} {H : Heap} (h : z_RO a xs A U H) (hAB : ∀ q, B q → A q) : z_RO a xs B U H := ⟨⟨h.1.1.narrow hAB, h.1.2.narrow hAB⟩, fun r h1 => (h.2 r h1).narrow hAB⟩
def z_x0 : Nat × (Nat → Int32) := (0, fun _ => 0)
theorem z_RO.less {a : Nat → Nat} {xs : Nat × (Nat → Int32)} {A : Nat → Prop} {U : State} {H : Heap} (h : z_RO a xs A U H) : z_RO a z_x0 A U H := by
  refine ⟨h.1, fun r h1 => ?_⟩
  unfold z_av at h1
  rw [Bool.or_eq_true, Bool.or_eq_true] at h1
  rcases h1 with h1 | h1 | h1
  · have := Nat.eq_of_beq_eq_true h1
    subst this
    exact h.2 101 rfl
  · have := Nat.eq_of_beq_eq_true h1
    subst this
    exact h.2 102 rfl
  · rw [Bool.and_eq_true] at h1
    exact absurd h1.2 (by decide)
section ZH
variable {p : Program} {l : Launch} {e : Env} {R : Room} {s : State} {m : MethodId} {args : Array Value} {below : List Frame} {meth : Method} {c : Code} {H : Heap} {locs : List Loc} {cells slots : Nat} {Q : State → Prop}
variable {cc : ByteArray} {pc : Nat} {ls : Array Slot} {a : Nat → Nat} {k : Nat → ClassId} {n : Nat} {G : va_G} {A : Nat → Prop}
theorem z_E0 {μ : zM} {r ci N : Nat} (h0 : (z_sh r).1 = 0) : z_E a k μ r = .inr ((z_sh r).2.1, (List.range (z_sh r).2.2).map (fun j => z_tr a (z_gv μ (z_sh r).2.1 r j))) := by
  unfold z_E
  rw [h0]
  rfl
theorem z_E1 {μ : zM} {r : Nat} (h0 : (z_sh r).1 = 1) : z_E a k μ r = .inl (k 0, (z_sh r).2.2, .inl (fun j => μ.1 r j)) := by
  unfold z_E
  rw [h0]
  rfl
theorem z_E2 {μ : zM} {r : Nat} (h0 : (z_sh r).1 = 2) : z_E a k μ r = .inl (k 1, (z_sh r).2.2, .inr (.inl (fun j => μ.2.1 r j))) := by
  unfold z_E
  rw [h0]
  rfl
theorem z_E3 {μ : zM} {r : Nat} (h0 : (z_sh r).1 = 3) : z_E a k μ r = .inl (k 2, (z_sh r).2.2, .inl (fun j => μ.1 r j)) := by
  unfold z_E
  rw [h0]
  rfl
theorem z_E4 {μ : zM} {r : Nat} (h0 : (z_sh r).1 = 4) : z_E a k μ r = .inl (k (z_sh r).2.1, (z_sh r).2.2, .inr (.inr (.inr (.inr (fun j => some (a (z_gr r j))))))) := by
  unfold z_E
  rw [h0]
  rfl
theorem z_W_at {μ : zM} {r : Nat} (h : r < n) : (z_W a k n μ)[r]? = some (a r, z_E a k μ r) := wZ_at h
theorem z_W_up {μ μ' : zM} {r : Nat} {cell : va_E} (h : r < n) (hne : ∀ r', r' ≠ r → μ'.1 r' = μ.1 r' ∧ μ'.2.1 r' = μ.2.1 r' ∧ μ'.2.2 r' = μ.2.2 r') (he : z_E a k μ' r = cell) : (z_W a k n μ).set r (a r, cell) = z_W a k n μ' := by
  unfold z_W
  rw [wZ_set h, z_E_up hne he]
theorem z_ui_hne (μ : zM) (r j : Nat) (x : Int32) : ∀ r', r' ≠ r → (z_ui μ r j x).1 r' = μ.1 r' ∧ (z_ui μ r j x).2.1 r' = μ.2.1 r' ∧ (z_ui μ r j x).2.2 r' = μ.2.2 r' := fun _ h => ⟨z_ui_ne h, rfl, rfl⟩
theorem z_uj_hne (μ : zM) (r j : Nat) (x : Int64) : ∀ r', r' ≠ r → (z_uj μ r j x).1 r' = μ.1 r' ∧ (z_uj μ r j x).2.1 r' = μ.2.1 r' ∧ (z_uj μ r j x).2.2 r' = μ.2.2 r' := fun _ h => ⟨rfl, z_uj_ne h, rfl⟩
theorem z_ur_hne (μ : zM) (r q : Nat) : ∀ r', r' ≠ r → (z_ur μ r q).1 r' = μ.1 r' ∧ (z_ur μ r q).2.1 r' = μ.2.1 r' ∧ (z_ur μ r q).2.2 r' = μ.2.2 r' := fun _ h => ⟨rfl, rfl, z_ur_ne h⟩
/-- a write of a field as the small machine has it -/
theorem z_pv_inv {μ μ' : zM} {ci r j : Nat} {v : Value} (h : z_pv μ ci r j v = some μ') (ty : FieldType) (fin : Bool) (hk : z_kok ty fin (z_fk ci j) = true) :
    fin = false ∧ narrow ty (z_tr a v) = z_tr a v ∧ fits ty (z_tr a v) = true ∧ (∀ r', r' ≠ r → μ'.1 r' = μ.1 r' ∧ μ'.2.1 r' = μ.2.1 r' ∧ μ'.2.2 r' = μ.2.2 r') ∧ z_tr a (z_gv μ' ci r j) = z_tr a v ∧ (∀ i, i ≠ j → z_gv μ' ci r i = z_gv μ ci r i) := by
  unfold z_pv at h
  split at h
  · rename_i x hf
    cases h
    rw [hf] at hk
    cases ty <;> first | (exfalso; simp [z_kok] at hk; done) | skip
    refine ⟨by simpa [z_kok] using hk, rfl, rfl, z_ui_hne μ r j x, ?_, fun i hi => ?_⟩
    · show z_tr a (z_gv (z_ui μ r j x) ci r j) = _
      unfold z_gv
      rw [hf]
      show z_tr a (.int ((z_ui μ r j x).1 r j)) = _
      rw [z_ui_at, if_pos rfl]
    · unfold z_gv
      rw [show (z_ui μ r j x).1 r i = μ.1 r i by rw [z_ui_at, if_neg hi]]
      rfl
  · rename_i x hf
    cases h
    rw [hf] at hk
    cases ty <;> first | (exfalso; simp [z_kok] at hk; done) | skip
    refine ⟨by simpa [z_kok] using hk, rfl, rfl, z_uj_hne μ r j x, ?_, fun i hi => ?_⟩
    · show z_tr a (z_gv (z_uj μ r j x) ci r j) = _
      unfold z_gv
      rw [hf]
      show z_tr a (.long ((z_uj μ r j x).2.1 r j)) = _
      rw [z_uj_at, if_pos rfl]
    · unfold z_gv
      rw [show (z_uj μ r j x).2.1 r i = μ.2.1 r i by rw [z_uj_at, if_neg hi]]
      rfl
  · rename_i x hf
    rw [hf] at hk
    cases ty <;> first | (exfalso; simp [z_kok] at hk; done) | skip
    cases hx : z_b01 x with
    | false => rw [hx] at h; cases h
    | true =>
      rw [hx] at h
      have h : some (z_ui μ r j x) = some μ' := h
      cases h
      have h01 : x = 0 ∨ x = 1 := by
        unfold z_b01 at hx
        rw [Bool.or_eq_true] at hx
        exact hx.imp (fun q => by simpa using q) (fun q => by simpa using q)
      refine ⟨by simpa [z_kok] using hk, ?_, ?_, z_ui_hne μ r j x, ?_, fun i hi => ?_⟩
      · rcases h01 with rfl | rfl <;> rfl
      · rcases h01 with rfl | rfl <;> rfl
      · show z_tr a (z_gv (z_ui μ r j x) ci r j) = _
        unfold z_gv
        rw [hf]
        show z_tr a (.int ((z_ui μ r j x).1 r j)) = _
        rw [z_ui_at, if_pos rfl]
      · unfold z_gv
        rw [show (z_ui μ r j x).1 r i = μ.1 r i by rw [z_ui_at, if_neg hi]]
        rfl
  · rename_i q hf
    rw [hf] at hk
    cases hq : (Nat.beq q 0 || Nat.ble 79 q) with
    | true => rw [hq] at h; cases h
    | false =>
      rw [hq] at h
      have h : some (z_ur μ r q) = some μ' := h
      cases h
      cases ty <;> first | (exfalso; simp [z_kok] at hk; done) | skip
      refine ⟨by simpa [z_kok] using hk, rfl, rfl, z_ur_hne μ r q, ?_, fun i hi => ?_⟩
      · show z_tr a (z_gv (z_ur μ r q) ci r j) = _
        unfold z_gv
        rw [hf]
        show z_tr a (z_rv ((z_ur μ r q).2.2 r)) = _
        rw [z_ur_at]
        unfold z_rv
        rw [hq]
        rfl
      · unfold z_gv
        split
        · rfl
        · rfl
        · rfl
        · rfl
        · rename_i e4
          exact absurd ((z_fk4 e4).2.trans (z_fk4 hf).2.symm) hi
        · rfl
  · cases h
theorem z_bif {α : Type} {b : Bool} {x : α} {y : α} (h : (bif b then some x else none) = some y) : b = true ∧ x = y := by
  cases b with
  | false => cases h
  | true =>
    have h : some x = some y := h
    cases h
    exact ⟨rfl, rfl⟩
theorem z_and {a b : Bool} (h : (a && b) = true) : a = true ∧ b = true := by rwa [Bool.and_eq_true] at h
theorem z_beq {i j : Nat} (h : Nat.beq i j = true) : i = j := Nat.eq_of_beq_eq_true h
set_option maxHeartbeats 4000000 in
theorem zs_hp (hx : p.tables.exec = Jvm.exec) (hb : c.code = cc) {xs : Nat × (Nat → Int32)} {np oc : Nat} {ins : Instr} {st st' : List Value} {μ μ' : zM} (h : z_hp xs np oc ins st μ = some (st', μ')) (hd : decode cc pc = .ok (ins, z_len ins)) (hml : c.maxLocals = ls.size)
    (hts : ∀ w ∈ TT, w.before args s = true) (hown : s.vm.findClass (z_own oc) = some m.cls) (hK : va_K G vwCl (tyF k) s) (hD : ∀ μ, va_D A (z_W a k n μ)) (hn : np ≤ n) (hRO : z_RO a xs A s s.heap) (hF : 1 ≤ R.frames) (hRl : 21 ≤ R.locals) (hRc : cells ≤ R.cells) (hRs : slots ≤ R.slots)
    (hP : va_P G vwCl (z_W a k n μ) H) (hS : va_S A s.heap H locs)
    (kk : ∀ (H' : Heap) (locs' : List Loc), va_P G vwCl (z_W a k n μ') H' → va_S A s.heap H' locs' → W p l e R s m args below meth c H' locs' cells slots Q (F0 m (pc + z_len ins) ls (st'.map (z_tr a)))) : W p l e R s m args below meth c H locs cells slots Q (F0 m pc ls (st.map (z_tr a))) := by
  unfold z_hp at h
  split at h
  · -- getfield
    rename_i idx r t
    split at h
    · rename_i ci j hl
      obtain ⟨hq, h⟩ := z_bif h
      cases h
      obtain ⟨q1, hq⟩ := z_and hq
      obtain ⟨q2, hq⟩ := z_and hq
      obtain ⟨q3, q4⟩ := z_and hq
      have q1 := Nat.lt_of_lt_of_le (z_blt q1) hn
      have q2 := z_beq q2
      have q3 := z_beq q3
      have q4 := z_blt q4
      obtain ⟨C, T, N, h1, h2, h3, h4⟩ := z_fld_ok hl
      obtain ⟨c1, c2, c3, c4⟩ := z_cl_ok h1
      refine va_get hx hb hts c1 hown hK hP r (by rw [z_W_at q1, z_E0 (N := 0) (ci := 0) q2, q3]) h1 j h2 (hts _ h3) (fun x hx => by rw [c2 j h2] at hx; exact hx) (v := z_tr a (z_gv μ ci r j)) ?_ hd (kk H locs hP hS)
      rw [List.getElem?_map, List.getElem?_range q4]
      rfl
    · cases h
  · -- putfield
    rename_i idx v r t
    split at h
    · rename_i ci j hl
      cases hc : (Nat.blt r np && (Nat.beq (z_sh r).1 0 && (Nat.beq (z_sh r).2.1 ci && Nat.blt j (z_sh r).2.2))) with
      | false => rw [hc] at h; cases h
      | true =>
        rw [hc] at h
        obtain ⟨μ2, h5, h⟩ := Option.map_eq_some_iff.mp (show (z_pv μ ci r j v).map (fun μ' => (t, μ')) = some (st', μ') from h)
        cases h
        obtain ⟨q1, hq⟩ := z_and hc
        obtain ⟨q2, hq⟩ := z_and hq
        obtain ⟨q3, q4⟩ := z_and hq
        have q1 := Nat.lt_of_lt_of_le (z_blt q1) hn
        have q2 := z_beq q2
        have q3 := z_beq q3
        have q4 := z_blt q4
        obtain ⟨C, T, N, h1, h2, h3, h4⟩ := z_fld_ok hl
        obtain ⟨c1, c2, c3, c4⟩ := z_cl_ok h1
        obtain ⟨p1, p2, p3, p4, p5, p6⟩ := z_pv_inv (a := a) h5 _ _ h4
        refine va_put hx hb hts c1 (z_ty ci) c3 c4 hown hK hP (hD μ) hS r (by rw [z_W_at q1, z_E0 (N := 0) (ci := 0) q2, q3]) h1 j h2 (hts _ h3) (fun x hx => by rw [c2 j h2] at hx; exact hx) p1 (c3 j h2) p2 p3 (by rw [List.length_map, List.length_range]; exact q4) hd (fun H1 locs1 w1 w2 w3 => ?_)
        rw [z_rng_set] at w1
        rw [z_W_up (μ' := μ') q1 p4 (by
          rw [z_E0 (N := 0) (ci := 0) q2, q3]
          congr 2
          apply List.map_congr_left
          intro i _
          by_cases hi : i = j
          · rw [if_pos hi, hi]; exact p5
          · rw [if_neg hi, p6 i hi])] at w1
        exact kk H1 locs1 w1 w3
    · cases h
  · -- getstatic
    rename_i idx
    split at h
    · rename_i r hl
      cases h
      obtain ⟨h1, h2⟩ := z_sta_ok hl
      rcases h2 with rfl | rfl
      · exact va_gets hx hb hRO.1.1 hS hown (hts _ h1) (fun _ h => h) hd (kk H locs hP hS)
      · exact va_gets hx hb hRO.1.2 hS hown (hts _ h1) (fun _ h => h) hd (kk H locs hP hS)
    · cases h
  · -- ldc2_w
    rename_i idx
    split at h
    · rename_i x hl
      cases h
      exact lv_ldc2 hx hb hown (hts _ (z_lon_ok hl)) hd (kk H locs hP hS)
    · cases h
  · -- iaload
    rename_i i r t
    cases h0 : Nat.blt r 100 with
    | true =>
      rw [h0] at h
      obtain ⟨hq, h⟩ := z_bif (show (bif Nat.blt r np && (Nat.beq (z_sh r).1 1 && z_in i (z_sh r).2.2) then some ((.int (μ.1 r i.toNatClampNeg) :: t, μ) : List Value × zM) else none) = some (st', μ') from h)
      cases h
      obtain ⟨q1, hq⟩ := z_and hq
      obtain ⟨q2, q3⟩ := z_and hq
      have q1 := Nat.lt_of_lt_of_le (z_blt q1) hn
      exact va_iald hx hb hK hP r 0 (by rw [z_W_at q1, z_E1 (z_beq q2)]) rfl (z_in_iff.mp q3) hd (kk H locs hP hS)
    | false =>
      rw [h0] at h
      obtain ⟨hq, h⟩ := z_bif (show (bif z_av xs r && z_in i (z_ro xs r).1 then some ((.int ((z_ro xs r).2 i.toNatClampNeg) :: t, μ) : List Value × zM) else none) = some (st', μ') from h)
      cases h
      obtain ⟨q1, q2⟩ := z_and hq
      have q2 := z_in_iff.mp q2
      exact va_ti hx hb (hRO.2 r q1) hS q2 rfl hd (kk H locs hP hS)
  · -- baload
    obtain ⟨hq, h⟩ := z_bif h
    cases h
    obtain ⟨q1, hq⟩ := z_and hq
    obtain ⟨q2, q3⟩ := z_and hq
    have q1 := Nat.lt_of_lt_of_le (z_blt q1) hn
    exact va_zald hx hb hK hP _ 2 (by rw [z_W_at q1, z_E3 (z_beq q2)]) rfl (z_in_iff.mp q3) hd (kk H locs hP hS)
  · -- laload
    obtain ⟨hq, h⟩ := z_bif h
    cases h
    obtain ⟨q1, hq⟩ := z_and hq
    obtain ⟨q2, q3⟩ := z_and hq
    have q1 := Nat.lt_of_lt_of_le (z_blt q1) hn
    exact va_lald hx hb hK hP _ 1 (by rw [z_W_at q1, z_E2 (z_beq q2)]) rfl (z_in_iff.mp q3) hd (kk H locs hP hS)
  · -- aaload
    rename_i i r t
    obtain ⟨hq, h⟩ := z_bif h
    cases h
    obtain ⟨q1, hq⟩ := z_and hq
    obtain ⟨q2, q3⟩ := z_and hq
    have q1 := Nat.lt_of_lt_of_le (z_blt q1) hn
    have q2 := z_beq q2
    rcases z_sh4 q2 with q4 | q4
    · exact va_aldq (C := "TileHouse$Seat") (f := fun j => some (a (z_gr r j))) hx hb hK hP r 3 (by rw [z_W_at q1, z_E4 q2]) (by rw [q4]; rfl) (z_in_iff.mp q3) hd (kk H locs hP hS)
    · exact va_aldq (C := "TileHouse$Win") (f := fun j => some (a (z_gr r j))) hx hb hK hP r 4 (by rw [z_W_at q1, z_E4 q2]) (by rw [q4]; rfl) (z_in_iff.mp q3) hd (kk H locs hP hS)
  · -- iastore
    rename_i x i r t
    obtain ⟨hq, h⟩ := z_bif h
    cases h
    obtain ⟨q1, hq⟩ := z_and hq
    obtain ⟨q2, q3⟩ := z_and hq
    have q1 := Nat.lt_of_lt_of_le (z_blt q1) hn
    have q2 := z_beq q2
    refine va_iast hx hb hK hP (hD μ) hS r 0 (by rw [z_W_at q1, z_E1 q2]) rfl (z_in_iff.mp q3) hd (fun H1 locs1 w1 w2 w3 => ?_)
    rw [z_W_up (μ' := z_ui μ r i.toNatClampNeg x) q1 (z_ui_hne _ _ _ _) (by
      rw [z_E1 q2]
      congr 4
      funext j
      rw [z_ui_at]
      rfl)] at w1
    exact kk H1 locs1 w1 w3
  · -- bastore
    rename_i x i r t
    obtain ⟨hq, h⟩ := z_bif h
    cases h
    obtain ⟨q1, hq⟩ := z_and hq
    obtain ⟨q2, hq⟩ := z_and hq
    obtain ⟨q3, q4⟩ := z_and hq
    have q1 := Nat.lt_of_lt_of_le (z_blt q1) hn
    have q2 := z_beq q2
    have h01 : vp_nar .boolean x = x := by
      unfold z_b01 at q4
      rw [Bool.or_eq_true] at q4
      rcases q4 with q | q
      · rw [show x = 0 by simpa using q]; decide
      · rw [show x = 1 by simpa using q]; decide
    refine va_zast hx hb hK hP (hD μ) hS r 2 (by rw [z_W_at q1, z_E3 q2]) rfl (z_in_iff.mp q3) hd (fun H1 locs1 w1 w2 w3 => ?_)
    rw [h01, z_W_up (μ' := z_ui μ r i.toNatClampNeg x) q1 (z_ui_hne _ _ _ _) (by
      rw [z_E3 q2]
      congr 4
      funext j
      rw [z_ui_at]
      rfl)] at w1
    exact kk H1 locs1 w1 w3
  · -- lastore
    rename_i x i r t
    obtain ⟨hq, h⟩ := z_bif h
    cases h
    obtain ⟨q1, hq⟩ := z_and hq
    obtain ⟨q2, q3⟩ := z_and hq
    have q1 := Nat.lt_of_lt_of_le (z_blt q1) hn
    have q2 := z_beq q2
    refine va_last hx hb hK hP (hD μ) hS r 1 (by rw [z_W_at q1, z_E2 q2]) rfl (z_in_iff.mp q3) hd (fun H1 locs1 w1 w2 w3 => ?_)
    rw [z_W_up (μ' := z_uj μ r i.toNatClampNeg x) q1 (z_uj_hne _ _ _ _) (by
      rw [z_E2 q2]
      congr 5
      funext j
      rw [z_uj_at]
      rfl)] at w1
    exact kk H1 locs1 w1 w3
  · -- arraylength
    rename_i r t
    cases h0 : Nat.beq r 60 with
    | true =>
      rw [h0] at h
      obtain ⟨hq, h⟩ := z_bif (show (bif Nat.blt r np then some ((.int 136 :: t, μ) : List Value × zM) else none) = some (st', μ') from h)
      cases h
      have q1 := Nat.lt_of_lt_of_le (z_blt hq) hn
      have e := z_beq h0
      subst e
      exact va_alen hx hb hK hP 60 0 (by rw [z_W_at q1, z_E1 (by rfl)]) rfl (by rfl) hd (kk H locs hP hS)
    | false =>
      rw [h0] at h
      obtain ⟨hq, h⟩ := z_bif (show (bif z_av xs r then some ((.int (Int32.ofNat (z_ro xs r).1) :: t, μ) : List Value × zM) else none) = some (st', μ') from h)
      cases h
      exact va_tlen hx hb (hRO.2 r hq) hS rfl hd (kk H locs hP hS)
  · -- Math
    rename_i idx y x t
    cases h0 : Nat.ble (t.map fun v => v.category).sum 8 with
    | false => rw [h0] at h; cases h
    | true =>
      rw [h0] at h
      simp only [cond_true] at h
      have hc : ((t.map (z_tr a)).map fun v => v.category).sum + 13 ≤ R.locals := by
        have e : (t.map (z_tr a)).map (fun v => v.category) = t.map (fun v => v.category) := by
          rw [List.map_map]
          apply List.map_congr_left
          intro v _
          exact z_tr_cat a v
        rw [e]
        have := Nat.le_of_ble_eq_true h0
        omega
      split at h
      · rename_i hl
        cases h
        rcases z_mth_ok hl with ⟨-, h1⟩ | ⟨h9, -⟩
        · exact va_mmax hx hb hml hown (hts _ h1) (hts _ z_m_max) (hts _ z_m_ini) (hts _ z_mc_max) hF hc hRc hRs hd (kk H locs hP hS)
        · cases h9
      · rename_i hl
        cases h
        rcases z_mth_ok hl with ⟨h9, -⟩ | ⟨-, h1⟩
        · cases h9
        · exact va_mmin hx hb hml hown (hts _ h1) (hts _ z_m_min) (hts _ z_m_ini) (hts _ z_mc_min) hF hc hRc hRs hd (kk H locs hP hS)
      · cases h
  · cases h
end ZH
