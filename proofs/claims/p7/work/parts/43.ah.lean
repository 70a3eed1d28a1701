/-! the checker's steps: fields and rows; one step -/
def a_H (μ : zM) : Prop := ∀ r k, a_bi (a_bd r k) (μ.1 r k)
def a_Fz (md : List (Nat × Nat)) (μ0 μ : zM) : Prop := (∀ r k, a_md md r k = false → μ.1 r k = μ0.1 r k ∧ μ.2.1 r k = μ0.2.1 r k) ∧ ∀ r, a_mdr md r = false → μ.2.2 r = μ0.2.2 r
def a_fc (ρ : List Value) (μ : zM) (f : Nat × Nat × Nat) : Prop := ∃ r w, ρ[f.1]? = some (.ref r) ∧ ρ[f.2.2]? = some w ∧ (z_sh r).1 = 0 ∧ z_gv μ (z_sh r).2.1 r f.2.1 = w
def a_Fr (ρ : List Value) (F : aF) (μ : zM) : Prop := ∀ f ∈ F, a_fc ρ μ f
theorem a_Fr_app {ρ : List Value} {w : Value} {F : aF} {μ : zM} (h : a_Fr ρ F μ) : a_Fr (ρ ++ [w]) F μ := fun f hf => by
  obtain ⟨r, u, h1, h2, h3⟩ := h f hf
  exact ⟨r, u, a_at_app h1, a_at_app h2, h3⟩
theorem a_H_ui {μ : zM} {r k : Nat} {x : Int32} (h : a_H μ) (hx : a_bi (a_bd r k) x) : a_H (z_ui μ r k x) := by
  intro r' k'
  by_cases hr : r' = r
  · subst hr
    rw [z_ui_at]
    by_cases hk : k' = k
    · rw [if_pos hk, hk]; exact hx
    · rw [if_neg hk]; exact h r' k'
  · rw [z_ui_ne hr]
    exact h r' k'
theorem a_Fz_ui {md : List (Nat × Nat)} {μ0 μ : zM} {r k : Nat} {x : Int32} (h : a_Fz md μ0 μ) (hm : a_md md r k = true) : a_Fz md μ0 (z_ui μ r k x) := by
  refine ⟨fun r' k' hr' => ⟨?_, (h.1 r' k' hr').2⟩, h.2⟩
  by_cases hr : r' = r
  · subst hr
    rw [z_ui_at]
    by_cases hk : k' = k
    · subst hk
      rw [hm] at hr'
      cases hr'
    · rw [if_neg hk]; exact (h.1 r' k' hr').1
  · rw [z_ui_ne hr]
    exact (h.1 r' k' hr').1
theorem a_Fz_uj {md : List (Nat × Nat)} {μ0 μ : zM} {r k : Nat} {x : Int64} (h : a_Fz md μ0 μ) (hm : a_md md r k = true) : a_Fz md μ0 (z_uj μ r k x) := by
  refine ⟨fun r' k' hr' => ⟨(h.1 r' k' hr').1, ?_⟩, h.2⟩
  by_cases hr : r' = r
  · subst hr
    rw [z_uj_at]
    by_cases hk : k' = k
    · subst hk
      rw [hm] at hr'
      cases hr'
    · rw [if_neg hk]; exact (h.1 r' k' hr').2
  · rw [z_uj_ne hr]
    exact (h.1 r' k' hr').2
theorem a_Fz_ur {md : List (Nat × Nat)} {μ0 μ : zM} {r q : Nat} (h : a_Fz md μ0 μ) (hm : a_mdr md r = true) : a_Fz md μ0 (z_ur μ r q) := by
  refine ⟨h.1, fun r' hr' => ?_⟩
  by_cases hr : r' = r
  · subst hr
    rw [hm] at hr'
    cases hr'
  · rw [z_ur_ne hr]
    exact h.2 r' hr'
theorem a_mda_md {md : List (Nat × Nat)} {r : Nat} (h : a_mda md r = true) (k : Nat) : a_md md r k = true := by
  unfold a_mda at h
  unfold a_md
  rw [List.any_eq_true] at h ⊢
  obtain ⟨q, h1, h2⟩ := h
  obtain ⟨h3, h4⟩ := z_and h2
  exact ⟨q, h1, by rw [h3, h4, Bool.or_true]; rfl⟩
theorem z_gv_ne {μ μ' : zM} {ci r k : Nat} (h : μ'.1 r = μ.1 r ∧ μ'.2.1 r = μ.2.1 r ∧ μ'.2.2 r = μ.2.2 r) : z_gv μ' ci r k = z_gv μ ci r k := by
  unfold z_gv
  rw [h.1, h.2.1, h.2.2]
/-- a row is written: what is known of fields stays -/
theorem a_Fr_row {ρ : List Value} {F : aF} {μ μ' : zM} {r : Nat} (h : a_Fr ρ F μ) (hr : (z_sh r).1 ≠ 0) (hne : ∀ r', r' ≠ r → μ'.1 r' = μ.1 r' ∧ μ'.2.1 r' = μ.2.1 r' ∧ μ'.2.2 r' = μ.2.2 r') : a_Fr ρ F μ' := fun f hf => by
  obtain ⟨r', u, h1, h2, h3, h4⟩ := h f hf
  refine ⟨r', u, h1, h2, h3, ?_⟩
  rw [z_gv_ne (hne r' (fun e => hr (by rw [← e]; exact h3)))]
  exact h4
theorem z_pv_ok {μ μ' : zM} {ci r j : Nat} {v : Value} (h : z_pv μ ci r j v = some μ') : (∀ r', r' ≠ r → μ'.1 r' = μ.1 r' ∧ μ'.2.1 r' = μ.2.1 r' ∧ μ'.2.2 r' = μ.2.2 r') ∧ z_gv μ' ci r j = v ∧ ∀ i, i ≠ j → z_gv μ' ci r i = z_gv μ ci r i := by
  unfold z_pv at h
  split at h
  · rename_i x hf
    cases h
    refine ⟨z_ui_hne μ r j x, ?_, fun i hi => ?_⟩
    · unfold z_gv
      rw [hf]
      show Value.int ((z_ui μ r j x).1 r j) = _
      rw [z_ui_at, if_pos rfl]
    · unfold z_gv
      rw [show (z_ui μ r j x).1 r i = μ.1 r i by rw [z_ui_at, if_neg hi]]
      rfl
  · rename_i x hf
    cases h
    refine ⟨z_uj_hne μ r j x, ?_, fun i hi => ?_⟩
    · unfold z_gv
      rw [hf]
      show Value.long ((z_uj μ r j x).2.1 r j) = _
      rw [z_uj_at, if_pos rfl]
    · unfold z_gv
      rw [show (z_uj μ r j x).2.1 r i = μ.2.1 r i by rw [z_uj_at, if_neg hi]]
      rfl
  · rename_i x hf
    obtain ⟨-, h⟩ := z_bif h
    subst h
    refine ⟨z_ui_hne μ r j x, ?_, fun i hi => ?_⟩
    · unfold z_gv
      rw [hf]
      show Value.int ((z_ui μ r j x).1 r j) = _
      rw [z_ui_at, if_pos rfl]
    · unfold z_gv
      rw [show (z_ui μ r j x).1 r i = μ.1 r i by rw [z_ui_at, if_neg hi]]
      rfl
  · rename_i q hf
    obtain ⟨hq, h⟩ := a_bif0 h
    subst h
    refine ⟨z_ur_hne μ r q, ?_, fun i hi => ?_⟩
    · unfold z_gv
      rw [hf]
      show z_rv ((z_ur μ r q).2.2 r) = _
      rw [z_ur_at]
      unfold z_rv
      rw [hq]
      rfl
    · unfold z_gv
      split
      · rfl
      · rfl
      · rfl
      · rfl
      · rename_i e4
        exact absurd ((z_fk4 e4).2.trans (z_fk4 hf).2.symm) hi
      · rfl
  · cases h
/-- a field is written: what is known of other slots stays, and the new one is known -/
theorem a_Fr_put {ρ : List Value} {F : aF} {μ μ' : zM} {o k v r : Nat} {w : Value} (h : a_Fr ρ F μ) (ho : ρ[o]? = some (.ref r)) (hv : ρ[v]? = some w) (hr : (z_sh r).1 = 0) (hp : z_pv μ (z_sh r).2.1 r k w = some μ') : a_Fr ρ ((o, k, v) :: F.filter (fun q => !Nat.beq q.2.1 k)) μ' := by
  obtain ⟨p1, p2, p3⟩ := z_pv_ok hp
  intro f hf
  rcases List.mem_cons.mp hf with rfl | hf
  · exact ⟨r, w, ho, hv, hr, p2⟩
  · obtain ⟨hf1, hf2⟩ := List.mem_filter.mp hf
    obtain ⟨r', u, h1, h2, h3, h4⟩ := h f hf1
    have hk : f.2.1 ≠ k := fun e => by rw [e, z_bt] at hf2; cases hf2
    refine ⟨r', u, h1, h2, h3, ?_⟩
    by_cases hrr : r' = r
    · subst hrr
      rw [p3 _ hk]
      exact h4
    · rw [z_gv_ne (p1 r' hrr)]
      exact h4
theorem a_fl_mem {F : aF} {o k v : Nat} (h : a_fl F o k = some v) : (o, k, v) ∈ F := by
  induction F with
  | nil => cases h
  | cons f r ih =>
    obtain ⟨o', k', v'⟩ := f
    unfold a_fl at h
    cases hq : (Nat.beq o' o && Nat.beq k' k) with
    | true =>
      rw [hq] at h
      have h : some v' = some v := h
      cases h
      obtain ⟨h1, h2⟩ := z_and hq
      rw [z_beq h1, z_beq h2]
      exact List.mem_cons_self
    | false =>
      rw [hq] at h
      exact List.mem_cons_of_mem _ (ih h)
theorem a_bd_obj {r ci k : Nat} (h0 : (z_sh r).1 = 0) (h1 : (z_sh r).2.1 = ci) : a_bd r k = a_cbd ci k := by
  unfold a_bd
  rw [h0, h1]
  rfl
theorem a_bd_row {r k : Nat} (h0 : (z_sh r).1 ≠ 0) : a_bd r k = a_abd r := by
  unfold a_bd
  rw [z_bf h0]
  rfl
theorem a_in_ok {b c : aB} {x : Int32} (h : a_in b c = true) (hx : a_bi b x) : a_bi c x := by
  unfold a_in at h
  rw [Bool.and_eq_true, decide_eq_true_iff, decide_eq_true_iff] at h
  exact ⟨by have := hx.1; omega, by have := hx.2; omega⟩
theorem a_01 {x : Int32} (h : a_bi (0, 1) x) : z_b01 x = true := by
  rcases zn01 h with rfl | rfl <;> rfl
theorem a_obj_inv {ci k r : Nat} (h : a_obj ci k r = true) : r < 79 ∧ (z_sh r).1 = 0 ∧ (z_sh r).2.1 = ci ∧ k < (z_sh r).2.2 := by
  obtain ⟨h1, h⟩ := z_and h
  obtain ⟨h2, h⟩ := z_and h
  obtain ⟨h3, h4⟩ := z_and h
  exact ⟨z_blt h1, z_beq h2, z_beq h3, z_blt h4⟩
theorem a_arr_inv {kd r : Nat} {b : aB} {i : Int32} (h : a_arr kd b r = true) (hi : a_bi b i) : r < 79 ∧ (z_sh r).1 = kd ∧ z_in i (z_sh r).2.2 = true := by
  obtain ⟨h1, h⟩ := z_and h
  obtain ⟨h2, h⟩ := z_and h
  obtain ⟨h3, h4⟩ := z_and h
  have h3 := of_decide_eq_true h3
  have h4 := of_decide_eq_true h4
  refine ⟨z_blt h1, z_beq h2, ?_⟩
  unfold z_in
  have q1 := hi.1
  have q2 := hi.2
  rw [decide_eq_true (by omega : 0 ≤ i.toInt), decide_eq_true (by omega : i.toInt < ((z_sh r).2.2 : Int))]
  rfl
theorem a_blt {i j n : Nat} (h : i < j) (hn : j ≤ n) : Nat.blt i n = true := Nat.ble_eq_true_of_le (by omega)
def a_hpr (md : List (Nat × Nat)) (μ0 : zM) (T' : List aI) (sa' : List Nat) (F' : aF) (ρ : List Value) (st' : List Value) (μ' : zM) : Prop := ∃ ρ', (ρ' = ρ ∨ ∃ w, ρ' = ρ ++ [w]) ∧ a_Tr T' ρ' ∧ a_Sr ρ' sa' st' ∧ a_Fr ρ' F' μ' ∧ a_H μ' ∧ a_Fz md μ0 μ'
theorem a_rd_ok {T T' : List aI} {F F' : aF} {ρ : List Value} {μ : zM} {o ci k r v' : Nat} {R : List Nat} (h : a_Tr T ρ) (hF : a_Fr ρ F μ) (hH : a_H μ) (hf : a_rd T F o ci k R = some (T', v', F')) (hr : r ∈ R) (e1 : ρ[o]? = some (.ref r)) (q2 : (z_sh r).1 = 0) (q3 : (z_sh r).2.1 = ci) : ∃ ρ', (ρ' = ρ ∨ ∃ w, ρ' = ρ ++ [w]) ∧ a_Tr T' ρ' ∧ ρ'[v']? = some (z_gv μ ci r k) ∧ a_Fr ρ' F' μ := by
  unfold a_rd at hf
  split at hf
  · rename_i v hv
    cases hf
    obtain ⟨r', w, h1, h2, h3, h4⟩ := hF _ (a_fl_mem hv)
    have h1 : ρ[o]? = some (.ref r') := h1
    rw [e1] at h1
    cases h1
    have h4 : z_gv μ (z_sh r).2.1 r k = w := h4
    rw [q3] at h4
    exact ⟨ρ, Or.inl rfl, h, by rw [h4]; exact h2, hF⟩
  · have mk : ∀ (kd : Nat) (b : aB) (R' : List Nat), a_ok (kd, b, R', (T.length, 0)) (z_gv μ ci r k) → ∃ ρ', (ρ' = ρ ∨ ∃ w, ρ' = ρ ++ [w]) ∧ a_Tr (T ++ [(kd, b, R', (T.length, 0))]) ρ' ∧ ρ'[T.length]? = some (z_gv μ ci r k) ∧ a_Fr ρ' ((o, k, T.length) :: F) μ := fun kd b R' hok => by
      refine ⟨ρ ++ [z_gv μ ci r k], Or.inr ⟨_, rfl⟩, a_new h hok, a_last h, fun f hf => ?_⟩
      rcases List.mem_cons.mp hf with rfl | hf
      · exact ⟨r, _, a_at_app e1, a_last h, q2, by rw [q3]⟩
      · exact a_Fr_app hF f hf
    split at hf
    · rename_i hk
      cases hf
      refine mk 0 _ _ ⟨μ.1 r k, by unfold z_gv; rw [hk]; rfl, ?_⟩
      rw [← a_bd_obj q2 q3]
      exact hH r k
    · rename_i hk
      cases hf
      exact mk 1 _ _ ⟨μ.2.1 r k, by unfold z_gv; rw [hk]; rfl, a_topj _⟩
    · rename_i hk
      cases hf
      refine mk 0 _ _ ⟨μ.1 r k, by unfold z_gv; rw [hk]; rfl, ?_⟩
      rw [← a_bd_obj q2 q3]
      exact hH r k
    · rename_i hk
      cases hf
      exact mk 2 _ _ ⟨z_gr r k, List.mem_map.mpr ⟨r, hr, rfl⟩, by unfold z_gv; rw [hk]; rfl⟩
    · cases hf
theorem a_wr_ok {T : List aI} {F F' : aF} {md : List (Nat × Nat)} {ρ : List Value} {μ0 μ : zM} {o ci k r v : Nat} {w : Value} {R : List Nat} (h : a_Tr T ρ) (hF : a_Fr ρ F μ) (hH : a_H μ) (hZ : a_Fz md μ0 μ) (hf : a_wr T F md o v ci k R = some F') (hr : r ∈ R) (e1 : ρ[o]? = some (.ref r)) (e2 : ρ[v]? = some w) (q2 : (z_sh r).1 = 0) (q3 : (z_sh r).2.1 = ci) : ∃ μ', z_pv μ ci r k w = some μ' ∧ a_Fr ρ F' μ' ∧ a_H μ' ∧ a_Fz md μ0 μ' := by
  unfold a_wr at hf
  split at hf
  · rename_i hk
    split at hf
    · rename_i b hb
      obtain ⟨h1, h2⟩ := z_bif hf
      subst h2
      obtain ⟨h3, h4⟩ := z_and h1
      obtain ⟨x, x1, x2⟩ := a_int_ok h hb
      rw [e2] at x1
      cases x1
      have hp : z_pv μ ci r k (.int x) = some (z_ui μ r k x) := by unfold z_pv; rw [hk]; rfl
      refine ⟨_, hp, a_Fr_put hF e1 e2 q2 (by rw [q3]; exact hp), a_H_ui hH (by rw [a_bd_obj q2 q3]; exact a_in_ok h3 x2), a_Fz_ui hZ (List.all_eq_true.mp h4 r hr)⟩
    · cases hf
  · rename_i hk
    split at hf
    · rename_i b hb
      obtain ⟨h4, h2⟩ := z_bif hf
      subst h2
      obtain ⟨x, x1, x2⟩ := a_lng_ok h hb
      rw [e2] at x1
      cases x1
      have hp : z_pv μ ci r k (.long x) = some (z_uj μ r k x) := by unfold z_pv; rw [hk]; rfl
      exact ⟨_, hp, a_Fr_put hF e1 e2 q2 (by rw [q3]; exact hp), hH, a_Fz_uj hZ (List.all_eq_true.mp h4 r hr)⟩
    · cases hf
  · rename_i hk
    split at hf
    · rename_i b hb
      obtain ⟨h1, h2⟩ := z_bif hf
      subst h2
      obtain ⟨h3, h4⟩ := z_and h1
      obtain ⟨x, x1, x2⟩ := a_int_ok h hb
      rw [e2] at x1
      cases x1
      have h01 := a_in_ok h3 x2
      have hp : z_pv μ ci r k (.int x) = some (z_ui μ r k x) := by
        unfold z_pv
        rw [hk]
        show (bif z_b01 x then _ else _) = _
        rw [a_01 h01]
        rfl
      refine ⟨_, hp, a_Fr_put hF e1 e2 q2 (by rw [q3]; exact hp), a_H_ui hH ?_, a_Fz_ui hZ (List.all_eq_true.mp h4 r hr)⟩
      rw [a_bd_obj q2 q3]
      unfold a_cbd
      rw [hk]
      exact h01
    · cases hf
  · rename_i hk
    split at hf
    · rename_i V hb
      obtain ⟨h1, h2⟩ := z_bif hf
      subst h2
      obtain ⟨h3, h4⟩ := z_and h1
      obtain ⟨x, x1, x2⟩ := a_ref_ok h hb
      rw [e2] at x2
      cases x2
      obtain ⟨v1, v2⟩ := z_and (List.all_eq_true.mp h3 x x1)
      have v1 := z_blt v1
      have v2 := z_blt v2
      have hp : z_pv μ ci r k (.ref x) = some (z_ur μ r x) := by
        unfold z_pv
        rw [hk]
        show (bif Nat.beq x 0 || Nat.ble 79 x then _ else _) = _
        rw [z_bf (by omega)]
        have : Nat.ble 79 x = false := by
          cases hq : Nat.ble 79 x with
          | false => rfl
          | true => have := Nat.le_of_ble_eq_true hq; omega
        rw [this]
        rfl
      exact ⟨_, hp, a_Fr_put hF e1 e2 q2 (by rw [q3]; exact hp), hH, a_Fz_ur hZ (List.all_eq_true.mp h4 r hr)⟩
    · cases hf
  · cases hf
theorem a_hull_ok {f : Nat → aB} {R : List Nat} {r : Nat} {x : Int32} (h : r ∈ R) (hx : a_bi (f r) x) : a_bi (a_hull f R) x := by
  have key : ∀ (R : List Nat) (b : aB), (a_bi b x ∨ r ∈ R) → a_bi (R.foldl (fun b r => (min b.1 (f r).1, max b.2 (f r).2)) b) x := by
    intro R
    induction R with
    | nil => intro b hb; exact hb.elim id (fun h => by cases h)
    | cons q R ih =>
      intro b hb
      refine ih _ ?_
      rcases hb with hb | hb
      · exact Or.inl ⟨by show min _ _ ≤ _; have := hb.1; omega, by show _ ≤ max _ _; have := hb.2; omega⟩
      · rcases List.mem_cons.mp hb with rfl | hb
        · exact Or.inl ⟨by show min _ _ ≤ _; have := hx.1; omega, by show _ ≤ max _ _; have := hx.2; omega⟩
        · exact Or.inr hb
  cases R with
  | nil => cases h
  | cons q R =>
    refine key R (f q) ?_
    rcases List.mem_cons.mp h with rfl | h
    · exact Or.inl hx
    · exact Or.inr h
theorem a_ro_ok {r : Nat} (h : (Nat.beq r 101 || Nat.beq r 102) = true) : z_av z_x0 r = true ∧ (z_ro z_x0 r).1 = 30 ∧ ∀ j, a_bi (0, 6) ((z_ro z_x0 r).2 j) := by
  have hh : ∀ (l : List Int32), l.all (fun x => decide (0 ≤ x.toInt) && decide (x.toInt ≤ 6)) = true → ∀ j, a_bi (0, 6) (l.getD j 0) := by
    intro l hl j
    rw [List.getD_eq_getElem?_getD]
    cases hj : l[j]? with
    | none => exact ⟨by decide, by decide⟩
    | some x =>
      have := List.all_eq_true.mp hl x (List.mem_of_getElem? hj)
      obtain ⟨h1, h2⟩ := z_and this
      exact ⟨of_decide_eq_true h1, of_decide_eq_true h2⟩
  rw [Bool.or_eq_true] at h
  rcases h with h | h
  · rw [z_beq h]
    exact ⟨rfl, rfl, hh z_han (by decide +kernel)⟩
  · rw [z_beq h]
    exact ⟨rfl, rfl, hh z_ohan (by decide +kernel)⟩
theorem a_catS {T : List aI} {ρ : List Value} {sa : List Nat} {st : List Value} (hs : a_Sr ρ sa st) : (st.map fun v => v.category).sum ≤ 2 * sa.length := by
  induction sa generalizing st with
  | nil => cases st with
    | nil => exact Nat.le_refl _
    | cons v r => cases hs
  | cons s r ih =>
    obtain ⟨v, t, rfl, -, h2⟩ := a_Sr_cons hs
    have := ih h2
    have hc := lv_cat v
    rw [List.map_cons, List.sum_cons, List.length_cons]
    omega
set_option maxHeartbeats 4000000 in
theorem a_hp_ok {np oc : Nat} {md : List (Nat × Nat)} {ins : Instr} {T T' : List aI} {ρ : List Value} {sa sa' : List Nat} {F F' : aF} {st : List Value} {μ0 μ : zM} (hnp : 79 ≤ np) (h : a_Tr T ρ) (hs : a_Sr ρ sa st) (hF : a_Fr ρ F μ) (hH : a_H μ) (hZ : a_Fz md μ0 μ) (hf : a_hp oc md ins T sa F = some (T', sa', F')) : ∃ st' μ', z_hp z_x0 np oc ins st μ = some (st', μ') ∧ a_hpr md μ0 T' sa' F' ρ st' μ' := by
  have one : ∀ {kd : Nat} {b : aB} {R' : List Nat} {w : Value} {sa1 : List Nat} {s1 : List Value}, a_ok (kd, b, R', (T.length, 0)) w → a_Sr ρ sa1 s1 → a_hpr md μ0 (T ++ [(kd, b, R', (T.length, 0))]) (T.length :: sa1) F ρ (w :: s1) μ := fun hok hs1 => ⟨ρ ++ [_], Or.inr ⟨_, rfl⟩, a_new h hok, a_Sr_push h hs1, a_Fr_app hF, hH, hZ⟩
  unfold a_hp at hf
  split at hf
  · -- getfield
    split at hf
    · rename_i o t _ _ R ci k hR hl
      cases hq : R.all (a_obj ci k) with
      | false => rw [hq] at hf; cases hf
      | true =>
        rw [hq] at hf
        obtain ⟨⟨T2, v2, F2⟩, h1, h2⟩ := Option.map_eq_some_iff.mp (show (a_rd T F o ci k R).map (fun q => (q.1, q.2.1 :: t, q.2.2)) = some (T', sa', F') from hf)
        cases h2
        obtain ⟨r, r1, r2⟩ := a_ref_ok h hR
        obtain ⟨s1, rfl, hs1⟩ := a_top hs r2
        obtain ⟨o1, o2, o3, o4⟩ := a_obj_inv (List.all_eq_true.mp hq r r1)
        obtain ⟨ρ', p0, p1, p2, p3⟩ := a_rd_ok h hF hH h1 r1 r2 o2 o3
        refine ⟨z_gv μ ci r k :: s1, μ, ?_, ρ', p0, p1, ?_, p3, hH, hZ⟩
        · unfold z_hp
          simp only [hl, a_blt o1 hnp, o2, o3, z_bt, Bool.true_and]
          rw [show Nat.blt k (z_sh r).2.2 = true from Nat.ble_eq_true_of_le o4]
          rfl
        · rcases p0 with rfl | ⟨w, rfl⟩
          · exact a_Sr_mk p2 hs1
          · exact a_Sr_mk p2 (a_Sr_app hs1)
    · cases hf
  · -- putfield
    split at hf
    · rename_i v o t _ _ R ci k hR hl
      cases hq : R.all (a_obj ci k) with
      | false => rw [hq] at hf; cases hf
      | true =>
        rw [hq] at hf
        obtain ⟨F2, h1, h2⟩ := Option.map_eq_some_iff.mp (show (a_wr T F md o v ci k R).map (fun F' => (T, t, F')) = some (T', sa', F') from hf)
        cases h2
        obtain ⟨w, s0, rfl, e2, hs0⟩ := a_Sr_cons hs
        obtain ⟨r, r1, r2⟩ := a_ref_ok h hR
        obtain ⟨s1, rfl, hs1⟩ := a_top hs0 r2
        obtain ⟨o1, o2, o3, o4⟩ := a_obj_inv (List.all_eq_true.mp hq r r1)
        obtain ⟨μ', m1, m2, m3, m4⟩ := a_wr_ok h hF hH hZ h1 r1 r2 e2 o2 o3
        refine ⟨s1, μ', ?_, ρ, Or.inl rfl, h, hs1, m2, m3, m4⟩
        unfold z_hp
        simp only [hl, a_blt o1 hnp, o2, o3, z_bt, Bool.true_and]
        rw [show Nat.blt k (z_sh r).2.2 = true from Nat.ble_eq_true_of_le o4]
        simp only [cond_true, m1, Option.map_some]
    · cases hf
  · -- getstatic
    split at hf
    · rename_i r hl
      cases hf
      exact ⟨_, μ, by unfold z_hp; simp only [hl], one ⟨r, List.mem_singleton.mpr rfl, rfl⟩ hs⟩
    · cases hf
  · -- ldc2_w
    split at hf
    · rename_i x hl
      cases hf
      exact ⟨_, μ, by unfold z_hp; simp only [hl], one ⟨x, rfl, ⟨Int.le_refl _, Int.le_refl _⟩⟩ hs⟩
    · cases hf
  · -- iaload
    split at hf
    · rename_i i o t R b hR hi
      obtain ⟨x, x1, x2⟩ := a_int_ok h hi
      obtain ⟨r, r1, r2⟩ := a_ref_ok h hR
      obtain ⟨s0, rfl, hs0⟩ := a_top hs x1
      obtain ⟨s1, rfl, hs1⟩ := a_top hs0 r2
      cases hq : R.all (a_arr 1 b) with
      | true =>
        rw [hq] at hf
        cases hf
        obtain ⟨o1, o2, o3⟩ := a_arr_inv (List.all_eq_true.mp hq r r1) x2
        refine ⟨.int (μ.1 r x.toNatClampNeg) :: s1, μ, ?_, one ⟨_, rfl, a_hull_ok r1 ?_⟩ hs1⟩
        · unfold z_hp
          simp only [a_blt (n := 100) o1 (by decide), cond_true, a_blt o1 hnp, o2, o3, z_bt, Bool.true_and]
        · rw [← a_bd_row (r := r) (k := x.toNatClampNeg) (by rw [o2]; decide)]
          exact hH r _
      | false =>
        rw [hq] at hf
        simp only [cond_false] at hf
        obtain ⟨h1, h2⟩ := z_bif hf
        cases h2
        obtain ⟨h3, h4⟩ := z_and h1
        obtain ⟨h4, h5⟩ := z_and h4
        have h4 := of_decide_eq_true h4
        have h5 := of_decide_eq_true h5
        have h3 := List.all_eq_true.mp h3 r r1
        obtain ⟨a1, a2, a3⟩ := a_ro_ok h3
        have hr : Nat.blt r 100 = false := by
          rw [Bool.or_eq_true] at h3
          rcases h3 with h3 | h3 <;> rw [z_beq h3] <;> rfl
        have hin : z_in x 30 = true := by
          unfold z_in
          have q1 := x2.1
          have q2 := x2.2
          rw [decide_eq_true (by omega : 0 ≤ x.toInt), decide_eq_true (by omega : x.toInt < ((30 : Nat) : Int))]
          rfl
        refine ⟨.int ((z_ro z_x0 r).2 x.toNatClampNeg) :: s1, μ, ?_, one ⟨_, rfl, a3 _⟩ hs1⟩
        unfold z_hp
        simp only [hr, cond_false, a1, a2, hin, Bool.and_self, cond_true]
    · cases hf
  · -- baload
    split at hf
    · rename_i i o t R b hR hi
      obtain ⟨x, x1, x2⟩ := a_int_ok h hi
      obtain ⟨r, r1, r2⟩ := a_ref_ok h hR
      obtain ⟨s0, rfl, hs0⟩ := a_top hs x1
      obtain ⟨s1, rfl, hs1⟩ := a_top hs0 r2
      obtain ⟨hq, h2⟩ := z_bif hf
      cases h2
      obtain ⟨o1, o2, o3⟩ := a_arr_inv (List.all_eq_true.mp hq r r1) x2
      refine ⟨.int (μ.1 r x.toNatClampNeg) :: s1, μ, ?_, one ⟨_, rfl, ?_⟩ hs1⟩
      · unfold z_hp
        simp only [a_blt o1 hnp, o2, o3, z_bt, Bool.true_and, cond_true]
      · have := hH r x.toNatClampNeg
        rw [a_bd_row (by rw [o2]; decide)] at this
        unfold a_abd at this
        rw [o2] at this
        exact this
    · cases hf
  · -- laload
    split at hf
    · rename_i i o t R b hR hi
      obtain ⟨x, x1, x2⟩ := a_int_ok h hi
      obtain ⟨r, r1, r2⟩ := a_ref_ok h hR
      obtain ⟨s0, rfl, hs0⟩ := a_top hs x1
      obtain ⟨s1, rfl, hs1⟩ := a_top hs0 r2
      obtain ⟨hq, h2⟩ := z_bif hf
      cases h2
      obtain ⟨o1, o2, o3⟩ := a_arr_inv (List.all_eq_true.mp hq r r1) x2
      refine ⟨.long (μ.2.1 r x.toNatClampNeg) :: s1, μ, ?_, one ⟨_, rfl, a_topj _⟩ hs1⟩
      unfold z_hp
      simp only [a_blt o1 hnp, o2, o3, z_bt, Bool.true_and, cond_true]
    · cases hf
  · -- aaload
    split at hf
    · rename_i i o t R b hR hi
      obtain ⟨x, x1, x2⟩ := a_int_ok h hi
      obtain ⟨r, r1, r2⟩ := a_ref_ok h hR
      obtain ⟨s0, rfl, hs0⟩ := a_top hs x1
      obtain ⟨s1, rfl, hs1⟩ := a_top hs0 r2
      obtain ⟨hq, h2⟩ := z_bif hf
      cases h2
      obtain ⟨o1, o2, o3⟩ := a_arr_inv (List.all_eq_true.mp hq r r1) x2
      refine ⟨.ref (z_gr r x.toNatClampNeg) :: s1, μ, ?_, one ⟨_, List.mem_flatMap.mpr ⟨r, r1, List.mem_map.mpr ⟨x.toNatClampNeg, List.mem_range.mpr (in_lt (z_in_iff.mp o3)), rfl⟩⟩, rfl⟩ hs1⟩
      unfold z_hp
      simp only [a_blt o1 hnp, o2, o3, z_bt, Bool.true_and, cond_true]
    · cases hf
  · -- iastore
    split at hf
    · rename_i y i o t R b bx hR hi hy
      obtain ⟨v, v1, v2⟩ := a_int_ok h hy
      obtain ⟨x, x1, x2⟩ := a_int_ok h hi
      obtain ⟨r, r1, r2⟩ := a_ref_ok h hR
      obtain ⟨s9, rfl, hs9⟩ := a_top hs v1
      obtain ⟨s0, rfl, hs0⟩ := a_top hs9 x1
      obtain ⟨s1, rfl, hs1⟩ := a_top hs0 r2
      obtain ⟨hq, h2⟩ := z_bif hf
      cases h2
      obtain ⟨q1, q2⟩ := z_and (List.all_eq_true.mp hq r r1)
      obtain ⟨q2, q3⟩ := z_and q2
      obtain ⟨o1, o2, o3⟩ := a_arr_inv q1 x2
      have hne : (z_sh r).1 ≠ 0 := by rw [o2]; decide
      refine ⟨s1, z_ui μ r x.toNatClampNeg v, ?_, ρ, Or.inl rfl, h, hs1, a_Fr_row hF hne (z_ui_hne _ _ _ _), a_H_ui hH (by rw [a_bd_row hne]; exact a_in_ok q3 v2), a_Fz_ui hZ (a_mda_md q2 _)⟩
      unfold z_hp
      simp only [a_blt o1 hnp, o2, o3, z_bt, Bool.true_and, cond_true]
    · cases hf
  · -- bastore
    split at hf
    · rename_i y i o t R b bx hR hi hy
      obtain ⟨v, v1, v2⟩ := a_int_ok h hy
      obtain ⟨x, x1, x2⟩ := a_int_ok h hi
      obtain ⟨r, r1, r2⟩ := a_ref_ok h hR
      obtain ⟨s9, rfl, hs9⟩ := a_top hs v1
      obtain ⟨s0, rfl, hs0⟩ := a_top hs9 x1
      obtain ⟨s1, rfl, hs1⟩ := a_top hs0 r2
      obtain ⟨hq, h2⟩ := z_bif hf
      cases h2
      obtain ⟨q1, q2⟩ := z_and (List.all_eq_true.mp hq r r1)
      obtain ⟨q2, q3⟩ := z_and q2
      obtain ⟨o1, o2, o3⟩ := a_arr_inv q1 x2
      have hne : (z_sh r).1 ≠ 0 := by rw [o2]; decide
      have h01 := a_in_ok q3 v2
      refine ⟨s1, z_ui μ r x.toNatClampNeg v, ?_, ρ, Or.inl rfl, h, hs1, a_Fr_row hF hne (z_ui_hne _ _ _ _), a_H_ui hH ?_, a_Fz_ui hZ (a_mda_md q2 _)⟩
      · unfold z_hp
        simp only [a_blt o1 hnp, o2, o3, z_bt, Bool.true_and, a_01 h01, cond_true]
      · rw [a_bd_row hne]
        unfold a_abd
        rw [o2]
        exact h01
    · cases hf
  · -- lastore
    split at hf
    · rename_i y i o t R b bx hR hi hy
      obtain ⟨v, v1, v2⟩ := a_lng_ok h hy
      obtain ⟨x, x1, x2⟩ := a_int_ok h hi
      obtain ⟨r, r1, r2⟩ := a_ref_ok h hR
      obtain ⟨s9, rfl, hs9⟩ := a_top hs v1
      obtain ⟨s0, rfl, hs0⟩ := a_top hs9 x1
      obtain ⟨s1, rfl, hs1⟩ := a_top hs0 r2
      obtain ⟨hq, h2⟩ := z_bif hf
      cases h2
      obtain ⟨q1, q2⟩ := z_and (List.all_eq_true.mp hq r r1)
      obtain ⟨o1, o2, o3⟩ := a_arr_inv q1 x2
      have hne : (z_sh r).1 ≠ 0 := by rw [o2]; decide
      refine ⟨s1, z_uj μ r x.toNatClampNeg v, ?_, ρ, Or.inl rfl, h, hs1, a_Fr_row hF hne (z_uj_hne _ _ _ _), hH, a_Fz_uj hZ (a_mda_md q2 _)⟩
      unfold z_hp
      simp only [a_blt o1 hnp, o2, o3, z_bt, Bool.true_and, cond_true]
    · cases hf
  · -- arraylength
    split at hf
    · rename_i o t R hR
      obtain ⟨hq, h2⟩ := z_bif hf
      cases h2
      obtain ⟨r, r1, r2⟩ := a_ref_ok h hR
      obtain ⟨s1, rfl, hs1⟩ := a_top hs r2
      obtain ⟨a1, a2, a3⟩ := a_ro_ok (List.all_eq_true.mp hq r r1)
      have n60 : Nat.beq r 60 = false := by
        have e := List.all_eq_true.mp hq r r1
        rw [Bool.or_eq_true] at e
        rcases e with e | e <;> rw [z_beq e] <;> rfl
      refine ⟨.int (Int32.ofNat (z_ro z_x0 r).1) :: s1, μ, ?_, one ⟨_, rfl, ?_⟩ hs1⟩
      · unfold z_hp
        simp only [n60, a1, cond_true, cond_false]
      · rw [a2]
        exact ⟨by show (30 : Int) ≤ _; decide, by show _ ≤ (30 : Int); decide⟩
    · cases hf
  · -- Math
    split at hf
    · rename_i idx y x t bx by' hx hy hl
      obtain ⟨hq, h2⟩ := z_bif hf
      cases h2
      obtain ⟨vx, x1, x2⟩ := a_int_ok h hx
      obtain ⟨vy, y1, y2⟩ := a_int_ok h hy
      obtain ⟨s0, rfl, hs0⟩ := a_top hs y1
      obtain ⟨s1, rfl, hs1⟩ := a_top hs0 x1
      have hc := Nat.le_trans (a_catS (T := T) hs1) (Nat.le_of_ble_eq_true hq)
      refine ⟨.int (if vx < vy then vy else vx) :: s1, μ, ?_, one ⟨_, rfl, ?_⟩ hs1⟩
      · unfold z_hp
        simp only [hl]
        rw [Nat.ble_eq_true_of_le hc]
        rfl
      · split
        · rename_i hlt
          have := Int32.lt_iff_toInt_lt.mp hlt
          exact ⟨by show max _ _ ≤ _; have := x2.1; have := y2.1; omega, by show _ ≤ max _ _; have := y2.2; omega⟩
        · rename_i hlt
          have := Int32.le_iff_toInt_le.mp (Int32.not_lt.mp hlt)
          exact ⟨by show max _ _ ≤ _; have := x2.1; have := y2.1; omega, by show _ ≤ max _ _; have := x2.2; omega⟩
    · rename_i idx y x t bx by' hx hy hl
      obtain ⟨hq, h2⟩ := z_bif hf
      cases h2
      obtain ⟨vx, x1, x2⟩ := a_int_ok h hx
      obtain ⟨vy, y1, y2⟩ := a_int_ok h hy
      obtain ⟨s0, rfl, hs0⟩ := a_top hs y1
      obtain ⟨s1, rfl, hs1⟩ := a_top hs0 x1
      have hc := Nat.le_trans (a_catS (T := T) hs1) (Nat.le_of_ble_eq_true hq)
      refine ⟨.int (if vy < vx then vy else vx) :: s1, μ, ?_, one ⟨_, rfl, ?_⟩ hs1⟩
      · unfold z_hp
        simp only [hl]
        rw [Nat.ble_eq_true_of_le hc]
        rfl
      · split
        · rename_i hlt
          have := Int32.lt_iff_toInt_lt.mp hlt
          exact ⟨by show min _ _ ≤ _; have := y2.1; omega, by show _ ≤ min _ _; have := x2.2; have := y2.2; omega⟩
        · rename_i hlt
          have := Int32.le_iff_toInt_le.mp (Int32.not_lt.mp hlt)
          exact ⟨by show min _ _ ≤ _; have := x2.1; omega, by show _ ≤ min _ _; have := x2.2; have := y2.2; omega⟩
    · cases hf
  · cases hf
