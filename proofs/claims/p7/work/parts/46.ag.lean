/-! a contract that the checker calls good holds -/
def a_lx : List Nat → List Nat → Prop
  | a :: r, b :: s => (a < b ∧ r.length = s.length) ∨ (a = b ∧ a_lx r s)
  | _, _ => False
theorem a_lx_ind {n : Nat} {P : List Nat → Prop} (h : ∀ l, l.length = n → (∀ l', l'.length = n → a_lx l' l → P l') → P l) : ∀ l, l.length = n → P l := by
  induction n generalizing P with
  | zero =>
    intro l hl
    refine h l hl (fun l' hl' hx => ?_)
    cases l' with
    | nil => exact hx.elim
    | cons a r => cases hl'
  | succ n ih =>
    have key : ∀ a, ∀ r : List Nat, r.length = n → P (a :: r) := by
      intro a
      induction a using Nat.strongRecOn with
      | ind a iha =>
        refine ih (P := fun r => P (a :: r)) (fun r hr hi => ?_)
        refine h (a :: r) (by rw [List.length_cons, hr]) (fun l' hl' hx => ?_)
        cases l' with
        | nil => cases hl'
        | cons b s =>
          have hs : s.length = n := by
            rw [List.length_cons] at hl'
            omega
          rcases hx with ⟨h1, -⟩ | ⟨rfl, h2⟩
          · exact iha b h1 s hs
          · exact hi s hs h2
    intro l hl
    cases l with
    | nil => cases hl
    | cons a r =>
      rw [List.length_cons] at hl
      exact key a r (by omega)
def a_m1 (lv : zL) (p : aX) : Nat := match p.2.1 with
  | 0 => p.1.toNat
  | 1 => (match z_lk lv p.2.2 with | some v => (p.1 - a_num v).toNat | none => 0)
  | _ => (match z_lk lv p.2.2 with | some v => (p.1 + a_num v).toNat | none => 0)
def a_ms (M : List aX) (lv : zL) : List Nat := M.map (a_m1 lv)
theorem a_lex_ok {l0 : List (Nat × Nat)} {T : List aI} {ρ : List Value} {la : List (Nat × Nat)} {lv lv0 : zL} (h : a_Tr T ρ) (hl : a_Lr ρ la lv) (hl0 : a_Lr ρ l0 lv0) : ∀ (M0 M1 : List aX), a_lex l0 T la M0 M1 = true → a_lx (a_ms M1 lv) (a_ms M0 lv0) := by
  intro M0
  induction M0 with
  | nil => intro M1 hf; unfold a_lex at hf; cases hf
  | cons p0 r0 ih =>
    intro M1 hf
    cases M1 with
    | nil => unfold a_lex at hf; cases hf
    | cons p1 r1 =>
      obtain ⟨c0, k0, i0⟩ := p0
      obtain ⟨c1, k1, i1⟩ := p1
      have hlen : Nat.beq r0.length r1.length = true → (a_ms r1 lv).length = (a_ms r0 lv0).length := fun hb => by
        unfold a_ms
        rw [List.length_map, List.length_map, z_beq hb]
      unfold a_lex at hf
      obtain ⟨hk9, hg⟩ := z_and hf
      clear hf
      have hk := z_beq hk9
      clear hk9
      subst hk
      have hf := hg
      clear hg
      cases hk0 : Nat.beq k0 0 with
      | true =>
        rw [hk0] at hf
        simp only [cond_true] at hf
        rw [Bool.or_eq_true] at hf
        have e := z_beq hk0
        subst e
        show a_lx (c1.toNat :: a_ms r1 lv) (c0.toNat :: a_ms r0 lv0)
        rcases hf with hf | hf
        · obtain ⟨h1, h3⟩ := z_and hf
          obtain ⟨h1, h2⟩ := z_and h1
          have h1 := of_decide_eq_true h1
          have h2 := of_decide_eq_true h2
          exact Or.inl ⟨by omega, hlen h3⟩
        · obtain ⟨h1, h2⟩ := z_and hf
          have h1 := of_decide_eq_true h1
          exact Or.inr ⟨by rw [h1], ih r1 h2⟩
      | false =>
        rw [hk0] at hf
        simp only [cond_false] at hf
        split at hf
        · rename_i p s e1 e2
          split at hf
          · rename_i b R bs of hT
            obtain ⟨k1, hg⟩ := z_and hf
            clear hf
            have hf := hg
            clear hg
            obtain ⟨v, v1, ⟨x, rfl, hx⟩, u, u1, u2⟩ := h.2 s _ hT
            have u1 : ρ[bs]? = some u := u1
            have u2 : x.toInt = a_num u + of := u2
            obtain ⟨w, w1, w2⟩ := hl0 i0 p e1
            obtain ⟨y, y1, y2⟩ := hl i1 s e2
            rw [v1] at y1
            cases y1
            have hwu : w = u := by
              rw [z_beq k1, w1] at u1
              exact Option.some.inj u1
            subst hwu
            have hx1 : b.1 ≤ x.toInt := hx.1
            have hx2 : x.toInt ≤ b.2 := hx.2
            show a_lx (a_m1 lv (c1, k0, i1) :: a_ms r1 lv) (a_m1 lv0 (c0, k0, i0) :: a_ms r0 lv0)
            cases hk1 : Nat.beq k0 1 with
            | true =>
              rw [hk1] at hf
              simp only [cond_true] at hf
              have e := z_beq hk1
              subst e
              have m1 : a_m1 lv (c1, 1, i1) = (c1 - x.toInt).toNat := by
                unfold a_m1
                simp only [y2]
                rfl
              have m0 : a_m1 lv0 (c0, 1, i0) = (c0 - a_num w).toNat := by
                unfold a_m1
                simp only [w2]
              rw [m1, m0]
              rw [Bool.or_eq_true] at hf
              rcases hf with hf | hf
              · obtain ⟨h1, h3⟩ := z_and hf
                obtain ⟨h1, h2⟩ := z_and h1
                have h1 := of_decide_eq_true h1
                have h2 := of_decide_eq_true h2
                exact Or.inl ⟨by omega, hlen h3⟩
              · obtain ⟨h1, h2⟩ := z_and hf
                have h1 := of_decide_eq_true h1
                exact Or.inr ⟨by congr 1; omega, ih r1 h2⟩
            | false =>
              rw [hk1] at hf
              simp only [cond_false] at hf
              have m1 : a_m1 lv (c1, k0, i1) = (c1 + x.toInt).toNat := by
                unfold a_m1
                split
                · rename_i e
                  have e : k0 = 0 := e
                  rw [e] at hk0
                  cases hk0
                · rename_i e
                  have e : k0 = 1 := e
                  rw [e] at hk1
                  cases hk1
                · simp only [y2]
                  rfl
              have m0 : a_m1 lv0 (c0, k0, i0) = (c0 + a_num w).toNat := by
                unfold a_m1
                split
                · rename_i e
                  have e : k0 = 0 := e
                  rw [e] at hk0
                  cases hk0
                · rename_i e
                  have e : k0 = 1 := e
                  rw [e] at hk1
                  cases hk1
                · simp only [w2]
              rw [m1, m0]
              rw [Bool.or_eq_true] at hf
              rcases hf with hf | hf
              · obtain ⟨h1, h3⟩ := z_and hf
                obtain ⟨h1, h2⟩ := z_and h1
                have h1 := of_decide_eq_true h1
                have h2 := of_decide_eq_true h2
                exact Or.inl ⟨by omega, hlen h3⟩
              · obtain ⟨h1, h2⟩ := z_and hf
                have h1 := of_decide_eq_true h1
                exact Or.inr ⟨by congr 1; omega, ih r1 h2⟩
          · cases hf
        · cases hf
/-- a state as a cut has it -/
def a_At (md : List (Nat × Nat)) (μ0 : zM) (c : aC) (lv : zL) (st : List Value) (μ : zM) : Prop := (∀ p ∈ c.2.1, ∃ v, z_lk lv p.1 = some v ∧ a_ok p.2 v) ∧ (st.length = c.2.2.1.length ∧ ∀ (i : Nat) (q : aI) (v : Value), c.2.2.1[i]? = some q → st[i]? = some v → a_ok q v) ∧ (∀ f ∈ c.2.2.2.1, ∃ r, z_lk lv f.1 = some (.ref r) ∧ (z_sh r).1 = 0 ∧ a_ok f.2.2 (z_gv μ (z_sh r).2.1 r f.2.1)) ∧ a_H μ ∧ a_Fz md μ0 μ
theorem a_ts_ok {T : List aI} {ρ : List Value} {s : Nat} {q : aI} {v : Value} (h : a_Tr T ρ) (hf : a_ts T s q = true) (hv : ρ[s]? = some v) : a_ok q v := by
  unfold a_ts at hf
  split at hf
  · rename_i q0 hq
    obtain ⟨w, w1, w2, -⟩ := h.2 s q0 hq
    rw [hv] at w1
    cases w1
    exact a_les_ok hf w2
  · cases hf
theorem a_at_ok {md : List (Nat × Nat)} {μ0 μ : zM} {ρ : List Value} {S : aS} {lv : zL} {st : List Value} {c : aC} (h : a_Gr md μ0 ρ S lv st μ) (hf : a_at S c = true) : a_At md μ0 c lv st μ := by
  obtain ⟨h1, h2, h3, h4, h5, h6⟩ := h
  unfold a_at at hf
  obtain ⟨f1, hf⟩ := z_and hf
  obtain ⟨f2, hf⟩ := z_and hf
  obtain ⟨f3, f4⟩ := z_and hf
  refine ⟨fun p hp => ?_, ⟨by rw [← a_Sr_len h3, z_beq f2], fun i q v hi hv => ?_⟩, fun f hf => ?_, h5, h6⟩
  · have := List.all_eq_true.mp f1 p hp
    unfold a_ls at this
    split at this
    · rename_i s hs
      obtain ⟨v, v1, v2⟩ := h2 p.1 s hs
      exact ⟨v, v2, a_ts_ok h1 this v1⟩
    · cases this
  · obtain ⟨s, s1, s2⟩ := a_Sr_at2 h3 hv
    exact a_ts_ok h1 (a_zip_at f3 s1 hi) s2
  · have := List.all_eq_true.mp f4 f hf
    unfold a_lf at this
    split at this
    · rename_i o ho
      obtain ⟨r, r1, r2, r3, r4⟩ := a_fchk_ok h1 h4 h5 this
      obtain ⟨v, v1, v2⟩ := h2 f.1 o ho
      rw [r1] at v1
      cases v1
      exact ⟨r, v2, r2, r4⟩
    · cases this
theorem a_ok_same {q : aI} {v : Value} {n : Nat} {d : Int} (h : a_ok q v) : a_ok (q.1, q.2.1, q.2.2.1, (n, d)) v := h
theorem a_il_ok {lv : zL} : ∀ (ps : List (Nat × aI)) (T : List aI) (la : List (Nat × Nat)) (ρ : List Value), a_Tr T ρ → a_Lr ρ la lv → (∀ p ∈ ps, ∃ v, z_lk lv p.1 = some v ∧ a_ok p.2 v) → ∃ ρ', a_ext ρ ρ' ∧ a_Tr (a_il ps T la).1 ρ' ∧ a_Lr ρ' (a_il ps T la).2 lv := by
  intro ps
  induction ps with
  | nil => intro T la ρ h1 h2 _; exact ⟨ρ, a_ext.rf _, h1, h2⟩
  | cons p r ih =>
    intro T la ρ h1 h2 h3
    obtain ⟨v, v1, v2⟩ := h3 p List.mem_cons_self
    have hl : a_Lr (ρ ++ [v]) ((p.1, T.length) :: la) lv := by
      intro i s hs
      unfold z_lk at hs
      by_cases hi : p.1 = i
      · rw [hi, z_bt] at hs
        have hs : some T.length = some s := hs
        cases hs
        rw [hi] at v1
        exact ⟨v, a_last h1, v1⟩
      · rw [z_bf hi] at hs
        exact a_Lr_app h2 i s hs
    obtain ⟨ρ', e1, e2, e3⟩ := ih _ _ (ρ ++ [v]) (a_new (kd := p.2.1) (b := p.2.2.1) (R := p.2.2.2.1) h1 (a_ok_same v2)) hl (fun q hq => h3 q (List.mem_cons_of_mem _ hq))
    exact ⟨ρ', a_ext.tr ⟨[v], rfl⟩ e1, e2, e3⟩
theorem a_is_ok : ∀ (qs : List aI) (T : List aI) (ρ : List Value) (st : List Value), a_Tr T ρ → st.length = qs.length → (∀ (i : Nat) (q : aI) (v : Value), qs[i]? = some q → st[i]? = some v → a_ok q v) → ∃ ρ', a_ext ρ ρ' ∧ a_Tr (a_is qs T).1 ρ' ∧ a_Sr ρ' (a_is qs T).2 st := by
  intro qs
  induction qs with
  | nil =>
    intro T ρ st h1 h2 _
    cases st with
    | nil => exact ⟨ρ, a_ext.rf _, h1, rfl⟩
    | cons v r => cases h2
  | cons q r ih =>
    intro T ρ st h1 h2 h3
    cases st with
    | nil => cases h2
    | cons v t =>
      have hv := h3 0 q v rfl rfl
      obtain ⟨ρ', e1, e2, e3⟩ := ih _ (ρ ++ [v]) t (a_new (kd := q.1) (b := q.2.1) (R := q.2.2.1) h1 (a_ok_same hv)) (by rw [List.length_cons, List.length_cons] at h2; omega) (fun i q v hi hv => h3 (i + 1) q v hi hv)
      exact ⟨ρ', a_ext.tr ⟨[v], rfl⟩ e1, e2, a_Sr_mk (e1.at (a_last h1)) e3⟩
theorem a_if_ok {lv : zL} {μ : zM} : ∀ (fs : List (Nat × Nat × aI)) (T : List aI) (la : List (Nat × Nat)) (F : aF) (ρ : List Value), a_Tr T ρ → a_Lr ρ la lv → a_Fr ρ F μ → (∀ f ∈ fs, ∃ r, z_lk lv f.1 = some (.ref r) ∧ (z_sh r).1 = 0 ∧ a_ok f.2.2 (z_gv μ (z_sh r).2.1 r f.2.1)) → ∃ ρ', a_ext ρ ρ' ∧ a_Tr (a_if fs T la F).1 ρ' ∧ a_Fr ρ' (a_if fs T la F).2 μ := by
  intro fs
  induction fs with
  | nil => intro T la F ρ h1 h2 h3 _; exact ⟨ρ, a_ext.rf _, h1, h3⟩
  | cons f r ih =>
    intro T la F ρ h1 h2 h3 h4
    unfold a_if
    split
    · rename_i o ho
      obtain ⟨q, q1, q2, q3⟩ := h4 f List.mem_cons_self
      obtain ⟨v, v1, v2⟩ := h2 f.1 o ho
      rw [q1] at v2
      cases v2
      have hF : a_Fr (ρ ++ [z_gv μ (z_sh q).2.1 q f.2.1]) ((o, f.2.1, T.length) :: F) μ := by
        intro g hg
        rcases List.mem_cons.mp hg with rfl | hg
        · exact ⟨q, _, a_at_app v1, a_last h1, q2, rfl⟩
        · exact a_Fr_app h3 g hg
      obtain ⟨ρ', e1, e2, e3⟩ := ih _ la _ (ρ ++ [_]) (a_new (kd := f.2.2.1) (b := f.2.2.2.1) (R := f.2.2.2.2.1) h1 (a_ok_same q3)) (a_Lr_app h2) hF (fun g hg => h4 g (List.mem_cons_of_mem _ hg))
      exact ⟨ρ', a_ext.tr ⟨[_], rfl⟩ e1, e2, e3⟩
    · exact ih T la F ρ h1 h2 h3 (fun g hg => h4 g (List.mem_cons_of_mem _ hg))
theorem a_ini_ok {md : List (Nat × Nat)} {μ0 μ : zM} {c : aC} {lv : zL} {st : List Value} (h : a_At md μ0 c lv st μ) : ∃ ρ, a_Gr md μ0 ρ (a_ini c) lv st μ := by
  obtain ⟨h1, ⟨h2, h3⟩, h4, h5, h6⟩ := h
  obtain ⟨ρ1, -, t1, l1⟩ := a_il_ok (lv := lv) c.2.1 [] [] [] ⟨rfl, fun n q hq => by cases hq⟩ (fun i s hs => by cases hs) h1
  obtain ⟨ρ2, e2, t2, s2⟩ := a_is_ok c.2.2.1 _ ρ1 st t1 h2 h3
  obtain ⟨ρ3, e3, t3, f3⟩ := a_if_ok (lv := lv) (μ := μ) c.2.2.2.1 _ _ [] ρ2 t2 (e2.Lr l1) (fun f hf => by cases hf) h4
  exact ⟨ρ3, t3, e3.Lr (e2.Lr l1), e3.Sr s2, f3, h5, h6⟩
theorem a_en_ge : ∀ (qs : List aI) (i : Nat) (p : Nat × aI), p ∈ a_en i qs → i ≤ p.1 := by
  intro qs
  induction qs with
  | nil => intro i p hp; cases hp
  | cons q r ih =>
    intro i p hp
    rcases List.mem_cons.mp hp with rfl | hp
    · exact Nat.le_refl _
    · have := ih _ p hp
      cases hq : Nat.beq q.1 1 with
      | true => rw [hq] at this; have this : i + 2 ≤ p.1 := this; omega
      | false => rw [hq] at this; have this : i + 1 ≤ p.1 := this; omega
theorem a_en_ok : ∀ (qs : List aI) (i : Nat) (As : List Value), As.length = qs.length → (∀ (k : Nat) (q : aI) (v : Value), qs[k]? = some q → As[k]? = some v → a_ok q v) → ∀ (k : Nat) (p : Nat × aI) (v : Value), (a_en i qs)[k]? = some p → As[k]? = some v → z_lk (lv_args i As) p.1 = some v ∧ qs[k]? = some p.2 := by
  intro qs
  induction qs with
  | nil => intro i As _ _ k p v hk; cases hk
  | cons q r ih =>
    intro i As hl ha k p v hk hv
    cases As with
    | nil => cases hl
    | cons w t =>
      have hw := ha 0 q w rfl rfl
      unfold lv_args z_lk
      cases k with
      | zero =>
        cases hk
        cases hv
        exact ⟨by simp only [z_bt, cond_true], rfl⟩
      | succ k =>
        have hk : (a_en (bif Nat.beq q.1 1 then i + 2 else i + 1) r)[k]? = some p := hk
        have hge := a_en_ge r _ p (List.mem_of_getElem? hk)
        have hidx : (if w.category = 2 then i + 2 else i + 1) = (bif Nat.beq q.1 1 then i + 2 else i + 1) := by
          unfold a_ok at hw
          split at hw
          · rename_i e
            obtain ⟨x, rfl, -⟩ := hw
            rw [e]
            rfl
          · rename_i e
            obtain ⟨x, rfl, -⟩ := hw
            rw [e]
            rfl
          · rename_i e0 e1
            obtain ⟨x, -, rfl⟩ := hw
            rw [z_bf e1]
            rfl
        have hne : i ≠ p.1 := by
          intro e
          cases hq : Nat.beq q.1 1 with
          | true => rw [hq] at hge; have hge : i + 2 ≤ p.1 := hge; omega
          | false => rw [hq] at hge; have hge : i + 1 ≤ p.1 := hge; omega
        simp only [z_bf hne, cond_false, hidx]
        exact ih _ t (by rw [List.length_cons, List.length_cons] at hl; omega) (fun k q v h1 h2 => ha (k + 1) q v h1 h2) k p v hk hv
theorem a_en_len : ∀ (qs : List aI) (i : Nat), (a_en i qs).length = qs.length := by
  intro qs
  induction qs with
  | nil => intro i; rfl
  | cons q r ih => intro i; show (a_en _ r).length + 1 = r.length + 1; rw [ih]
theorem a_ent_ok {K : aQ} {n : Nat} {As : List Value} {μ : zM} (h : a_pre1 K As μ) (hH : a_H μ) : a_At K.2.2.2.1 μ (a_ent K n) (lv_args 0 As) [] μ := by
  obtain ⟨h1, h2, h3⟩ := h
  refine ⟨fun p hp => ?_, ⟨rfl, fun i q v hi => by cases hi⟩, fun f hf => ?_, hH, ⟨fun _ _ _ => ⟨rfl, rfl⟩, fun _ _ => rfl⟩⟩
  · obtain ⟨k, hk⟩ := List.getElem?_of_mem hp
    have hkl : k < As.length := by
      rw [h1, ← a_en_len K.2.1 0]
      exact (List.getElem?_eq_some_iff.mp hk).1
    obtain ⟨e1, e2⟩ := a_en_ok K.2.1 0 As h1 h2 k p _ hk (List.getElem?_eq_getElem hkl)
    exact ⟨_, e1, h2 k p.2 _ e2 (List.getElem?_eq_getElem hkl)⟩
  · obtain ⟨g, hg, he⟩ := List.mem_filterMap.mp hf
    obtain ⟨p, hp, he⟩ := Option.map_eq_some_iff.mp he
    subst he
    obtain ⟨r, r1, r2, r3, r4⟩ := h3 g hg
    exact ⟨r, (a_en_ok K.2.1 0 As h1 h2 g.1 p _ hp r1).1, r2, r4⟩
theorem a_good_ok {Ks : List aQ} {Zt : aZ} {K : aQ} {cs : List aC} {f dd n D : Nat} (hK : ∀ (i : Nat) (K : aQ), Ks[i]? = some K → a_sound D K) (h : a_good Ks Zt K cs f dd n = true) : a_sound (D + dd + 1) K := by
  unfold a_good at h
  obtain ⟨g1, h⟩ := z_and h
  obtain ⟨g1, -⟩ := z_and g1
  obtain ⟨g2, h⟩ := z_and h
  obtain ⟨g3, h⟩ := z_and h
  obtain ⟨g4, g5⟩ := z_and h
  have hnb : K.1 ≠ mi_X7_nobodyWins := fun e => by rw [e, z_bt] at g1; cases g1
  intro As μ hpre hH
  show ∀ Z : zK, z_clo z_x0 K.1 (z_C (D + dd)) Z → z_ret K.1 _ Z → z_go K.1 As μ Z
  intro Z hclo hret
  unfold z_go
  rw [z_bf hnb]
  show Z 0 0 (lv_args 0 As) [] μ
  have seg : ∀ (c : aC) (lv : zL) (st : List Value) (μ' : zM), a_run Ks Zt K cs f dd c = true → a_At K.2.2.2.1 μ c lv st μ' → (∀ c' ∈ cs, ∀ (lv' : zL) (st' : List Value) (μ'' : zM), a_At K.2.2.2.1 μ c' lv' st' μ'' → a_lx (a_ms c'.2.2.2.2 lv') (a_ms c.2.2.2.2 lv) → Z 0 c'.1 lv' st' μ'') → Z 0 c.1 lv st μ' := by
    intro c lv st μ' hrun hAt hcut
    unfold a_run at hrun
    split at hrun
    · rename_i outs hex
      obtain ⟨ρ, hG⟩ := a_ini_ok hAt
      refine a_ex_ok (D := D) hK f dd K.1 true 1 c.1 (a_ini c) outs hex Z hclo ρ lv st μ' hG (fun _ c' hc' S' ρ' lv' st' μ'' he hG' hat hlex => ?_) (fun o S' ho ρ' pc' lv' st' μ'' v he hG' hv hov => ?_)
      · exact hcut c' hc' lv' st' μ'' (a_at_ok hG' hat) (a_lex_ok hG'.1 hG'.2.1 (he.Lr hG.2.1) _ _ hlex)
      · refine hret 0 pc' lv' st' μ'' v (Nat.zero_le _) hv ⟨hG'.2.2.2.2.1, hG'.2.2.2.2.2, ?_⟩
        have := List.all_eq_true.mp hrun (o, S') ho
        unfold a_rok
        cases o with
        | none =>
          have h9 : Nat.beq K.2.2.2.2.1 9 = true := this
          rw [z_beq h9]
          cases v with
          | none => rfl
          | some w => cases hov
        | some s =>
          cases v with
          | none => cases hov
          | some w =>
            obtain ⟨w', t, e1, e2, e3⟩ := a_Sr_cons hov
            cases e1
            obtain ⟨q1, q2⟩ := z_and this
            split
            · rename_i e
              have q1 : (!Nat.beq K.2.2.2.2.1 9) = true := q1
              rw [e] at q1
              cases q1
            · refine ⟨w, rfl, ?_⟩
              exact a_ts_ok (s := s) hG'.1 (by unfold a_ts; exact q2) e2
    · cases hrun
  have cuts : ∀ l : List Nat, l.length = n + 1 → ∀ c ∈ cs, ∀ (lv : zL) (st : List Value) (μ' : zM), a_ms c.2.2.2.2 lv = l → a_At K.2.2.2.1 μ c lv st μ' → Z 0 c.1 lv st μ' := by
    refine a_lx_ind (P := fun l => ∀ c ∈ cs, ∀ (lv : zL) (st : List Value) (μ' : zM), a_ms c.2.2.2.2 lv = l → a_At K.2.2.2.1 μ c lv st μ' → Z 0 c.1 lv st μ') (fun l hl ih c hc lv st μ' hm hAt => ?_)
    refine seg c lv st μ' (List.all_eq_true.mp g5 c hc) hAt (fun c' hc' lv' st' μ'' hAt' hlx => ?_)
    refine ih _ ?_ (by rw [← hm]; exact hlx) c' hc' lv' st' μ'' rfl hAt'
    unfold a_ms
    rw [List.length_map]
    exact z_beq (List.all_eq_true.mp g2 c' hc')
  refine seg (a_ent K n) (lv_args 0 As) [] μ g4 (a_ent_ok hpre hH) (fun c' hc' lv' st' μ'' hAt' hlx => ?_)
  refine cuts _ ?_ c' hc' lv' st' μ'' rfl hAt'
  unfold a_ms
  rw [List.length_map]
  exact z_beq (List.all_eq_true.mp g2 c' hc')
