/-! the checker says what holds: one step, calls, answers -/
def a_Gr (md : List (Nat × Nat)) (μ0 : zM) (ρ : List Value) (S : aS) (lv : zL) (st : List Value) (μ : zM) : Prop := a_Tr S.1 ρ ∧ a_Lr ρ S.2.1 lv ∧ a_Sr ρ S.2.2.1 st ∧ a_Fr ρ S.2.2.2 μ ∧ a_H μ ∧ a_Fz md μ0 μ
def a_ext (ρ ρ' : List Value) : Prop := ∃ w, ρ' = ρ ++ w
theorem a_ext.rf (ρ : List Value) : a_ext ρ ρ := ⟨[], (List.append_nil _).symm⟩
theorem a_ext.tr {a b c : List Value} (h1 : a_ext a b) (h2 : a_ext b c) : a_ext a c := by
  obtain ⟨w, rfl⟩ := h1
  obtain ⟨u, rfl⟩ := h2
  exact ⟨w ++ u, List.append_assoc _ _ _⟩
theorem a_ext.of {ρ ρ' : List Value} (h : ρ' = ρ ∨ ∃ w, ρ' = ρ ++ [w]) : a_ext ρ ρ' := by
  rcases h with rfl | ⟨w, rfl⟩
  · exact a_ext.rf _
  · exact ⟨[w], rfl⟩
theorem a_ext.at {ρ ρ' : List Value} (h : a_ext ρ ρ') {s : Nat} {v : Value} (hv : ρ[s]? = some v) : ρ'[s]? = some v := by
  obtain ⟨w, rfl⟩ := h
  rw [List.getElem?_append_left (List.getElem?_eq_some_iff.mp hv).1]
  exact hv
theorem a_ext.Sr {ρ ρ' : List Value} (h : a_ext ρ ρ') {sa : List Nat} {st : List Value} (hs : a_Sr ρ sa st) : a_Sr ρ' sa st := by
  induction sa generalizing st with
  | nil => cases st with
    | nil => rfl
    | cons v r => cases hs
  | cons s r ih =>
    obtain ⟨v, t, rfl, h1, h2⟩ := a_Sr_cons hs
    exact a_Sr_mk (h.at h1) (ih h2)
theorem a_ext.Lr {ρ ρ' : List Value} (h : a_ext ρ ρ') {la : List (Nat × Nat)} {lv : zL} (hl : a_Lr ρ la lv) : a_Lr ρ' la lv := fun i s hs => by
  obtain ⟨v, h1, h2⟩ := hl i s hs
  exact ⟨v, h.at h1, h2⟩
theorem a_ext.Fr {ρ ρ' : List Value} (h : a_ext ρ ρ') {F : aF} {μ : zM} (hF : a_Fr ρ F μ) : a_Fr ρ' F μ := fun f hf => by
  obtain ⟨r, w, h1, h2, h3⟩ := hF f hf
  exact ⟨r, w, h.at h1, h.at h2, h3⟩
theorem a_jp_st {ins : Instr} {pc : Nat} {T : List aI} {sa : List Nat} {l : List (Nat × List aI × List Nat)} (h : a_jp ins pc T sa = some l) (st : List Value) : z_st ins st = none := by
  unfold a_jp at h
  split at h <;> first | rfl | cases h
theorem a_lv_st {nL : Nat} {ins : Instr} {T : List aI} {la : List (Nat × Nat)} {sa : List Nat} {q : List aI × List (Nat × Nat) × List Nat} (h : a_lv nL ins T la sa = some q) (pc : Nat) (st : List Value) : z_st ins st = none ∧ z_jp ins pc st = none := by
  unfold a_lv at h
  split at h <;> first | exact ⟨rfl, rfl⟩ | cases h
theorem a_hp_st {oc : Nat} {md : List (Nat × Nat)} {ins : Instr} {T : List aI} {sa : List Nat} {F : aF} {q : List aI × List Nat × aF} (h : a_hp oc md ins T sa F = some q) (pc nL : Nat) (lv : zL) (st : List Value) : z_st ins st = none ∧ z_jp ins pc st = none ∧ z_lv nL ins lv st = none := by
  unfold a_hp at h
  split at h <;> first | exact ⟨rfl, rfl, rfl⟩ | cases h
theorem a_step_ok {np oc nL : Nat} {md : List (Nat × Nat)} {ins : Instr} {pc : Nat} {S : aS} {l : List (Nat × aS)} {μ0 μ : zM} {ρ : List Value} {lv : zL} {st : List Value} (hnp : 79 ≤ np) (h : a_Gr md μ0 ρ S lv st μ) (hf : a_step oc nL md ins pc S = some l) : ∃ pc' lv' st' μ' S' ρ', z_step z_x0 np oc nL ins (pc, lv, st, μ) = some (pc', lv', st', μ') ∧ (pc', S') ∈ l ∧ a_ext ρ ρ' ∧ a_Gr md μ0 ρ' S' lv' st' μ' := by
  obtain ⟨h1, h2, h3, h4, h5, h6⟩ := h
  unfold a_step at hf
  split at hf
  · rename_i q hq
    cases hf
    obtain ⟨st', e1, ρ', e2, e3, e4⟩ := a_st_ok (T' := q.1) (sa' := q.2) h1 h3 hq
    have e2 := a_ext.of e2
    refine ⟨pc + z_len ins, lv, st', μ, _, ρ', ?_, List.mem_singleton.mpr rfl, e2, e3, e2.Lr h2, e4, e2.Fr h4, h5, h6⟩
    unfold z_step
    simp only [e1]
  · split at hf
    · rename_i l0 hq
      cases hf
      obtain ⟨pc', st', T', sa', e1, e2, e3, e4⟩ := a_jp_ok h1 h3 hq
      refine ⟨pc', lv, st', μ, _, ρ, ?_, List.mem_map.mpr ⟨_, e2, rfl⟩, a_ext.rf _, e3, h2, e4, h4, h5, h6⟩
      unfold z_step
      simp only [a_jp_st hq st, e1]
    · split at hf
      · rename_i q hq
        cases hf
        obtain ⟨lv', st', e1, ρ', e2, e3, e4, e5⟩ := a_lv_ok (T' := q.1) (la' := q.2.1) (sa' := q.2.2) h1 h2 h3 hq
        have e2 := a_ext.of e2
        obtain ⟨n1, n2⟩ := a_lv_st hq pc st
        refine ⟨pc + z_len ins, lv', st', μ, _, ρ', ?_, List.mem_singleton.mpr rfl, e2, e3, e4, e5, e2.Fr h4, h5, h6⟩
        unfold z_step
        simp only [n1, n2, e1]
      · split at hf
        · rename_i q hq
          cases hf
          obtain ⟨st', μ', e1, ρ', e2, e3, e4, e5, e6, e7⟩ := a_hp_ok (T' := q.1) (sa' := q.2.1) (F' := q.2.2) hnp h1 h3 h4 h5 h6 hq
          have e2 := a_ext.of e2
          obtain ⟨n1, n2, n3⟩ := a_hp_st hq pc nL lv st
          refine ⟨pc + z_len ins, lv, st', μ', _, ρ', ?_, List.mem_singleton.mpr rfl, e2, e3, e2.Lr h2, e4, e5, e6, e7⟩
          unfold z_step
          simp only [n1, n2, n3, e1]
        · cases hf
theorem a_les_ok {q q' : aI} {v : Value} (h : a_les q q' = true) (hv : a_ok q v) : a_ok q' v := by
  unfold a_les at h
  obtain ⟨h1, h2⟩ := z_and h
  have h1 := z_beq h1
  unfold a_ok at hv ⊢
  rw [← h1]
  split at hv
  · rename_i e
    rw [e] at h2
    obtain ⟨x, rfl, hx⟩ := hv
    exact ⟨x, rfl, a_in_ok h2 hx⟩
  · rename_i e
    rw [e] at h2
    obtain ⟨x, rfl, hx⟩ := hv
    have h2 : a_in q.2.1 q'.2.1 = true := h2
    unfold a_in at h2
    rw [Bool.and_eq_true, decide_eq_true_iff, decide_eq_true_iff] at h2
    exact ⟨x, rfl, ⟨by have := hx.1; omega, by have := hx.2; omega⟩⟩
  · rename_i e0 e1
    have hk : Nat.ble 2 q.1 = true := Nat.ble_eq_true_of_le (by
      rcases Nat.lt_or_ge q.1 2 with c | c
      · have : q.1 = 0 ∨ q.1 = 1 := by omega
        rcases this with c | c
        · exact absurd c e0
        · exact absurd c e1
      · exact c)
    rw [hk] at h2
    obtain ⟨r, hr, rfl⟩ := hv
    have h3 := List.all_eq_true.mp h2 r hr
    obtain ⟨r', hr', he⟩ := List.any_eq_true.mp h3
    rw [← z_beq he] at hr'
    exact ⟨r, hr', rfl⟩
theorem a_fchk_ok {T : List aI} {F : aF} {ρ : List Value} {μ : zM} {o k : Nat} {q : aI} (h : a_Tr T ρ) (hF : a_Fr ρ F μ) (hH : a_H μ) (hf : a_fchk T F o k q = true) : ∃ r, ρ[o]? = some (.ref r) ∧ (z_sh r).1 = 0 ∧ r < 79 ∧ a_ok q (z_gv μ (z_sh r).2.1 r k) := by
  unfold a_fchk at hf
  split at hf
  · rename_i r0 R hR
    obtain ⟨h1, h2⟩ := z_and hf
    obtain ⟨r, r1, r2⟩ := a_ref_ok h hR
    obtain ⟨o1, o2, o3, o4⟩ := a_obj_inv (List.all_eq_true.mp h1 r r1)
    split at h2
    · rename_i T1 v F1 hrd
      split at h2
      · rename_i q1 hq1
        obtain ⟨ρ', p0, p1, p2, p3⟩ := a_rd_ok h hF hH hrd r1 r2 o2 o3
        obtain ⟨w, w1, w2, -⟩ := p1.2 v q1 hq1
        rw [p2] at w1
        cases w1
        refine ⟨r, r2, o2, o1, ?_⟩
        rw [o3]
        exact a_les_ok h2 w2
      · cases h2
    · cases h2
  · cases hf
theorem a_ct_ok {T : List aI} {ρ : List Value} {sa : List Nat} {st : List Value} (h : a_Tr T ρ) (hs : a_Sr ρ sa st) : z_cat st = a_ct T sa := by
  induction sa generalizing st with
  | nil => cases st with
    | nil => rfl
    | cons v r => cases hs
  | cons s r ih =>
    obtain ⟨v, t, rfl, h1, h2⟩ := a_Sr_cons hs
    unfold z_cat a_ct
    rw [List.map_cons, List.map_cons, List.sum_cons, List.sum_cons]
    have := ih h2
    unfold z_cat a_ct at this
    rw [this]
    congr 1
    cases hl : a_lng T s with
    | some b =>
      obtain ⟨x, e1, -⟩ := a_lng_ok h hl
      rw [h1] at e1
      cases e1
      rfl
    | none =>
      have := a_nlong h h1 hl
      rcases lv_cat v with c | c
      · exact c
      · exact absurd c this
theorem a_Sr_take {ρ : List Value} {sa : List Nat} {st : List Value} (h : a_Sr ρ sa st) (n : Nat) : a_Sr ρ (sa.take n) (st.take n) := by
  unfold a_Sr at h ⊢
  rw [List.map_take, List.map_take, h]
theorem a_Sr_drop {ρ : List Value} {sa : List Nat} {st : List Value} (h : a_Sr ρ sa st) (n : Nat) : a_Sr ρ (sa.drop n) (st.drop n) := by
  unfold a_Sr at h ⊢
  rw [List.map_drop, List.map_drop, h]
theorem a_Sr_rev {ρ : List Value} {sa : List Nat} {st : List Value} (h : a_Sr ρ sa st) : a_Sr ρ sa.reverse st.reverse := by
  unfold a_Sr at h ⊢
  rw [List.map_reverse, List.map_reverse, h]
theorem a_Sr_len {ρ : List Value} {sa : List Nat} {st : List Value} (h : a_Sr ρ sa st) : sa.length = st.length := by
  have := congrArg List.length h
  rw [List.length_map, List.length_map] at this
  exact this
theorem a_Sr_appn {ρ : List Value} {sa sb : List Nat} {st su : List Value} (h : a_Sr ρ sa st) (h2 : a_Sr ρ sb su) : a_Sr ρ (sa ++ sb) (st ++ su) := by
  unfold a_Sr at h h2 ⊢
  rw [List.map_append, List.map_append, h, h2]
theorem z_np_ge (j : Nat) : 79 ≤ z_np j := by
  unfold z_np
  cases Nat.beq j mi_X7_nobodyWins <;> decide
theorem a_ble {i j : Nat} (h : i ≤ j) : Nat.ble i j = true := Nat.ble_eq_true_of_le h
theorem a_cl_ok {j pc : Nat} {T : List aI} {ρ : List Value} {sa : List Nat} {st : List Value} {j' : Nat} {Aa ra : List Nat} (h : a_Tr T ρ) (hs : a_Sr ρ sa st) (hf : a_cl j pc T sa = some (j', Aa, ra)) : ∃ As rest, z_cl j pc st = some (j', As, rest) ∧ a_Sr ρ Aa As ∧ a_Sr ρ ra rest := by
  unfold a_cl at hf
  split at hf
  · rename_i idx hi
    split at hf
    · rename_i j2 na ci hl
      split at hf
      · rename_i o As2 hA
        split at hf
        · rename_i R hR
          obtain ⟨h1, h2⟩ := z_bif hf
          cases h2
          obtain ⟨q1, h1⟩ := z_and h1
          obtain ⟨q2, h1⟩ := z_and h1
          obtain ⟨q3, q4⟩ := z_and h1
          have hrv := a_Sr_rev (a_Sr_take hs na)
          rw [hA] at hrv
          obtain ⟨r, r1, r2⟩ := a_ref_ok h hR
          obtain ⟨As, hAs, hs2⟩ := a_top hrv r2
          obtain ⟨c1, c2⟩ := z_and (List.all_eq_true.mp q2 r r1)
          obtain ⟨c2, c3⟩ := z_and c2
          refine ⟨.ref r :: As, st.drop na, ?_, a_Sr_mk r2 hs2, a_Sr_drop hs na⟩
          unfold z_cl
          simp only [hi, hl, hAs]
          rw [← a_Sr_len hs2, q1, a_blt (z_blt c1) (z_np_ge j), c2, c3, a_ct_ok h (a_Sr_drop hs na), q3, a_ct_ok h (a_Sr_mk r2 hs2), q4]
          rfl
        · cases hf
      · cases hf
    · cases hf
  · rename_i idx hi
    split at hf
    · rename_i kd j2 na ci hl
      obtain ⟨h1, h2⟩ := z_bif hf
      cases h2
      obtain ⟨q0, h1⟩ := z_and h1
      obtain ⟨q1, h1⟩ := z_and h1
      obtain ⟨q3, q4⟩ := z_and h1
      have ht := a_Sr_take hs na
      refine ⟨(st.take na).reverse, st.drop na, ?_, a_Sr_rev ht, a_Sr_drop hs na⟩
      unfold z_cl
      simp only [hi, hl]
      rw [q0, ← a_Sr_len ht, q1, a_ct_ok h (a_Sr_drop hs na), q3, a_ct_ok h (a_Sr_rev ht), q4]
      rfl
    · cases hf
  · cases hf
theorem a_rn_ok {j pc : Nat} {ins : Instr} {T : List aI} {ρ : List Value} {sa : List Nat} {st : List Value} {o : Option Nat} (h : a_Tr T ρ) (hs : a_Sr ρ sa st) (hi : z_ft j pc = some ins) (hf : a_rn j ins T sa = some o) : ∃ v, z_rn j pc st = some v ∧ a_Sr ρ o.toList v.toList := by
  unfold a_rn at hf
  split at hf
  · obtain ⟨h1, h2⟩ := z_bif hf
    cases h2
    cases st with
    | cons v r => cases hs
    | nil =>
      refine ⟨none, ?_, rfl⟩
      unfold z_rn
      simp only [hi, h1, cond_true]
  · rename_i s
    split at hf
    · rename_i b hb
      obtain ⟨h1, h2⟩ := z_bif hf
      cases h2
      obtain ⟨x, x1, x2⟩ := a_int_ok h hb
      obtain ⟨r, rfl, hr⟩ := a_top hs x1
      cases r with
      | cons v r => cases hr
      | nil =>
        refine ⟨some (.int x), ?_, a_Sr_mk x1 rfl⟩
        unfold z_rn
        simp only [hi]
        have : (Nat.beq (z_rk j) 1 || (Nat.beq (z_rk j) 3 && z_b01 x)) = true := by
          rw [Bool.or_eq_true] at h1 ⊢
          rcases h1 with h1 | h1
          · exact Or.inl h1
          · obtain ⟨h1, h2⟩ := z_and h1
            exact Or.inr (by rw [h1, a_01 (a_in_ok h2 x2)]; rfl)
        rw [this]
        rfl
    · cases hf
  · rename_i s
    split at hf
    · rename_i b hb
      obtain ⟨h1, h2⟩ := z_bif hf
      cases h2
      obtain ⟨x, x1, x2⟩ := a_lng_ok h hb
      obtain ⟨r, rfl, hr⟩ := a_top hs x1
      cases r with
      | cons v r => cases hr
      | nil =>
        refine ⟨some (.long x), ?_, a_Sr_mk x1 rfl⟩
        unfold z_rn
        simp only [hi, h1, cond_true]
    · cases hf
  · rename_i s
    split at hf
    · rename_i b hb
      obtain ⟨h1, h2⟩ := z_bif hf
      cases h2
      obtain ⟨x, x2, x1⟩ := a_ref_ok h hb
      obtain ⟨r, rfl, hr⟩ := a_top hs x1
      cases r with
      | cons v r => cases hr
      | nil =>
        refine ⟨some (.ref x), ?_, a_Sr_mk x1 rfl⟩
        unfold z_rn
        simp only [hi, h1, cond_true]
    · cases hf
  · cases hf
/-- what a contract says -/
def a_rok (q : aI) (r : Option Value) : Prop := match q.1 with
  | 9 => r = none
  | _ => ∃ v, r = some v ∧ a_ok q v
def a_pre1 (K : aQ) (As : List Value) (μ : zM) : Prop := As.length = K.2.1.length ∧ (∀ (i : Nat) (q : aI) (v : Value), K.2.1[i]? = some q → As[i]? = some v → a_ok q v) ∧ ∀ f ∈ K.2.2.1, ∃ r, As[f.1]? = some (.ref r) ∧ (z_sh r).1 = 0 ∧ r < 79 ∧ a_ok f.2.2 (z_gv μ (z_sh r).2.1 r f.2.1)
def a_sound (d : Nat) (K : aQ) : Prop := ∀ (As : List Value) (μ : zM), a_pre1 K As μ → a_H μ → z_C d K.1 As μ (fun r μ' => a_H μ' ∧ a_Fz K.2.2.2.1 μ μ' ∧ a_rok K.2.2.2.2 r)
theorem a_sound_up {d d' : Nat} {K : aQ} (h : a_sound d K) (hd : d ≤ d') : a_sound d' K := fun As μ h1 h2 => z_C_le hd (h As μ h1 h2)
theorem a_mds_md {m1 m2 : List (Nat × Nat)} (h : a_mds m1 m2 = true) {r k : Nat} (hm : a_md m2 r k = false) : a_md m1 r k = false := by
  cases hq : a_md m1 r k with
  | false => rfl
  | true =>
    unfold a_md at hq
    obtain ⟨q, q1, q2⟩ := List.any_eq_true.mp hq
    obtain ⟨q2, q3⟩ := z_and q2
    obtain ⟨p, p1, p2⟩ := List.any_eq_true.mp (List.all_eq_true.mp h q q1)
    obtain ⟨p2, p3⟩ := z_and p2
    exfalso
    have : a_md m2 r k = true := by
      unfold a_md
      refine List.any_eq_true.mpr ⟨p, p1, ?_⟩
      rw [z_beq p2, q2, Bool.true_and]
      rw [Bool.or_eq_true] at p3 q3 ⊢
      rcases p3 with p3 | p3
      · rw [z_beq p3]; exact q3
      · exact Or.inr (z_and p3).1
    rw [hm] at this
    cases this
theorem a_mds_mdr {m1 m2 : List (Nat × Nat)} (h : a_mds m1 m2 = true) {r : Nat} (hm : a_mdr m2 r = false) : a_mdr m1 r = false := by
  cases hq : a_mdr m1 r with
  | false => rfl
  | true =>
    unfold a_mdr at hq
    obtain ⟨q, q1, q2⟩ := List.any_eq_true.mp hq
    obtain ⟨q2, q3⟩ := z_and q2
    obtain ⟨p, p1, p2⟩ := List.any_eq_true.mp (List.all_eq_true.mp h q q1)
    obtain ⟨p2, p3⟩ := z_and p2
    exfalso
    have : a_mdr m2 r = true := by
      unfold a_mdr
      refine List.any_eq_true.mpr ⟨p, p1, ?_⟩
      rw [z_beq p2, q2, Bool.true_and]
      rw [Bool.or_eq_true] at p3
      rcases p3 with p3 | p3
      · rw [z_beq p3]; exact q3
      · have := (z_and p3).2
        rw [q3] at this
        cases this
    rw [hm] at this
    cases this
theorem a_Fz_tr {m1 m2 : List (Nat × Nat)} {μ0 μ μ' : zM} (h : a_mds m1 m2 = true) (h1 : a_Fz m2 μ0 μ) (h2 : a_Fz m1 μ μ') : a_Fz m2 μ0 μ' := by
  refine ⟨fun r k hm => ?_, fun r hm => (h2.2 r (a_mds_mdr h hm)).trans (h1.2 r hm)⟩
  obtain ⟨a1, a2⟩ := h2.1 r k (a_mds_md h hm)
  obtain ⟨b1, b2⟩ := h1.1 r k hm
  exact ⟨a1.trans b1, a2.trans b2⟩
theorem a_Fr_keep {T : List aI} {ρ : List Value} {F : aF} {md : List (Nat × Nat)} {μ μ' : zM} (h : a_Tr T ρ) (hF : a_Fr ρ F μ) (hZ : a_Fz md μ μ') : a_Fr ρ (F.filter (a_keep T md)) μ' := by
  intro f hf
  obtain ⟨h1, h2⟩ := List.mem_filter.mp hf
  obtain ⟨r, w, e1, e2, e3, e4⟩ := hF f h1
  unfold a_keep at h2
  split at h2
  · rename_i R hR
    obtain ⟨r', r1, r2⟩ := a_ref_ok h hR
    rw [e1] at r2
    cases r2
    obtain ⟨m1, m2⟩ := z_and (List.all_eq_true.mp h2 r r1)
    have m1 : a_md md r f.2.1 = false := by simpa using m1
    have m2 : a_mdr md r = false := by simpa using m2
    refine ⟨r, w, e1, e2, e3, ?_⟩
    obtain ⟨g1, g2⟩ := hZ.1 r f.2.1 m1
    have g3 := hZ.2 r m2
    rw [← e4]
    unfold z_gv
    rw [g1, g2, g3]
  · cases h2
theorem a_zip_at {α β : Type} {l : List α} {m : List β} {p : α × β → Bool} (h : (l.zip m).all p = true) {i : Nat} {x : α} {y : β} (hx : l[i]? = some x) (hy : m[i]? = some y) : p (x, y) = true := by
  have : (l.zip m)[i]? = some (x, y) := by
    rw [List.getElem?_zip_eq_some]
    exact ⟨hx, hy⟩
  exact List.all_eq_true.mp h _ (List.mem_of_getElem? this)
theorem a_Sr_at {ρ : List Value} {sa : List Nat} {st : List Value} (h : a_Sr ρ sa st) {i s : Nat} (hs : sa[i]? = some s) : ∃ v, st[i]? = some v ∧ ρ[s]? = some v := by
  unfold a_Sr at h
  have h1 := congrArg (fun l => l[i]?) h
  simp only [List.getElem?_map, hs, Option.map_some] at h1
  cases hv : st[i]? with
  | none => rw [hv] at h1; cases h1
  | some v =>
    rw [hv] at h1
    simp only [Option.map_some, Option.some.injEq] at h1
    exact ⟨v, rfl, h1⟩
theorem a_Sr_at2 {ρ : List Value} {sa : List Nat} {st : List Value} (h : a_Sr ρ sa st) {i : Nat} {v : Value} (hs : st[i]? = some v) : ∃ s, sa[i]? = some s ∧ ρ[s]? = some v := by
  have hl : i < sa.length := by
    rw [a_Sr_len h]
    exact (List.getElem?_eq_some_iff.mp hs).1
  obtain ⟨w, w1, w2⟩ := a_Sr_at h (List.getElem?_eq_getElem hl)
  rw [hs] at w1
  cases w1
  exact ⟨_, List.getElem?_eq_getElem hl, w2⟩
theorem a_kc1_ok {K : aQ} {j' : Nat} {md : List (Nat × Nat)} {T T' : List aI} {F F' : aF} {Aa : List Nat} {o : Option Nat} {ρ : List Value} {As : List Value} {μ0 μ : zM} {d : Nat} (hK : a_sound d K) (h : a_Tr T ρ) (hF : a_Fr ρ F μ) (hH : a_H μ) (hZ : a_Fz md μ0 μ) (hA : a_Sr ρ Aa As) (hf : a_kc1 K j' md T F Aa = some (T', o, F')) :
    z_C d j' As μ (fun r μ' => ∃ ρ', a_ext ρ ρ' ∧ a_Tr T' ρ' ∧ a_Sr ρ' o.toList r.toList ∧ a_Fr ρ' F' μ' ∧ a_H μ' ∧ a_Fz md μ0 μ') := by
  unfold a_kc1 at hf
  cases hq : a_kcc K j' md T F Aa with
  | false => rw [hq] at hf; cases hf
  | true =>
    rw [hq] at hf
    simp only [cond_true] at hf
    obtain ⟨q1, hq⟩ := z_and hq
    obtain ⟨q2, hq⟩ := z_and hq
    obtain ⟨q3, hq⟩ := z_and hq
    obtain ⟨q4, q5⟩ := z_and hq
    have q1 := z_beq q1
    subst q1
    have hpre : a_pre1 K As μ := by
      refine ⟨by rw [← a_Sr_len hA, z_beq q2], fun i q v hi hv => ?_, fun f hf => ?_⟩
      · obtain ⟨s, s1, s2⟩ := a_Sr_at2 hA hv
        have : a_ts T s q = true := a_zip_at q3 s1 hi
        unfold a_ts at this
        split at this
        · rename_i q0 hq0
          obtain ⟨w, w1, w2, -⟩ := h.2 s q0 hq0
          rw [s2] at w1
          cases w1
          exact a_les_ok this w2
        · cases this
      · have := List.all_eq_true.mp q4 f hf
        unfold a_as at this
        split at this
        · rename_i s hs
          obtain ⟨r, r1, r2, r3, r4⟩ := a_fchk_ok h hF hH this
          obtain ⟨v, v1, v2⟩ := a_Sr_at hA hs
          rw [r1] at v2
          cases v2
          exact ⟨r, v1, r2, r3, r4⟩
        · cases this
    refine z_C_mono (hK As μ hpre hH) (fun r μ' hq => ?_)
    obtain ⟨h1, h2, h3⟩ := hq
    have hFk := a_Fr_keep h hF h2
    have hZ' := a_Fz_tr q5 hZ h2
    cases h9 : Nat.beq K.2.2.2.2.1 9 with
    | true =>
      rw [h9] at hf
      cases hf
      unfold a_rok at h3
      rw [z_beq h9] at h3
      have h3 : r = none := h3
      subst h3
      exact ⟨ρ, a_ext.rf _, h, rfl, hFk, h1, hZ'⟩
    | false =>
      rw [h9] at hf
      cases hf
      unfold a_rok at h3
      split at h3
      · rename_i e
        rw [e] at h9
        cases h9
      · obtain ⟨v, rfl, hv⟩ := h3
        refine ⟨ρ ++ [v], ⟨[v], rfl⟩, a_new h hv, ?_, a_Fr_app hFk, h1, hZ'⟩
        exact a_Sr_mk (a_last h) rfl
theorem a_kc_ok {Ks : List aQ} {j' : Nat} {md : List (Nat × Nat)} {T T' : List aI} {F F' : aF} {Aa : List Nat} {o : Option Nat} {ρ : List Value} {As : List Value} {μ0 μ : zM} {d : Nat} (hK : ∀ (i : Nat) (K : aQ), Ks[i]? = some K → a_sound d K) (h : a_Tr T ρ) (hF : a_Fr ρ F μ) (hH : a_H μ) (hZ : a_Fz md μ0 μ) (hA : a_Sr ρ Aa As) : ∀ (is : List Nat), a_kc Ks j' md T F Aa is = some (T', o, F') → z_C d j' As μ (fun r μ' => ∃ ρ', a_ext ρ ρ' ∧ a_Tr T' ρ' ∧ a_Sr ρ' o.toList r.toList ∧ a_Fr ρ' F' μ' ∧ a_H μ' ∧ a_Fz md μ0 μ') := by
  intro is
  induction is with
  | nil => intro hf; cases hf
  | cons i is ih =>
    intro hf
    unfold a_kc at hf
    split at hf
    · rename_i K hi
      split at hf
      · rename_i r hr
        cases hf
        exact a_kc1_ok (hK i K hi) h hF hH hZ hA hr
      · exact ih hf
    · exact ih hf
theorem a_args_ok {T : List aI} {ρ : List Value} (h : a_Tr T ρ) {Aa : List Nat} {As : List Value} (hA : a_Sr ρ Aa As) : ∀ i, a_Lr ρ (a_args T i Aa) (lv_args i As) := by
  induction Aa generalizing As with
  | nil => intro i k s hs; cases hs
  | cons s r ih =>
    intro i k s' hs
    obtain ⟨v, t, rfl, h1, h2⟩ := a_Sr_cons hA
    unfold a_args z_lk at hs
    unfold lv_args z_lk
    by_cases hk : i = k
    · subst hk
      simp only [z_bt, cond_true] at hs ⊢
      cases hs
      exact ⟨v, h1, rfl⟩
    · simp only [z_bf hk, cond_false] at hs ⊢
      cases hl : a_lng T s with
      | some b =>
        rw [hl] at hs
        obtain ⟨x, e1, -⟩ := a_lng_ok h hl
        rw [h1] at e1
        cases e1
        exact ih h2 (i + 2) k s' hs
      | none =>
        rw [hl] at hs
        rw [if_neg (a_nlong h h1 hl)]
        exact ih h2 (i + 1) k s' hs
theorem a_sprange_ok {T : List aI} {ρ : List Value} {s : Nat} {x : Int32} (h : a_Tr T ρ) (hi : ∃ b, a_int T s = some b) (hx : ρ[s]? = some (.int x)) : ∀ (n : Nat) (v : Int), v ≤ x.toInt → x.toInt < v + n → ∃ T' ∈ a_sprange T s v n, a_Tr T' ρ := by
  intro n
  induction n with
  | zero => intro v h1 h2; exact absurd h2 (by omega)
  | succ n ih =>
    intro v h1 h2
    by_cases he : x.toInt = v
    · exact ⟨_, List.mem_cons_self, a_sb_ok h hi hx ⟨by show v ≤ _; omega, by show _ ≤ v; omega⟩⟩
    · obtain ⟨T', m1, m2⟩ := ih (v + 1) (by omega) (by omega)
      exact ⟨T', List.mem_cons_of_mem _ m1, m2⟩
theorem a_spl_ok {T : List aI} {ρ : List Value} {s : Nat} {l : List (List aI)} (h : a_Tr T ρ) (hf : a_spl T s = some l) : ∃ T' ∈ l, a_Tr T' ρ := by
  unfold a_spl at hf
  split at hf
  · rename_i b hb
    obtain ⟨h1, h2⟩ := z_bif hf
    subst h2
    obtain ⟨x, x1, x2⟩ := a_int_ok h hb
    exact a_sprange_ok h ⟨b, hb⟩ x1 _ _ x2.1 (by have := x2.2; have := x2.1; omega)
  · cases hf
theorem a_sp_ok {kd x : Nat} {S : aS} {l : List aS} {md : List (Nat × Nat)} {μ0 μ : zM} {ρ : List Value} {lv : zL} {st : List Value} (h : a_Gr md μ0 ρ S lv st μ) (hf : a_sp kd x S = some l) : ∃ S' ∈ l, ∃ ρ', a_ext ρ ρ' ∧ a_Gr md μ0 ρ' S' lv st μ := by
  obtain ⟨h1, h2, h3, h4, h5, h6⟩ := h
  unfold a_sp at hf
  split at hf
  · split at hf
    · obtain ⟨l0, e1, e2⟩ := Option.map_eq_some_iff.mp hf
      subst e2
      obtain ⟨T', m1, m2⟩ := a_spl_ok h1 e1
      exact ⟨_, List.mem_map.mpr ⟨T', m1, rfl⟩, ρ, a_ext.rf _, m2, h2, h3, h4, h5, h6⟩
    · cases hf
  · split at hf
    · split at hf
      · rename_i o ho _ r0 R hR
        cases hq : (r0 :: R).all (a_obj (z_sh r0).2.1 x) with
        | false => rw [hq] at hf; cases hf
        | true =>
          rw [hq] at hf
          simp only [cond_true] at hf
          split at hf
          · rename_i T1 v F1 hrd
            obtain ⟨l0, e1, e2⟩ := Option.map_eq_some_iff.mp hf
            subst e2
            obtain ⟨r, r1, r2⟩ := a_ref_ok h1 hR
            obtain ⟨o1, o2, o3, o4⟩ := a_obj_inv (List.all_eq_true.mp hq r r1)
            obtain ⟨ρ', p0, p1, p2, p3⟩ := a_rd_ok h1 h4 h5 hrd r1 r2 o2 o3
            have p0 := a_ext.of p0
            obtain ⟨T', m1, m2⟩ := a_spl_ok p1 e1
            exact ⟨_, List.mem_map.mpr ⟨T', m1, rfl⟩, ρ', p0, m2, p0.Lr h2, p0.Sr h3, p3, h5, h6⟩
          · cases hf
      · cases hf
    · cases hf
  · split at hf
    · obtain ⟨l0, e1, e2⟩ := Option.map_eq_some_iff.mp hf
      subst e2
      obtain ⟨T', m1, m2⟩ := a_spl_ok h1 e1
      exact ⟨_, List.mem_map.mpr ⟨T', m1, rfl⟩, ρ, a_ext.rf _, m2, h2, h3, h4, h5, h6⟩
    · cases hf
theorem a_all_ok {α β : Type} {g : α → Option (List β)} : ∀ {l : List α} {outs : List β}, a_all g l = some outs → ∀ x ∈ l, ∃ o, g x = some o ∧ ∀ q ∈ o, q ∈ outs := by
  intro l
  induction l with
  | nil => intro outs _ x hx; cases hx
  | cons y r ih =>
    intro outs h x hx
    unfold a_all at h
    split at h
    · cases h
    · rename_i l1 h1
      split at h
      · cases h
      · rename_i l2 h2
        cases h
        rcases List.mem_cons.mp hx with rfl | hx
        · exact ⟨l1, h1, fun q hq => List.mem_append_left _ hq⟩
        · obtain ⟨o, o1, o2⟩ := ih h2 x hx
          exact ⟨o, o1, fun q hq => List.mem_append_right _ (o2 q hq)⟩
set_option maxHeartbeats 4000000 in
theorem a_ex_ok {Ks : List aQ} {Zt : aZ} {md : List (Nat × Nat)} {cs : List aC} {l0 : List (Nat × Nat)} {M0 : List aX} {D : Nat} {μ0 : zM} (hK : ∀ (i : Nat) (K : aQ), Ks[i]? = some K → a_sound D K) : ∀ (f dd j : Nat) (tp : Bool) (mode pc : Nat) (S : aS) (outs : aO), a_ex Ks Zt md cs l0 M0 f dd j tp mode pc S = some outs →
    ∀ (Z : zK), z_clo z_x0 j (z_C (D + dd)) Z → ∀ (ρ : List Value) (lv : zL) (st : List Value) (μ : zM), a_Gr md μ0 ρ S lv st μ →
    (tp = true → ∀ c ∈ cs, ∀ (S' : aS) (ρ' : List Value) (lv' : zL) (st' : List Value) (μ' : zM), a_ext ρ ρ' → a_Gr md μ0 ρ' S' lv' st' μ' → a_at S' c = true → a_lex l0 S'.1 S'.2.1 M0 c.2.2.2.2 = true → Z 0 c.1 lv' st' μ') →
    (∀ (o : Option Nat) (S' : aS), (o, S') ∈ outs → ∀ (ρ' : List Value) (pc' : Nat) (lv' : zL) (st' : List Value) (μ' : zM) (v : Option Value), a_ext ρ ρ' → a_Gr md μ0 ρ' S' lv' st' μ' → z_rn j pc' st' = some v → a_Sr ρ' o.toList v.toList → Z 0 pc' lv' st' μ') →
    Z 0 pc lv st μ := by
  intro f
  induction f with
  | zero => intro dd j tp mode pc S outs h; cases h
  | succ f ih =>
    intro dd j tp mode pc S outs h Z hclo ρ lv st μ hG hcut hret
    unfold a_ex at h
    cases hc0 : (tp && (Nat.beq mode 0 && a_isc cs pc)) with
    | true =>
      rw [hc0] at h
      simp only [cond_true] at h
      obtain ⟨h1, -⟩ := z_bif h
      obtain ⟨c, hc, hcc⟩ := List.any_eq_true.mp h1
      obtain ⟨c1, c2⟩ := z_and hcc
      obtain ⟨c2, c3⟩ := z_and c2
      have := hcut (z_and hc0).1 c hc S ρ lv st μ (a_ext.rf _) hG c2 c3
      rw [z_beq c1] at this
      exact this
    | false =>
      rw [hc0] at h
      simp only [cond_false] at h
      split at h
      · rename_i kd x _
        split at h
        · cases h
        · rename_i l hl
          obtain ⟨S', m1, ρ', m2, m3⟩ := a_sp_ok hG hl
          obtain ⟨o, o1, o2⟩ := a_all_ok h S' m1
          exact ih dd j tp 2 pc S' o o1 Z hclo ρ' lv st μ m3 (fun ht c hc S' ρ'' lv' st' μ' he => hcut ht c hc S' ρ'' lv' st' μ' (m2.tr he)) (fun q S' hq ρ'' pc' lv' st' μ' v he => hret q S' (o2 _ hq) ρ'' pc' lv' st' μ' v (m2.tr he))
      · split at h
        · cases h
        · rename_i ins hi
          obtain ⟨g1, g2, g3, g4, g5, g6⟩ := hG
          split at h
          · rename_i o hr
            cases h
            obtain ⟨v, v1, v2⟩ := a_rn_ok g1 g3 hi hr
            exact hret o S (List.mem_singleton.mpr rfl) ρ pc lv st μ v (a_ext.rf _) ⟨g1, g2, g3, g4, g5, g6⟩ v1 v2
          · split at h
            · rename_i j' Aa ra hcl
              obtain ⟨As, rest, e1, e2, e3⟩ := a_cl_ok g1 g3 hcl
              cases hal : Nat.beq (z_al j') 0 with
              | false => rw [hal] at h; cases h
              | true =>
                rw [hal] at h
                simp only [cond_true] at h
                have hal := z_beq hal
                refine hclo.2 0 pc lv st μ j' As rest e1 (by omega) ?_
                split at h
                · rename_i is his
                  split at h
                  · cases h
                  · rename_i T' o F' hkc
                    refine z_C_mono (z_C_le (Nat.le_add_right D dd) (a_kc_ok hK g1 g4 g5 g6 e2 is hkc)) (fun r μ' hq => ?_)
                    obtain ⟨ρ', p1, p2, p3, p4, p5, p6⟩ := hq
                    rw [hal]
                    exact ih dd j tp 0 (pc + 3) _ outs h Z hclo ρ' lv (r.toList ++ rest) μ' ⟨p2, p1.Lr g2, a_Sr_appn p3 (p1.Sr e3), p4, p5, p6⟩ (fun ht c hc S' ρ'' lv' st' μ' he => hcut ht c hc S' ρ'' lv' st' μ' (p1.tr he)) (fun q S' hq ρ'' pc' lv' st' μ' v he => hret q S' hq ρ'' pc' lv' st' μ' v (p1.tr he))
                · split at h
                  · cases h
                  · rename_i dd'
                    split at h
                    · cases h
                    · rename_i outs1 hin
                      show z_C (D + dd' + 1) j' As μ _
                      intro Z' hclo' hret'
                      have hnb : j' ≠ mi_X7_nobodyWins := by
                        intro e
                        rw [e] at hal
                        exact absurd hal (by decide +kernel)
                      unfold z_go
                      rw [z_bf hnb]
                      show Z' 0 0 (lv_args 0 As) [] μ
                      refine ih dd' j' false 1 0 _ outs1 hin Z' hclo' ρ (lv_args 0 As) [] μ ⟨g1, a_args_ok g1 e2 0, rfl, g4, g5, g6⟩ (fun ht => by cases ht) (fun o S' hq ρ' pc' lv' st' μ' v he hG' hv hov => ?_)
                      refine hret' 0 pc' lv' st' μ' v (Nat.zero_le _) hv ?_
                      rw [hal]
                      obtain ⟨p2, p3, p4, p5, p6, p7⟩ := hG'
                      obtain ⟨o2, q1, q2⟩ := a_all_ok h (o, S') hq
                      exact ih (dd' + 1) j tp 0 (pc + 3) _ o2 q1 Z hclo ρ' lv (v.toList ++ rest) μ' ⟨p2, he.Lr g2, a_Sr_appn hov (he.Sr e3), p5, p6, p7⟩ (fun ht c hc S' ρ'' lv' st' μ' he2 => hcut ht c hc S' ρ'' lv' st' μ' (he.tr he2)) (fun q S' hq ρ'' pc' lv' st' μ' v he2 => hret q S' (q2 _ hq) ρ'' pc' lv' st' μ' v (he.tr he2))
            · split at h
              · cases h
              · rename_i l hl
                obtain ⟨pc', lv', st', μ', S', ρ', s1, s2, s3, s4⟩ := a_step_ok (np := z_np j) (z_np_ge j) ⟨g1, g2, g3, g4, g5, g6⟩ hl
                obtain ⟨o, o1, o2⟩ := a_all_ok h (pc', S') s2
                refine hclo.1 0 pc lv st μ ins pc' lv' st' μ' hi s1 ?_
                exact ih dd j tp 0 pc' S' o o1 Z hclo ρ' lv' st' μ' s4 (fun ht c hc S' ρ'' lv' st' μ' he => hcut ht c hc S' ρ'' lv' st' μ' (s3.tr he)) (fun q S' hq ρ'' pc' lv' st' μ' v he => hret q S' (o2 _ hq) ρ'' pc' lv' st' μ' v (s3.tr he))
