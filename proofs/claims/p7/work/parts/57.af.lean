/-! the checker in the midst of a method: from its cuts, to its cuts -/
/-- the cuts at the places ex are left to the hand -/
def a_goodx (Ks : List aQ) (Z : aZ) (K : aQ) (cs : List aC) (ex : List Nat) (f dd n : Nat) : Bool := cs.all (fun c => Nat.beq c.2.2.2.2.length (n + 1)) && cs.all (fun c => ex.any (Nat.beq c.1) || a_run Ks Z K cs f dd c)
theorem a_from {Ks : List aQ} {Zt : aZ} {K : aQ} {cs : List aC} {ex : List Nat} {f dd n D : Nat} (hK : ∀ (i : Nat) (K : aQ), Ks[i]? = some K → a_sound D K) (h : a_goodx Ks Zt K cs ex f dd n = true) {Z : zK} {d' : Nat} (hd : D + dd ≤ d') (hclo : z_clo z_x0 K.1 (z_C d') Z) (μ : zM)
    (hret : ∀ (pc : Nat) (lv : zL) (st : List Value) (μ' : zM) (v : Option Value), z_rn K.1 pc st = some v → a_H μ' → a_Fz K.2.2.2.1 μ μ' → a_rok K.2.2.2.2 v → Z 0 pc lv st μ')
    (hex : ∀ c ∈ cs, ex.any (Nat.beq c.1) = true → ∀ (lv : zL) (st : List Value) (μ' : zM), a_At K.2.2.2.1 μ c lv st μ' → Z 0 c.1 lv st μ') :
    ∀ c ∈ cs, ∀ (lv : zL) (st : List Value) (μ' : zM), a_At K.2.2.2.1 μ c lv st μ' → Z 0 c.1 lv st μ' := by
  unfold a_goodx at h
  obtain ⟨g2, g5⟩ := z_and h
  have hclo : z_clo z_x0 K.1 (z_C (D + dd)) Z := ⟨hclo.1, fun b pc lv st μ1 j' As rest h1 h2 h3 => hclo.2 b pc lv st μ1 j' As rest h1 h2 (z_C_le hd h3)⟩
  have seg : ∀ (c : aC) (lv : zL) (st : List Value) (μ' : zM), a_run Ks Zt K cs f dd c = true → a_At K.2.2.2.1 μ c lv st μ' → (∀ c' ∈ cs, ∀ (lv' : zL) (st' : List Value) (μ'' : zM), a_At K.2.2.2.1 μ c' lv' st' μ'' → a_lx (a_ms c'.2.2.2.2 lv') (a_ms c.2.2.2.2 lv) → Z 0 c'.1 lv' st' μ'') → Z 0 c.1 lv st μ' := by
    intro c lv st μ' hrun hAt hcut
    unfold a_run at hrun
    split at hrun
    · rename_i outs hex
      obtain ⟨ρ, hG⟩ := a_ini_ok hAt
      refine a_ex_ok (D := D) hK f dd K.1 true 1 c.1 (a_ini c) outs hex Z hclo ρ lv st μ' hG (fun _ c' hc' S' ρ' lv' st' μ'' he hG' hat hlex => ?_) (fun o S' ho ρ' pc' lv' st' μ'' v he hG' hv hov => ?_)
      · exact hcut c' hc' lv' st' μ'' (a_at_ok hG' hat) (a_lex_ok hG'.1 hG'.2.1 (he.Lr hG.2.1) _ _ hlex)
      · refine hret pc' lv' st' μ'' v hv hG'.2.2.2.2.1 hG'.2.2.2.2.2 ?_
        have := List.all_eq_true.mp hrun (o, S') ho
        unfold a_rok
        cases o with
        | none =>
          have h9 : Nat.beq K.2.2.2.2.1 9 = true := this
          rw [z_beq h9]
          cases v with
          | none => rfl
          | some w => cases hov
        | some s =>
          cases v with
          | none => cases hov
          | some w =>
            obtain ⟨w', t, e1, e2, e3⟩ := a_Sr_cons hov
            cases e1
            obtain ⟨q1, q2⟩ := z_and this
            split
            · rename_i e
              have q1 : (!Nat.beq K.2.2.2.2.1 9) = true := q1
              rw [e] at q1
              cases q1
            · refine ⟨w, rfl, ?_⟩
              exact a_ts_ok (s := s) hG'.1 (by unfold a_ts; exact q2) e2
    · cases hrun
  have cuts : ∀ l : List Nat, l.length = n + 1 → ∀ c ∈ cs, ∀ (lv : zL) (st : List Value) (μ' : zM), a_ms c.2.2.2.2 lv = l → a_At K.2.2.2.1 μ c lv st μ' → Z 0 c.1 lv st μ' := by
    refine a_lx_ind (P := fun l => ∀ c ∈ cs, ∀ (lv : zL) (st : List Value) (μ' : zM), a_ms c.2.2.2.2 lv = l → a_At K.2.2.2.1 μ c lv st μ' → Z 0 c.1 lv st μ') (fun l hl ih c hc lv st μ' hm hAt => ?_)
    rcases Bool.or_eq_true _ _ ▸ List.all_eq_true.mp g5 c hc with q | q
    · exact hex c hc q lv st μ' hAt
    · refine seg c lv st μ' q hAt (fun c' hc' lv' st' μ'' hAt' hlx => ?_)
      refine ih _ ?_ (by rw [← hm]; exact hlx) c' hc' lv' st' μ'' rfl hAt'
      unfold a_ms
      rw [List.length_map]
      exact z_beq (List.all_eq_true.mp g2 c' hc')
  intro c hc lv st μ' hAt
  refine cuts _ ?_ c hc lv st μ' rfl hAt
  unfold a_ms
  rw [List.length_map]
  exact z_beq (List.all_eq_true.mp g2 c hc)
theorem a_Fz_rf (md : List (Nat × Nat)) (μ : zM) : a_Fz md μ μ := ⟨fun _ _ _ => ⟨rfl, rfl⟩, fun _ _ => rfl⟩
theorem a_Fz_at {md : List (Nat × Nat)} {μ μ' : zM} (h : a_Fz md μ μ') (r k : Nat) (hm : a_md md r k = false) : μ'.1 r k = μ.1 r k := (h.1 r k hm).1
theorem aK_all : ∀ (i : Nat) (K : aQ), (a_Ks.take 139)[i]? = some K → a_sound 695 K := fun i K h => aP_139 i K h
