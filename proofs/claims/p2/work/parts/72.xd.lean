/-! the reference's reckoning: its leaves -/
/-- a way's SETS as the reference has them -/
def AY (μ : zM) (s l : Nat → Nat) : Prop := ∀ i, i < 4 → μ.1 56 i = nI (s i) ∧ s i ≤ 3 ∧ μ.1 57 i = nI (l i) ∧ l i < 34
def t4 (s l : Nat → Nat) (c : Nat) : Prop := ∃ j, j < 4 ∧ s j ≠ 0 ∧ l j = c
def r4 (s l : Nat → Nat) (c : Nat) : Prop := ∃ j, j < 4 ∧ s j = 0 ∧ l j = c
theorem zh_X7_isDragon : zH mi_X7_isDragon zc_X7_isDragon 79 7 1 := ⟨by rfl, by rfl, by rfl, by rfl⟩
theorem fc_X7_isDragon (d : Nat) (hd : 1 ≤ d) (μ : zM) (k : Int32) : z_C d mi_X7_isDragon [.int k] μ (zB μ (¬ k ≤ 30)) := by
  refine z_C_in (by decide) (by omega) (fun d' Z ed hc hr => ?_)
  have hH := zh_X7_isDragon
  refine z_rcs hc hH 2 (pc' := 3) (lv' := [(0, .int k)]) (st' := [.int 30, .int k]) (μ' := μ) (by rfl) ?_
  refine zq_ic hc hH (by rfl) (tg := 10) (by rfl) (fun h1 => ?_) (fun h1 => ?_)
  · have h1 := cm_le.mp h1
    refine z_rcs hc hH 1 (pc' := 11) (lv' := [(0, .int k)]) (st' := [.int 0]) (μ' := μ) (by rfl) ?_
    exact hr 0 11 _ _ _ (some (.int 0)) (by decide +kernel) (by rfl) (⟨rfl, Or.inr ⟨rfl, fun q => q h1⟩⟩)
  · have h1 := cn_le.mp h1
    refine z_rcs hc hH 2 (pc' := 11) (lv' := [(0, .int k)]) (st' := [.int 1]) (μ' := μ) (by rfl) ?_
    exact hr 0 11 _ _ _ (some (.int 1)) (by decide +kernel) (by rfl) (⟨rfl, Or.inl ⟨rfl, h1⟩⟩)
theorem zh_X7_bit : zH mi_X7_bit zc_X7_bit 79 7 1 := ⟨by rfl, by rfl, by rfl, by rfl⟩
theorem fc_X7_bit (d : Nat) (hd : 1 ≤ d) (μ : zM) (k : Int32) : z_C d mi_X7_bit [.int k] μ (zR μ (.long ((1 : Int64) <<< (k.toInt64 &&& 63)))) := by
  refine z_C_in (by decide) (by omega) (fun d' Z ed hc hr => ?_)
  have hH := zh_X7_bit
  refine z_rcs hc hH 3 (pc' := 3) (lv' := [(0, .int k)]) (st' := [.long (1 <<< (k.toInt64 &&& 63))]) (μ' := μ) (by rfl) ?_
  exact hr 0 3 _ _ _ (some (.long (1 <<< (k.toInt64 &&& 63)))) (by decide +kernel) (by rfl) (⟨rfl, rfl⟩)
theorem zh_X7_hasThree : zH mi_X7_hasThree zc_X7_hasThree 79 7 4 := ⟨by rfl, by rfl, by rfl, by rfl⟩
theorem fc_X7_hasThree (d : Nat) (hd : 1 ≤ d) (μ : zM) (s l : Nat → Nat) (hA : AY μ s l) (c : Nat) (hcc : c < 100) : z_C d mi_X7_hasThree [.ref 50, .int (nI c)] μ (zB μ (t4 s l c)) := by
  refine z_C_in (by decide) (by omega) (fun d' Z ed hc hr => ?_)
  have hH := zh_X7_hasThree
  have lp : ∀ (n i : Nat), i + n = 4 → ∀ x : Int32, (x = 1 ∧ ∃ j, j < i ∧ (s j ≠ 0 ∧ l j = c)) ∨ (x = 0 ∧ ¬ ∃ j, j < i ∧ (s j ≠ 0 ∧ l j = c)) → Z 0 4 [(3, .int (nI i)), (2, .int x), (0, .ref 50), (1, .int (nI c))] [] μ := by
    intro n
    induction n with
    | zero =>
      intro i hi x hx
      have hi : i = 4 := by omega
      subst hi
      rcases hx with ⟨rfl, hz⟩ | ⟨rfl, hz⟩
      · skip
        refine z_rcs hc hH 2 (pc' := 6) (lv' := [(3, .int (nI 4)), (2, .int 1), (0, .ref 50), (1, .int (nI c))]) (st' := [.int 4, .int (nI 4)]) (μ' := μ) (by rfl) ?_
        refine zq_ic hc hH (by rfl) (tg := 44) (by rfl) (fun _ => ?_) (fun h9 => (zb_t (ge_nIt (n := 4) (i := 4) (by decide) (by decide)) h9).elim)
        refine z_rcs hc hH 1 (pc' := 45) (lv' := [(3, .int (nI 4)), (2, .int 1), (0, .ref 50), (1, .int (nI c))]) (st' := [.int 1]) (μ' := μ) (by rfl) ?_
        exact hr 0 45 _ _ _ (some (.int 1)) (by decide +kernel) (by rfl) (⟨rfl, Or.inl ⟨rfl, hz⟩⟩)
      · skip
        refine z_rcs hc hH 2 (pc' := 6) (lv' := [(3, .int (nI 4)), (2, .int 0), (0, .ref 50), (1, .int (nI c))]) (st' := [.int 4, .int (nI 4)]) (μ' := μ) (by rfl) ?_
        refine zq_ic hc hH (by rfl) (tg := 44) (by rfl) (fun _ => ?_) (fun h9 => (zb_t (ge_nIt (n := 4) (i := 4) (by decide) (by decide)) h9).elim)
        refine z_rcs hc hH 1 (pc' := 45) (lv' := [(3, .int (nI 4)), (2, .int 0), (0, .ref 50), (1, .int (nI c))]) (st' := [.int 0]) (μ' := μ) (by rfl) ?_
        exact hr 0 45 _ _ _ (some (.int 0)) (by decide +kernel) (by rfl) (⟨rfl, Or.inr ⟨rfl, hz⟩⟩)
    | succ n ih =>
      intro i hi x hx
      have hin : vp_in (nI i) 4 := vp_in_nI (by omega) (by decide)
      have a := hA i (by omega)
      rcases hx with ⟨rfl, hz⟩ | ⟨rfl, hz⟩
      · skip
        refine z_rcs hc hH 2 (pc' := 6) (lv' := [(3, .int (nI i)), (2, .int 1), (0, .ref 50), (1, .int (nI c))]) (st' := [.int 4, .int (nI i)]) (μ' := μ) (by rfl) ?_
        refine zq_ic hc hH (by rfl) (tg := 44) (by rfl) (fun h9 => (zb_t h9 (ge_nI (n := 4) (i := i) (by omega) (by decide))).elim) (fun _ => ?_)
        refine z_rcs hc hH 7 (pc' := 4) (lv' := [(3, .int ((nI i) + 1)), (2, .int 1), (0, .ref 50), (1, .int (nI c))]) (st' := []) (μ' := μ) (by rfl) ?_
        rw [nI_1]
        exact ih (i + 1) (by omega) 1 (Or.inl ⟨rfl, hz.elim fun j hj => ⟨j, by omega, hj.2⟩⟩)
      · skip
        refine z_rcs hc hH 2 (pc' := 6) (lv' := [(3, .int (nI i)), (2, .int 0), (0, .ref 50), (1, .int (nI c))]) (st' := [.int 4, .int (nI i)]) (μ' := μ) (by rfl) ?_
        refine zq_ic hc hH (by rfl) (tg := 44) (by rfl) (fun h9 => (zb_t h9 (ge_nI (n := 4) (i := i) (by omega) (by decide))).elim) (fun _ => ?_)
        refine z_rcs hc hH 5 (pc' := 18) (lv' := [(3, .int (nI i)), (2, .int 0), (0, .ref 50), (1, .int (nI c))]) (st' := [.int (nI i), .ref 56]) (μ' := μ) (by rfl) ?_
        refine zq_iald hc hH (by rfl) 4 (by decide +kernel) (hin) ?_
        rw [nI_clamp (n := i) (by omega), a.1]
        refine zq_if hc hH (by rfl) (tg := 36) (by rfl) (fun h1 => ?_) (fun h1 => ?_)
        · have h1 := cm_eq9.mp h1
          refine z_rcs hc hH 4 (pc' := 4) (lv' := [(3, .int ((nI i) + 1)), (2, .int 0), (0, .ref 50), (1, .int (nI c))]) (st' := []) (μ' := μ) (by rfl) ?_
          rw [nI_1]
          have g : s i = 0 := (nI_eq (by omega) (by decide)).mp h1
          exact ih (i + 1) (by omega) 0 (Or.inr ⟨rfl, fun ⟨j, hj, hp⟩ => if e : j = i then (by rw [e] at hp; exact hp.1 g) else hz ⟨j, by omega, hp⟩⟩)
        · have h1 := cn_eq.mp h1
          refine z_rcs hc hH 3 (pc' := 27) (lv' := [(3, .int (nI i)), (2, .int 0), (0, .ref 50), (1, .int (nI c))]) (st' := [.int (nI i), .ref 57]) (μ' := μ) (by rfl) ?_
          refine zq_iald hc hH (by rfl) 4 (by decide +kernel) (hin) ?_
          rw [nI_clamp (n := i) (by omega), a.2.2.1]
          refine z_rcs hc hH 1 (pc' := 29) (lv' := [(3, .int (nI i)), (2, .int 0), (0, .ref 50), (1, .int (nI c))]) (st' := [.int (nI c), .int (nI (l i))]) (μ' := μ) (by rfl) ?_
          refine zq_ic hc hH (by rfl) (tg := 36) (by rfl) (fun h2 => ?_) (fun h2 => ?_)
          · have h2 := cm_ne.mp h2
            refine z_rcs hc hH 4 (pc' := 4) (lv' := [(3, .int ((nI i) + 1)), (2, .int 0), (0, .ref 50), (1, .int (nI c))]) (st' := []) (μ' := μ) (by rfl) ?_
            rw [nI_1]
            have g : s i ≠ 0 := fun e => h1 (by rw [e]; rfl)
            exact ih (i + 1) (by omega) 0 (Or.inr ⟨rfl, fun ⟨j, hj, hp⟩ => if e : j = i then (by rw [e] at hp; exact h2 (by rw [hp.2])) else hz ⟨j, by omega, hp⟩⟩)
          · have h2 := cn_ne.mp h2
            refine z_rcs hc hH 5 (pc' := 4) (lv' := [(3, .int ((nI i) + 1)), (2, .int 1), (0, .ref 50), (1, .int (nI c))]) (st' := []) (μ' := μ) (by rfl) ?_
            rw [nI_1]
            have g : s i ≠ 0 := fun e => h1 (by rw [e]; rfl)
            exact ih (i + 1) (by omega) 1 (Or.inl ⟨rfl, i, by omega, g, (nI_eq (by omega) (by omega)).mp h2⟩)
  refine z_rcs hc hH 4 (pc' := 4) (lv' := [(3, .int 0), (2, .int 0), (0, .ref 50), (1, .int (nI c))]) (st' := []) (μ' := μ) (by rfl) ?_
  exact lp 4 0 rfl 0 (Or.inr ⟨rfl, fun ⟨j, hj, _⟩ => absurd hj (by omega)⟩)
theorem zh_X7_hasRun : zH mi_X7_hasRun zc_X7_hasRun 79 7 4 := ⟨by rfl, by rfl, by rfl, by rfl⟩
theorem fc_X7_hasRun (d : Nat) (hd : 1 ≤ d) (μ : zM) (s l : Nat → Nat) (hA : AY μ s l) (c : Nat) (hcc : c < 100) : z_C d mi_X7_hasRun [.ref 50, .int (nI c)] μ (zB μ (r4 s l c)) := by
  refine z_C_in (by decide) (by omega) (fun d' Z ed hc hr => ?_)
  have hH := zh_X7_hasRun
  have lp : ∀ (n i : Nat), i + n = 4 → ∀ x : Int32, (x = 1 ∧ ∃ j, j < i ∧ (s j = 0 ∧ l j = c)) ∨ (x = 0 ∧ ¬ ∃ j, j < i ∧ (s j = 0 ∧ l j = c)) → Z 0 4 [(3, .int (nI i)), (2, .int x), (0, .ref 50), (1, .int (nI c))] [] μ := by
    intro n
    induction n with
    | zero =>
      intro i hi x hx
      have hi : i = 4 := by omega
      subst hi
      rcases hx with ⟨rfl, hz⟩ | ⟨rfl, hz⟩
      · skip
        refine z_rcs hc hH 2 (pc' := 6) (lv' := [(3, .int (nI 4)), (2, .int 1), (0, .ref 50), (1, .int (nI c))]) (st' := [.int 4, .int (nI 4)]) (μ' := μ) (by rfl) ?_
        refine zq_ic hc hH (by rfl) (tg := 44) (by rfl) (fun _ => ?_) (fun h9 => (zb_t (ge_nIt (n := 4) (i := 4) (by decide) (by decide)) h9).elim)
        refine z_rcs hc hH 1 (pc' := 45) (lv' := [(3, .int (nI 4)), (2, .int 1), (0, .ref 50), (1, .int (nI c))]) (st' := [.int 1]) (μ' := μ) (by rfl) ?_
        exact hr 0 45 _ _ _ (some (.int 1)) (by decide +kernel) (by rfl) (⟨rfl, Or.inl ⟨rfl, hz⟩⟩)
      · skip
        refine z_rcs hc hH 2 (pc' := 6) (lv' := [(3, .int (nI 4)), (2, .int 0), (0, .ref 50), (1, .int (nI c))]) (st' := [.int 4, .int (nI 4)]) (μ' := μ) (by rfl) ?_
        refine zq_ic hc hH (by rfl) (tg := 44) (by rfl) (fun _ => ?_) (fun h9 => (zb_t (ge_nIt (n := 4) (i := 4) (by decide) (by decide)) h9).elim)
        refine z_rcs hc hH 1 (pc' := 45) (lv' := [(3, .int (nI 4)), (2, .int 0), (0, .ref 50), (1, .int (nI c))]) (st' := [.int 0]) (μ' := μ) (by rfl) ?_
        exact hr 0 45 _ _ _ (some (.int 0)) (by decide +kernel) (by rfl) (⟨rfl, Or.inr ⟨rfl, hz⟩⟩)
    | succ n ih =>
      intro i hi x hx
      have hin : vp_in (nI i) 4 := vp_in_nI (by omega) (by decide)
      have a := hA i (by omega)
      rcases hx with ⟨rfl, hz⟩ | ⟨rfl, hz⟩
      · skip
        refine z_rcs hc hH 2 (pc' := 6) (lv' := [(3, .int (nI i)), (2, .int 1), (0, .ref 50), (1, .int (nI c))]) (st' := [.int 4, .int (nI i)]) (μ' := μ) (by rfl) ?_
        refine zq_ic hc hH (by rfl) (tg := 44) (by rfl) (fun h9 => (zb_t h9 (ge_nI (n := 4) (i := i) (by omega) (by decide))).elim) (fun _ => ?_)
        refine z_rcs hc hH 7 (pc' := 4) (lv' := [(3, .int ((nI i) + 1)), (2, .int 1), (0, .ref 50), (1, .int (nI c))]) (st' := []) (μ' := μ) (by rfl) ?_
        rw [nI_1]
        exact ih (i + 1) (by omega) 1 (Or.inl ⟨rfl, hz.elim fun j hj => ⟨j, by omega, hj.2⟩⟩)
      · skip
        refine z_rcs hc hH 2 (pc' := 6) (lv' := [(3, .int (nI i)), (2, .int 0), (0, .ref 50), (1, .int (nI c))]) (st' := [.int 4, .int (nI i)]) (μ' := μ) (by rfl) ?_
        refine zq_ic hc hH (by rfl) (tg := 44) (by rfl) (fun h9 => (zb_t h9 (ge_nI (n := 4) (i := i) (by omega) (by decide))).elim) (fun _ => ?_)
        refine z_rcs hc hH 5 (pc' := 18) (lv' := [(3, .int (nI i)), (2, .int 0), (0, .ref 50), (1, .int (nI c))]) (st' := [.int (nI i), .ref 56]) (μ' := μ) (by rfl) ?_
        refine zq_iald hc hH (by rfl) 4 (by decide +kernel) (hin) ?_
        rw [nI_clamp (n := i) (by omega), a.1]
        refine zq_if hc hH (by rfl) (tg := 36) (by rfl) (fun h1 => ?_) (fun h1 => ?_)
        · have h1 := cm_ne.mp h1
          refine z_rcs hc hH 4 (pc' := 4) (lv' := [(3, .int ((nI i) + 1)), (2, .int 0), (0, .ref 50), (1, .int (nI c))]) (st' := []) (μ' := μ) (by rfl) ?_
          rw [nI_1]
          have g : s i ≠ 0 := fun e => h1 (by rw [e]; rfl)
          exact ih (i + 1) (by omega) 0 (Or.inr ⟨rfl, fun ⟨j, hj, hp⟩ => if e : j = i then (by rw [e] at hp; exact g hp.1) else hz ⟨j, by omega, hp⟩⟩)
        · have h1 := cn_ne.mp h1
          refine z_rcs hc hH 3 (pc' := 27) (lv' := [(3, .int (nI i)), (2, .int 0), (0, .ref 50), (1, .int (nI c))]) (st' := [.int (nI i), .ref 57]) (μ' := μ) (by rfl) ?_
          refine zq_iald hc hH (by rfl) 4 (by decide +kernel) (hin) ?_
          rw [nI_clamp (n := i) (by omega), a.2.2.1]
          refine z_rcs hc hH 1 (pc' := 29) (lv' := [(3, .int (nI i)), (2, .int 0), (0, .ref 50), (1, .int (nI c))]) (st' := [.int (nI c), .int (nI (l i))]) (μ' := μ) (by rfl) ?_
          refine zq_ic hc hH (by rfl) (tg := 36) (by rfl) (fun h2 => ?_) (fun h2 => ?_)
          · have h2 := cm_ne.mp h2
            refine z_rcs hc hH 4 (pc' := 4) (lv' := [(3, .int ((nI i) + 1)), (2, .int 0), (0, .ref 50), (1, .int (nI c))]) (st' := []) (μ' := μ) (by rfl) ?_
            rw [nI_1]
            have g : s i = 0 := (nI_eq (by omega) (by decide)).mp h1
            exact ih (i + 1) (by omega) 0 (Or.inr ⟨rfl, fun ⟨j, hj, hp⟩ => if e : j = i then (by rw [e] at hp; exact h2 (by rw [hp.2])) else hz ⟨j, by omega, hp⟩⟩)
          · have h2 := cn_ne.mp h2
            refine z_rcs hc hH 5 (pc' := 4) (lv' := [(3, .int ((nI i) + 1)), (2, .int 1), (0, .ref 50), (1, .int (nI c))]) (st' := []) (μ' := μ) (by rfl) ?_
            rw [nI_1]
            have g : s i = 0 := (nI_eq (by omega) (by decide)).mp h1
            exact ih (i + 1) (by omega) 1 (Or.inl ⟨rfl, i, by omega, g, (nI_eq (by omega) (by omega)).mp h2⟩)
  refine z_rcs hc hH 4 (pc' := 4) (lv' := [(3, .int 0), (2, .int 0), (0, .ref 50), (1, .int (nI c))]) (st' := []) (μ' := μ) (by rfl) ?_
  exact lp 4 0 rfl 0 (Or.inr ⟨rfl, fun ⟨j, hj, _⟩ => absurd hj (by omega)⟩)
def hid (s : Nat → Nat) (q co : Nat) (dr : Prop) (i : Nat) : Prop := s i = 3 ∨ (q ≤ i ∧ s i = 1 ∧ (dr ∨ co ≠ i))
theorem zh_X7_isHidden : zH mi_X7_isHidden zc_X7_isHidden 79 7 2 := ⟨by rfl, by rfl, by rfl, by rfl⟩
theorem fc_X7_isHidden (d : Nat) (hd : 1 ≤ d) (μ : zM) (s l : Nat → Nat) (hA : AY μ s l) (q co i : Nat) (hq : q ≤ 4) (hco : co ≤ 4) (hi : i < 4) (e4 : μ.1 50 4 = nI q) (ec : μ.1 50 22 = nI co) : z_C d mi_X7_isHidden [.ref 50, .int (nI i)] μ (zB μ (hid s q co (¬ μ.1 50 11 = 0) i)) := by
  refine z_C_in (by decide) (by omega) (fun d' Z ed hc hr => ?_)
  have hH := zh_X7_isHidden
  have hin : vp_in (nI i) 4 := vp_in_nI hi (by decide)
  have a := hA i hi
  refine z_rcs hc hH 3 (pc' := 5) (lv' := [(0, .ref 50), (1, .int (nI i))]) (st' := [.int (nI i), .ref 56]) (μ' := μ) (by rfl) ?_
  refine zq_iald hc hH (by rfl) 4 (by decide +kernel) (hin) ?_
  rw [nI_clamp (n := i) (by omega), a.1]
  refine z_rcs hc hH 1 (pc' := 7) (lv' := [(0, .ref 50), (1, .int (nI i))]) (st' := [.int 3, .int (nI (s i))]) (μ' := μ) (by rfl) ?_
  refine zq_ic hc hH (by rfl) (tg := 12) (by rfl) (fun h1 => ?_) (fun h1 => ?_)
  · have h1 := cm_ne.mp h1
    refine z_rcs hc hH 3 (pc' := 17) (lv' := [(0, .ref 50), (1, .int (nI i))]) (st' := [.int (μ.1 50 4), .int (nI i)]) (μ' := μ) (by rfl) ?_
    refine zq_ic hc hH (by rfl) (tg := 49) (by rfl) (fun h2 => ?_) (fun h2 => ?_)
    · have h2 := cm_lt.mp h2
      refine z_rcs hc hH 1 (pc' := 50) (lv' := [(0, .ref 50), (1, .int (nI i))]) (st' := [.int 0]) (μ' := μ) (by rfl) ?_
      have lt : i < q := by
        have z := h2
        rw [e4, Int32.lt_iff_toInt_lt, nI_toInt (by omega), nI_toInt (by omega)] at z
        omega
      exact hr 0 50 _ _ _ (some (.int 0)) (by decide +kernel) (by rfl) (⟨rfl, Or.inr ⟨rfl, fun z => z.elim (fun e => h1 (by rw [e]; rfl)) (fun y => absurd y.1 (by omega))⟩⟩)
    · have h2 := cn_lt.mp h2
      refine z_rcs hc hH 3 (pc' := 25) (lv' := [(0, .ref 50), (1, .int (nI i))]) (st' := [.int (nI i), .ref 56]) (μ' := μ) (by rfl) ?_
      refine zq_iald hc hH (by rfl) 4 (by decide +kernel) (hin) ?_
      rw [nI_clamp (n := i) (by omega), a.1]
      refine z_rcs hc hH 1 (pc' := 27) (lv' := [(0, .ref 50), (1, .int (nI i))]) (st' := [.int 1, .int (nI (s i))]) (μ' := μ) (by rfl) ?_
      refine zq_ic hc hH (by rfl) (tg := 49) (by rfl) (fun h3 => ?_) (fun h3 => ?_)
      · have h3 := cm_ne.mp h3
        refine z_rcs hc hH 1 (pc' := 50) (lv' := [(0, .ref 50), (1, .int (nI i))]) (st' := [.int 0]) (μ' := μ) (by rfl) ?_
        have le : q ≤ i := by
          have z := h2
          rw [e4, Int32.not_lt, Int32.le_iff_toInt_le, nI_toInt (by omega), nI_toInt (by omega)] at z
          omega
        exact hr 0 50 _ _ _ (some (.int 0)) (by decide +kernel) (by rfl) (⟨rfl, Or.inr ⟨rfl, fun z => z.elim (fun e => h1 (by rw [e]; rfl)) (fun y => h3 (by rw [y.2.1]; rfl))⟩⟩)
      · have h3 := cn_ne.mp h3
        refine z_rcs hc hH 2 (pc' := 34) (lv' := [(0, .ref 50), (1, .int (nI i))]) (st' := [.int (μ.1 50 11)]) (μ' := μ) (by rfl) ?_
        refine zq_if hc hH (by rfl) (tg := 45) (by rfl) (fun h4 => ?_) (fun h4 => ?_)
        · have h4 := cm_ne.mp h4
          refine z_rcs hc hH 2 (pc' := 50) (lv' := [(0, .ref 50), (1, .int (nI i))]) (st' := [.int 1]) (μ' := μ) (by rfl) ?_
          have le : q ≤ i := by
            have z := h2
            rw [e4, Int32.not_lt, Int32.le_iff_toInt_le, nI_toInt (by omega), nI_toInt (by omega)] at z
            omega
          exact hr 0 50 _ _ _ (some (.int 1)) (by decide +kernel) (by rfl) (⟨rfl, Or.inl ⟨rfl, Or.inr ⟨le, (nI_eq (by omega) (by decide)).mp h3, Or.inl h4⟩⟩⟩)
        · have h4 := cn_ne.mp h4
          refine z_rcs hc hH 3 (pc' := 42) (lv' := [(0, .ref 50), (1, .int (nI i))]) (st' := [.int (nI i), .int (μ.1 50 22)]) (μ' := μ) (by rfl) ?_
          refine zq_ic hc hH (by rfl) (tg := 49) (by rfl) (fun h5 => ?_) (fun h5 => ?_)
          · have h5 := cm_eq9.mp h5
            refine z_rcs hc hH 1 (pc' := 50) (lv' := [(0, .ref 50), (1, .int (nI i))]) (st' := [.int 0]) (μ' := μ) (by rfl) ?_
            have le : q ≤ i := by
              have z := h2
              rw [e4, Int32.not_lt, Int32.le_iff_toInt_le, nI_toInt (by omega), nI_toInt (by omega)] at z
              omega
            exact hr 0 50 _ _ _ (some (.int 0)) (by decide +kernel) (by rfl) (⟨rfl, Or.inr ⟨rfl, fun z => z.elim (fun e => h1 (by rw [e]; rfl)) (fun y => y.2.2.elim (fun u => u h4) (fun u => u ((nI_eq (by omega) (by omega)).mp (ec.symm.trans h5))))⟩⟩)
          · have h5 := cn_eq.mp h5
            refine z_rcs hc hH 2 (pc' := 50) (lv' := [(0, .ref 50), (1, .int (nI i))]) (st' := [.int 1]) (μ' := μ) (by rfl) ?_
            have le : q ≤ i := by
              have z := h2
              rw [e4, Int32.not_lt, Int32.le_iff_toInt_le, nI_toInt (by omega), nI_toInt (by omega)] at z
              omega
            exact hr 0 50 _ _ _ (some (.int 1)) (by decide +kernel) (by rfl) (⟨rfl, Or.inl ⟨rfl, Or.inr ⟨le, (nI_eq (by omega) (by decide)).mp h3, Or.inr (fun e => h5 (by rw [ec, e]))⟩⟩⟩)
  · have h1 := cn_ne.mp h1
    refine z_rcs hc hH 1 (pc' := 11) (lv' := [(0, .ref 50), (1, .int (nI i))]) (st' := [.int 1]) (μ' := μ) (by rfl) ?_
    exact hr 0 11 _ _ _ (some (.int 1)) (by decide +kernel) (by rfl) (⟨rfl, Or.inl ⟨rfl, Or.inl ((nI_eq (by omega) (by decide)).mp h1)⟩⟩)
theorem zh_X7_isOpen : zH mi_X7_isOpen zc_X7_isOpen 79 7 3 := ⟨by rfl, by rfl, by rfl, by rfl⟩
theorem fc_X7_isOpen (d : Nat) (hd : 1 ≤ d) (μ : zM) (q : Nat) (hq : q ≤ 4) (e4 : μ.1 50 4 = nI q) : z_C d mi_X7_isOpen [.ref 50] μ (zB μ (∃ j, j < q ∧ ¬ μ.1 52 j = 3)) := by
  refine z_C_in (by decide) (by omega) (fun d' Z ed hc hr => ?_)
  have hH := zh_X7_isOpen
  have lp : ∀ (n i : Nat), i + n = q → ∀ x : Int32, (x = 1 ∧ ∃ j, j < i ∧ ¬ μ.1 52 j = 3) ∨ (x = 0 ∧ ¬ ∃ j, j < i ∧ ¬ μ.1 52 j = 3) → Z 0 4 [(2, .int (nI i)), (1, .int x), (0, .ref 50)] [] μ := by
    intro n
    induction n with
    | zero =>
      intro i hi x hx
      have hi : i = q := by omega
      subst hi
      rcases hx with ⟨rfl, hz⟩ | ⟨rfl, hz⟩
      · skip
        refine z_rcs hc hH 3 (pc' := 9) (lv' := [(2, .int (nI i)), (1, .int 1), (0, .ref 50)]) (st' := [.int (μ.1 50 4), .int (nI i)]) (μ' := μ) (by rfl) ?_
        refine zq_ic hc hH (by rfl) (tg := 38) (by rfl) (fun _ => ?_) (fun h9 => (zb_t (by rw [e4]; exact ge_nIt (Nat.le_refl _) (by omega)) h9).elim)
        refine z_rcs hc hH 1 (pc' := 39) (lv' := [(2, .int (nI i)), (1, .int 1), (0, .ref 50)]) (st' := [.int 1]) (μ' := μ) (by rfl) ?_
        exact hr 0 39 _ _ _ (some (.int 1)) (by decide +kernel) (by rfl) (⟨rfl, Or.inl ⟨rfl, hz⟩⟩)
      · skip
        refine z_rcs hc hH 3 (pc' := 9) (lv' := [(2, .int (nI i)), (1, .int 0), (0, .ref 50)]) (st' := [.int (μ.1 50 4), .int (nI i)]) (μ' := μ) (by rfl) ?_
        refine zq_ic hc hH (by rfl) (tg := 38) (by rfl) (fun _ => ?_) (fun h9 => (zb_t (by rw [e4]; exact ge_nIt (Nat.le_refl _) (by omega)) h9).elim)
        refine z_rcs hc hH 1 (pc' := 39) (lv' := [(2, .int (nI i)), (1, .int 0), (0, .ref 50)]) (st' := [.int 0]) (μ' := μ) (by rfl) ?_
        exact hr 0 39 _ _ _ (some (.int 0)) (by decide +kernel) (by rfl) (⟨rfl, Or.inr ⟨rfl, hz⟩⟩)
    | succ n ih =>
      intro i hi x hx
      have hin : vp_in (nI i) 8 := vp_in_nI (by omega) (by decide)
      rcases hx with ⟨rfl, hz⟩ | ⟨rfl, hz⟩
      · skip
        refine z_rcs hc hH 3 (pc' := 9) (lv' := [(2, .int (nI i)), (1, .int 1), (0, .ref 50)]) (st' := [.int (μ.1 50 4), .int (nI i)]) (μ' := μ) (by rfl) ?_
        refine zq_ic hc hH (by rfl) (tg := 38) (by rfl) (fun h9 => (zb_t h9 (by rw [e4]; exact ge_nI (by omega) (by omega))).elim) (fun _ => ?_)
        refine z_rcs hc hH 7 (pc' := 4) (lv' := [(2, .int ((nI i) + 1)), (1, .int 1), (0, .ref 50)]) (st' := []) (μ' := μ) (by rfl) ?_
        rw [nI_1]
        exact ih (i + 1) (by omega) 1 (Or.inl ⟨rfl, hz.elim fun j hj => ⟨j, by omega, hj.2⟩⟩)
      · skip
        refine z_rcs hc hH 3 (pc' := 9) (lv' := [(2, .int (nI i)), (1, .int 0), (0, .ref 50)]) (st' := [.int (μ.1 50 4), .int (nI i)]) (μ' := μ) (by rfl) ?_
        refine zq_ic hc hH (by rfl) (tg := 38) (by rfl) (fun h9 => (zb_t h9 (by rw [e4]; exact ge_nI (by omega) (by omega))).elim) (fun _ => ?_)
        refine z_rcs hc hH 5 (pc' := 21) (lv' := [(2, .int (nI i)), (1, .int 0), (0, .ref 50)]) (st' := [.int (nI i), .ref 52]) (μ' := μ) (by rfl) ?_
        refine zq_iald hc hH (by rfl) 8 (by decide +kernel) (hin) ?_
        rw [nI_clamp (n := i) (by omega)]
        refine z_rcs hc hH 1 (pc' := 23) (lv' := [(2, .int (nI i)), (1, .int 0), (0, .ref 50)]) (st' := [.int 3, .int (μ.1 52 i)]) (μ' := μ) (by rfl) ?_
        refine zq_ic hc hH (by rfl) (tg := 30) (by rfl) (fun h1 => ?_) (fun h1 => ?_)
        · have h1 := cm_eq9.mp h1
          refine z_rcs hc hH 4 (pc' := 4) (lv' := [(2, .int ((nI i) + 1)), (1, .int 0), (0, .ref 50)]) (st' := []) (μ' := μ) (by rfl) ?_
          rw [nI_1]
          exact ih (i + 1) (by omega) 0 (Or.inr ⟨rfl, fun ⟨j, hj, hp⟩ => if e : j = i then (by rw [e] at hp; exact hp h1) else hz ⟨j, by omega, hp⟩⟩)
        · have h1 := cn_eq.mp h1
          refine z_rcs hc hH 5 (pc' := 4) (lv' := [(2, .int ((nI i) + 1)), (1, .int 1), (0, .ref 50)]) (st' := []) (μ' := μ) (by rfl) ?_
          rw [nI_1]
          exact ih (i + 1) (by omega) 1 (Or.inl ⟨rfl, i, by omega, h1⟩)
  refine z_rcs hc hH 4 (pc' := 4) (lv' := [(2, .int 0), (1, .int 0), (0, .ref 50)]) (st' := []) (μ' := μ) (by rfl) ?_
  exact lp q 0 (by omega) 0 (Or.inr ⟨rfl, fun ⟨j, hj, _⟩ => absurd hj (by omega)⟩)
