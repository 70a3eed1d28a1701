/-! the desk of the class waits: memory as it was; the use of the decided contracts -/
theorem a_use {d i : Nat} {K : aQ} (h : (a_Ks.take 139)[i]? = some K) (hd : 695 ≤ d) : a_sound d K := a_sound_up (aP_139 i K h) hd
def aArg : List aI → List Value → Prop
  | [], [] => True
  | q :: qs, v :: vs => a_ok q v ∧ aArg qs vs
  | _, _ => False
theorem aArg_pre {K : aQ} {As : List Value} {μ : zM} (h : aArg K.2.1 As) (h2 : K.2.2.1 = []) : a_pre1 K As μ := by
  have key : ∀ (qs : List aI) (vs : List Value), aArg qs vs → vs.length = qs.length ∧ ∀ (i : Nat) (q : aI) (v : Value), qs[i]? = some q → vs[i]? = some v → a_ok q v := by
    intro qs
    induction qs with
    | nil =>
      intro vs h
      cases vs with
      | nil => exact ⟨rfl, fun i q v h1 => by simp at h1⟩
      | cons v vs => exact h.elim
    | cons q qs ih =>
      intro vs h
      cases vs with
      | nil => exact h.elim
      | cons v vs =>
        obtain ⟨h1, h2⟩ := h
        obtain ⟨i1, i2⟩ := ih vs h2
        refine ⟨by simp [i1], fun i q' v' e1 e2 => ?_⟩
        cases i with
        | zero =>
          simp at e1 e2
          rw [← e1, ← e2]
          exact h1
        | succ i => exact i2 i q' v' (by simpa using e1) (by simpa using e2)
  obtain ⟨k1, k2⟩ := key _ _ h
  refine ⟨k1, k2, fun f hf => ?_⟩
  rw [h2] at hf
  cases hf
theorem a_Fz_nil {μ μ' : zM} (h : a_Fz [] μ μ') : μ' = μ := by
  obtain ⟨h1, h2⟩ := h
  refine Prod.ext (funext fun r => funext fun k => (h1 r k rfl).1) (Prod.ext (funext fun r => funext fun k => (h1 r k rfl).2) (funext fun r => h2 r rfl))
theorem a_H_put {μ : zM} {k n : Int32} (h : a_H μ) : a_H (z_put μ k n) := a_H_ui (a_H_ui (a_H_ui h (bI_top _)) (bI_top _)) (bI_top _)
theorem i_anc (x n : Int32) : x + n + -n = x := by rw [← Int32.sub_eq_add_neg, Int32.add_sub_cancel]
theorem z_put_back (μ : zM) (k n : Int32) : z_put (z_put μ k n) k (-n) = μ := by
  unfold z_put
  refine Prod.ext (funext fun r => funext fun i => ?_) rfl
  simp only [z_ui_rd]
  by_cases h9 : r = 9
  · subst h9
    by_cases h5 : i = 5
    · subst h5
      simp [i_anc]
    · simp [h5]
  · by_cases h10 : r = 10
    · subst h10
      by_cases hi : i = k.toNatClampNeg
      · simp [hi, i_anc]
      · simp [hi]
    · by_cases h11 : r = 11
      · subst h11
        by_cases hi : i = k.toNatClampNeg
        · simp [hi, i_anc]
        · simp [hi]
      · simp [h9, h10, h11]
theorem zh_X3_waitsFor : zH mi_X3_waitsFor zt_X3_waitsFor 79 3 3 := hh_X3_waitsFor
theorem fc_X3_waitsFor (d : Nat) (hd : 700 ≤ d) (μ : zM) (k : Int32) (ha : a_H μ) : z_C d mi_X3_waitsFor [.ref 9, .int k] μ (fun r μ' => μ' = μ ∧ ∃ x, r = some (.int x)) := by
  refine z_C_in (by decide) (by omega) (fun d' Z ed hc hr => ?_)
  have hH := zh_X3_waitsFor
  refine z_rcs hc hH 1 (pc' := 1) (lv' := [(0, .ref 9), (1, .int k)]) (st' := [.ref 9]) (μ' := μ) (by rfl) ?_
  refine zq_call hc (z_cx_ok hH (by rfl)) (fc_X3_size d' (by omega) μ) (by decide +kernel) (fun r9 μ9 hq => ?_)
  obtain ⟨hμ9, rfl⟩ := hq
  rw [hμ9]
  clear hμ9 μ9
  show Z 0 4 [(0, .ref 9), (1, .int k)] [.int (μ.1 9 5 + 3 * μ.1 9 4)] μ
  refine z_rcs hc hH 1 (pc' := 6) (lv' := [(0, .ref 9), (1, .int k)]) (st' := [.int 13, .int (μ.1 9 5 + 3 * μ.1 9 4)]) (μ' := μ) (by rfl) ?_
  refine zq_ic hc hH (by rfl) (tg := 26) (by rfl) (fun h1 => ?_) (fun h1 => ?_)
  · have h1 := cm_ne.mp h1
    refine z_rcs hc hH 1 (pc' := 27) (lv' := [(0, .ref 9), (1, .int k)]) (st' := [.int 0]) (μ' := μ) (by rfl) ?_
    exact hr 0 27 _ _ _ (some (.int 0)) (by decide +kernel) (z_rx_ok hH (by rfl)) (⟨rfl, _, rfl⟩)
  · have h1 := cn_ne.mp h1
    refine z_rcs hc hH 1 (pc' := 10) (lv' := [(0, .ref 9), (1, .int k)]) (st' := [.int k]) (μ' := μ) (by rfl) ?_
    refine zq_call hc (z_cx_ok hH (by rfl)) (fc_X6_isKind d' (by omega) μ k) (by decide +kernel) (fun r9 μ9 hq => ?_)
    obtain ⟨hμ9, hq⟩ := hq
    rw [hμ9]
    clear hμ9 μ9
    obtain ⟨rfl, hk⟩ | ⟨rfl, hk⟩ := hq
    · show Z 0 13 [(0, .ref 9), (1, .int k)] [.int 1] μ
      refine z_rcs hc hH 4 (pc' := 21) (lv' := [(0, .ref 9), (1, .int k)]) (st' := [.int k, .ref 11]) (μ' := μ) (by rfl) ?_
      refine zq_iald hc hH (by rfl) 34 (by decide +kernel) (hk) ?_
      refine z_rcs hc hH 1 (pc' := 23) (lv' := [(0, .ref 9), (1, .int k)]) (st' := [.int 4, .int (μ.1 11 k.toNatClampNeg)]) (μ' := μ) (by rfl) ?_
      refine zq_ic hc hH (by rfl) (tg := 28) (by rfl) (fun h2 => ?_) (fun h2 => ?_)
      · have h2 := cm_lt.mp h2
        refine z_rcs hc hH 3 (pc' := 31) (lv' := [(0, .ref 9), (1, .int k)]) (st' := [.int 1, .int k, .ref 9]) (μ' := μ) (by rfl) ?_
        refine zq_call hc (z_cx_ok hH (by rfl)) (fc_X3_put d' (by omega) μ k 1) (by decide +kernel) (fun r9 μ9 hq => ?_)
        obtain ⟨rfl, hq⟩ := hq
        obtain ⟨-, rfl⟩ := hq.resolve_right (fun q9 => q9.1 hk)
        show Z 0 34 [(0, .ref 9), (1, .int k)] [] (z_put μ k 1)
        refine z_rcs hc hH 1 (pc' := 35) (lv' := [(0, .ref 9), (1, .int k)]) (st' := [.ref 9]) (μ' := z_put μ k 1) (by rfl) ?_
        refine zq_call hc (z_cx_ok hH (by rfl)) (a_use (i := 3) (K := ak_3) rfl (by omega) [.ref 9] _ (aArg_pre ⟨⟨9, by decide, rfl⟩, trivial⟩ rfl) (a_H_put ha)) (by decide +kernel) (fun r9 μ9 hq => ?_)
        obtain ⟨-, hz, hr9⟩ := hq
        obtain ⟨v9, rfl, x9, rfl, -⟩ := hr9
        rw [a_Fz_nil hz]
        clear hz μ9
        generalize x9 = x9_38
        show Z 0 38 [(0, .ref 9), (1, .int k)] [.int x9_38] (z_put μ k 1)
        refine zq_if hc hH (by rfl) (tg := 55) (by rfl) (fun h3 => ?_) (fun h3 => ?_)
        · have h3 := cm_ne.mp h3
          refine z_rcs hc hH 6 (pc' := 64) (lv' := [(2, .int 1), (0, .ref 9), (1, .int k)]) (st' := [.int 1, .int k, .ref 9]) (μ' := z_put μ k 1) (by rfl) ?_
          refine zq_call hc (z_cx_ok hH (by rfl)) (fc_X3_take d' (by omega) (z_put μ k 1) k 1) (by decide +kernel) (fun r9 μ9 hq => ?_)
          obtain ⟨rfl, hq⟩ := hq
          obtain ⟨-, rfl⟩ := hq.resolve_right (fun q9 => q9.1 hk)
          rw [z_put_back]
          show Z 0 67 [(2, .int 1), (0, .ref 9), (1, .int k)] [] μ
          refine z_rcs hc hH 1 (pc' := 68) (lv' := [(2, .int 1), (0, .ref 9), (1, .int k)]) (st' := [.int 1]) (μ' := μ) (by rfl) ?_
          exact hr 0 68 _ _ _ (some (.int 1)) (by decide +kernel) (z_rx_ok hH (by rfl)) (⟨rfl, _, rfl⟩)
        · have h3 := cn_ne.mp h3
          refine z_rcs hc hH 1 (pc' := 42) (lv' := [(0, .ref 9), (1, .int k)]) (st' := [.ref 9]) (μ' := z_put μ k 1) (by rfl) ?_
          refine zq_call hc (z_cx_ok hH (by rfl)) (a_use (i := 4) (K := ak_4) rfl (by omega) [.ref 9] _ (aArg_pre ⟨⟨9, by decide, rfl⟩, trivial⟩ rfl) (a_H_put ha)) (by decide +kernel) (fun r9 μ9 hq => ?_)
          obtain ⟨-, hz, hr9⟩ := hq
          obtain ⟨v9, rfl, x9, rfl, -⟩ := hr9
          rw [a_Fz_nil hz]
          clear hz μ9
          generalize x9 = x9_45
          show Z 0 45 [(0, .ref 9), (1, .int k)] [.int x9_45] (z_put μ k 1)
          refine zq_if hc hH (by rfl) (tg := 55) (by rfl) (fun h4 => ?_) (fun h4 => ?_)
          · have h4 := cm_ne.mp h4
            refine z_rcs hc hH 6 (pc' := 64) (lv' := [(2, .int 1), (0, .ref 9), (1, .int k)]) (st' := [.int 1, .int k, .ref 9]) (μ' := z_put μ k 1) (by rfl) ?_
            refine zq_call hc (z_cx_ok hH (by rfl)) (fc_X3_take d' (by omega) (z_put μ k 1) k 1) (by decide +kernel) (fun r9 μ9 hq => ?_)
            obtain ⟨rfl, hq⟩ := hq
            obtain ⟨-, rfl⟩ := hq.resolve_right (fun q9 => q9.1 hk)
            rw [z_put_back]
            show Z 0 67 [(2, .int 1), (0, .ref 9), (1, .int k)] [] μ
            refine z_rcs hc hH 1 (pc' := 68) (lv' := [(2, .int 1), (0, .ref 9), (1, .int k)]) (st' := [.int 1]) (μ' := μ) (by rfl) ?_
            exact hr 0 68 _ _ _ (some (.int 1)) (by decide +kernel) (z_rx_ok hH (by rfl)) (⟨rfl, _, rfl⟩)
          · have h4 := cn_ne.mp h4
            refine z_rcs hc hH 1 (pc' := 49) (lv' := [(0, .ref 9), (1, .int k)]) (st' := [.ref 9]) (μ' := z_put μ k 1) (by rfl) ?_
            refine zq_call hc (z_cx_ok hH (by rfl)) (a_use (i := 6) (K := ak_6) rfl (by omega) [.ref 9] _ (aArg_pre ⟨⟨9, by decide, rfl⟩, trivial⟩ rfl) (a_H_put ha)) (by decide +kernel) (fun r9 μ9 hq => ?_)
            obtain ⟨-, hz, hr9⟩ := hq
            obtain ⟨v9, rfl, x9, rfl, -⟩ := hr9
            rw [a_Fz_nil hz]
            clear hz μ9
            generalize x9 = x9_52
            show Z 0 52 [(0, .ref 9), (1, .int k)] [.int x9_52] (z_put μ k 1)
            refine zq_if hc hH (by rfl) (tg := 59) (by rfl) (fun h5 => ?_) (fun h5 => ?_)
            · have h5 := cm_eq9.mp h5
              refine z_rcs hc hH 5 (pc' := 64) (lv' := [(2, .int 0), (0, .ref 9), (1, .int k)]) (st' := [.int 1, .int k, .ref 9]) (μ' := z_put μ k 1) (by rfl) ?_
              refine zq_call hc (z_cx_ok hH (by rfl)) (fc_X3_take d' (by omega) (z_put μ k 1) k 1) (by decide +kernel) (fun r9 μ9 hq => ?_)
              obtain ⟨rfl, hq⟩ := hq
              obtain ⟨-, rfl⟩ := hq.resolve_right (fun q9 => q9.1 hk)
              rw [z_put_back]
              show Z 0 67 [(2, .int 0), (0, .ref 9), (1, .int k)] [] μ
              refine z_rcs hc hH 1 (pc' := 68) (lv' := [(2, .int 0), (0, .ref 9), (1, .int k)]) (st' := [.int 0]) (μ' := μ) (by rfl) ?_
              exact hr 0 68 _ _ _ (some (.int 0)) (by decide +kernel) (z_rx_ok hH (by rfl)) (⟨rfl, _, rfl⟩)
            · have h5 := cn_eq.mp h5
              refine z_rcs hc hH 6 (pc' := 64) (lv' := [(2, .int 1), (0, .ref 9), (1, .int k)]) (st' := [.int 1, .int k, .ref 9]) (μ' := z_put μ k 1) (by rfl) ?_
              refine zq_call hc (z_cx_ok hH (by rfl)) (fc_X3_take d' (by omega) (z_put μ k 1) k 1) (by decide +kernel) (fun r9 μ9 hq => ?_)
              obtain ⟨rfl, hq⟩ := hq
              obtain ⟨-, rfl⟩ := hq.resolve_right (fun q9 => q9.1 hk)
              rw [z_put_back]
              show Z 0 67 [(2, .int 1), (0, .ref 9), (1, .int k)] [] μ
              refine z_rcs hc hH 1 (pc' := 68) (lv' := [(2, .int 1), (0, .ref 9), (1, .int k)]) (st' := [.int 1]) (μ' := μ) (by rfl) ?_
              exact hr 0 68 _ _ _ (some (.int 1)) (by decide +kernel) (z_rx_ok hH (by rfl)) (⟨rfl, _, rfl⟩)
      · have h2 := cn_lt.mp h2
        refine z_rcs hc hH 1 (pc' := 27) (lv' := [(0, .ref 9), (1, .int k)]) (st' := [.int 0]) (μ' := μ) (by rfl) ?_
        exact hr 0 27 _ _ _ (some (.int 0)) (by decide +kernel) (z_rx_ok hH (by rfl)) (⟨rfl, _, rfl⟩)
    · show Z 0 13 [(0, .ref 9), (1, .int k)] [.int 0] μ
      refine z_rcs hc hH 2 (pc' := 27) (lv' := [(0, .ref 9), (1, .int k)]) (st' := [.int 0]) (μ' := μ) (by rfl) ?_
      exact hr 0 27 _ _ _ (some (.int 0)) (by decide +kernel) (z_rx_ok hH (by rfl)) (⟨rfl, _, rfl⟩)
theorem zh_X3_waiting : zH mi_X3_waiting zt_X3_waiting 79 3 4 := hh_X3_waiting
theorem fc_X3_waiting (d : Nat) (hd : 701 ≤ d) (μ : zM) (ha : a_H μ) : z_C d mi_X3_waiting [.ref 9] μ (fun r μ' => μ' = μ ∧ ∃ x, r = some (.long x)) := by
  refine z_C_in (by decide) (by omega) (fun d' Z ed hc hr => ?_)
  have hH := zh_X3_waiting
  have lp : ∀ (n i : Nat), i + n = 34 → ∀ (y : Int64), Z 0 4 [(3, .int (nI i)), (1, .long y), (0, .ref 9)] [] μ := by
    intro n
    induction n with
    | zero =>
      intro i hi y
      have hi : i = 34 := by omega
      subst hi
      refine z_rcs hc hH 2 (pc' := 7) (lv' := [(3, .int (nI 34)), (1, .long y), (0, .ref 9)]) (st' := [.int 34, .int (nI 34)]) (μ' := μ) (by rfl) ?_
      refine zq_ic hc hH (by rfl) (tg := 30) (by rfl) (fun _ => ?_) (fun h9 => (zb_t (ge_nIt (n := 34) (i := 34) (by decide) (by decide)) h9).elim)
      refine z_rcs hc hH 1 (pc' := 31) (lv' := [(3, .int (nI 34)), (1, .long y), (0, .ref 9)]) (st' := [.long y]) (μ' := μ) (by rfl) ?_
      exact hr 0 31 _ _ _ (some (.long y)) (by decide +kernel) (z_rx_ok hH (by rfl)) (⟨rfl, _, rfl⟩)
    | succ n ih =>
      intro i hi y
      refine z_rcs hc hH 2 (pc' := 7) (lv' := [(3, .int (nI i)), (1, .long y), (0, .ref 9)]) (st' := [.int 34, .int (nI i)]) (μ' := μ) (by rfl) ?_
      refine zq_ic hc hH (by rfl) (tg := 30) (by rfl) (fun h9 => (zb_t h9 (ge_nI (n := 34) (i := i) (by omega) (by decide))).elim) (fun _ => ?_)
      refine z_rcs hc hH 2 (pc' := 12) (lv' := [(3, .int (nI i)), (1, .long y), (0, .ref 9)]) (st' := [.int (nI i), .ref 9]) (μ' := μ) (by rfl) ?_
      refine zq_call hc (z_cx_ok hH (by rfl)) (fc_X3_waitsFor d' (by omega) μ (nI i) ha) (by decide +kernel) (fun r9 μ9 hq => ?_)
      obtain ⟨hz, x9, rfl⟩ := hq
      rw [hz]
      clear hz μ9
      show Z 0 15 [(3, .int (nI i)), (1, .long y), (0, .ref 9)] [.int x9] μ
      refine zq_if hc hH (by rfl) (tg := 24) (by rfl) (fun h1 => ?_) (fun h1 => ?_)
      · have h1 := cm_eq9.mp h1
        refine z_rcs hc hH 2 (pc' := 4) (lv' := [(3, .int ((nI i) + 1)), (1, .long y), (0, .ref 9)]) (st' := []) (μ' := μ) (by rfl) ?_
        have q := ih (i + 1) (by omega)
        rw [nI_1]
        exact q _
      · have h1 := cn_eq.mp h1
        refine z_rcs hc hH 8 (pc' := 4) (lv' := [(3, .int ((nI i) + 1)), (1, .long (y ||| (1 <<< ((nI i).toInt64 &&& 63)))), (0, .ref 9)]) (st' := []) (μ' := μ) (by rfl) ?_
        have q := ih (i + 1) (by omega)
        rw [nI_1]
        exact q _
  refine z_rcs hc hH 4 (pc' := 4) (lv' := [(3, .int 0), (1, .long 0), (0, .ref 9)]) (st' := []) (μ' := μ) (by rfl) ?_
  exact lp 34 0 rfl _
theorem zh_X6_deskWaits : zH mi_X6_deskWaits zt_X6_deskWaits 79 6 1 := hh_X6_deskWaits
theorem fc_X6_deskWaits (d : Nat) (hd : 702 ≤ d) (μ : zM) (ha : a_H μ) : z_C d mi_X6_deskWaits [.ref 0] μ (fun r μ' => μ' = μ ∧ ∃ x, r = some (.long x)) := by
  refine z_C_in (by decide) (by omega) (fun d' Z ed hc hr => ?_)
  have hH := zh_X6_deskWaits
  refine z_rcs hc hH 2 (pc' := 4) (lv' := [(0, .ref 0)]) (st' := [.ref 9]) (μ' := μ) (by rfl) ?_
  refine zq_call hc (z_cx_ok hH (by rfl)) (fc_X3_waiting d' (by omega) μ ha) (by decide +kernel) (fun r9 μ9 hq => ?_)
  obtain ⟨hz, x9, rfl⟩ := hq
  rw [hz]
  clear hz μ9
  show Z 0 7 [(0, .ref 0)] [.long x9] μ
  exact hr 0 7 _ _ _ (some (.long x9)) (by decide +kernel) (z_rx_ok hH (by rfl)) (⟨rfl, _, rfl⟩)
