/-! seven PAIRS, thirteen: both sides alike; an offer with a FORM is above nothing -/
set_option maxRecDepth 8000
theorem fm_7 (tg tf tt to : Int64) (dr e8 e24 e26 e29 e37 e38 e39 e40 : Bool) : ((((((tg ||| tf) ||| tt) ||| to) ||| lb dr 3) ||| (((((((lb e8 8 ||| lb e24 24) ||| lb e26 26) ||| lb e29 29) ||| lb e37 37) ||| lb e38 38) ||| lb e39 39) ||| lb e40 40)) ||| lb true 16) = ((((((0 : Int64) ||| lb e37 37) ||| lb e38 38) ||| lb e39 39) ||| lb e40 40) ||| tg) ||| ((((((((lb true 16 ||| lb e8 8) ||| lb e24 24) ||| lb e26 26) ||| lb e29 29) ||| tf) ||| tt) ||| to) ||| lb dr 3) := by
  simp only [Int64.zero_or]
  ac_rfl
theorem val_eqG {μ : zM} {op : Bool} {F : Int64} {fu dear : Int32} (eG : fO (nB op) F &&& 17587891077120 = cpG μ) (h0 : ¬ cpG μ = 0) (hf : μ.1 50 23 = fu) : vO (nB op) dear F fu = cOf μ op := by
  unfold vO cOf
  rw [eG, show decide (lg_cmp (cpG μ) 0 = 0) = false from decide_eq_false (fun z => h0 (lg_c0.mp z)), cond_false, cond_false]
  have e := great_eq (fO (nB op) F)
  rw [eG] at e
  rw [e, hf, Int32.mul_comm 13]
theorem v7_eq {q : Nat} {κC : zM} {κM : zM} {kk : Nat} {dear : Int32} {dr : Bool} {op : Bool} {a : Nat} {b : Nat} (k : KK κC κM q kk dear dr op a b) {told : Int64} {bb : Nat → Bool} (t : TTw κC κM q told bb) (ho : op = false) : (vO (κC.1 14 8) (κC.1 14 11) (κC.2.1 14 12 ||| 65536) 25).2.2.2 = (vP κM q).2.2.2 ∧ (¬ (vO (κC.1 14 8) (κC.1 14 11) (κC.2.1 14 12 ||| 65536) 25).2.2.2 = 0 → vO (κC.1 14 8) (κC.1 14 11) (κC.2.1 14 12 ||| 65536) 25 = vP κM q) := by
  unfold vP
  rw [k.c8, k.c11, t.tf, t.sh, TO_eq κC told dr k.c7, TF_eq, X0_f, show (65536 : Int64) = lb true 16 from rfl]
  subst ho
  have eG := cpG_eq κM (tlG κM 0 (tN bb 34)) (tlP κM (lb true 16) (tN bb 34)) 25 _ t.tm
  have eP := cpP_f κM (tlG κM 0 (tN bb 34)) (tlP κM (lb true 16) (tN bb 34)) 25 _ dr t.tm k.m11
  rw [tlG_eq, tlP_eq] at eG
  rw [tlG_eq, tlP_eq] at eP
  refine val_eq ?_ ?_ ?_ rfl k.m10
  · rw [tlG_eq, tlP_eq, eG, eP]
    show fO 0 _ = _
    unfold fO
    rw [show decide ((0 : Int32) = 0) = true from rfl, cond_true]
    exact fm_7 _ _ _ _ _ _ _ _ _ _ _ _ _
  · rw [tlG_eq, tlP_eq, eG]
    have z : tGr (told &&& 13194139533559) &&& 17587891077120 = tGr (told &&& 13194139533559) := by
      show (_ &&& (lb true 42 ||| lb true 43)) &&& _ = _
      rw [Int64.and_assoc]
      rfl
    simp only [or_and9, z, lg_37, lg_38, lg_39, lg_40, show (0 : Int64) &&& 17587891077120 = 0 from rfl]
  · rw [tlG_eq, tlP_eq, eP]
    simp only [or_and9, tFo_g, tTw_g, tOn_g, lg_3, lg_8, lg_16, lg_24, lg_26, lg_29, Int64.or_zero]
theorem v13_eq {q : Nat} {κC : zM} {κM : zM} {kk : Nat} {dear : Int32} {dr : Bool} {op : Bool} {a : Nat} {b : Nat} (k : KK κC κM q kk dear dr op a b) {told : Int64} {bb : Nat → Bool} (t : TTw κC κM q told bb) (ho : op = false) (hw : ∀ j, j < 34 → bb j = eN j) : ¬ (vO (κC.1 14 8) (κC.1 14 11) (κC.2.1 14 12 ||| 4294967296) 30).2.2.2 = 0 ∧ vO (κC.1 14 8) (κC.1 14 11) (κC.2.1 14 12 ||| 4294967296) 30 = vT κM := by
  have tn : tN bb 34 = tN eN 34 := by
    have : ∀ f : Nat → Bool, an (fun k => bb k && f k) 34 = an (fun k => eN k && f k) 34 := fun f => by
      rw [Bool.eq_iff_iff, an_iff, an_iff]
      exact ⟨fun ⟨j, h1, h2⟩ => ⟨j, h1, by rw [← hw j h1]; exact h2⟩, fun ⟨j, h1, h2⟩ => ⟨j, h1, by rw [hw j h1]; exact h2⟩⟩
    unfold tN
    rw [this, this, this, this, this, this, this, this, this]
  have e37 : (tN eN 34).2.2.1 = false := by decide +kernel
  have e38 : (tN eN 34).2.2.2.2.1 = false := by decide +kernel
  have e39 : (tN eN 34).2.2.2.2.2.1 = false := by decide +kernel
  have e40 : n40 κM (tN eN 34) = false := n40_0 _ _ (by decide +kernel)
  have eG := cpG_eq κM (lb true 32) 0 30 _ t.tm
  have z : tGr (told &&& 13194139533559) &&& 17587891077120 = tGr (told &&& 13194139533559) := by
    show (_ &&& (lb true 42 ||| lb true 43)) &&& _ = _
    rw [Int64.and_assoc]
    rfl
  have eF : fO (nB op) (κC.2.1 14 12 ||| 4294967296) &&& 17587891077120 = cpG (mGP κM (lb true 32) 0 30) := by
    rw [eG, t.sh, TO_eq κC told dr k.c7, TF_eq, tn, e37, e38, e39, e40, X0_f, show (4294967296 : Int64) = lb true 32 from rfl]
    subst ho
    show fO 0 _ &&& _ = _
    unfold fO
    rw [show decide ((0 : Int32) = 0) = true from rfl, cond_true]
    simp only [or_and9, z, tFo_g, tTw_g, tOn_g, lg_3, lg_8, lg_24, lg_26, lg_29, lg_32, lb_f, show (0 : Int64) &&& 17587891077120 = 0 from rfl, Int64.or_zero]
    exact Int64.or_comm _ _
  have n0 : ¬ cpG (mGP κM (lb true 32) 0 30) = 0 := fun y => by
    have : (cpG (mGP κM (lb true 32) 0 30)).toBitVec.getLsbD 32 = true := by
      rw [eG, Int64.toBitVec_or, BitVec.getLsbD_or, lb_bit true 32 32 rfl (by decide)]; rfl
    rw [y] at this
    exact absurd this (by decide)
  have ev : vO (κC.1 14 8) (κC.1 14 11) (κC.2.1 14 12 ||| 4294967296) 30 = vT κM := by
    unfold vT
    rw [k.c8]
    exact (val_eqG (fu := 30) eF n0 rfl).trans (by rw [ho])
  refine ⟨?_, ev⟩
  rw [ev]
  unfold vT cOf
  subst ho
  rw [show decide (lg_cmp (cpG (mGP κM (lb true 32) 0 30)) 0 = 0) = false from decide_eq_false (fun y => n0 (lg_c0.mp y)), cond_false]
  exact n0
/-- nothing is 0; a FORM is above 0 -/
theorem vO_z {op dear fu : Int32} {F : Int64} (h : (vO op dear F fu).2.2.2 = 0) : (vO op dear F fu).1 = 0 ∧ (vO op dear F fu).2.1 = 0 := by
  unfold vO at h ⊢
  cases c : decide (lg_cmp (fO op F &&& 17587891077120) 0 = 0)
  · rw [c, cond_false] at h
    exact absurd (lg_c0.mpr h) (of_decide_eq_false c)
  · rw [c, cond_true] at h
    rw [cond_true]
    cases d : decide (lg_cmp (fO op F) 0 = 0)
    · rw [d, cond_false] at h
      exact absurd (lg_c0.mpr h) (of_decide_eq_false d)
    · exact ⟨rfl, rfl⟩
def bN (lo hi : Nat) (x : Int32) : Prop := ∃ n, lo ≤ n ∧ n ≤ hi ∧ x = nI n
theorem bN.add {a b c d : Nat} {x y : Int32} (h1 : bN a b x) (h2 : bN c d y) : bN (a + c) (b + d) (x + y) := by
  obtain ⟨n, n1, n2, rfl⟩ := h1
  obtain ⟨m, m1, m2, rfl⟩ := h2
  exact ⟨n + m, by omega, by omega, nI_add n m⟩
theorem han_b : ∀ i, i < 30 → ((z_ro z_x0 101).2 i).toInt ≤ 6 ∧ 0 ≤ ((z_ro z_x0 101).2 i).toInt ∧ ((z_ro z_x0 102).2 i).toInt ≤ 6 ∧ 0 ≤ ((z_ro z_x0 102).2 i).toInt := by decide +kernel
theorem bN_i {x : Int32} {h : Nat} (h1 : 0 ≤ x.toInt) (h2 : x.toInt ≤ h) (h3 : h < 2 ^ 31) : bN 0 h x := by
  refine ⟨x.toInt.toNat, by omega, by omega, ?_⟩
  rw [← Int32.toInt_inj, nI_toInt (by omega)]
  omega
theorem hnc_b (f : Int64) (op : Int32) : ∀ i, i ≤ 30 → bN 0 (6 * i) (hnc f op i) := by
  intro i
  induction i with
  | zero => intro _; exact ⟨0, by omega, by omega, rfl⟩
  | succ i ih =>
    intro hi
    have i1 := ih (by omega)
    have hb9 := han_b i (by omega)
    show bN 0 _ (bif hb f i then hnc f op i else hnc f op i + (bif decide (op = 0) then (z_ro z_x0 101).2 i else (z_ro z_x0 102).2 i))
    cases hb f i
    · cases decide (op = 0)
      · obtain ⟨n, n1, n2, n3⟩ := i1.add (bN_i hb9.2.2.2 hb9.2.2.1 (by decide)); exact ⟨n, n1, by omega, n3⟩
      · obtain ⟨n, n1, n2, n3⟩ := i1.add (bN_i hb9.2.1 hb9.1 (by decide)); exact ⟨n, n1, by omega, n3⟩
    · obtain ⟨n, n1, n2, n3⟩ := i1; exact ⟨n, n1, by omega, n3⟩
theorem sh_pos : ∀ n, n < 300 → 0 < n → ∀ j, j < 5 → 0 < nI n <<< ((2 + nI j) &&& 31) := by decide +kernel
theorem baC_pos {n j : Nat} (h1 : 0 < n) (h2 : n < 300) (hj : j < 1000) : 0 < baC (nI n) (nI j) := by
  unfold baC
  by_cases c : j < 5
  · rw [show decide (4 < nI j) = false from by have : ∀ j, j < 5 → decide (4 < nI j) = false := by decide +kernel
                                               exact this j c, cond_false]
    cases d : decide (2000 ≤ nI n <<< ((2 + nI j) &&& 31))
    · exact sh_pos n h2 h1 j c
    · show (0 : Int32) < 2000; decide
  · rw [show decide (4 < nI j) = true from by have : ∀ j, j < 1000 → 5 ≤ j → decide (4 < nI j) = true := by decide +kernel
                                              exact this j hj (by omega), cond_true]
    cases decide (nI j = 5) <;> cases decide (7 < nI j) <;> cases decide (10 < nI j) <;> cases decide (12 < nI j) <;> decide
theorem gpos : ∀ b0 b1 b2 b3 b4 b5 b6 b7 b8 b9 ba bb : Bool, (b0 || (b1 || (b2 || (b3 || (b4 || (b5 || (b6 || (b7 || (b8 || (b9 || (ba || bb))))))))))) = true → 0 < 8000 * ((((((((((((0 + nB b0) + nB b1) + nB b2) + nB b3) + nB b4) + nB b5) + nB b6) + nB b7) + nB b8) + nB b9) + nB ba) + nB bb) := by decide +kernel
theorem vO_p {op dear : Int32} {F : Int64} {n m : Nat} (h1 : 0 < n) (h2 : n < 300) (hd : dear = nI m) (hm : m < 64) (h : ¬ (vO op dear F (nI n)).2.2.2 = 0) : 0 < (vO op dear F (nI n)).1 := by
  unfold vO at h ⊢
  cases c : decide (lg_cmp (fO op F &&& 17587891077120) 0 = 0)
  · rw [c, cond_false] at h
    rw [cond_false]
    have h : ¬ fO op F &&& 17587891077120 = 0 := h
    show 0 < 8000 * xBc (fO op F &&& 17587891077120)
    generalize fO op F = x at h
    have e : x &&& 17587891077120 = orl [(x.toBitVec.getLsbD 32, 32), (x.toBitVec.getLsbD 33, 33), (x.toBitVec.getLsbD 34, 34), (x.toBitVec.getLsbD 35, 35), (x.toBitVec.getLsbD 36, 36), (x.toBitVec.getLsbD 37, 37), (x.toBitVec.getLsbD 38, 38), (x.toBitVec.getLsbD 39, 39), (x.toBitVec.getLsbD 40, 40), (x.toBitVec.getLsbD 41, 41), (x.toBitVec.getLsbD 42, 42), (x.toBitVec.getLsbD 43, 43)] :=
      mask_orl x 17587891077120 [32, 33, 34, 35, 36, 37, 38, 39, 40, 41, 42, 43] (by decide) (by decide +kernel)
    rw [e, gcnt]
    rw [e] at h
    refine gpos _ _ _ _ _ _ _ _ _ _ _ _ ?_
    generalize x.toBitVec.getLsbD 32 = c0 at h ⊢
    generalize x.toBitVec.getLsbD 33 = c1 at h ⊢
    generalize x.toBitVec.getLsbD 34 = c2 at h ⊢
    generalize x.toBitVec.getLsbD 35 = c3 at h ⊢
    generalize x.toBitVec.getLsbD 36 = c4 at h ⊢
    generalize x.toBitVec.getLsbD 37 = c5 at h ⊢
    generalize x.toBitVec.getLsbD 38 = c6 at h ⊢
    generalize x.toBitVec.getLsbD 39 = c7 at h ⊢
    generalize x.toBitVec.getLsbD 40 = c8 at h ⊢
    generalize x.toBitVec.getLsbD 41 = c9 at h ⊢
    generalize x.toBitVec.getLsbD 42 = ca at h ⊢
    generalize x.toBitVec.getLsbD 43 = cb at h ⊢
    apply Classical.byContradiction
    intro z
    simp only [Bool.or_eq_true, not_or, Bool.not_eq_true] at z
    obtain ⟨rfl, rfl, rfl, rfl, rfl, rfl, rfl, rfl, rfl, rfl, rfl, rfl⟩ := z
    exact h (by decide +kernel)
  · rw [c, cond_true] at h
    rw [cond_true]
    cases d : decide (lg_cmp (fO op F) 0 = 0)
    · rw [cond_false]
      obtain ⟨j, j1, j2, j3⟩ := hnc_b (fO op F) op 30 (by omega)
      show 0 < baC (nI n) (hnc (fO op F) op 30 + dear)
      rw [j3, hd, nI_add]
      exact baC_pos h1 h2 (by omega)
    · rw [d, cond_true] at h
      exact absurd (lg_c0.mp (of_decide_eq_true d)) h
theorem rnd : ∀ n, n < 290 → ((nI n + 9) / 10) * 10 = nI ((n + 9) / 10 * 10) := by decide +kernel
theorem Tm_b (b : Bool) (so lo : Int32) : bN 0 32 (Tm b so lo) := by
  unfold Tm
  cases decide (so = 0) <;> cases decide (so = 1) <;> cases b <;> cases xEn lo
  · exact ⟨8, by omega, by omega, rfl⟩
  · exact ⟨16, by omega, by omega, rfl⟩
  · exact ⟨16, by omega, by omega, rfl⟩
  · exact ⟨32, by omega, by omega, rfl⟩
  · exact ⟨2, by omega, by omega, rfl⟩
  · exact ⟨4, by omega, by omega, rfl⟩
  · exact ⟨4, by omega, by omega, rfl⟩
  · exact ⟨8, by omega, by omega, rfl⟩
  all_goals exact ⟨0, by omega, by omega, rfl⟩
