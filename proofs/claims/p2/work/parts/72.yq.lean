/-! what the desk is worth is the same to both -/
set_option maxRecDepth 8000
theorem WY.fub {q : Nat} {p : Nat} {co : Nat} {s : Nat → Nat} {l : Nat → Nat} (h : WY q p co s l) {κC : zM} {κM : zM} {kk : Nat} {dear : Int32} {dr : Bool} {op : Bool} {a : Nat} {b : Nat} (k : KK κC κM q kk dear dr op a b) (hm : mc (nI kk) q p s l co = true) (fl b0 b1 b2 b3 : Bool) : ∃ n, 0 < n ∧ n < 300 ∧ fuC (cM κC s l (nI p)) fl (xWf (cM κC s l (nI p)) co) b0 b1 b2 b3 = nI n := by
  have hw := h.wf k hm
  have bw : bN 0 2 (xWf (cM κC s l (nI p)) co) := by
    rw [hw]
    cases decide (nI co = 4) <;> cases w92_6 (yM κM s l (nI p) (nI co)) q s l <;> cases w184_8 (yM κM s l (nI p) (nI co)) q s l
    · exact ⟨0, by omega, by omega, rfl⟩
    · exact ⟨0, by omega, by omega, rfl⟩
    · exact ⟨2, by omega, by omega, rfl⟩
    · exact ⟨0, by omega, by omega, rfl⟩
    all_goals exact ⟨2, by omega, by omega, rfl⟩
  have b2' : ∀ c : Bool, bN 0 2 (bif c then (2 : Int32) else 0) := fun c => by cases c; exact ⟨0, by omega, by omega, rfl⟩; exact ⟨2, by omega, by omega, rfl⟩
  have bp : bN 0 6 (xPf (cM κC s l (nI p))) := by rw [h.pf k]; exact ((b2' _).add (b2' _)).add (b2' _)
  generalize xWf (cM κC s l (nI p)) co = wf at bw
  unfold fuC fuE fuS
  generalize xPf (cM κC s l (nI p)) = pf at bp
  rw [show (cM κC s l (nI p)).1 14 8 = nB op from k.c8, show (cM κC s l (nI p)).1 14 7 = nB dr from k.c7, show (cM κC s l (nI p)).1 15 0 = nI (s 0) from rfl, show (cM κC s l (nI p)).1 15 1 = nI (s 1) from rfl, show (cM κC s l (nI p)).1 15 2 = nI (s 2) from rfl, show (cM κC s l (nI p)).1 15 3 = nI (s 3) from rfl, show (cM κC s l (nI p)).1 16 0 = nI (l 0) from rfl, show (cM κC s l (nI p)).1 16 1 = nI (l 1) from rfl, show (cM κC s l (nI p)).1 16 2 = nI (l 2) from rfl, show (cM κC s l (nI p)).1 16 3 = nI (l 3) from rfl]
  rw [fuI_T b0 _ (s 0) (l 0) _ (h.sl 0 (by omega)).2.1 rfl, fuI_T b1 _ (s 1) (l 1) _ (h.sl 1 (by omega)).2.1 rfl, fuI_T b2 _ (s 2) (l 2) _ (h.sl 2 (by omega)).2.1 rfl, fuI_T b3 _ (s 3) (l 3) _ (h.sl 3 (by omega)).2.1 rfl]
  have bA : bN 0 10 (bif decide (nB dr = 0) then bif decide (nB op = 0) then (10 : Int32) else (0 : Int32) else (0 : Int32)) := by
    cases dr <;> cases op
    · exact ⟨10, by omega, by omega, rfl⟩
    all_goals exact ⟨0, by omega, by omega, rfl⟩
  have bB : bN 0 2 (bif decide (nB dr = 0) then (0 : Int32) else bif fl then (0 : Int32) else (2 : Int32)) := by
    cases dr <;> cases fl
    · exact ⟨0, by omega, by omega, rfl⟩
    · exact ⟨0, by omega, by omega, rfl⟩
    · exact ⟨2, by omega, by omega, rfl⟩
    · exact ⟨0, by omega, by omega, rfl⟩
  have b20 : bN 20 20 (20 : Int32) := ⟨20, by omega, by omega, rfl⟩
  obtain ⟨n, n1, n2, n3⟩ := (((((((b20.add bp).add bw).add bA).add bB).add (Tm_b (!(decide (nI (s 0) = 0)) && b0) (nI (s 0)) (nI (l 0)))).add (Tm_b (!(decide (nI (s 1) = 0)) && b1) (nI (s 1)) (nI (l 1)))).add (Tm_b (!(decide (nI (s 2) = 0)) && b2) (nI (s 2)) (nI (l 2)))).add (Tm_b (!(decide (nI (s 3) = 0)) && b3) (nI (s 3)) (nI (l 3)))
  rw [n3, rnd n (by omega)]
  cases op
  · exact ⟨_, by omega, by omega, rfl⟩
  · show ∃ n', _ ∧ _ ∧ (if (30 : Int32) < nI ((n + 9) / 10 * 10) then nI ((n + 9) / 10 * 10) else 30) = nI n'
    split
    · exact ⟨_, by omega, by omega, rfl⟩
    · exact ⟨30, by omega, by omega, rfl⟩
/-- a hand's SETS are a way -/
theorem flt_WY {t r : Nat → Nat} {q p co : Nat} {sL lL : Nat → Nat} (hq : q ≤ 4) (hp : p < 34) (hc : co < 5) (hqc : q ≤ co) (hr : ∀ k, r k ≠ 0 → rs k) (hL : ∀ j, j < q → sL j ≤ 3 ∧ lL j < 34 ∧ (sL j = 0 → rs (lL j))) (hl : q + (flt t r 34 0).length = 4) : WY q p co (sA q sL (flt t r 34 0)) (lA q lL (flt t r 34 0)) := by
  have hm : ∀ n, n ≤ 34 → ∀ x ∈ flt t r n 0, x.1 ≤ 1 ∧ x.2 < 34 ∧ (x.1 = 0 → rs x.2) := by
    intro n
    induction n with
    | zero => intro _ x hx; exact absurd hx List.not_mem_nil
    | succ n ih =>
      intro hn x hx
      rw [flt_snoc, List.mem_append, List.mem_append, Nat.zero_add] at hx
      rcases hx with hx | hx | hx
      · exact ih (by omega) x hx
      · rw [(List.mem_replicate.mp hx).2]; exact ⟨by show 1 ≤ 1; omega, by show n < 34; omega, fun z => absurd z (by show ¬ 1 = 0; omega)⟩
      · rw [(List.mem_replicate.mp hx).2]; exact ⟨by show 0 ≤ 1; omega, by show n < 34; omega, fun _ => hr n (List.mem_replicate.mp hx).1⟩
  have hs : ∀ j, q ≤ j → j < 4 → sA q sL (flt t r 34 0) j ≤ 1 ∧ lA q lL (flt t r 34 0) j < 34 ∧ (sA q sL (flt t r 34 0) j = 0 → rs (lA q lL (flt t r 34 0) j)) := fun j h1 h2 => by
    unfold sA lA
    rw [if_neg (by omega), if_neg (by omega), List.getD_eq_getElem?_getD, List.getElem?_eq_getElem (show j - q < (flt t r 34 0).length by omega), Option.getD_some]
    exact hm 34 (by omega) _ (List.getElem_mem _)
  refine ⟨hq, hp, hc, hqc, fun j hj => ?_, fun j h1 h2 => (hs j h1 h2).1⟩
  by_cases c : j < q
  · have := hL j c
    unfold sA lA
    rw [if_pos c, if_pos c]; exact this
  · have := hs j (by omega) hj; exact ⟨by omega, this.2⟩
theorem and_n (x : Int32) (m : Nat) (hm : m < 2 ^ 31) : ∃ u, u ≤ m ∧ x &&& nI m = nI u := by
  refine ⟨(x.toBitVec.toNat &&& m), Nat.and_le_right, ?_⟩
  have h1 : x.toBitVec.toNat &&& m ≤ m := Nat.and_le_right
  rw [← Int32.toBitVec_inj, Int32.toBitVec_and]
  apply BitVec.eq_of_toNat_eq
  rw [BitVec.toNat_and]
  show x.toBitVec.toNat &&& (BitVec.ofNat 32 m).toNat = (BitVec.ofNat 32 (x.toBitVec.toNat &&& m)).toNat
  rw [BitVec.toNat_ofNat, BitVec.toNat_ofNat, Nat.mod_eq_of_lt (by omega), Nat.mod_eq_of_lt (by omega)]
theorem sh3 (x : Int32) : ((x >>> (2 &&& 31)) &&& 3) = ((x.toUInt32 >>> ((2 : Int32).toUInt32 &&& Int32.toUInt32 31)).toInt32 &&& 3) := by
  rw [← Int32.toBitVec_inj, Int32.toBitVec_and, Int32.toBitVec_and]
  apply BitVec.eq_of_getLsbD_eq
  intro i hi
  rw [BitVec.getLsbD_and, BitVec.getLsbD_and]
  have h3 : ∀ i, i < 32 → (3 : Int32).toBitVec.getLsbD i = decide (i < 2) := by decide +kernel
  rw [h3 i hi]
  by_cases c : i < 2
  · rw [decide_eq_true c, Bool.and_true, Bool.and_true]
    have e1 : (x >>> (2 &&& 31)).toBitVec = x.toBitVec.sshiftRight 2 := by
      rw [Int32.toBitVec_shiftRight]
      show x.toBitVec.sshiftRight' (((2 : Int32) &&& 31).toBitVec.smod 32) = _
      rw [show (((2 : Int32) &&& 31).toBitVec.smod 32) = BitVec.ofNat 32 2 from by decide +kernel, BitVec.sshiftRight_eq']
      rfl
    have e2 : ((x.toUInt32 >>> ((2 : Int32).toUInt32 &&& Int32.toUInt32 31)).toInt32).toBitVec = x.toBitVec >>> 2 := by
      show (x.toUInt32 >>> ((2 : Int32).toUInt32 &&& Int32.toUInt32 31)).toBitVec = _
      rw [UInt32.toBitVec_shiftRight]
      show x.toBitVec >>> (((2 : Int32).toUInt32 &&& Int32.toUInt32 31).toBitVec % 32) = _
      rw [show (((2 : Int32).toUInt32 &&& Int32.toUInt32 31).toBitVec % 32) = BitVec.ofNat 32 2 from by decide +kernel, BitVec.ushiftRight_eq']
      rfl
    rw [e1, e2, BitVec.getLsbD_sshiftRight, BitVec.getLsbD_ushiftRight, if_pos (by omega)]
    simp; omega
  · rw [decide_eq_false c, Bool.and_false, Bool.and_false]
theorem xOr_xOp (κC κM : zM) (sL : Nat → Nat) : ∀ q, (∀ j, j < q → κC.1 12 j = nI (sL j)) → (∀ j, j < q → κM.1 52 j = nI (sL j)) → xOp κM q = xOr (κC.1 12) q := by
  intro q
  induction q with
  | zero => intro _ _; rfl
  | succ q ih =>
    intro h1 h2
    show (xOp κM q || !decide (κM.1 52 q = 3)) = (xOr (κC.1 12) q || !decide (κC.1 12 q = 3))
    rw [ih (fun j hj => h1 j (by omega)) (fun j hj => h2 j (by omega)), h1 q (by omega), h2 q (by omega)]
/-- both judges find the same -/
theorem both {κC κM μ' : zM} {w aw : Nat → Nat} {q kk : Nat} {sL lL : Nat → Nat} {dr : Bool} {told : Int64} {wi de : Int32} {b : Q4} (hq : q ≤ 4) (hk : kk < 34) (h14 : sn w 34 + 3 * q = 14) (hL : ∀ j, j < q → sL j ≤ 3 ∧ lL j < 34 ∧ (sL j = 0 → rs (lL j))) (haw : ∀ i, i < 34 → ofv (κM.1 58 i) (κM.1 52) (κM.1 53) (nI i) q = nI (aw i) ∧ aw i < 100) (aw0 : q = 0 → ∀ k, k < 34 → aw k = w k) (hC : KC κC w aw q sL lL (nI kk) dr told (27 + (wi &&& 3)) (rw9 wi) (de &&& 63)) (hM : KM κM w q sL lL (nI kk) dr (told &&& tlm) (wi &&& 3) ((wi >>> (2 &&& 31)) &&& 3) (de &&& 63)) (hI : CI (SCl κC w q sL lL 34) 5000 μ') (hB : BS (SR κM w q sL lL) (0, 0, 0, 0) b) : (bqC μ').1 = b.1 ∧ (bqC μ').2.1 = b.2.1 ∧ (bqC μ').2.2.2 = b.2.2.2 := by
  obtain ⟨u, hu, eu⟩ := and_n wi 3 (by decide)
  obtain ⟨v, hv, ev⟩ := and_n (wi >>> (2 &&& 31)) 3 (by decide)
  obtain ⟨m, hm, em⟩ := and_n de 63 (by decide)
  have eu : wi &&& 3 = nI u := eu
  have ev : (wi >>> (2 &&& 31)) &&& 3 = nI v := ev
  have em : de &&& 63 = nI m := em
  have n27 : ∀ x, (27 : Int32) + nI x = nI (27 + x) := fun x => nI_add 27 x
  have k : KK κC κM q kk (de &&& 63) dr (xOr (κC.1 12) q) (27 + u) (27 + v) := ⟨hC.d4, hC.c6, hC.c7, hC.c8, (by rw [hC.c9, eu, n27]), (by rw [hC.c10]; show 27 + _ = _; rw [← sh3, ev, n27]), hC.c11, hM.c4, hM.c7, (by rw [hM.c8, eu, n27]), (by rw [hM.c9, ev, n27]), hM.c10, hM.c11, xOr_xOp κC κM sL q (fun j hj => (hC.r12 j hj).1) (fun j hj => (hM.r52 j hj).1), (by omega), (by omega), hk⟩
  have t : TTw κC κM q told (fun k => decide (0 < aw k)) := ⟨(by rw [hC.t12, NG_eq κC κM q hq w aw hC.d4 hM.c4 hC.r10 hM.r58 aw0]), (by rw [hM.t12, tlm_c]), (tF_N κM q (fun k => decide (0 < aw k)) (fun i hi => by
      rw [(haw i hi).1]
      have := (haw i hi).2
      show decide (nI (aw i) = 0) = !decide (0 < aw i)
      by_cases c : 0 < aw i
      · rw [decide_eq_true c, decide_eq_false (fun z => by have := (nI_eq (show aw i < 2 ^ 31 by omega) (show 0 < 2 ^ 31 by decide)).mp z; omega)]; rfl
      · rw [decide_eq_false c, show aw i = 0 by omega]; rfl) 34 0 (by omega))⟩
  -- a way
  have way : ∀ (p : Nat), p < 34 → ∀ t9 r9 : Nat → Nat, PW (sb2 w p) t9 r9 → sn (fun k => t9 k + r9 k) 34 = 4 - q → ∀ co, q ≤ co → co < 5 → WY q p co (sA q sL (flt t9 r9 34 0)) (lA q lL (flt t9 r9 34 0)) := fun p hp t9 r9 h1 h2 co h3 h4 => flt_WY hq hp h4 h3 h1.1 hL (by rw [flt_len]; omega)
  have eS : ∀ x, SR κM w q sL lL x ↔ (SCl κC w q sL lL 34 x ∧ ¬ x.2.2.2 = 0) := by
    intro x
    have opq : q = 0 → xOr (κC.1 12) q = false := fun z => by rw [z]; rfl
    have d50 : q = 0 → κC.1 9 4 = 0 ∧ κC.1 9 5 = 14 := fun z => ⟨by rw [hC.d4, z]; rfl, by rw [hC.d5, show sn w 34 = 14 by omega]; rfl⟩
    have q0 : κC.1 9 4 = 0 → q = 0 := fun z => by rw [hC.d4] at z; exact (nI_eq (by omega) (by decide)).mp z
    have f7 : S7 κM w q x ↔ (S7c κC w x ∧ ¬ x.2.2.2 = 0) := by
      constructor
      · rintro ⟨⟨z0, z7⟩, e, n0⟩
        have v := v7_eq k t (opq z0)
        refine ⟨⟨⟨(f7_iff (by omega)).mpr z7, d50 z0⟩, ?_⟩, n0⟩
        rw [e] at n0
        rw [e, v.2 (by rw [v.1]; exact n0)]
      · rintro ⟨⟨⟨z7, z4, z5⟩, e⟩, n0⟩
        have z0 := q0 z4
        have v := v7_eq k t (opq z0)
        refine ⟨⟨z0, (f7_iff (by omega)).mp z7⟩, ?_, n0⟩
        rw [e] at n0
        rw [e, v.2 n0]
    have f13 : S13 κM w q x ↔ (S13c κC w x ∧ ¬ x.2.2.2 = 0) := by
      have hb : q = 0 → (∀ k, k < 34 → (0 < w k ↔ eN k = true)) → ∀ j, j < 34 → (fun k => decide (0 < aw k)) j = eN j := fun z0 z j hj => by
        show decide (0 < aw j) = eN j
        rw [aw0 z0 j hj, Bool.eq_iff_iff, decide_eq_true_iff]; exact z j hj
      constructor
      · rintro ⟨⟨z0, z13⟩, e, n0⟩
        have z := (f13_iff (w := w) (by omega)).mpr z13
        have v := v13_eq k t (opq z0) (hb z0 z)
        refine ⟨⟨⟨(d50 z0).1, (d50 z0).2, z⟩, ?_⟩, n0⟩
        rw [e, v.2]
      · rintro ⟨⟨⟨z4, z5, z⟩, e⟩, n0⟩
        have z0 := q0 z4
        have v := v13_eq k t (opq z0) (hb z0 z)
        refine ⟨⟨z0, (f13_iff (by omega)).mp z⟩, ?_, n0⟩
        rw [e, v.2]
    have fi : Si κM w q sL lL 34 x ↔ (Sic κC w q sL lL 34 x ∧ ¬ x.2.2.2 = 0) := by
      constructor
      · rintro ⟨p, p1, p2, t9, r9, a1, a2, a3, co, c1, c2, c3, c4, c5⟩
        have W := way p p1 t9 r9 a1 a2 co c1 c2
        rw [List.nil_append] at c3 c4
        rw [hM.c7] at c3
        have v := W.val k t c3
        refine ⟨⟨p, p1, p2, t9, r9, a1, a2, a3, co, c1, c2, ?_, ?_⟩, c5⟩
        · rw [List.nil_append, hC.c6]; exact c3
        · rw [List.nil_append, c4]
          rw [c4] at c5
          rw [v.2 (by rw [v.1]; exact c5)]
      · rintro ⟨⟨p, p1, p2, t9, r9, a1, a2, a3, co, c1, c2, c3, c4⟩, c5⟩
        have W := way p p1 t9 r9 a1 a2 co c1 c2
        rw [List.nil_append] at c3 c4
        rw [hC.c6] at c3
        have v := W.val k t c3
        refine ⟨p, p1, p2, t9, r9, a1, a2, a3, co, c1, c2, ?_, ?_, c5⟩
        · rw [List.nil_append, hM.c7]; exact c3
        · rw [List.nil_append, c4]
          rw [c4] at c5
          rw [v.2 c5]
    unfold SR SCl
    rw [f7, f13, fi]
    constructor
    · rintro ⟨_, (z | z) | z⟩
      · exact ⟨Or.inr z.1, z.2⟩
      · exact ⟨Or.inl (Or.inl z.1), z.2⟩
      · exact ⟨Or.inl (Or.inr z.1), z.2⟩
    · rintro ⟨(z | z) | z, n0⟩
      · exact ⟨h14, Or.inl (Or.inr ⟨z, n0⟩)⟩
      · exact ⟨h14, Or.inr ⟨z, n0⟩⟩
      · exact ⟨h14, Or.inl (Or.inl ⟨z, n0⟩)⟩
  -- each is an offer
  have isO : ∀ x, SCl κC w q sL lL 34 x → ∃ (F : Int64) (n : Nat), 0 < n ∧ n < 300 ∧ x = vO (κC.1 14 8) (κC.1 14 11) F (nI n) := by
    rintro x ((z | z) | ⟨p, p1, p2, t9, r9, a1, a2, a3, co, c1, c2, c3, c4⟩)
    · exact ⟨_, 25, by omega, by omega, z.2⟩
    · exact ⟨_, 30, by omega, by omega, z.2⟩
    · have W := way p p1 t9 r9 a1 a2 co c1 c2
      rw [List.nil_append] at c3 c4
      rw [hC.c6] at c3
      obtain ⟨n, n1, n2, n3⟩ := W.fub k c3 (wFl (cM κC (sA q sL (flt t9 r9 34 0)) (lA q lL (flt t9 r9 34 0)) (nI p)) (nI co) (xWf (cM κC (sA q sL (flt t9 r9 34 0)) (lA q lL (flt t9 r9 34 0)) (nI p)) co)) (xHc0 (cM κC (sA q sL (flt t9 r9 34 0)) (lA q lL (flt t9 r9 34 0)) (nI p)) co) (xHc1 (cM κC (sA q sL (flt t9 r9 34 0)) (lA q lL (flt t9 r9 34 0)) (nI p)) co) (xHc2 (cM κC (sA q sL (flt t9 r9 34 0)) (lA q lL (flt t9 r9 34 0)) (nI p)) co) (xHc3 (cM κC (sA q sL (flt t9 r9 34 0)) (lA q lL (flt t9 r9 34 0)) (nI p)) co)
      exact ⟨_, n, n1, n2, c4.trans (congrArg (vO (κC.1 14 8) (κC.1 14 11) _) n3)⟩
  have hB2 := hB.iff eS
  obtain ⟨n, -, -, z | z⟩ := hI
  · have b0 : b = (0, 0, 0, 0) := hB2.1.resolve_right (fun y => z.2.2 _ y.1)
    rw [z.2.1, b0]
    exact ⟨rfl, rfl, rfl⟩
  · obtain ⟨_, f, hf, hbs⟩ := z
    have hz : ∀ x, SCl κC w q sL lL 34 x → x.2.2.2 = 0 → x.1 = 0 ∧ x.2.1 = 0 := fun x hx h0 => by
      obtain ⟨F, n, _, _, e⟩ := isO x hx
      rw [e] at h0 ⊢
      exact vO_z h0
    have hp : ∀ x, SCl κC w q sL lL 34 x → ¬ x.2.2.2 = 0 → 0 < x.1 := fun x hx h0 => by
      obtain ⟨F, n, n1, n2, e⟩ := isO x hx
      rw [e] at h0 ⊢
      exact vO_p n1 n2 (hC.c11.trans em) (by omega) h0
    exact BS_both hf hbs hB2 hz hp
