/-! the whole worth is alike where there is a base -/
set_option maxRecDepth 8000
theorem BS_both9 {S : Q4 → Prop} {f c m : Q4} (hf : S f) (hc : BS S f c) (hm : BS (fun x => S x ∧ ¬ x.2.2.2 = 0) (0, 0, 0, 0) m) (hz : ∀ x, S x → x.2.2.2 = 0 → x.1 = 0 ∧ x.2.1 = 0) (hp : ∀ x, S x → ¬ x.2.2.2 = 0 → 0 < x.1) : ¬ c.1 = 0 → c = m := by
  intro nz
  have hS : S c := by
    rcases hc.1 with e | e
    · rw [e]; exact hf
    · exact e
  have c0 : ¬ c.2.2.2 = 0 := fun e => nz (hz c hS e).1
  have hmS : S m ∧ ¬ m.2.2.2 = 0 := by
    rcases hm.1 with e | e
    · exact absurd (Or.inl (by rw [e]; exact hp c hS c0)) (hm.2.2 c ⟨hS, c0⟩)
    · exact e
  exact g4_anti (hm.2.2 c ⟨hS, c0⟩) (hc.2.2 m hmS.1)
theorem both9 {κC κM μ' : zM} {w aw : Nat → Nat} {q kk : Nat} {sL lL : Nat → Nat} {dr : Bool} {told : Int64} {wi de : Int32} {b : Q4} (hq : q ≤ 4) (hk : kk < 34) (h14 : sn w 34 + 3 * q = 14) (hL : ∀ j, j < q → sL j ≤ 3 ∧ lL j < 34 ∧ (sL j = 0 → rs (lL j))) (haw : ∀ i, i < 34 → ofv (κM.1 58 i) (κM.1 52) (κM.1 53) (nI i) q = nI (aw i) ∧ aw i < 100) (aw0 : q = 0 → ∀ k, k < 34 → aw k = w k) (hC : KC κC w aw q sL lL (nI kk) dr told (27 + (wi &&& 3)) (rw9 wi) (de &&& 63)) (hM : KM κM w q sL lL (nI kk) dr (told &&& tlm) (wi &&& 3) ((wi >>> (2 &&& 31)) &&& 3) (de &&& 63)) (hI : CI (SCl κC w q sL lL 34) 5000 μ') (hB : BS (SR κM w q sL lL) (0, 0, 0, 0) b) : ¬ (bqC μ').1 = 0 → bqC μ' = b := by
  obtain ⟨u, hu, eu⟩ := and_n wi 3 (by decide)
  obtain ⟨v, hv, ev⟩ := and_n (wi >>> (2 &&& 31)) 3 (by decide)
  obtain ⟨m, hm, em⟩ := and_n de 63 (by decide)
  have eu : wi &&& 3 = nI u := eu
  have ev : (wi >>> (2 &&& 31)) &&& 3 = nI v := ev
  have em : de &&& 63 = nI m := em
  have n27 : ∀ x, (27 : Int32) + nI x = nI (27 + x) := fun x => nI_add 27 x
  have k : KK κC κM q kk (de &&& 63) dr (xOr (κC.1 12) q) (27 + u) (27 + v) := ⟨hC.d4, hC.c6, hC.c7, hC.c8, (by rw [hC.c9, eu, n27]), (by rw [hC.c10]; show 27 + _ = _; rw [← sh3, ev, n27]), hC.c11, hM.c4, hM.c7, (by rw [hM.c8, eu, n27]), (by rw [hM.c9, ev, n27]), hM.c10, hM.c11, xOr_xOp κC κM sL q (fun j hj => (hC.r12 j hj).1) (fun j hj => (hM.r52 j hj).1), (by omega), (by omega), hk⟩
  have t : TTw κC κM q told (fun k => decide (0 < aw k)) := ⟨(by rw [hC.t12, NG_eq κC κM q hq w aw hC.d4 hM.c4 hC.r10 hM.r58 aw0]), (by rw [hM.t12, tlm_c]), (tF_N κM q (fun k => decide (0 < aw k)) (fun i hi => by
      rw [(haw i hi).1]
      have := (haw i hi).2
      show decide (nI (aw i) = 0) = !decide (0 < aw i)
      by_cases c : 0 < aw i
      · rw [decide_eq_true c, decide_eq_false (fun z => by have := (nI_eq (show aw i < 2 ^ 31 by omega) (show 0 < 2 ^ 31 by decide)).mp z; omega)]; rfl
      · rw [decide_eq_false c, show aw i = 0 by omega]; rfl) 34 0 (by omega))⟩
  -- a way
  have way : ∀ (p : Nat), p < 34 → ∀ t9 r9 : Nat → Nat, PW (sb2 w p) t9 r9 → sn (fun k => t9 k + r9 k) 34 = 4 - q → ∀ co, q ≤ co → co < 5 → WY q p co (sA q sL (flt t9 r9 34 0)) (lA q lL (flt t9 r9 34 0)) := fun p hp t9 r9 h1 h2 co h3 h4 => flt_WY hq hp h4 h3 h1.1 hL (by rw [flt_len]; omega)
  have eS : ∀ x, SR κM w q sL lL x ↔ (SCl κC w q sL lL 34 x ∧ ¬ x.2.2.2 = 0) := by
    intro x
    have opq : q = 0 → xOr (κC.1 12) q = false := fun z => by rw [z]; rfl
    have d50 : q = 0 → κC.1 9 4 = 0 ∧ κC.1 9 5 = 14 := fun z => ⟨by rw [hC.d4, z]; rfl, by rw [hC.d5, show sn w 34 = 14 by omega]; rfl⟩
    have q0 : κC.1 9 4 = 0 → q = 0 := fun z => by rw [hC.d4] at z; exact (nI_eq (by omega) (by decide)).mp z
    have f7 : S7 κM w q x ↔ (S7c κC w x ∧ ¬ x.2.2.2 = 0) := by
      constructor
      · rintro ⟨⟨z0, z7⟩, e, n0⟩
        have v := v7_eq k t (opq z0)
        refine ⟨⟨⟨(f7_iff (by omega)).mpr z7, d50 z0⟩, ?_⟩, n0⟩
        rw [e] at n0
        rw [e, v.2 (by rw [v.1]; exact n0)]
      · rintro ⟨⟨⟨z7, z4, z5⟩, e⟩, n0⟩
        have z0 := q0 z4
        have v := v7_eq k t (opq z0)
        refine ⟨⟨z0, (f7_iff (by omega)).mp z7⟩, ?_, n0⟩
        rw [e] at n0
        rw [e, v.2 n0]
    have f13 : S13 κM w q x ↔ (S13c κC w x ∧ ¬ x.2.2.2 = 0) := by
      have hb : q = 0 → (∀ k, k < 34 → (0 < w k ↔ eN k = true)) → ∀ j, j < 34 → (fun k => decide (0 < aw k)) j = eN j := fun z0 z j hj => by
        show decide (0 < aw j) = eN j
        rw [aw0 z0 j hj, Bool.eq_iff_iff, decide_eq_true_iff]; exact z j hj
      constructor
      · rintro ⟨⟨z0, z13⟩, e, n0⟩
        have z := (f13_iff (w := w) (by omega)).mpr z13
        have v := v13_eq k t (opq z0) (hb z0 z)
        refine ⟨⟨⟨(d50 z0).1, (d50 z0).2, z⟩, ?_⟩, n0⟩
        rw [e, v.2]
      · rintro ⟨⟨⟨z4, z5, z⟩, e⟩, n0⟩
        have z0 := q0 z4
        have v := v13_eq k t (opq z0) (hb z0 z)
        refine ⟨⟨z0, (f13_iff (by omega)).mp z⟩, ?_, n0⟩
        rw [e, v.2]
    have fi : Si κM w q sL lL 34 x ↔ (Sic κC w q sL lL 34 x ∧ ¬ x.2.2.2 = 0) := by
      constructor
      · rintro ⟨p, p1, p2, t9, r9, a1, a2, a3, co, c1, c2, c3, c4, c5⟩
        have W := way p p1 t9 r9 a1 a2 co c1 c2
        rw [List.nil_append] at c3 c4
        rw [hM.c7] at c3
        have v := W.val k t c3
        refine ⟨⟨p, p1, p2, t9, r9, a1, a2, a3, co, c1, c2, ?_, ?_⟩, c5⟩
        · rw [List.nil_append, hC.c6]; exact c3
        · rw [List.nil_append, c4]
          rw [c4] at c5
          rw [v.2 (by rw [v.1]; exact c5)]
      · rintro ⟨⟨p, p1, p2, t9, r9, a1, a2, a3, co, c1, c2, c3, c4⟩, c5⟩
        have W := way p p1 t9 r9 a1 a2 co c1 c2
        rw [List.nil_append] at c3 c4
        rw [hC.c6] at c3
        have v := W.val k t c3
        refine ⟨p, p1, p2, t9, r9, a1, a2, a3, co, c1, c2, ?_, ?_, c5⟩
        · rw [List.nil_append, hM.c7]; exact c3
        · rw [List.nil_append, c4]
          rw [c4] at c5
          rw [v.2 c5]
    unfold SR SCl
    rw [f7, f13, fi]
    constructor
    · rintro ⟨_, (z | z) | z⟩
      · exact ⟨Or.inr z.1, z.2⟩
      · exact ⟨Or.inl (Or.inl z.1), z.2⟩
      · exact ⟨Or.inl (Or.inr z.1), z.2⟩
    · rintro ⟨(z | z) | z, n0⟩
      · exact ⟨h14, Or.inl (Or.inr ⟨z, n0⟩)⟩
      · exact ⟨h14, Or.inr ⟨z, n0⟩⟩
      · exact ⟨h14, Or.inl (Or.inl ⟨z, n0⟩)⟩
  -- each is an offer
  have isO : ∀ x, SCl κC w q sL lL 34 x → ∃ (F : Int64) (n : Nat), 0 < n ∧ n < 300 ∧ x = vO (κC.1 14 8) (κC.1 14 11) F (nI n) := by
    rintro x ((z | z) | ⟨p, p1, p2, t9, r9, a1, a2, a3, co, c1, c2, c3, c4⟩)
    · exact ⟨_, 25, by omega, by omega, z.2⟩
    · exact ⟨_, 30, by omega, by omega, z.2⟩
    · have W := way p p1 t9 r9 a1 a2 co c1 c2
      rw [List.nil_append] at c3 c4
      rw [hC.c6] at c3
      obtain ⟨n, n1, n2, n3⟩ := W.fub k c3 (wFl (cM κC (sA q sL (flt t9 r9 34 0)) (lA q lL (flt t9 r9 34 0)) (nI p)) (nI co) (xWf (cM κC (sA q sL (flt t9 r9 34 0)) (lA q lL (flt t9 r9 34 0)) (nI p)) co)) (xHc0 (cM κC (sA q sL (flt t9 r9 34 0)) (lA q lL (flt t9 r9 34 0)) (nI p)) co) (xHc1 (cM κC (sA q sL (flt t9 r9 34 0)) (lA q lL (flt t9 r9 34 0)) (nI p)) co) (xHc2 (cM κC (sA q sL (flt t9 r9 34 0)) (lA q lL (flt t9 r9 34 0)) (nI p)) co) (xHc3 (cM κC (sA q sL (flt t9 r9 34 0)) (lA q lL (flt t9 r9 34 0)) (nI p)) co)
      exact ⟨_, n, n1, n2, c4.trans (congrArg (vO (κC.1 14 8) (κC.1 14 11) _) n3)⟩
  have hB2 := hB.iff eS
  obtain ⟨n, -, -, z | z⟩ := hI
  · have b0 : b = (0, 0, 0, 0) := hB2.1.resolve_right (fun y => z.2.2 _ y.1)
    intro nz
    rw [z.2.1] at nz
    exact absurd rfl nz
  · obtain ⟨_, f, hf, hbs⟩ := z
    have hz : ∀ x, SCl κC w q sL lL 34 x → x.2.2.2 = 0 → x.1 = 0 ∧ x.2.1 = 0 := fun x hx h0 => by
      obtain ⟨F, n, _, _, e⟩ := isO x hx
      rw [e] at h0 ⊢
      exact vO_z h0
    have hp : ∀ x, SCl κC w q sL lL 34 x → ¬ x.2.2.2 = 0 → 0 < x.1 := fun x hx h0 => by
      obtain ⟨F, n, n1, n2, e⟩ := isO x hx
      rw [e] at h0 ⊢
      exact vO_p n1 n2 (hC.c11.trans em) (by omega) h0
    exact BS_both9 hf hbs hB2 hz hp
theorem wo_eq9 {x m : zM} {s : Nat} {w aw : Nat → Nat} {q c : Nat} {sL lL : Nat → Nat} (H : HF x m s w aw q sL lL) (hc : c < 34) (hw : 0 < w c) {dr : Bool} {told told' : Int64} {wi wd rd de : Int32} (ht : told &&& tlm = told') (h1 : wi &&& 3 = wd) (h2 : (wi >>> (2 &&& 31)) &&& 3 = rd) (h3 : de &&& 63 = de) {v b : Q4} (hX : BX w aw q c sL lL dr told wi de v) (hM : BM w q c sL lL dr told' wd rd de b) (nz : ¬ v.1 = 0) : v = b := by
  obtain ⟨κ, hM, hB⟩ := hM
  have hq := H.1.2.2.1
  rcases hX with ⟨nv, e0⟩ | ⟨V, κC, μ', hC, hI, e0⟩
  · rw [e0] at nz
    exact absurd rfl nz
  · rw [← h3] at hC
    rw [← ht, ← h1, ← h2, ← h3] at hM
    rw [← e0] at nz ⊢
    refine both9 hq hc V.1 (fun j hj => ⟨(H.1.2.2.2 j hj).2.1, (H.1.2.2.2 j hj).2.2.2.1, (H.1.2.2.2 j hj).2.2.2.2⟩) (fun i hi => ⟨?_, by have := H.2.2.2.2.2.1 i hi; omega⟩) H.2.2.2.2.1 hC hM hI hB nz
    rw [hM.r58 i hi, ofv_cg (s' := fun i => m.1 62 (4 * s + i)) (l' := fun i => m.1 63 (4 * s + i)) q (fun j hj => ⟨by rw [(hM.r52 j hj).1, (H.1.2.2.2 j hj).1], by rw [(hM.r52 j hj).2.2.1, (H.1.2.2.2 j hj).2.2.1]⟩), ← H.2.2.2.2.2.2.2 i hi]
theorem wb09 {x m : zM} {p t c s : Nat} {w aw : Nat → Nat} {q : Nat} {sL lL : Nat → Nat} (R : RCl x m) (P : RPh x m p t c) (hs : s < 4) (H : HF x m s w aw q sL lL) (hA : a_H m) (hc : c < 34) (h3 : aw c ≤ 3) {f dl rd : Nat} (hf : f ≤ 4) (hdl4 : dl < 4) (hrd2 : rd < 2) {v b : Q4} (hX : BX (ad1 w c) (ad1 aw c) q c sL lL false (tX false (m.1 67 s) (m.1 69 s) (122 - m.1 50 47 - m.1 50 46) (x.1 0 16) (m.1 50 44) ||| 0) (wiN s dl rd) (deM m s (ad1 w c) q f) v) (hM : BM (ad1 w c) q c sL lL false (tM0 (m.1 67 s) (m.1 69 s) (122 - m.1 50 47 - m.1 50 46) (m.1 50 44)) (wdM (nI dl) (nI s)) (nI rd) (deM m s (ad1 w c) q f) b) (nz : ¬ v.1 = 0) : v = b := by
  have H' := hf_put H hs hc h3
  have w3 : ∀ p, p < 136 → (pS x s c 1).1 3 p = m.1 59 p := fun p hp => by unfold pS; simp (disch := first | decide | exact ad_ne (by decide) | exact ad_m (by decide) | exact ad_l (by decide) | exact ad_g (by decide) | exact ad_lt (by decide) | exact ad_o (by decide) | omega) only [↓ui_s, ↓ui_o, ↓ui_k, ui_s, ui_o, ui_k]; exact R.wl p hp
  exact wo_eq9 H' hc (by show 0 < ad1 w c c; unfold ad1; rw [if_pos rfl]; omega) (tX_0 _ _ _ _ _) (wi_3 s hs dl hdl4 rd hrd2).1 (wi_3 s hs dl hdl4 rd hrd2).2 (de_63 H' (fun i => giv_o (by decide)) (fun i => giv_o (by decide)) hA w3 hf) hX hM nz
