theorem bd0 (r k : Nat) : a_bi (a_bd r k) 0 := by
  have hl : ∀ (l : List (Nat × Int × Int)) (k : Nat), (∀ q ∈ l, q.2.1 ≤ 0 ∧ 0 ≤ q.2.2) → a_bi ((z_lk l k).getD aT) 0 := by
    intro l k hq
    cases e : z_lk l k with
    | none => exact bI_top _
    | some q =>
      have := hq _ (z_lk_mem e)
      exact ⟨this.1, this.2⟩
  unfold a_bd
  cases h1 : Nat.beq (z_sh r).1 0 with
  | true =>
    show a_bi (a_cbd _ _) 0
    unfold a_cbd
    cases h2 : Nat.beq (z_fk (z_sh r).2.1 k) 2 with
    | true => exact (show bI 0 1 0 from ⟨by decide, by decide⟩)
    | false =>
      refine hl _ _ (fun q hq => ?_)
      have h9 : ∀ o : Fin 7, ∀ q ∈ a_cbs.getD o.1 [], q.2.1 ≤ 0 ∧ 0 ≤ q.2.2 := by decide +kernel
      by_cases ho : (z_sh r).2.1 < 7
      · exact h9 ⟨_, ho⟩ q hq
      · rw [z_getD_ge (by show 7 ≤ _; omega)] at hq
        cases hq
  | false =>
    show a_bi (a_abd _) 0
    unfold a_abd
    cases h2 : Nat.beq (z_sh r).1 3 with
    | true => exact (show bI 0 1 0 from ⟨by decide, by decide⟩)
    | false => exact hl _ _ (by decide +kernel)
theorem mu0_H : a_H mu0 := by
  intro r k
  by_cases h1 : r = 61
  · subst h1; exact bI_top _
  by_cases h2 : r = 0 ∧ k = 15
  · obtain ⟨rfl, rfl⟩ := h2; exact ⟨by decide +kernel, by decide +kernel⟩
  by_cases h3 : r = 50 ∧ (k = 49 ∨ k = 50 ∨ k = 51)
  · obtain ⟨rfl, rfl | rfl | rfl⟩ := h3 <;> exact ⟨by decide +kernel, by decide +kernel⟩
  by_cases h4 : (r = 18 ∨ r = 26 ∨ r = 34 ∨ r = 42) ∧ k = 4
  · obtain ⟨rfl | rfl | rfl | rfl, rfl⟩ := h4 <;> exact ⟨by decide +kernel, by decide +kernel⟩
  have e : mu0.1 r k = 0 := by
    show (bif Nat.beq r 61 then _ else bif (Nat.beq r 0 && Nat.beq k 15) || (Nat.beq r 50 && (Nat.beq k 49 || (Nat.beq k 50 || Nat.beq k 51))) then (-1 : Int32) else bif (Nat.beq r 18 || (Nat.beq r 26 || (Nat.beq r 34 || Nat.beq r 42))) && Nat.beq k 4 then (25000 : Int32) else 0) = 0
    have b : ∀ x y : Nat, Nat.beq x y = decide (x = y) := fun x y => by
      by_cases q : x = y
      · subst q; rw [decide_eq_true rfl]; exact Nat.beq_refl x
      · rw [decide_eq_false q]; exact z_bf q
    simp only [b]
    rw [decide_eq_false h1]
    have c2 : (decide (r = 0) && decide (k = 15) || decide (r = 50) && (decide (k = 49) || (decide (k = 50) || decide (k = 51)))) = false := by
      rw [Bool.eq_false_iff]
      intro q
      simp only [Bool.or_eq_true, Bool.and_eq_true, decide_eq_true_iff] at q
      omega
    have c3 : ((decide (r = 18) || (decide (r = 26) || (decide (r = 34) || decide (r = 42)))) && decide (k = 4)) = false := by
      rw [Bool.eq_false_iff]
      intro q
      simp only [Bool.or_eq_true, Bool.and_eq_true, decide_eq_true_iff] at q
      omega
    rw [c2, c3]
    rfl
  rw [e]
  exact bd0 r k
theorem LJ_0 : LJ mu0 := ⟨⟨mu0_H, fun i hi => by show _ ≤ (0 : Int32).toInt ∧ (0 : Int32).toInt ≤ _; exact ⟨by decide, by decide⟩, fun h => absurd rfl h⟩, 0, RD_clear (μ := mu0) (μ1 := mu0) ⟨fun k _ => ⟨rfl, rfl⟩, rfl, rfl⟩ ⟨fun k _ => rfl, rfl, fun r k _ _ => rfl⟩, ⟨fun i hi => absurd hi (by omega), fun k hk => (show bI 0 4 (0 : Int32) from ⟨by decide, by decide⟩)⟩⟩
theorem LGm_0 : LGm mu0 := ⟨LJ_0, RG_0⟩
theorem gw_L_river : GoodIn TT (va_wsS RL 83 yL_river (.codeWith yL_river cL_river 5 (some .int) [(0, 10, 13, 13)] :: TT)) := goodIn_app (a := [.methodLink RL 83 yL_river, .static yL_river, .initialized RL]) (z_goodI (z_mem3 (inTT (by decide +kernel) rfl) (inTT (by decide +kernel) rfl) (inTT (by decide +kernel) rfl))) (fun w hw => (List.mem_cons.mp hw).elim (fun e => by rw [e]; exact ⟨inTT (by decide +kernel) rfl, good_of_word rfl⟩) (fun h => ⟨h, good_of_word (TT_good _ h)⟩))
theorem gw_L_wall : GoodIn TT (va_wsS RL 110 yL_wall (.codeWith yL_wall cL_wall 4 (some .int) [(0, 9, 12, 13)] :: TT)) := goodIn_app (a := [.methodLink RL 110 yL_wall, .static yL_wall, .initialized RL]) (z_goodI (z_mem3 (inTT (by decide +kernel) rfl) (inTT (by decide +kernel) rfl) (inTT (by decide +kernel) rfl))) (fun w hw => (List.mem_cons.mp hw).elim (fun e => by rw [e]; exact ⟨inTT (by decide +kernel) rfl, good_of_word rfl⟩) (fun h => ⟨h, good_of_word (TT_good _ h)⟩))
theorem LJ_uj {μ : zM} {y : Int64} (h : LJ μ) : LJ (z_uj μ 78 0 y) := LJ.keep (md := [(78, 9999)]) h (fun r k => h.1.1 r k) (a_Fz_uj (a_Fz_rf _ _) (a_mda_md (by decide) _)) (by decide) (by decide)
theorem dW_r : decode cL_law 575 = .ok (.invokestatic 83, 3) := by decide +kernel
theorem dW_w : decode cL_law 758 = .ok (.invokestatic 110, 3) := by decide +kernel
theorem dW_x : decode cL_law 1044 = .ok (.ireturn, 1) := by decide +kernel
set_option maxHeartbeats 4000000 in
set_option maxRecDepth 100000 in
theorem law_pool {p : Program} {e : Env} {s : State} {m : MethodId} {below : List Frame} {meth : Method} {c : Code} (l : Launch) (hst : l.stackTraces = false) {b L : Nat} {xs : Nat → Int32} (hL : L ≤ 3584) (C0 : lw_At p s m meth c b L xs) (G : va_G) (k : Nat → ClassId) (hK : va_K G vwCl (tyF k) s) (hN : NW s) {A : Nat → Prop} (hA : ∀ q : Nat, s.heap.size ≤ q → A q) (hA2 : ∀ q : Nat, A q → s.heap.size ≤ q) (qx qm qo : Nat) (ux um : Nat → Nat) {H : Heap} {locs : List Loc} (hP : va_P G vwCl (lwW k qx qm qo ux um) H) (hD : va_D A (lwW k qx qm qo ux um)) (hS : va_S A s.heap H locs) (hXW : XW A s s.heap) {a101 a102 : Nat} (h101 : va_T .int a101 30 (fun j => .int (z_han.getD j 0)) A s s.heap) (h102 : va_T .int a102 30 (fun j => .int (z_ohan.getD j 0)) A s s.heap) (hz101 : va_Z RX0 "HAN" "[I" (.ref a101) A s s.heap) (hz102 : va_Z RX0 "OPEN_HAN" "[I" (.ref a102) A s s.heap) {ls : Array Slot} (hl : lv_has ls 7 [(4, .int 0), (3, .ref qo), (2, .ref qm), (1, .ref qx), (0, .ref b)]) : W p l e room_1 s m #[Value.ref b] below meth c H locs 79 2184 (lw_Z below #[Value.ref b] s) (F0 m 23 ls []) := by
  obtain ⟨hx, hb, hr, hml, hown, hts0, hX, hbl, hlocks, hgv⟩ := id C0
  have hts : ∀ w ∈ TT, w.before #[Value.ref b] s = true := fun w h => hts0 w (List.mem_filter.mp h).1
  have hbA : ¬ A b := fun h9 => Nat.not_le.mpr hbl (hA2 b h9)
  have hP1 := va_P_ref (p := 1) (g := fun j => some (lw_a qx qm qo b a101 a102 ux um (z_gr 1 j))) hP rfl (fun j hj => by rcases (show j = 0 ∨ j = 1 ∨ j = 2 ∨ j = 3 by omega) with rfl | rfl | rfl | rfl <;> rfl)
  have hP2 := va_P_ref (p := 8) (g := fun j => some (lw_a qx qm qo b a101 a102 ux um (z_gr 8 j))) hP1 rfl (fun j hj => by rcases (show j = 0 ∨ j = 1 ∨ j = 2 ∨ j = 3 by omega) with rfl | rfl | rfl | rfl <;> rfl)
  have hD1 := hD.set (p := 1) (e := .inl (k 3, 4, .inr (.inr (.inr (.inr (fun j => some (lw_a qx qm qo b a101 a102 ux um (z_gr 1 j)))))))) rfl
  have hD2 := hD1.set (p := 8) (e := .inl (k 4, 4, .inr (.inr (.inr (.inr (fun j => some (lw_a qx qm qo b a101 a102 ux um (z_gr 8 j)))))))) rfl
  rw [lw_pool] at hP2 hD2
  clear hP1 hD1 hP hD
  have e0 : lw_a qx qm qo b a101 a102 ux um 0 = qx := rfl
  have e50 : lw_a qx qm qo b a101 a102 ux um 50 = qm := rfl
  have e78 : lw_a qx qm qo b a101 a102 ux um 78 = qo := rfl
  have e100 : lw_a qx qm qo b a101 a102 ux um 100 = b := rfl
  have e101 : lw_a qx qm qo b a101 a102 ux um 101 = a101 := rfl
  have e102 : lw_a qx qm qo b a101 a102 ux um 102 = a102 := rfl
  generalize lw_a qx qm qo b a101 a102 ux um = a at hP2 hD2 e0 e50 e78 e100 e101 e102
  have hD : ∀ μ, va_D A (z_W a k 79 μ) := fun μ' => z_W_D hD2 μ'
  have hRO : z_RO a (L + 1, xs) A s s.heap := by
    refine ⟨⟨by rw [e101]; exact hz101, by rw [e102]; exact hz102⟩, fun r hr => ?_⟩
    unfold z_av at hr
    rw [Bool.or_eq_true, Bool.or_eq_true] at hr
    rcases hr with q | q | q
    · rw [z_beq q, e101]; exact h101
    · rw [z_beq q, e102]; exact h102
    · rw [z_beq (z_and q).1, e100]
      obtain ⟨scr, g1, g2, g3, g4, g5⟩ := hX
      exact ⟨scr, g1, g2, g3, Nat.le_of_eq g4.symm, by rw [g4]; rfl, g5, hbA⟩
  have hml2 : c.maxLocals = z_ml mi_L_law := hml
  have hb2 : c.code = z_cc mi_L_law := hb
  have hown2 : s.vm.findClass (z_own (z_oc mi_L_law)) = some m.cls := hown
  have Xz : z_X p s m #[Value.ref b] c mi_L_law (L + 1, xs) G k a 79 A := ⟨hx, hb2, hml2, hts, hown2, hK, hN, hD, hRO, hA, by decide +kernel, Nat.le_refl _⟩
  refine W.widen (k := 150) (n := 2400) (by decide) (by decide) ?_
  have hc := z_Z_clo (d := 705) (e := e) (R := room_1) (below := below) (meth := meth) (QW := lw_Z below #[Value.ref b] s) (b0 := 150) (fun j As μ Q h => z_sound l 705 j As μ Q h) Xz (by decide) (by decide) (by decide +kernel) (by decide +kernel) (Or.inl rfl)
  have hal := al_law
  have hZ := law_small (Nat.le_refl _) hL hc 150 (by decide)
    (fun bb lv μ h0 h1 h2 H locs ls hP hS hl => va_forget (fun q h => hA2 _ (hS.2.2 q h)) (W.widen (k := 601024) (n := 7293034) (by omega) (by omega) (lw_ret hx hb hr hlocks dW_x)))
    (fun bb t p0 p1 μ h0 hI hk h1 h2 H locs ls hP hS hl => by
      have hF := wZ_F (hD μ) hS hA
      refine z_callW (rest := []) (vx_runSW (As := [.ref (a 0), .int p0, .int p1, .ref (a 78)]) ⟨hx, hb, hml2, hown, hts⟩ (c_L_river l hst G k a H.size μ hI.1.1.1 p0 p1) (vx_cwSW 4 hts gw_L_river rfl rfl rfl (by decide +kernel) ⟨Nat.le_of_ble_eq_true rfl, Nat.le_of_ble_eq_true rfl⟩) ⟨pz_bl, pz_pre (av := [.ref (a 0), .int p0, .int p1, .ref (a 78)]) hP hD hK hN hRO hS hA hXW⟩ rfl rfl hl.1 rfl (lv_room (Nat.le_of_ble_eq_true rfl)) dW_r ⟨show bb + 1 ≤ 601024 by omega, show 16 * bb + 16 ≤ 7293034 by omega⟩) hS (fun q _ h => hF q h) hF (fun r μ' H1 locs1 hq hP1 hS1 => ?_)
      obtain ⟨⟨x, rfl⟩, hq⟩ := hq
      have hI' : LGm μ' := by
        rcases hq with rfl | ⟨y, rfl⟩
        · exact hI
        · exact LGm_uj hI (LJ_uj hI.1)
      exact hk x μ' hI' (by omega) (by omega) H1 locs1 ls hP1 hS1 hl)
    (fun bb t p0 μ h0 hI hk h1 h2 H locs ls hP hS hl => by
      have hF := wZ_F (hD μ) hS hA
      refine z_callW (rest := []) (vx_runSW (As := [.ref (a 0), .int p0, .ref (a 78)]) ⟨hx, hb, hml2, hown, hts⟩ (c_L_wall l hst G k a H.size μ hI.1.1.1 p0) (vx_cwSW 3 hts gw_L_wall rfl rfl rfl (by decide +kernel) ⟨Nat.le_of_ble_eq_true rfl, Nat.le_of_ble_eq_true rfl⟩) ⟨pz_bl, pz_pre (av := [.ref (a 0), .int p0, .ref (a 78)]) hP hD hK hN hRO hS hA hXW⟩ rfl rfl hl.1 rfl (lv_room (Nat.le_of_ble_eq_true rfl)) dW_w ⟨show bb + 1 ≤ 601024 by omega, show 16 * bb + 16 ≤ 7293034 by omega⟩) hS (fun q _ h => hF q h) hF (fun r μ' H1 locs1 hq hP1 hS1 => ?_)
      obtain ⟨⟨x, rfl⟩, hq⟩ := hq
      have hI' : LGm μ' := by
        rcases hq with rfl | ⟨y, rfl⟩
        · exact hI
        · exact LGm_uj hI (LJ_uj hI.1)
      exact hk x μ' hI' (by omega) (by omega) H1 locs1 ls hP1 hS1 hl)
    (fun bb i x y μ hz h1 h2 H locs ls hP hS hl => hz h1 h2 H locs ls hP hS (lv_sub hl [2, 3, 4, 5, 6] rfl))
    513 0 (by omega) 150 mu0 (by omega) LGm_0
  refine hZ (Nat.le_refl _) (by omega) H locs ls hP2 hS ?_
  show lv_has ls 7 [(4, .int 0), (3, .ref (a 78)), (2, .ref (a 50)), (1, .ref (a 0)), (0, .ref (a 100))]
  rw [e78, e50, e0, e100]
  exact hl
