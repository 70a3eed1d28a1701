/-! hide answers alike -/
set_option maxRecDepth 8000
abbrev xMM (μ : zM) (t : Nat) : Bool := (decide ((μ.1 0 7) = 1)) && (!(decide ((μ.1 0 15) = (-1))) && ((decide ((μ.1 (18 + 8 * t) 5) = 0)) && (!(decide ((xLf μ) ≤ 0)) && (!(decide (4 ≤ (μ.1 2 3)))))))
abbrev mMM (μ : zM) (t : Nat) : Bool := (decide ((μ.1 50 44) = 1)) && ((decide ((μ.1 50 57) = 0)) && ((decide ((μ.1 67 t) = 0)) && (!(decide (((122 - (μ.1 50 47)) - (μ.1 50 46)) ≤ 0)) && (!(decide (4 ≤ (μ.1 50 47)))))))
theorem nI_m1n {c : Nat} (hc : c < 34) : decide (nI c = -1) = false := kn_m1 (by omega)
theorem mm_eq {x m : zM} {p t c : Nat} (R : RCl x m) (P : RPh x m p t c) : xMM x t = mMM m t := by
  unfold xMM mMM xLf
  rw [P.px, P.pm, R.sd, P.is, P.fo, R.nx, R.be t P.t4, P.cx]
  rcases P.p3 with e | e | e
  · rw [P.jc e]
    by_cases q : c = 34
    · rw [if_pos q, if_pos q]; rfl
    · rw [if_neg q, if_neg q, nI_m1n (by have := P.c3; omega)]; rfl
  · subst e; rfl
  · subst e; rfl
theorem turn_nI {m : zM} (h : a_H m) : ∃ t, t < 4 ∧ m.1 50 45 = nI t := by
  obtain ⟨a, h1, h2⟩ := i_nat (v := m.1 50 45) (n := 3) (h 50 45).1 (h 50 45).2 (by decide)
  exact ⟨a, by omega, h2⟩
theorem mMM_0 {m : zM} {t : Nat} {v : Int32} : mMM (z_ui m 50 0 v) t = mMM m t := by
  unfold mMM
  rw [ui_k (by decide), ui_k (by decide), ui_o (by decide), ui_k (by decide), ui_k (by decide)]
theorem mMM_e {m m' : zM} {t : Nat} (h : EqM m m') : mMM m' t = mMM m t := by
  have e : ∀ k, 40 ≤ k → k ≤ 59 → m'.1 50 k = m.1 50 k := fun k h1 h2 => (h 50 k (Or.inr ⟨rfl, h1, h2⟩)).1
  unfold mMM
  rw [e 44 (by decide) (by decide), e 57 (by decide) (by decide), e 47 (by decide) (by decide), e 46 (by decide) (by decide), (h 67 t (Or.inl ⟨by decide, by decide⟩)).1]
theorem rq_47 {x m : zM} {lb : Nat} (Q : RQ x m lb) (v : Int32) : RQ x (z_ui m 50 47 v) lb := ⟨(by rw [ui_k (by decide)]; exact Q.br), fun z s hs => by rw [ui_k (by decide)] at z; rw [ui_o (by decide)]; exact Q.us z s hs, Q.ow, (by rw [ui_k (by decide)]; exact Q.o1), (by rw [ui_k (by decide)]; exact Q.is), fun s hs => by rw [ui_o (by decide)]; exact Q.s1 s hs, (by rw [ui_k (by decide)]; exact Q.w0), DNm.cg (m := m) Q.dn (fun s _ => ui_o (by decide)) (ui_k (by decide)) (ui_k (by decide)) (ui_k (by decide)), fun z s hs => by rw [ui_k (by decide)] at z; rw [ui_o (by decide), ui_o (by decide)]; exact Q.dr z s hs, Q.tc.cg (fun _ _ _ _ => rfl) (fun i => ui_o (by decide)) (ui_k (by decide)) (ui_k (by decide))⟩
theorem rc_47 {x m : zM} (R : RCl x m) (v : Int32) : RCl x (z_ui m 50 47 v) := RCl.cg2 (x := x) (x' := x) (m := m) (m' := z_ui m 50 47 v) (q2_x _) (q2_mu (q2_m _) (by unfold gM2; omega)) R
/-- hide, done: both games behind it -/
theorem rg_hide {x m : zM} {t c k q n k2 : Nat} (R : RCl x m) (P : RPh x m 1 t c) (hk : k < 34) (hq : q ≤ 3) (e64 : m.1 64 t = nI q) (hm4 : ∀ j, j < 4 → (m.1 64 j).toNatClampNeg ≤ 4) (hn : n < 4) (e47 : m.1 50 47 = nI n) (e48 : m.1 50 48 = nI n) (hk2 : k2 < 34) (hw : m.1 59 (122 + n) = nI k2) (hnx : bI 0 122 (m.1 50 46)) (hh : ¬ (z_giv m t k (-4)).1 60 (34 * t + k2) = -1) : RG (dT1 (bkH (ldS x t 3 k q)) t n k2) (dM1 (z_ui (toM (z_lys (z_giv m t k (-4)) t q 3 (nI k))) 50 47 (m.1 50 47 + 1)) t n k2) := by
  have ht := P.t4
  have A := lay_hide (x := x) (m := m) (s := t) (c := k) (q := q) ht hk hq
  have R1 := rc_lay R A ht hq e64 (svd_n ⟨by decide, by decide⟩ (by decide) hk) hm4
  have R2 := rc_47 (rc_brk R1) (m.1 50 47 + 1)
  obtain ⟨Q, f1, f2⟩ := rq_hide P A (fun j hj => by
    rw [ct_n9 (by decide) hk hj]
    show (if j = k then (-4 : Int32) else 0) + _ = 0
    by_cases e : j = k
    · rw [if_pos e, if_pos e]; decide
    · rw [if_neg e, if_neg e]; decide)
  have Q2 := rq_47 Q (m.1 50 47 + 1)
  have g : ∀ r k', r ≠ 60 → r ≠ 62 → r ≠ 63 → r ≠ 64 → r ≠ 69 → (r ≠ 50 ∨ (k' ≠ 56 ∧ k' ≠ 47)) → (z_ui (toM (z_lys (z_giv m t k (-4)) t q 3 (nI k))) 50 47 (m.1 50 47 + 1)).1 r k' = m.1 r k' := fun r k' h1 h2 h3 h4 h5 h6 => by
    have z : (toM (z_lys (z_giv m t k (-4)) t q 3 (nI k))).1 r k' = m.1 r k' := by rw [toM_o ⟨h5, by omega⟩, lys_o ⟨h2, h3, h4⟩, giv_o h1]
    by_cases e : r = 50
    · rw [ui_k (by omega)]; exact z
    · rw [ui_o e]; exact z
  refine ⟨rc_draw1 R2 ht hk2, Or.inr ⟨1, t, k2, rp_draw1 R2 Q2 ht hk2 ?_ hn ?_ ?_ ?_ (by rw [ui_o (by decide), toM_o ⟨by decide, Or.inl (by decide)⟩, lys_o ⟨by decide, by decide, by decide⟩]; exact hh)⟩⟩
  · rw [g 50 48 (by omega) (by omega) (by omega) (by omega) (by omega) (by omega)]; exact e48
  · rw [g 50 46 (by omega) (by omega) (by omega) (by omega) (by omega) (by omega)]; exact hnx
  · rw [g 59 _ (by omega) (by omega) (by omega) (by omega) (by omega) (by omega)]; exact hw
  · rw [ui_s, e47, nI_s1]
