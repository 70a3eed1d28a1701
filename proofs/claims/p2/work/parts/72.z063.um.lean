/-! within a hand: claimed, added, said -/
set_option maxRecDepth 8000
def clX (y : zM) (s : Nat) (bs : Int64) : zM := z_uj (z_ui (z_ui (z_ui y 0 8 (nI s)) 0 7 1) 0 15 (-1)) 0 18 bs
def clN (n : zM) (s : Nat) : zM := z_ui (z_ui (z_ui (z_ui (z_ui n 50 45 (nI s)) 50 44 1) 50 49 (-1)) 50 57 1) 50 58 0
theorem rc_claimed {x m : zM} (R : RCl x m) {s : Nat} {bs : Int64} : RCl (clX x s bs) (clN m s) := by
  unfold clX clN
  refine R.cg2 (q2_xj (q2_xu (q2_xu (q2_xu (q2_x _) ?_) ?_) ?_) ?_) (q2_mu (q2_mu (q2_mu (q2_mu (q2_mu (q2_m _) ?_) ?_) ?_) ?_) ?_) <;> (first | unfold gX2 | unfold gM2) <;> omega
theorem rp_claimed {x m : zM} (Q : RQ x m 34) {s : Nat} (hs : s < 4) {bs : Int64} (hfo : x.1 2 3 = m.1 50 47) (h56 : m.1 50 56 = 0) (hbs : bs = (((1 : Int64) <<< ((m.1 50 50).toInt64 &&& 63)) ||| (bif decide (m.1 50 51 = -1) then (0 : Int64) else 1 <<< ((m.1 50 51).toInt64 &&& 63)))) (hbn : BN m) : RPh (clX x s bs) (clN m s) 1 s 34 := by
  unfold clX clN
  exact ⟨(by simp (disch := omega) only [ui_s, uj_s, ui_o, ui_k, uj_o, uj_k, ui_j, uj_i]; exact hfo), (by simp (disch := omega) only [ui_s, uj_s, ui_o, ui_k, uj_o, uj_k, ui_j, uj_i]; rfl), (by simp (disch := omega) only [ui_s, uj_s, ui_o, ui_k, uj_o, uj_k, ui_j, uj_i]; rfl), (by simp (disch := omega) only [ui_s, uj_s, ui_o, ui_k, uj_o, uj_k, ui_j, uj_i]), (by simp (disch := omega) only [ui_s, uj_s, ui_o, ui_k, uj_o, uj_k, ui_j, uj_i]), hs, Or.inl rfl, (by simp (disch := omega) only [ui_s, uj_s, ui_o, ui_k, uj_o, uj_k, ui_j, uj_i]; rfl), (by simp (disch := omega) only [ui_s, uj_s, ui_o, ui_k, uj_o, uj_k, ui_j, uj_i]; rfl), Or.inr ⟨rfl, rfl⟩, fun _ => by simp (disch := omega) only [ui_s, uj_s, ui_o, ui_k, uj_o, uj_k, ui_j, uj_i]; rfl, (by simp (disch := omega) only [ui_s, uj_s, ui_o, ui_k, uj_o, uj_k, ui_j, uj_i]; exact Q.br), (by simp (disch := omega) only [ui_s, uj_s, ui_o, ui_k, uj_o, uj_k, ui_j, uj_i]; exact Q.us), fun _ z => absurd z (by decide), fun _ => by unfold barM; simp (disch := omega) only [ui_s, uj_s, ui_o, ui_k, uj_o, uj_k, ui_j, uj_i]; exact hbs, fun _ _ => ⟨by unfold BN; simp (disch := omega) only [ui_s, uj_s, ui_o, ui_k, uj_o, uj_k, ui_j, uj_i]; exact hbn, by simp (disch := omega) only [ui_s, uj_s, ui_o, ui_k, uj_o, uj_k, ui_j, uj_i]; exact h56⟩, fun _ e => absurd e (by omega), fun z => absurd z (by decide), fun j h0 => by simp (disch := omega) only [ui_s, uj_s, ui_o, ui_k, uj_o, uj_k, ui_j, uj_i]; rw [Q.ow j h0, Q.o1]; split <;> rfl, fun _ => by simp (disch := omega) only [ui_s, uj_s, ui_o, ui_k, uj_o, uj_k, ui_j, uj_i]; exact Q.o1, (by simp (disch := omega) only [ui_s, uj_s, ui_o, ui_k, uj_o, uj_k, ui_j, uj_i]; exact Q.is), (by simp (disch := omega) only [ui_s, uj_s, ui_o, ui_k, uj_o, uj_k, ui_j, uj_i]; exact Q.s1 s hs), fun _ j h0 => by simp (disch := omega) only [ui_s, uj_s, ui_o, ui_k, uj_o, uj_k, ui_j, uj_i]; exact Q.s1 j h0, (by simp (disch := omega) only [ui_s, uj_s, ui_o, ui_k, uj_o, uj_k, ui_j, uj_i]; exact Q.w0), DNm.cg (m := m) Q.dn (fun j h => by simp (disch := omega) only [ui_s, uj_s, ui_o, ui_k, uj_o, uj_k, ui_j, uj_i]) (by simp (disch := omega) only [ui_s, uj_s, ui_o, ui_k, uj_o, uj_k, ui_j, uj_i]) (by simp (disch := omega) only [ui_s, uj_s, ui_o, ui_k, uj_o, uj_k, ui_j, uj_i]) (by simp (disch := omega) only [ui_s, uj_s, ui_o, ui_k, uj_o, uj_k, ui_j, uj_i]), fun z => absurd (by simp (disch := omega) only [ui_s, uj_s, ui_o, ui_k, uj_o, uj_k, ui_j, uj_i]; exact h56) z, fun _ _ _ z => absurd z (by decide), ((Q.tc.cg (x' := clX x s bs) (m' := clN m s) (fun j k _ _ => by unfold clX; simp (disch := omega) only [ui_s, uj_s, ui_o, ui_k, uj_o, uj_k, ui_j, uj_i]) (fun i => by unfold clN; simp (disch := omega) only [ui_s, uj_s, ui_o, ui_k, uj_o, uj_k, ui_j, uj_i]) (by unfold clN; simp (disch := omega) only [ui_s, uj_s, ui_o, ui_k, uj_o, uj_k, ui_j, uj_i]) (by unfold clN; simp (disch := omega) only [ui_s, uj_s, ui_o, ui_k, uj_o, uj_k, ui_j, uj_i])).elim fun a z => ⟨a, z.1, fun k hk => by
      have y := z.2 k hk
      simp only [show ¬ 34 = k by omega, if_false] at y
      rw [if_neg (by omega)]
      exact y⟩)⟩
def adX (x : zM) (t k i : Nat) : zM := z_ui (z_ui (z_ui (z_ui (z_ui x (22 + 8 * t) i 2) (20 + 8 * t) k ((x.1 (20 + 8 * t) k) - 1)) (19 + 8 * t) 5 ((x.1 (19 + 8 * t) 5) - 1)) 0 15 (nI k)) 0 7 3
def adM (m : zM) (t k i : Nat) : zM := z_ui (z_ui (z_giv (z_ui m 62 (4 * t + i) 2) t k (-1)) 50 49 (nI k)) 50 44 3
theorem sub1 (x : Int32) : x - 1 = x + -1 := i2 (by decide)
theorem ofv_3 {w k : Int32} {so so' lo : Nat → Int32} {i : Nat} : ∀ n, (∀ j, j ≠ i → so' j = so j) → so i = 1 → so' i = 2 → lo i = k → ofv w so' lo k n = (if i < n then ofv w so lo k n + 1 else ofv w so lo k n)
  | 0, _, _, _, _ => rfl
  | n + 1, h, h1, h2, h3 => by
    show ofv w so' lo k n + ct (so' n) (lo n) k = _
    rw [ofv_3 n h h1 h2 h3, show ofv w so lo k (n + 1) = ofv w so lo k n + ct (so n) (lo n) k from rfl]
    by_cases e : n = i
    · rw [if_neg (by omega), if_pos (by omega), e, h1, h2, h3, show ct 2 k k = 4 from by unfold ct; rw [if_neg (by decide), if_pos rfl, if_neg (by decide)], show ct 1 k k = 3 from by unfold ct; rw [if_neg (by decide), if_pos rfl, if_pos rfl], Int32.add_assoc]
      rfl
    · rw [h n e]
      by_cases e2 : i < n
      · rw [if_pos e2, if_pos (by omega), Int32.add_assoc, Int32.add_comm 1, ← Int32.add_assoc]
      · rw [if_neg e2, if_neg (by omega)]
theorem ofv_4 {w k : Int32} {so so' lo : Nat → Int32} {i : Nat} : ∀ n, (∀ j, j ≠ i → so' j = so j) → so i = 1 → so' i = 2 → ¬ lo i = k → ofv w so' lo k n = ofv w so lo k n
  | 0, _, _, _, _ => rfl
  | n + 1, h, h1, h2, h3 => by
    show ofv w so' lo k n + ct (so' n) (lo n) k = ofv w so lo k n + ct (so n) (lo n) k
    rw [ofv_4 n h h1 h2 h3]
    by_cases e : n = i
    · rw [e, h1, h2, show ct 2 (lo i) k = 0 from by unfold ct; rw [if_neg (by decide), if_neg h3], show ct 1 (lo i) k = 0 from by unfold ct; rw [if_neg (by decide), if_neg h3]]
    · rw [h n e]
theorem rc_added {x m : zM} (R : RCl x m) {t k i q : Nat} (ht : t < 4) (hk : k < 34) (hq : q ≤ 4) (hi : i < q) (e64 : m.1 64 t = nI q) (h62 : m.1 62 (4 * t + i) = 1) (h63 : m.1 63 (4 * t + i) = nI k) (hm4 : ∀ j, j < 4 → (m.1 64 j).toNatClampNeg ≤ 4) : RCl (adX x t k i) (adM m t k i) := by
  have e62 : ∀ j, j < 4 → j ≠ t → ∀ n, n < 4 → (adM m t k i).1 62 (4 * j + n) = m.1 62 (4 * j + n) := fun j _ _ n _ => by unfold adM z_giv; simp (disch := omega) only [ui_s, uj_s, ui_o, ui_k, uj_o, uj_k, ui_j, uj_i]
  have e62t : ∀ n, n ≠ i → (adM m t k i).1 62 (4 * t + n) = m.1 62 (4 * t + n) := fun n _ => by unfold adM z_giv; simp (disch := omega) only [ui_s, uj_s, ui_o, ui_k, uj_o, uj_k, ui_j, uj_i]
  have e62i : (adM m t k i).1 62 (4 * t + i) = 2 := by unfold adM z_giv; simp (disch := omega) only [ui_s, uj_s, ui_o, ui_k, uj_o, uj_k, ui_j, uj_i]
  have e63 : ∀ n, (adM m t k i).1 63 n = m.1 63 n := fun n => by unfold adM z_giv; simp (disch := omega) only [ui_s, uj_s, ui_o, ui_k, uj_o, uj_k, ui_j, uj_i]
  have e60 : ∀ j n, n < 34 → (¬ (j = t ∧ n = k)) → (adM m t k i).1 60 (34 * j + n) = m.1 60 (34 * j + n) := fun j n _ _ => by unfold adM z_giv; simp (disch := omega) only [ui_s, uj_s, ui_o, ui_k, uj_o, uj_k, ui_j, uj_i]
  have e60t : (adM m t k i).1 60 (34 * t + k) = m.1 60 (34 * t + k) + -1 := by unfold adM z_giv; simp (disch := omega) only [ui_s, uj_s, ui_o, ui_k, uj_o, uj_k, ui_j, uj_i]
  have e64' : ∀ j, (adM m t k i).1 64 j = m.1 64 j := fun j => by unfold adM z_giv; simp (disch := omega) only [ui_s, uj_s, ui_o, ui_k, uj_o, uj_k, ui_j, uj_i]
  have hAl : ∀ s k2, s < 4 → k2 < 34 → (adX x t k i).1 (21 + 8 * s) k2 = x.1 (21 + 8 * s) k2 := fun s k2 _ _ => by unfold adX; simp (disch := omega) only [ui_s, uj_s, ui_o, ui_k, uj_o, uj_k, ui_j, uj_i]
  have hal : ∀ s k2, s < 4 → k2 < 34 → (adX x t k i).1 (21 + 8 * s) k2 = ofv ((adM m t k i).1 60 (34 * s + k2)) (fun n => (adM m t k i).1 62 (4 * s + n)) (fun n => (adM m t k i).1 63 (4 * s + n)) (nI k2) ((adM m t k i).1 64 s).toNatClampNeg := fun s k2 h0 h1 => by
    rw [hAl s k2 h0 h1, R.al s k2 h0 h1, e64' s, show (fun n => (adM m t k i).1 63 (4 * s + n)) = (fun n => m.1 63 (4 * s + n)) from funext fun n => e63 _]
    by_cases e : s = t
    · subst e
      have hlt : i < (m.1 64 s).toNatClampNeg := by rw [e64, nI_clamp (by omega)]; exact hi
      by_cases e2 : k2 = k
      · subst e2
        rw [e60t, ofv_add, ofv_3 (so := fun n => m.1 62 (4 * s + n)) (i := i) _ (fun j hj => e62t j hj) h62 e62i h63, if_pos hlt, Int32.add_assoc, show (1 : Int32) + -1 = 0 from rfl, Int32.add_zero]
      · rw [e60 s k2 h1 (fun z => e2 z.2), ofv_4 (so := fun n => m.1 62 (4 * s + n)) (i := i) _ (fun j hj => e62t j hj) h62 e62i (fun z => e2 ((nI_eq (a := k) (b := k2) (by omega) (by omega)).mp (h63.symm.trans z)).symm)]
    · rw [e60 s k2 h1 (fun z => e z.1)]
      exact (ofv_cg _ (fun n hn => ⟨e62 s h0 e n (Nat.lt_of_lt_of_le hn (hm4 s h0)), rfl⟩)).symm
  have hsv : ∀ s n, s < 4 → n < ((adM m t k i).1 64 s).toNatClampNeg → SVd ((adM m t k i).1 62 (4 * s + n)) ((adM m t k i).1 63 (4 * s + n)) := fun s n h0 h1 => by
    rw [e64' s] at h1
    rw [e63]
    by_cases e : s = t
    · subst e
      by_cases e2 : n = i
      · rw [e2, e62i, h63]; exact svd_n ⟨by decide, by decide⟩ (by decide) hk
      · rw [e62t n e2]; exact R.sv s n h0 h1
    · rw [e62 s h0 e n (Nat.lt_of_lt_of_le h1 (hm4 s h0))]; exact R.sv s n h0 h1
  have hlz : ∀ s, s < 4 → (adX x t k i).1 (19 + 8 * s) 5 = sm (fun n => (adM m t k i).1 60 (34 * s + n)) 34 := fun s h0 => by
    by_cases e : s = t
    · subst e
      rw [show (adX x s k i).1 (19 + 8 * s) 5 = x.1 (19 + 8 * s) 5 - 1 from by unfold adX; simp (disch := omega) only [ui_s, uj_s, ui_o, ui_k, uj_o, uj_k, ui_j, uj_i], R.lz s h0, sub1]
      exact (sm_up9 hk (fun j hj hn => e60 s j hj (fun z => hn z.2)) e60t).symm
    · rw [show (adX x t k i).1 (19 + 8 * s) 5 = x.1 (19 + 8 * s) 5 from by unfold adX; simp (disch := omega) only [ui_s, uj_s, ui_o, ui_k, uj_o, uj_k, ui_j, uj_i], R.lz s h0]
      exact sm_cg (fun j hj => (e60 s j hj (fun z => e z.1)).symm)
  unfold adX adM z_giv at *
  exact ⟨(by simp (disch := omega) only [ui_s, uj_s, ui_o, ui_k, uj_o, uj_k, ui_j, uj_i]; exact R.dl), (by simp (disch := omega) only [ui_s, uj_s, ui_o, ui_k, uj_o, uj_k, ui_j, uj_i]; exact R.rn), (by simp (disch := omega) only [ui_s, uj_s, ui_o, ui_k, uj_o, uj_k, ui_j, uj_i]; exact R.st), (by simp (disch := omega) only [ui_s, uj_s, ui_o, ui_k, uj_o, uj_k, ui_j, uj_i]; exact R.bt), (by simp (disch := omega) only [ui_s, uj_s, ui_o, ui_k, uj_o, uj_k, ui_j, uj_i]; exact R.en), (by simp (disch := omega) only [ui_s, uj_s, ui_o, ui_k, uj_o, uj_k, ui_j, uj_i]; exact R.he), (by simp (disch := omega) only [ui_s, uj_s, ui_o, ui_k, uj_o, uj_k, ui_j, uj_i]; exact R.wc), (by simp (disch := omega) only [ui_s, uj_s, ui_o, ui_k, uj_o, uj_k, ui_j, uj_i]; exact R.sd), (by simp (disch := omega) only [ui_s, uj_s, ui_o, ui_k, uj_o, uj_k, ui_j, uj_i]; exact R.nx), fun i h0 => by simp (disch := omega) only [ui_s, uj_s, ui_o, ui_k, uj_o, uj_k, ui_j, uj_i]; exact R.wl i h0, fun s h0 => by simp (disch := omega) only [ui_s, uj_s, ui_o, ui_k, uj_o, uj_k, ui_j, uj_i]; exact R.pt s h0, fun s h0 => by simp (disch := omega) only [ui_s, uj_s, ui_o, ui_k, uj_o, uj_k, ui_j, uj_i]; exact R.be s h0, fun s h0 => by simp (disch := omega) only [ui_s, uj_s, ui_o, ui_k, uj_o, uj_k, ui_j, uj_i]; exact R.ao s h0, fun s h0 => by simp (disch := omega) only [ui_s, uj_s, ui_o, ui_k, uj_o, uj_k, ui_j, uj_i]; exact R.lg s h0, fun s h0 => by simp (disch := omega) only [ui_s, uj_s, ui_o, ui_k, uj_o, uj_k, ui_j, uj_i]; exact R.sy s h0, fun s h0 => by simp (disch := omega) only [ui_s, uj_s, ui_o, ui_k, uj_o, uj_k, ui_j, uj_i]; exact R.ds s h0, fun s h0 => by simp (disch := omega) only [ui_s, uj_s, ui_o, ui_k, uj_o, uj_k, ui_j, uj_i]; exact R.lm s h0, (fun s k2 h0 h1 => by
      by_cases e : s = t
      · subst e
        by_cases e2 : k2 = k
        · subst e2; simp (disch := omega) only [ui_s, uj_s, ui_o, ui_k, uj_o, uj_k, ui_j, uj_i]; rw [R.hd s k2 h0 h1, sub1]
        · simp (disch := omega) only [ui_s, uj_s, ui_o, ui_k, uj_o, uj_k, ui_j, uj_i]; exact R.hd s k2 h0 h1
      · simp (disch := omega) only [ui_s, uj_s, ui_o, ui_k, uj_o, uj_k, ui_j, uj_i]; exact R.hd s k2 h0 h1), (fun s n h0 h1 => by
      by_cases e : s = t
      · subst e
        by_cases e2 : n = i
        · subst e2; simp (disch := omega) only [ui_s, uj_s, ui_o, ui_k, uj_o, uj_k, ui_j, uj_i]
        · simp (disch := omega) only [ui_s, uj_s, ui_o, ui_k, uj_o, uj_k, ui_j, uj_i]; exact R.so s n h0 h1
      · simp (disch := omega) only [ui_s, uj_s, ui_o, ui_k, uj_o, uj_k, ui_j, uj_i]; exact R.so s n h0 h1), fun s i h0 h1 => by simp (disch := omega) only [ui_s, uj_s, ui_o, ui_k, uj_o, uj_k, ui_j, uj_i]; exact R.lo s i h0 h1, fun s i h0 h1 => by simp (disch := omega) only [ui_s, uj_s, ui_o, ui_k, uj_o, uj_k, ui_j, uj_i]; exact R.rv s i h0 h1, fun i f h0 h1 h2 => by simp (disch := omega) only [ui_s, uj_s, ui_o, ui_k, uj_o, uj_k, ui_j, uj_i]; exact R.wi i f h0 h1 h2, fun i h0 => by simp (disch := omega) only [ui_s, uj_s, ui_o, ui_k, uj_o, uj_k, ui_j, uj_i]; exact R.wf i h0, hal, hlz, hsv, fun s h0 => by simp (disch := omega) only [ui_s, uj_s, ui_o, ui_k, uj_o, uj_k, ui_j, uj_i]; rw [R.tk s h0]; exact congrArg (fun f => kb f 34) (tkM_cg (R.rb s h0) (fun i hi => by simp (disch := omega) only [ui_s, uj_s, ui_o, ui_k, uj_o, uj_k, ui_j, uj_i]) (by simp (disch := omega) only [ui_s, uj_s, ui_o, ui_k, uj_o, uj_k, ui_j, uj_i])), fun s h0 => by simp (disch := omega) only [ui_s, uj_s, ui_o, ui_k, uj_o, uj_k, ui_j, uj_i]; exact R.rb s h0, fun s i h0 h1 => by simp (disch := omega) only [ui_s, uj_s, ui_o, ui_k, uj_o, uj_k, ui_j, uj_i] at h1 ⊢; exact R.rk s i h0 h1, (by simp (disch := omega) only [ui_s, uj_s, ui_o, ui_k, uj_o, uj_k, ui_j, uj_i]; exact R.rd), fun s h0 => by simp (disch := omega) only [ui_s, uj_s, ui_o, ui_k, uj_o, uj_k, ui_j, uj_i]; exact R.bb s h0, fun z => by simp (disch := omega) only [ui_s, uj_s, ui_o, ui_k, uj_o, uj_k, ui_j, uj_i] at z ⊢; exact R.wp z⟩
theorem rp_added {x m : zM} {t k i c : Nat} (P : RPh x m 1 t c) (hk : k < 34) (hi : i < 4) (hu : m.1 50 56 = 0) (ha3 : ¬ x.1 (21 + 8 * t) k = 0) : RPh (adX x t k i) (adM m t k i) 3 t k := by
  have ht := P.t4
  have hne : ¬ k = 34 := by omega
  unfold adX adM z_giv
  exact ⟨(by simp (disch := omega) only [ui_s, uj_s, ui_o, ui_k, uj_o, uj_k, ui_j, uj_i]; exact P.fo), (by simp (disch := omega) only [ui_s, uj_s, ui_o, ui_k, uj_o, uj_k, ui_j, uj_i]; rfl), (by simp (disch := omega) only [ui_s, uj_s, ui_o, ui_k, uj_o, uj_k, ui_j, uj_i]; rfl), (by simp (disch := omega) only [ui_s, uj_s, ui_o, ui_k, uj_o, uj_k, ui_j, uj_i]; exact P.tx), (by simp (disch := omega) only [ui_s, uj_s, ui_o, ui_k, uj_o, uj_k, ui_j, uj_i]; exact P.tm), ht, Or.inr (Or.inr rfl), (by simp (disch := omega) only [ui_s, uj_s, ui_o, ui_k, uj_o, uj_k, ui_j, uj_i]; rw [if_neg hne]), (by simp (disch := omega) only [ui_s, uj_s, ui_o, ui_k, uj_o, uj_k, ui_j, uj_i]; rw [if_neg hne]), Or.inl hk, fun z => absurd z (by decide), (by simp (disch := omega) only [ui_s, uj_s, ui_o, ui_k, uj_o, uj_k, ui_j, uj_i]; exact P.br), (by simp (disch := omega) only [ui_s, uj_s, ui_o, ui_k, uj_o, uj_k, ui_j, uj_i]; exact P.us), fun z => absurd z (by decide), fun z => absurd z (by decide), fun z => absurd z (by decide), fun z => absurd z (by decide), fun _ => by simp (disch := omega) only [ui_s, uj_s, ui_o, ui_k, uj_o, uj_k, ui_j, uj_i]; exact ha3, fun s h0 => by simp (disch := omega) only [ui_s, uj_s, ui_o, ui_k, uj_o, uj_k, ui_j, uj_i]; exact P.ow s h0, fun _ => by simp (disch := omega) only [ui_s, uj_s, ui_o, ui_k, uj_o, uj_k, ui_j, uj_i]; exact P.o1 (by decide), (by simp (disch := omega) only [ui_s, uj_s, ui_o, ui_k, uj_o, uj_k, ui_j, uj_i]; exact P.is), (by simp (disch := omega) only [ui_s, uj_s, ui_o, ui_k, uj_o, uj_k, ui_j, uj_i]; exact P.s0), fun z => absurd z (by decide), (by simp (disch := omega) only [ui_s, uj_s, ui_o, ui_k, uj_o, uj_k, ui_j, uj_i]; exact P.w0), fun s h0 => by simp (disch := omega) only [ui_s, uj_s, ui_o, ui_k, uj_o, uj_k, ui_j, uj_i]; exact P.dn s h0, fun z => absurd (by simp (disch := omega) only [ui_s, uj_s, ui_o, ui_k, uj_o, uj_k, ui_j, uj_i]; exact hu) z, fun _ z => absurd z (by decide), (P.tc.elim fun a z => ⟨a, fun s k2 h0 h2 => by simp (disch := omega) only [ui_s, uj_s, ui_o, ui_k, uj_o, uj_k, ui_j, uj_i]; exact z.1 s k2 h0 h2, fun k2 h2 => by
      have y := z.2 k2 h2
      rw [if_neg (by omega)] at y
      rw [if_neg (by omega), fW_cg (m := m) (fun i => by simp (disch := omega) only [ui_s, uj_s, ui_o, ui_k, uj_o, uj_k, ui_j, uj_i])]
      simp (disch := omega) only [ui_s, uj_s, ui_o, ui_k, uj_o, uj_k, ui_j, uj_i]
      exact y⟩)⟩
