/-! the relation holds behind a deal -/
set_option maxRecDepth 8000
def dlN (μ3 : zM) : zM := z_ui (z_ui (z_ui (z_ui (z_ui (z_ui (z_ui (z_ui (z_ui (z_ui (z_ui (z_ui (z_ui (z_ui (z_ui (z_ui (z_ui (z_ui (z_ui (z_ui (z_ui (z_ui (z_ui (z_ui (z_ui (z_ui (z_ui (z_ui (z_ui (z_ui (z_ui (z_ui (z_ui (z_ui (z_ui μ3 64 0 0) 66 0 0) 67 0 0) 68 0 0) 69 0 0) 70 0 0) 71 0 0) 64 1 0) 66 1 0) 67 1 0) 68 1 0) 69 1 0) 70 1 0) 71 1 0) 64 2 0) 66 2 0) 67 2 0) 68 2 0) 69 2 0) 70 2 0) 71 2 0) 64 3 0) 66 3 0) 67 3 0) 68 3 0) 69 3 0) 70 3 0) 71 3 0) 50 46 52) 50 47 0) 50 48 0) 50 53 0) 50 56 1) 50 59 0) 50 55 1
theorem dlM_n (m : zM) (dl : Nat) (sd : Int64) : dlM m dl sd = dM0 (dlN m) dl 52 (wlN sd 52) := rfl
theorem cW_spl {f : Nat → Int32} {a k n : Nat} : ∀ j, cW f a k (n + j) = cW f a k n + cW f (a + n) k j
  | 0 => rfl
  | j + 1 => by
    show cW f a k (n + j) + (if f (a + (n + j)) = nI k then 1 else 0) = cW f a k n + (cW f (a + n) k j + (if f (a + n + j) = nI k then 1 else 0))
    rw [cW_spl j, Nat.add_assoc a n j, Nat.add_assoc]
theorem cW_52 {f : Nat → Int32} {k : Nat} : cW f 0 k 52 = cW f (13 * 0) k 13 + cW f (13 * 1) k 13 + cW f (13 * 2) k 13 + cW f (13 * 3) k 13 := by
  have e1 : cW f 0 k 52 = cW f 0 k 39 + cW f (0 + 39) k 13 := cW_spl (n := 39) 13
  have e2 : cW f 0 k 39 = cW f 0 k 26 + cW f (0 + 26) k 13 := cW_spl (n := 26) 13
  have e3 : cW f 0 k 26 = cW f 0 k 13 + cW f (0 + 13) k 13 := cW_spl (n := 13) 13
  rw [e1, e2, e3]
theorem cW_sum {sd : Int64} {a : Nat} : ∀ n, a + n ≤ 136 → sm (fun k => nI (cW (wlF sd) a k n)) 34 = nI n
  | 0, _ => by
    rw [show (fun k => nI (cW (wlF sd) a k 0)) = (fun _ => 0) from funext fun k => rfl, sm_z9]; rfl
  | n + 1, h => by
    have w := wlN_e sd (k := a + n) (by omega)
    rw [sm_up9 (g := fun k => nI (cW (wlF sd) a k n)) (d := 1) w.2 (fun j hj e => by rw [cW_s w.2 hj w.1, if_neg e, Nat.add_zero]) (by rw [cW_s w.2 w.2 w.1, if_pos rfl, nI_s1]), cW_sum n (by omega), nI_s1]
/-- a SEAT's place behind the dealer -/
theorem seat_p {dl s : Nat} (hd : dl < 4) (hs : s < 4) : ∃ p, p < 4 ∧ (dl + p) % 4 = s := ⟨(s + 4 - dl) % 4, Nat.mod_lt _ (by decide), by omega⟩
def DLR (x m : zM) (dl : Nat) (sd : Int64) (x3 m3 : zM) : Prop := (DLX dl sd x x3) ∧ (DLM dl sd (z_ui m 50 0 0) m3)
theorem DLR.hx {x m : zM} {dl : Nat} {sd : Int64} {x3 m3 : zM} (h : DLR x m dl sd x3 m3) : DLX dl sd x x3 := h.1
theorem DLR.hm {x m : zM} {dl : Nat} {sd : Int64} {x3 m3 : zM} (h : DLR x m dl sd x3 m3) : DLM dl sd (z_ui m 50 0 0) m3 := h.2
theorem rc_dealt {x m x3 m3 : zM} {dl : Nat} {sd : Int64} (R : RCl x m) (D : DLR x m dl sd x3 m3) (hdl : dl < 4) : RCl (z_ui (z_ui x3 0 6 0) 0 17 0) (dlN m3) := by
  obtain ⟨μb, hC, b3, b21, b22, b23, bf, bj⟩ := D.hx
  obtain ⟨m1, m2, m3f, m4⟩ := D.hm
  have X : ∀ r k, (r < 18 ∨ r % 8 = 6 ∨ r % 8 = 7 ∨ r % 8 = 0 ∨ r % 8 = 1 ∨ (r % 8 = 2 ∧ k = 4)) → r ≠ 3 → r ≠ 2 → x3.1 r k = x.1 r k := fun r k h h1 h2 => (hC.2.1 r k (by omega)).trans (bf r k h1 (Or.inl h2))
  have Y : ∀ r k, (r < 18 ∨ k ≠ 3) → x3.2.1 r k = x.2.1 r k := fun r k h => by rw [hC.2.2 r k (by omega), bj]
  have M : ∀ r k, r ≠ 59 → r ≠ 60 → (r ≠ 50 ∨ k ≠ 0) → m3.1 r k = m.1 r k := fun r k h1 h2 h3 => by
    rw [m3f r k h1 h2]
    rcases h3 with h3 | h3
    · exact ui_o h3
    · exact ui_k h3
  have N : ∀ r k, m3.2.1 r k = m.2.1 r k := fun r k => by rw [m4]; rfl
  have SD : ∀ s, s < 4 → ∃ p, p < 4 ∧ (dl + p) % 4 = s ∧ SDx (wlF sd) x3 s p := fun s hs => by
    obtain ⟨p, h1, h2⟩ := seat_p hdl hs
    exact ⟨p, h1, h2, h2 ▸ hC.1 p h1⟩
  have z64 : ∀ s, s < 4 → (dlN m3).1 64 s = 0 := fun s hs => by
    unfold dlN
    obtain rfl | rfl | rfl | rfl : s = 0 ∨ s = 1 ∨ s = 2 ∨ s = 3 := by omega
    all_goals (simp (disch := omega) only [ui_s, uj_s, ui_o, ui_k, uj_o, uj_k, ui_j, uj_i])
  have z66 : ∀ s, s < 4 → (dlN m3).1 66 s = 0 := fun s hs => by
    unfold dlN
    obtain rfl | rfl | rfl | rfl : s = 0 ∨ s = 1 ∨ s = 2 ∨ s = 3 := by omega
    all_goals (simp (disch := omega) only [ui_s, uj_s, ui_o, ui_k, uj_o, uj_k, ui_j, uj_i])
  have z67 : ∀ s, s < 4 → (dlN m3).1 67 s = 0 := fun s hs => by
    unfold dlN
    obtain rfl | rfl | rfl | rfl : s = 0 ∨ s = 1 ∨ s = 2 ∨ s = 3 := by omega
    all_goals (simp (disch := omega) only [ui_s, uj_s, ui_o, ui_k, uj_o, uj_k, ui_j, uj_i])
  have z69 : ∀ s, s < 4 → (dlN m3).1 69 s = 0 := fun s hs => by
    unfold dlN
    obtain rfl | rfl | rfl | rfl : s = 0 ∨ s = 1 ∨ s = 2 ∨ s = 3 := by omega
    all_goals (simp (disch := omega) only [ui_s, uj_s, ui_o, ui_k, uj_o, uj_k, ui_j, uj_i])
  have z70 : ∀ s, s < 4 → (dlN m3).1 70 s = 0 := fun s hs => by
    unfold dlN
    obtain rfl | rfl | rfl | rfl : s = 0 ∨ s = 1 ∨ s = 2 ∨ s = 3 := by omega
    all_goals (simp (disch := omega) only [ui_s, uj_s, ui_o, ui_k, uj_o, uj_k, ui_j, uj_i])
  have z71 : ∀ s, s < 4 → (dlN m3).1 71 s = 0 := fun s hs => by
    unfold dlN
    obtain rfl | rfl | rfl | rfl : s = 0 ∨ s = 1 ∨ s = 2 ∨ s = 3 := by omega
    all_goals (simp (disch := omega) only [ui_s, uj_s, ui_o, ui_k, uj_o, uj_k, ui_j, uj_i])
  have z60 : ∀ s k, s < 4 → k < 34 → (dlN m3).1 60 (34 * s + k) = nI (mC dl (wlF sd) s k 52) := fun s k hs hk => by unfold dlN; simp (disch := omega) only [ui_s, uj_s, ui_o, ui_k, uj_o, uj_k, ui_j, uj_i]; exact m2 s k hs hk
  have z59 : ∀ i, i < 136 → (dlN m3).1 59 i = wlF sd i := fun i hi => by unfold dlN; simp (disch := omega) only [ui_s, uj_s, ui_o, ui_k, uj_o, uj_k, ui_j, uj_i]; exact m1 i hi
  have zf : ∀ r k, r ≠ 59 → r ≠ 60 → r ≠ 64 → r ≠ 66 → r ≠ 67 → r ≠ 68 → r ≠ 69 → r ≠ 70 → r ≠ 71 → (r ≠ 50 ∨ (40 ≤ k ∧ k ≤ 43) ∨ k = 52 ∨ k = 54) → (dlN m3).1 r k = m.1 r k := fun r k h1 h2 h3 h4 h5 h6 h7 h8 h9 h0 => by
    refine Eq.trans ?_ (M r k h1 h2 (by omega))
    unfold dlN
    by_cases e : r = 50
    · subst e; simp (disch := omega) only [ui_s, uj_s, ui_o, ui_k, uj_o, uj_k, ui_j, uj_i]
    · simp (disch := omega) only [ui_s, uj_s, ui_o, ui_k, uj_o, uj_k, ui_j, uj_i]
  have zj : ∀ r k, (dlN m3).2.1 r k = m.2.1 r k := fun r k => by unfold dlN; simp (disch := omega) only [ui_s, uj_s, ui_o, ui_k, uj_o, uj_k, ui_j, uj_i]; exact N r k
  have zM : ∀ k, k = 53 ∨ k = 55 ∨ k = 46 → (dlN m3).1 50 k = (if k = 53 then 0 else if k = 55 then 1 else 52) := fun k hk => by
    unfold dlN
    obtain rfl | rfl | rfl := hk
    all_goals (simp (disch := omega) only [ui_s, uj_s, ui_o, ui_k, uj_o, uj_k, ui_j, uj_i]; rfl)
  exact ⟨(by simp (disch := omega) only [ui_s, uj_s, ui_o, ui_k, uj_o, uj_k, ui_j, uj_i]; rw [X 0 9 (by omega) (by omega) (by omega), zf 50 40 (by omega) (by omega) (by omega) (by omega) (by omega) (by omega) (by omega) (by omega) (by omega) (by omega)]; exact R.dl), (by simp (disch := omega) only [ui_s, uj_s, ui_o, ui_k, uj_o, uj_k, ui_j, uj_i]; rw [X 0 10 (by omega) (by omega) (by omega), zf 50 41 (by omega) (by omega) (by omega) (by omega) (by omega) (by omega) (by omega) (by omega) (by omega) (by omega)]; exact R.rn), (by simp (disch := omega) only [ui_s, uj_s, ui_o, ui_k, uj_o, uj_k, ui_j, uj_i]; rw [X 0 11 (by omega) (by omega) (by omega), zf 50 42 (by omega) (by omega) (by omega) (by omega) (by omega) (by omega) (by omega) (by omega) (by omega) (by omega)]; exact R.st), (by simp (disch := omega) only [ui_s, uj_s, ui_o, ui_k, uj_o, uj_k, ui_j, uj_i]; rw [X 0 12 (by omega) (by omega) (by omega), zf 50 43 (by omega) (by omega) (by omega) (by omega) (by omega) (by omega) (by omega) (by omega) (by omega) (by omega)]; exact R.bt), (by simp (disch := omega) only [ui_s, uj_s, ui_o, ui_k, uj_o, uj_k, ui_j, uj_i]; rw [X 0 13 (by omega) (by omega) (by omega), zf 50 54 (by omega) (by omega) (by omega) (by omega) (by omega) (by omega) (by omega) (by omega) (by omega) (by omega)]; exact R.en), (by simp (disch := omega) only [ui_s, uj_s, ui_o, ui_k, uj_o, uj_k, ui_j, uj_i]; rw [X 0 14 (by omega) (by omega) (by omega), zf 50 52 (by omega) (by omega) (by omega) (by omega) (by omega) (by omega) (by omega) (by omega) (by omega) (by omega)]; exact R.he), (by simp (disch := omega) only [ui_s, uj_s, ui_o, ui_k, uj_o, uj_k, ui_j, uj_i]; rw [zM 53 (by omega)]; rfl), (by simp (disch := omega) only [ui_s, uj_s, ui_o, ui_k, uj_o, uj_k, ui_j, uj_i]; rw [hC.2.1 2 1 (by omega), b21, zM 55 (by omega)]; rfl), (by simp (disch := omega) only [ui_s, uj_s, ui_o, ui_k, uj_o, uj_k, ui_j, uj_i]; rw [hC.2.1 2 2 (by omega), b22, zM 46 (by omega)]; rfl), fun i h0 => by simp (disch := omega) only [ui_s, uj_s, ui_o, ui_k, uj_o, uj_k, ui_j, uj_i]; rw [hC.2.1 3 i (by omega), b3 i h0, z59 i h0], fun s h0 => by simp (disch := omega) only [ui_s, uj_s, ui_o, ui_k, uj_o, uj_k, ui_j, uj_i]; rw [X _ 4 (by omega) (by omega) (by omega), zf 61 s (by omega) (by omega) (by omega) (by omega) (by omega) (by omega) (by omega) (by omega) (by omega) (by omega)]; exact R.pt s h0, fun s h0 => by obtain ⟨p, _, _, z⟩ := SD s h0; simp (disch := omega) only [ui_s, uj_s, ui_o, ui_k, uj_o, uj_k, ui_j, uj_i]; rw [z67 s h0]; exact z.2.2.2.2.1, fun s h0 => by obtain ⟨p, _, _, z⟩ := SD s h0; simp (disch := omega) only [ui_s, uj_s, ui_o, ui_k, uj_o, uj_k, ui_j, uj_i]; rw [z69 s h0]; exact z.2.2.2.2.2.2.1, fun s h0 => by obtain ⟨p, _, _, z⟩ := SD s h0; simp (disch := omega) only [ui_s, uj_s, ui_o, ui_k, uj_o, uj_k, ui_j, uj_i]; rw [z70 s h0]; exact z.2.2.2.2.2.2.2.1, fun s h0 => by obtain ⟨p, _, _, z⟩ := SD s h0; simp (disch := omega) only [ui_s, uj_s, ui_o, ui_k, uj_o, uj_k, ui_j, uj_i]; rw [z71 s h0]; exact z.2.2.2.2.2.2.2.2.1, fun s h0 => by obtain ⟨p, _, _, z⟩ := SD s h0; simp (disch := omega) only [ui_s, uj_s, ui_o, ui_k, uj_o, uj_k, ui_j, uj_i]; rw [z66 s h0]; exact z.2.2.2.1, fun s h0 => by obtain ⟨p, _, _, z⟩ := SD s h0; simp (disch := omega) only [ui_s, uj_s, ui_o, ui_k, uj_o, uj_k, ui_j, uj_i]; rw [z64 s h0]; exact z.2.1, fun s k h0 h1 => by obtain ⟨p, hp, e, z⟩ := SD s h0; simp (disch := omega) only [ui_s, uj_s, ui_o, ui_k, uj_o, uj_k, ui_j, uj_i]; rw [z60 s k h0 h1, mC_52 hdl hp e]; exact (z.1 k h1).1, fun s i h0 h1 => by simp (disch := omega) only [ui_s, uj_s, ui_o, ui_k, uj_o, uj_k, ui_j, uj_i]; rw [X _ i (by omega) (by omega) (by omega), zf 62 _ (by omega) (by omega) (by omega) (by omega) (by omega) (by omega) (by omega) (by omega) (by omega) (by omega)]; exact R.so s i h0 h1, fun s i h0 h1 => by simp (disch := omega) only [ui_s, uj_s, ui_o, ui_k, uj_o, uj_k, ui_j, uj_i]; rw [X _ i (by omega) (by omega) (by omega), zf 63 _ (by omega) (by omega) (by omega) (by omega) (by omega) (by omega) (by omega) (by omega) (by omega) (by omega)]; exact R.lo s i h0 h1, fun s i h0 h1 => by simp (disch := omega) only [ui_s, uj_s, ui_o, ui_k, uj_o, uj_k, ui_j, uj_i]; rw [X _ i (by omega) (by omega) (by omega), zf 65 _ (by omega) (by omega) (by omega) (by omega) (by omega) (by omega) (by omega) (by omega) (by omega) (by omega)]; exact R.rv s i h0 h1, fun i f h0 h1 h2 => by simp (disch := omega) only [ui_s, uj_s, ui_o, ui_k, uj_o, uj_k, ui_j, uj_i]; rw [X _ f (by omega) (by omega) (by omega), zf 72 _ (by omega) (by omega) (by omega) (by omega) (by omega) (by omega) (by omega) (by omega) (by omega) (by omega)]; exact R.wi i f h0 h1 h2, fun i h0 => by simp (disch := omega) only [ui_s, uj_s, ui_o, ui_k, uj_o, uj_k, ui_j, uj_i]; rw [Y _ 7 (by omega), zj]; exact R.wf i h0, (fun s k h0 h1 => by
      obtain ⟨p, hp, e, z⟩ := SD s h0
      simp (disch := omega) only [ui_s, uj_s, ui_o, ui_k, uj_o, uj_k, ui_j, uj_i]
      rw [z64 s h0, z60 s k h0 h1, mC_52 hdl hp e]
      exact (z.1 k h1).2), (fun s h0 => by
      obtain ⟨p, hp, e, z⟩ := SD s h0
      simp (disch := omega) only [ui_s, uj_s, ui_o, ui_k, uj_o, uj_k, ui_j, uj_i]
      rw [z.2.2.1, ← cW_sum (sd := sd) (a := 13 * p) 13 (by omega)]
      exact sm_cg (fun k hk => by rw [z60 s k h0 hk, mC_52 hdl hp e])), fun s i h0 h1 => by rw [z64 s h0] at h1; exact absurd (show i < 0 from h1) (Nat.not_lt_zero _), (fun s h0 => by
      obtain ⟨p, hp, e, z⟩ := SD s h0
      simp (disch := omega) only [ui_s, uj_s, ui_o, ui_k, uj_o, uj_k, ui_j, uj_i]
      rw [z.2.2.2.2.2.2.2.2.2]
      exact (kb_0 34 (fun b _ => by unfold tkM; rw [z66 s h0]; rfl)).symm), fun s h0 => by rw [z66 s h0]; decide, fun s i h0 h1 => by rw [z66 s h0, show (0 : Int32).toNatClampNeg = 0 from by decide] at h1; exact absurd h1 (by omega), (by rw [zf 50 41 (by omega) (by omega) (by omega) (by omega) (by omega) (by omega) (by omega) (by omega) (by omega) (by omega)]; exact R.rd), fun s h0 => Or.inl (z67 s h0), fun _ => ⟨sd, z59⟩⟩
