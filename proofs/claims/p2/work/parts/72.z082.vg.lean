/-! a SET is claimed: both games behind it -/
set_option maxRecDepth 8000
theorem h56_t (m : zM) : (toM m).1 50 56 = 0 := by unfold toM; rw [ui_o (by decide), ui_o (by decide), ui_o (by decide), ui_o (by decide), ui_s]
theorem t64_t (m : zM) (j : Nat) : (toM m).1 64 j = m.1 64 j := toM_o ⟨by decide, Or.inl (by decide)⟩
theorem t50_t (m : zM) {k : Nat} (h : k ≠ 56) : (toM m).1 50 k = m.1 50 k := toM_o ⟨by decide, Or.inr h⟩
theorem rg_three {x m : zM} {s c q : Nat} (R : RCl x m) (Q : RQ x m c) (hfo : x.1 2 3 = m.1 50 47) (hs : s < 4) (hc : c < 34) (hq : q ≤ 3) (e64 : m.1 64 s = nI q) (hm4 : ∀ j, j < 4 → (m.1 64 j).toNatClampNeg ≤ 4) {bs : Int64} (hbs : bs = (((1 : Int64) <<< ((m.1 50 50).toInt64 &&& 63)) ||| (bif decide (m.1 50 51 = -1) then (0 : Int64) else 1 <<< ((m.1 50 51).toInt64 &&& 63)))) (hbn : BN m) : RG (clX (ldS (pS (bkH x) s c 1) s 1 c q) s bs) (clN (toM (z_lys (z_giv m s c (-2)) s q 1 (nI c))) s) := by
  rw [toM_lys, toM_giv]
  obtain ⟨Q1, f1, f2, f3⟩ := rq_brk Q
  have A := lay_three (x := bkH x) (m := toM m) (s := s) (c := c) (q := q) hs hc hq
  have R1 := rc_lay (rc_brk R) A hs hq ((t64_t m s).trans e64) (svd_n ⟨by decide, by decide⟩ (by decide) hc) (fun j hj => by rw [t64_t]; exact hm4 j hj)
  obtain ⟨Q2, g1, g2⟩ := rq_lay Q1 A hs f3 (fun j hj => by
    rw [ct_n9 (by decide) hc hj]
    show (if j = c then (-2 : Int32) else 0) + _ = _
    by_cases e : j = c
    · rw [if_pos e, if_pos e, if_pos e]; decide
    · rw [if_neg e, if_neg e, if_neg e]; decide)
  have e50 : ∀ k, k ≠ 56 → (z_lys (z_giv (toM m) s c (-2)) s q 1 (nI c)).1 50 k = m.1 50 k := fun k hk => by
    rw [A.fm 50 k (by decide) (by decide) (by decide) (by decide)]; exact t50_t m hk
  refine ⟨rc_claimed R1, Or.inr ⟨1, s, 34, rp_claimed Q2 hs ?_ ?_ ?_ (by unfold BN; rw [e50 50 (by decide), e50 51 (by decide)]; exact hbn)⟩⟩
  · rw [g1, g2, f1, f2]; exact hfo
  · rw [A.fm 50 56 (by decide) (by decide) (by decide) (by decide)]; exact f3
  · rw [e50 50 (by decide), e50 51 (by decide)]; exact hbs
theorem rg_run0 {x m : zM} {s l q : Nat} (R : RCl x m) (Q : RQ x m l) (hfo : x.1 2 3 = m.1 50 47) (hs : s < 4) (hl : l + 2 < 34) (hsr : sr (nI l)) (hq : q ≤ 3) (e64 : m.1 64 s = nI q) (hm4 : ∀ j, j < 4 → (m.1 64 j).toNatClampNeg ≤ 4) {bs : Int64} (hbs : bs = (((1 : Int64) <<< ((m.1 50 50).toInt64 &&& 63)) ||| (bif decide (m.1 50 51 = -1) then (0 : Int64) else 1 <<< ((m.1 50 51).toInt64 &&& 63)))) (hbn : BN m) : RG (clX (ldS (pS (bkH x) s l 1) s 0 l q) s bs) (clN (toM (z_lys (z_giv (z_giv m s (l + 1) (-1)) s (l + 2) (-1)) s q 0 (nI l))) s) := by
  rw [toM_lys, toM_giv, toM_giv]
  obtain ⟨Q1, f1, f2, f3⟩ := rq_brk Q
  have A := lay_run0 (x := bkH x) (m := toM m) (s := s) (l := l) (q := q) hs hl hq
  have R1 := rc_lay (rc_brk R) A hs hq ((t64_t m s).trans e64) (⟨⟨by decide, by decide⟩, bd_nI (by omega) ⟨by omega, by omega⟩, fun _ => hsr⟩) (fun j hj => by rw [t64_t]; exact hm4 j hj)
  obtain ⟨Q2, g1, g2⟩ := rq_lay Q1 A hs f3 (fun j hj => by
    rw [ct_r hl hj]
    show (if j = (l + 1) ∨ j = (l + 2) then (-1 : Int32) else 0) + _ = _
    by_cases e : j = l
    · rw [if_neg (by omega), if_pos (by omega), if_pos e]; decide
    · by_cases e2 : j = (l + 1) ∨ j = (l + 2)
      · rw [if_pos e2, if_pos (by omega), if_neg e]; decide
      · rw [if_neg e2, if_neg (by omega), if_neg e]; decide)
  have e50 : ∀ k, k ≠ 56 → (z_lys (z_giv (z_giv (toM m) s (l + 1) (-1)) s (l + 2) (-1)) s q 0 (nI l)).1 50 k = m.1 50 k := fun k hk => by
    rw [A.fm 50 k (by decide) (by decide) (by decide) (by decide)]; exact t50_t m hk
  refine ⟨rc_claimed R1, Or.inr ⟨1, s, 34, rp_claimed Q2 hs ?_ ?_ ?_ (by unfold BN; rw [e50 50 (by decide), e50 51 (by decide)]; exact hbn)⟩⟩
  · rw [g1, g2, f1, f2]; exact hfo
  · rw [A.fm 50 56 (by decide) (by decide) (by decide) (by decide)]; exact f3
  · rw [e50 50 (by decide), e50 51 (by decide)]; exact hbs
theorem rg_run1 {x m : zM} {s l q : Nat} (R : RCl x m) (Q : RQ x m (l + 1)) (hfo : x.1 2 3 = m.1 50 47) (hs : s < 4) (hl : l + 2 < 34) (hsr : sr (nI l)) (hq : q ≤ 3) (e64 : m.1 64 s = nI q) (hm4 : ∀ j, j < 4 → (m.1 64 j).toNatClampNeg ≤ 4) {bs : Int64} (hbs : bs = (((1 : Int64) <<< ((m.1 50 50).toInt64 &&& 63)) ||| (bif decide (m.1 50 51 = -1) then (0 : Int64) else 1 <<< ((m.1 50 51).toInt64 &&& 63)))) (hbn : BN m) : RG (clX (ldS (pS (bkH x) s (l + 1) 1) s 0 l q) s bs) (clN (toM (z_lys (z_giv (z_giv m s l (-1)) s (l + 2) (-1)) s q 0 (nI l))) s) := by
  rw [toM_lys, toM_giv, toM_giv]
  obtain ⟨Q1, f1, f2, f3⟩ := rq_brk Q
  have A := lay_run1 (x := bkH x) (m := toM m) (s := s) (l := l) (q := q) hs hl hq
  have R1 := rc_lay (rc_brk R) A hs hq ((t64_t m s).trans e64) (⟨⟨by decide, by decide⟩, bd_nI (by omega) ⟨by omega, by omega⟩, fun _ => hsr⟩) (fun j hj => by rw [t64_t]; exact hm4 j hj)
  obtain ⟨Q2, g1, g2⟩ := rq_lay Q1 A hs f3 (fun j hj => by
    rw [ct_r hl hj]
    show (if j = l ∨ j = (l + 2) then (-1 : Int32) else 0) + _ = _
    by_cases e : j = (l + 1)
    · rw [if_neg (by omega), if_pos (by omega), if_pos e]; decide
    · by_cases e2 : j = l ∨ j = (l + 2)
      · rw [if_pos e2, if_pos (by omega), if_neg e]; decide
      · rw [if_neg e2, if_neg (by omega), if_neg e]; decide)
  have e50 : ∀ k, k ≠ 56 → (z_lys (z_giv (z_giv (toM m) s l (-1)) s (l + 2) (-1)) s q 0 (nI l)).1 50 k = m.1 50 k := fun k hk => by
    rw [A.fm 50 k (by decide) (by decide) (by decide) (by decide)]; exact t50_t m hk
  refine ⟨rc_claimed R1, Or.inr ⟨1, s, 34, rp_claimed Q2 hs ?_ ?_ ?_ (by unfold BN; rw [e50 50 (by decide), e50 51 (by decide)]; exact hbn)⟩⟩
  · rw [g1, g2, f1, f2]; exact hfo
  · rw [A.fm 50 56 (by decide) (by decide) (by decide) (by decide)]; exact f3
  · rw [e50 50 (by decide), e50 51 (by decide)]; exact hbs
theorem rg_run2 {x m : zM} {s l q : Nat} (R : RCl x m) (Q : RQ x m (l + 2)) (hfo : x.1 2 3 = m.1 50 47) (hs : s < 4) (hl : l + 2 < 34) (hsr : sr (nI l)) (hq : q ≤ 3) (e64 : m.1 64 s = nI q) (hm4 : ∀ j, j < 4 → (m.1 64 j).toNatClampNeg ≤ 4) {bs : Int64} (hbs : bs = (((1 : Int64) <<< ((m.1 50 50).toInt64 &&& 63)) ||| (bif decide (m.1 50 51 = -1) then (0 : Int64) else 1 <<< ((m.1 50 51).toInt64 &&& 63)))) (hbn : BN m) : RG (clX (ldS (pS (bkH x) s (l + 2) 1) s 0 l q) s bs) (clN (toM (z_lys (z_giv (z_giv m s l (-1)) s (l + 1) (-1)) s q 0 (nI l))) s) := by
  rw [toM_lys, toM_giv, toM_giv]
  obtain ⟨Q1, f1, f2, f3⟩ := rq_brk Q
  have A := lay_run2 (x := bkH x) (m := toM m) (s := s) (l := l) (q := q) hs hl hq
  have R1 := rc_lay (rc_brk R) A hs hq ((t64_t m s).trans e64) (⟨⟨by decide, by decide⟩, bd_nI (by omega) ⟨by omega, by omega⟩, fun _ => hsr⟩) (fun j hj => by rw [t64_t]; exact hm4 j hj)
  obtain ⟨Q2, g1, g2⟩ := rq_lay Q1 A hs f3 (fun j hj => by
    rw [ct_r hl hj]
    show (if j = l ∨ j = (l + 1) then (-1 : Int32) else 0) + _ = _
    by_cases e : j = (l + 2)
    · rw [if_neg (by omega), if_pos (by omega), if_pos e]; decide
    · by_cases e2 : j = l ∨ j = (l + 1)
      · rw [if_pos e2, if_pos (by omega), if_neg e]; decide
      · rw [if_neg e2, if_neg (by omega), if_neg e]; decide)
  have e50 : ∀ k, k ≠ 56 → (z_lys (z_giv (z_giv (toM m) s l (-1)) s (l + 1) (-1)) s q 0 (nI l)).1 50 k = m.1 50 k := fun k hk => by
    rw [A.fm 50 k (by decide) (by decide) (by decide) (by decide)]; exact t50_t m hk
  refine ⟨rc_claimed R1, Or.inr ⟨1, s, 34, rp_claimed Q2 hs ?_ ?_ ?_ (by unfold BN; rw [e50 50 (by decide), e50 51 (by decide)]; exact hbn)⟩⟩
  · rw [g1, g2, f1, f2]; exact hfo
  · rw [A.fm 50 56 (by decide) (by decide) (by decide) (by decide)]; exact f3
  · rw [e50 50 (by decide), e50 51 (by decide)]; exact hbs
