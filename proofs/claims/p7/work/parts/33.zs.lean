/-! what the small machine does in a step, the large one does: stack, jumps, locals -/
def z_tr (a : Nat → Nat) : Value → Value
  | .ref r => .ref (a r)
  | v => v
theorem z_tr_cat (a : Nat → Nat) (v : Value) : (z_tr a v).category = v.category := by cases v <;> rfl
theorem z_beqE (i j : Nat) : Nat.beq i j = (i == j) := by
  by_cases h : i = j
  · subst h
    rw [Nat.beq_refl, beq_self_eq_true]
  · have h1 : (i == j) = false := beq_eq_false_iff_ne.mpr h
    rw [h1]
    cases hq : Nat.beq i j with
    | false => rfl
    | true => exact absurd (Nat.eq_of_beq_eq_true hq) h
theorem z_rm_filter (lv : zL) (i : Nat) : z_rm lv i = lv.filter (fun q => !(q.1 == i) && !(q.1 + 1 == i && q.2.category == 2)) := by
  induction lv with
  | nil => rfl
  | cons q r ih =>
    unfold z_rm
    rw [List.filter_cons, ih]
    simp only [z_beqE]
    cases (q.1 == i) <;> cases (q.1 + 1 == i) <;> cases (q.2.category == 2) <;> rfl
theorem z_rm2_filter (lv : zL) (i : Nat) : z_rm2 lv i = lv.filter (fun q => !(q.1 == i) && (!(q.1 == i + 1) && !(q.1 + 1 == i && q.2.category == 2))) := by
  induction lv with
  | nil => rfl
  | cons q r ih =>
    unfold z_rm2
    rw [List.filter_cons, ih]
    simp only [z_beqE]
    cases (q.1 == i) <;> cases (q.1 == i + 1) <;> cases (q.1 + 1 == i) <;> cases (q.2.category == 2) <;> rfl
def z_tl (a : Nat → Nat) (lv : zL) : zL := lv.map (fun q => (q.1, z_tr a q.2))
theorem z_tl_rm (a : Nat → Nat) (lv : zL) (i : Nat) : z_tl a (z_rm lv i) = (z_tl a lv).filter (fun q => !(q.1 == i) && !(q.1 + 1 == i && q.2.category == 2)) := by
  rw [z_rm_filter]
  unfold z_tl
  rw [List.filter_map]
  congr 1
  apply List.filter_congr
  intro q _
  simp only [Function.comp, z_tr_cat]
theorem z_tl_rm2 (a : Nat → Nat) (lv : zL) (i : Nat) : z_tl a (z_rm2 lv i) = (z_tl a lv).filter (fun q => !(q.1 == i) && (!(q.1 == i + 1) && !(q.1 + 1 == i && q.2.category == 2))) := by
  rw [z_rm2_filter]
  unfold z_tl
  rw [List.filter_map]
  congr 1
  apply List.filter_congr
  intro q _
  simp only [Function.comp, z_tr_cat]
theorem z_tl_at {a : Nat → Nat} {lv : zL} {ls : Array Slot} {nL i : Nat} {v : Value} (h : lv_has ls nL (z_tl a lv)) (hv : z_lk lv i = some v) : ls[i]? = some (.val (z_tr a v)) := h.2.2 (i, z_tr a v) (List.mem_map.mpr ⟨(i, v), z_lk_mem hv, rfl⟩)
theorem z_ii_inv {f : Int32 → Int32 → Value} {st st' : List Value} (h : z_ii f st = some st') : ∃ x y r, st = .int y :: .int x :: r ∧ st' = f x y :: r := by
  unfold z_ii at h
  split at h
  · cases h; exact ⟨_, _, _, rfl, rfl⟩
  · cases h
theorem z_ii0_inv {f : Int32 → Int32 → Value} {st st' : List Value} (h : z_ii0 f st = some st') : ∃ x y r, st = .int y :: .int x :: r ∧ st' = f x y :: r ∧ ¬ y = 0 := by
  unfold z_ii0 at h
  split at h
  · rename_i y x r
    cases hy : (y == 0) with
    | true => rw [hy] at h; cases h
    | false => rw [hy] at h; cases h; exact ⟨_, _, _, rfl, rfl, by simpa using hy⟩
  · cases h
theorem z_ll_inv {f : Int64 → Int64 → Value} {st st' : List Value} (h : z_ll f st = some st') : ∃ x y r, st = .long y :: .long x :: r ∧ st' = f x y :: r := by
  unfold z_ll at h
  split at h
  · cases h; exact ⟨_, _, _, rfl, rfl⟩
  · cases h
theorem z_ll0_inv {f : Int64 → Int64 → Value} {st st' : List Value} (h : z_ll0 f st = some st') : ∃ x y r, st = .long y :: .long x :: r ∧ st' = f x y :: r ∧ ¬ y = 0 := by
  unfold z_ll0 at h
  split at h
  · rename_i y x r
    cases hy : (y == 0) with
    | true => rw [hy] at h; cases h
    | false => rw [hy] at h; cases h; exact ⟨_, _, _, rfl, rfl, by simpa using hy⟩
  · cases h
theorem z_li_inv {f : Int64 → Int32 → Value} {st st' : List Value} (h : z_li f st = some st') : ∃ x y r, st = .int y :: .long x :: r ∧ st' = f x y :: r := by
  unfold z_li at h
  split at h
  · cases h; exact ⟨_, _, _, rfl, rfl⟩
  · cases h
theorem z_i1_inv {f : Int32 → Value} {st st' : List Value} (h : z_i1 f st = some st') : ∃ x r, st = .int x :: r ∧ st' = f x :: r := by
  unfold z_i1 at h
  split at h
  · cases h; exact ⟨_, _, rfl, rfl⟩
  · cases h
theorem z_l1_inv {f : Int64 → Value} {st st' : List Value} (h : z_l1 f st = some st') : ∃ x r, st = .long x :: r ∧ st' = f x :: r := by
  unfold z_l1 at h
  split at h
  · cases h; exact ⟨_, _, rfl, rfl⟩
  · cases h
theorem z_dup_inv {st st' : List Value} (h : z_dup st = some st') : ∃ v r, st = v :: r ∧ st' = v :: v :: r ∧ v.category = 1 := by
  unfold z_dup at h
  split at h
  · rename_i v r
    cases hv : Nat.beq v.category 1 with
    | false => rw [hv] at h; cases h
    | true => rw [hv] at h; cases h; exact ⟨_, _, rfl, rfl, Nat.eq_of_beq_eq_true hv⟩
  · cases h
theorem z_pop_inv {st st' : List Value} (h : z_pop st = some st') : ∃ v, st = v :: st' ∧ v.category = 1 := by
  unfold z_pop at h
  split at h
  · rename_i v r
    cases hv : Nat.beq v.category 1 with
    | false => rw [hv] at h; cases h
    | true => rw [hv] at h; cases h; exact ⟨_, rfl, Nat.eq_of_beq_eq_true hv⟩
  · cases h
theorem z_dup2_inv {st st' : List Value} (h : z_dup2 st = some st') : ∃ v w r, st = v :: w :: r ∧ st' = v :: w :: v :: w :: r ∧ v.category = 1 ∧ w.category = 1 := by
  unfold z_dup2 at h
  split at h
  · rename_i v w r
    cases hv : (Nat.beq v.category 1 && Nat.beq w.category 1) with
    | false => rw [hv] at h; cases h
    | true =>
      rw [hv] at h; cases h
      rw [Bool.and_eq_true] at hv
      exact ⟨_, _, _, rfl, rfl, Nat.eq_of_beq_eq_true hv.1, Nat.eq_of_beq_eq_true hv.2⟩
  · cases h
theorem z_pop2_inv {st st' : List Value} (h : z_pop2 st = some st') : ∃ x, st = .long x :: st' := by
  unfold z_pop2 at h
  split at h
  · cases h; exact ⟨_, rfl⟩
  · cases h
section ZS
variable {p : Program} {l : Launch} {e : Env} {R : Room} {s : State} {m : MethodId} {args : Array Value} {below : List Frame} {meth : Method} {c : Code} {H : Heap} {locs : List Loc} {cells slots : Nat} {Q : State → Prop}
variable {cc : ByteArray} {pc : Nat} {ls : Array Slot} {a : Nat → Nat}
set_option maxHeartbeats 1000000 in
theorem zs_st (hx : p.tables.exec = Jvm.exec) (hb : c.code = cc) {ins : Instr} {st st' : List Value} (h : z_st ins st = some st') (hd : decode cc pc = .ok (ins, z_len ins))
    (kk : W p l e R s m args below meth c H locs cells slots Q (F0 m (pc + z_len ins) ls (st'.map (z_tr a)))) : W p l e R s m args below meth c H locs cells slots Q (F0 m pc ls (st.map (z_tr a))) := by
  unfold z_st at h
  split at h
  · cases h; exact lv_iconst hx hb hd rfl kk
  · cases h; exact lv_bipush hx hb hd rfl kk
  · cases h; exact lv_sipush hx hb hd rfl kk
  · cases h; exact lv_lconst hx hb hd rfl kk
  · obtain ⟨x, y, r, rfl, rfl⟩ := z_ii_inv h; exact lv_iadd hx hb hd kk
  · obtain ⟨x, y, r, rfl, rfl⟩ := z_ii_inv h; exact lv_isub hx hb hd kk
  · obtain ⟨x, y, r, rfl, rfl⟩ := z_ii_inv h; exact lv_imul hx hb hd kk
  · obtain ⟨x, y, r, rfl, rfl⟩ := z_ii_inv h; exact lv_iand hx hb hd kk
  · obtain ⟨x, y, r, rfl, rfl⟩ := z_ii_inv h; exact lv_ior hx hb hd kk
  · obtain ⟨x, y, r, rfl, rfl, hy⟩ := z_ii0_inv h; exact lv_idiv hx hb hd hy kk
  · obtain ⟨x, y, r, rfl, rfl, hy⟩ := z_ii0_inv h; exact lv_irem hx hb hd hy kk
  · obtain ⟨x, y, r, rfl, rfl⟩ := z_ii_inv h; exact lv_ishl hx hb hd kk
  · obtain ⟨x, y, r, rfl, rfl⟩ := z_ii_inv h; exact lv_ishr hx hb hd kk
  · obtain ⟨x, y, r, rfl, rfl⟩ := z_ii_inv h; exact lv_iushr hx hb hd rfl kk
  · obtain ⟨x, r, rfl, rfl⟩ := z_i1_inv h; exact lv_ineg hx hb hd kk
  · obtain ⟨x, y, r, rfl, rfl⟩ := z_ll_inv h; exact lv_ladd hx hb hd kk
  · obtain ⟨x, y, r, rfl, rfl⟩ := z_ll_inv h; exact lv_lsub hx hb hd kk
  · obtain ⟨x, y, r, rfl, rfl⟩ := z_ll_inv h; exact lv_lmul hx hb hd kk
  · obtain ⟨x, y, r, rfl, rfl⟩ := z_ll_inv h; exact lv_land hx hb hd kk
  · obtain ⟨x, y, r, rfl, rfl⟩ := z_ll_inv h; exact lv_lor hx hb hd kk
  · obtain ⟨x, y, r, rfl, rfl⟩ := z_ll_inv h; exact lv_lxor hx hb hd kk
  · obtain ⟨x, y, r, rfl, rfl, hy⟩ := z_ll0_inv h; exact lv_lrem hx hb hd hy kk
  · obtain ⟨x, y, r, rfl, rfl⟩ := z_ll_inv h; exact W.lcmp hx hb hd kk
  · obtain ⟨x, y, r, rfl, rfl⟩ := z_li_inv h; exact lv_lshl hx hb hd rfl kk
  · obtain ⟨x, y, r, rfl, rfl⟩ := z_li_inv h; exact lv_lshr hx hb hd rfl kk
  · obtain ⟨x, y, r, rfl, rfl⟩ := z_li_inv h; exact lv_lushr hx hb hd rfl kk
  · obtain ⟨x, r, rfl, rfl⟩ := z_i1_inv h; exact lv_i2l hx hb hd rfl kk
  · obtain ⟨x, r, rfl, rfl⟩ := z_l1_inv h; exact lv_l2i hx hb hd rfl kk
  · obtain ⟨v, r, rfl, rfl, hv⟩ := z_dup_inv h; exact lv_dup hx hb hd ((z_tr_cat a v).trans hv) kk
  · obtain ⟨v, w, r, rfl, rfl, hv, hw⟩ := z_dup2_inv h; exact lv_dup2_11 hx hb hd ((z_tr_cat a v).trans hv) ((z_tr_cat a w).trans hw) kk
  · obtain ⟨v, rfl, hv⟩ := z_pop_inv h; exact lv_pop hx hb hd ((z_tr_cat a v).trans hv) kk
  · obtain ⟨x, rfl⟩ := z_pop2_inv h; exact lv_pop2_2 hx hb hd rfl kk
  · cases h
theorem z_to_inv {pc : Nat} {off : Int} {t : Nat} (h : z_to pc off = some t) : (pc : Int) + off = (t : Int) := by
  unfold z_to at h
  cases hq : decide (0 ≤ (pc : Int) + off) with
  | false => rw [hq] at h; cases h
  | true =>
    rw [hq] at h
    have h : some ((pc : Int) + off).toNat = some t := h
    cases h
    exact (Int.toNat_of_nonneg (of_decide_eq_true hq)).symm
theorem zs_jp (hx : p.tables.exec = Jvm.exec) (hb : c.code = cc) {ins : Instr} {st st' : List Value} {pc' len : Nat} (h : z_jp ins pc st = some (pc', st')) (hd : decode cc pc = .ok (ins, len)) (hlen : z_len ins = len ∨ z_len ins = 0)
    (kk : W p l e R s m args below meth c H locs cells slots Q (F0 m pc' ls (st'.map (z_tr a)))) : W p l e R s m args below meth c H locs cells slots Q (F0 m pc ls (st.map (z_tr a))) := by
  unfold z_jp at h
  split at h
  · have hl : (3 : Nat) = len := hlen.resolve_right (by show ¬ 3 = 0; decide)
    subst hl
    obtain ⟨t, ht, h⟩ := Option.map_eq_some_iff.mp h
    cases h
    exact lv_goto hx hb hd (z_to_inv ht) kk
  · rename_i cnd off x r
    have hl : (3 : Nat) = len := hlen.resolve_right (by show ¬ 3 = 0; decide)
    subst hl
    obtain ⟨t, ht, h⟩ := Option.map_eq_some_iff.mp h
    have ht := z_to_inv ht
    cases h
    cases cnd with
    | eq => exact lv_if_eq hx hb hd ht (fun q => by simpa [z_cmp, q] using kk) (fun q => by simpa [z_cmp, q] using kk)
    | ne => exact lv_if_ne hx hb hd ht (fun q => by simpa [z_cmp, q] using kk) (fun q => by simpa [z_cmp, q] using kk)
    | lt => exact lv_if_lt hx hb hd ht (fun q => by simpa [z_cmp, q] using kk) (fun q => by simpa [z_cmp, q] using kk)
    | ge => exact lv_if_ge hx hb hd ht (fun q => by simpa [z_cmp, q] using kk) (fun q => by simpa [z_cmp, q] using kk)
    | gt => exact lv_if_gt hx hb hd ht (fun q => by simpa [z_cmp, q] using kk) (fun q => by simpa [z_cmp, q] using kk)
    | le => exact lv_if_le hx hb hd ht (fun q => by simpa [z_cmp, q] using kk) (fun q => by simpa [z_cmp, q] using kk)
  · rename_i cnd off y x r
    have hl : (3 : Nat) = len := hlen.resolve_right (by show ¬ 3 = 0; decide)
    subst hl
    obtain ⟨t, ht, h⟩ := Option.map_eq_some_iff.mp h
    have ht := z_to_inv ht
    cases h
    cases cnd with
    | eq => exact lv_icmp_eq hx hb hd ht (fun q => by simpa [z_cmp, q] using kk) (fun q => by simpa [z_cmp, q] using kk)
    | ne => exact lv_icmp_ne hx hb hd ht (fun q => by simpa [z_cmp, q] using kk) (fun q => by simpa [z_cmp, q] using kk)
    | lt => exact lv_icmp_lt hx hb hd ht (fun q => by simpa [z_cmp, q] using kk) (fun q => by simpa [z_cmp, q] using kk)
    | ge => exact lv_icmp_ge hx hb hd ht (fun q => by simpa [z_cmp, q] using kk) (fun q => by simpa [z_cmp, q] using kk)
    | gt => exact lv_icmp_gt hx hb hd ht (fun q => by simpa [z_cmp, q] using kk) (fun q => by simpa [z_cmp, q] using kk)
    | le => exact lv_icmp_le hx hb hd ht (fun q => by simpa [z_cmp, q] using kk) (fun q => by simpa [z_cmp, q] using kk)
  · have hl : (3 : Nat) = len := hlen.resolve_right (by show ¬ 3 = 0; decide)
    subst hl
    cases h
    exact lv_ifnull hx hb hd kk
  · rename_i dflt lo hi offs x r
    cases hq : (decide (x.toInt < lo) || decide (hi < x.toInt)) with
    | true =>
      rw [hq] at h
      obtain ⟨t, ht, h⟩ := Option.map_eq_some_iff.mp h
      cases h
      rw [Bool.or_eq_true, decide_eq_true_iff, decide_eq_true_iff] at hq
      exact lv_tableOut hx hb hd hq (z_to_inv ht) kk
    | false =>
      rw [hq] at h
      rw [Bool.or_eq_false_iff, decide_eq_false_iff_not, decide_eq_false_iff_not] at hq
      simp only [cond_false] at h
      split at h
      · rename_i off ho
        obtain ⟨t, ht, h⟩ := Option.map_eq_some_iff.mp h
        cases h
        exact lv_tableIn hx hb hd hq.1 hq.2 ho (z_to_inv ht) kk
      · cases h
  · cases h
theorem z_s1_inv {nL i : Nat} {lv : zL} {v : Value} {r : List Value} {lv' : zL} {st' : List Value} (h : (bif Nat.blt i nL then some ((i, v) :: z_rm lv i, r) else none) = some (lv', st')) : i < nL ∧ lv' = (i, v) :: z_rm lv i ∧ st' = r := by
  cases hq : Nat.blt i nL with
  | false => rw [hq] at h; cases h
  | true =>
    rw [hq] at h
    have h : some ((i, v) :: z_rm lv i, r) = some (lv', st') := h
    cases h
    exact ⟨Nat.le_of_ble_eq_true hq, rfl, rfl⟩
theorem z_s2_inv {nL i : Nat} {lv : zL} {v : Value} {r : List Value} {lv' : zL} {st' : List Value} (h : (bif Nat.blt (i + 1) nL then some ((i, v) :: z_rm2 lv i, r) else none) = some (lv', st')) : i + 1 < nL ∧ lv' = (i, v) :: z_rm2 lv i ∧ st' = r := by
  cases hq : Nat.blt (i + 1) nL with
  | false => rw [hq] at h; cases h
  | true =>
    rw [hq] at h
    have h : some ((i, v) :: z_rm2 lv i, r) = some (lv', st') := h
    cases h
    exact ⟨Nat.le_of_ble_eq_true hq, rfl, rfl⟩
theorem z_tl_c {a : Nat → Nat} {i : Nat} {v : Value} {lv : zL} : z_tl a ((i, v) :: z_rm lv i) = (i, z_tr a v) :: (z_tl a lv).filter (fun q => !(q.1 == i) && !(q.1 + 1 == i && q.2.category == 2)) := by
  rw [← z_tl_rm]
  rfl
theorem z_tl_c2 {a : Nat → Nat} {i : Nat} {v : Value} {lv : zL} : z_tl a ((i, v) :: z_rm2 lv i) = (i, z_tr a v) :: (z_tl a lv).filter (fun q => !(q.1 == i) && (!(q.1 == i + 1) && !(q.1 + 1 == i && q.2.category == 2))) := by
  rw [← z_tl_rm2]
  rfl
set_option maxHeartbeats 1000000 in
theorem zs_lv (hx : p.tables.exec = Jvm.exec) (hb : c.code = cc) {nL : Nat} {ins : Instr} {lv lv' : zL} {st st' : List Value} (h : z_lv nL ins lv st = some (lv', st')) (hd : decode cc pc = .ok (ins, z_len ins)) (hl : lv_has ls nL (z_tl a lv))
    (kk : ∀ ls' : Array Slot, lv_has ls' nL (z_tl a lv') → W p l e R s m args below meth c H locs cells slots Q (F0 m (pc + z_len ins) ls' (st'.map (z_tr a)))) : W p l e R s m args below meth c H locs cells slots Q (F0 m pc ls (st.map (z_tr a))) := by
  unfold z_lv at h
  split at h
  · split at h
    · rename_i hv; cases h; exact lv_iload_n hx hb hd rfl (z_tl_at hl hv) (kk ls hl)
    · cases h
  · split at h
    · rename_i hv; cases h; exact lv_iload hx hb hd (z_tl_at hl hv) (kk ls hl)
    · cases h
  · split at h
    · rename_i hv; cases h; exact lv_lload_n hx hb hd rfl (z_tl_at hl hv) (kk ls hl)
    · cases h
  · split at h
    · rename_i hv; cases h; exact lv_lload hx hb hd (z_tl_at hl hv) (kk ls hl)
    · cases h
  · split at h
    · rename_i hv; cases h; exact lv_aload_n hx hb hd rfl (z_tl_at hl hv) (kk ls hl)
    · cases h
  · split at h
    · rename_i hv; cases h; exact lv_aload hx hb hd (z_tl_at hl hv) (kk ls hl)
    · cases h
  · split at h
    · obtain ⟨h1, rfl, rfl⟩ := z_s1_inv h; exact lv_istore_n hx hb hd rfl hl h1 (z_tl_c (a := a) (lv := lv) (v := .int _)).symm kk
    · cases h
  · split at h
    · obtain ⟨h1, rfl, rfl⟩ := z_s1_inv h; exact lv_istore hx hb hd hl h1 (z_tl_c (a := a) (lv := lv) (v := .int _)).symm kk
    · cases h
  · split at h
    · obtain ⟨h1, rfl, rfl⟩ := z_s2_inv h; exact lv_lstore_n hx hb hd rfl hl h1 (z_tl_c2 (a := a) (lv := lv) (v := .long _)).symm kk
    · cases h
  · split at h
    · obtain ⟨h1, rfl, rfl⟩ := z_s2_inv h; exact lv_lstore hx hb hd hl h1 (z_tl_c2 (a := a) (lv := lv) (v := .long _)).symm kk
    · cases h
  · split at h
    · obtain ⟨h1, rfl, rfl⟩ := z_s1_inv h; exact lv_astore_n hx hb hd rfl hl h1 (z_tl_c (a := a) (lv := lv) (v := .ref _)).symm kk
    · cases h
  · split at h
    · obtain ⟨h1, rfl, rfl⟩ := z_s1_inv h; exact lv_astore hx hb hd hl h1 (z_tl_c (a := a) (lv := lv) (v := .ref _)).symm kk
    · cases h
  · split at h
    · rename_i hv
      obtain ⟨h1, rfl, rfl⟩ := z_s1_inv h
      obtain ⟨k0, hk0⟩ := List.getElem?_of_mem (show (_, z_tr a _) ∈ z_tl a lv from List.mem_map.mpr ⟨_, z_lk_mem hv, rfl⟩)
      exact lv_iinc hx hb hd hl hk0 rfl h1 (z_tl_c (a := a) (lv := lv) (v := .int _)).symm kk
    · cases h
  · cases h
end ZS
