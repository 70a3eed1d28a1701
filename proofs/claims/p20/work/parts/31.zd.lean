/-! the codes of the small machine are the program's bytes, decoded: by a table of opcodes, in one pass -/
set_option maxRecDepth 100000
noncomputable def z_dok (cc : ByteArray) (q : Nat × Instr) : Bool := match decode cc q.1 with
  | .ok (ins, len) => decide (ins = q.2) && (Nat.beq (z_len ins) len || Nat.beq (z_len ins) 0)
  | _ => false
noncomputable abbrev ze_R (α : Type) : Type := Jvm.ClassFile.Reader Jvm.ClassFile.DecodeError α
theorem ze_tl {l : List UInt8} {i : Nat} {b : UInt8} {t : List UInt8} (e : l.drop i = b :: t) : l.drop (i + 1) = t := by
  have h : (l.drop i).drop 1 = t := by rw [e]; rfl
  rw [List.drop_drop] at h
  exact h
theorem ze_u1 {C : ByteArray} {i : Nat} {b : UInt8} {t : List UInt8} (e : C.data.toList.drop i = b :: t) : (Jvm.ClassFile.Reader.u1 : ze_R Nat) C i = .ok (b.toNat, i + 1) := by
  have hl : i < C.data.toList.length := by
    rcases Nat.lt_or_ge i C.data.toList.length with h | h
    · exact h
    · rw [List.drop_eq_nil_of_le h] at e
      cases e
  have hs : i < C.size := hl
  have h1 : C.data.toList[i]'hl :: C.data.toList.drop (i + 1) = b :: t := (List.drop_eq_getElem_cons hl).symm.trans e
  have h2 : C.data.toList[i]'hl = b := (List.cons.inj h1).1
  have h3 : C[i]'hs = b := h2
  show (do if h : i < C.size then do set (i + 1); Pure.pure C[i].toNat else MonadExcept.throw (Jvm.ClassFile.HasTruncated.truncated i) : ze_R Nat) C i = _
  rw [dif_pos hs, h3]
  rfl
theorem ze_bind {α β : Type} {r : ze_R α} {f : α → ze_R β} {C : ByteArray} {i k : Nat} {a : α} (h : r C i = .ok (a, k)) : (r >>= f) C i = f a C k := by
  show (do let (a, s) ← r C i; f a C s : Except Jvm.ClassFile.DecodeError (β × Nat)) = _
  rw [h]
  rfl
theorem ze_u2 {C : ByteArray} {i : Nat} {x y : UInt8} {t : List UInt8} (e : C.data.toList.drop i = x :: y :: t) : (Jvm.ClassFile.Reader.u2 : ze_R Nat) C i = .ok (x.toNat * 256 + y.toNat, i + 2) := by
  show ((Jvm.ClassFile.Reader.u1 : ze_R Nat) >>= fun hi => (Jvm.ClassFile.Reader.u1 : ze_R Nat) >>= fun lo => (Pure.pure (hi * 256 + lo) : ze_R Nat)) C i = _
  rw [ze_bind (ze_u1 e), ze_bind (ze_u1 (ze_tl e))]
  rfl
theorem ze_s1 {C : ByteArray} {i : Nat} {x : UInt8} {t : List UInt8} (e : C.data.toList.drop i = x :: t) : (Jvm.ClassFile.Reader.s1 : ze_R Int) C i = .ok (Jvm.ClassFile.Reader.signed 8 x.toNat, i + 1) := by
  show (do let (a, s) ← (Jvm.ClassFile.Reader.u1 : ze_R Nat) C i; .ok (Jvm.ClassFile.Reader.signed 8 a, s) : Except Jvm.ClassFile.DecodeError (Int × Nat)) = _
  rw [ze_u1 e]
  rfl
theorem ze_s2 {C : ByteArray} {i : Nat} {x y : UInt8} {t : List UInt8} (e : C.data.toList.drop i = x :: y :: t) : (Jvm.ClassFile.Reader.s2 : ze_R Int) C i = .ok (Jvm.ClassFile.Reader.signed 16 (x.toNat * 256 + y.toNat), i + 2) := by
  show (do let (a, s) ← (Jvm.ClassFile.Reader.u2 : ze_R Nat) C i; .ok (Jvm.ClassFile.Reader.signed 16 a, s) : Except Jvm.ClassFile.DecodeError (Int × Nat)) = _
  rw [ze_u2 e]
  rfl
/-- a rule of an opcode: an instruction; or one with an operand: u1, u2, s1, s2 -/
noncomputable abbrev zDk : Type := Sum Instr (Sum (Nat → Instr) (Sum (Nat → Instr) (Sum (Int → Instr) (Int → Instr))))
noncomputable abbrev dk_0 (i : Instr) : zDk := .inl i
noncomputable abbrev dk_1 (f : Nat → Instr) : zDk := .inr (.inl f)
noncomputable abbrev dk_2 (f : Nat → Instr) : zDk := .inr (.inr (.inl f))
noncomputable abbrev dk_3 (f : Int → Instr) : zDk := .inr (.inr (.inr (.inl f)))
noncomputable abbrev dk_4 (f : Int → Instr) : zDk := .inr (.inr (.inr (.inr f)))
noncomputable def dk_T : List (Nat × zDk) := [(42, dk_0 (.aload_n 0)), (180, dk_2 .getfield), (3, dk_0 (.iconst 0)), (21, dk_1 .iload), (4, dk_0 (.iconst 1)), (27, dk_0 (.iload_n 1)), (167, dk_4 .goto), (182, dk_2 .invokevirtual), (96, dk_0 .iadd), (16, dk_3 .bipush), (172, dk_0 .ireturn), (28, dk_0 (.iload_n 2)), (46, dk_0 .iaload), (181, dk_2 .putfield), (153, dk_4 (fun x => .ifCond .eq x)), (184, dk_2 .invokestatic), (29, dk_0 (.iload_n 3)), (154, dk_4 (fun x => .ifCond .ne x)), (162, dk_4 (fun x => .if_icmp .ge x)), (160, dk_4 (fun x => .if_icmp .ne x)), (54, dk_1 .istore), (5, dk_0 (.iconst 2)), (7, dk_0 (.iconst 4)), (129, dk_0 .lor), (79, dk_0 .iastore), (6, dk_0 (.iconst 3)), (89, dk_0 .dup), (62, dk_0 (.istore_n 3)), (104, dk_0 .imul), (177, dk_0 .return_), (61, dk_0 (.istore_n 2)), (9, dk_0 (.lconst 0)), (159, dk_4 (fun x => .if_icmp .eq x)), (20, dk_2 .ldc2_w), (127, dk_0 .land), (43, dk_0 (.aload_n 1)), (60, dk_0 (.istore_n 1)), (100, dk_0 .isub), (26, dk_0 (.iload_n 0)), (17, dk_4 .sipush), (148, dk_0 .lcmp), (44, dk_0 (.aload_n 2)), (87, dk_0 .pop), (2, dk_0 (.iconst (-1))), (158, dk_4 (fun x => .ifCond .le x)), (161, dk_4 (fun x => .if_icmp .lt x)), (22, dk_1 .lload), (92, dk_0 .dup2), (164, dk_4 (fun x => .if_icmp .le x)), (10, dk_0 (.lconst 1)), (173, dk_0 .lreturn), (31, dk_0 (.lload_n 1)), (45, dk_0 (.aload_n 3)), (155, dk_4 (fun x => .ifCond .lt x)), (121, dk_0 .lshl), (33, dk_0 (.lload_n 3)), (55, dk_1 .lstore), (112, dk_0 .irem), (125, dk_0 .lushr), (126, dk_0 .iand), (66, dk_0 (.lstore_n 3)), (163, dk_4 (fun x => .if_icmp .gt x)), (30, dk_0 (.lload_n 0)), (25, dk_1 .aload), (108, dk_0 .idiv), (51, dk_0 .baload), (8, dk_0 (.iconst 5)), (133, dk_0 .i2l), (84, dk_0 .bastore), (88, dk_0 .pop2), (64, dk_0 (.lstore_n 1)), (97, dk_0 .ladd), (32, dk_0 (.lload_n 2)), (63, dk_0 (.lstore_n 0)), (78, dk_0 (.astore_n 3)), (120, dk_0 .ishl), (123, dk_0 .lshr), (77, dk_0 (.astore_n 2)), (178, dk_2 .getstatic), (190, dk_0 .arraylength), (65, dk_0 (.lstore_n 2)), (136, dk_0 .l2i), (50, dk_0 .aaload), (58, dk_1 .astore), (156, dk_4 (fun x => .ifCond .ge x)), (124, dk_0 .iushr), (105, dk_0 .lmul), (113, dk_0 .lrem), (116, dk_0 .ineg), (128, dk_0 .ior), (76, dk_0 (.astore_n 1)), (187, dk_2 .new), (183, dk_2 .invokespecial), (176, dk_0 .areturn), (47, dk_0 .laload), (80, dk_0 .lastore), (101, dk_0 .lsub), (198, dk_4 .ifnull), (131, dk_0 .lxor), (122, dk_0 .ishr)]
noncomputable def dk_P (F : Nat → ze_R Instr) (q : Nat × zDk) : Prop := match q.2 with
  | .inl i => F q.1 = Pure.pure i
  | .inr (.inl f) => F q.1 = ((Jvm.ClassFile.Reader.u1 : ze_R Nat) >>= fun x => Pure.pure (f x))
  | .inr (.inr (.inl f)) => F q.1 = ((Jvm.ClassFile.Reader.u2 : ze_R Nat) >>= fun x => Pure.pure (f x))
  | .inr (.inr (.inr (.inl f))) => F q.1 = ((Jvm.ClassFile.Reader.s1 : ze_R Int) >>= fun x => Pure.pure (f x))
  | .inr (.inr (.inr (.inr f))) => F q.1 = ((Jvm.ClassFile.Reader.s2 : ze_R Int) >>= fun x => Pure.pure (f x))
noncomputable def dk_all (F : Nat → ze_R Instr) : List (Nat × zDk) → Prop
  | [] => True
  | q :: r => dk_P F q ∧ dk_all F r
theorem dk_mem {F : Nat → ze_R Instr} {l : List (Nat × zDk)} (h : dk_all F l) {q : Nat × zDk} (m : q ∈ l) : dk_P F q := by
  induction l with
  | nil => cases m
  | cons a r ih =>
    cases m with
    | head => exact h.1
    | tail _ m => exact ih h.2 m
set_option maxHeartbeats 8000000 in
theorem dk_F (pc : Nat) : ∃ F : Nat → ze_R Instr, (Jvm.ClassFile.Decoder.instr pc : ze_R Instr) = ((Jvm.ClassFile.Reader.u1 : ze_R Nat) >>= F) ∧ dk_all F dk_T := by
  refine ⟨_, rfl, ?_⟩
  exact And.intro rfl (And.intro rfl (And.intro rfl (And.intro rfl (And.intro rfl (And.intro rfl (And.intro rfl (And.intro rfl (And.intro rfl (And.intro rfl (And.intro rfl (And.intro rfl (And.intro rfl (And.intro rfl (And.intro rfl (And.intro rfl (And.intro rfl (And.intro rfl (And.intro rfl (And.intro rfl (And.intro rfl (And.intro rfl (And.intro rfl (And.intro rfl (And.intro rfl (And.intro rfl (And.intro rfl (And.intro rfl (And.intro rfl (And.intro rfl (And.intro rfl (And.intro rfl (And.intro rfl (And.intro rfl (And.intro rfl (And.intro rfl (And.intro rfl (And.intro rfl (And.intro rfl (And.intro rfl (And.intro rfl (And.intro rfl (And.intro rfl (And.intro rfl (And.intro rfl (And.intro rfl (And.intro rfl (And.intro rfl (And.intro rfl (And.intro rfl (And.intro rfl (And.intro rfl (And.intro rfl (And.intro rfl (And.intro rfl (And.intro rfl (And.intro rfl (And.intro rfl (And.intro rfl (And.intro rfl (And.intro rfl (And.intro rfl (And.intro rfl (And.intro rfl (And.intro rfl (And.intro rfl (And.intro rfl (And.intro rfl (And.intro rfl (And.intro rfl (And.intro rfl (And.intro rfl (And.intro rfl (And.intro rfl (And.intro rfl (And.intro rfl (And.intro rfl (And.intro rfl (And.intro rfl (And.intro rfl (And.intro rfl (And.intro rfl (And.intro rfl (And.intro rfl (And.intro rfl (And.intro rfl (And.intro rfl (And.intro rfl (And.intro rfl (And.intro rfl (And.intro rfl (And.intro rfl (And.intro rfl (And.intro rfl (And.intro rfl (And.intro rfl (And.intro rfl (And.intro rfl (And.intro rfl (And.intro rfl trivial)))))))))))))))))))))))))))))))))))))))))))))))))))))))))))))))))))))))))))))))))))))))))))))))))))
noncomputable def ze_E (b : UInt8) (t : List UInt8) : Option (Instr × Nat) := match z_lk dk_T b.toNat with
  | some (.inl i) => some (i, 1)
  | some (.inr (.inl f)) => (match t with | x :: _ => some (f x.toNat, 2) | [] => none)
  | some (.inr (.inr (.inl f))) => (match t with | x :: y :: _ => some (f (x.toNat * 256 + y.toNat), 3) | _ => none)
  | some (.inr (.inr (.inr (.inl f)))) => (match t with | x :: _ => some (f (Jvm.ClassFile.Reader.signed 8 x.toNat), 2) | [] => none)
  | some (.inr (.inr (.inr (.inr f)))) => (match t with | x :: y :: _ => some (f (Jvm.ClassFile.Reader.signed 16 (x.toNat * 256 + y.toNat)), 3) | _ => none)
  | none => none
theorem ze_fin {C : ByteArray} {pc n : Nat} {b : UInt8} {t : List UInt8} {ins : Instr} {F : Nat → ze_R Instr} (hF : (Jvm.ClassFile.Decoder.instr pc : ze_R Instr) = ((Jvm.ClassFile.Reader.u1 : ze_R Nat) >>= F)) (e : C.data.toList.drop pc = b :: t) (h : F b.toNat C (pc + 1) = .ok (ins, pc + n)) : decode C pc = .ok (ins, n) := by
  have h1 : (Jvm.ClassFile.Decoder.instr pc : ze_R Instr) C pc = .ok (ins, pc + n) := by
    rw [hF, ze_bind (ze_u1 e)]
    exact h
  have h2 : Jvm.ClassFile.Reader.runAt (Jvm.ClassFile.Decoder.instr pc) C pc = .ok (ins, pc + n) := h1
  unfold decode
  rw [h2]
  show (Except.ok (ins, pc + n - pc) : Except Jvm.ClassFile.DecodeError (Instr × Nat)) = _
  rw [show pc + n - pc = n by omega]
theorem ze_E_ok {C : ByteArray} {pc : Nat} {b : UInt8} {t : List UInt8} {ins : Instr} {len : Nat} (e : C.data.toList.drop pc = b :: t) (h : ze_E b t = some (ins, len)) : decode C pc = .ok (ins, len) := by
  obtain ⟨F, hF, hA⟩ := dk_F pc
  have e1 := ze_tl e
  unfold ze_E at h
  split at h
  · rename_i i hl
    have hP : F b.toNat = Pure.pure i := dk_mem hA (z_lk_mem hl)
    cases h
    refine ze_fin hF e ?_
    rw [hP]
    rfl
  · rename_i f hl
    have hP : F b.toNat = ((Jvm.ClassFile.Reader.u1 : ze_R Nat) >>= fun x => Pure.pure (f x)) := dk_mem hA (z_lk_mem hl)
    cases t with
    | nil => cases h
    | cons x t =>
      have h : some (f x.toNat, 2) = some (ins, len) := h
      cases h
      refine ze_fin hF e ?_
      rw [hP, ze_bind (ze_u1 e1)]
      rfl
  · rename_i f hl
    have hP : F b.toNat = ((Jvm.ClassFile.Reader.u2 : ze_R Nat) >>= fun x => Pure.pure (f x)) := dk_mem hA (z_lk_mem hl)
    cases t with
    | nil => cases h
    | cons x t =>
      cases t with
      | nil => cases h
      | cons y t =>
        have h : some (f (x.toNat * 256 + y.toNat), 3) = some (ins, len) := h
        cases h
        refine ze_fin hF e ?_
        rw [hP, ze_bind (ze_u2 e1)]
        rfl
  · rename_i f hl
    have hP : F b.toNat = ((Jvm.ClassFile.Reader.s1 : ze_R Int) >>= fun x => Pure.pure (f x)) := dk_mem hA (z_lk_mem hl)
    cases t with
    | nil => cases h
    | cons x t =>
      have h : some (f (Jvm.ClassFile.Reader.signed 8 x.toNat), 2) = some (ins, len) := h
      cases h
      refine ze_fin hF e ?_
      rw [hP, ze_bind (ze_s1 e1)]
      rfl
  · rename_i f hl
    have hP : F b.toNat = ((Jvm.ClassFile.Reader.s2 : ze_R Int) >>= fun x => Pure.pure (f x)) := dk_mem hA (z_lk_mem hl)
    cases t with
    | nil => cases h
    | cons x t =>
      cases t with
      | nil => cases h
      | cons y t =>
        have h : some (f (Jvm.ClassFile.Reader.signed 16 (x.toNat * 256 + y.toNat)), 3) = some (ins, len) := h
        cases h
        refine ze_fin hF e ?_
        rw [hP, ze_bind (ze_s2 e1)]
        rfl
  · cases h
noncomputable def ze_pass (cc : ByteArray) : List (Nat × Instr) → List UInt8 → Nat → Bool
  | [], _, _ => true
  | q :: r, bs, p => Nat.ble p q.1 && (match bs.drop (q.1 - p) with
    | [] => false
    | b :: t => (match ze_E b t with
      | some (ins, len) => decide (ins = q.2) && (Nat.beq (z_len ins) len || Nat.beq (z_len ins) 0)
      | none => z_dok cc q) && ze_pass cc r (b :: t) q.1)
theorem ze_pass_ok {cc : ByteArray} (l : List (Nat × Instr)) : ∀ (bs : List UInt8) (p : Nat), cc.data.toList.drop p = bs → ze_pass cc l bs p = true → l.all (z_dok cc) = true := by
  induction l with
  | nil => intro _ _ _ _; rfl
  | cons q r ih =>
    intro bs p hb h
    unfold ze_pass at h
    rw [Bool.and_eq_true] at h
    obtain ⟨hp, h⟩ := h
    have hp : p ≤ q.1 := Nat.le_of_ble_eq_true hp
    have hd : bs.drop (q.1 - p) = cc.data.toList.drop q.1 := by
      rw [← hb, List.drop_drop]
      congr 1
      omega
    split at h
    · cases h
    · rename_i b t e
      rw [e] at hd
      rw [Bool.and_eq_true] at h
      rw [List.all_cons, Bool.and_eq_true]
      refine ⟨?_, ih (b :: t) q.1 hd.symm h.2⟩
      have h1 := h.1
      split at h1
      · rename_i ins len e2
        unfold z_dok
        rw [ze_E_ok hd.symm e2]
        exact h1
      · exact h1
theorem zd_X0_baseOf : zc_X0_baseOf.all (z_dok cX0_baseOf) = true := ze_pass_ok zc_X0_baseOf cX0_baseOf.data.toList 0 List.drop_zero (by decide +kernel)
theorem zd_X0_hanOf : zc_X0_hanOf.all (z_dok cX0_hanOf) = true := ze_pass_ok zc_X0_hanOf cX0_hanOf.data.toList 0 List.drop_zero (by decide +kernel)
theorem zd_X1_bit : zc_X1_bit.all (z_dok cX1_bit) = true := ze_pass_ok zc_X1_bit cX1_bit.data.toList 0 List.drop_zero (by decide +kernel)
theorem zd_X1_chosenThrees : zc_X1_chosenThrees.all (z_dok cX1_chosenThrees) = true := ze_pass_ok zc_X1_chosenThrees cX1_chosenThrees.data.toList 0 List.drop_zero (by decide +kernel)
theorem zd_X1_findThrees : zc_X1_findThrees.all (z_dok cX1_findThrees) = true := ze_pass_ok zc_X1_findThrees cX1_findThrees.data.toList 0 List.drop_zero (by decide +kernel)
theorem zd_X1_isBetter : zc_X1_isBetter.all (z_dok cX1_isBetter) = true := ze_pass_ok zc_X1_isBetter cX1_isBetter.data.toList 0 List.drop_zero (by decide +kernel)
theorem zd_X1_isHidden : zc_X1_isHidden.all (z_dok cX1_isHidden) = true := ze_pass_ok zc_X1_isHidden cX1_isHidden.data.toList 0 List.drop_zero (by decide +kernel)
theorem zd_X1_mayHaveCompleted : zc_X1_mayHaveCompleted.all (z_dok cX1_mayHaveCompleted) = true := ze_pass_ok zc_X1_mayHaveCompleted cX1_mayHaveCompleted.data.toList 0 List.drop_zero (by decide +kernel)
theorem zd_X1_pairFu : zc_X1_pairFu.all (z_dok cX1_pairFu) = true := ze_pass_ok zc_X1_pairFu cX1_pairFu.data.toList 0 List.drop_zero (by decide +kernel)
theorem zd_X1_toldOnes : zc_X1_toldOnes.all (z_dok cX1_toldOnes) = true := ze_pass_ok zc_X1_toldOnes cX1_toldOnes.data.toList 0 List.drop_zero (by decide +kernel)
theorem zd_X1_waitFu : zc_X1_waitFu.all (z_dok cX1_waitFu) = true := ze_pass_ok zc_X1_waitFu cX1_waitFu.data.toList 0 List.drop_zero (by decide +kernel)
theorem zd_X2_throwTile : zc_X2_throwTile.all (z_dok cX2_throwTile) = true := ze_pass_ok zc_X2_throwTile cX2_throwTile.data.toList 0 List.drop_zero (by decide +kernel)
theorem zd_X2_thrown : zc_X2_thrown.all (z_dok cX2_thrown) = true := ze_pass_ok zc_X2_thrown cX2_thrown.data.toList 0 List.drop_zero (by decide +kernel)
theorem zd_X3_empty : zc_X3_empty.all (z_dok cX3_empty) = true := ze_pass_ok zc_X3_empty cX3_empty.data.toList 0 List.drop_zero (by decide +kernel)
theorem zd_X3_isOpen : zc_X3_isOpen.all (z_dok cX3_isOpen) = true := ze_pass_ok zc_X3_isOpen cX3_isOpen.data.toList 0 List.drop_zero (by decide +kernel)
theorem zd_X3_isSevenPairs : zc_X3_isSevenPairs.all (z_dok cX3_isSevenPairs) = true := ze_pass_ok zc_X3_isSevenPairs cX3_isSevenPairs.data.toList 0 List.drop_zero (by decide +kernel)
theorem zd_X3_kinds : zc_X3_kinds.all (z_dok cX3_kinds) = true := ze_pass_ok zc_X3_kinds cX3_kinds.data.toList 0 List.drop_zero (by decide +kernel)
theorem zd_X3_size : zc_X3_size.all (z_dok cX3_size) = true := ze_pass_ok zc_X3_size cX3_size.data.toList 0 List.drop_zero (by decide +kernel)
theorem zd_X4_behind : zc_X4_behind.all (z_dok cX4_behind) = true := ze_pass_ok zc_X4_behind cX4_behind.data.toList 0 List.drop_zero (by decide +kernel)
theorem zd_X4_build : zc_X4_build.all (z_dok cX4_build) = true := ze_pass_ok zc_X4_build cX4_build.data.toList 0 List.drop_zero (by decide +kernel)
theorem zd_X4_kindAt : zc_X4_kindAt.all (z_dok cX4_kindAt) = true := ze_pass_ok zc_X4_kindAt cX4_kindAt.data.toList 0 List.drop_zero (by decide +kernel)
theorem zd_X4_left : zc_X4_left.all (z_dok cX4_left) = true := ze_pass_ok zc_X4_left cX4_left.data.toList 0 List.drop_zero (by decide +kernel)
theorem zd_X4_signs : zc_X4_signs.all (z_dok cX4_signs) = true := ze_pass_ok zc_X4_signs cX4_signs.data.toList 0 List.drop_zero (by decide +kernel)
theorem zd_X5_part : zc_X5_part.all (z_dok cX5_part) = true := ze_pass_ok zc_X5_part cX5_part.data.toList 0 List.drop_zero (by decide +kernel)
theorem zd_X6_at : zc_X6_at.all (z_dok cX6_at) = true := ze_pass_ok zc_X6_at cX6_at.data.toList 0 List.drop_zero (by decide +kernel)
theorem zd_X6_desk : zc_X6_desk.all (z_dok cX6_desk) = true := ze_pass_ok zc_X6_desk cX6_desk.data.toList 0 List.drop_zero (by decide +kernel)
theorem zd_X6_deskForms : zc_X6_deskForms.all (z_dok cX6_deskForms) = true := ze_pass_ok zc_X6_deskForms cX6_deskForms.data.toList 0 List.drop_zero (by decide +kernel)
theorem zd_X6_holds : zc_X6_holds.all (z_dok cX6_holds) = true := ze_pass_ok zc_X6_holds cX6_holds.data.toList 0 List.drop_zero (by decide +kernel)
theorem zd_X6_hundreds : zc_X6_hundreds.all (z_dok cX6_hundreds) = true := ze_pass_ok zc_X6_hundreds cX6_hundreds.data.toList 0 List.drop_zero (by decide +kernel)
theorem zd_X6_isKind : zc_X6_isKind.all (z_dok cX6_isKind) = true := ze_pass_ok zc_X6_isKind cX6_isKind.data.toList 0 List.drop_zero (by decide +kernel)
theorem zd_X6_isSeat : zc_X6_isSeat.all (z_dok cX6_isSeat) = true := ze_pass_ok zc_X6_isSeat cX6_isSeat.data.toList 0 List.drop_zero (by decide +kernel)
theorem zd_X6_isWin : zc_X6_isWin.all (z_dok cX6_isWin) = true := ze_pass_ok zc_X6_isWin cX6_isWin.data.toList 0 List.drop_zero (by decide +kernel)
theorem zd_X6_recordWin : zc_X6_recordWin.all (z_dok cX6_recordWin) = true := ze_pass_ok zc_X6_recordWin cX6_recordWin.data.toList 0 List.drop_zero (by decide +kernel)
theorem zd_X6_startsRun : zc_X6_startsRun.all (z_dok cX6_startsRun) = true := ze_pass_ok zc_X6_startsRun cX6_startsRun.data.toList 0 List.drop_zero (by decide +kernel)
theorem zd_X6_tilesOfEach : zc_X6_tilesOfEach.all (z_dok cX6_tilesOfEach) = true := ze_pass_ok zc_X6_tilesOfEach cX6_tilesOfEach.data.toList 0 List.drop_zero (by decide +kernel)
theorem zd_X6_windOf : zc_X6_windOf.all (z_dok cX6_windOf) = true := ze_pass_ok zc_X6_windOf cX6_windOf.data.toList 0 List.drop_zero (by decide +kernel)
theorem zd_X7_anySays : zc_X7_anySays.all (z_dok cX7_anySays) = true := ze_pass_ok zc_X7_anySays cX7_anySays.data.toList 0 List.drop_zero (by decide +kernel)
theorem zd_X7_behind : zc_X7_behind.all (z_dok cX7_behind) = true := ze_pass_ok zc_X7_behind cX7_behind.data.toList 0 List.drop_zero (by decide +kernel)
theorem zd_X7_bit : zc_X7_bit.all (z_dok cX7_bit) = true := ze_pass_ok zc_X7_bit cX7_bit.data.toList 0 List.drop_zero (by decide +kernel)
theorem zd_X7_clear : zc_X7_clear.all (z_dok cX7_clear) = true := ze_pass_ok zc_X7_clear cX7_clear.data.toList 0 List.drop_zero (by decide +kernel)
theorem zd_X7_desk : zc_X7_desk.all (z_dok cX7_desk) = true := ze_pass_ok zc_X7_desk cX7_desk.data.toList 0 List.drop_zero (by decide +kernel)
theorem zd_X7_deskForms : zc_X7_deskForms.all (z_dok cX7_deskForms) = true := ze_pass_ok zc_X7_deskForms cX7_deskForms.data.toList 0 List.drop_zero (by decide +kernel)
theorem zd_X7_ends : zc_X7_ends.all (z_dok cX7_ends) = true := ze_pass_ok zc_X7_ends cX7_ends.data.toList 0 List.drop_zero (by decide +kernel)
theorem zd_X7_forms : zc_X7_forms.all (z_dok cX7_forms) = true := ze_pass_ok zc_X7_forms cX7_forms.data.toList 0 List.drop_zero (by decide +kernel)
theorem zd_X7_gives : zc_X7_gives.all (z_dok cX7_gives) = true := ze_pass_ok zc_X7_gives cX7_gives.data.toList 0 List.drop_zero (by decide +kernel)
theorem zd_X7_han : zc_X7_han.all (z_dok cX7_han) = true := ze_pass_ok zc_X7_han cX7_han.data.toList 0 List.drop_zero (by decide +kernel)
theorem zd_X7_has : zc_X7_has.all (z_dok cX7_has) = true := ze_pass_ok zc_X7_has cX7_has.data.toList 0 List.drop_zero (by decide +kernel)
theorem zd_X7_hasRun : zc_X7_hasRun.all (z_dok cX7_hasRun) = true := ze_pass_ok zc_X7_hasRun cX7_hasRun.data.toList 0 List.drop_zero (by decide +kernel)
theorem zd_X7_hasThree : zc_X7_hasThree.all (z_dok cX7_hasThree) = true := ze_pass_ok zc_X7_hasThree cX7_hasThree.data.toList 0 List.drop_zero (by decide +kernel)
theorem zd_X7_has_ : zc_X7_has_.all (z_dok cX7_has_) = true := ze_pass_ok zc_X7_has_ cX7_has_.data.toList 0 List.drop_zero (by decide +kernel)
theorem zd_X7_inHand : zc_X7_inHand.all (z_dok cX7_inHand) = true := ze_pass_ok zc_X7_inHand cX7_inHand.data.toList 0 List.drop_zero (by decide +kernel)
theorem zd_X7_isDragon : zc_X7_isDragon.all (z_dok cX7_isDragon) = true := ze_pass_ok zc_X7_isDragon cX7_isDragon.data.toList 0 List.drop_zero (by decide +kernel)
theorem zd_X7_isHidden : zc_X7_isHidden.all (z_dok cX7_isHidden) = true := ze_pass_ok zc_X7_isHidden cX7_isHidden.data.toList 0 List.drop_zero (by decide +kernel)
theorem zd_X7_isHonour : zc_X7_isHonour.all (z_dok cX7_isHonour) = true := ze_pass_ok zc_X7_isHonour cX7_isHonour.data.toList 0 List.drop_zero (by decide +kernel)
theorem zd_X7_isKind : zc_X7_isKind.all (z_dok cX7_isKind) = true := ze_pass_ok zc_X7_isKind cX7_isKind.data.toList 0 List.drop_zero (by decide +kernel)
theorem zd_X7_isOpen : zc_X7_isOpen.all (z_dok cX7_isOpen) = true := ze_pass_ok zc_X7_isOpen cX7_isOpen.data.toList 0 List.drop_zero (by decide +kernel)
theorem zd_X7_isOpen_ : zc_X7_isOpen_.all (z_dok cX7_isOpen_) = true := ze_pass_ok zc_X7_isOpen_ cX7_isOpen_.data.toList 0 List.drop_zero (by decide +kernel)
theorem zd_X7_isRun : zc_X7_isRun.all (z_dok cX7_isRun) = true := ze_pass_ok zc_X7_isRun cX7_isRun.data.toList 0 List.drop_zero (by decide +kernel)
theorem zd_X7_isSeat : zc_X7_isSeat.all (z_dok cX7_isSeat) = true := ze_pass_ok zc_X7_isSeat cX7_isSeat.data.toList 0 List.drop_zero (by decide +kernel)
theorem zd_X7_isTerminal : zc_X7_isTerminal.all (z_dok cX7_isTerminal) = true := ze_pass_ok zc_X7_isTerminal cX7_isTerminal.data.toList 0 List.drop_zero (by decide +kernel)
theorem zd_X7_lays : zc_X7_lays.all (z_dok cX7_lays) = true := ze_pass_ok zc_X7_lays cX7_lays.data.toList 0 List.drop_zero (by decide +kernel)
theorem zd_X7_left : zc_X7_left.all (z_dok cX7_left) = true := ze_pass_ok zc_X7_left cX7_left.data.toList 0 List.drop_zero (by decide +kernel)
theorem zd_X7_nothing : zc_X7_nothing.all (z_dok cX7_nothing) = true := ze_pass_ok zc_X7_nothing cX7_nothing.data.toList 0 List.drop_zero (by decide +kernel)
theorem zd_X7_pays : zc_X7_pays.all (z_dok cX7_pays) = true := ze_pass_ok zc_X7_pays cX7_pays.data.toList 0 List.drop_zero (by decide +kernel)
theorem zd_X7_takeDesk : zc_X7_takeDesk.all (z_dok cX7_takeDesk) = true := ze_pass_ok zc_X7_takeDesk cX7_takeDesk.data.toList 0 List.drop_zero (by decide +kernel)
theorem zd_X7_takesBets : zc_X7_takesBets.all (z_dok cX7_takesBets) = true := ze_pass_ok zc_X7_takesBets cX7_takesBets.data.toList 0 List.drop_zero (by decide +kernel)
theorem zd_X7_touched : zc_X7_touched.all (z_dok cX7_touched) = true := ze_pass_ok zc_X7_touched cX7_touched.data.toList 0 List.drop_zero (by decide +kernel)
theorem zd_X7_up : zc_X7_up.all (z_dok cX7_up) = true := ze_pass_ok zc_X7_up cX7_up.data.toList 0 List.drop_zero (by decide +kernel)
theorem zd_X7_wall : zc_X7_wall.all (z_dok cX7_wall) = true := ze_pass_ok zc_X7_wall cX7_wall.data.toList 0 List.drop_zero (by decide +kernel)
theorem zd_X7_windOf : zc_X7_windOf.all (z_dok cX7_windOf) = true := ze_pass_ok zc_X7_windOf cX7_windOf.data.toList 0 List.drop_zero (by decide +kernel)
theorem zd_X7_won : zc_X7_won.all (z_dok cX7_won) = true := ze_pass_ok zc_X7_won cX7_won.data.toList 0 List.drop_zero (by decide +kernel)
theorem zd_X7_writes : zc_X7_writes.all (z_dok cX7_writes) = true := ze_pass_ok zc_X7_writes cX7_writes.data.toList 0 List.drop_zero (by decide +kernel)
theorem zd_J13_bitCount_95d88 : zc_J13_bitCount_95d88.all (z_dok cJ13_bitCount_95d88) = true := ze_pass_ok zc_J13_bitCount_95d88 cJ13_bitCount_95d88.data.toList 0 List.drop_zero (by decide +kernel)
theorem zd_X1_endForms : zc_X1_endForms.all (z_dok cX1_endForms) = true := ze_pass_ok zc_X1_endForms cX1_endForms.data.toList 0 List.drop_zero (by decide +kernel)
theorem zd_X1_fillWay : zc_X1_fillWay.all (z_dok cX1_fillWay) = true := ze_pass_ok zc_X1_fillWay cX1_fillWay.data.toList 0 List.drop_zero (by decide +kernel)
theorem zd_X1_fuOf : zc_X1_fuOf.all (z_dok cX1_fuOf) = true := ze_pass_ok zc_X1_fuOf cX1_fuOf.data.toList 0 List.drop_zero (by decide +kernel)
theorem zd_X1_likeRuns : zc_X1_likeRuns.all (z_dok cX1_likeRuns) = true := ze_pass_ok zc_X1_likeRuns cX1_likeRuns.data.toList 0 List.drop_zero (by decide +kernel)
theorem zd_X1_offer : zc_X1_offer.all (z_dok cX1_offer) = true := ze_pass_ok zc_X1_offer cX1_offer.data.toList 0 List.drop_zero (by decide +kernel)
theorem zd_X1_setForms : zc_X1_setForms.all (z_dok cX1_setForms) = true := ze_pass_ok zc_X1_setForms cX1_setForms.data.toList 0 List.drop_zero (by decide +kernel)
theorem zd_X2_startHand : zc_X2_startHand.all (z_dok cX2_startHand) = true := ze_pass_ok zc_X2_startHand cX2_startHand.data.toList 0 List.drop_zero (by decide +kernel)
theorem zd_X3_all : zc_X3_all.all (z_dok cX3_all) = true := ze_pass_ok zc_X3_all cX3_all.data.toList 0 List.drop_zero (by decide +kernel)
theorem zd_X3_free : zc_X3_free.all (z_dok cX3_free) = true := ze_pass_ok zc_X3_free cX3_free.data.toList 0 List.drop_zero (by decide +kernel)
theorem zd_X3_isThirteen : zc_X3_isThirteen.all (z_dok cX3_isThirteen) = true := ze_pass_ok zc_X3_isThirteen cX3_isThirteen.data.toList 0 List.drop_zero (by decide +kernel)
theorem zd_X3_layDown : zc_X3_layDown.all (z_dok cX3_layDown) = true := ze_pass_ok zc_X3_layDown cX3_layDown.data.toList 0 List.drop_zero (by decide +kernel)
theorem zd_X3_put : zc_X3_put.all (z_dok cX3_put) = true := ze_pass_ok zc_X3_put cX3_put.data.toList 0 List.drop_zero (by decide +kernel)
theorem zd_X3_splitsBeside : zc_X3_splitsBeside.all (z_dok cX3_splitsBeside) = true := ze_pass_ok zc_X3_splitsBeside cX3_splitsBeside.data.toList 0 List.drop_zero (by decide +kernel)
theorem zd_X4_draw : zc_X4_draw.all (z_dok cX4_draw) = true := ze_pass_ok zc_X4_draw cX4_draw.data.toList 0 List.drop_zero (by decide +kernel)
theorem zd_X4_drawBehindFour : zc_X4_drawBehindFour.all (z_dok cX4_drawBehindFour) = true := ze_pass_ok zc_X4_drawBehindFour cX4_drawBehindFour.data.toList 0 List.drop_zero (by decide +kernel)
theorem zd_X6_breakHand : zc_X6_breakHand.all (z_dok cX6_breakHand) = true := ze_pass_ok zc_X6_breakHand cX6_breakHand.data.toList 0 List.drop_zero (by decide +kernel)
theorem zd_X6_clear : zc_X6_clear.all (z_dok cX6_clear) = true := ze_pass_ok zc_X6_clear cX6_clear.data.toList 0 List.drop_zero (by decide +kernel)
theorem zd_X6_count : zc_X6_count.all (z_dok cX6_count) = true := ze_pass_ok zc_X6_count cX6_count.data.toList 0 List.drop_zero (by decide +kernel)
theorem zd_X6_firstDraw : zc_X6_firstDraw.all (z_dok cX6_firstDraw) = true := ze_pass_ok zc_X6_firstDraw cX6_firstDraw.data.toList 0 List.drop_zero (by decide +kernel)
theorem zd_X6_forms : zc_X6_forms.all (z_dok cX6_forms) = true := ze_pass_ok zc_X6_forms cX6_forms.data.toList 0 List.drop_zero (by decide +kernel)
theorem zd_X6_keepsOther : zc_X6_keepsOther.all (z_dok cX6_keepsOther) = true := ze_pass_ok zc_X6_keepsOther cX6_keepsOther.data.toList 0 List.drop_zero (by decide +kernel)
theorem zd_X6_laid : zc_X6_laid.all (z_dok cX6_laid) = true := ze_pass_ok zc_X6_laid cX6_laid.data.toList 0 List.drop_zero (by decide +kernel)
theorem zd_X6_mayMakeFour : zc_X6_mayMakeFour.all (z_dok cX6_mayMakeFour) = true := ze_pass_ok zc_X6_mayMakeFour cX6_mayMakeFour.data.toList 0 List.drop_zero (by decide +kernel)
theorem zd_X6_otherEnd : zc_X6_otherEnd.all (z_dok cX6_otherEnd) = true := ze_pass_ok zc_X6_otherEnd cX6_otherEnd.data.toList 0 List.drop_zero (by decide +kernel)
theorem zd_X6_richest : zc_X6_richest.all (z_dok cX6_richest) = true := ze_pass_ok zc_X6_richest cX6_richest.data.toList 0 List.drop_zero (by decide +kernel)
theorem zd_X6_seat : zc_X6_seat.all (z_dok cX6_seat) = true := ze_pass_ok zc_X6_seat cX6_seat.data.toList 0 List.drop_zero (by decide +kernel)
theorem zd_X6_someoneIsBroke : zc_X6_someoneIsBroke.all (z_dok cX6_someoneIsBroke) = true := ze_pass_ok zc_X6_someoneIsBroke cX6_someoneIsBroke.data.toList 0 List.drop_zero (by decide +kernel)
theorem zd_X6_someoneSays : zc_X6_someoneSays.all (z_dok cX6_someoneSays) = true := ze_pass_ok zc_X6_someoneSays cX6_someoneSays.data.toList 0 List.drop_zero (by decide +kernel)
theorem zd_X6_toldForms : zc_X6_toldForms.all (z_dok cX6_toldForms) = true := ze_pass_ok zc_X6_toldForms cX6_toldForms.data.toList 0 List.drop_zero (by decide +kernel)
theorem zd_X6_won : zc_X6_won.all (z_dok cX6_won) = true := ze_pass_ok zc_X6_won cX6_won.data.toList 0 List.drop_zero (by decide +kernel)
theorem zd_X7_canDiscard : zc_X7_canDiscard.all (z_dok cX7_canDiscard) = true := ze_pass_ok zc_X7_canDiscard cX7_canDiscard.data.toList 0 List.drop_zero (by decide +kernel)
theorem zd_X7_claims : zc_X7_claims.all (z_dok cX7_claims) = true := ze_pass_ok zc_X7_claims cX7_claims.data.toList 0 List.drop_zero (by decide +kernel)
theorem zd_X7_compare : zc_X7_compare.all (z_dok cX7_compare) = true := ze_pass_ok zc_X7_compare cX7_compare.data.toList 0 List.drop_zero (by decide +kernel)
theorem zd_X7_count : zc_X7_count.all (z_dok cX7_count) = true := ze_pass_ok zc_X7_count cX7_count.data.toList 0 List.drop_zero (by decide +kernel)
theorem zd_X7_draws : zc_X7_draws.all (z_dok cX7_draws) = true := ze_pass_ok zc_X7_draws cX7_draws.data.toList 0 List.drop_zero (by decide +kernel)
theorem zd_X7_hand : zc_X7_hand.all (z_dok cX7_hand) = true := ze_pass_ok zc_X7_hand cX7_hand.data.toList 0 List.drop_zero (by decide +kernel)
theorem zd_X7_isEnd : zc_X7_isEnd.all (z_dok cX7_isEnd) = true := ze_pass_ok zc_X7_isEnd cX7_isEnd.data.toList 0 List.drop_zero (by decide +kernel)
theorem zd_X7_laid : zc_X7_laid.all (z_dok cX7_laid) = true := ze_pass_ok zc_X7_laid cX7_laid.data.toList 0 List.drop_zero (by decide +kernel)
theorem zd_X7_mayClaim : zc_X7_mayClaim.all (z_dok cX7_mayClaim) = true := ze_pass_ok zc_X7_mayClaim cX7_mayClaim.data.toList 0 List.drop_zero (by decide +kernel)
theorem zd_X7_mayMake : zc_X7_mayMake.all (z_dok cX7_mayMake) = true := ze_pass_ok zc_X7_mayMake cX7_mayMake.data.toList 0 List.drop_zero (by decide +kernel)
theorem zd_X7_of : zc_X7_of.all (z_dok cX7_of) = true := ze_pass_ok zc_X7_of cX7_of.data.toList 0 List.drop_zero (by decide +kernel)
theorem zd_X7_river : zc_X7_river.all (z_dok cX7_river) = true := ze_pass_ok zc_X7_river cX7_river.data.toList 0 List.drop_zero (by decide +kernel)
theorem zd_X7_seat : zc_X7_seat.all (z_dok cX7_seat) = true := ze_pass_ok zc_X7_seat cX7_seat.data.toList 0 List.drop_zero (by decide +kernel)
theorem zd_X7_take : zc_X7_take.all (z_dok cX7_take) = true := ze_pass_ok zc_X7_take cX7_take.data.toList 0 List.drop_zero (by decide +kernel)
theorem zd_X7_twins : zc_X7_twins.all (z_dok cX7_twins) = true := ze_pass_ok zc_X7_twins cX7_twins.data.toList 0 List.drop_zero (by decide +kernel)
theorem zd_X1_isNineGates : zc_X1_isNineGates.all (z_dok cX1_isNineGates) = true := ze_pass_ok zc_X1_isNineGates cX1_isNineGates.data.toList 0 List.drop_zero (by decide +kernel)
theorem zd_X1_weighCompleted : zc_X1_weighCompleted.all (z_dok cX1_weighCompleted) = true := ze_pass_ok zc_X1_weighCompleted cX1_weighCompleted.data.toList 0 List.drop_zero (by decide +kernel)
theorem zd_X3_addToThree : zc_X3_addToThree.all (z_dok cX3_addToThree) = true := ze_pass_ok zc_X3_addToThree cX3_addToThree.data.toList 0 List.drop_zero (by decide +kernel)
theorem zd_X3_isSetsAndPair : zc_X3_isSetsAndPair.all (z_dok cX3_isSetsAndPair) = true := ze_pass_ok zc_X3_isSetsAndPair cX3_isSetsAndPair.data.toList 0 List.drop_zero (by decide +kernel)
theorem zd_X3_take : zc_X3_take.all (z_dok cX3_take) = true := ze_pass_ok zc_X3_take cX3_take.data.toList 0 List.drop_zero (by decide +kernel)
theorem zd_X4_dearTiles : zc_X4_dearTiles.all (z_dok cX4_dearTiles) = true := ze_pass_ok zc_X4_dearTiles cX4_dearTiles.data.toList 0 List.drop_zero (by decide +kernel)
theorem zd_X6_drawTile : zc_X6_drawTile.all (z_dok cX6_drawTile) = true := ze_pass_ok zc_X6_drawTile cX6_drawTile.data.toList 0 List.drop_zero (by decide +kernel)
theorem zd_X6_endHand : zc_X6_endHand.all (z_dok cX6_endHand) = true := ze_pass_ok zc_X6_endHand cX6_endHand.data.toList 0 List.drop_zero (by decide +kernel)
theorem zd_X6_hand : zc_X6_hand.all (z_dok cX6_hand) = true := ze_pass_ok zc_X6_hand cX6_hand.data.toList 0 List.drop_zero (by decide +kernel)
theorem zd_X6_lay : zc_X6_lay.all (z_dok cX6_lay) = true := ze_pass_ok zc_X6_lay cX6_lay.data.toList 0 List.drop_zero (by decide +kernel)
theorem zd_X6_mayClaimSet : zc_X6_mayClaimSet.all (z_dok cX6_mayClaimSet) = true := ze_pass_ok zc_X6_mayClaimSet cX6_mayClaimSet.data.toList 0 List.drop_zero (by decide +kernel)
theorem zd_X6_mayThrow : zc_X6_mayThrow.all (z_dok cX6_mayThrow) = true := ze_pass_ok zc_X6_mayThrow cX6_mayThrow.data.toList 0 List.drop_zero (by decide +kernel)
theorem zd_X6_set : zc_X6_set.all (z_dok cX6_set) = true := ze_pass_ok zc_X6_set cX6_set.data.toList 0 List.drop_zero (by decide +kernel)
theorem zd_X7_add : zc_X7_add.all (z_dok cX7_add) = true := ze_pass_ok zc_X7_add cX7_add.data.toList 0 List.drop_zero (by decide +kernel)
theorem zd_X7_deal : zc_X7_deal.all (z_dok cX7_deal) = true := ze_pass_ok zc_X7_deal cX7_deal.data.toList 0 List.drop_zero (by decide +kernel)
theorem zd_X7_dearTiles : zc_X7_dearTiles.all (z_dok cX7_dearTiles) = true := ze_pass_ok zc_X7_dearTiles cX7_dearTiles.data.toList 0 List.drop_zero (by decide +kernel)
theorem zd_X7_edges : zc_X7_edges.all (z_dok cX7_edges) = true := ze_pass_ok zc_X7_edges cX7_edges.data.toList 0 List.drop_zero (by decide +kernel)
theorem zd_X7_hide : zc_X7_hide.all (z_dok cX7_hide) = true := ze_pass_ok zc_X7_hide cX7_hide.data.toList 0 List.drop_zero (by decide +kernel)
theorem zd_X7_lay : zc_X7_lay.all (z_dok cX7_lay) = true := ze_pass_ok zc_X7_lay cX7_lay.data.toList 0 List.drop_zero (by decide +kernel)
theorem zd_X7_nine : zc_X7_nine.all (z_dok cX7_nine) = true := ze_pass_ok zc_X7_nine cX7_nine.data.toList 0 List.drop_zero (by decide +kernel)
theorem zd_X7_set : zc_X7_set.all (z_dok cX7_set) = true := ze_pass_ok zc_X7_set cX7_set.data.toList 0 List.drop_zero (by decide +kernel)
theorem zd_X7_thirteen : zc_X7_thirteen.all (z_dok cX7_thirteen) = true := ze_pass_ok zc_X7_thirteen cX7_thirteen.data.toList 0 List.drop_zero (by decide +kernel)
theorem zd_X7_tiles : zc_X7_tiles.all (z_dok cX7_tiles) = true := ze_pass_ok zc_X7_tiles cX7_tiles.data.toList 0 List.drop_zero (by decide +kernel)
theorem zd_X1_tileForms : zc_X1_tileForms.all (z_dok cX1_tileForms) = true := ze_pass_ok zc_X1_tileForms cX1_tileForms.data.toList 0 List.drop_zero (by decide +kernel)
theorem zd_X1_weighWay : zc_X1_weighWay.all (z_dok cX1_weighWay) = true := ze_pass_ok zc_X1_weighWay cX1_weighWay.data.toList 0 List.drop_zero (by decide +kernel)
theorem zd_X3_waitsFor : zc_X3_waitsFor.all (z_dok cX3_waitsFor) = true := ze_pass_ok zc_X3_waitsFor cX3_waitsFor.data.toList 0 List.drop_zero (by decide +kernel)
theorem zd_X6_add : zc_X6_add.all (z_dok cX6_add) = true := ze_pass_ok zc_X6_add cX6_add.data.toList 0 List.drop_zero (by decide +kernel)
theorem zd_X6_deal : zc_X6_deal.all (z_dok cX6_deal) = true := ze_pass_ok zc_X6_deal cX6_deal.data.toList 0 List.drop_zero (by decide +kernel)
theorem zd_X6_makeFour : zc_X6_makeFour.all (z_dok cX6_makeFour) = true := ze_pass_ok zc_X6_makeFour cX6_makeFour.data.toList 0 List.drop_zero (by decide +kernel)
theorem zd_X6_nine : zc_X6_nine.all (z_dok cX6_nine) = true := ze_pass_ok zc_X6_nine cX6_nine.data.toList 0 List.drop_zero (by decide +kernel)
theorem zd_X7_firstSort : zc_X7_firstSort.all (z_dok cX7_firstSort) = true := ze_pass_ok zc_X7_firstSort cX7_firstSort.data.toList 0 List.drop_zero (by decide +kernel)
theorem zd_X7_pairsWay : zc_X7_pairsWay.all (z_dok cX7_pairsWay) = true := ze_pass_ok zc_X7_pairsWay cX7_pairsWay.data.toList 0 List.drop_zero (by decide +kernel)
theorem zd_X1_judge : zc_X1_judge.all (z_dok cX1_judge) = true := ze_pass_ok zc_X1_judge cX1_judge.data.toList 0 List.drop_zero (by decide +kernel)
theorem zd_X3_waiting : zc_X3_waiting.all (z_dok cX3_waiting) = true := ze_pass_ok zc_X3_waiting cX3_waiting.data.toList 0 List.drop_zero (by decide +kernel)
theorem zd_X6_hide : zc_X6_hide.all (z_dok cX6_hide) = true := ze_pass_ok zc_X6_hide cX6_hide.data.toList 0 List.drop_zero (by decide +kernel)
theorem zd_X6_letTileGo : zc_X6_letTileGo.all (z_dok cX6_letTileGo) = true := ze_pass_ok zc_X6_letTileGo cX6_letTileGo.data.toList 0 List.drop_zero (by decide +kernel)
theorem zd_X7_way : zc_X7_way.all (z_dok cX7_way) = true := ze_pass_ok zc_X7_way cX7_way.data.toList 0 List.drop_zero (by decide +kernel)
theorem zd_X6_deskWaits : zc_X6_deskWaits.all (z_dok cX6_deskWaits) = true := ze_pass_ok zc_X6_deskWaits cX6_deskWaits.data.toList 0 List.drop_zero (by decide +kernel)
theorem zd_X6_endUnwon : zc_X6_endUnwon.all (z_dok cX6_endUnwon) = true := ze_pass_ok zc_X6_endUnwon cX6_endUnwon.data.toList 0 List.drop_zero (by decide +kernel)
theorem zd_X6_mayBet : zc_X6_mayBet.all (z_dok cX6_mayBet) = true := ze_pass_ok zc_X6_mayBet cX6_mayBet.data.toList 0 List.drop_zero (by decide +kernel)
theorem zd_X6_takeSet : zc_X6_takeSet.all (z_dok cX6_takeSet) = true := ze_pass_ok zc_X6_takeSet cX6_takeSet.data.toList 0 List.drop_zero (by decide +kernel)
theorem zd_X6_waits : zc_X6_waits.all (z_dok cX6_waits) = true := ze_pass_ok zc_X6_waits cX6_waits.data.toList 0 List.drop_zero (by decide +kernel)
theorem zd_X6_weighHand : zc_X6_weighHand.all (z_dok cX6_weighHand) = true := ze_pass_ok zc_X6_weighHand cX6_weighHand.data.toList 0 List.drop_zero (by decide +kernel)
theorem zd_X6_worth : zc_X6_worth.all (z_dok cX6_worth) = true := ze_pass_ok zc_X6_worth cX6_worth.data.toList 0 List.drop_zero (by decide +kernel)
theorem zd_X7_sets : zc_X7_sets.all (z_dok cX7_sets) = true := ze_pass_ok zc_X7_sets cX7_sets.data.toList 0 List.drop_zero (by decide +kernel)
theorem zd_X6_claim : zc_X6_claim.all (z_dok cX6_claim) = true := ze_pass_ok zc_X6_claim cX6_claim.data.toList 0 List.drop_zero (by decide +kernel)
theorem zd_X6_discard : zc_X6_discard.all (z_dok cX6_discard) = true := ze_pass_ok zc_X6_discard cX6_discard.data.toList 0 List.drop_zero (by decide +kernel)
theorem zd_X6_four : zc_X6_four.all (z_dok cX6_four) = true := ze_pass_ok zc_X6_four cX6_four.data.toList 0 List.drop_zero (by decide +kernel)
theorem zd_X6_run : zc_X6_run.all (z_dok cX6_run) = true := ze_pass_ok zc_X6_run cX6_run.data.toList 0 List.drop_zero (by decide +kernel)
theorem zd_X6_three : zc_X6_three.all (z_dok cX6_three) = true := ze_pass_ok zc_X6_three cX6_three.data.toList 0 List.drop_zero (by decide +kernel)
theorem zd_X6_win : zc_X6_win.all (z_dok cX6_win) = true := ze_pass_ok zc_X6_win cX6_win.data.toList 0 List.drop_zero (by decide +kernel)
theorem zd_X6_winByTile : zc_X6_winByTile.all (z_dok cX6_winByTile) = true := ze_pass_ok zc_X6_winByTile cX6_winByTile.data.toList 0 List.drop_zero (by decide +kernel)
theorem zd_X7_apart : zc_X7_apart.all (z_dok cX7_apart) = true := ze_pass_ok zc_X7_apart cX7_apart.data.toList 0 List.drop_zero (by decide +kernel)
theorem zd_X6_pass : zc_X6_pass.all (z_dok cX6_pass) = true := ze_pass_ok zc_X6_pass cX6_pass.data.toList 0 List.drop_zero (by decide +kernel)
theorem zd_X7_reckon : zc_X7_reckon.all (z_dok cX7_reckon) = true := ze_pass_ok zc_X7_reckon cX7_reckon.data.toList 0 List.drop_zero (by decide +kernel)
theorem zd_X7_waitsOf : zc_X7_waitsOf.all (z_dok cX7_waitsOf) = true := ze_pass_ok zc_X7_waitsOf cX7_waitsOf.data.toList 0 List.drop_zero (by decide +kernel)
theorem zd_X7_deskWaits : zc_X7_deskWaits.all (z_dok cX7_deskWaits) = true := ze_pass_ok zc_X7_deskWaits cX7_deskWaits.data.toList 0 List.drop_zero (by decide +kernel)
theorem zd_X7_value : zc_X7_value.all (z_dok cX7_value) = true := ze_pass_ok zc_X7_value cX7_value.data.toList 0 List.drop_zero (by decide +kernel)
theorem zd_X7_waitsAt : zc_X7_waitsAt.all (z_dok cX7_waitsAt) = true := ze_pass_ok zc_X7_waitsAt cX7_waitsAt.data.toList 0 List.drop_zero (by decide +kernel)
theorem zd_X7_worth : zc_X7_worth.all (z_dok cX7_worth) = true := ze_pass_ok zc_X7_worth cX7_worth.data.toList 0 List.drop_zero (by decide +kernel)
theorem zd_X7_allWin : zc_X7_allWin.all (z_dok cX7_allWin) = true := ze_pass_ok zc_X7_allWin cX7_allWin.data.toList 0 List.drop_zero (by decide +kernel)
theorem zd_X7_claim : zc_X7_claim.all (z_dok cX7_claim) = true := ze_pass_ok zc_X7_claim cX7_claim.data.toList 0 List.drop_zero (by decide +kernel)
theorem zd_X7_discard : zc_X7_discard.all (z_dok cX7_discard) = true := ze_pass_ok zc_X7_discard cX7_discard.data.toList 0 List.drop_zero (by decide +kernel)
theorem zd_X7_nobodyWins : zc_X7_nobodyWins.all (z_dok cX7_nobodyWins) = true := ze_pass_ok zc_X7_nobodyWins cX7_nobodyWins.data.toList 0 List.drop_zero (by decide +kernel)
theorem zd_X7_over : zc_X7_over.all (z_dok cX7_over) = true := ze_pass_ok zc_X7_over cX7_over.data.toList 0 List.drop_zero (by decide +kernel)
theorem zd_X7_waits : zc_X7_waits.all (z_dok cX7_waits) = true := ze_pass_ok zc_X7_waits cX7_waits.data.toList 0 List.drop_zero (by decide +kernel)
theorem zd_X7_win : zc_X7_win.all (z_dok cX7_win) = true := ze_pass_ok zc_X7_win cX7_win.data.toList 0 List.drop_zero (by decide +kernel)
theorem zd_X7_four : zc_X7_four.all (z_dok cX7_four) = true := ze_pass_ok zc_X7_four cX7_four.data.toList 0 List.drop_zero (by decide +kernel)
theorem zd_X7_pass : zc_X7_pass.all (z_dok cX7_pass) = true := ze_pass_ok zc_X7_pass cX7_pass.data.toList 0 List.drop_zero (by decide +kernel)
theorem zd_X7_run : zc_X7_run.all (z_dok cX7_run) = true := ze_pass_ok zc_X7_run cX7_run.data.toList 0 List.drop_zero (by decide +kernel)
theorem zd_X7_three : zc_X7_three.all (z_dok cX7_three) = true := ze_pass_ok zc_X7_three cX7_three.data.toList 0 List.drop_zero (by decide +kernel)
theorem zd_L_law : zc_L_law.all (z_dok cL_law) = true := ze_pass_ok zc_L_law cL_law.data.toList 0 List.drop_zero (by decide +kernel)
