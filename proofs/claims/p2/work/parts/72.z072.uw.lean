/-! one bit of the WAITS -/
set_option maxRecDepth 8000
theorem sb9 : ∀ c, c < 34 → (((nI c).toInt64 &&& 63).toBitVec.smod 64).toNat = c := by decide +kernel
theorem one_b : ∀ i, i < 64 → (1 : Int64).toBitVec.getLsbD i = decide (i = 0) := by decide +kernel
theorem zero_b : ∀ i, i < 64 → (0 : Int64).toBitVec.getLsbD i = false := by decide +kernel
theorem and1 {x : Int64} {b : Bool} (h : x.toBitVec.getLsbD 0 = b) : x &&& 1 = bif b then 1 else 0 := by
  apply Int64.toBitVec_inj.mp
  rw [Int64.toBitVec_and]
  apply BitVec.eq_of_getLsbD_eq
  intro i hi
  rw [BitVec.getLsbD_and, one_b i hi]
  by_cases e : i = 0
  · subst e
    rw [h]
    cases b
    · rw [cond_false, zero_b 0 (by decide)]; rfl
    · rw [cond_true, one_b 0 (by decide)]; rfl
  · rw [decide_eq_false e, Bool.and_false]
    cases b
    · rw [cond_false, zero_b i hi]
    · rw [cond_true, one_b i hi, decide_eq_false e]
theorem sh_bit (x : Int64) {c : Nat} (hc : c < 34) : ((x >>> ((nI c).toInt64 &&& 63)) &&& 1) = bif x.toBitVec.getLsbD c then 1 else 0 := by
  refine and1 ?_
  rw [Int64.toBitVec_shiftRight, BitVec.sshiftRight_eq', sb9 c hc, BitVec.getLsbD_sshiftRight]
  simp
  omega
theorem bw_kb (f : Nat → Bool) {c : Nat} (hc : c < 34) : bw (kb f 34) c = f c := by
  unfold bw
  rw [sh_bit _ hc, kb_bit f 34 (Nat.le_refl _) c hc, decide_eq_true hc, Bool.true_and]
  cases f c <;> decide
theorem bz_kb (f : Nat → Bool) {c : Nat} (hc : c < 34) : decide (lg_cmp ((kb f 34 >>> ((nI c).toInt64 &&& 63)) &&& 1) 0 = 0) = !f c := by
  rw [sh_bit _ hc, kb_bit f 34 (Nat.le_refl _) c hc, decide_eq_true hc, Bool.true_and]
  cases f c <;> decide
theorem su9 : ∀ c, c < 34 → ((((nI c).toInt64.toUInt64 &&& Int64.toUInt64 63)).toBitVec % 64).toNat = c := by decide +kernel
theorem shu_bit (x : Int64) {c : Nat} (hc : c < 34) : ((x.toUInt64 >>> ((nI c).toInt64.toUInt64 &&& Int64.toUInt64 63)).toInt64 &&& 1) = bif x.toBitVec.getLsbD c then 1 else 0 := by
  refine and1 ?_
  show (x.toUInt64 >>> ((nI c).toInt64.toUInt64 &&& Int64.toUInt64 63)).toBitVec.getLsbD 0 = _
  rw [UInt64.toBitVec_shiftRight, BitVec.ushiftRight_eq', su9 c hc, BitVec.getLsbD_ushiftRight, Nat.add_zero]
  rfl
theorem hd_kb (f : Nat → Bool) {c : Nat} (hc : c < 34) : xHd (kb f 34) (nI c) = f c := by
  unfold xHd
  rw [kn_l0 (by omega), kn_le (m := 34) rfl (by omega) hc, shu_bit _ hc, kb_bit f 34 (Nat.le_refl _) c hc, decide_eq_true hc, Bool.true_and]
  cases f c <;> decide
theorem HF.te {x m x' : zM} {s : Nat} {w aw : Nat → Nat} {q : Nat} {sL lL : Nat → Nat} (H : HF x m s w aw q sL lL) (hs : s < 4) (h : TE x x') : HF x' m s w aw q sL lL := by
  obtain ⟨h1, h2, h3, h4, h5, h6, h7, h8⟩ := H
  exact ⟨h1, fun k hk => by rw [h s hs 20 (by omega) (by omega)]; exact h2 k hk, fun k hk => by rw [h s hs 21 (by omega) (by omega)]; exact h3 k hk, by rw [h s hs 19 (by omega) (by omega)]; exact h4, h5, h6, by rw [h s hs 19 (by omega) (by omega)]; exact h7, h8⟩
/-- the WAITS of a hand -/
noncomputable def WV (m : zM) (s : Nat) (w : Nat → Nat) (q : Nat) : Int64 := kb (wb (WMs m s w q)) 34
theorem cw_wait {x m : zM} {s : Nat} {w aw : Nat → Nat} {q : Nat} {sL lL : Nat → Nat} (H : HF x m s w aw q sL lL) (hs : s < 4) : ∀ μ1, TE x μ1 → ∀ d, 7 ≤ d → z_C d mi_X3_waiting [.ref (19 + 8 * s)] μ1 (zR μ1 (.long (WV m s w q))) := fun μ1 ht d hd => by
  have H1 := H.te hs ht
  have e : WV m s w q = kb (wb (WX (sMm s μ1) w q)) 34 := (wt_kb H1 hs).symm
  rw [e]
  obtain ⟨h1, h2, h3, h4, h5, h6, h7, h8⟩ := H1
  exact gc_waiting d hd μ1 s hs w q h2 (fun k hk => (h1.1 k hk).2) h1.2.2.1 h4 (fun e k hk => by rw [← h5 e k hk]; exact h3 k hk)
theorem cw_for {x m : zM} {s : Nat} {w aw : Nat → Nat} {q : Nat} {sL lL : Nat → Nat} (H : HF x m s w aw q sL lL) (hs : s < 4) {c : Nat} (hc : c < 34) : ∀ μ1, TE x μ1 → ∀ d, 6 ≤ d → z_C d mi_X3_waitsFor [.ref (19 + 8 * s), .int (nI c)] μ1 (zR μ1 (.int (nB (bw (WV m s w q) c)))) := fun μ1 ht d hd => by
  have H1 := H.te hs ht
  have e := wt_iff H1 hs hc
  obtain ⟨h1, h2, h3, h4, h5, h6, h7, h8⟩ := H1
  refine z_C_mono (gc_waitsFor d hd μ1 s hs w q c h2 (fun k hk => (h1.1 k hk).2) h1.2.2.1 h4 (fun e k hk => by rw [← h5 e k hk]; exact h3 k hk) hc) (fun r m' z => ⟨z.1, ?_⟩)
  unfold WV
  rw [bw_kb _ hc]
  rcases z.2 with ⟨y, hy⟩ | ⟨y, hy⟩
  · rw [y, wb_t (e.mp hy)]; rfl
  · rw [y, wb_f (fun q => hy (e.mpr q))]; rfl
