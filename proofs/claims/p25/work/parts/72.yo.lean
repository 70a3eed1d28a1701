/-! a way is worth the same to both -/
set_option maxRecDepth 8000
theorem AH_yM (κ : zM) (s l : Nat → Nat) (p co : Int32) : AH (yM κ s l p co) κ := ⟨rfl, rfl, rfl, rfl, rfl, rfl, rfl⟩
theorem cpG_eq (ν : zM) (g pl : Int64) (f : Int32) (t : Int64) (ht : ν.2.1 50 12 = t) : cpG (mGP ν g pl f) = g ||| tGr t := by
  rw [← ht]
  rfl
theorem cpP_f (ν : zM) (g pl : Int64) (f : Int32) (t : Int64) (dr : Bool) (ht : ν.2.1 50 12 = t) (hd : ν.1 50 11 = nB dr) : cpP (mGP ν g pl f) false = (((pl ||| tFo t) ||| tTw t) ||| tOn t) ||| lb dr 3 := by
  have e : cpP (mGP ν g pl f) false = (bif decide (lg_cmp (t &&& lb true 1) 0 = 0) then ((pl ||| tFo t) ||| tTw t) ||| (t &&& lb true 0) else (pl ||| tFo t) ||| tTw t) ||| lb (!(decide (nB dr = 0))) 3 := by
    rw [← ht, ← hd]
    rfl
  rw [e, show (!(decide (nB dr = 0))) = dr by cases dr <;> rfl]
  unfold tOn
  cases decide (lg_cmp (t &&& lb true 1) 0 = 0)
  · rw [cond_false, cond_false, Int64.or_zero]
  · rw [cond_true, cond_true]
theorem cpP_o (ν : zM) (g pl : Int64) (f : Int32) (t : Int64) (ht : ν.2.1 50 12 = t) : cpP (mGP ν g pl f) true = pl ||| tFo t := by
  rw [← ht]
  rfl
/-- both know the tiles and what was told -/
structure TTw (κC κM : zM) (q : Nat) (told : Int64) (bb : Nat → Bool) : Prop where
  sh : κC.2.1 14 12 = xTO κC told ||| xTF (kb bb 34) (n40 κM (tN bb 34))
  tm : κM.2.1 50 12 = told &&& 13194139533559
  tf : tF κM q 34 0 t70 = tN bb 34
section WYO
variable {q p co : Nat} {s l : Nat → Nat} (h : WY q p co s l) {κC κM : zM} {kk : Nat} {dear : Int32} {dr op : Bool} {a b : Nat} (k : KK κC κM q kk dear dr op a b) {told : Int64} {bb : Nat → Bool} (t : TTw κC κM q told bb)
include h k t
theorem WY.gG : w639_g (yM κM s l (nI p) (nI co)) q s l = ((((((((((0 : Int64) ||| (lb (decide (w0_2 (yM κM s l (nI p) (nI co)) q s l = 4)) 33)) ||| (lb (decide ((((0 + (nB (xT (yM κM s l (nI p) (nI co)) 31))) + (nB (xT (yM κM s l (nI p) (nI co)) 32))) + (nB (xT (yM κM s l (nI p) (nI co)) 33))) = 3)) 34)) ||| (lb ((decide (((((0 + (nB (xT (yM κM s l (nI p) (nI co)) 27))) + (nB (xT (yM κM s l (nI p) (nI co)) 28))) + (nB (xT (yM κM s l (nI p) (nI co)) 29))) + (nB (xT (yM κM s l (nI p) (nI co)) 30))) = 3)) && (!(decide (nI p ≤ 26)) && (!(decide (31 ≤ nI p))))) 35)) ||| (lb (decide (((((0 + (nB (xT (yM κM s l (nI p) (nI co)) 27))) + (nB (xT (yM κM s l (nI p) (nI co)) 28))) + (nB (xT (yM κM s l (nI p) (nI co)) 29))) + (nB (xT (yM κM s l (nI p) (nI co)) 30))) = 4)) 36)) ||| (lb (decide (w0_3 (yM κM s l (nI p) (nI co)) q s l = 4)) 41)) ||| (lb (tN bb 34).2.2.1 37)) ||| (lb (tN bb 34).2.2.2.2.1 38)) ||| (lb (tN bb 34).2.2.2.2.2.1 39)) ||| (lb (n40 κM (tN bb 34)) 40)) := by
  unfold w639_g
  rw [ah_tF (AH_yM κM s l (nI p) (nI co)), t.tf]
  rfl
theorem WY.gPf (ho : op = false) : w639_p (yM κM s l (nI p) (nI co)) q s l = ((((((((((((((((((((((((((((((((((((((0 : Int64) ||| (lb (w184_9 (yM κM s l (nI p) (nI co)) q s l) 9)) ||| (lb (decide (nI (twn s l 27) = 1)) 10)) ||| (lb (decide (nI (twn s l 27) = 2)) 28)) ||| (lb (xT (yM κM s l (nI p) (nI co)) 31) 11)) ||| (lb (xT (yM κM s l (nI p) (nI co)) 32) 12)) ||| (lb (xT (yM κM s l (nI p) (nI co)) 33) 13)) ||| (lb (xT (yM κM s l (nI p) (nI co)) (nI a)) 14)) ||| (lb (xT (yM κM s l (nI p) (nI co)) (nI b)) 15)) ||| (lb (xR (yM κM s l (nI p) (nI co)) 0 && (xR (yM κM s l (nI p) (nI co)) 9 && xR (yM κM s l (nI p) (nI co)) 18)) 17)) ||| (lb (xT (yM κM s l (nI p) (nI co)) 0 && (xT (yM κM s l (nI p) (nI co)) 9 && xT (yM κM s l (nI p) (nI co)) 18)) 22)) ||| (lb (xR (yM κM s l (nI p) (nI co)) 1 && (xR (yM κM s l (nI p) (nI co)) 10 && xR (yM κM s l (nI p) (nI co)) 19)) 17)) ||| (lb (xT (yM κM s l (nI p) (nI co)) 1 && (xT (yM κM s l (nI p) (nI co)) 10 && xT (yM κM s l (nI p) (nI co)) 19)) 22)) ||| (lb (xR (yM κM s l (nI p) (nI co)) 2 && (xR (yM κM s l (nI p) (nI co)) 11 && xR (yM κM s l (nI p) (nI co)) 20)) 17)) ||| (lb (xT (yM κM s l (nI p) (nI co)) 2 && (xT (yM κM s l (nI p) (nI co)) 11 && xT (yM κM s l (nI p) (nI co)) 20)) 22)) ||| (lb (xR (yM κM s l (nI p) (nI co)) 3 && (xR (yM κM s l (nI p) (nI co)) 12 && xR (yM κM s l (nI p) (nI co)) 21)) 17)) ||| (lb (xT (yM κM s l (nI p) (nI co)) 3 && (xT (yM κM s l (nI p) (nI co)) 12 && xT (yM κM s l (nI p) (nI co)) 21)) 22)) ||| (lb (xR (yM κM s l (nI p) (nI co)) 4 && (xR (yM κM s l (nI p) (nI co)) 13 && xR (yM κM s l (nI p) (nI co)) 22)) 17)) ||| (lb (xT (yM κM s l (nI p) (nI co)) 4 && (xT (yM κM s l (nI p) (nI co)) 13 && xT (yM κM s l (nI p) (nI co)) 22)) 22)) ||| (lb (xR (yM κM s l (nI p) (nI co)) 5 && (xR (yM κM s l (nI p) (nI co)) 14 && xR (yM κM s l (nI p) (nI co)) 23)) 17)) ||| (lb (xT (yM κM s l (nI p) (nI co)) 5 && (xT (yM κM s l (nI p) (nI co)) 14 && xT (yM κM s l (nI p) (nI co)) 23)) 22)) ||| (lb (xR (yM κM s l (nI p) (nI co)) 6 && (xR (yM κM s l (nI p) (nI co)) 15 && xR (yM κM s l (nI p) (nI co)) 24)) 17)) ||| (lb (xT (yM κM s l (nI p) (nI co)) 6 && (xT (yM κM s l (nI p) (nI co)) 15 && xT (yM κM s l (nI p) (nI co)) 24)) 22)) ||| (lb (xT (yM κM s l (nI p) (nI co)) 7 && (xT (yM κM s l (nI p) (nI co)) 16 && xT (yM κM s l (nI p) (nI co)) 25)) 22)) ||| (lb (xT (yM κM s l (nI p) (nI co)) 8 && (xT (yM κM s l (nI p) (nI co)) 17 && xT (yM κM s l (nI p) (nI co)) 26)) 22)) ||| (lb (xR (yM κM s l (nI p) (nI co)) 0 && (xR (yM κM s l (nI p) (nI co)) 3 && xR (yM κM s l (nI p) (nI co)) 6)) 18)) ||| (lb (xR (yM κM s l (nI p) (nI co)) 9 && (xR (yM κM s l (nI p) (nI co)) 12 && xR (yM κM s l (nI p) (nI co)) 15)) 18)) ||| (lb (xR (yM κM s l (nI p) (nI co)) 18 && (xR (yM κM s l (nI p) (nI co)) 21 && xR (yM κM s l (nI p) (nI co)) 24)) 18)) ||| (lb (decide (w0_1 (yM κM s l (nI p) (nI co)) q s l = 0)) 19)) ||| (lb (decide (w0_2 (yM κM s l (nI p) (nI co)) q s l = 3)) 20)) ||| (lb (decide (w0_3 (yM κM s l (nI p) (nI co)) q s l = 3)) 21)) ||| (lb (xE1 (yM κM s l (nI p) (nI co)) (w0_1 (yM κM s l (nI p) (nI co)) q s l)) 23)) ||| (lb (xE2 (yM κM s l (nI p) (nI co)) (w0_1 (yM κM s l (nI p) (nI co)) q s l)) 27)) ||| (lb ((decide ((((0 + (nB (xT (yM κM s l (nI p) (nI co)) 31))) + (nB (xT (yM κM s l (nI p) (nI co)) 32))) + (nB (xT (yM κM s l (nI p) (nI co)) 33))) = 2)) && (xDr (nI p))) 25)) ||| (lb ((tN bb 34).2.1) 8)) ||| (lb ((tN bb 34).1) 24)) ||| (lb (one7 (tN bb 34).2.2.2.2.2.2 && (tN bb 34).2.2.2.1) 26)) ||| (lb (one7 (tN bb 34).2.2.2.2.2.2 && !(tN bb 34).2.2.2.1) 29)) := by
  unfold w639_p w519_p w402_8_p w402_7_p w402_6_p w402_5_p w402_4_p w402_3_p w402_2_p w402_1_p w402_0_p w302_p w261_p w0_4
  rw [xOp_yM, k.mo, ho, ah_tF (AH_yM κM s l (nI p) (nI co)), t.tf, show 27 + (yM κM s l (nI p) (nI co)).1 50 8 = nI a from k.m8, show 27 + (yM κM s l (nI p) (nI co)).1 50 9 = nI b from k.m9]
  rfl
theorem WY.gPo (ho : op = true) : w639_p (yM κM s l (nI p) (nI co)) q s l = ((((((((((((((((((((((((((((((((((((0 : Int64) ||| (lb (w184_9 (yM κM s l (nI p) (nI co)) q s l) 9)) ||| (lb (xT (yM κM s l (nI p) (nI co)) 31) 11)) ||| (lb (xT (yM κM s l (nI p) (nI co)) 32) 12)) ||| (lb (xT (yM κM s l (nI p) (nI co)) 33) 13)) ||| (lb (xT (yM κM s l (nI p) (nI co)) (nI a)) 14)) ||| (lb (xT (yM κM s l (nI p) (nI co)) (nI b)) 15)) ||| (lb (xR (yM κM s l (nI p) (nI co)) 0 && (xR (yM κM s l (nI p) (nI co)) 9 && xR (yM κM s l (nI p) (nI co)) 18)) 17)) ||| (lb (xT (yM κM s l (nI p) (nI co)) 0 && (xT (yM κM s l (nI p) (nI co)) 9 && xT (yM κM s l (nI p) (nI co)) 18)) 22)) ||| (lb (xR (yM κM s l (nI p) (nI co)) 1 && (xR (yM κM s l (nI p) (nI co)) 10 && xR (yM κM s l (nI p) (nI co)) 19)) 17)) ||| (lb (xT (yM κM s l (nI p) (nI co)) 1 && (xT (yM κM s l (nI p) (nI co)) 10 && xT (yM κM s l (nI p) (nI co)) 19)) 22)) ||| (lb (xR (yM κM s l (nI p) (nI co)) 2 && (xR (yM κM s l (nI p) (nI co)) 11 && xR (yM κM s l (nI p) (nI co)) 20)) 17)) ||| (lb (xT (yM κM s l (nI p) (nI co)) 2 && (xT (yM κM s l (nI p) (nI co)) 11 && xT (yM κM s l (nI p) (nI co)) 20)) 22)) ||| (lb (xR (yM κM s l (nI p) (nI co)) 3 && (xR (yM κM s l (nI p) (nI co)) 12 && xR (yM κM s l (nI p) (nI co)) 21)) 17)) ||| (lb (xT (yM κM s l (nI p) (nI co)) 3 && (xT (yM κM s l (nI p) (nI co)) 12 && xT (yM κM s l (nI p) (nI co)) 21)) 22)) ||| (lb (xR (yM κM s l (nI p) (nI co)) 4 && (xR (yM κM s l (nI p) (nI co)) 13 && xR (yM κM s l (nI p) (nI co)) 22)) 17)) ||| (lb (xT (yM κM s l (nI p) (nI co)) 4 && (xT (yM κM s l (nI p) (nI co)) 13 && xT (yM κM s l (nI p) (nI co)) 22)) 22)) ||| (lb (xR (yM κM s l (nI p) (nI co)) 5 && (xR (yM κM s l (nI p) (nI co)) 14 && xR (yM κM s l (nI p) (nI co)) 23)) 17)) ||| (lb (xT (yM κM s l (nI p) (nI co)) 5 && (xT (yM κM s l (nI p) (nI co)) 14 && xT (yM κM s l (nI p) (nI co)) 23)) 22)) ||| (lb (xR (yM κM s l (nI p) (nI co)) 6 && (xR (yM κM s l (nI p) (nI co)) 15 && xR (yM κM s l (nI p) (nI co)) 24)) 17)) ||| (lb (xT (yM κM s l (nI p) (nI co)) 6 && (xT (yM κM s l (nI p) (nI co)) 15 && xT (yM κM s l (nI p) (nI co)) 24)) 22)) ||| (lb (xT (yM κM s l (nI p) (nI co)) 7 && (xT (yM κM s l (nI p) (nI co)) 16 && xT (yM κM s l (nI p) (nI co)) 25)) 22)) ||| (lb (xT (yM κM s l (nI p) (nI co)) 8 && (xT (yM κM s l (nI p) (nI co)) 17 && xT (yM κM s l (nI p) (nI co)) 26)) 22)) ||| (lb (xR (yM κM s l (nI p) (nI co)) 0 && (xR (yM κM s l (nI p) (nI co)) 3 && xR (yM κM s l (nI p) (nI co)) 6)) 18)) ||| (lb (xR (yM κM s l (nI p) (nI co)) 9 && (xR (yM κM s l (nI p) (nI co)) 12 && xR (yM κM s l (nI p) (nI co)) 15)) 18)) ||| (lb (xR (yM κM s l (nI p) (nI co)) 18 && (xR (yM κM s l (nI p) (nI co)) 21 && xR (yM κM s l (nI p) (nI co)) 24)) 18)) ||| (lb (decide (w0_1 (yM κM s l (nI p) (nI co)) q s l = 0)) 19)) ||| (lb (decide (w0_2 (yM κM s l (nI p) (nI co)) q s l = 3)) 20)) ||| (lb (decide (w0_3 (yM κM s l (nI p) (nI co)) q s l = 3)) 21)) ||| (lb (xE1 (yM κM s l (nI p) (nI co)) (w0_1 (yM κM s l (nI p) (nI co)) q s l)) 23)) ||| (lb (xE2 (yM κM s l (nI p) (nI co)) (w0_1 (yM κM s l (nI p) (nI co)) q s l)) 27)) ||| (lb ((decide ((((0 + (nB (xT (yM κM s l (nI p) (nI co)) 31))) + (nB (xT (yM κM s l (nI p) (nI co)) 32))) + (nB (xT (yM κM s l (nI p) (nI co)) 33))) = 2)) && (xDr (nI p))) 25)) ||| (lb ((tN bb 34).2.1) 8)) ||| (lb ((tN bb 34).1) 24)) ||| (lb (one7 (tN bb 34).2.2.2.2.2.2 && (tN bb 34).2.2.2.1) 26)) ||| (lb (one7 (tN bb 34).2.2.2.2.2.2 && !(tN bb 34).2.2.2.1) 29)) := by
  unfold w639_p w519_p w402_8_p w402_7_p w402_6_p w402_5_p w402_4_p w402_3_p w402_2_p w402_1_p w402_0_p w302_p w261_p w0_4
  rw [xOp_yM, k.mo, ho, ah_tF (AH_yM κM s l (nI p) (nI co)), t.tf, show 27 + (yM κM s l (nI p) (nI co)).1 50 8 = nI a from k.m8, show 27 + (yM κM s l (nI p) (nI co)).1 50 9 = nI b from k.m9]
  rfl
theorem WY.FF (hm : mc (nI kk) q p s l co = true) (f : Int32) : fO (nB op) (((((cM κC s l (nI p)).2.1 14 12 ||| xLR (cM κC s l (nI p))) ||| xSF (cM κC s l (nI p))) ||| xEF (cM κC s l (nI p))) ||| wMo (wFl (cM κC s l (nI p)) (nI co) (xWf (cM κC s l (nI p)) co)) (wHi (cM κC s l (nI p)) (xHc0 (cM κC s l (nI p)) co) (xHc1 (cM κC s l (nI p)) co) (xHc2 (cM κC s l (nI p)) co) (xHc3 (cM κC s l (nI p)) co))) = cpG (mGP (yM κM s l (nI p) (nI co)) (w639_g (yM κM s l (nI p) (nI co)) q s l) (w639_p (yM κM s l (nI p) (nI co)) q s l) f) ||| cpP (mGP (yM κM s l (nI p) (nI co)) (w639_g (yM κM s l (nI p) (nI co)) q s l) (w639_p (yM κM s l (nI p) (nI co)) q s l) f) op := by
  have eL := h.LR κC
  have eS := h.SF κC κM a b k.a34 k.b34 k.c9 k.c10
  have eE := h.EF κC κM
  have eF := h.fl k hm
  have eH := h.hi k
  have eT : (cM κC s l (nI p)).2.1 14 12 = (xX0 (told &&& 13194139533559) ||| lb dr 3) ||| xTF (kb bb 34) (n40 κM (tN bb 34)) := by
    show κC.2.1 14 12 = _
    rw [t.sh, TO_eq κC told dr k.c7]
  rw [eT, TF_eq, eL, eS, eE, eF, eH, cpG_eq (yM κM s l (nI p) (nI co)) _ _ _ _ t.tm, h.gG k t]
  unfold wMo
  cases ho : op
  · rw [cpP_f (yM κM s l (nI p) (nI co)) _ _ _ _ dr t.tm k.m11, h.gPf k t ho, X0_f]
    show fO 0 _ = _
    unfold fO
    rw [show decide ((0 : Int32) = 0) = true from rfl, cond_true]
    exact fm_f _ _ _ _ _ _ _ _ _ _ _ _ _ _ _ _ _ _ _ _ _ _ _ _ _ _ _ _ _ _ _ _ _ _ _ _ _ _ _ _ _ _ _ _ _ _ _ _ _ _ _
  · rw [cpP_o (yM κM s l (nI p) (nI co)) _ _ _ _ t.tm, h.gPo k t ho]
    show fO 1 _ = _
    unfold fO
    rw [show decide ((1 : Int32) = 0) = false from rfl, cond_false]
    exact fm_o _ _ _ _ _ _ _ _ _ _ _ _ _ _ _ _ _ _ _ _ _ _ _ _ _ _ _ _ _ _ _ _ _ _ _ _ _ _ _ _ _ _ _ _ _ _ _ _ _ _ (X0_o told) (by rw [h.t9 k, ho]; rfl)
theorem WY.val (hm : mc (nI kk) q p s l co = true) : (vC (cM κC s l (nI p)) co).2.2.2 = (vRf (yM κM s l (nI p) (nI co)) q s l).2.2.2 ∧ (¬ (vC (cM κC s l (nI p)) co).2.2.2 = 0 → vC (cM κC s l (nI p)) co = vRf (yM κM s l (nI p) (nI co)) q s l) := by
  have e : vC (cM κC s l (nI p)) co = vO (nB op) dear (((((cM κC s l (nI p)).2.1 14 12 ||| xLR (cM κC s l (nI p))) ||| xSF (cM κC s l (nI p))) ||| xEF (cM κC s l (nI p))) ||| wMo (wFl (cM κC s l (nI p)) (nI co) (xWf (cM κC s l (nI p)) co)) (wHi (cM κC s l (nI p)) (xHc0 (cM κC s l (nI p)) co) (xHc1 (cM κC s l (nI p)) co) (xHc2 (cM κC s l (nI p)) co) (xHc3 (cM κC s l (nI p)) co))) (wFu (yM κM s l (nI p) (nI co)) q s l) := by
    unfold vC vW
    rw [h.fu k hm, show (cM κC s l (nI p)).1 14 8 = nB op from k.c8, show (cM κC s l (nI p)).1 14 11 = dear from k.c11]
  have e2 : vRf (yM κM s l (nI p) (nI co)) q s l = cOf (mGP (yM κM s l (nI p) (nI co)) (w639_g (yM κM s l (nI p) (nI co)) q s l) (w639_p (yM κM s l (nI p) (nI co)) q s l) (wFu (yM κM s l (nI p) (nI co)) q s l)) op := by
    unfold vRf
    rw [xOp_yM, k.mo]
  rw [e, e2]
  refine val_eq (h.FF k t hm _) ?_ ?_ rfl k.m10
  · rw [cpG_eq (yM κM s l (nI p) (nI co)) _ _ _ _ t.tm, h.gG k t]
    exact gm_g _ _ _ _ _ _ _ _ _ _
  · cases ho : op
    · rw [cpP_f (yM κM s l (nI p) (nI co)) _ _ _ _ dr t.tm k.m11, h.gPf k t ho, or_and9, or_and9, or_and9, or_and9, tFo_g, tTw_g, tOn_g, lg_3, Int64.or_zero, Int64.or_zero, Int64.or_zero, Int64.or_zero]
      exact gm_f _ _ _ _ _ _ _ _ _ _ _ _ _ _ _ _ _ _ _ _ _ _ _ _ _ _ _ _ _ _ _ _ _ _ _ _ _
    · rw [cpP_o (yM κM s l (nI p) (nI co)) _ _ _ _ t.tm, h.gPo k t ho, or_and9, tFo_g, Int64.or_zero]
      exact gm_o _ _ false _ _ _ _ _ _ _ _ _ _ _ _ _ false _ _ _ _ _ _ _ _ _ _ _ _ _ _ _ _ _ _ _ _
end WYO
