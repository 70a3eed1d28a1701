/-! FU: both sides alike -/
set_option maxRecDepth 8000
def Tm (b : Bool) (so lo : Int32) : Int32 := bif decide (so = 0) then 0 else ((bif decide (so = 1) then (2 : Int32) else 8) * (bif b then (2 : Int32) else 1)) * (bif xEn lo then (2 : Int32) else 1)
theorem fuI_T (hb xh : Bool) (so lo : Nat) (x : Int32) (hl : lo < 34) (e : (!(decide (nI so = 0)) && hb) = xh) : fuI hb (nI so) (nI lo) x = x + Tm xh (nI so) (nI lo) := by
  unfold fuI Tm
  rw [en_p lo hl]
  subst e
  generalize decide (nI so = 0) = c
  generalize decide (nI so = 1) = d
  generalize xEn (nI lo) = f
  cases c
  · cases hb <;> cases d <;> cases f <;> rfl
  · exact (Int32.add_zero x).symm
theorem wfu_T (c : Bool) (x y : Int32) : (bif c then x else x + y) = x + (bif c then 0 else y) := by
  cases c
  · rfl
  · exact (Int32.add_zero x).symm
theorem i32_ac (T0 T1 T2 T3 D Se Ro W A B : Int32) : ((((((((20 + ((D + Se) + Ro)) + W) + A) + B) + T0) + T1) + T2) + T3) = ((((((((((20 + A) + T0) + T1) + T2) + T3) + D) + Se) + Ro) + W) + B) := by
  have as : ∀ a b c : Int32, a + b + c = a + (b + c) := Int32.add_assoc
  have cm : ∀ a b : Int32, a + b = b + a := Int32.add_comm
  have lc : ∀ a b c : Int32, a + (b + c) = b + (a + c) := fun a b c => by rw [← as, cm a b, as]
  simp only [as]
  congr 1
  simp only [cm, lc]
theorem fuR (op : Bool) (x : Int32) : (bif decide (nB op = 0) then x else if (30 : Int32) < x then x else 30) = (bif op then (bif decide (30 ≤ x) then x else 30) else x) := by
  cases op
  · rfl
  · show (if (30 : Int32) < x then x else 30) = bif decide (30 ≤ x) then x else 30
    by_cases c : (30 : Int32) < x
    · rw [if_pos c, decide_eq_true (Int32.le_of_lt c)]; rfl
    · rw [if_neg c]
      by_cases d : (30 : Int32) ≤ x
      · rw [decide_eq_true d]; exact Int32.le_antisymm d (Int32.not_lt.mp c)
      · rw [decide_eq_false d]; rfl
theorem WY.fu {q : Nat} {p : Nat} {co : Nat} {s : Nat → Nat} {l : Nat → Nat} (h : WY q p co s l) {κC : zM} {κM : zM} {kk : Nat} {dear : Int32} {dr : Bool} {op : Bool} {a : Nat} {b : Nat} (k : KK κC κM q kk dear dr op a b) (hm : mc (nI kk) q p s l co = true) : fuC (cM κC s l (nI p)) (wFl (cM κC s l (nI p)) (nI co) (xWf (cM κC s l (nI p)) co)) (xWf (cM κC s l (nI p)) co) (xHc0 (cM κC s l (nI p)) co) (xHc1 (cM κC s l (nI p)) co) (xHc2 (cM κC s l (nI p)) co) (xHc3 (cM κC s l (nI p)) co) = wFu (yM κM s l (nI p) (nI co)) q s l := by
  have h0 := h.hh0 k
  have h1 := h.hh1 k
  have h2 := h.hh2 k
  have h3 := h.hh3 k
  have hf := h.fl k hm
  have hw := h.wf k hm
  have hp := h.pf k
  generalize xHc0 (cM κC s l (nI p)) co = b0 at h0 ⊢
  generalize xHc1 (cM κC s l (nI p)) co = b1 at h1 ⊢
  generalize xHc2 (cM κC s l (nI p)) co = b2 at h2 ⊢
  generalize xHc3 (cM κC s l (nI p)) co = b3 at h3 ⊢
  rw [hf]
  unfold fuC fuE fuS
  rw [hp]
  rw [show (cM κC s l (nI p)).1 14 8 = nB op from k.c8, show (cM κC s l (nI p)).1 14 7 = nB dr from k.c7, show (cM κC s l (nI p)).1 15 0 = nI (s 0) from rfl, show (cM κC s l (nI p)).1 15 1 = nI (s 1) from rfl, show (cM κC s l (nI p)).1 15 2 = nI (s 2) from rfl, show (cM κC s l (nI p)).1 15 3 = nI (s 3) from rfl, show (cM κC s l (nI p)).1 16 0 = nI (l 0) from rfl, show (cM κC s l (nI p)).1 16 1 = nI (l 1) from rfl, show (cM κC s l (nI p)).1 16 2 = nI (l 2) from rfl, show (cM κC s l (nI p)).1 16 3 = nI (l 3) from rfl]
  rw [fuI_T b0 _ (s 0) (l 0) _ (h.sl 0 (by omega)).2.1 h0, fuI_T b1 _ (s 1) (l 1) _ (h.sl 1 (by omega)).2.1 h1, fuI_T b2 _ (s 2) (l 2) _ (h.sl 2 (by omega)).2.1 h2, fuI_T b3 _ (s 3) (l 3) _ (h.sl 3 (by omega)).2.1 h3, i32_ac, fuR]
  have ea : (bif decide (nB dr = 0) then bif decide (nB op = 0) then (10 : Int32) else (0 : Int32) else (0 : Int32)) = (bif decide (nB dr = 0) then bif op then (0 : Int32) else 10 else 0) := by cases dr <;> cases op <;> rfl
  rw [ea, hw]
  have eq3 : wfu3 (yM κM s l (nI p) (nI co)) q s l = (((((20 + (bif decide (nB dr = 0) then bif op then (0 : Int32) else 10 else 0)) + Tm (xHi0 (yM κM s l (nI p) (nI co))) (nI (s 0)) (nI (l 0))) + Tm (xHi1 (yM κM s l (nI p) (nI co))) (nI (s 1)) (nI (l 1))) + Tm (xHi2 (yM κM s l (nI p) (nI co))) (nI (s 2)) (nI (l 2))) + Tm (xHi3 (yM κM s l (nI p) (nI co))) (nI (s 3)) (nI (l 3))) := by
    unfold wfu3 wfu2 wfu1 wfu0 w861_f w0_4
    rw [wfu_T, wfu_T, wfu_T, wfu_T, xOp_yM, k.mo, show decide ((yM κM s l (nI p) (nI co)).1 50 11 = 0) = decide (nB dr = 0) by rw [← k.m11]; rfl]
    rfl
  unfold wFu w0_4
  rw [xOp_yM, k.mo, eq3]
  have e8 : decide ((yM κM s l (nI p) (nI co)).1 50 21 = 27 + (yM κM s l (nI p) (nI co)).1 50 8) = decide (nI p = nI a) := by rw [← k.m8]; rfl
  have e9 : decide ((yM κM s l (nI p) (nI co)).1 50 21 = 27 + (yM κM s l (nI p) (nI co)).1 50 9) = decide (nI p = nI b) := by rw [← k.m9]; rfl
  have e11 : decide ((yM κM s l (nI p) (nI co)).1 50 11 = 0) = decide (nB dr = 0) := by rw [← k.m11]; rfl
  rw [e8, e9, e11]
  rfl
