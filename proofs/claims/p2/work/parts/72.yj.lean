/-! hidden SETS, FLAT, FU: both sides alike -/
set_option maxRecDepth 8000
/-- both judges look at the same -/
def KK (κC κM : zM) (q kk : Nat) (dear : Int32) (dr op : Bool) (a b : Nat) : Prop := (κC.1 9 4 = nI q) ∧ (κC.1 14 6 = nI kk) ∧ (κC.1 14 7 = nB dr) ∧ (κC.1 14 8 = nB op) ∧ (κC.1 14 9 = nI a) ∧ (κC.1 14 10 = nI b) ∧ (κC.1 14 11 = dear) ∧ (κM.1 50 4 = nI q) ∧ (κM.1 50 7 = nI kk) ∧ (27 + κM.1 50 8 = nI a) ∧ (27 + κM.1 50 9 = nI b) ∧ (κM.1 50 10 = dear) ∧ (κM.1 50 11 = nB dr) ∧ (xOp κM q = op) ∧ (a < 34) ∧ (b < 34) ∧ (kk < 34)
theorem KK.d4 {κC κM : zM} {q kk : Nat} {dear : Int32} {dr op : Bool} {a b : Nat} (h : KK κC κM q kk dear dr op a b) : κC.1 9 4 = nI q := h.1
theorem KK.c6 {κC κM : zM} {q kk : Nat} {dear : Int32} {dr op : Bool} {a b : Nat} (h : KK κC κM q kk dear dr op a b) : κC.1 14 6 = nI kk := h.2.1
theorem KK.c7 {κC κM : zM} {q kk : Nat} {dear : Int32} {dr op : Bool} {a b : Nat} (h : KK κC κM q kk dear dr op a b) : κC.1 14 7 = nB dr := h.2.2.1
theorem KK.c8 {κC κM : zM} {q kk : Nat} {dear : Int32} {dr op : Bool} {a b : Nat} (h : KK κC κM q kk dear dr op a b) : κC.1 14 8 = nB op := h.2.2.2.1
theorem KK.c9 {κC κM : zM} {q kk : Nat} {dear : Int32} {dr op : Bool} {a b : Nat} (h : KK κC κM q kk dear dr op a b) : κC.1 14 9 = nI a := h.2.2.2.2.1
theorem KK.c10 {κC κM : zM} {q kk : Nat} {dear : Int32} {dr op : Bool} {a b : Nat} (h : KK κC κM q kk dear dr op a b) : κC.1 14 10 = nI b := h.2.2.2.2.2.1
theorem KK.c11 {κC κM : zM} {q kk : Nat} {dear : Int32} {dr op : Bool} {a b : Nat} (h : KK κC κM q kk dear dr op a b) : κC.1 14 11 = dear := h.2.2.2.2.2.2.1
theorem KK.m4 {κC κM : zM} {q kk : Nat} {dear : Int32} {dr op : Bool} {a b : Nat} (h : KK κC κM q kk dear dr op a b) : κM.1 50 4 = nI q := h.2.2.2.2.2.2.2.1
theorem KK.m7 {κC κM : zM} {q kk : Nat} {dear : Int32} {dr op : Bool} {a b : Nat} (h : KK κC κM q kk dear dr op a b) : κM.1 50 7 = nI kk := h.2.2.2.2.2.2.2.2.1
theorem KK.m8 {κC κM : zM} {q kk : Nat} {dear : Int32} {dr op : Bool} {a b : Nat} (h : KK κC κM q kk dear dr op a b) : 27 + κM.1 50 8 = nI a := h.2.2.2.2.2.2.2.2.2.1
theorem KK.m9 {κC κM : zM} {q kk : Nat} {dear : Int32} {dr op : Bool} {a b : Nat} (h : KK κC κM q kk dear dr op a b) : 27 + κM.1 50 9 = nI b := h.2.2.2.2.2.2.2.2.2.2.1
theorem KK.m10 {κC κM : zM} {q kk : Nat} {dear : Int32} {dr op : Bool} {a b : Nat} (h : KK κC κM q kk dear dr op a b) : κM.1 50 10 = dear := h.2.2.2.2.2.2.2.2.2.2.2.1
theorem KK.m11 {κC κM : zM} {q kk : Nat} {dear : Int32} {dr op : Bool} {a b : Nat} (h : KK κC κM q kk dear dr op a b) : κM.1 50 11 = nB dr := h.2.2.2.2.2.2.2.2.2.2.2.2.1
theorem KK.mo {κC κM : zM} {q kk : Nat} {dear : Int32} {dr op : Bool} {a b : Nat} (h : KK κC κM q kk dear dr op a b) : xOp κM q = op := h.2.2.2.2.2.2.2.2.2.2.2.2.2.1
theorem KK.a34 {κC κM : zM} {q kk : Nat} {dear : Int32} {dr op : Bool} {a b : Nat} (h : KK κC κM q kk dear dr op a b) : a < 34 := h.2.2.2.2.2.2.2.2.2.2.2.2.2.2.1
theorem KK.b34 {κC κM : zM} {q kk : Nat} {dear : Int32} {dr op : Bool} {a b : Nat} (h : KK κC κM q kk dear dr op a b) : b < 34 := h.2.2.2.2.2.2.2.2.2.2.2.2.2.2.2.1
theorem KK.k34 {κC κM : zM} {q kk : Nat} {dear : Int32} {dr op : Bool} {a b : Nat} (h : KK κC κM q kk dear dr op a b) : kk < 34 := h.2.2.2.2.2.2.2.2.2.2.2.2.2.2.2.2
theorem xOp_yM (κ : zM) (s l : Nat → Nat) (p co : Int32) : ∀ q, xOp (yM κ s l p co) q = xOp κ q := by
  intro q
  induction q with
  | zero => rfl
  | succ q ih => show (xOp (yM κ s l p co) q || !decide ((yM κ s l p co).1 52 q = 3)) = (xOp κ q || _); rw [ih]; rfl
def HC0 (q9 s9 d9 : Int32) (co : Nat) : Bool := match co with | 0 => bif decide (q9 ≤ (0 : Int32)) then !(decide (d9 = 0)) else decide (s9 = 3) | 1 => (decide (q9 ≤ (0 : Int32))) || (decide (s9 = 3)) | 2 => (decide (q9 ≤ (0 : Int32))) || (decide (s9 = 3)) | 3 => (decide (q9 ≤ (0 : Int32))) || (decide (s9 = 3)) | _ => (decide (q9 ≤ (0 : Int32))) || (decide (s9 = 3))
theorem HC0_eq (μ : zM) (co : Nat) : xHc0 μ co = HC0 (μ.1 9 4) (μ.1 15 0) (μ.1 14 7) co := by rcases co with _ | _ | _ | _ | co <;> rfl
theorem hid0 : ∀ sv, sv < 4 → ∀ q, q < 5 → ∀ co, co < 5 → ∀ dr : Bool, (q ≤ 0 → sv ≤ 1) → (!(decide (nI sv = 0)) && HC0 (nI q) (nI sv) (nB dr) co) = ((decide (nI sv = 3)) || (!(decide ((0 : Int32) < nI q)) && ((decide (nI sv = 1)) && (!(decide (nB dr = 0)) || (!(decide (nI co = 0))))))) := by decide +kernel
def HC1 (q9 s9 d9 : Int32) (co : Nat) : Bool := match co with | 0 => (decide (q9 ≤ (1 : Int32))) || (decide (s9 = 3)) | 1 => bif decide (q9 ≤ (1 : Int32)) then !(decide (d9 = 0)) else decide (s9 = 3) | 2 => (decide (q9 ≤ (1 : Int32))) || (decide (s9 = 3)) | 3 => (decide (q9 ≤ (1 : Int32))) || (decide (s9 = 3)) | _ => (decide (q9 ≤ (1 : Int32))) || (decide (s9 = 3))
theorem HC1_eq (μ : zM) (co : Nat) : xHc1 μ co = HC1 (μ.1 9 4) (μ.1 15 1) (μ.1 14 7) co := by rcases co with _ | _ | _ | _ | co <;> rfl
theorem hid1 : ∀ sv, sv < 4 → ∀ q, q < 5 → ∀ co, co < 5 → ∀ dr : Bool, (q ≤ 1 → sv ≤ 1) → (!(decide (nI sv = 0)) && HC1 (nI q) (nI sv) (nB dr) co) = ((decide (nI sv = 3)) || (!(decide ((1 : Int32) < nI q)) && ((decide (nI sv = 1)) && (!(decide (nB dr = 0)) || (!(decide (nI co = 1))))))) := by decide +kernel
def HC2 (q9 s9 d9 : Int32) (co : Nat) : Bool := match co with | 0 => (decide (q9 ≤ (2 : Int32))) || (decide (s9 = 3)) | 1 => (decide (q9 ≤ (2 : Int32))) || (decide (s9 = 3)) | 2 => bif decide (q9 ≤ (2 : Int32)) then !(decide (d9 = 0)) else decide (s9 = 3) | 3 => (decide (q9 ≤ (2 : Int32))) || (decide (s9 = 3)) | _ => (decide (q9 ≤ (2 : Int32))) || (decide (s9 = 3))
theorem HC2_eq (μ : zM) (co : Nat) : xHc2 μ co = HC2 (μ.1 9 4) (μ.1 15 2) (μ.1 14 7) co := by rcases co with _ | _ | _ | _ | co <;> rfl
theorem hid2 : ∀ sv, sv < 4 → ∀ q, q < 5 → ∀ co, co < 5 → ∀ dr : Bool, (q ≤ 2 → sv ≤ 1) → (!(decide (nI sv = 0)) && HC2 (nI q) (nI sv) (nB dr) co) = ((decide (nI sv = 3)) || (!(decide ((2 : Int32) < nI q)) && ((decide (nI sv = 1)) && (!(decide (nB dr = 0)) || (!(decide (nI co = 2))))))) := by decide +kernel
def HC3 (q9 s9 d9 : Int32) (co : Nat) : Bool := match co with | 0 => (decide (q9 ≤ (3 : Int32))) || (decide (s9 = 3)) | 1 => (decide (q9 ≤ (3 : Int32))) || (decide (s9 = 3)) | 2 => (decide (q9 ≤ (3 : Int32))) || (decide (s9 = 3)) | 3 => bif decide (q9 ≤ (3 : Int32)) then !(decide (d9 = 0)) else decide (s9 = 3) | _ => (decide (q9 ≤ (3 : Int32))) || (decide (s9 = 3))
theorem HC3_eq (μ : zM) (co : Nat) : xHc3 μ co = HC3 (μ.1 9 4) (μ.1 15 3) (μ.1 14 7) co := by rcases co with _ | _ | _ | _ | co <;> rfl
theorem hid3 : ∀ sv, sv < 4 → ∀ q, q < 5 → ∀ co, co < 5 → ∀ dr : Bool, (q ≤ 3 → sv ≤ 1) → (!(decide (nI sv = 0)) && HC3 (nI q) (nI sv) (nB dr) co) = ((decide (nI sv = 3)) || (!(decide ((3 : Int32) < nI q)) && ((decide (nI sv = 1)) && (!(decide (nB dr = 0)) || (!(decide (nI co = 3))))))) := by decide +kernel
def WF (wn so lo : Int32) : Int32 := bif decide (so = 0) then bif decide ((wn - lo) = 1) then (2 : Int32) else bif decide ((wn - lo) = 2) then bif decide ((lo - lo / 9 * 9) = 0) then (2 : Int32) else bif decide ((wn - lo) = 0) then bif decide ((lo - lo / 9 * 9) = 6) then (2 : Int32) else 0 else 0 else bif decide ((wn - lo) = 0) then bif decide ((lo - lo / 9 * 9) = 6) then (2 : Int32) else 0 else 0 else 0
theorem WF_0 (μ : zM) : xWf μ 0 = WF (μ.1 14 6) (μ.1 15 0) (μ.1 16 0) := rfl
theorem WF_1 (μ : zM) : xWf μ 1 = WF (μ.1 14 6) (μ.1 15 1) (μ.1 16 1) := rfl
theorem WF_2 (μ : zM) : xWf μ 2 = WF (μ.1 14 6) (μ.1 15 2) (μ.1 16 2) := rfl
theorem WF_3 (μ : zM) : xWf μ 3 = WF (μ.1 14 6) (μ.1 15 3) (μ.1 16 3) := rfl
def TS (wn lo : Int32) : Bool := bif decide (wn = lo) then !(decide ((lo - lo / 9 * 9) = 6)) || ((decide (wn = (lo + 2))) && (!(decide ((lo - lo / 9 * 9) = 0)))) else (decide (wn = (lo + 2))) && (!(decide ((lo - lo / 9 * 9) = 0)))
theorem wf_dec0 : ∀ so, so < 4 → ∀ lo, lo < 34 → ∀ kk, kk < 34 → (!((!(decide (so = 0)) || (decide (lo < 27) && decide (lo % 9 < 7))) && xHas (nI so) (nI lo) (nI kk)) || decide (WF (nI kk) (nI so) (nI lo) = bif decide (so = 0) then (bif TS (nI kk) (nI lo) then (0 : Int32) else 2) else 0)) = true := by decide +kernel
theorem wf_dec (so : Nat) (h1 : so < 4) (lo : Nat) (h2 : lo < 34) (kk : Nat) (h3 : kk < 34) (h4 : so = 0 → lo < 27 ∧ lo % 9 < 7) (h5 : xHas (nI so) (nI lo) (nI kk) = true) : WF (nI kk) (nI so) (nI lo) = bif decide (so = 0) then (bif TS (nI kk) (nI lo) then (0 : Int32) else 2) else 0 := by
  have z := wf_dec0 so h1 lo h2 kk h3
  rw [h5, Bool.and_true, show (!(decide (so = 0)) || (decide (lo < 27) && decide (lo % 9 < 7))) = true from by
    by_cases c : so = 0
    · rw [decide_eq_true (h4 c).1, decide_eq_true (h4 c).2, Bool.and_true, Bool.or_true]
    · rw [decide_eq_false c]; rfl] at z
  exact of_decide_eq_true z
theorem WY.hh0 {q : Nat} {p : Nat} {co : Nat} {s : Nat → Nat} {l : Nat → Nat} (h : WY q p co s l) {κC : zM} {κM : zM} {kk : Nat} {dear : Int32} {dr : Bool} {op : Bool} {a : Nat} {b : Nat} (k : KK κC κM q kk dear dr op a b) : (!(decide (nI (s 0) = 0)) && xHc0 (cM κC s l (nI p)) co) = xHi0 (yM κM s l (nI p) (nI co)) := by
  have b := h.sl 0 (by omega)
  have z := hid0 (s 0) (by omega) q (by have := h.q4; omega) co h.c5 dr (fun z => h.s1 0 z (by omega))
  rw [HC0_eq]
  show (!(decide (nI (s 0) = 0)) && HC0 (κC.1 9 4) (nI (s 0)) (κC.1 14 7) co) = _
  rw [k.d4, k.c7, z]
  show _ = ((decide (nI (s 0) = 3)) || (!(decide ((0 : Int32) < κM.1 50 4)) && ((decide (nI (s 0) = 1)) && (!(decide (κM.1 50 11 = 0)) || (!(decide (nI co = 0)))))))
  rw [k.m4, k.m11]
theorem WY.hh1 {q : Nat} {p : Nat} {co : Nat} {s : Nat → Nat} {l : Nat → Nat} (h : WY q p co s l) {κC : zM} {κM : zM} {kk : Nat} {dear : Int32} {dr : Bool} {op : Bool} {a : Nat} {b : Nat} (k : KK κC κM q kk dear dr op a b) : (!(decide (nI (s 1) = 0)) && xHc1 (cM κC s l (nI p)) co) = xHi1 (yM κM s l (nI p) (nI co)) := by
  have b := h.sl 1 (by omega)
  have z := hid1 (s 1) (by omega) q (by have := h.q4; omega) co h.c5 dr (fun z => h.s1 1 z (by omega))
  rw [HC1_eq]
  show (!(decide (nI (s 1) = 0)) && HC1 (κC.1 9 4) (nI (s 1)) (κC.1 14 7) co) = _
  rw [k.d4, k.c7, z]
  show _ = ((decide (nI (s 1) = 3)) || (!(decide ((1 : Int32) < κM.1 50 4)) && ((decide (nI (s 1) = 1)) && (!(decide (κM.1 50 11 = 0)) || (!(decide (nI co = 1)))))))
  rw [k.m4, k.m11]
theorem WY.hh2 {q : Nat} {p : Nat} {co : Nat} {s : Nat → Nat} {l : Nat → Nat} (h : WY q p co s l) {κC : zM} {κM : zM} {kk : Nat} {dear : Int32} {dr : Bool} {op : Bool} {a : Nat} {b : Nat} (k : KK κC κM q kk dear dr op a b) : (!(decide (nI (s 2) = 0)) && xHc2 (cM κC s l (nI p)) co) = xHi2 (yM κM s l (nI p) (nI co)) := by
  have b := h.sl 2 (by omega)
  have z := hid2 (s 2) (by omega) q (by have := h.q4; omega) co h.c5 dr (fun z => h.s1 2 z (by omega))
  rw [HC2_eq]
  show (!(decide (nI (s 2) = 0)) && HC2 (κC.1 9 4) (nI (s 2)) (κC.1 14 7) co) = _
  rw [k.d4, k.c7, z]
  show _ = ((decide (nI (s 2) = 3)) || (!(decide ((2 : Int32) < κM.1 50 4)) && ((decide (nI (s 2) = 1)) && (!(decide (κM.1 50 11 = 0)) || (!(decide (nI co = 2)))))))
  rw [k.m4, k.m11]
theorem WY.hh3 {q : Nat} {p : Nat} {co : Nat} {s : Nat → Nat} {l : Nat → Nat} (h : WY q p co s l) {κC : zM} {κM : zM} {kk : Nat} {dear : Int32} {dr : Bool} {op : Bool} {a : Nat} {b : Nat} (k : KK κC κM q kk dear dr op a b) : (!(decide (nI (s 3) = 0)) && xHc3 (cM κC s l (nI p)) co) = xHi3 (yM κM s l (nI p) (nI co)) := by
  have b := h.sl 3 (by omega)
  have z := hid3 (s 3) (by omega) q (by have := h.q4; omega) co h.c5 dr (fun z => h.s1 3 z (by omega))
  rw [HC3_eq]
  show (!(decide (nI (s 3) = 0)) && HC3 (κC.1 9 4) (nI (s 3)) (κC.1 14 7) co) = _
  rw [k.d4, k.c7, z]
  show _ = ((decide (nI (s 3) = 3)) || (!(decide ((3 : Int32) < κM.1 50 4)) && ((decide (nI (s 3) = 1)) && (!(decide (κM.1 50 11 = 0)) || (!(decide (nI co = 3)))))))
  rw [k.m4, k.m11]
theorem WY.hi {q : Nat} {p : Nat} {co : Nat} {s : Nat → Nat} {l : Nat → Nat} (h : WY q p co s l) {κC : zM} {κM : zM} {kk : Nat} {dear : Int32} {dr : Bool} {op : Bool} {a : Nat} {b : Nat} (k : KK κC κM q kk dear dr op a b) : wHi (cM κC s l (nI p)) (xHc0 (cM κC s l (nI p)) co) (xHc1 (cM κC s l (nI p)) co) (xHc2 (cM κC s l (nI p)) co) (xHc3 (cM κC s l (nI p)) co) = w0_2 (yM κM s l (nI p) (nI co)) q s l := by
  unfold w0_2
  rw [← h.hh0 k, ← h.hh1 k, ← h.hh2 k, ← h.hh3 k]
  rfl
theorem WY.r6 {q : Nat} {p : Nat} {co : Nat} {s : Nat → Nat} {l : Nat → Nat} (h : WY q p co s l) {κC : zM} {κM : zM} {kk : Nat} {dear : Int32} {dr : Bool} {op : Bool} {a : Nat} {b : Nat} (k : KK κC κM q kk dear dr op a b) : w92_6 (yM κM s l (nI p) (nI co)) q s l = (decide (co < 4) && decide (s co = 0)) := by
  have h5 := h.c5
  show (!(decide ((4 : Int32) ≤ nI co)) && decide (nI (s (nI co).toNatClampNeg) = 0)) = _
  rw [nI_clamp (n := co) (by omega)]
  by_cases c : co < 4
  · rw [decide_eq_true c, h.n0 co c, show decide ((4 : Int32) ≤ nI co) = false from by
      have : ∀ c, c < 4 → decide ((4 : Int32) ≤ nI c) = false := by decide +kernel
      exact this co c]
    rfl
  · have : co = 4 := by omega
    subst this
    rfl
theorem WY.t8 {q : Nat} {p : Nat} {co : Nat} {s : Nat → Nat} {l : Nat → Nat} (h : WY q p co s l) {κC : zM} {κM : zM} {kk : Nat} {dear : Int32} {dr : Bool} {op : Bool} {a : Nat} {b : Nat} (k : KK κC κM q kk dear dr op a b) : w184_8 (yM κM s l (nI p) (nI co)) q s l = ((decide (co < 4) && decide (s co = 0)) && TS (nI kk) (nI (l co))) := by
  have h5 := h.c5
  have e7 : w92_6 (yM κM s l (nI p) (nI co)) q s l = true → w164_7 (yM κM s l (nI p) (nI co)) q s l = nI (l co) := fun z => by
    unfold w164_7
    rw [z]
    show nI (l (nI co).toNatClampNeg) = _
    rw [nI_clamp (n := co) (by omega)]
  have r6 := h.r6 k
  unfold w184_8
  rw [← r6]
  cases c : w92_6 (yM κM s l (nI p) (nI co)) q s l
  · rfl
  · rw [e7 c]
    show (true && (bif decide (κM.1 50 7 = nI (l co)) then _ else _)) = (true && TS (nI kk) (nI (l co)))
    rw [show TS (nI kk) (nI (l co)) = TS (κM.1 50 7) (nI (l co)) by rw [k.m7]]
    rfl
theorem WY.t9 {q : Nat} {p : Nat} {co : Nat} {s : Nat → Nat} {l : Nat → Nat} (h : WY q p co s l) {κC : zM} {κM : zM} {kk : Nat} {dear : Int32} {dr : Bool} {op : Bool} {a : Nat} {b : Nat} (k : KK κC κM q kk dear dr op a b) : w184_9 (yM κM s l (nI p) (nI co)) q s l = (!op && (decide (w0_1 (yM κM s l (nI p) (nI co)) q s l = 4) && (!(w92_5 (yM κM s l (nI p) (nI co)) q s l) && w184_8 (yM κM s l (nI p) (nI co)) q s l))) := by
  unfold w184_9 w0_4
  rw [xOp_yM, k.mo]
  rfl
theorem WY.wf {q : Nat} {p : Nat} {co : Nat} {s : Nat → Nat} {l : Nat → Nat} (h : WY q p co s l) {κC : zM} {κM : zM} {kk : Nat} {dear : Int32} {dr : Bool} {op : Bool} {a : Nat} {b : Nat} (k : KK κC κM q kk dear dr op a b) (hm : mc (nI kk) q p s l co = true) : xWf (cM κC s l (nI p)) co = bif decide (nI co = 4) then (2 : Int32) else bif w92_6 (yM κM s l (nI p) (nI co)) q s l then bif w184_8 (yM κM s l (nI p) (nI co)) q s l then (0 : Int32) else 2 else 0 := by
  have h5 := h.c5
  rw [h.r6 k, h.t8 k]
  by_cases c : co < 4
  · have b := h.sl co c
    have hx : xHas (nI (s co)) (nI (l co)) (nI kk) = true := by
      unfold mc at hm
      rw [show Nat.blt co 4 = true from Nat.blt_eq.mpr c, cond_true, Bool.and_eq_true] at hm
      exact hm.1
    have e := wf_dec (s co) (by omega) (l co) b.2.1 kk k.k34 (fun z => by have := b.2.2 z; unfold rs at this; omega) hx
    have e0 : xWf (cM κC s l (nI p)) co = WF (nI kk) (nI (s co)) (nI (l co)) := by
      rw [← k.c6]
      have : co = 0 ∨ co = 1 ∨ co = 2 ∨ co = 3 := by omega
      rcases this with rfl | rfl | rfl | rfl <;> rfl
    have e4 : decide (nI co = 4) = false := by
      have : ∀ c, c < 4 → decide (nI c = 4) = false := by decide +kernel
      exact this co c
    rw [e0, e, e4, decide_eq_true c]
    cases decide (s co = 0) <;> rfl
  · have : co = 4 := by omega
    subst this
    rfl
theorem WY.pf {q : Nat} {p : Nat} {co : Nat} {s : Nat → Nat} {l : Nat → Nat} (h : WY q p co s l) {κC : zM} {κM : zM} {kk : Nat} {dear : Int32} {dr : Bool} {op : Bool} {a : Nat} {b : Nat} (k : KK κC κM q kk dear dr op a b) : xPf (cM κC s l (nI p)) = ((bif xDr (nI p) then (2 : Int32) else 0) + (bif decide (nI p = nI a) then (2 : Int32) else 0)) + (bif decide (nI p = nI b) then (2 : Int32) else 0) := by
  have e : (bif decide (nI p < 31) then (0 : Int32) else 2) = bif xDr (nI p) then (2 : Int32) else 0 := by
    have : ∀ p, p < 34 → (bif decide (nI p < 31) then (0 : Int32) else 2) = bif xDr (nI p) then (2 : Int32) else 0 := by decide +kernel
    exact this p h.p34
  show ((bif decide (nI p < 31) then (0 : Int32) else 2) + (bif decide (nI p = κC.1 14 9) then (2 : Int32) else 0)) + (bif decide (nI p = κC.1 14 10) then (2 : Int32) else 0) = _
  rw [e, k.c9, k.c10]
theorem WY.v5 {q : Nat} {p : Nat} {co : Nat} {s : Nat → Nat} {l : Nat → Nat} (h : WY q p co s l) {κC : zM} {κM : zM} {kk : Nat} {dear : Int32} {dr : Bool} {op : Bool} {a : Nat} {b : Nat} (k : KK κC κM q kk dear dr op a b) : w92_5 (yM κM s l (nI p) (nI co)) q s l = (xDr (nI p) || (decide (nI p = nI a) || decide (nI p = nI b))) := by
  show (xDr (nI p) || (decide (nI p = 27 + κM.1 50 8) || decide (nI p = 27 + κM.1 50 9))) = _
  rw [k.m8, k.m9]
theorem WY.fl {q : Nat} {p : Nat} {co : Nat} {s : Nat → Nat} {l : Nat → Nat} (h : WY q p co s l) {κC : zM} {κM : zM} {kk : Nat} {dear : Int32} {dr : Bool} {op : Bool} {a : Nat} {b : Nat} (k : KK κC κM q kk dear dr op a b) (hm : mc (nI kk) q p s l co = true) : wFl (cM κC s l (nI p)) (nI co) (xWf (cM κC s l (nI p)) co) = w184_9 (yM κM s l (nI p) (nI co)) q s l := by
  have h5 := h.c5
  have wf := h.wf k hm
  have r6 := h.r6 k
  have t8 := h.t8 k
  rw [h.t9 k, h.v5 k, ← h.t0 κM]
  unfold wFl
  rw [h.pf k]
  show (decide (lg_cmp (tB s l 4) 0 = 0) && (decide (κC.1 14 8 = 0) && _)) = _
  rw [k.c8]
  cases ct : decide (lg_cmp (tB s l 4) 0 = 0)
  · simp only [Bool.false_and, Bool.and_false]
  · have s0 : co < 4 → s co = 0 := fun c => by
      apply Classical.byContradiction
      intro z
      have := (tB_bit s l (l co) 4 (fun j hj => (h.sl j hj).2.1)).mpr ⟨co, c, z, rfl⟩
      rw [lg_c0.mp (of_decide_eq_true ct)] at this
      exact absurd this (by show ¬ (0#64).getLsbD (l co) = true; rw [BitVec.getLsbD_zero]; decide)
    have e2 : (!(decide ((4 : Int32) ≤ nI co)) && decide (xWf (cM κC s l (nI p)) co = 0)) = w184_8 (yM κM s l (nI p) (nI co)) q s l := by
      rw [wf, r6, t8]
      by_cases c : co < 4
      · have e4 : decide ((4 : Int32) ≤ nI co) = false ∧ decide (nI co = 4) = false := by
          have : ∀ c, c < 4 → decide ((4 : Int32) ≤ nI c) = false ∧ decide (nI c = 4) = false := by decide +kernel
          exact this co c
        rw [e4.1, e4.2, decide_eq_true c, decide_eq_true (s0 c)]
        cases TS (nI kk) (nI (l co)) <;> rfl
      · have : co = 4 := by omega
        subst this
        rfl
    rw [e2]
    generalize w184_8 (yM κM s l (nI p) (nI co)) q s l = x
    generalize xDr (nI p) = y1
    generalize decide (nI p = nI a) = y2
    generalize decide (nI p = nI b) = y3
    clear e2 t8 wf k
    revert x y1 y2 y3 op
    decide +kernel
