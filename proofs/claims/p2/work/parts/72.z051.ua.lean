/-! the two games side by side -/
set_option maxRecDepth 8000
/-- what may not be discarded with a claim -/
def barM (m : zM) : Int64 := bif decide (m.1 50 57 = 0) then 0 else ((1 : Int64) <<< ((m.1 50 50).toInt64 &&& 63)) ||| (bif decide (m.1 50 51 = -1) then (0 : Int64) else 1 <<< ((m.1 50 51).toInt64 &&& 63))
def tkM (m : zM) (s b : Nat) : Bool := kA (fun i => decide (m.1 65 (136 * s + i) = nI b)) (m.1 66 s).toNatClampNeg
def fW (m : zM) (i : Nat) : Int32 := m.1 59 i
/-- cells that are alike, at all times -/
def RCl (x m : zM) : Prop := (x.1 0 9 = m.1 50 40) ∧ (x.1 0 10 = m.1 50 41) ∧ (x.1 0 11 = m.1 50 42) ∧ (x.1 0 12 = m.1 50 43) ∧ (x.1 0 13 = m.1 50 54) ∧ (x.1 0 14 = m.1 50 52) ∧ (x.1 0 6 = m.1 50 53) ∧ (x.1 2 1 = m.1 50 55) ∧ (x.1 2 2 = m.1 50 46) ∧ (∀ i, i < 136 → x.1 3 i = m.1 59 i) ∧ (∀ s, s < 4 → x.1 (18 + 8 * s) 4 = m.1 61 s) ∧ (∀ s, s < 4 → x.1 (18 + 8 * s) 5 = m.1 67 s) ∧ (∀ s, s < 4 → x.1 (18 + 8 * s) 7 = m.1 69 s) ∧ (∀ s, s < 4 → x.1 (18 + 8 * s) 8 = m.1 70 s) ∧ (∀ s, s < 4 → x.1 (18 + 8 * s) 9 = m.1 71 s) ∧ (∀ s, s < 4 → x.1 (18 + 8 * s) 2 = m.1 66 s) ∧ (∀ s, s < 4 → x.1 (19 + 8 * s) 4 = m.1 64 s) ∧ (∀ s k, s < 4 → k < 34 → x.1 (20 + 8 * s) k = m.1 60 (34 * s + k)) ∧ (∀ s i, s < 4 → i < 4 → x.1 (22 + 8 * s) i = m.1 62 (4 * s + i)) ∧ (∀ s i, s < 4 → i < 4 → x.1 (23 + 8 * s) i = m.1 63 (4 * s + i)) ∧ (∀ s i, s < 4 → i < 86 → x.1 (24 + 8 * s) i = m.1 65 (136 * s + i)) ∧ (∀ i f, i < 4 → f < 7 → f ≠ 4 → x.1 (25 + 8 * i) f = m.1 72 (7 * i + f)) ∧ (∀ i, i < 4 → x.2.1 (25 + 8 * i) 7 = m.2.1 73 i) ∧ (∀ s k, s < 4 → k < 34 → x.1 (21 + 8 * s) k = ofv (m.1 60 (34 * s + k)) (fun i => m.1 62 (4 * s + i)) (fun i => m.1 63 (4 * s + i)) (nI k) (m.1 64 s).toNatClampNeg) ∧ (∀ s, s < 4 → x.1 (19 + 8 * s) 5 = sm (fun k => m.1 60 (34 * s + k)) 34) ∧ (∀ s i, s < 4 → i < (m.1 64 s).toNatClampNeg → SVd (m.1 62 (4 * s + i)) (m.1 63 (4 * s + i))) ∧ (∀ s, s < 4 → x.2.1 (18 + 8 * s) 3 = kb (tkM m s) 34) ∧ (∀ s, s < 4 → (m.1 66 s).toNatClampNeg ≤ 86) ∧ (∀ s i, s < 4 → i < (m.1 66 s).toNatClampNeg → ∃ k, k < 34 ∧ m.1 65 (136 * s + i) = nI k) ∧ (m.1 50 41 = 0 ∨ m.1 50 41 = 1) ∧ (∀ s, s < 4 → m.1 67 s = 0 ∨ m.1 67 s = 1 ∨ m.1 67 s = 2) ∧ (m.1 50 55 = 1 → ∃ sd, ∀ i, i < 136 → m.1 59 i = wlF sd i)
theorem RCl.dl {x m : zM} (h : RCl x m) : x.1 0 9 = m.1 50 40 := h.1
theorem RCl.rn {x m : zM} (h : RCl x m) : x.1 0 10 = m.1 50 41 := h.2.1
theorem RCl.st {x m : zM} (h : RCl x m) : x.1 0 11 = m.1 50 42 := h.2.2.1
theorem RCl.bt {x m : zM} (h : RCl x m) : x.1 0 12 = m.1 50 43 := h.2.2.2.1
theorem RCl.en {x m : zM} (h : RCl x m) : x.1 0 13 = m.1 50 54 := h.2.2.2.2.1
theorem RCl.he {x m : zM} (h : RCl x m) : x.1 0 14 = m.1 50 52 := h.2.2.2.2.2.1
theorem RCl.wc {x m : zM} (h : RCl x m) : x.1 0 6 = m.1 50 53 := h.2.2.2.2.2.2.1
theorem RCl.sd {x m : zM} (h : RCl x m) : x.1 2 1 = m.1 50 55 := h.2.2.2.2.2.2.2.1
theorem RCl.nx {x m : zM} (h : RCl x m) : x.1 2 2 = m.1 50 46 := h.2.2.2.2.2.2.2.2.1
theorem RCl.wl {x m : zM} (h : RCl x m) : ∀ i, i < 136 → x.1 3 i = m.1 59 i := h.2.2.2.2.2.2.2.2.2.1
theorem RCl.pt {x m : zM} (h : RCl x m) : ∀ s, s < 4 → x.1 (18 + 8 * s) 4 = m.1 61 s := h.2.2.2.2.2.2.2.2.2.2.1
theorem RCl.be {x m : zM} (h : RCl x m) : ∀ s, s < 4 → x.1 (18 + 8 * s) 5 = m.1 67 s := h.2.2.2.2.2.2.2.2.2.2.2.1
theorem RCl.ao {x m : zM} (h : RCl x m) : ∀ s, s < 4 → x.1 (18 + 8 * s) 7 = m.1 69 s := h.2.2.2.2.2.2.2.2.2.2.2.2.1
theorem RCl.lg {x m : zM} (h : RCl x m) : ∀ s, s < 4 → x.1 (18 + 8 * s) 8 = m.1 70 s := h.2.2.2.2.2.2.2.2.2.2.2.2.2.1
theorem RCl.sy {x m : zM} (h : RCl x m) : ∀ s, s < 4 → x.1 (18 + 8 * s) 9 = m.1 71 s := h.2.2.2.2.2.2.2.2.2.2.2.2.2.2.1
theorem RCl.ds {x m : zM} (h : RCl x m) : ∀ s, s < 4 → x.1 (18 + 8 * s) 2 = m.1 66 s := h.2.2.2.2.2.2.2.2.2.2.2.2.2.2.2.1
theorem RCl.lm {x m : zM} (h : RCl x m) : ∀ s, s < 4 → x.1 (19 + 8 * s) 4 = m.1 64 s := h.2.2.2.2.2.2.2.2.2.2.2.2.2.2.2.2.1
theorem RCl.hd {x m : zM} (h : RCl x m) : ∀ s k, s < 4 → k < 34 → x.1 (20 + 8 * s) k = m.1 60 (34 * s + k) := h.2.2.2.2.2.2.2.2.2.2.2.2.2.2.2.2.2.1
theorem RCl.so {x m : zM} (h : RCl x m) : ∀ s i, s < 4 → i < 4 → x.1 (22 + 8 * s) i = m.1 62 (4 * s + i) := h.2.2.2.2.2.2.2.2.2.2.2.2.2.2.2.2.2.2.1
theorem RCl.lo {x m : zM} (h : RCl x m) : ∀ s i, s < 4 → i < 4 → x.1 (23 + 8 * s) i = m.1 63 (4 * s + i) := h.2.2.2.2.2.2.2.2.2.2.2.2.2.2.2.2.2.2.2.1
theorem RCl.rv {x m : zM} (h : RCl x m) : ∀ s i, s < 4 → i < 86 → x.1 (24 + 8 * s) i = m.1 65 (136 * s + i) := h.2.2.2.2.2.2.2.2.2.2.2.2.2.2.2.2.2.2.2.2.1
theorem RCl.wi {x m : zM} (h : RCl x m) : ∀ i f, i < 4 → f < 7 → f ≠ 4 → x.1 (25 + 8 * i) f = m.1 72 (7 * i + f) := h.2.2.2.2.2.2.2.2.2.2.2.2.2.2.2.2.2.2.2.2.2.1
theorem RCl.wf {x m : zM} (h : RCl x m) : ∀ i, i < 4 → x.2.1 (25 + 8 * i) 7 = m.2.1 73 i := h.2.2.2.2.2.2.2.2.2.2.2.2.2.2.2.2.2.2.2.2.2.2.1
theorem RCl.al {x m : zM} (h : RCl x m) : ∀ s k, s < 4 → k < 34 → x.1 (21 + 8 * s) k = ofv (m.1 60 (34 * s + k)) (fun i => m.1 62 (4 * s + i)) (fun i => m.1 63 (4 * s + i)) (nI k) (m.1 64 s).toNatClampNeg := h.2.2.2.2.2.2.2.2.2.2.2.2.2.2.2.2.2.2.2.2.2.2.2.1
theorem RCl.lz {x m : zM} (h : RCl x m) : ∀ s, s < 4 → x.1 (19 + 8 * s) 5 = sm (fun k => m.1 60 (34 * s + k)) 34 := h.2.2.2.2.2.2.2.2.2.2.2.2.2.2.2.2.2.2.2.2.2.2.2.2.1
theorem RCl.sv {x m : zM} (h : RCl x m) : ∀ s i, s < 4 → i < (m.1 64 s).toNatClampNeg → SVd (m.1 62 (4 * s + i)) (m.1 63 (4 * s + i)) := h.2.2.2.2.2.2.2.2.2.2.2.2.2.2.2.2.2.2.2.2.2.2.2.2.2.1
theorem RCl.tk {x m : zM} (h : RCl x m) : ∀ s, s < 4 → x.2.1 (18 + 8 * s) 3 = kb (tkM m s) 34 := h.2.2.2.2.2.2.2.2.2.2.2.2.2.2.2.2.2.2.2.2.2.2.2.2.2.2.1
theorem RCl.rb {x m : zM} (h : RCl x m) : ∀ s, s < 4 → (m.1 66 s).toNatClampNeg ≤ 86 := h.2.2.2.2.2.2.2.2.2.2.2.2.2.2.2.2.2.2.2.2.2.2.2.2.2.2.2.1
theorem RCl.rk {x m : zM} (h : RCl x m) : ∀ s i, s < 4 → i < (m.1 66 s).toNatClampNeg → ∃ k, k < 34 ∧ m.1 65 (136 * s + i) = nI k := h.2.2.2.2.2.2.2.2.2.2.2.2.2.2.2.2.2.2.2.2.2.2.2.2.2.2.2.2.1
theorem RCl.rd {x m : zM} (h : RCl x m) : m.1 50 41 = 0 ∨ m.1 50 41 = 1 := h.2.2.2.2.2.2.2.2.2.2.2.2.2.2.2.2.2.2.2.2.2.2.2.2.2.2.2.2.2.1
theorem RCl.bb {x m : zM} (h : RCl x m) : ∀ s, s < 4 → m.1 67 s = 0 ∨ m.1 67 s = 1 ∨ m.1 67 s = 2 := h.2.2.2.2.2.2.2.2.2.2.2.2.2.2.2.2.2.2.2.2.2.2.2.2.2.2.2.2.2.2.1
theorem RCl.wp {x m : zM} (h : RCl x m) : m.1 50 55 = 1 → ∃ sd, ∀ i, i < 136 → m.1 59 i = wlF sd i := h.2.2.2.2.2.2.2.2.2.2.2.2.2.2.2.2.2.2.2.2.2.2.2.2.2.2.2.2.2.2.2
theorem v1_ne {v : Int32} (h : ¬ v = -1) : ¬ v + 1 = 0 := fun e => h (by rw [← Int32.add_zero v, show (0 : Int32) = 1 + -1 from by decide, ← Int32.add_assoc, e]; decide)
/-- what may not be discarded is a kind, or none -/
def BN (m : zM) : Prop := ∃ b, b < 34 ∧ m.1 50 50 = nI b ∧ (m.1 50 51 = -1 ∨ ∃ e, e < 34 ∧ m.1 50 51 = nI e)
/-- within a hand: the phase p, who has the turn t, the tile c (34: none, just claimed) -/
def RPh (x m : zM) (p t c : Nat) : Prop := (x.1 2 3 = m.1 50 47) ∧ (x.1 0 7 = nI p) ∧ (m.1 50 44 = nI p) ∧ (x.1 0 8 = nI t) ∧ (m.1 50 45 = nI t) ∧ (t < 4) ∧ (p = 1 ∨ p = 2 ∨ p = 3) ∧ (x.1 0 15 = (if c = 34 then (-1 : Int32) else nI c)) ∧ (m.1 50 49 = (if c = 34 then (-1 : Int32) else nI c)) ∧ (c < 34 ∨ (c = 34 ∧ p = 1)) ∧ (p = 1 → m.1 50 57 = (if c = 34 then 1 else 0)) ∧ (x.1 0 17 = nB (decide (m.1 50 56 = 0))) ∧ (¬ m.1 50 56 = 0 → ∀ s, s < 4 → m.1 64 s = 0) ∧ (p = 1 → c < 34 → x.1 0 16 = m.1 50 58) ∧ (p = 1 → x.2.1 0 18 = barM m) ∧ (p = 1 → c = 34 → BN m ∧ m.1 50 56 = 0) ∧ (p = 1 → c < 34 → ¬ m.1 60 (34 * t + c) = 0) ∧ (p = 3 → ¬ x.1 (21 + 8 * t) c = 0) ∧ (∀ s, s < 4 → x.1 (18 + 8 * s) 6 = (if s = t then m.1 50 59 else 0)) ∧ (p ≠ 2 → m.1 50 59 = 0) ∧ (m.1 50 55 = 1) ∧ (m.1 71 t = 0) ∧ (p = 1 → ∀ s, s < 4 → m.1 71 s = 0) ∧ (m.1 50 53 = 0) ∧ (∀ s, s < 4 → ∃ n, m.1 68 s = nI n ∧ (n : Int) + 52 ≤ (m.1 50 46).toInt + (m.1 50 48).toInt ∧ (m.1 50 40 = nI s → 1 ≤ n)) ∧ (¬ m.1 50 56 = 0 → ∀ s, s < 4 → m.1 68 s = (if p = 1 ∧ s = t then m.1 66 s + 1 else m.1 66 s)) ∧ (m.1 50 56 = 0 → p = 1 → m.1 50 40 = nI t → c < 34 → ¬ m.1 68 t = 1) ∧ (∃ a : Nat → Nat → Nat, (∀ s k, s < 4 → k < 34 → x.1 (21 + 8 * s) k = nI (a s k)) ∧ ∀ k, k < 34 → a 0 k + a 1 k + a 2 k + a 3 k + (if p = 2 ∧ c = k then 1 else 0) ≤ cW (fW m) 0 k (m.1 50 46).toNatClampNeg + cW (fW m) 122 k (m.1 50 48).toNatClampNeg)
theorem RPh.fo {x m : zM} {p t c : Nat} (h : RPh x m p t c) : x.1 2 3 = m.1 50 47 := h.1
theorem RPh.px {x m : zM} {p t c : Nat} (h : RPh x m p t c) : x.1 0 7 = nI p := h.2.1
theorem RPh.pm {x m : zM} {p t c : Nat} (h : RPh x m p t c) : m.1 50 44 = nI p := h.2.2.1
theorem RPh.tx {x m : zM} {p t c : Nat} (h : RPh x m p t c) : x.1 0 8 = nI t := h.2.2.2.1
theorem RPh.tm {x m : zM} {p t c : Nat} (h : RPh x m p t c) : m.1 50 45 = nI t := h.2.2.2.2.1
theorem RPh.t4 {x m : zM} {p t c : Nat} (h : RPh x m p t c) : t < 4 := h.2.2.2.2.2.1
theorem RPh.p3 {x m : zM} {p t c : Nat} (h : RPh x m p t c) : p = 1 ∨ p = 2 ∨ p = 3 := h.2.2.2.2.2.2.1
theorem RPh.cx {x m : zM} {p t c : Nat} (h : RPh x m p t c) : x.1 0 15 = (if c = 34 then (-1 : Int32) else nI c) := h.2.2.2.2.2.2.2.1
theorem RPh.cm {x m : zM} {p t c : Nat} (h : RPh x m p t c) : m.1 50 49 = (if c = 34 then (-1 : Int32) else nI c) := h.2.2.2.2.2.2.2.2.1
theorem RPh.c3 {x m : zM} {p t c : Nat} (h : RPh x m p t c) : c < 34 ∨ (c = 34 ∧ p = 1) := h.2.2.2.2.2.2.2.2.2.1
theorem RPh.jc {x m : zM} {p t c : Nat} (h : RPh x m p t c) : p = 1 → m.1 50 57 = (if c = 34 then 1 else 0) := h.2.2.2.2.2.2.2.2.2.2.1
theorem RPh.br {x m : zM} {p t c : Nat} (h : RPh x m p t c) : x.1 0 17 = nB (decide (m.1 50 56 = 0)) := h.2.2.2.2.2.2.2.2.2.2.2.1
theorem RPh.us {x m : zM} {p t c : Nat} (h : RPh x m p t c) : ¬ m.1 50 56 = 0 → ∀ s, s < 4 → m.1 64 s = 0 := h.2.2.2.2.2.2.2.2.2.2.2.2.1
theorem RPh.bf {x m : zM} {p t c : Nat} (h : RPh x m p t c) : p = 1 → c < 34 → x.1 0 16 = m.1 50 58 := h.2.2.2.2.2.2.2.2.2.2.2.2.2.1
theorem RPh.ba {x m : zM} {p t c : Nat} (h : RPh x m p t c) : p = 1 → x.2.1 0 18 = barM m := h.2.2.2.2.2.2.2.2.2.2.2.2.2.2.1
theorem RPh.bn {x m : zM} {p t c : Nat} (h : RPh x m p t c) : p = 1 → c = 34 → BN m ∧ m.1 50 56 = 0 := h.2.2.2.2.2.2.2.2.2.2.2.2.2.2.2.1
theorem RPh.dt {x m : zM} {p t c : Nat} (h : RPh x m p t c) : p = 1 → c < 34 → ¬ m.1 60 (34 * t + c) = 0 := h.2.2.2.2.2.2.2.2.2.2.2.2.2.2.2.2.1
theorem RPh.a3 {x m : zM} {p t c : Nat} (h : RPh x m p t c) : p = 3 → ¬ x.1 (21 + 8 * t) c = 0 := h.2.2.2.2.2.2.2.2.2.2.2.2.2.2.2.2.2.1
theorem RPh.ow {x m : zM} {p t c : Nat} (h : RPh x m p t c) : ∀ s, s < 4 → x.1 (18 + 8 * s) 6 = (if s = t then m.1 50 59 else 0) := h.2.2.2.2.2.2.2.2.2.2.2.2.2.2.2.2.2.2.1
theorem RPh.o1 {x m : zM} {p t c : Nat} (h : RPh x m p t c) : p ≠ 2 → m.1 50 59 = 0 := h.2.2.2.2.2.2.2.2.2.2.2.2.2.2.2.2.2.2.2.1
theorem RPh.is {x m : zM} {p t c : Nat} (h : RPh x m p t c) : m.1 50 55 = 1 := h.2.2.2.2.2.2.2.2.2.2.2.2.2.2.2.2.2.2.2.2.1
theorem RPh.s0 {x m : zM} {p t c : Nat} (h : RPh x m p t c) : m.1 71 t = 0 := h.2.2.2.2.2.2.2.2.2.2.2.2.2.2.2.2.2.2.2.2.2.1
theorem RPh.s1 {x m : zM} {p t c : Nat} (h : RPh x m p t c) : p = 1 → ∀ s, s < 4 → m.1 71 s = 0 := h.2.2.2.2.2.2.2.2.2.2.2.2.2.2.2.2.2.2.2.2.2.2.1
theorem RPh.w0 {x m : zM} {p t c : Nat} (h : RPh x m p t c) : m.1 50 53 = 0 := h.2.2.2.2.2.2.2.2.2.2.2.2.2.2.2.2.2.2.2.2.2.2.2.1
theorem RPh.dn {x m : zM} {p t c : Nat} (h : RPh x m p t c) : ∀ s, s < 4 → ∃ n, m.1 68 s = nI n ∧ (n : Int) + 52 ≤ (m.1 50 46).toInt + (m.1 50 48).toInt ∧ (m.1 50 40 = nI s → 1 ≤ n) := h.2.2.2.2.2.2.2.2.2.2.2.2.2.2.2.2.2.2.2.2.2.2.2.2.1
theorem RPh.dr {x m : zM} {p t c : Nat} (h : RPh x m p t c) : ¬ m.1 50 56 = 0 → ∀ s, s < 4 → m.1 68 s = (if p = 1 ∧ s = t then m.1 66 s + 1 else m.1 66 s) := h.2.2.2.2.2.2.2.2.2.2.2.2.2.2.2.2.2.2.2.2.2.2.2.2.2.1
theorem RPh.d2 {x m : zM} {p t c : Nat} (h : RPh x m p t c) : m.1 50 56 = 0 → p = 1 → m.1 50 40 = nI t → c < 34 → ¬ m.1 68 t = 1 := h.2.2.2.2.2.2.2.2.2.2.2.2.2.2.2.2.2.2.2.2.2.2.2.2.2.2.1
theorem RPh.tc {x m : zM} {p t c : Nat} (h : RPh x m p t c) : ∃ a : Nat → Nat → Nat, (∀ s k, s < 4 → k < 34 → x.1 (21 + 8 * s) k = nI (a s k)) ∧ ∀ k, k < 34 → a 0 k + a 1 k + a 2 k + a 3 k + (if p = 2 ∧ c = k then 1 else 0) ≤ cW (fW m) 0 k (m.1 50 46).toNatClampNeg + cW (fW m) 122 k (m.1 50 48).toNatClampNeg := h.2.2.2.2.2.2.2.2.2.2.2.2.2.2.2.2.2.2.2.2.2.2.2.2.2.2.2
/-- between calls -/
def RG (x m : zM) : Prop := RCl x m ∧ ((x.1 0 7 = 0 ∧ m.1 50 44 = 0 ∧ m.1 50 49 = -1 ∧ x.1 2 3 = m.1 50 47 ∧ x.1 0 8 = m.1 50 45) ∨ ∃ p t c, RPh x m p t c)
/-- the class's cells of the game -/
def gXc (r k : Nat) : Prop := (r = 0 ∧ 6 ≤ k) ∨ r = 2 ∨ r = 3 ∨ (18 ≤ r ∧ r < 50)
/-- the reference's cells of the game -/
def gMc (r k : Nat) : Prop := (59 ≤ r ∧ r ≤ 73) ∨ (r = 50 ∧ 40 ≤ k ∧ k ≤ 59)
def EqX (x x' : zM) : Prop := ∀ r k, gXc r k → x'.1 r k = x.1 r k ∧ x'.2.1 r k = x.2.1 r k
def EqM (m m' : zM) : Prop := ∀ r k, gMc r k → m'.1 r k = m.1 r k ∧ m'.2.1 r k = m.2.1 r k
