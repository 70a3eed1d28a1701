/-! the relation is kept: discard -/
set_option maxRecDepth 8000
theorem ofv_add {w d k : Int32} {so lo : Nat → Int32} : ∀ n, ofv (w + d) so lo k n = ofv w so lo k n + d
  | 0 => rfl
  | n + 1 => by
    show ofv (w + d) so lo k n + ct (so n) (lo n) k = (ofv w so lo k n + ct (so n) (lo n) k) + d
    rw [ofv_add n, Int32.add_assoc, Int32.add_assoc, Int32.add_comm d]
theorem sm_cg {f g : Nat → Int32} {n : Nat} (h : ∀ j, j < n → f j = g j) : sm f n = sm g n := by
  induction n with
  | zero => rfl
  | succ n ih =>
    show sm f n + f n = sm g n + g n
    rw [ih (fun j hj => h j (by omega)), h n (by omega)]
theorem sm_up9 {f g : Nat → Int32} {c n : Nat} {d : Int32} (hc : c < n) (h : ∀ j, j < n → j ≠ c → f j = g j) (h2 : f c = g c + d) : sm f n = sm g n + d := by
  induction n with
  | zero => omega
  | succ n ih =>
    show sm f n + f n = (sm g n + g n) + d
    by_cases e : c = n
    · subst e
      rw [sm_cg (fun j hj => h j (by omega) (by omega)), h2, Int32.add_assoc]
    · rw [ih (by omega) (fun j hj => h j (by omega)), h n (by omega) (fun q => e q.symm), Int32.add_assoc, Int32.add_assoc, Int32.add_comm d]
theorem kA_cg {f g : Nat → Bool} {n : Nat} (h : ∀ i, i < n → f i = g i) : kA f n = kA g n := by
  induction n with
  | zero => rfl
  | succ n ih =>
    show (kA f n || f n) = (kA g n || g n)
    rw [ih (fun i hi => h i (by omega)), h n (by omega)]
theorem tkM_cg {m m' : zM} {s : Nat} (hb : (m.1 66 s).toNatClampNeg ≤ 86) (h1 : ∀ i, i < 86 → m'.1 65 (136 * s + i) = m.1 65 (136 * s + i)) (h2 : m'.1 66 s = m.1 66 s) : tkM m s = tkM m' s := by
  funext b
  unfold tkM
  rw [h2]
  exact kA_cg (fun i hi => by rw [h1 i (by omega)])
theorem kb_or {f g : Nat → Bool} {k : Nat} (h : ∀ b, b < 34 → g b = (f b || decide (b = k))) (hk : k < 34) : kb g 34 = kb f 34 ||| (1 <<< ((nI k).toInt64 &&& 63)) := by
  have H : ∀ n, n ≤ 34 → kb g n = (if k < n then kb f n ||| (1 <<< ((nI k).toInt64 &&& 63)) else kb f n) := by
    intro n
    induction n with
    | zero => intro _; rfl
    | succ n ih =>
      intro hn
      have e := ih (by omega)
      show (if g n = true then kb g n ||| (1 <<< ((nI n).toInt64 &&& 63)) else kb g n) = _
      rw [show kb f (n + 1) = (if f n = true then kb f n ||| (1 <<< ((nI n).toInt64 &&& 63)) else kb f n) from rfl, e, h n (by omega)]
      by_cases c1 : k < n
      · rw [if_pos c1, if_pos (show k < n + 1 by omega), decide_eq_false (show ¬ n = k by omega), Bool.or_false]
        cases f n
        · rfl
        · rw [if_pos rfl, if_pos rfl, Int64.or_assoc, Int64.or_comm (1 <<< ((nI k).toInt64 &&& 63)), ← Int64.or_assoc]
      · rw [if_neg c1]
        by_cases c2 : n = k
        · rw [if_pos (show k < n + 1 by omega), decide_eq_true c2, Bool.or_true, if_pos rfl, ← c2]
          cases f n
          · rfl
          · rw [if_pos rfl, Int64.or_assoc, Int64.or_self]
        · rw [if_neg (show ¬ k < n + 1 by omega), decide_eq_false c2, Bool.or_false]
  rw [H 34 (by omega), if_pos hk]
theorem tk_add {m m' : zM} {s k q : Nat} (hk : k < 34) (e66 : m.1 66 s = nI q) (hq : q < 2147483647) (h1 : ∀ i, i < q → m'.1 65 (136 * s + i) = m.1 65 (136 * s + i)) (h2 : m'.1 65 (136 * s + q) = nI k) (h3 : m'.1 66 s = nI (q + 1)) : kb (tkM m s) 34 ||| (1 <<< ((nI k).toInt64 &&& 63)) = kb (tkM m' s) 34 := by
  refine (kb_or (fun b hb => ?_) hk).symm
  unfold tkM
  rw [h3, e66, nI_clamp (by omega), nI_clamp (by omega)]
  show (kA _ q || decide (m'.1 65 (136 * s + q) = nI b)) = _
  rw [kA_cg (fun i hi => by rw [h1 i hi]), h2]
  congr 1
  by_cases e : b = k
  · rw [decide_eq_true e, decide_eq_true (by rw [e])]
  · rw [decide_eq_false e, decide_eq_false (fun z => e ((nI_eq (a := k) (b := b) (by omega) (by omega)).mp z).symm)]
def dX0 (x : zM) (t k q : Nat) : zM := z_ui (z_uj (z_ui (tT (z_ui (z_ui (pS x t k (-1)) (18 + 8 * t) 6 0) (18 + 8 * t) 7 0) t k q) 0 15 (nI k)) 0 18 0) 0 7 2
def dY0 (m : zM) (t k q : Nat) : zM := z_ui (z_ui (z_ui (z_ui (z_ui (z_ui (z_ui (z_giv m t k (-1)) 65 (136 * t + q) (nI k)) 66 t (nI (q + 1))) 69 t 0) 50 59 0) 50 44 2) 50 49 (nI k)) 50 57 0
theorem rc_discard0 {x m : zM} (R : RCl x m) {t k q : Nat} (ht : t < 4) (hk : k < 34) (hq : q < 86) (e66 : m.1 66 t = nI q) : RCl (dX0 x t k q) (dY0 m t k q) := by
  have e2 : x.1 (18 + 8 * t) 2 = nI q := (R.ds t ht).trans e66
  unfold dX0 dY0 tT pS z_giv
  exact ⟨(by simp (disch := omega) only [ui_s, uj_s, ui_o, ui_k, uj_o, uj_k, ui_j, uj_i]; exact R.dl), (by simp (disch := omega) only [ui_s, uj_s, ui_o, ui_k, uj_o, uj_k, ui_j, uj_i]; exact R.rn), (by simp (disch := omega) only [ui_s, uj_s, ui_o, ui_k, uj_o, uj_k, ui_j, uj_i]; exact R.st), (by simp (disch := omega) only [ui_s, uj_s, ui_o, ui_k, uj_o, uj_k, ui_j, uj_i]; exact R.bt), (by simp (disch := omega) only [ui_s, uj_s, ui_o, ui_k, uj_o, uj_k, ui_j, uj_i]; exact R.en), (by simp (disch := omega) only [ui_s, uj_s, ui_o, ui_k, uj_o, uj_k, ui_j, uj_i]; exact R.he), (by simp (disch := omega) only [ui_s, uj_s, ui_o, ui_k, uj_o, uj_k, ui_j, uj_i]; exact R.wc), (by simp (disch := omega) only [ui_s, uj_s, ui_o, ui_k, uj_o, uj_k, ui_j, uj_i]; exact R.sd), (by simp (disch := omega) only [ui_s, uj_s, ui_o, ui_k, uj_o, uj_k, ui_j, uj_i]; exact R.nx), fun i h0 => by simp (disch := omega) only [ui_s, uj_s, ui_o, ui_k, uj_o, uj_k, ui_j, uj_i]; exact R.wl i h0, fun s h0 => by simp (disch := omega) only [ui_s, uj_s, ui_o, ui_k, uj_o, uj_k, ui_j, uj_i]; exact R.pt s h0, (fun s h0 => by
      by_cases e : s = t
      · subst e; simp (disch := omega) only [ui_s, uj_s, ui_o, ui_k, uj_o, uj_k, ui_j, uj_i]; exact R.be s h0
      · simp (disch := omega) only [ui_s, uj_s, ui_o, ui_k, uj_o, uj_k, ui_j, uj_i]; exact R.be s h0), (fun s h0 => by
      by_cases e : s = t
      · subst e; simp (disch := omega) only [ui_s, uj_s, ui_o, ui_k, uj_o, uj_k, ui_j, uj_i]
      · simp (disch := omega) only [ui_s, uj_s, ui_o, ui_k, uj_o, uj_k, ui_j, uj_i]; exact R.ao s h0), fun s h0 => by simp (disch := omega) only [ui_s, uj_s, ui_o, ui_k, uj_o, uj_k, ui_j, uj_i]; exact R.lg s h0, fun s h0 => by simp (disch := omega) only [ui_s, uj_s, ui_o, ui_k, uj_o, uj_k, ui_j, uj_i]; exact R.sy s h0, (fun s h0 => by
      by_cases e : s = t
      · subst e; simp (disch := omega) only [ui_s, uj_s, ui_o, ui_k, uj_o, uj_k, ui_j, uj_i]
      · simp (disch := omega) only [ui_s, uj_s, ui_o, ui_k, uj_o, uj_k, ui_j, uj_i]; exact R.ds s h0), fun s h0 => by simp (disch := omega) only [ui_s, uj_s, ui_o, ui_k, uj_o, uj_k, ui_j, uj_i]; exact R.lm s h0, (fun s k2 h0 h1 => by
      by_cases e : s = t
      · subst e
        by_cases e2 : k2 = k
        · subst e2; simp (disch := omega) only [ui_s, uj_s, ui_o, ui_k, uj_o, uj_k, ui_j, uj_i]; rw [R.hd s k2 h0 h1]
        · simp (disch := omega) only [ui_s, uj_s, ui_o, ui_k, uj_o, uj_k, ui_j, uj_i]; exact R.hd s k2 h0 h1
      · simp (disch := omega) only [ui_s, uj_s, ui_o, ui_k, uj_o, uj_k, ui_j, uj_i]; exact R.hd s k2 h0 h1), fun s i h0 h1 => by simp (disch := omega) only [ui_s, uj_s, ui_o, ui_k, uj_o, uj_k, ui_j, uj_i]; exact R.so s i h0 h1, fun s i h0 h1 => by simp (disch := omega) only [ui_s, uj_s, ui_o, ui_k, uj_o, uj_k, ui_j, uj_i]; exact R.lo s i h0 h1, (fun s i h0 h1 => by
      by_cases e : s = t
      · subst e
        by_cases e2 : i = q
        · subst e2; simp (disch := omega) only [ui_s, uj_s, ui_o, ui_k, uj_o, uj_k, ui_j, uj_i]
        · simp (disch := omega) only [ui_s, uj_s, ui_o, ui_k, uj_o, uj_k, ui_j, uj_i]; exact R.rv s i h0 h1
      · simp (disch := omega) only [ui_s, uj_s, ui_o, ui_k, uj_o, uj_k, ui_j, uj_i]; exact R.rv s i h0 h1), fun i f h0 h1 h2 => by simp (disch := omega) only [ui_s, uj_s, ui_o, ui_k, uj_o, uj_k, ui_j, uj_i]; exact R.wi i f h0 h1 h2, fun i h0 => by simp (disch := omega) only [ui_s, uj_s, ui_o, ui_k, uj_o, uj_k, ui_j, uj_i]; exact R.wf i h0, (fun s k2 h0 h1 => by
      by_cases e : s = t
      · subst e
        by_cases e2 : k2 = k
        · subst e2; simp (disch := omega) only [ui_s, uj_s, ui_o, ui_k, uj_o, uj_k, ui_j, uj_i]; rw [ofv_add]; exact congrArg (· + (-1)) (R.al s k2 h0 h1)
        · simp (disch := omega) only [ui_s, uj_s, ui_o, ui_k, uj_o, uj_k, ui_j, uj_i]; exact R.al s k2 h0 h1
      · simp (disch := omega) only [ui_s, uj_s, ui_o, ui_k, uj_o, uj_k, ui_j, uj_i]; exact R.al s k2 h0 h1), (fun s h0 => by
      by_cases e : s = t
      · subst e
        simp (disch := omega) only [ui_s, uj_s, ui_o, ui_k, uj_o, uj_k, ui_j, uj_i]
        rw [R.lz s h0]
        exact (sm_up9 hk (fun j hj hn => by simp (disch := omega) only [ui_s, uj_s, ui_o, ui_k, uj_o, uj_k, ui_j, uj_i]) (by simp (disch := omega) only [ui_s, uj_s, ui_o, ui_k, uj_o, uj_k, ui_j, uj_i])).symm
      · simp (disch := omega) only [ui_s, uj_s, ui_o, ui_k, uj_o, uj_k, ui_j, uj_i]
        rw [R.lz s h0]
        exact sm_cg (fun j hj => by simp (disch := omega) only [ui_s, uj_s, ui_o, ui_k, uj_o, uj_k, ui_j, uj_i])), fun s i h0 h1 => by simp (disch := omega) only [ui_s, uj_s, ui_o, ui_k, uj_o, uj_k, ui_j, uj_i] at h1 ⊢; exact R.sv s i h0 h1, (fun s h0 => by
      by_cases e : s = t
      · subst e
        simp (disch := omega) only [ui_s, uj_s, ui_o, ui_k, uj_o, uj_k, ui_j, uj_i]
        rw [R.tk s h0]
        exact tk_add hk e66 (by omega) (fun i hi => by simp (disch := omega) only [ui_s, uj_s, ui_o, ui_k, uj_o, uj_k, ui_j, uj_i]) (by simp (disch := omega) only [ui_s, uj_s, ui_o, ui_k, uj_o, uj_k, ui_j, uj_i]) (by simp (disch := omega) only [ui_s, uj_s, ui_o, ui_k, uj_o, uj_k, ui_j, uj_i])
      · simp (disch := omega) only [ui_s, uj_s, ui_o, ui_k, uj_o, uj_k, ui_j, uj_i]
        rw [R.tk s h0]
        exact congrArg (fun f => kb f 34) (tkM_cg (R.rb s h0) (fun i hi => by simp (disch := omega) only [ui_s, uj_s, ui_o, ui_k, uj_o, uj_k, ui_j, uj_i]) (by simp (disch := omega) only [ui_s, uj_s, ui_o, ui_k, uj_o, uj_k, ui_j, uj_i]))), (fun s h0 => by
      by_cases e : s = t
      · subst e; simp (disch := omega) only [ui_s, uj_s, ui_o, ui_k, uj_o, uj_k, ui_j, uj_i]; rw [nI_clamp (by omega)]; omega
      · simp (disch := omega) only [ui_s, uj_s, ui_o, ui_k, uj_o, uj_k, ui_j, uj_i]; exact R.rb s h0), (fun s i h0 h1 => by
      by_cases e : s = t
      · subst e
        simp (disch := omega) only [ui_s, uj_s, ui_o, ui_k, uj_o, uj_k, ui_j, uj_i] at h1
        rw [nI_clamp (by omega)] at h1
        by_cases e2 : i = q
        · subst e2; exact ⟨k, hk, by simp (disch := omega) only [ui_s, uj_s, ui_o, ui_k, uj_o, uj_k, ui_j, uj_i]⟩
        · obtain ⟨k', a, b⟩ := R.rk s i h0 (by rw [e66, nI_clamp (by omega)]; omega)
          exact ⟨k', a, by simp (disch := omega) only [ui_s, uj_s, ui_o, ui_k, uj_o, uj_k, ui_j, uj_i]; exact b⟩
      · simp (disch := omega) only [ui_s, uj_s, ui_o, ui_k, uj_o, uj_k, ui_j, uj_i] at h1
        have hb := R.rb s h0
        simp (disch := omega) only [ui_s, uj_s, ui_o, ui_k, uj_o, uj_k, ui_j, uj_i]
        exact R.rk s i h0 h1), (by simp (disch := omega) only [ui_s, uj_s, ui_o, ui_k, uj_o, uj_k, ui_j, uj_i]; exact R.rd), fun s h0 => by simp (disch := omega) only [ui_s, uj_s, ui_o, ui_k, uj_o, uj_k, ui_j, uj_i]; exact R.bb s h0, fun z => by simp (disch := omega) only [ui_s, uj_s, ui_o, ui_k, uj_o, uj_k, ui_j, uj_i] at z ⊢; exact R.wp z⟩
def dX1 (x : zM) (t k q : Nat) (bv : Int32) : zM := z_ui (z_uj (z_ui (tT (z_ui (z_ui (z_ui (pS x t k (-1)) (18 + 8 * t) 5 bv) (18 + 8 * t) 6 1) (18 + 8 * t) 7 1) t k q) 0 15 (nI k)) 0 18 0) 0 7 2
def dY1 (m : zM) (t k q : Nat) (bv : Int32) : zM := z_ui (z_ui (z_ui (z_ui (z_ui (z_ui (z_ui (z_ui (z_giv m t k (-1)) 67 t bv) 65 (136 * t + q) (nI k)) 66 t (nI (q + 1))) 69 t 1) 50 59 1) 50 44 2) 50 49 (nI k)) 50 57 0
theorem rc_discard1 {x m : zM} (R : RCl x m) {t k q : Nat} (ht : t < 4) (hk : k < 34) (hq : q < 86) (e66 : m.1 66 t = nI q) {bv : Int32} (hbv : bv = 1 ∨ bv = 2) : RCl (dX1 x t k q bv) (dY1 m t k q bv) := by
  have e2 : x.1 (18 + 8 * t) 2 = nI q := (R.ds t ht).trans e66
  unfold dX1 dY1 tT pS z_giv
  exact ⟨(by simp (disch := omega) only [ui_s, uj_s, ui_o, ui_k, uj_o, uj_k, ui_j, uj_i]; exact R.dl), (by simp (disch := omega) only [ui_s, uj_s, ui_o, ui_k, uj_o, uj_k, ui_j, uj_i]; exact R.rn), (by simp (disch := omega) only [ui_s, uj_s, ui_o, ui_k, uj_o, uj_k, ui_j, uj_i]; exact R.st), (by simp (disch := omega) only [ui_s, uj_s, ui_o, ui_k, uj_o, uj_k, ui_j, uj_i]; exact R.bt), (by simp (disch := omega) only [ui_s, uj_s, ui_o, ui_k, uj_o, uj_k, ui_j, uj_i]; exact R.en), (by simp (disch := omega) only [ui_s, uj_s, ui_o, ui_k, uj_o, uj_k, ui_j, uj_i]; exact R.he), (by simp (disch := omega) only [ui_s, uj_s, ui_o, ui_k, uj_o, uj_k, ui_j, uj_i]; exact R.wc), (by simp (disch := omega) only [ui_s, uj_s, ui_o, ui_k, uj_o, uj_k, ui_j, uj_i]; exact R.sd), (by simp (disch := omega) only [ui_s, uj_s, ui_o, ui_k, uj_o, uj_k, ui_j, uj_i]; exact R.nx), fun i h0 => by simp (disch := omega) only [ui_s, uj_s, ui_o, ui_k, uj_o, uj_k, ui_j, uj_i]; exact R.wl i h0, fun s h0 => by simp (disch := omega) only [ui_s, uj_s, ui_o, ui_k, uj_o, uj_k, ui_j, uj_i]; exact R.pt s h0, (fun s h0 => by
      by_cases e : s = t
      · subst e; simp (disch := omega) only [ui_s, uj_s, ui_o, ui_k, uj_o, uj_k, ui_j, uj_i]
      · simp (disch := omega) only [ui_s, uj_s, ui_o, ui_k, uj_o, uj_k, ui_j, uj_i]; exact R.be s h0), (fun s h0 => by
      by_cases e : s = t
      · subst e; simp (disch := omega) only [ui_s, uj_s, ui_o, ui_k, uj_o, uj_k, ui_j, uj_i]
      · simp (disch := omega) only [ui_s, uj_s, ui_o, ui_k, uj_o, uj_k, ui_j, uj_i]; exact R.ao s h0), fun s h0 => by simp (disch := omega) only [ui_s, uj_s, ui_o, ui_k, uj_o, uj_k, ui_j, uj_i]; exact R.lg s h0, fun s h0 => by simp (disch := omega) only [ui_s, uj_s, ui_o, ui_k, uj_o, uj_k, ui_j, uj_i]; exact R.sy s h0, (fun s h0 => by
      by_cases e : s = t
      · subst e; simp (disch := omega) only [ui_s, uj_s, ui_o, ui_k, uj_o, uj_k, ui_j, uj_i]
      · simp (disch := omega) only [ui_s, uj_s, ui_o, ui_k, uj_o, uj_k, ui_j, uj_i]; exact R.ds s h0), fun s h0 => by simp (disch := omega) only [ui_s, uj_s, ui_o, ui_k, uj_o, uj_k, ui_j, uj_i]; exact R.lm s h0, (fun s k2 h0 h1 => by
      by_cases e : s = t
      · subst e
        by_cases e2 : k2 = k
        · subst e2; simp (disch := omega) only [ui_s, uj_s, ui_o, ui_k, uj_o, uj_k, ui_j, uj_i]; rw [R.hd s k2 h0 h1]
        · simp (disch := omega) only [ui_s, uj_s, ui_o, ui_k, uj_o, uj_k, ui_j, uj_i]; exact R.hd s k2 h0 h1
      · simp (disch := omega) only [ui_s, uj_s, ui_o, ui_k, uj_o, uj_k, ui_j, uj_i]; exact R.hd s k2 h0 h1), fun s i h0 h1 => by simp (disch := omega) only [ui_s, uj_s, ui_o, ui_k, uj_o, uj_k, ui_j, uj_i]; exact R.so s i h0 h1, fun s i h0 h1 => by simp (disch := omega) only [ui_s, uj_s, ui_o, ui_k, uj_o, uj_k, ui_j, uj_i]; exact R.lo s i h0 h1, (fun s i h0 h1 => by
      by_cases e : s = t
      · subst e
        by_cases e2 : i = q
        · subst e2; simp (disch := omega) only [ui_s, uj_s, ui_o, ui_k, uj_o, uj_k, ui_j, uj_i]
        · simp (disch := omega) only [ui_s, uj_s, ui_o, ui_k, uj_o, uj_k, ui_j, uj_i]; exact R.rv s i h0 h1
      · simp (disch := omega) only [ui_s, uj_s, ui_o, ui_k, uj_o, uj_k, ui_j, uj_i]; exact R.rv s i h0 h1), fun i f h0 h1 h2 => by simp (disch := omega) only [ui_s, uj_s, ui_o, ui_k, uj_o, uj_k, ui_j, uj_i]; exact R.wi i f h0 h1 h2, fun i h0 => by simp (disch := omega) only [ui_s, uj_s, ui_o, ui_k, uj_o, uj_k, ui_j, uj_i]; exact R.wf i h0, (fun s k2 h0 h1 => by
      by_cases e : s = t
      · subst e
        by_cases e2 : k2 = k
        · subst e2; simp (disch := omega) only [ui_s, uj_s, ui_o, ui_k, uj_o, uj_k, ui_j, uj_i]; rw [ofv_add]; exact congrArg (· + (-1)) (R.al s k2 h0 h1)
        · simp (disch := omega) only [ui_s, uj_s, ui_o, ui_k, uj_o, uj_k, ui_j, uj_i]; exact R.al s k2 h0 h1
      · simp (disch := omega) only [ui_s, uj_s, ui_o, ui_k, uj_o, uj_k, ui_j, uj_i]; exact R.al s k2 h0 h1), (fun s h0 => by
      by_cases e : s = t
      · subst e
        simp (disch := omega) only [ui_s, uj_s, ui_o, ui_k, uj_o, uj_k, ui_j, uj_i]
        rw [R.lz s h0]
        exact (sm_up9 hk (fun j hj hn => by simp (disch := omega) only [ui_s, uj_s, ui_o, ui_k, uj_o, uj_k, ui_j, uj_i]) (by simp (disch := omega) only [ui_s, uj_s, ui_o, ui_k, uj_o, uj_k, ui_j, uj_i])).symm
      · simp (disch := omega) only [ui_s, uj_s, ui_o, ui_k, uj_o, uj_k, ui_j, uj_i]
        rw [R.lz s h0]
        exact sm_cg (fun j hj => by simp (disch := omega) only [ui_s, uj_s, ui_o, ui_k, uj_o, uj_k, ui_j, uj_i])), fun s i h0 h1 => by simp (disch := omega) only [ui_s, uj_s, ui_o, ui_k, uj_o, uj_k, ui_j, uj_i] at h1 ⊢; exact R.sv s i h0 h1, (fun s h0 => by
      by_cases e : s = t
      · subst e
        simp (disch := omega) only [ui_s, uj_s, ui_o, ui_k, uj_o, uj_k, ui_j, uj_i]
        rw [R.tk s h0]
        exact tk_add hk e66 (by omega) (fun i hi => by simp (disch := omega) only [ui_s, uj_s, ui_o, ui_k, uj_o, uj_k, ui_j, uj_i]) (by simp (disch := omega) only [ui_s, uj_s, ui_o, ui_k, uj_o, uj_k, ui_j, uj_i]) (by simp (disch := omega) only [ui_s, uj_s, ui_o, ui_k, uj_o, uj_k, ui_j, uj_i])
      · simp (disch := omega) only [ui_s, uj_s, ui_o, ui_k, uj_o, uj_k, ui_j, uj_i]
        rw [R.tk s h0]
        exact congrArg (fun f => kb f 34) (tkM_cg (R.rb s h0) (fun i hi => by simp (disch := omega) only [ui_s, uj_s, ui_o, ui_k, uj_o, uj_k, ui_j, uj_i]) (by simp (disch := omega) only [ui_s, uj_s, ui_o, ui_k, uj_o, uj_k, ui_j, uj_i]))), (fun s h0 => by
      by_cases e : s = t
      · subst e; simp (disch := omega) only [ui_s, uj_s, ui_o, ui_k, uj_o, uj_k, ui_j, uj_i]; rw [nI_clamp (by omega)]; omega
      · simp (disch := omega) only [ui_s, uj_s, ui_o, ui_k, uj_o, uj_k, ui_j, uj_i]; exact R.rb s h0), (fun s i h0 h1 => by
      by_cases e : s = t
      · subst e
        simp (disch := omega) only [ui_s, uj_s, ui_o, ui_k, uj_o, uj_k, ui_j, uj_i] at h1
        rw [nI_clamp (by omega)] at h1
        by_cases e2 : i = q
        · subst e2; exact ⟨k, hk, by simp (disch := omega) only [ui_s, uj_s, ui_o, ui_k, uj_o, uj_k, ui_j, uj_i]⟩
        · obtain ⟨k', a, b⟩ := R.rk s i h0 (by rw [e66, nI_clamp (by omega)]; omega)
          exact ⟨k', a, by simp (disch := omega) only [ui_s, uj_s, ui_o, ui_k, uj_o, uj_k, ui_j, uj_i]; exact b⟩
      · simp (disch := omega) only [ui_s, uj_s, ui_o, ui_k, uj_o, uj_k, ui_j, uj_i] at h1
        have hb := R.rb s h0
        simp (disch := omega) only [ui_s, uj_s, ui_o, ui_k, uj_o, uj_k, ui_j, uj_i]
        exact R.rk s i h0 h1), (by simp (disch := omega) only [ui_s, uj_s, ui_o, ui_k, uj_o, uj_k, ui_j, uj_i]; exact R.rd), (fun s h0 => by
      by_cases e : s = t
      · subst e; simp (disch := omega) only [ui_s, uj_s, ui_o, ui_k, uj_o, uj_k, ui_j, uj_i]; exact Or.inr hbv
      · simp (disch := omega) only [ui_s, uj_s, ui_o, ui_k, uj_o, uj_k, ui_j, uj_i]; exact R.bb s h0), fun z => by simp (disch := omega) only [ui_s, uj_s, ui_o, ui_k, uj_o, uj_k, ui_j, uj_i] at z ⊢; exact R.wp z⟩
