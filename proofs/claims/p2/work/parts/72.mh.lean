/-! how tiles fall apart: the class's way (greedy) and the reference's (a search) agree -/
abbrev rs (k : Nat) : Prop := k < 27 ∧ k % 9 < 7
def sh1 (r : Nat → Nat) : Nat → Nat
  | 0 => 0
  | k + 1 => r k
def sh2 (r : Nat → Nat) : Nat → Nat
  | 0 => 0
  | k + 1 => sh1 r k
/-- the tiles as THREES and RUNS -/
def PW (w t r : Nat → Nat) : Prop := (∀ k, r k ≠ 0 → rs k) ∧ ∀ k, k < 34 → w k = 3 * t k + r k + sh1 r k + sh2 r k
/-- the class's walk: left at a kind, RUNS begun one and two kinds before -/
def gr (w : Nat → Nat) : Nat → Nat → Nat → Nat → Bool
  | 0, _, _, _ => true
  | n + 1, i, r1, r2 => if w i < r1 + r2 then false else if (w i - r1 - r2) % 3 ≠ 0 ∧ ¬ rs i then false else gr w n (i + 1) ((w i - r1 - r2) % 3) r1
theorem PW.norm {w t r : Nat → Nat} (h : PW w t r) : PW w (fun k => t k + r k / 3 + sh1 (fun j => r j / 3) k + sh2 (fun j => r j / 3) k) (fun k => r k % 3) := by
  refine ⟨fun k hk => h.1 k (fun e => hk (by dsimp only; rw [e])), fun k hk => ?_⟩
  have e := h.2 k hk
  have e1 : sh1 r k = 3 * sh1 (fun j => r j / 3) k + sh1 (fun j => r j % 3) k := by
    cases k with
    | zero => rfl
    | succ k => show r k = 3 * (r k / 3) + r k % 3; omega
  have e2 : sh2 r k = 3 * sh2 (fun j => r j / 3) k + sh2 (fun j => r j % 3) k := by
    cases k with
    | zero => rfl
    | succ k =>
      cases k with
      | zero => rfl
      | succ k => show r k = 3 * (r k / 3) + r k % 3; omega
  dsimp only
  omega
theorem gr_of {w t r : Nat → Nat} (h : PW w t r) (h3 : ∀ k, r k < 3) : ∀ n i, i + n = 34 → gr w n i (sh1 r i) (sh2 r i) = true := by
  intro n
  induction n with
  | zero => intro i _; rfl
  | succ n ih =>
    intro i hi
    have e := h.2 i (by omega)
    have e3 : (w i - sh1 r i - sh2 r i) % 3 = r i := by have := h3 i; omega
    show (if w i < sh1 r i + sh2 r i then false else if (w i - sh1 r i - sh2 r i) % 3 ≠ 0 ∧ ¬ rs i then false else gr w n (i + 1) ((w i - sh1 r i - sh2 r i) % 3) (sh1 r i)) = true
    rw [if_neg (by omega), e3, if_neg (fun q => q.2 (h.1 i q.1))]
    exact ih (i + 1) (by omega)
/-- the RUNS that the walk begins -/
def ga (w : Nat → Nat) : Nat → Nat × Nat
  | 0 => (0, 0)
  | k + 1 => ((w k - (ga w k).1 - (ga w k).2) % 3, (ga w k).1)
theorem gr_inv {w : Nat → Nat} : ∀ n i, gr w n i (ga w i).1 (ga w i).2 = true → ∀ j, i ≤ j → j < i + n → (ga w j).1 + (ga w j).2 ≤ w j ∧ ((ga w (j + 1)).1 ≠ 0 → rs j) := by
  intro n
  induction n with
  | zero => intro i _ j h1 h2; omega
  | succ n ih =>
    intro i h j h1 h2
    have h : (if w i < (ga w i).1 + (ga w i).2 then false else if (w i - (ga w i).1 - (ga w i).2) % 3 ≠ 0 ∧ ¬ rs i then false else gr w n (i + 1) ((w i - (ga w i).1 - (ga w i).2) % 3) (ga w i).1) = true := h
    by_cases c1 : w i < (ga w i).1 + (ga w i).2
    · rw [if_pos c1] at h; cases h
    · rw [if_neg c1] at h
      by_cases c2 : (w i - (ga w i).1 - (ga w i).2) % 3 ≠ 0 ∧ ¬ rs i
      · rw [if_pos c2] at h; cases h
      · rw [if_neg c2] at h
        by_cases e : j = i
        · subst e
          refine ⟨by omega, fun q => ?_⟩
          have q : (w j - (ga w j).1 - (ga w j).2) % 3 ≠ 0 := q
          by_cases c3 : rs j
          · exact c3
          · exact absurd ⟨q, c3⟩ c2
        · exact ih (i + 1) h j (by omega) (by omega)
theorem PW_gr {w : Nat → Nat} (h : gr w 34 0 0 0 = true) : ∃ t r, PW w t r ∧ ∀ k, r k < 3 := by
  have hi := gr_inv 34 0 h
  refine ⟨fun k => (w k - (ga w k).1 - (ga w k).2) / 3, fun k => if k < 34 then (ga w (k + 1)).1 else 0, ⟨fun k hk => ?_, fun k hk => ?_⟩, fun k => ?_⟩
  · by_cases c : k < 34
    · have hk : (if k < 34 then (ga w (k + 1)).1 else 0) ≠ 0 := hk
      rw [if_pos c] at hk
      exact (hi k (by omega) (by omega)).2 hk
    · exact absurd (if_neg c) hk
  · have e0 := (hi k (by omega) (by omega)).1
    have e1 : sh1 (fun k => if k < 34 then (ga w (k + 1)).1 else 0) k = (ga w k).1 := by
      cases k with
      | zero => rfl
      | succ k => show (if k < 34 then (ga w (k + 1)).1 else 0) = _; rw [if_pos (by omega)]
    have e2 : sh2 (fun k => if k < 34 then (ga w (k + 1)).1 else 0) k = (ga w k).2 := by
      cases k with
      | zero => rfl
      | succ k =>
        cases k with
        | zero => rfl
        | succ k => show (if k < 34 then (ga w (k + 1)).1 else 0) = _; rw [if_pos (by omega)]; rfl
    dsimp only
    rw [e1, e2, if_pos hk]
    show w k = 3 * ((w k - (ga w k).1 - (ga w k).2) / 3) + (w k - (ga w k).1 - (ga w k).2) % 3 + (ga w k).1 + (ga w k).2
    omega
  · dsimp only
    split
    · show (w k - (ga w k).1 - (ga w k).2) % 3 < 3
      omega
    · omega
theorem gr_iff {w : Nat → Nat} : gr w 34 0 0 0 = true ↔ ∃ t r, PW w t r := ⟨fun h => by obtain ⟨t, r, h1, -⟩ := PW_gr h; exact ⟨t, r, h1⟩, fun ⟨t, r, h⟩ => gr_of h.norm (fun k => Nat.mod_lt _ (by decide)) 34 0 rfl⟩
/-! the reference's search -/
def sub3 (w : Nat → Nat) (k : Nat) : Nat → Nat := fun j => if j = k then w j - 3 else w j
def subr (w : Nat → Nat) (k : Nat) : Nat → Nat := fun j => if j = k ∨ j = k + 1 ∨ j = k + 2 then w j - 1 else w j
/-- the first kind from i on that is there, of the next n -/
def fk (w : Nat → Nat) : Nat → Nat → Nat
  | 0, i => i
  | n + 1, i => if w i ≠ 0 then i else fk w n (i + 1)
def dc : Nat → (Nat → Nat) → Nat → Nat → Prop
  | 0, w, _, _ => ∀ k, k < 34 → w k = 0
  | m + 1, w, from_, last => fk w (34 - from_) from_ < 34 ∧ ((3 ≤ w (fk w (34 - from_) from_) ∧ last ≠ fk w (34 - from_) from_ + 1 ∧ dc m (sub3 w (fk w (34 - from_) from_)) (fk w (34 - from_) from_) 0) ∨ (rs (fk w (34 - from_) from_) ∧ 0 < w (fk w (34 - from_) from_ + 1) ∧ 0 < w (fk w (34 - from_) from_ + 2) ∧ dc m (subr w (fk w (34 - from_) from_)) (fk w (34 - from_) from_) (fk w (34 - from_) from_ + 1)))
theorem fk_spec (w : Nat → Nat) : ∀ n i, i ≤ fk w n i ∧ fk w n i ≤ i + n ∧ (∀ j, i ≤ j → j < fk w n i → w j = 0) ∧ (fk w n i < i + n → w (fk w n i) ≠ 0) := by
  intro n
  induction n with
  | zero => intro i; exact ⟨Nat.le_refl _, Nat.le_refl _, fun j h1 h2 => absurd h2 (by show ¬ j < i; omega), fun h => absurd h (by show ¬ i < i + 0; omega)⟩
  | succ n ih =>
    intro i
    show i ≤ (if w i ≠ 0 then i else fk w n (i + 1)) ∧ (if w i ≠ 0 then i else fk w n (i + 1)) ≤ i + (n + 1) ∧ (∀ j, i ≤ j → j < (if w i ≠ 0 then i else fk w n (i + 1)) → w j = 0) ∧ ((if w i ≠ 0 then i else fk w n (i + 1)) < i + (n + 1) → w (if w i ≠ 0 then i else fk w n (i + 1)) ≠ 0)
    by_cases c : w i ≠ 0
    · rw [if_pos c]
      exact ⟨Nat.le_refl _, by omega, fun j h1 h2 => by omega, fun _ => c⟩
    · rw [if_neg c]
      obtain ⟨q1, q2, q3, q4⟩ := ih (i + 1)
      refine ⟨by omega, by omega, fun j h1 h2 => ?_, fun h => q4 (by omega)⟩
      by_cases e : j = i
      · rw [e]; exact Decidable.not_not.mp c
      · exact q3 j (by omega) h2
def sn (f : Nat → Nat) : Nat → Nat
  | 0 => 0
  | n + 1 => sn f n + f n
theorem sn_congr {f g : Nat → Nat} {n : Nat} (h : ∀ k, k < n → g k = f k) : sn g n = sn f n := by
  induction n with
  | zero => rfl
  | succ n ih => show sn g n + g n = sn f n + f n; rw [ih (fun k hk => h k (by omega)), h n (by omega)]
theorem sn_upd {f g : Nat → Nat} {c n d : Nat} (hc : c < n) (h : ∀ k, k < n → k ≠ c → g k = f k) (hd : g c + d = f c) : sn g n + d = sn f n := by
  induction n with
  | zero => omega
  | succ n ih =>
    show sn g n + g n + d = sn f n + f n
    by_cases e : c = n
    · subst e
      rw [sn_congr (fun k hk => h k (by omega) (by omega))]
      omega
    · have := ih (by omega) (fun k hk => h k (by omega))
      rw [h n (by omega) (by omega)]
      omega
theorem sn_le {f : Nat → Nat} {c n : Nat} (hc : c < n) : f c ≤ sn f n := by
  induction n with
  | zero => omega
  | succ n ih =>
    show f c ≤ sn f n + f n
    by_cases e : c = n
    · subst e; omega
    · have := ih (by omega); omega
theorem sn_pos {f : Nat → Nat} {n : Nat} (h : 0 < sn f n) : ∃ c, c < n ∧ 0 < f c := by
  induction n with
  | zero => exact absurd h (Nat.lt_irrefl 0)
  | succ n ih =>
    have h : 0 < sn f n + f n := h
    by_cases e : 0 < f n
    · exact ⟨n, by omega, e⟩
    · obtain ⟨c, h1, h2⟩ := ih (by omega)
      exact ⟨c, by omega, h2⟩
theorem sn_sh1 (r : Nat → Nat) : ∀ n, sn (sh1 r) (n + 1) = sn r n := by
  intro n
  induction n with
  | zero => rfl
  | succ n ih => show sn (sh1 r) (n + 1) + r n = sn r n + r n; rw [ih]
theorem sn_sh2 (r : Nat → Nat) : ∀ n, sn (sh2 r) (n + 1) = sn (sh1 r) n := by
  intro n
  induction n with
  | zero => rfl
  | succ n ih => show sn (sh2 r) (n + 1) + sh1 r n = sn (sh1 r) n + sh1 r n; rw [ih]
theorem PW.sum {w t r : Nat → Nat} (h : PW w t r) : sn w 34 = 3 * sn (fun k => t k + r k) 34 := by
  have key : ∀ n, n ≤ 34 → sn w n = 3 * sn t n + sn r n + sn (sh1 r) n + sn (sh2 r) n := by
    intro n
    induction n with
    | zero => intro _; rfl
    | succ n ih =>
      intro hn
      show sn w n + w n = 3 * (sn t n + t n) + (sn r n + r n) + (sn (sh1 r) n + sh1 r n) + (sn (sh2 r) n + sh2 r n)
      rw [ih (by omega), h.2 n (by omega)]
      omega
  have key2 : ∀ n, sn (fun k => t k + r k) n = sn t n + sn r n := by
    intro n
    induction n with
    | zero => rfl
    | succ n ih => show sn (fun k => t k + r k) n + (t n + r n) = sn t n + t n + (sn r n + r n); rw [ih]; omega
  have z : ∀ k, 27 ≤ k → r k = 0 := fun k hk => by
    by_cases e : r k = 0
    · exact e
    · have := (h.1 k e).1; omega
  have e34 : sn r 34 = sn r 32 + r 32 + r 33 := rfl
  have e33 : sn r 33 = sn r 32 + r 32 := rfl
  have z2 := z 32 (by decide)
  have z3 := z 33 (by decide)
  rw [key 34 (Nat.le_refl _), key2, sn_sh1 r 33, sn_sh2 r 33, sn_sh1 r 32]
  omega
theorem PW_dc : ∀ (m : Nat) (w : Nat → Nat) (f l : Nat), dc m w f l → ∃ t r, PW w t r := by
  intro m
  induction m with
  | zero =>
    intro w f l h
    refine ⟨fun _ => 0, fun _ => 0, fun k hk => absurd rfl hk, fun k hk => ?_⟩
    have e1 : sh1 (fun _ => 0) k = 0 := by cases k <;> rfl
    have e2 : sh2 (fun _ => 0) k = 0 := by
      cases k with
      | zero => rfl
      | succ k => cases k <;> rfl
    rw [e1, e2, show w k = 0 from h k hk]
    rfl
  | succ m ih =>
    intro w f l h
    obtain ⟨hk, h⟩ := h
    have hs := fk_spec w (34 - f) f
    generalize fk w (34 - f) f = k at hk h hs
    have hw : w k ≠ 0 := hs.2.2.2 (by omega)
    rcases h with ⟨h3, -, hd⟩ | ⟨hr, h1, h2, hd⟩
    · obtain ⟨t, r, hp⟩ := ih _ _ _ hd
      refine ⟨fun j => if j = k then t j + 1 else t j, r, hp.1, fun j hj => ?_⟩
      have e := hp.2 j hj
      unfold sub3 at e
      dsimp only
      by_cases c : j = k
      · subst c; rw [if_pos rfl] at e; rw [if_pos rfl]; omega
      · rw [if_neg c] at e; rw [if_neg c]; exact e
    · obtain ⟨t, r, hp⟩ := ih _ _ _ hd
      refine ⟨t, fun j => if j = k then r j + 1 else r j, fun j hj => ?_, fun j hj => ?_⟩
      · by_cases c : j = k
        · rw [c]; exact hr
        · exact hp.1 j (by have hj : (if j = k then r j + 1 else r j) ≠ 0 := hj; rw [if_neg c] at hj; exact hj)
      · have e := hp.2 j hj
        unfold subr at e
        have e1 : sh1 (fun j => if j = k then r j + 1 else r j) j = sh1 r j + (if j = k + 1 then 1 else 0) := by
          cases j with
          | zero => show 0 = 0 + _; rw [if_neg (by omega)]
          | succ j =>
            show (if j = k then r j + 1 else r j) = r j + _
            by_cases c : j = k
            · rw [if_pos c, if_pos (by omega)]
            · rw [if_neg c, if_neg (by omega)]; rfl
        have e2 : sh2 (fun j => if j = k then r j + 1 else r j) j = sh2 r j + (if j = k + 2 then 1 else 0) := by
          cases j with
          | zero => show 0 = 0 + _; rw [if_neg (by omega)]
          | succ j =>
            cases j with
            | zero => show 0 = 0 + _; rw [if_neg (by omega)]
            | succ j =>
              show (if j = k then r j + 1 else r j) = r j + _
              by_cases c : j = k
              · rw [if_pos c, if_pos (by omega)]
              · rw [if_neg c, if_neg (by omega)]; rfl
        dsimp only
        rw [e1, e2]
        by_cases c0 : j = k
        · subst c0
          rw [if_pos (Or.inl rfl)] at e
          rw [if_pos rfl, if_neg (by omega), if_neg (by omega)]
          omega
        · rw [if_neg c0]
          by_cases c1 : j = k + 1
          · rw [if_pos (Or.inr (Or.inl c1))] at e
            rw [if_pos c1, if_neg (by omega)]
            rw [← c1] at h1
            omega
          · by_cases c2 : j = k + 2
            · rw [if_pos (Or.inr (Or.inr c2))] at e
              rw [if_neg c1, if_pos c2]
              rw [← c2] at h2
              omega
            · rw [if_neg (by omega)] at e
              rw [if_neg c1, if_neg c2]
              omega
theorem dc_PW : ∀ (m : Nat) (w t r : Nat → Nat) (f l : Nat), PW w t r → sn (fun k => t k + r k) 34 = m → (∀ j, j < f → w j = 0) → f ≤ 34 → (∀ k, l = k + 1 → t k = 0) → dc m w f l := by
  intro m
  induction m with
  | zero =>
    intro w t r f l h hs hz hf hl k hk
    have z : ∀ j, j < 34 → t j = 0 ∧ r j = 0 := fun j hj => by
      have : t j + r j ≤ _ := sn_le (f := fun k => t k + r k) hj
      omega
    have e := h.2 k hk
    have e1 : sh1 r k = 0 := by
      cases k with
      | zero => rfl
      | succ k => exact (z k (by omega)).2
    have e2 : sh2 r k = 0 := by
      cases k with
      | zero => rfl
      | succ k =>
        cases k with
        | zero => rfl
        | succ k => exact (z k (by omega)).2
    have := z k hk
    omega
  | succ m ih =>
    intro w t r f l h hs hz hf hl
    obtain ⟨c, hc, hp⟩ := sn_pos (f := fun k => t k + r k) (n := 34) (by omega)
    have hp : 0 < t c + r c := hp
    have hwc : w c ≠ 0 := by have := h.2 c hc; omega
    have hcf : f ≤ c := by
      rcases Nat.lt_or_ge c f with q | q
      · exact absurd (hz c q) hwc
      · exact q
    have sp := fk_spec w (34 - f) f
    show fk w (34 - f) f < 34 ∧ _
    generalize fk w (34 - f) f = k at sp ⊢
    obtain ⟨s1, s2, s3, s4⟩ := sp
    have hkc : k ≤ c := by
      rcases Nat.lt_or_ge c k with q | q
      · exact absurd (s3 c hcf q) hwc
      · exact q
    have hk : k < 34 := by omega
    have hwk : w k ≠ 0 := s4 (by omega)
    have below : ∀ j, j < k → t j = 0 ∧ r j = 0 := fun j hj => by
      have w0 : w j = 0 := by
        rcases Nat.lt_or_ge j f with q | q
        · exact hz j q
        · exact s3 j q hj
      have := h.2 j (by omega)
      omega
    have e1 : sh1 r k = 0 := by
      cases k with
      | zero => rfl
      | succ k => exact (below k (by omega)).2
    have e2 : sh2 r k = 0 := by
      cases k with
      | zero => rfl
      | succ k =>
        cases k with
        | zero => rfl
        | succ k => exact (below k (by omega)).2
    have ek := h.2 k hk
    refine ⟨hk, ?_⟩
    by_cases ht : t k = 0
    · right
      have hr : r k ≠ 0 := by omega
      have hrs := h.1 k hr
      have k27 := hrs.1
      have w1 := h.2 (k + 1) (by omega)
      have w2 := h.2 (k + 2) (by omega)
      have w1 : w (k + 1) = 3 * t (k + 1) + r (k + 1) + r k + sh1 r k := w1
      have w2 : w (k + 2) = 3 * t (k + 2) + r (k + 2) + r (k + 1) + r k := w2
      refine ⟨hrs, by omega, by omega, ih (subr w k) t (fun j => if j = k then r j - 1 else r j) k (k + 1) ⟨fun j hj => ?_, fun j hj => ?_⟩ ?_ (fun j hj => ?_) (by omega) (fun k' e => by rw [show k' = k by omega]; exact ht)⟩
      · by_cases c : j = k
        · rw [c]; exact hrs
        · exact h.1 j (by have hj : (if j = k then r j - 1 else r j) ≠ 0 := hj; rw [if_neg c] at hj; exact hj)
      · have e := h.2 j hj
        have f1 : sh1 (fun j => if j = k then r j - 1 else r j) j + (if j = k + 1 then 1 else 0) = sh1 r j := by
          cases j with
          | zero => show 0 + _ = 0; rw [if_neg (by omega)]
          | succ j =>
            show (if j = k then r j - 1 else r j) + _ = r j
            by_cases c : j = k
            · rw [if_pos c, if_pos (by omega), c]; omega
            · rw [if_neg c, if_neg (by omega)]; rfl
        have f2 : sh2 (fun j => if j = k then r j - 1 else r j) j + (if j = k + 2 then 1 else 0) = sh2 r j := by
          cases j with
          | zero => show 0 + _ = 0; rw [if_neg (by omega)]
          | succ j =>
            cases j with
            | zero => show 0 + _ = 0; rw [if_neg (by omega)]
            | succ j =>
              show (if j = k then r j - 1 else r j) + _ = r j
              by_cases c : j = k
              · rw [if_pos c, if_pos (by omega), c]; omega
              · rw [if_neg c, if_neg (by omega)]; rfl
        unfold subr
        dsimp only
        by_cases c0 : j = k
        · subst c0
          rw [if_neg (by omega)] at f1 f2
          rw [if_pos (Or.inl rfl), if_pos rfl]
          omega
        · rw [if_neg c0]
          by_cases c1 : j = k + 1
          · rw [if_pos c1] at f1
            rw [if_neg (by omega)] at f2
            rw [if_pos (Or.inr (Or.inl c1))]
            omega
          · by_cases c2 : j = k + 2
            · rw [if_neg c1] at f1
              rw [if_pos c2] at f2
              rw [if_pos (Or.inr (Or.inr c2))]
              omega
            · rw [if_neg c1] at f1
              rw [if_neg c2] at f2
              rw [if_neg (by omega)]
              omega
      · have := sn_upd (f := fun k => t k + r k) (g := fun j => t j + (if j = k then r j - 1 else r j)) (c := k) (n := 34) (d := 1) hk (fun j _ hj => by rw [if_neg hj]) (by rw [if_pos rfl]; omega)
        omega
      · unfold subr
        rw [if_neg (by omega)]
        have := below j hj
        rcases Nat.lt_or_ge j f with q | q
        · exact hz j q
        · exact s3 j q hj
    · left
      refine ⟨by omega, fun e => ht (hl k e), ih (sub3 w k) (fun j => if j = k then t j - 1 else t j) r k 0 ⟨h.1, fun j hj => ?_⟩ ?_ (fun j hj => ?_) (by omega) (fun k' e => absurd e (by omega))⟩
      · have e := h.2 j hj
        unfold sub3
        dsimp only
        by_cases c : j = k
        · subst c; rw [if_pos rfl, if_pos rfl]; omega
        · rw [if_neg c, if_neg c]; exact e
      · have := sn_upd (f := fun k => t k + r k) (g := fun j => (if j = k then t j - 1 else t j) + r j) (c := k) (n := 34) (d := 1) hk (fun j _ hj => by rw [if_neg hj]) (by rw [if_pos rfl]; omega)
        omega
      · unfold sub3
        rw [if_neg (by omega)]
        rcases Nat.lt_or_ge j f with q | q
        · exact hz j q
        · exact s3 j q hj
/-- both find the same -/
theorem dc_gr {w : Nat → Nat} {m : Nat} (hs : sn w 34 = 3 * m) : dc m w 0 0 ↔ gr w 34 0 0 0 = true := by
  rw [gr_iff]
  constructor
  · exact PW_dc m w 0 0
  · rintro ⟨t, r, h⟩
    exact dc_PW m w t r 0 0 h (by have := h.sum; omega) (fun j hj => by omega) (by decide) (fun k e => absurd e (by omega))
