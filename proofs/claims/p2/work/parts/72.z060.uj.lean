/-! the games cells that are alike at all times -/
set_option maxRecDepth 8000
def gX2 (r k : Nat) : Prop := (r = 0 ∧ (k = 6 ∨ (9 ≤ k ∧ k ≤ 14))) ∨ (r = 2 ∧ (k = 1 ∨ k = 2)) ∨ r = 3 ∨ (18 ≤ r ∧ r < 50 ∧ (r % 8 ≠ 2 ∨ k ≠ 6))
def gM2 (r k : Nat) : Prop := (59 ≤ r ∧ r ≤ 73 ∧ r ≠ 68) ∨ (r = 50 ∧ ((40 ≤ k ∧ k ≤ 43) ∨ k = 46 ∨ (52 ≤ k ∧ k ≤ 55)))
def EqX2 (x x' : zM) : Prop := ∀ r k, gX2 r k → x'.1 r k = x.1 r k ∧ x'.2.1 r k = x.2.1 r k
def EqM2 (m m' : zM) : Prop := ∀ r k, gM2 r k → m'.1 r k = m.1 r k ∧ m'.2.1 r k = m.2.1 r k
theorem RCl.cg2 {x : zM} {x' : zM} {m : zM} {m' : zM} (hx : EqX2 x x') (hm : EqM2 m m') (h : RCl x m) : RCl x' m' := by
  have X : ∀ r k, gX2 r k → x'.1 r k = x.1 r k := fun r k q => (hx r k q).1
  have Y : ∀ r k, gX2 r k → x'.2.1 r k = x.2.1 r k := fun r k q => (hx r k q).2
  have M : ∀ r k, gM2 r k → m'.1 r k = m.1 r k := fun r k q => (hm r k q).1
  have N : ∀ r k, gM2 r k → m'.2.1 r k = m.2.1 r k := fun r k q => (hm r k q).2
  unfold gX2 at X Y
  unfold gM2 at M N
  have e66 : ∀ s, m'.1 66 s = m.1 66 s := fun s => M 66 s (by omega)
  have eT : ∀ s, tkM m' s = tkM m s := fun s => by
    funext b
    unfold tkM
    rw [e66 s, show (fun i => decide (m'.1 65 (136 * s + i) = nI b)) = (fun i => decide (m.1 65 (136 * s + i) = nI b)) from funext fun i => by rw [M 65 _ (by omega)]]
  exact ⟨(by rw [X _ _ (by omega), M _ _ (by omega)]; exact h.dl), (by rw [X _ _ (by omega), M _ _ (by omega)]; exact h.rn), (by rw [X _ _ (by omega), M _ _ (by omega)]; exact h.st), (by rw [X _ _ (by omega), M _ _ (by omega)]; exact h.bt), (by rw [X _ _ (by omega), M _ _ (by omega)]; exact h.en), (by rw [X _ _ (by omega), M _ _ (by omega)]; exact h.he), (by rw [X _ _ (by omega), M _ _ (by omega)]; exact h.wc), (by rw [X _ _ (by omega), M _ _ (by omega)]; exact h.sd), (by rw [X _ _ (by omega), M _ _ (by omega)]; exact h.nx), fun i h0 => by rw [X _ _ (by omega), M _ _ (by omega)]; exact h.wl i h0, fun s h0 => by rw [X _ _ (by omega), M _ _ (by omega)]; exact h.pt s h0, fun s h0 => by rw [X _ _ (by omega), M _ _ (by omega)]; exact h.be s h0, fun s h0 => by rw [X _ _ (by omega), M _ _ (by omega)]; exact h.ao s h0, fun s h0 => by rw [X _ _ (by omega), M _ _ (by omega)]; exact h.lg s h0, fun s h0 => by rw [X _ _ (by omega), M _ _ (by omega)]; exact h.sy s h0, fun s h0 => by rw [X _ _ (by omega), M _ _ (by omega)]; exact h.ds s h0, fun s h0 => by rw [X _ _ (by omega), M _ _ (by omega)]; exact h.lm s h0, fun s k h0 h1 => by rw [X _ _ (by omega), M _ _ (by omega)]; exact h.hd s k h0 h1, fun s i h0 h1 => by rw [X _ _ (by omega), M _ _ (by omega)]; exact h.so s i h0 h1, fun s i h0 h1 => by rw [X _ _ (by omega), M _ _ (by omega)]; exact h.lo s i h0 h1, fun s i h0 h1 => by rw [X _ _ (by omega), M _ _ (by omega)]; exact h.rv s i h0 h1, fun i f h0 h1 h2 => by rw [X _ _ (by omega), M _ _ (by omega)]; exact h.wi i f h0 h1 h2, fun i hi => by rw [Y _ _ (by omega), N 73 i (by omega)]; exact h.wf i hi, fun s k hs hk => by rw [X _ _ (by omega), M 60 _ (by omega), M 64 s (by omega), show (fun i => m'.1 62 (4 * s + i)) = (fun i => m.1 62 (4 * s + i)) from funext fun i => M 62 _ (by omega), show (fun i => m'.1 63 (4 * s + i)) = (fun i => m.1 63 (4 * s + i)) from funext fun i => M 63 _ (by omega)]; exact h.al s k hs hk, fun s hs => by rw [X _ _ (by omega), show (fun k => m'.1 60 (34 * s + k)) = (fun k => m.1 60 (34 * s + k)) from funext fun i => M 60 _ (by omega)]; exact h.lz s hs, fun s i hs hi => by rw [M 62 _ (by omega), M 63 _ (by omega)]; exact h.sv s i hs (by rw [M 64 s (by omega)] at hi; exact hi), fun s hs => by rw [Y _ _ (by omega), eT s]; exact h.tk s hs, fun s hs => by rw [e66 s]; exact h.rb s hs, fun s i hs hi => by rw [e66 s] at hi; rw [M 65 (136 * s + i) (by omega)]; exact h.rk s i hs hi, (by rw [M 50 41 (by omega)]; exact h.rd), fun s hs => by rw [M 67 s (by omega)]; exact h.bb s hs, fun q => by rw [M 50 55 (by omega)] at q; exact (h.wp q).elim fun sd z => ⟨sd, fun i hi => by rw [M 59 i (by omega)]; exact z i hi⟩⟩
theorem q2_x (μ : zM) : EqX2 μ μ := fun _ _ _ => ⟨rfl, rfl⟩
theorem q2_m (μ : zM) : EqM2 μ μ := fun _ _ _ => ⟨rfl, rfl⟩
theorem q2_xu {a b : zM} (h : EqX2 a b) {r k : Nat} {v : Int32} (hn : ¬ gX2 r k) : EqX2 a (z_ui b r k v) := fun r' k' q => ⟨by
  refine Eq.trans ?_ (h r' k' q).1
  by_cases e : r' = r
  · exact ui_k (fun e2 => hn (by rw [← e, ← e2]; exact q))
  · exact ui_o e, (h r' k' q).2⟩
theorem q2_xj {a b : zM} (h : EqX2 a b) {r k : Nat} {v : Int64} (hn : ¬ gX2 r k) : EqX2 a (z_uj b r k v) := fun r' k' q => ⟨(h r' k' q).1, by
  refine Eq.trans ?_ (h r' k' q).2
  by_cases e : r' = r
  · exact uj_k (fun e2 => hn (by rw [← e, ← e2]; exact q))
  · exact uj_o e⟩
theorem q2_mu {a b : zM} (h : EqM2 a b) {r k : Nat} {v : Int32} (hn : ¬ gM2 r k) : EqM2 a (z_ui b r k v) := fun r' k' q => ⟨by
  refine Eq.trans ?_ (h r' k' q).1
  by_cases e : r' = r
  · exact ui_k (fun e2 => hn (by rw [← e, ← e2]; exact q))
  · exact ui_o e, (h r' k' q).2⟩
theorem z_ui_cm {μ : zM} {r k r' k' : Nat} {v w : Int32} (h : r ≠ r') : z_ui (z_ui μ r k v) r' k' w = z_ui (z_ui μ r' k' w) r k v := by
  refine Prod.ext ?_ rfl
  funext a b
  by_cases e1 : a = r
  · rw [ui_o (show a ≠ r' by omega), e1]
    by_cases e2 : b = k
    · rw [e2, ui_s, ui_s]
    · rw [ui_k e2, ui_k e2, ui_o h]
  · rw [ui_o (r := r) e1]
    by_cases e3 : a = r'
    · rw [e3]
      by_cases e2 : b = k'
      · rw [e2, ui_s, ui_s]
      · rw [ui_k e2, ui_k e2, ui_o (by omega)]
    · rw [ui_o e3, ui_o e3, ui_o e1]
theorem toM_ui {μ : zM} {r k : Nat} {v : Int32} (h1 : r ≠ 50) (h2 : r ≠ 69) : toM (z_ui μ r k v) = z_ui (toM μ) r k v := by
  unfold toM
  rw [z_ui_cm h1, z_ui_cm h2, z_ui_cm h2, z_ui_cm h2, z_ui_cm h2]
theorem toM_lys {μ : zM} {a q : Nat} {so kk : Int32} : toM (z_lys μ a q so kk) = z_lys (toM μ) a q so kk := by
  unfold z_lys
  rw [toM_ui (by decide) (by decide), toM_ui (by decide) (by decide), toM_ui (by decide) (by decide)]
theorem toM_giv {μ : zM} {a c : Nat} {n : Int32} : toM (z_giv μ a c n) = z_giv (toM μ) a c n := by
  unfold z_giv
  rw [toM_ui (by decide) (by decide), toM_o ⟨by decide, Or.inl (by decide)⟩]
theorem z_ui_ck {μ : zM} {r k k' : Nat} {v w : Int32} (h : k ≠ k') : z_ui (z_ui μ r k v) r k' w = z_ui (z_ui μ r k' w) r k v := by
  refine Prod.ext ?_ rfl
  funext a b
  by_cases e1 : a = r
  · rw [e1]
    by_cases e2 : b = k
    · rw [e2, ui_k h, ui_s, ui_s]
    · rw [ui_k (k := k) e2]
      by_cases e3 : b = k'
      · rw [e3, ui_s, ui_s]
      · rw [ui_k e3, ui_k e3, ui_k e2]
  · rw [ui_o e1, ui_o e1, ui_o e1, ui_o e1]
theorem toM_47 {μ : zM} {v : Int32} : toM (z_ui μ 50 47 v) = z_ui (toM μ) 50 47 v := by
  unfold toM
  rw [z_ui_ck (k := 47) (by decide), z_ui_cm (r := 50) (k := 47) (by decide), z_ui_cm (r := 50) (k := 47) (by decide), z_ui_cm (r := 50) (k := 47) (by decide), z_ui_cm (r := 50) (k := 47) (by decide)]
