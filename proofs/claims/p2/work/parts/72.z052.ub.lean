/-! the two games side by side: by their cells alone -/
set_option maxRecDepth 8000
theorem RCl.cg {x : zM} {x' : zM} {m : zM} {m' : zM} (hx : EqX x x') (hm : EqM m m') (h : RCl x m) : RCl x' m' := by
  have X : ∀ r k, gXc r k → x'.1 r k = x.1 r k := fun r k q => (hx r k q).1
  have Y : ∀ r k, gXc r k → x'.2.1 r k = x.2.1 r k := fun r k q => (hx r k q).2
  have M : ∀ r k, gMc r k → m'.1 r k = m.1 r k := fun r k q => (hm r k q).1
  have N : ∀ r k, gMc r k → m'.2.1 r k = m.2.1 r k := fun r k q => (hm r k q).2
  unfold gXc at X Y
  unfold gMc at M N
  have e66 : ∀ s, m'.1 66 s = m.1 66 s := fun s => M 66 s (by omega)
  have eT : ∀ s, tkM m' s = tkM m s := fun s => by
    funext b
    unfold tkM
    rw [e66 s, show (fun i => decide (m'.1 65 (136 * s + i) = nI b)) = (fun i => decide (m.1 65 (136 * s + i) = nI b)) from funext fun i => by rw [M 65 _ (by omega)]]
  exact ⟨(by rw [X _ _ (by omega), M _ _ (by omega)]; exact h.dl), (by rw [X _ _ (by omega), M _ _ (by omega)]; exact h.rn), (by rw [X _ _ (by omega), M _ _ (by omega)]; exact h.st), (by rw [X _ _ (by omega), M _ _ (by omega)]; exact h.bt), (by rw [X _ _ (by omega), M _ _ (by omega)]; exact h.en), (by rw [X _ _ (by omega), M _ _ (by omega)]; exact h.he), (by rw [X _ _ (by omega), M _ _ (by omega)]; exact h.wc), (by rw [X _ _ (by omega), M _ _ (by omega)]; exact h.sd), (by rw [X _ _ (by omega), M _ _ (by omega)]; exact h.nx), fun i h0 => by rw [X _ _ (by omega), M _ _ (by omega)]; exact h.wl i h0, fun s h0 => by rw [X _ _ (by omega), M _ _ (by omega)]; exact h.pt s h0, fun s h0 => by rw [X _ _ (by omega), M _ _ (by omega)]; exact h.be s h0, fun s h0 => by rw [X _ _ (by omega), M _ _ (by omega)]; exact h.ao s h0, fun s h0 => by rw [X _ _ (by omega), M _ _ (by omega)]; exact h.lg s h0, fun s h0 => by rw [X _ _ (by omega), M _ _ (by omega)]; exact h.sy s h0, fun s h0 => by rw [X _ _ (by omega), M _ _ (by omega)]; exact h.ds s h0, fun s h0 => by rw [X _ _ (by omega), M _ _ (by omega)]; exact h.lm s h0, fun s k h0 h1 => by rw [X _ _ (by omega), M _ _ (by omega)]; exact h.hd s k h0 h1, fun s i h0 h1 => by rw [X _ _ (by omega), M _ _ (by omega)]; exact h.so s i h0 h1, fun s i h0 h1 => by rw [X _ _ (by omega), M _ _ (by omega)]; exact h.lo s i h0 h1, fun s i h0 h1 => by rw [X _ _ (by omega), M _ _ (by omega)]; exact h.rv s i h0 h1, fun i f h0 h1 h2 => by rw [X _ _ (by omega), M _ _ (by omega)]; exact h.wi i f h0 h1 h2, fun i hi => by rw [Y _ _ (by omega), N 73 i (by omega)]; exact h.wf i hi, fun s k hs hk => by rw [X _ _ (by omega), M 60 _ (by omega), M 64 s (by omega), show (fun i => m'.1 62 (4 * s + i)) = (fun i => m.1 62 (4 * s + i)) from funext fun i => M 62 _ (by omega), show (fun i => m'.1 63 (4 * s + i)) = (fun i => m.1 63 (4 * s + i)) from funext fun i => M 63 _ (by omega)]; exact h.al s k hs hk, fun s hs => by rw [X _ _ (by omega), show (fun k => m'.1 60 (34 * s + k)) = (fun k => m.1 60 (34 * s + k)) from funext fun i => M 60 _ (by omega)]; exact h.lz s hs, fun s i hs hi => by rw [M 62 _ (by omega), M 63 _ (by omega)]; exact h.sv s i hs (by rw [M 64 s (by omega)] at hi; exact hi), fun s hs => by rw [Y _ _ (by omega), eT s]; exact h.tk s hs, fun s hs => by rw [e66 s]; exact h.rb s hs, fun s i hs hi => by rw [e66 s] at hi; rw [M 65 (136 * s + i) (by omega)]; exact h.rk s i hs hi, (by rw [M 50 41 (by omega)]; exact h.rd), fun s hs => by rw [M 67 s (by omega)]; exact h.bb s hs, fun q => by rw [M 50 55 (by omega)] at q; exact (h.wp q).elim fun sd z => ⟨sd, fun i hi => by rw [M 59 i (by omega)]; exact z i hi⟩⟩
theorem RPh.cg {x : zM} {x' : zM} {m : zM} {m' : zM} (hx : EqX x x') (hm : EqM m m') {p t c : Nat} (h : RPh x m p t c) : RPh x' m' p t c := by
  have X : ∀ r k, gXc r k → x'.1 r k = x.1 r k := fun r k q => (hx r k q).1
  have Y : ∀ r k, gXc r k → x'.2.1 r k = x.2.1 r k := fun r k q => (hx r k q).2
  have M : ∀ r k, gMc r k → m'.1 r k = m.1 r k := fun r k q => (hm r k q).1
  unfold gXc at X Y
  unfold gMc at M
  have m44 := M 50 44 (by omega)
  have m45 := M 50 45 (by omega)
  have m46 := M 50 46 (by omega)
  have m47 := M 50 47 (by omega)
  have m48 := M 50 48 (by omega)
  have m49 := M 50 49 (by omega)
  have m50 := M 50 50 (by omega)
  have m51 := M 50 51 (by omega)
  have m40 := M 50 40 (by omega)
  have m53 := M 50 53 (by omega)
  have m55 := M 50 55 (by omega)
  have m56 := M 50 56 (by omega)
  have m57 := M 50 57 (by omega)
  have m58 := M 50 58 (by omega)
  have m59 := M 50 59 (by omega)
  have m64 : ∀ s, m'.1 64 s = m.1 64 s := fun s => M 64 s (by omega)
  have m66 : ∀ s, m'.1 66 s = m.1 66 s := fun s => M 66 s (by omega)
  have m68 : ∀ s, m'.1 68 s = m.1 68 s := fun s => M 68 s (by omega)
  have m71 : ∀ s, m'.1 71 s = m.1 71 s := fun s => M 71 s (by omega)
  have mW : fW m' = fW m := funext fun i => M 59 i (by omega)
  have mb : barM m' = barM m := by unfold barM; rw [m57, m50, m51]
  exact ⟨(by rw [X 2 3 (by omega), m47]; exact h.fo), (by rw [X 0 7 (by omega)]; exact h.px), (by rw [m44]; exact h.pm), (by rw [X 0 8 (by omega)]; exact h.tx), (by rw [m45]; exact h.tm), h.t4, h.p3, (by rw [X 0 15 (by omega)]; exact h.cx), (by rw [m49]; exact h.cm), h.c3, (by rw [m57]; exact h.jc), (by rw [X 0 17 (by omega), m56]; exact h.br), (by simp only [m56, m64]; exact h.us), (by rw [X 0 16 (by omega), m58]; exact h.bf), (by rw [Y 0 18 (by omega), mb]; exact h.ba), fun a b => ⟨by unfold BN; rw [m50, m51]; exact (h.bn a b).1, by rw [m56]; exact (h.bn a b).2⟩, (by rw [M 60 (34 * t + c) (by omega)]; exact h.dt), (by rw [X (21 + 8 * t) c (by have := h.t4; omega)]; exact h.a3), fun s hs => by rw [X _ 6 (by omega), m59]; exact h.ow s hs, (by rw [m59]; exact h.o1), (by rw [m55]; exact h.is), (by rw [m71]; exact h.s0), (by simp only [m71]; exact h.s1), (by rw [m53]; exact h.w0), (by simp only [m68, m46, m48, m40]; exact h.dn), (by simp only [m56, m68, m66]; exact h.dr), (by rw [m56, m40, m68]; exact h.d2), h.tc.elim fun a z => ⟨a, fun s k hs hk => by rw [X _ _ (by omega)]; exact z.1 s k hs hk, by rw [mW, m46, m48]; exact z.2⟩⟩
theorem RG.cg {x : zM} {x' : zM} {m : zM} {m' : zM} (hx : EqX x x') (hm : EqM m m') (h : RG x m) : RG x' m' := by
  refine ⟨h.1.cg hx hm, h.2.elim (fun z => Or.inl ?_) (fun ⟨p, t, c, z⟩ => Or.inr ⟨p, t, c, z.cg hx hm⟩)⟩
  rw [(hx 0 7 (Or.inl ⟨rfl, by decide⟩)).1, (hx 2 3 (Or.inr (Or.inl rfl))).1, (hm 50 44 (Or.inr ⟨rfl, by decide, by decide⟩)).1, (hm 50 49 (Or.inr ⟨rfl, by decide, by decide⟩)).1, (hm 50 47 (Or.inr ⟨rfl, by decide, by decide⟩)).1, (hx 0 8 (Or.inl ⟨rfl, by decide⟩)).1, (hm 50 45 (Or.inr ⟨rfl, by decide, by decide⟩)).1]
  exact z
