/-! nine answers alike -/
set_option maxRecDepth 8000
def bcF (x : Int64) : Int32 := (((((((((x - (((x.toUInt64 >>> ((1 : Int32).toInt64.toUInt64 &&& Int64.toUInt64 63)).toInt64) &&& 6148914691236517205)) &&& 3689348814741910323) + ((((x - (((x.toUInt64 >>> ((1 : Int32).toInt64.toUInt64 &&& Int64.toUInt64 63)).toInt64) &&& 6148914691236517205)).toUInt64 >>> ((2 : Int32).toInt64.toUInt64 &&& Int64.toUInt64 63)).toInt64) &&& 3689348814741910323)) + (((((x - (((x.toUInt64 >>> ((1 : Int32).toInt64.toUInt64 &&& Int64.toUInt64 63)).toInt64) &&& 6148914691236517205)) &&& 3689348814741910323) + ((((x - (((x.toUInt64 >>> ((1 : Int32).toInt64.toUInt64 &&& Int64.toUInt64 63)).toInt64) &&& 6148914691236517205)).toUInt64 >>> ((2 : Int32).toInt64.toUInt64 &&& Int64.toUInt64 63)).toInt64) &&& 3689348814741910323)).toUInt64 >>> ((4 : Int32).toInt64.toUInt64 &&& Int64.toUInt64 63)).toInt64)) &&& 1085102592571150095) + (((((((x - (((x.toUInt64 >>> ((1 : Int32).toInt64.toUInt64 &&& Int64.toUInt64 63)).toInt64) &&& 6148914691236517205)) &&& 3689348814741910323) + ((((x - (((x.toUInt64 >>> ((1 : Int32).toInt64.toUInt64 &&& Int64.toUInt64 63)).toInt64) &&& 6148914691236517205)).toUInt64 >>> ((2 : Int32).toInt64.toUInt64 &&& Int64.toUInt64 63)).toInt64) &&& 3689348814741910323)) + (((((x - (((x.toUInt64 >>> ((1 : Int32).toInt64.toUInt64 &&& Int64.toUInt64 63)).toInt64) &&& 6148914691236517205)) &&& 3689348814741910323) + ((((x - (((x.toUInt64 >>> ((1 : Int32).toInt64.toUInt64 &&& Int64.toUInt64 63)).toInt64) &&& 6148914691236517205)).toUInt64 >>> ((2 : Int32).toInt64.toUInt64 &&& Int64.toUInt64 63)).toInt64) &&& 3689348814741910323)).toUInt64 >>> ((4 : Int32).toInt64.toUInt64 &&& Int64.toUInt64 63)).toInt64)) &&& 1085102592571150095).toUInt64 >>> ((8 : Int32).toInt64.toUInt64 &&& Int64.toUInt64 63)).toInt64)) + ((((((((x - (((x.toUInt64 >>> ((1 : Int32).toInt64.toUInt64 &&& Int64.toUInt64 63)).toInt64) &&& 6148914691236517205)) &&& 3689348814741910323) + ((((x - (((x.toUInt64 >>> ((1 : Int32).toInt64.toUInt64 &&& Int64.toUInt64 63)).toInt64) &&& 6148914691236517205)).toUInt64 >>> ((2 : Int32).toInt64.toUInt64 &&& Int64.toUInt64 63)).toInt64) &&& 3689348814741910323)) + (((((x - (((x.toUInt64 >>> ((1 : Int32).toInt64.toUInt64 &&& Int64.toUInt64 63)).toInt64) &&& 6148914691236517205)) &&& 3689348814741910323) + ((((x - (((x.toUInt64 >>> ((1 : Int32).toInt64.toUInt64 &&& Int64.toUInt64 63)).toInt64) &&& 6148914691236517205)).toUInt64 >>> ((2 : Int32).toInt64.toUInt64 &&& Int64.toUInt64 63)).toInt64) &&& 3689348814741910323)).toUInt64 >>> ((4 : Int32).toInt64.toUInt64 &&& Int64.toUInt64 63)).toInt64)) &&& 1085102592571150095) + (((((((x - (((x.toUInt64 >>> ((1 : Int32).toInt64.toUInt64 &&& Int64.toUInt64 63)).toInt64) &&& 6148914691236517205)) &&& 3689348814741910323) + ((((x - (((x.toUInt64 >>> ((1 : Int32).toInt64.toUInt64 &&& Int64.toUInt64 63)).toInt64) &&& 6148914691236517205)).toUInt64 >>> ((2 : Int32).toInt64.toUInt64 &&& Int64.toUInt64 63)).toInt64) &&& 3689348814741910323)) + (((((x - (((x.toUInt64 >>> ((1 : Int32).toInt64.toUInt64 &&& Int64.toUInt64 63)).toInt64) &&& 6148914691236517205)) &&& 3689348814741910323) + ((((x - (((x.toUInt64 >>> ((1 : Int32).toInt64.toUInt64 &&& Int64.toUInt64 63)).toInt64) &&& 6148914691236517205)).toUInt64 >>> ((2 : Int32).toInt64.toUInt64 &&& Int64.toUInt64 63)).toInt64) &&& 3689348814741910323)).toUInt64 >>> ((4 : Int32).toInt64.toUInt64 &&& Int64.toUInt64 63)).toInt64)) &&& 1085102592571150095).toUInt64 >>> ((8 : Int32).toInt64.toUInt64 &&& Int64.toUInt64 63)).toInt64)).toUInt64 >>> ((16 : Int32).toInt64.toUInt64 &&& Int64.toUInt64 63)).toInt64)) + (((((((((x - (((x.toUInt64 >>> ((1 : Int32).toInt64.toUInt64 &&& Int64.toUInt64 63)).toInt64) &&& 6148914691236517205)) &&& 3689348814741910323) + ((((x - (((x.toUInt64 >>> ((1 : Int32).toInt64.toUInt64 &&& Int64.toUInt64 63)).toInt64) &&& 6148914691236517205)).toUInt64 >>> ((2 : Int32).toInt64.toUInt64 &&& Int64.toUInt64 63)).toInt64) &&& 3689348814741910323)) + (((((x - (((x.toUInt64 >>> ((1 : Int32).toInt64.toUInt64 &&& Int64.toUInt64 63)).toInt64) &&& 6148914691236517205)) &&& 3689348814741910323) + ((((x - (((x.toUInt64 >>> ((1 : Int32).toInt64.toUInt64 &&& Int64.toUInt64 63)).toInt64) &&& 6148914691236517205)).toUInt64 >>> ((2 : Int32).toInt64.toUInt64 &&& Int64.toUInt64 63)).toInt64) &&& 3689348814741910323)).toUInt64 >>> ((4 : Int32).toInt64.toUInt64 &&& Int64.toUInt64 63)).toInt64)) &&& 1085102592571150095) + (((((((x - (((x.toUInt64 >>> ((1 : Int32).toInt64.toUInt64 &&& Int64.toUInt64 63)).toInt64) &&& 6148914691236517205)) &&& 3689348814741910323) + ((((x - (((x.toUInt64 >>> ((1 : Int32).toInt64.toUInt64 &&& Int64.toUInt64 63)).toInt64) &&& 6148914691236517205)).toUInt64 >>> ((2 : Int32).toInt64.toUInt64 &&& Int64.toUInt64 63)).toInt64) &&& 3689348814741910323)) + (((((x - (((x.toUInt64 >>> ((1 : Int32).toInt64.toUInt64 &&& Int64.toUInt64 63)).toInt64) &&& 6148914691236517205)) &&& 3689348814741910323) + ((((x - (((x.toUInt64 >>> ((1 : Int32).toInt64.toUInt64 &&& Int64.toUInt64 63)).toInt64) &&& 6148914691236517205)).toUInt64 >>> ((2 : Int32).toInt64.toUInt64 &&& Int64.toUInt64 63)).toInt64) &&& 3689348814741910323)).toUInt64 >>> ((4 : Int32).toInt64.toUInt64 &&& Int64.toUInt64 63)).toInt64)) &&& 1085102592571150095).toUInt64 >>> ((8 : Int32).toInt64.toUInt64 &&& Int64.toUInt64 63)).toInt64)) + ((((((((x - (((x.toUInt64 >>> ((1 : Int32).toInt64.toUInt64 &&& Int64.toUInt64 63)).toInt64) &&& 6148914691236517205)) &&& 3689348814741910323) + ((((x - (((x.toUInt64 >>> ((1 : Int32).toInt64.toUInt64 &&& Int64.toUInt64 63)).toInt64) &&& 6148914691236517205)).toUInt64 >>> ((2 : Int32).toInt64.toUInt64 &&& Int64.toUInt64 63)).toInt64) &&& 3689348814741910323)) + (((((x - (((x.toUInt64 >>> ((1 : Int32).toInt64.toUInt64 &&& Int64.toUInt64 63)).toInt64) &&& 6148914691236517205)) &&& 3689348814741910323) + ((((x - (((x.toUInt64 >>> ((1 : Int32).toInt64.toUInt64 &&& Int64.toUInt64 63)).toInt64) &&& 6148914691236517205)).toUInt64 >>> ((2 : Int32).toInt64.toUInt64 &&& Int64.toUInt64 63)).toInt64) &&& 3689348814741910323)).toUInt64 >>> ((4 : Int32).toInt64.toUInt64 &&& Int64.toUInt64 63)).toInt64)) &&& 1085102592571150095) + (((((((x - (((x.toUInt64 >>> ((1 : Int32).toInt64.toUInt64 &&& Int64.toUInt64 63)).toInt64) &&& 6148914691236517205)) &&& 3689348814741910323) + ((((x - (((x.toUInt64 >>> ((1 : Int32).toInt64.toUInt64 &&& Int64.toUInt64 63)).toInt64) &&& 6148914691236517205)).toUInt64 >>> ((2 : Int32).toInt64.toUInt64 &&& Int64.toUInt64 63)).toInt64) &&& 3689348814741910323)) + (((((x - (((x.toUInt64 >>> ((1 : Int32).toInt64.toUInt64 &&& Int64.toUInt64 63)).toInt64) &&& 6148914691236517205)) &&& 3689348814741910323) + ((((x - (((x.toUInt64 >>> ((1 : Int32).toInt64.toUInt64 &&& Int64.toUInt64 63)).toInt64) &&& 6148914691236517205)).toUInt64 >>> ((2 : Int32).toInt64.toUInt64 &&& Int64.toUInt64 63)).toInt64) &&& 3689348814741910323)).toUInt64 >>> ((4 : Int32).toInt64.toUInt64 &&& Int64.toUInt64 63)).toInt64)) &&& 1085102592571150095).toUInt64 >>> ((8 : Int32).toInt64.toUInt64 &&& Int64.toUInt64 63)).toInt64)).toUInt64 >>> ((16 : Int32).toInt64.toUInt64 &&& Int64.toUInt64 63)).toInt64)).toUInt64 >>> ((32 : Int32).toInt64.toUInt64 &&& Int64.toUInt64 63)).toInt64)).toInt32) &&& 127
theorem bc_x9 (d : Nat) (hd : 1 ≤ d) (μ : zM) (x : Int64) : z_C d mi_J13_bitCount_95d88 [.long x] μ (zR μ (.int (bcF x))) := fb_bitCount d hd μ x
def b1L (k : Nat) : Int64 := (1 : Int64) <<< ((nI k).toInt64 &&& 63)
def kbl (f : Nat → Bool) : List Nat → Int64 → Int64
  | [], x => x
  | k :: ks, x => kbl f ks (if f k = true then x ||| b1L k else x)
def cnl (f : Nat → Bool) : List Nat → Nat → Nat
  | [], n => n
  | k :: ks, n => cnl f ks (n + (if f k = true then 1 else 0))
def bcG : List Nat → Int64 → Nat → Bool
  | [], x, n => decide (bcF x = nI n)
  | k :: ks, x, n => bcG ks x n && bcG ks (x ||| b1L k) (n + 1)
theorem bcG_ok (f : Nat → Bool) : ∀ ks x n, bcG ks x n = true → bcF (kbl f ks x) = nI (cnl f ks n)
  | [], x, n, h => of_decide_eq_true h
  | k :: ks, x, n, h => by
    obtain ⟨h1, h2⟩ := z_and h
    show bcF (kbl f ks (if f k = true then x ||| b1L k else x)) = nI (cnl f ks (n + (if f k = true then 1 else 0)))
    by_cases e : f k = true
    · rw [if_pos e, if_pos e]; exact bcG_ok f ks _ _ h2
    · rw [if_neg e, if_neg e]; exact bcG_ok f ks _ _ h1
theorem kbl_app (f : Nat → Bool) (k : Nat) : ∀ xs x, kbl f (xs ++ [k]) x = if f k = true then kbl f xs x ||| b1L k else kbl f xs x
  | [], x => rfl
  | j :: xs, x => kbl_app f k xs _
theorem cnl_app (f : Nat → Bool) (k : Nat) : ∀ xs n, cnl f (xs ++ [k]) n = cnl f xs n + (if f k = true then 1 else 0)
  | [], n => rfl
  | j :: xs, n => cnl_app f k xs _
theorem kb_l (f : Nat → Bool) : ∀ n, kb (fun k => eN k && f k) n = kbl f ((List.range n).filter eN) 0
  | 0 => rfl
  | n + 1 => by
    rw [List.range_succ, List.filter_append]
    show (if (eN n && f n) = true then kb (fun k => eN k && f k) n ||| b1L n else kb (fun k => eN k && f k) n) = _
    cases e : eN n with
    | true => rw [show List.filter eN [n] = [n] from by rw [List.filter_cons_of_pos e]; rfl, kbl_app, ← kb_l f n, Bool.true_and]
    | false => rw [show List.filter eN [n] = [] from by rw [List.filter_cons_of_neg (by rw [e]; decide)]; rfl, List.append_nil, ← kb_l f n, Bool.false_and, if_neg (by decide)]
theorem cn_l (f : Nat → Bool) : ∀ n, cn (fun k => eN k && f k) n = cnl f ((List.range n).filter eN) 0
  | 0 => rfl
  | n + 1 => by
    rw [List.range_succ, List.filter_append]
    show cn (fun k => eN k && f k) n + (if (eN n && f n) = true then 1 else 0) = _
    cases e : eN n with
    | true => rw [show List.filter eN [n] = [n] from by rw [List.filter_cons_of_pos e]; rfl, cnl_app, ← cn_l f n, Bool.true_and]
    | false => rw [show List.filter eN [n] = [] from by rw [List.filter_cons_of_neg (by rw [e]; decide)]; rfl, List.append_nil, ← cn_l f n, Bool.false_and, if_neg (by decide), Nat.add_zero]
theorem bcG_34 : bcG ((List.range 34).filter eN) 0 0 = true := by decide +kernel
theorem kb_and9 (f g : Nat → Bool) : kb f 34 &&& kb g 34 = kb (fun k => g k && f k) 34 := by
  apply Int64.toBitVec_inj.mp
  rw [Int64.toBitVec_and]
  apply BitVec.eq_of_getLsbD_eq
  intro i hi
  rw [BitVec.getLsbD_and]
  by_cases h : i < 34
  · rw [kb_bit f 34 (by omega) i h, kb_bit g 34 (by omega) i h, kb_bit _ 34 (by omega) i h, decide_eq_true h, Bool.true_and, Bool.true_and, Bool.true_and, Bool.and_comm]
  · rw [kb_hi f i (by omega) 34 (by omega), kb_hi (fun k => g k && f k) i (by omega) 34 (by omega), Bool.false_and]
theorem bcE9 (f : Nat → Bool) : bcF (kb f 34 &&& 17113154305) = nI (cn (fun k => eN k && f k) 34) := by
  rw [kb_ends, kb_and9, kb_l, cn_l]
  exact bcG_ok f _ _ _ bcG_34
theorem cn_ub9 (b : Nat → Bool) : ∀ n, cn b n ≤ n
  | 0 => Nat.le_refl _
  | n + 1 => by
    show cn b n + (if b n = true then 1 else 0) ≤ n + 1
    have := cn_ub9 b n
    split <;> omega
theorem md_E_m : md_m md_E = true := by decide +kernel
theorem lg_e {d j : Nat} {As : List Value} {μ : zM} (h : LJ μ) (hc : z_C d j As μ (zPE μ)) : z_C d j As μ (fun _ μ' => LJ μ' ∧ EqX μ μ') := z_C_mono (zC_and d (lj_e h hc) hc) (fun _ μ' q => ⟨q.1.1, fz_EqX q.2.2.1.2.2 md_E_m⟩)
theorem ni_eq {μ : zM} {t c : Nat} {w aw : Nat → Nat} {q : Nat} {sL lL : Nat → Nat} (R : RCl μ μ) (P : RPh μ μ 1 t c) (H : HF μ μ t w aw q sL lL) : (bif decide ((μ.1 0 17) = 0) then (bif decide ((μ.1 (18 + 8 * t) 2) ≤ 0) then decide (9 ≤ bcF (kb (fun k => decide (0 < aw k)) 34 &&& 17113154305)) else false) else false) = niC μ t := by
  have hp : decide (μ.1 50 44 = 1) = true := by rw [P.pm]; decide
  unfold niC
  rw [hp, cond_true, P.br]
  by_cases e : μ.1 50 56 = 0
  · rw [decide_eq_true e, show decide (nB true = 0) = false from by decide, cond_false, cond_true]
    cases decide (μ.1 50 57 = 0) <;> rfl
  · have hc : c < 34 := by
      rcases P.c3 with y | ⟨y, _⟩
      · exact y
      · exact absurd (P.bn rfl y).2 e
    have h57 : decide (μ.1 50 57 = 0) = true := decide_eq_true (by rw [P.jc rfl, if_neg (by omega)])
    have hq : q = 0 := by
      have y := P.us e t P.t4
      rw [H.1.2.1] at y
      exact (nI_eq (a := q) (b := 0) (by have := H.1.2.2.1; omega) (by decide)).mp y
    have hcn : cn (fun k => eN k && decide (0 < aw k)) 34 = cn (niF μ t) 34 := cn_congr (fun k hk => by
      unfold niF
      rw [H.2.2.2.2.1 hq k hk, (H.1.1 k hk).1]
      have y : decide (nI (w k) ≤ 0) = decide (w k ≤ 0) := nI_le2 (b := 0) (by have := (H.1.1 k hk).2; omega) (by decide)
      rw [y]
      by_cases z : w k ≤ 0
      · rw [decide_eq_true z, decide_eq_false (by omega)]; rfl
      · rw [decide_eq_false z, decide_eq_true (by omega)]; rfl)
    have h9 : decide (9 ≤ nI (cn (niF μ t) 34)) = decide (9 ≤ cn (niF μ t) 34) := nI_le2 (a := 9) (by decide) (by have := cn_ub9 (niF μ t) 34; omega)
    rw [decide_eq_false e, show decide (nB false = 0) = true from by decide, cond_true, cond_false, h57, cond_true, R.ds t P.t4, bcE9, hcn, h9]
theorem lg_nine {d : Nat} (hd : 705 ≤ d) {μ : zM} (h : LGm μ) : GO d mi_X6_nine mi_X7_nine [.ref 0] [.ref 50] μ := by
  obtain ⟨hJ, hR⟩ := h
  have kx : z_C d mi_X6_nine [.ref 0] μ (fun _ μ' => LJ μ' ∧ EqM μ μ') := lg_k (i := 68) (K := ak_68) rfl (by omega) (by decide) (by decide) rfl (by decide) [.ref 0] μ hJ ⟨⟨0, by decide, rfl⟩, trivial⟩
  have km : ∀ μ1, LJ μ1 → z_C d mi_X7_nine [.ref 50] μ1 (fun _ μ' => LJ μ' ∧ EqX μ1 μ') := fun μ1 h1 => lg_e h1 (fc_X7_nine d (by omega) μ1 h1.1.1 h1.1.2.1)
  have hA := hJ.1.1
  obtain ⟨dl, hdl4, hdl⟩ := dealer_nI hA
  obtain ⟨e, he⟩ : ∃ e, (dl + 1) % 4 = e := ⟨_, rfl⟩
  have mn : ∀ μ1, EqM μ μ1 → ∀ t, t < 4 → μ.1 50 45 = nI t → z_C d mi_X7_nine [.ref 50] μ1 (fun r μ' => (niC μ1 t = true ∧ r = some (.int 1) ∧ μ' = eMB (z_ui μ1 50 0 0) true true dl e) ∨ (niC μ1 t = false ∧ r = some (.int 0) ∧ μ' = z_ui μ1 50 0 0)) := fun μ1 qM t ht4 ht => gm_nine d (by omega) μ1 t ht4 ((qM 50 45 (Or.inr ⟨rfl, by decide, by decide⟩)).1.trans ht) dl e ((qM 50 40 (Or.inr ⟨rfl, by decide, by decide⟩)).1.trans hdl) hdl4 he
  have no : decide (μ.1 0 7 = 1) = false → GO d mi_X6_nine mi_X7_nine [.ref 0] [.ref 50] μ := fun hp => by
    obtain ⟨t, ht4, ht⟩ := turn_nI hA
    have hp2 : decide (μ.1 50 44 = 1) = false := by rw [← (rg_ph hR).1]; exact hp
    refine go_no hR kx km (gx_nineP d (by omega) μ hp) (z_C_mono (mn μ (eqM_rf _) t ht4 ht) (fun r μ' z => ?_))
    rcases z with ⟨z1, -, -⟩ | ⟨-, z2, z3⟩
    · unfold niC at z1; rw [hp2] at z1; cases z1
    · exact ⟨z2, z3⟩
  rcases hR.2 with ⟨p1, p2, -, -, -⟩ | ⟨p, t, c, P⟩
  · exact no (by rw [p1]; decide)
  · by_cases hp : p = 1
    · subst hp
      have R := hR.1
      have ht4 := P.t4
      have hp1 : μ.1 50 44 = 1 := P.pm
      have G := hJ.1.2.2 (by rw [hp1]; decide)
      obtain ⟨w, aw, q, sL, lL, H⟩ := hf_of R P hA G ht4
      have cc := gc_nine d (by omega) μ t ht4 P.tx dl e (R.dl.trans hdl) hdl4 he _ (fun d hd => gc_kinds d hd μ t ht4 aw H.2.2.1) _ (fun d hd => bc_x9 d hd μ _)
      have eq := ni_eq R P H
      rw [P.px, show decide (nI 1 = 1) = true from by decide] at cc
      simp only [cond_true] at cc
      have eN : ∀ μ1, EqM μ μ1 → niC μ1 t = niC μ t := fun μ1 qM => by
        unfold niC
        rw [(qM 50 44 (Or.inr ⟨rfl, by decide, by decide⟩)).1, (qM 50 57 (Or.inr ⟨rfl, by decide, by decide⟩)).1, (qM 50 56 (Or.inr ⟨rfl, by decide, by decide⟩)).1, (qM 66 t (Or.inl ⟨by decide, by decide⟩)).1, show niF μ1 t = niF μ t from funext fun k => by unfold niF; rw [(qM 60 _ (Or.inl ⟨by decide, by decide⟩)).1]]
      have tr : ∀ {α : Type} (a b c : Bool) (y n : α), (bif a then (bif b then (bif c then y else n) else n) else n) = (bif (bif a then (bif b then c else false) else false) then y else n) := fun a b c y n => by cases a <;> cases b <;> cases c <;> rfl
      rw [tr, tr, eq] at cc
      cases hN : niC μ t with
      | true =>
        rw [hN] at cc
        simp only [cond_true, cond_false] at cc
        refine go_yes (X := eHB μ true false (xBk μ) dl e (rcM μ)) (y := 1) kx km (z_C_mono cc (fun r μ' z => ⟨z.1, by rw [z.2]; exact eqX_rf _⟩)) (fun μ1 h1 qM => z_C_mono (mn μ1 qM t ht4 P.tm) (fun r μ' z => ?_))
        rcases z with ⟨-, z2, z3⟩ | ⟨z1, -, -⟩
        · refine ⟨z2, ?_⟩
          rw [z3]
          have eM : EqM μ (z_ui μ1 50 0 0) := eqM_tr qM (t0_EqM μ1 0)
          exact rg_ends (R.cg (eqX_rf _) eM) (P.cg (eqX_rf _) eM).fo ((P.cg (eqX_rf _) eM).tx.trans (P.cg (eqX_rf _) eM).tm.symm) ((eM 50 40 (Or.inr ⟨rfl, by decide, by decide⟩)).1.trans hdl) hdl4 he true false
        · exfalso; rw [eN μ1 qM, hN] at z1; cases z1
      | false =>
        rw [hN] at cc
        simp only [cond_true, cond_false] at cc
        refine go_no hR kx km cc (z_C_mono (mn μ (eqM_rf _) t ht4 P.tm) (fun r μ' z => ?_))
        rcases z with ⟨z1, -, -⟩ | ⟨-, z2, z3⟩
        · rw [hN] at z1; cases z1
        · exact ⟨z2, z3⟩
    · exact no (by
        rw [P.px]
        rcases P.p3 with q | q | q
        · exact absurd q hp
        · rw [q]; decide
        · rw [q]; decide)
